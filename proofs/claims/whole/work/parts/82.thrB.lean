theorem i_lt2 {x y : Int32} (h : ¬ x ≤ y) : y < x := by
  rw [Int32.le_iff_toInt_le] at h
  rw [Int32.lt_iff_toInt_lt]
  omega
theorem i_le2 {x y : Int32} (h : ¬ y < x) : x ≤ y := by
  rw [Int32.lt_iff_toInt_lt] at h
  rw [Int32.le_iff_toInt_le]
  omega
theorem i_nle2 {x y : Int32} (h : y < x) : ¬ x ≤ y := by
  rw [Int32.lt_iff_toInt_lt] at h
  rw [Int32.le_iff_toInt_le]
  omega
set_option maxRecDepth 100000 in
set_option maxHeartbeats 4000000 in
theorem r_X12_person_1 (l : Launch) (E : EE) {S : St} {th : Int32} {g : Gh} (hI : Inv S) {p9 : Int32} (hm : ¬ p9 = -1) (hbad : p9 < 0 ∨ nI S.np ≤ p9) : WM l E yX12_person cX12_person 2 (some .int) (wD 8 0 0) [.ref (g.ad 1 0), .int (p9)] (RB E S th g) (ow g) (fun _ v H => RB E (S) (1) g H ∧ v = some (.int 0)) := by
  refine wm_of rfl (Nat.le_of_ble_eq_true rfl) (fun p e s m below meth c ls hx hb hr hml (hown : s.vm.findClass RX12 = some m.cls) hC hlocks hR hl hini => ?_)
  have hS : va_S (fun q => ow g q ∨ s.heap.size ≤ q) s.heap s.heap [] := va_S.rf
  have hl : lv_has ls 2 [(0, .ref (g.ad 1 0)), (1, .int (p9))] := hl
  refine lv_aload_n hx hb dX12_person_0 rfl (lv_at hl 0 rfl) ?_
  refine lv_iload_n hx hb dX12_person_1 rfl (lv_at hl 1 rfl) ?_
  refine lv_iconst (v := (-1)) hx hb dX12_person_2 (by decide) ?_
  refine lv_icmp_eq (tgt := 18) hx hb dX12_person_3 (by decide) (fun c_3 => ?_) (fun c_3 => ?_)
  · exact absurd c_3 hm
  ·
    refine lv_aload_n hx hb dX12_person_6 rfl (lv_at hl 0 rfl) ?_
    refine lv_iload_n hx hb dX12_person_7 rfl (lv_at hl 1 rfl) ?_
    refine rc_V (As := [.int (p9)]) hx hb hml hown hC hl (k_isNo_1 l E hI hbad) (rec_of hC (RB.x hR) rfl) (zm_X12_44 hC.1) kv_X12_isNo hR rfl rfl (rwD_le (by decide) (by decide)) ⟨rfl, rfl⟩ (Nat.le_of_ble_eq_true rfl) ⟨Nat.zero_le _, Nat.zero_le _⟩ dX12_person_8 ?_
    refine lv_if_eq (tgt := 18) hx hb dX12_person_11 (by decide) (fun c_11 => ?_) (fun c_11 => ?_)
    · exact absurd c_11 (by decide)
    ·
      refine lv_iconst (v := 1) hx hb dX12_person_14 (by decide) ?_
      refine lv_goto (tgt := 19) hx hb dX12_person_15 (by decide) ?_
      refine lv_iconst (v := 1) hx hb dX12_person_19 (by decide) ?_
      refine wcw_V (As := [.int (1), .int (1)]) hx hb hml hown hC hl (c_X12_start1 l E hI (w9 := 1) (by decide)) (rec_of hC (RB.x hR) rfl) (zm_X12_48 hC.1) kv_X12_start hR hS (fun q h => h.imp id (Nat.le_trans hS.1)) rfl rfl (wD_le (by decide) (by decide)) (Nat.le_of_ble_eq_true rfl) ⟨Nat.le_of_ble_eq_true rfl, Nat.le_of_ble_eq_true rfl⟩ dX12_person_20 (fun H1 locs1 hR hz hq hS => ?_)
      refine lv_if_ne (tgt := 54) hx hb dX12_person_23 (by decide) (fun c_23 => ?_) (fun c_23 => ?_)
      ·
        have c_23 : ¬ (1 : Int32) = (0) := c_23
        refine lv_iconst (v := 0) hx hb dX12_person_54 (by decide) ?_
        exact wr_i hx hb hr hlocks hS ⟨hR, rfl⟩ (Nat.le_of_ble_eq_true rfl) (Nat.le_of_ble_eq_true rfl) dX12_person_55
      · exact absurd c_23 (by decide)
set_option maxRecDepth 100000 in
set_option maxHeartbeats 4000000 in
theorem r_X12_person_2 (l : Launch) (E : EE) {S : St} {th : Int32} {g : Gh} (hI : Inv S) {p9 : Nat} (hp9 : p9 < S.np) (hfull : 8 ≤ S.np) : WM l E yX12_person cX12_person 2 (some .int) (wD 8 0 0) [.ref (g.ad 1 0), .int (nI p9)] (RB E S th g) (ow g) (fun _ v H => RB E (S) (2) g H ∧ v = some (.int 0)) := by
  refine wm_of rfl (Nat.le_of_ble_eq_true rfl) (fun p e s m below meth c ls hx hb hr hml (hown : s.vm.findClass RX12 = some m.cls) hC hlocks hR hl hini => ?_)
  have hS : va_S (fun q => ow g q ∨ s.heap.size ≤ q) s.heap s.heap [] := va_S.rf
  have hl : lv_has ls 2 [(0, .ref (g.ad 1 0)), (1, .int (nI p9))] := hl
  refine lv_aload_n hx hb dX12_person_0 rfl (lv_at hl 0 rfl) ?_
  refine lv_iload_n hx hb dX12_person_1 rfl (lv_at hl 1 rfl) ?_
  refine lv_iconst (v := (-1)) hx hb dX12_person_2 (by decide) ?_
  refine lv_icmp_eq (tgt := 18) hx hb dX12_person_3 (by decide) (fun c_3 => ?_) (fun c_3 => ?_)
  · exact absurd c_3 (nI_neg1 (Nat.lt_trans hp9 hI.np31))
  ·
    refine lv_aload_n hx hb dX12_person_6 rfl (lv_at hl 0 rfl) ?_
    refine lv_iload_n hx hb dX12_person_7 rfl (lv_at hl 1 rfl) ?_
    refine rc_V (As := [.int (nI p9)]) hx hb hml hown hC hl (k_isNo_0 l E hI hp9) (rec_of hC (RB.x hR) rfl) (zm_X12_44 hC.1) kv_X12_isNo hR rfl rfl (rwD_le (by decide) (by decide)) ⟨rfl, rfl⟩ (Nat.le_of_ble_eq_true rfl) ⟨Nat.zero_le _, Nat.zero_le _⟩ dX12_person_8 ?_
    refine lv_if_eq (tgt := 18) hx hb dX12_person_11 (by decide) (fun c_11 => ?_) (fun c_11 => ?_)
    ·
      refine lv_iconst (v := 0) hx hb dX12_person_18 (by decide) ?_
      refine lv_iconst (v := 1) hx hb dX12_person_19 (by decide) ?_
      refine wcw_V (As := [.int (0), .int (1)]) hx hb hml hown hC hl (c_X12_start0 l E hI (w9 := 1)) (rec_of hC (RB.x hR) rfl) (zm_X12_48 hC.1) kv_X12_start hR hS (fun q h => h.imp id (Nat.le_trans hS.1)) rfl rfl (wD_le (by decide) (by decide)) (Nat.le_of_ble_eq_true rfl) ⟨Nat.le_of_ble_eq_true rfl, Nat.le_of_ble_eq_true rfl⟩ dX12_person_20 (fun H1 locs1 hR hz hq hS => ?_)
      refine lv_if_ne (tgt := 54) hx hb dX12_person_23 (by decide) (fun c_23 => ?_) (fun c_23 => ?_)
      · exact absurd (by decide) c_23
      ·
        have c_23 : (0 : Int32) = (0) := c_23
        refine lv_aload_n hx hb dX12_person_26 rfl (lv_at hl 0 rfl) ?_
        refine lv_aload_n hx hb dX12_person_27 rfl (lv_at hl 0 rfl) ?_
        refine gf_X12_1 hx hb hown hC (RB.x hR) (zf_X12_10 hC.1) dX12_person_28 ?_
        refine gf_X8_0 hx hb hown hC (RB.dk hR) (zf_X12_24 hC.1) dX12_person_31 ?_
        refine rc_V (As := []) hx hb hml hown hC hl (c_size l E _ _ _ _) (rec_of hC (RB.ls hR (by decide : 0 < 4)) rfl) (zm_X12_28 hC.1) kv_Jx4a65c_size_8abf5 (RB.ls hR (by decide : 0 < 4)) rfl rfl (rwD_le (by decide) (by decide)) ⟨rfl, rfl⟩ (Nat.le_of_ble_eq_true rfl) ⟨Nat.zero_le _, Nat.zero_le _⟩ dX12_person_34 ?_
        refine lv_bipush (v := 8) hx hb dX12_person_37 (by decide) ?_
        refine lv_icmp_ne (tgt := 46) hx hb dX12_person_39 (by decide) (fun c_39 => ?_) (fun c_39 => ?_)
        · exact absurd (show nI S.np = 8 by rw [show S.np = 8 by have := hI.1; omega]; rfl) c_39
        ·
          have c_39 : (nI (S.np) : Int32) = (8) := c_39
          refine lv_iconst (v := 1) hx hb dX12_person_42 (by decide) ?_
          refine lv_goto (tgt := 47) hx hb dX12_person_43 (by decide) ?_
          refine lv_iconst (v := 2) hx hb dX12_person_47 (by decide) ?_
          refine wcw_V (As := [.int (1), .int (2)]) hx hb hml hown hC hl (c_X12_refuse1 l E hI (w9 := 2) (by decide)) (rec_of hC (RB.x hR) rfl) (zm_X12_20 hC.1) kv_X12_refuse hR hS (fun q h => h.imp id (Nat.le_trans hS.1)) rfl rfl (wD_le (by decide) (by decide)) (Nat.le_of_ble_eq_true rfl) ⟨Nat.le_of_ble_eq_true rfl, Nat.le_of_ble_eq_true rfl⟩ dX12_person_48 (fun H1 locs1 hR hz hq hS => ?_)
          refine lv_if_eq (tgt := 56) hx hb dX12_person_51 (by decide) (fun c_51 => ?_) (fun c_51 => ?_)
          · exact absurd c_51 (by decide)
          ·
            have c_51 : ¬ (1 : Int32) = (0) := c_51
            refine lv_iconst (v := 0) hx hb dX12_person_54 (by decide) ?_
            exact wr_i hx hb hr hlocks hS ⟨hR, rfl⟩ (Nat.le_of_ble_eq_true rfl) (Nat.le_of_ble_eq_true rfl) dX12_person_55
    · exact absurd (by decide) c_11
set_option maxRecDepth 100000 in
set_option maxHeartbeats 4000000 in
theorem r_X12_person_3 (l : Launch) (E : EE) {S : St} {th : Int32} {g : Gh} (hI : Inv S) (hfull : 8 ≤ S.np) : WM l E yX12_person cX12_person 2 (some .int) (wD 8 0 0) [.ref (g.ad 1 0), .int ((-1))] (RB E S th g) (ow g) (fun _ v H => RB E (S) (2) g H ∧ v = some (.int 0)) := by
  refine wm_of rfl (Nat.le_of_ble_eq_true rfl) (fun p e s m below meth c ls hx hb hr hml (hown : s.vm.findClass RX12 = some m.cls) hC hlocks hR hl hini => ?_)
  have hS : va_S (fun q => ow g q ∨ s.heap.size ≤ q) s.heap s.heap [] := va_S.rf
  have hl : lv_has ls 2 [(0, .ref (g.ad 1 0)), (1, .int ((-1)))] := hl
  refine lv_aload_n hx hb dX12_person_0 rfl (lv_at hl 0 rfl) ?_
  refine lv_iload_n hx hb dX12_person_1 rfl (lv_at hl 1 rfl) ?_
  refine lv_iconst (v := (-1)) hx hb dX12_person_2 (by decide) ?_
  refine lv_icmp_eq (tgt := 18) hx hb dX12_person_3 (by decide) (fun c_3 => ?_) (fun c_3 => ?_)
  ·
    refine lv_iconst (v := 0) hx hb dX12_person_18 (by decide) ?_
    refine lv_iconst (v := 1) hx hb dX12_person_19 (by decide) ?_
    refine wcw_V (As := [.int (0), .int (1)]) hx hb hml hown hC hl (c_X12_start0 l E hI (w9 := 1)) (rec_of hC (RB.x hR) rfl) (zm_X12_48 hC.1) kv_X12_start hR hS (fun q h => h.imp id (Nat.le_trans hS.1)) rfl rfl (wD_le (by decide) (by decide)) (Nat.le_of_ble_eq_true rfl) ⟨Nat.le_of_ble_eq_true rfl, Nat.le_of_ble_eq_true rfl⟩ dX12_person_20 (fun H1 locs1 hR hz hq hS => ?_)
    refine lv_if_ne (tgt := 54) hx hb dX12_person_23 (by decide) (fun c_23 => ?_) (fun c_23 => ?_)
    · exact absurd (by decide) c_23
    ·
      have c_23 : (0 : Int32) = (0) := c_23
      refine lv_aload_n hx hb dX12_person_26 rfl (lv_at hl 0 rfl) ?_
      refine lv_aload_n hx hb dX12_person_27 rfl (lv_at hl 0 rfl) ?_
      refine gf_X12_1 hx hb hown hC (RB.x hR) (zf_X12_10 hC.1) dX12_person_28 ?_
      refine gf_X8_0 hx hb hown hC (RB.dk hR) (zf_X12_24 hC.1) dX12_person_31 ?_
      refine rc_V (As := []) hx hb hml hown hC hl (c_size l E _ _ _ _) (rec_of hC (RB.ls hR (by decide : 0 < 4)) rfl) (zm_X12_28 hC.1) kv_Jx4a65c_size_8abf5 (RB.ls hR (by decide : 0 < 4)) rfl rfl (rwD_le (by decide) (by decide)) ⟨rfl, rfl⟩ (Nat.le_of_ble_eq_true rfl) ⟨Nat.zero_le _, Nat.zero_le _⟩ dX12_person_34 ?_
      refine lv_bipush (v := 8) hx hb dX12_person_37 (by decide) ?_
      refine lv_icmp_ne (tgt := 46) hx hb dX12_person_39 (by decide) (fun c_39 => ?_) (fun c_39 => ?_)
      · exact absurd (show nI S.np = 8 by rw [show S.np = 8 by have := hI.1; omega]; rfl) c_39
      ·
        have c_39 : (nI (S.np) : Int32) = (8) := c_39
        refine lv_iconst (v := 1) hx hb dX12_person_42 (by decide) ?_
        refine lv_goto (tgt := 47) hx hb dX12_person_43 (by decide) ?_
        refine lv_iconst (v := 2) hx hb dX12_person_47 (by decide) ?_
        refine wcw_V (As := [.int (1), .int (2)]) hx hb hml hown hC hl (c_X12_refuse1 l E hI (w9 := 2) (by decide)) (rec_of hC (RB.x hR) rfl) (zm_X12_20 hC.1) kv_X12_refuse hR hS (fun q h => h.imp id (Nat.le_trans hS.1)) rfl rfl (wD_le (by decide) (by decide)) (Nat.le_of_ble_eq_true rfl) ⟨Nat.le_of_ble_eq_true rfl, Nat.le_of_ble_eq_true rfl⟩ dX12_person_48 (fun H1 locs1 hR hz hq hS => ?_)
        refine lv_if_eq (tgt := 56) hx hb dX12_person_51 (by decide) (fun c_51 => ?_) (fun c_51 => ?_)
        · exact absurd c_51 (by decide)
        ·
          have c_51 : ¬ (1 : Int32) = (0) := c_51
          refine lv_iconst (v := 0) hx hb dX12_person_54 (by decide) ?_
          exact wr_i hx hb hr hlocks hS ⟨hR, rfl⟩ (Nat.le_of_ble_eq_true rfl) (Nat.le_of_ble_eq_true rfl) dX12_person_55
  · exact absurd (by decide) c_3
set_option maxRecDepth 100000 in
set_option maxHeartbeats 4000000 in
theorem r_X12_limit_1 (l : Launch) (E : EE) {S : St} {th : Int32} {g : Gh} (hI : Inv S) {p9 : Int32} (hbad : p9 < 0 ∨ nI S.np ≤ p9) {k9 : Int32} {v9 : Int32} : WM l E yX12_limit cX12_limit 5 (some .int) (wD 8 0 0) [.ref (g.ad 1 0), .int (p9), .int (k9), .int (v9)] (RB E S th g) (ow g) (fun _ v H => RB E (S) (1) g H ∧ v = some (.int 0)) := by
  refine wm_of rfl (Nat.le_of_ble_eq_true rfl) (fun p e s m below meth c ls hx hb hr hml (hown : s.vm.findClass RX12 = some m.cls) hC hlocks hR hl hini => ?_)
  have hS : va_S (fun q => ow g q ∨ s.heap.size ≤ q) s.heap s.heap [] := va_S.rf
  have hl : lv_has ls 5 [(0, .ref (g.ad 1 0)), (1, .int (p9)), (2, .int (k9)), (3, .int (v9))] := hl
  refine lv_aload_n hx hb dX12_limit_0 rfl (lv_at hl 0 rfl) ?_
  refine lv_aload_n hx hb dX12_limit_1 rfl (lv_at hl 0 rfl) ?_
  refine lv_iload_n hx hb dX12_limit_2 rfl (lv_at hl 1 rfl) ?_
  refine rc_V (As := [.int (p9)]) hx hb hml hown hC hl (k_isNo_1 l E hI hbad) (rec_of hC (RB.x hR) rfl) (zm_X12_44 hC.1) kv_X12_isNo hR rfl rfl (rwD_le (by decide) (by decide)) ⟨rfl, rfl⟩ (Nat.le_of_ble_eq_true rfl) ⟨Nat.zero_le _, Nat.zero_le _⟩ dX12_limit_3 ?_
  refine lv_if_ne (tgt := 16) hx hb dX12_limit_6 (by decide) (fun c_6 => ?_) (fun c_6 => ?_)
  ·
    refine lv_iconst (v := 1) hx hb dX12_limit_16 (by decide) ?_
    refine lv_goto (tgt := 21) hx hb dX12_limit_17 (by decide) ?_
    refine lv_iconst (v := 1) hx hb dX12_limit_21 (by decide) ?_
    refine wcw_V (As := [.int (1), .int (1)]) hx hb hml hown hC hl (c_X12_start1 l E hI (w9 := 1) (by decide)) (rec_of hC (RB.x hR) rfl) (zm_X12_48 hC.1) kv_X12_start hR hS (fun q h => h.imp id (Nat.le_trans hS.1)) rfl rfl (wD_le (by decide) (by decide)) (Nat.le_of_ble_eq_true rfl) ⟨Nat.le_of_ble_eq_true rfl, Nat.le_of_ble_eq_true rfl⟩ dX12_limit_22 (fun H1 locs1 hR hz hq hS => ?_)
    refine lv_if_ne (tgt := 52) hx hb dX12_limit_25 (by decide) (fun c_25 => ?_) (fun c_25 => ?_)
    ·
      have c_25 : ¬ (1 : Int32) = (0) := c_25
      refine lv_iconst (v := 0) hx hb dX12_limit_52 (by decide) ?_
      exact wr_i hx hb hr hlocks hS ⟨hR, rfl⟩ (Nat.le_of_ble_eq_true rfl) (Nat.le_of_ble_eq_true rfl) dX12_limit_53
    · exact absurd c_25 (by decide)
  · exact absurd c_6 (by decide)
set_option maxRecDepth 100000 in
set_option maxHeartbeats 4000000 in
theorem r_X12_limit_2 (l : Launch) (E : EE) {S : St} {th : Int32} {g : Gh} (hI : Inv S) {p9 : Nat} (hp9 : p9 < S.np) {k9 : Int32} (hbad : k9 < 0 ∨ 4 ≤ k9) {v9 : Int32} : WM l E yX12_limit cX12_limit 5 (some .int) (wD 8 0 0) [.ref (g.ad 1 0), .int (nI p9), .int (k9), .int (v9)] (RB E S th g) (ow g) (fun _ v H => RB E (S) (1) g H ∧ v = some (.int 0)) := by
  refine wm_of rfl (Nat.le_of_ble_eq_true rfl) (fun p e s m below meth c ls hx hb hr hml (hown : s.vm.findClass RX12 = some m.cls) hC hlocks hR hl hini => ?_)
  have hS : va_S (fun q => ow g q ∨ s.heap.size ≤ q) s.heap s.heap [] := va_S.rf
  have hl : lv_has ls 5 [(0, .ref (g.ad 1 0)), (1, .int (nI p9)), (2, .int (k9)), (3, .int (v9))] := hl
  refine lv_aload_n hx hb dX12_limit_0 rfl (lv_at hl 0 rfl) ?_
  refine lv_aload_n hx hb dX12_limit_1 rfl (lv_at hl 0 rfl) ?_
  refine lv_iload_n hx hb dX12_limit_2 rfl (lv_at hl 1 rfl) ?_
  refine rc_V (As := [.int (nI p9)]) hx hb hml hown hC hl (k_isNo_0 l E hI hp9) (rec_of hC (RB.x hR) rfl) (zm_X12_44 hC.1) kv_X12_isNo hR rfl rfl (rwD_le (by decide) (by decide)) ⟨rfl, rfl⟩ (Nat.le_of_ble_eq_true rfl) ⟨Nat.zero_le _, Nat.zero_le _⟩ dX12_limit_3 ?_
  refine lv_if_ne (tgt := 16) hx hb dX12_limit_6 (by decide) (fun c_6 => ?_) (fun c_6 => ?_)
  · exact absurd (by decide) c_6
  ·
    refine lv_iload_n hx hb dX12_limit_9 rfl (lv_at hl 2 rfl) ?_
    refine rc_S (As := [.int (k9)]) hx hb hml hown hC hl (k_isNoKind_1 l E hbad) (zm_X12_62 hC.1) kv_X12_isNoKind True.intro rfl rfl (rwD_le (by decide) (by decide)) ⟨rfl, rfl⟩ (Nat.le_of_ble_eq_true rfl) ⟨Nat.zero_le _, Nat.zero_le _⟩ dX12_limit_10 ?_
    refine lv_if_eq (tgt := 20) hx hb dX12_limit_13 (by decide) (fun c_13 => ?_) (fun c_13 => ?_)
    · exact absurd c_13 (by decide)
    ·
      refine lv_iconst (v := 1) hx hb dX12_limit_16 (by decide) ?_
      refine lv_goto (tgt := 21) hx hb dX12_limit_17 (by decide) ?_
      refine lv_iconst (v := 1) hx hb dX12_limit_21 (by decide) ?_
      refine wcw_V (As := [.int (1), .int (1)]) hx hb hml hown hC hl (c_X12_start1 l E hI (w9 := 1) (by decide)) (rec_of hC (RB.x hR) rfl) (zm_X12_48 hC.1) kv_X12_start hR hS (fun q h => h.imp id (Nat.le_trans hS.1)) rfl rfl (wD_le (by decide) (by decide)) (Nat.le_of_ble_eq_true rfl) ⟨Nat.le_of_ble_eq_true rfl, Nat.le_of_ble_eq_true rfl⟩ dX12_limit_22 (fun H1 locs1 hR hz hq hS => ?_)
      refine lv_if_ne (tgt := 52) hx hb dX12_limit_25 (by decide) (fun c_25 => ?_) (fun c_25 => ?_)
      ·
        have c_25 : ¬ (1 : Int32) = (0) := c_25
        refine lv_iconst (v := 0) hx hb dX12_limit_52 (by decide) ?_
        exact wr_i hx hb hr hlocks hS ⟨hR, rfl⟩ (Nat.le_of_ble_eq_true rfl) (Nat.le_of_ble_eq_true rfl) dX12_limit_53
      · exact absurd c_25 (by decide)
set_option maxRecDepth 100000 in
set_option maxHeartbeats 4000000 in
theorem r_X12_limit_3 (l : Launch) (E : EE) {S : St} {th : Int32} {g : Gh} (hI : Inv S) {p9 : Nat} (hp9 : p9 < S.np) {k9 : Nat} (hk9 : k9 < 4) {v9 : Int32} (hbad : v9 < 0 ∨ 9999 < v9) : WM l E yX12_limit cX12_limit 5 (some .int) (wD 8 0 0) [.ref (g.ad 1 0), .int (nI p9), .int (nI k9), .int (v9)] (RB E S th g) (ow g) (fun _ v H => RB E (S) (2) g H ∧ v = some (.int 0)) := by
  refine wm_of rfl (Nat.le_of_ble_eq_true rfl) (fun p e s m below meth c ls hx hb hr hml (hown : s.vm.findClass RX12 = some m.cls) hC hlocks hR hl hini => ?_)
  have hS : va_S (fun q => ow g q ∨ s.heap.size ≤ q) s.heap s.heap [] := va_S.rf
  have hl : lv_has ls 5 [(0, .ref (g.ad 1 0)), (1, .int (nI p9)), (2, .int (nI k9)), (3, .int (v9))] := hl
  refine lv_aload_n hx hb dX12_limit_0 rfl (lv_at hl 0 rfl) ?_
  refine lv_aload_n hx hb dX12_limit_1 rfl (lv_at hl 0 rfl) ?_
  refine lv_iload_n hx hb dX12_limit_2 rfl (lv_at hl 1 rfl) ?_
  refine rc_V (As := [.int (nI p9)]) hx hb hml hown hC hl (k_isNo_0 l E hI hp9) (rec_of hC (RB.x hR) rfl) (zm_X12_44 hC.1) kv_X12_isNo hR rfl rfl (rwD_le (by decide) (by decide)) ⟨rfl, rfl⟩ (Nat.le_of_ble_eq_true rfl) ⟨Nat.zero_le _, Nat.zero_le _⟩ dX12_limit_3 ?_
  refine lv_if_ne (tgt := 16) hx hb dX12_limit_6 (by decide) (fun c_6 => ?_) (fun c_6 => ?_)
  · exact absurd (by decide) c_6
  ·
    refine lv_iload_n hx hb dX12_limit_9 rfl (lv_at hl 2 rfl) ?_
    refine rc_S (As := [.int (nI k9)]) hx hb hml hown hC hl (k_isNoKind_0 l E hk9) (zm_X12_62 hC.1) kv_X12_isNoKind True.intro rfl rfl (rwD_le (by decide) (by decide)) ⟨rfl, rfl⟩ (Nat.le_of_ble_eq_true rfl) ⟨Nat.zero_le _, Nat.zero_le _⟩ dX12_limit_10 ?_
    refine lv_if_eq (tgt := 20) hx hb dX12_limit_13 (by decide) (fun c_13 => ?_) (fun c_13 => ?_)
    ·
      refine lv_iconst (v := 0) hx hb dX12_limit_20 (by decide) ?_
      refine lv_iconst (v := 1) hx hb dX12_limit_21 (by decide) ?_
      refine wcw_V (As := [.int (0), .int (1)]) hx hb hml hown hC hl (c_X12_start0 l E hI (w9 := 1)) (rec_of hC (RB.x hR) rfl) (zm_X12_48 hC.1) kv_X12_start hR hS (fun q h => h.imp id (Nat.le_trans hS.1)) rfl rfl (wD_le (by decide) (by decide)) (Nat.le_of_ble_eq_true rfl) ⟨Nat.le_of_ble_eq_true rfl, Nat.le_of_ble_eq_true rfl⟩ dX12_limit_22 (fun H1 locs1 hR hz hq hS => ?_)
      refine lv_if_ne (tgt := 52) hx hb dX12_limit_25 (by decide) (fun c_25 => ?_) (fun c_25 => ?_)
      · exact absurd (by decide) c_25
      ·
        have c_25 : (0 : Int32) = (0) := c_25
        refine lv_aload_n hx hb dX12_limit_28 rfl (lv_at hl 0 rfl) ?_
        refine lv_iload_n hx hb dX12_limit_29 rfl (lv_at hl 3 rfl) ?_
        refine lv_iconst (v := 0) hx hb dX12_limit_30 (by decide) ?_
        refine lv_sipush (v := 9999) hx hb dX12_limit_31 (by decide) ?_
        refine rc_S (As := [.int (v9), .int (0), .int (9999)]) hx hb hml hown hC hl (k_isIn_0 l E hbad) (zm_X12_34 hC.1) kv_X12_isIn True.intro rfl rfl (rwD_le (by decide) (by decide)) ⟨rfl, rfl⟩ (Nat.le_of_ble_eq_true rfl) ⟨Nat.zero_le _, Nat.zero_le _⟩ dX12_limit_34 ?_
        refine lv_if_ne (tgt := 44) hx hb dX12_limit_37 (by decide) (fun c_37 => ?_) (fun c_37 => ?_)
        · exact absurd (by decide) c_37
        ·
          have c_37 : (0 : Int32) = (0) := c_37
          refine lv_iconst (v := 1) hx hb dX12_limit_40 (by decide) ?_
          refine lv_goto (tgt := 45) hx hb dX12_limit_41 (by decide) ?_
          refine lv_iconst (v := 2) hx hb dX12_limit_45 (by decide) ?_
          refine wcw_V (As := [.int (1), .int (2)]) hx hb hml hown hC hl (c_X12_refuse1 l E hI (w9 := 2) (by decide)) (rec_of hC (RB.x hR) rfl) (zm_X12_20 hC.1) kv_X12_refuse hR hS (fun q h => h.imp id (Nat.le_trans hS.1)) rfl rfl (wD_le (by decide) (by decide)) (Nat.le_of_ble_eq_true rfl) ⟨Nat.le_of_ble_eq_true rfl, Nat.le_of_ble_eq_true rfl⟩ dX12_limit_46 (fun H1 locs1 hR hz hq hS => ?_)
          refine lv_if_eq (tgt := 54) hx hb dX12_limit_49 (by decide) (fun c_49 => ?_) (fun c_49 => ?_)
          · exact absurd c_49 (by decide)
          ·
            have c_49 : ¬ (1 : Int32) = (0) := c_49
            refine lv_iconst (v := 0) hx hb dX12_limit_52 (by decide) ?_
            exact wr_i hx hb hr hlocks hS ⟨hR, rfl⟩ (Nat.le_of_ble_eq_true rfl) (Nat.le_of_ble_eq_true rfl) dX12_limit_53
    · exact absurd (by decide) c_13
set_option maxRecDepth 100000 in
set_option maxHeartbeats 4000000 in
theorem r_X12_away_1 (l : Launch) (E : EE) {S : St} {th : Int32} {g : Gh} (hI : Inv S) {p9 : Int32} (hbad : p9 < 0 ∨ nI S.np ≤ p9) {v9 : Int32} {o9 : Int32} : WM l E yX12_away cX12_away 5 (some .boolean) (wD 8 0 0) [.ref (g.ad 1 0), .int (p9), .int (v9), .int (o9)] (RB E S th g) (ow g) (fun _ v H => RB E (S) (1) g H ∧ v = some (.int 0)) := by
  refine wm_of rfl (Nat.le_of_ble_eq_true rfl) (fun p e s m below meth c ls hx hb hr hml (hown : s.vm.findClass RX12 = some m.cls) hC hlocks hR hl hini => ?_)
  have hS : va_S (fun q => ow g q ∨ s.heap.size ≤ q) s.heap s.heap [] := va_S.rf
  have hl : lv_has ls 5 [(0, .ref (g.ad 1 0)), (1, .int (p9)), (2, .int (v9)), (3, .int (o9))] := hl
  refine lv_aload_n hx hb dX12_away_0 rfl (lv_at hl 0 rfl) ?_
  refine lv_aload_n hx hb dX12_away_1 rfl (lv_at hl 0 rfl) ?_
  refine lv_iload_n hx hb dX12_away_2 rfl (lv_at hl 1 rfl) ?_
  refine rc_V (As := [.int (p9)]) hx hb hml hown hC hl (k_isNo_1 l E hI hbad) (rec_of hC (RB.x hR) rfl) (zm_X12_44 hC.1) kv_X12_isNo hR rfl rfl (rwD_le (by decide) (by decide)) ⟨rfl, rfl⟩ (Nat.le_of_ble_eq_true rfl) ⟨Nat.zero_le _, Nat.zero_le _⟩ dX12_away_3 ?_
  refine lv_if_ne (tgt := 17) hx hb dX12_away_6 (by decide) (fun c_6 => ?_) (fun c_6 => ?_)
  ·
    refine lv_iconst (v := 1) hx hb dX12_away_17 (by decide) ?_
    refine lv_goto (tgt := 22) hx hb dX12_away_18 (by decide) ?_
    refine lv_iconst (v := 1) hx hb dX12_away_22 (by decide) ?_
    refine wcw_V (As := [.int (1), .int (1)]) hx hb hml hown hC hl (c_X12_start1 l E hI (w9 := 1) (by decide)) (rec_of hC (RB.x hR) rfl) (zm_X12_48 hC.1) kv_X12_start hR hS (fun q h => h.imp id (Nat.le_trans hS.1)) rfl rfl (wD_le (by decide) (by decide)) (Nat.le_of_ble_eq_true rfl) ⟨Nat.le_of_ble_eq_true rfl, Nat.le_of_ble_eq_true rfl⟩ dX12_away_23 (fun H1 locs1 hR hz hq hS => ?_)
    refine lv_if_ne (tgt := 54) hx hb dX12_away_26 (by decide) (fun c_26 => ?_) (fun c_26 => ?_)
    ·
      have c_26 : ¬ (1 : Int32) = (0) := c_26
      refine lv_iconst (v := 0) hx hb dX12_away_54 (by decide) ?_
      exact wr_z hx hb hr hlocks (by decide) hS ⟨hR, rfl⟩ (Nat.le_of_ble_eq_true rfl) (Nat.le_of_ble_eq_true rfl) dX12_away_55
    · exact absurd c_26 (by decide)
  · exact absurd c_6 (by decide)
set_option maxRecDepth 100000 in
set_option maxHeartbeats 4000000 in
theorem r_X12_away_2 (l : Launch) (E : EE) {S : St} {th : Int32} {g : Gh} (hI : Inv S) {p9 : Nat} (hp9 : p9 < S.np) {v9 : Int32} {o9 : Int32} (hbad : o9 < 0 ∨ nI S.np ≤ o9) : WM l E yX12_away cX12_away 5 (some .boolean) (wD 8 0 0) [.ref (g.ad 1 0), .int (nI p9), .int (v9), .int (o9)] (RB E S th g) (ow g) (fun _ v H => RB E (S) (1) g H ∧ v = some (.int 0)) := by
  refine wm_of rfl (Nat.le_of_ble_eq_true rfl) (fun p e s m below meth c ls hx hb hr hml (hown : s.vm.findClass RX12 = some m.cls) hC hlocks hR hl hini => ?_)
  have hS : va_S (fun q => ow g q ∨ s.heap.size ≤ q) s.heap s.heap [] := va_S.rf
  have hl : lv_has ls 5 [(0, .ref (g.ad 1 0)), (1, .int (nI p9)), (2, .int (v9)), (3, .int (o9))] := hl
  refine lv_aload_n hx hb dX12_away_0 rfl (lv_at hl 0 rfl) ?_
  refine lv_aload_n hx hb dX12_away_1 rfl (lv_at hl 0 rfl) ?_
  refine lv_iload_n hx hb dX12_away_2 rfl (lv_at hl 1 rfl) ?_
  refine rc_V (As := [.int (nI p9)]) hx hb hml hown hC hl (k_isNo_0 l E hI hp9) (rec_of hC (RB.x hR) rfl) (zm_X12_44 hC.1) kv_X12_isNo hR rfl rfl (rwD_le (by decide) (by decide)) ⟨rfl, rfl⟩ (Nat.le_of_ble_eq_true rfl) ⟨Nat.zero_le _, Nat.zero_le _⟩ dX12_away_3 ?_
  refine lv_if_ne (tgt := 17) hx hb dX12_away_6 (by decide) (fun c_6 => ?_) (fun c_6 => ?_)
  · exact absurd (by decide) c_6
  ·
    refine lv_aload_n hx hb dX12_away_9 rfl (lv_at hl 0 rfl) ?_
    refine lv_iload_n hx hb dX12_away_10 rfl (lv_at hl 3 rfl) ?_
    refine rc_V (As := [.int (o9)]) hx hb hml hown hC hl (k_isNo_1 l E hI hbad) (rec_of hC (RB.x hR) rfl) (zm_X12_44 hC.1) kv_X12_isNo hR rfl rfl (rwD_le (by decide) (by decide)) ⟨rfl, rfl⟩ (Nat.le_of_ble_eq_true rfl) ⟨Nat.zero_le _, Nat.zero_le _⟩ dX12_away_11 ?_
    refine lv_if_eq (tgt := 21) hx hb dX12_away_14 (by decide) (fun c_14 => ?_) (fun c_14 => ?_)
    · exact absurd c_14 (by decide)
    ·
      refine lv_iconst (v := 1) hx hb dX12_away_17 (by decide) ?_
      refine lv_goto (tgt := 22) hx hb dX12_away_18 (by decide) ?_
      refine lv_iconst (v := 1) hx hb dX12_away_22 (by decide) ?_
      refine wcw_V (As := [.int (1), .int (1)]) hx hb hml hown hC hl (c_X12_start1 l E hI (w9 := 1) (by decide)) (rec_of hC (RB.x hR) rfl) (zm_X12_48 hC.1) kv_X12_start hR hS (fun q h => h.imp id (Nat.le_trans hS.1)) rfl rfl (wD_le (by decide) (by decide)) (Nat.le_of_ble_eq_true rfl) ⟨Nat.le_of_ble_eq_true rfl, Nat.le_of_ble_eq_true rfl⟩ dX12_away_23 (fun H1 locs1 hR hz hq hS => ?_)
      refine lv_if_ne (tgt := 54) hx hb dX12_away_26 (by decide) (fun c_26 => ?_) (fun c_26 => ?_)
      ·
        have c_26 : ¬ (1 : Int32) = (0) := c_26
        refine lv_iconst (v := 0) hx hb dX12_away_54 (by decide) ?_
        exact wr_z hx hb hr hlocks (by decide) hS ⟨hR, rfl⟩ (Nat.le_of_ble_eq_true rfl) (Nat.le_of_ble_eq_true rfl) dX12_away_55
      · exact absurd c_26 (by decide)
set_option maxRecDepth 100000 in
set_option maxHeartbeats 4000000 in
theorem r_X12_away_3 (l : Launch) (E : EE) {S : St} {th : Int32} {g : Gh} (hI : Inv S) {p9 : Nat} (hp9 : p9 < S.np) {v9 : Int32} (hbad : v9 < 0 ∨ 119 < v9) {o9 : Nat} (ho9 : o9 < S.np) : WM l E yX12_away cX12_away 5 (some .boolean) (wD 8 0 0) [.ref (g.ad 1 0), .int (nI p9), .int (v9), .int (nI o9)] (RB E S th g) (ow g) (fun _ v H => RB E (S) (2) g H ∧ v = some (.int 0)) := by
  refine wm_of rfl (Nat.le_of_ble_eq_true rfl) (fun p e s m below meth c ls hx hb hr hml (hown : s.vm.findClass RX12 = some m.cls) hC hlocks hR hl hini => ?_)
  have hS : va_S (fun q => ow g q ∨ s.heap.size ≤ q) s.heap s.heap [] := va_S.rf
  have hl : lv_has ls 5 [(0, .ref (g.ad 1 0)), (1, .int (nI p9)), (2, .int (v9)), (3, .int (nI o9))] := hl
  refine lv_aload_n hx hb dX12_away_0 rfl (lv_at hl 0 rfl) ?_
  refine lv_aload_n hx hb dX12_away_1 rfl (lv_at hl 0 rfl) ?_
  refine lv_iload_n hx hb dX12_away_2 rfl (lv_at hl 1 rfl) ?_
  refine rc_V (As := [.int (nI p9)]) hx hb hml hown hC hl (k_isNo_0 l E hI hp9) (rec_of hC (RB.x hR) rfl) (zm_X12_44 hC.1) kv_X12_isNo hR rfl rfl (rwD_le (by decide) (by decide)) ⟨rfl, rfl⟩ (Nat.le_of_ble_eq_true rfl) ⟨Nat.zero_le _, Nat.zero_le _⟩ dX12_away_3 ?_
  refine lv_if_ne (tgt := 17) hx hb dX12_away_6 (by decide) (fun c_6 => ?_) (fun c_6 => ?_)
  · exact absurd (by decide) c_6
  ·
    refine lv_aload_n hx hb dX12_away_9 rfl (lv_at hl 0 rfl) ?_
    refine lv_iload_n hx hb dX12_away_10 rfl (lv_at hl 3 rfl) ?_
    refine rc_V (As := [.int (nI o9)]) hx hb hml hown hC hl (k_isNo_0 l E hI ho9) (rec_of hC (RB.x hR) rfl) (zm_X12_44 hC.1) kv_X12_isNo hR rfl rfl (rwD_le (by decide) (by decide)) ⟨rfl, rfl⟩ (Nat.le_of_ble_eq_true rfl) ⟨Nat.zero_le _, Nat.zero_le _⟩ dX12_away_11 ?_
    refine lv_if_eq (tgt := 21) hx hb dX12_away_14 (by decide) (fun c_14 => ?_) (fun c_14 => ?_)
    ·
      refine lv_iconst (v := 0) hx hb dX12_away_21 (by decide) ?_
      refine lv_iconst (v := 1) hx hb dX12_away_22 (by decide) ?_
      refine wcw_V (As := [.int (0), .int (1)]) hx hb hml hown hC hl (c_X12_start0 l E hI (w9 := 1)) (rec_of hC (RB.x hR) rfl) (zm_X12_48 hC.1) kv_X12_start hR hS (fun q h => h.imp id (Nat.le_trans hS.1)) rfl rfl (wD_le (by decide) (by decide)) (Nat.le_of_ble_eq_true rfl) ⟨Nat.le_of_ble_eq_true rfl, Nat.le_of_ble_eq_true rfl⟩ dX12_away_23 (fun H1 locs1 hR hz hq hS => ?_)
      refine lv_if_ne (tgt := 54) hx hb dX12_away_26 (by decide) (fun c_26 => ?_) (fun c_26 => ?_)
      · exact absurd (by decide) c_26
      ·
        have c_26 : (0 : Int32) = (0) := c_26
        refine lv_aload_n hx hb dX12_away_29 rfl (lv_at hl 0 rfl) ?_
        refine lv_iload_n hx hb dX12_away_30 rfl (lv_at hl 2 rfl) ?_
        refine rc_S (As := [.int (v9)]) hx hb hml hown hC hl (k_isNoDay_1 l E hbad) (zm_X12_69 hC.1) kv_X12_isNoDay True.intro rfl rfl (rwD_le (by decide) (by decide)) ⟨rfl, rfl⟩ (Nat.le_of_ble_eq_true rfl) ⟨Nat.zero_le _, Nat.zero_le _⟩ dX12_away_31 ?_
        refine lv_if_ne (tgt := 42) hx hb dX12_away_34 (by decide) (fun c_34 => ?_) (fun c_34 => ?_)
        ·
          have c_34 : ¬ (1 : Int32) = (0) := c_34
          refine lv_iconst (v := 1) hx hb dX12_away_42 (by decide) ?_
          refine lv_goto (tgt := 47) hx hb dX12_away_43 (by decide) ?_
          refine lv_iconst (v := 2) hx hb dX12_away_47 (by decide) ?_
          refine wcw_V (As := [.int (1), .int (2)]) hx hb hml hown hC hl (c_X12_refuse1 l E hI (w9 := 2) (by decide)) (rec_of hC (RB.x hR) rfl) (zm_X12_20 hC.1) kv_X12_refuse hR hS (fun q h => h.imp id (Nat.le_trans hS.1)) rfl rfl (wD_le (by decide) (by decide)) (Nat.le_of_ble_eq_true rfl) ⟨Nat.le_of_ble_eq_true rfl, Nat.le_of_ble_eq_true rfl⟩ dX12_away_48 (fun H1 locs1 hR hz hq hS => ?_)
          refine lv_if_eq (tgt := 56) hx hb dX12_away_51 (by decide) (fun c_51 => ?_) (fun c_51 => ?_)
          · exact absurd c_51 (by decide)
          ·
            have c_51 : ¬ (1 : Int32) = (0) := c_51
            refine lv_iconst (v := 0) hx hb dX12_away_54 (by decide) ?_
            exact wr_z hx hb hr hlocks (by decide) hS ⟨hR, rfl⟩ (Nat.le_of_ble_eq_true rfl) (Nat.le_of_ble_eq_true rfl) dX12_away_55
        · exact absurd c_34 (by decide)
    · exact absurd (by decide) c_14
set_option maxRecDepth 100000 in
set_option maxHeartbeats 4000000 in
theorem r_X12_away_4 (l : Launch) (E : EE) {S : St} {th : Int32} {g : Gh} (hI : Inv S) {p9 : Nat} (hp9 : p9 < S.np) {v9 : Int32} (hv91 : ¬ v9 < 0) (hv92 : ¬ 119 < v9) : WM l E yX12_away cX12_away 5 (some .boolean) (wD 8 0 0) [.ref (g.ad 1 0), .int (nI p9), .int (v9), .int (nI p9)] (RB E S th g) (ow g) (fun _ v H => RB E (S) (2) g H ∧ v = some (.int 0)) := by
  refine wm_of rfl (Nat.le_of_ble_eq_true rfl) (fun p e s m below meth c ls hx hb hr hml (hown : s.vm.findClass RX12 = some m.cls) hC hlocks hR hl hini => ?_)
  have hS : va_S (fun q => ow g q ∨ s.heap.size ≤ q) s.heap s.heap [] := va_S.rf
  have hl : lv_has ls 5 [(0, .ref (g.ad 1 0)), (1, .int (nI p9)), (2, .int (v9)), (3, .int (nI p9))] := hl
  refine lv_aload_n hx hb dX12_away_0 rfl (lv_at hl 0 rfl) ?_
  refine lv_aload_n hx hb dX12_away_1 rfl (lv_at hl 0 rfl) ?_
  refine lv_iload_n hx hb dX12_away_2 rfl (lv_at hl 1 rfl) ?_
  refine rc_V (As := [.int (nI p9)]) hx hb hml hown hC hl (k_isNo_0 l E hI hp9) (rec_of hC (RB.x hR) rfl) (zm_X12_44 hC.1) kv_X12_isNo hR rfl rfl (rwD_le (by decide) (by decide)) ⟨rfl, rfl⟩ (Nat.le_of_ble_eq_true rfl) ⟨Nat.zero_le _, Nat.zero_le _⟩ dX12_away_3 ?_
  refine lv_if_ne (tgt := 17) hx hb dX12_away_6 (by decide) (fun c_6 => ?_) (fun c_6 => ?_)
  · exact absurd (by decide) c_6
  ·
    refine lv_aload_n hx hb dX12_away_9 rfl (lv_at hl 0 rfl) ?_
    refine lv_iload_n hx hb dX12_away_10 rfl (lv_at hl 3 rfl) ?_
    refine rc_V (As := [.int (nI p9)]) hx hb hml hown hC hl (k_isNo_0 l E hI hp9) (rec_of hC (RB.x hR) rfl) (zm_X12_44 hC.1) kv_X12_isNo hR rfl rfl (rwD_le (by decide) (by decide)) ⟨rfl, rfl⟩ (Nat.le_of_ble_eq_true rfl) ⟨Nat.zero_le _, Nat.zero_le _⟩ dX12_away_11 ?_
    refine lv_if_eq (tgt := 21) hx hb dX12_away_14 (by decide) (fun c_14 => ?_) (fun c_14 => ?_)
    ·
      refine lv_iconst (v := 0) hx hb dX12_away_21 (by decide) ?_
      refine lv_iconst (v := 1) hx hb dX12_away_22 (by decide) ?_
      refine wcw_V (As := [.int (0), .int (1)]) hx hb hml hown hC hl (c_X12_start0 l E hI (w9 := 1)) (rec_of hC (RB.x hR) rfl) (zm_X12_48 hC.1) kv_X12_start hR hS (fun q h => h.imp id (Nat.le_trans hS.1)) rfl rfl (wD_le (by decide) (by decide)) (Nat.le_of_ble_eq_true rfl) ⟨Nat.le_of_ble_eq_true rfl, Nat.le_of_ble_eq_true rfl⟩ dX12_away_23 (fun H1 locs1 hR hz hq hS => ?_)
      refine lv_if_ne (tgt := 54) hx hb dX12_away_26 (by decide) (fun c_26 => ?_) (fun c_26 => ?_)
      · exact absurd (by decide) c_26
      ·
        have c_26 : (0 : Int32) = (0) := c_26
        refine lv_aload_n hx hb dX12_away_29 rfl (lv_at hl 0 rfl) ?_
        refine lv_iload_n hx hb dX12_away_30 rfl (lv_at hl 2 rfl) ?_
        refine rc_S (As := [.int (v9)]) hx hb hml hown hC hl (k_isNoDay_0 l E hv91 hv92) (zm_X12_69 hC.1) kv_X12_isNoDay True.intro rfl rfl (rwD_le (by decide) (by decide)) ⟨rfl, rfl⟩ (Nat.le_of_ble_eq_true rfl) ⟨Nat.zero_le _, Nat.zero_le _⟩ dX12_away_31 ?_
        refine lv_if_ne (tgt := 42) hx hb dX12_away_34 (by decide) (fun c_34 => ?_) (fun c_34 => ?_)
        · exact absurd (by decide) c_34
        ·
          have c_34 : (0 : Int32) = (0) := c_34
          refine lv_iload_n hx hb dX12_away_37 rfl (lv_at hl 3 rfl) ?_
          refine lv_iload_n hx hb dX12_away_38 rfl (lv_at hl 1 rfl) ?_
          refine lv_icmp_ne (tgt := 46) hx hb dX12_away_39 (by decide) (fun c_39 => ?_) (fun c_39 => ?_)
          · exact absurd rfl c_39
          ·
            have c_39 : (nI p9 : Int32) = (nI p9) := c_39
            refine lv_iconst (v := 1) hx hb dX12_away_42 (by decide) ?_
            refine lv_goto (tgt := 47) hx hb dX12_away_43 (by decide) ?_
            refine lv_iconst (v := 2) hx hb dX12_away_47 (by decide) ?_
            refine wcw_V (As := [.int (1), .int (2)]) hx hb hml hown hC hl (c_X12_refuse1 l E hI (w9 := 2) (by decide)) (rec_of hC (RB.x hR) rfl) (zm_X12_20 hC.1) kv_X12_refuse hR hS (fun q h => h.imp id (Nat.le_trans hS.1)) rfl rfl (wD_le (by decide) (by decide)) (Nat.le_of_ble_eq_true rfl) ⟨Nat.le_of_ble_eq_true rfl, Nat.le_of_ble_eq_true rfl⟩ dX12_away_48 (fun H1 locs1 hR hz hq hS => ?_)
            refine lv_if_eq (tgt := 56) hx hb dX12_away_51 (by decide) (fun c_51 => ?_) (fun c_51 => ?_)
            · exact absurd c_51 (by decide)
            ·
              have c_51 : ¬ (1 : Int32) = (0) := c_51
              refine lv_iconst (v := 0) hx hb dX12_away_54 (by decide) ?_
              exact wr_z hx hb hr hlocks (by decide) hS ⟨hR, rfl⟩ (Nat.le_of_ble_eq_true rfl) (Nat.le_of_ble_eq_true rfl) dX12_away_55
    · exact absurd (by decide) c_14
set_option maxRecDepth 100000 in
set_option maxHeartbeats 4000000 in
theorem r_X12_trip_1 (l : Launch) (E : EE) {S : St} {th : Int32} {g : Gh} (hI : Inv S) {p9 : Int32} (hbad : p9 < 0 ∨ nI S.np ≤ p9) {l9 : Int32} {f9 : Int32} {t9 : Int32} {x9 : Int32} : WM l E yX12_trip cX12_trip 6 (some .int) (wD 8 0 0) [.ref (g.ad 1 0), .int (p9), .int (l9), .int (f9), .int (t9), .int (x9)] (RB E S th g) (ow g) (fun _ v H => RB E (S) (1) g H ∧ v = some (.int 0)) := by
  refine wm_of rfl (Nat.le_of_ble_eq_true rfl) (fun p e s m below meth c ls hx hb hr hml (hown : s.vm.findClass RX12 = some m.cls) hC hlocks hR hl hini => ?_)
  have hS : va_S (fun q => ow g q ∨ s.heap.size ≤ q) s.heap s.heap [] := va_S.rf
  have hl : lv_has ls 6 [(0, .ref (g.ad 1 0)), (1, .int (p9)), (2, .int (l9)), (3, .int (f9)), (4, .int (t9)), (5, .int (x9))] := hl
  refine lv_aload_n hx hb dX12_trip_0 rfl (lv_at hl 0 rfl) ?_
  refine lv_aload_n hx hb dX12_trip_1 rfl (lv_at hl 0 rfl) ?_
  refine lv_iload_n hx hb dX12_trip_2 rfl (lv_at hl 1 rfl) ?_
  refine rc_V (As := [.int (p9)]) hx hb hml hown hC hl (k_isNo_1 l E hI hbad) (rec_of hC (RB.x hR) rfl) (zm_X12_44 hC.1) kv_X12_isNo hR rfl rfl (rwD_le (by decide) (by decide)) ⟨rfl, rfl⟩ (Nat.le_of_ble_eq_true rfl) ⟨Nat.zero_le _, Nat.zero_le _⟩ dX12_trip_3 ?_
  refine lv_if_ne (tgt := 16) hx hb dX12_trip_6 (by decide) (fun c_6 => ?_) (fun c_6 => ?_)
  ·
    refine lv_iconst (v := 1) hx hb dX12_trip_16 (by decide) ?_
    refine lv_goto (tgt := 21) hx hb dX12_trip_17 (by decide) ?_
    refine lv_iconst (v := 1) hx hb dX12_trip_21 (by decide) ?_
    refine wcw_V (As := [.int (1), .int (1)]) hx hb hml hown hC hl (c_X12_start1 l E hI (w9 := 1) (by decide)) (rec_of hC (RB.x hR) rfl) (zm_X12_48 hC.1) kv_X12_start hR hS (fun q h => h.imp id (Nat.le_trans hS.1)) rfl rfl (wD_le (by decide) (by decide)) (Nat.le_of_ble_eq_true rfl) ⟨Nat.le_of_ble_eq_true rfl, Nat.le_of_ble_eq_true rfl⟩ dX12_trip_22 (fun H1 locs1 hR hz hq hS => ?_)
    refine lv_if_ne (tgt := 102) hx hb dX12_trip_25 (by decide) (fun c_25 => ?_) (fun c_25 => ?_)
    ·
      have c_25 : ¬ (1 : Int32) = (0) := c_25
      refine lv_iconst (v := 0) hx hb dX12_trip_102 (by decide) ?_
      exact wr_i hx hb hr hlocks hS ⟨hR, rfl⟩ (Nat.le_of_ble_eq_true rfl) (Nat.le_of_ble_eq_true rfl) dX12_trip_103
    · exact absurd c_25 (by decide)
  · exact absurd c_6 (by decide)
set_option maxRecDepth 100000 in
set_option maxHeartbeats 4000000 in
theorem r_X12_trip_2 (l : Launch) (E : EE) {S : St} {th : Int32} {g : Gh} (hI : Inv S) {p9 : Nat} (hp9 : p9 < S.np) {l9 : Int32} (hbad : l9 < 0 ∨ 3 ≤ l9) {f9 : Int32} {t9 : Int32} {x9 : Int32} : WM l E yX12_trip cX12_trip 6 (some .int) (wD 8 0 0) [.ref (g.ad 1 0), .int (nI p9), .int (l9), .int (f9), .int (t9), .int (x9)] (RB E S th g) (ow g) (fun _ v H => RB E (S) (1) g H ∧ v = some (.int 0)) := by
  refine wm_of rfl (Nat.le_of_ble_eq_true rfl) (fun p e s m below meth c ls hx hb hr hml (hown : s.vm.findClass RX12 = some m.cls) hC hlocks hR hl hini => ?_)
  have hS : va_S (fun q => ow g q ∨ s.heap.size ≤ q) s.heap s.heap [] := va_S.rf
  have hl : lv_has ls 6 [(0, .ref (g.ad 1 0)), (1, .int (nI p9)), (2, .int (l9)), (3, .int (f9)), (4, .int (t9)), (5, .int (x9))] := hl
  refine lv_aload_n hx hb dX12_trip_0 rfl (lv_at hl 0 rfl) ?_
  refine lv_aload_n hx hb dX12_trip_1 rfl (lv_at hl 0 rfl) ?_
  refine lv_iload_n hx hb dX12_trip_2 rfl (lv_at hl 1 rfl) ?_
  refine rc_V (As := [.int (nI p9)]) hx hb hml hown hC hl (k_isNo_0 l E hI hp9) (rec_of hC (RB.x hR) rfl) (zm_X12_44 hC.1) kv_X12_isNo hR rfl rfl (rwD_le (by decide) (by decide)) ⟨rfl, rfl⟩ (Nat.le_of_ble_eq_true rfl) ⟨Nat.zero_le _, Nat.zero_le _⟩ dX12_trip_3 ?_
  refine lv_if_ne (tgt := 16) hx hb dX12_trip_6 (by decide) (fun c_6 => ?_) (fun c_6 => ?_)
  · exact absurd (by decide) c_6
  ·
    refine lv_iload_n hx hb dX12_trip_9 rfl (lv_at hl 2 rfl) ?_
    refine rc_S (As := [.int (l9)]) hx hb hml hown hC hl (k_isNoLand_1 l E hbad) (zm_X12_84 hC.1) kv_X12_isNoLand True.intro rfl rfl (rwD_le (by decide) (by decide)) ⟨rfl, rfl⟩ (Nat.le_of_ble_eq_true rfl) ⟨Nat.zero_le _, Nat.zero_le _⟩ dX12_trip_10 ?_
    refine lv_if_eq (tgt := 20) hx hb dX12_trip_13 (by decide) (fun c_13 => ?_) (fun c_13 => ?_)
    · exact absurd c_13 (by decide)
    ·
      refine lv_iconst (v := 1) hx hb dX12_trip_16 (by decide) ?_
      refine lv_goto (tgt := 21) hx hb dX12_trip_17 (by decide) ?_
      refine lv_iconst (v := 1) hx hb dX12_trip_21 (by decide) ?_
      refine wcw_V (As := [.int (1), .int (1)]) hx hb hml hown hC hl (c_X12_start1 l E hI (w9 := 1) (by decide)) (rec_of hC (RB.x hR) rfl) (zm_X12_48 hC.1) kv_X12_start hR hS (fun q h => h.imp id (Nat.le_trans hS.1)) rfl rfl (wD_le (by decide) (by decide)) (Nat.le_of_ble_eq_true rfl) ⟨Nat.le_of_ble_eq_true rfl, Nat.le_of_ble_eq_true rfl⟩ dX12_trip_22 (fun H1 locs1 hR hz hq hS => ?_)
      refine lv_if_ne (tgt := 102) hx hb dX12_trip_25 (by decide) (fun c_25 => ?_) (fun c_25 => ?_)
      ·
        have c_25 : ¬ (1 : Int32) = (0) := c_25
        refine lv_iconst (v := 0) hx hb dX12_trip_102 (by decide) ?_
        exact wr_i hx hb hr hlocks hS ⟨hR, rfl⟩ (Nat.le_of_ble_eq_true rfl) (Nat.le_of_ble_eq_true rfl) dX12_trip_103
      · exact absurd c_25 (by decide)
set_option maxRecDepth 100000 in
set_option maxHeartbeats 4000000 in
theorem r_X12_trip_3 (l : Launch) (E : EE) {S : St} {th : Int32} {g : Gh} (hI : Inv S) {p9 : Nat} (hp9 : p9 < S.np) {l9 : Nat} (hl9 : l9 < 3) {f9 : Int32} (hbad : f9 < 0 ∨ 119 < f9) {t9 : Int32} {x9 : Int32} : WM l E yX12_trip cX12_trip 6 (some .int) (wD 8 0 0) [.ref (g.ad 1 0), .int (nI p9), .int (nI l9), .int (f9), .int (t9), .int (x9)] (RB E S th g) (ow g) (fun _ v H => RB E (S) (2) g H ∧ v = some (.int 0)) := by
  refine wm_of rfl (Nat.le_of_ble_eq_true rfl) (fun p e s m below meth c ls hx hb hr hml (hown : s.vm.findClass RX12 = some m.cls) hC hlocks hR hl hini => ?_)
  have hS : va_S (fun q => ow g q ∨ s.heap.size ≤ q) s.heap s.heap [] := va_S.rf
  have hl : lv_has ls 6 [(0, .ref (g.ad 1 0)), (1, .int (nI p9)), (2, .int (nI l9)), (3, .int (f9)), (4, .int (t9)), (5, .int (x9))] := hl
  refine lv_aload_n hx hb dX12_trip_0 rfl (lv_at hl 0 rfl) ?_
  refine lv_aload_n hx hb dX12_trip_1 rfl (lv_at hl 0 rfl) ?_
  refine lv_iload_n hx hb dX12_trip_2 rfl (lv_at hl 1 rfl) ?_
  refine rc_V (As := [.int (nI p9)]) hx hb hml hown hC hl (k_isNo_0 l E hI hp9) (rec_of hC (RB.x hR) rfl) (zm_X12_44 hC.1) kv_X12_isNo hR rfl rfl (rwD_le (by decide) (by decide)) ⟨rfl, rfl⟩ (Nat.le_of_ble_eq_true rfl) ⟨Nat.zero_le _, Nat.zero_le _⟩ dX12_trip_3 ?_
  refine lv_if_ne (tgt := 16) hx hb dX12_trip_6 (by decide) (fun c_6 => ?_) (fun c_6 => ?_)
  · exact absurd (by decide) c_6
  ·
    refine lv_iload_n hx hb dX12_trip_9 rfl (lv_at hl 2 rfl) ?_
    refine rc_S (As := [.int (nI l9)]) hx hb hml hown hC hl (k_isNoLand_0 l E hl9) (zm_X12_84 hC.1) kv_X12_isNoLand True.intro rfl rfl (rwD_le (by decide) (by decide)) ⟨rfl, rfl⟩ (Nat.le_of_ble_eq_true rfl) ⟨Nat.zero_le _, Nat.zero_le _⟩ dX12_trip_10 ?_
    refine lv_if_eq (tgt := 20) hx hb dX12_trip_13 (by decide) (fun c_13 => ?_) (fun c_13 => ?_)
    ·
      refine lv_iconst (v := 0) hx hb dX12_trip_20 (by decide) ?_
      refine lv_iconst (v := 1) hx hb dX12_trip_21 (by decide) ?_
      refine wcw_V (As := [.int (0), .int (1)]) hx hb hml hown hC hl (c_X12_start0 l E hI (w9 := 1)) (rec_of hC (RB.x hR) rfl) (zm_X12_48 hC.1) kv_X12_start hR hS (fun q h => h.imp id (Nat.le_trans hS.1)) rfl rfl (wD_le (by decide) (by decide)) (Nat.le_of_ble_eq_true rfl) ⟨Nat.le_of_ble_eq_true rfl, Nat.le_of_ble_eq_true rfl⟩ dX12_trip_22 (fun H1 locs1 hR hz hq hS => ?_)
      refine lv_if_ne (tgt := 102) hx hb dX12_trip_25 (by decide) (fun c_25 => ?_) (fun c_25 => ?_)
      · exact absurd (by decide) c_25
      ·
        have c_25 : (0 : Int32) = (0) := c_25
        refine lv_aload_n hx hb dX12_trip_28 rfl (lv_at hl 0 rfl) ?_
        refine lv_iload_n hx hb dX12_trip_29 rfl (lv_at hl 3 rfl) ?_
        refine rc_S (As := [.int (f9)]) hx hb hml hown hC hl (k_isNoDay_1 l E hbad) (zm_X12_69 hC.1) kv_X12_isNoDay True.intro rfl rfl (rwD_le (by decide) (by decide)) ⟨rfl, rfl⟩ (Nat.le_of_ble_eq_true rfl) ⟨Nat.zero_le _, Nat.zero_le _⟩ dX12_trip_30 ?_
        refine lv_if_ne (tgt := 62) hx hb dX12_trip_33 (by decide) (fun c_33 => ?_) (fun c_33 => ?_)
        ·
          have c_33 : ¬ (1 : Int32) = (0) := c_33
          refine lv_iconst (v := 1) hx hb dX12_trip_62 (by decide) ?_
          refine lv_goto (tgt := 67) hx hb dX12_trip_63 (by decide) ?_
          refine lv_iconst (v := 2) hx hb dX12_trip_67 (by decide) ?_
          refine wcw_V (As := [.int (1), .int (2)]) hx hb hml hown hC hl (c_X12_refuse1 l E hI (w9 := 2) (by decide)) (rec_of hC (RB.x hR) rfl) (zm_X12_20 hC.1) kv_X12_refuse hR hS (fun q h => h.imp id (Nat.le_trans hS.1)) rfl rfl (wD_le (by decide) (by decide)) (Nat.le_of_ble_eq_true rfl) ⟨Nat.le_of_ble_eq_true rfl, Nat.le_of_ble_eq_true rfl⟩ dX12_trip_68 (fun H1 locs1 hR hz hq hS => ?_)
          refine lv_if_ne (tgt := 102) hx hb dX12_trip_71 (by decide) (fun c_71 => ?_) (fun c_71 => ?_)
          ·
            have c_71 : ¬ (1 : Int32) = (0) := c_71
            refine lv_iconst (v := 0) hx hb dX12_trip_102 (by decide) ?_
            exact wr_i hx hb hr hlocks hS ⟨hR, rfl⟩ (Nat.le_of_ble_eq_true rfl) (Nat.le_of_ble_eq_true rfl) dX12_trip_103
          · exact absurd c_71 (by decide)
        · exact absurd c_33 (by decide)
    · exact absurd (by decide) c_13
set_option maxRecDepth 100000 in
set_option maxHeartbeats 4000000 in
theorem r_X12_trip_4 (l : Launch) (E : EE) {S : St} {th : Int32} {g : Gh} (hI : Inv S) {p9 : Nat} (hp9 : p9 < S.np) {l9 : Nat} (hl9 : l9 < 3) {f9 : Int32} (hf91 : ¬ f9 < 0) (hf92 : ¬ 119 < f9) {t9 : Int32} (hbad : t9 < 0 ∨ 119 < t9) {x9 : Int32} : WM l E yX12_trip cX12_trip 6 (some .int) (wD 8 0 0) [.ref (g.ad 1 0), .int (nI p9), .int (nI l9), .int (f9), .int (t9), .int (x9)] (RB E S th g) (ow g) (fun _ v H => RB E (S) (2) g H ∧ v = some (.int 0)) := by
  refine wm_of rfl (Nat.le_of_ble_eq_true rfl) (fun p e s m below meth c ls hx hb hr hml (hown : s.vm.findClass RX12 = some m.cls) hC hlocks hR hl hini => ?_)
  have hS : va_S (fun q => ow g q ∨ s.heap.size ≤ q) s.heap s.heap [] := va_S.rf
  have hl : lv_has ls 6 [(0, .ref (g.ad 1 0)), (1, .int (nI p9)), (2, .int (nI l9)), (3, .int (f9)), (4, .int (t9)), (5, .int (x9))] := hl
  refine lv_aload_n hx hb dX12_trip_0 rfl (lv_at hl 0 rfl) ?_
  refine lv_aload_n hx hb dX12_trip_1 rfl (lv_at hl 0 rfl) ?_
  refine lv_iload_n hx hb dX12_trip_2 rfl (lv_at hl 1 rfl) ?_
  refine rc_V (As := [.int (nI p9)]) hx hb hml hown hC hl (k_isNo_0 l E hI hp9) (rec_of hC (RB.x hR) rfl) (zm_X12_44 hC.1) kv_X12_isNo hR rfl rfl (rwD_le (by decide) (by decide)) ⟨rfl, rfl⟩ (Nat.le_of_ble_eq_true rfl) ⟨Nat.zero_le _, Nat.zero_le _⟩ dX12_trip_3 ?_
  refine lv_if_ne (tgt := 16) hx hb dX12_trip_6 (by decide) (fun c_6 => ?_) (fun c_6 => ?_)
  · exact absurd (by decide) c_6
  ·
    refine lv_iload_n hx hb dX12_trip_9 rfl (lv_at hl 2 rfl) ?_
    refine rc_S (As := [.int (nI l9)]) hx hb hml hown hC hl (k_isNoLand_0 l E hl9) (zm_X12_84 hC.1) kv_X12_isNoLand True.intro rfl rfl (rwD_le (by decide) (by decide)) ⟨rfl, rfl⟩ (Nat.le_of_ble_eq_true rfl) ⟨Nat.zero_le _, Nat.zero_le _⟩ dX12_trip_10 ?_
    refine lv_if_eq (tgt := 20) hx hb dX12_trip_13 (by decide) (fun c_13 => ?_) (fun c_13 => ?_)
    ·
      refine lv_iconst (v := 0) hx hb dX12_trip_20 (by decide) ?_
      refine lv_iconst (v := 1) hx hb dX12_trip_21 (by decide) ?_
      refine wcw_V (As := [.int (0), .int (1)]) hx hb hml hown hC hl (c_X12_start0 l E hI (w9 := 1)) (rec_of hC (RB.x hR) rfl) (zm_X12_48 hC.1) kv_X12_start hR hS (fun q h => h.imp id (Nat.le_trans hS.1)) rfl rfl (wD_le (by decide) (by decide)) (Nat.le_of_ble_eq_true rfl) ⟨Nat.le_of_ble_eq_true rfl, Nat.le_of_ble_eq_true rfl⟩ dX12_trip_22 (fun H1 locs1 hR hz hq hS => ?_)
      refine lv_if_ne (tgt := 102) hx hb dX12_trip_25 (by decide) (fun c_25 => ?_) (fun c_25 => ?_)
      · exact absurd (by decide) c_25
      ·
        have c_25 : (0 : Int32) = (0) := c_25
        refine lv_aload_n hx hb dX12_trip_28 rfl (lv_at hl 0 rfl) ?_
        refine lv_iload_n hx hb dX12_trip_29 rfl (lv_at hl 3 rfl) ?_
        refine rc_S (As := [.int (f9)]) hx hb hml hown hC hl (k_isNoDay_0 l E hf91 hf92) (zm_X12_69 hC.1) kv_X12_isNoDay True.intro rfl rfl (rwD_le (by decide) (by decide)) ⟨rfl, rfl⟩ (Nat.le_of_ble_eq_true rfl) ⟨Nat.zero_le _, Nat.zero_le _⟩ dX12_trip_30 ?_
        refine lv_if_ne (tgt := 62) hx hb dX12_trip_33 (by decide) (fun c_33 => ?_) (fun c_33 => ?_)
        · exact absurd (by decide) c_33
        ·
          have c_33 : (0 : Int32) = (0) := c_33
          refine lv_iload hx hb dX12_trip_36 (lv_at hl 4 rfl) ?_
          refine rc_S (As := [.int (t9)]) hx hb hml hown hC hl (k_isNoDay_1 l E hbad) (zm_X12_69 hC.1) kv_X12_isNoDay True.intro rfl rfl (rwD_le (by decide) (by decide)) ⟨rfl, rfl⟩ (Nat.le_of_ble_eq_true rfl) ⟨Nat.zero_le _, Nat.zero_le _⟩ dX12_trip_38 ?_
          refine lv_if_ne (tgt := 62) hx hb dX12_trip_41 (by decide) (fun c_41 => ?_) (fun c_41 => ?_)
          ·
            have c_41 : ¬ (1 : Int32) = (0) := c_41
            refine lv_iconst (v := 1) hx hb dX12_trip_62 (by decide) ?_
            refine lv_goto (tgt := 67) hx hb dX12_trip_63 (by decide) ?_
            refine lv_iconst (v := 2) hx hb dX12_trip_67 (by decide) ?_
            refine wcw_V (As := [.int (1), .int (2)]) hx hb hml hown hC hl (c_X12_refuse1 l E hI (w9 := 2) (by decide)) (rec_of hC (RB.x hR) rfl) (zm_X12_20 hC.1) kv_X12_refuse hR hS (fun q h => h.imp id (Nat.le_trans hS.1)) rfl rfl (wD_le (by decide) (by decide)) (Nat.le_of_ble_eq_true rfl) ⟨Nat.le_of_ble_eq_true rfl, Nat.le_of_ble_eq_true rfl⟩ dX12_trip_68 (fun H1 locs1 hR hz hq hS => ?_)
            refine lv_if_ne (tgt := 102) hx hb dX12_trip_71 (by decide) (fun c_71 => ?_) (fun c_71 => ?_)
            ·
              have c_71 : ¬ (1 : Int32) = (0) := c_71
              refine lv_iconst (v := 0) hx hb dX12_trip_102 (by decide) ?_
              exact wr_i hx hb hr hlocks hS ⟨hR, rfl⟩ (Nat.le_of_ble_eq_true rfl) (Nat.le_of_ble_eq_true rfl) dX12_trip_103
            · exact absurd c_71 (by decide)
          · exact absurd c_41 (by decide)
    · exact absurd (by decide) c_13
set_option maxRecDepth 100000 in
set_option maxHeartbeats 4000000 in
theorem r_X12_trip_5 (l : Launch) (E : EE) {S : St} {th : Int32} {g : Gh} (hI : Inv S) {p9 : Nat} (hp9 : p9 < S.np) {l9 : Nat} (hl9 : l9 < 3) {f9 : Int32} (hf91 : ¬ f9 < 0) (hf92 : ¬ 119 < f9) {t9 : Int32} (ht91 : ¬ t9 < 0) (ht92 : ¬ 119 < t9) (htf : t9 < f9) {x9 : Int32} : WM l E yX12_trip cX12_trip 6 (some .int) (wD 8 0 0) [.ref (g.ad 1 0), .int (nI p9), .int (nI l9), .int (f9), .int (t9), .int (x9)] (RB E S th g) (ow g) (fun _ v H => RB E (S) (2) g H ∧ v = some (.int 0)) := by
  refine wm_of rfl (Nat.le_of_ble_eq_true rfl) (fun p e s m below meth c ls hx hb hr hml (hown : s.vm.findClass RX12 = some m.cls) hC hlocks hR hl hini => ?_)
  have hS : va_S (fun q => ow g q ∨ s.heap.size ≤ q) s.heap s.heap [] := va_S.rf
  have hl : lv_has ls 6 [(0, .ref (g.ad 1 0)), (1, .int (nI p9)), (2, .int (nI l9)), (3, .int (f9)), (4, .int (t9)), (5, .int (x9))] := hl
  refine lv_aload_n hx hb dX12_trip_0 rfl (lv_at hl 0 rfl) ?_
  refine lv_aload_n hx hb dX12_trip_1 rfl (lv_at hl 0 rfl) ?_
  refine lv_iload_n hx hb dX12_trip_2 rfl (lv_at hl 1 rfl) ?_
  refine rc_V (As := [.int (nI p9)]) hx hb hml hown hC hl (k_isNo_0 l E hI hp9) (rec_of hC (RB.x hR) rfl) (zm_X12_44 hC.1) kv_X12_isNo hR rfl rfl (rwD_le (by decide) (by decide)) ⟨rfl, rfl⟩ (Nat.le_of_ble_eq_true rfl) ⟨Nat.zero_le _, Nat.zero_le _⟩ dX12_trip_3 ?_
  refine lv_if_ne (tgt := 16) hx hb dX12_trip_6 (by decide) (fun c_6 => ?_) (fun c_6 => ?_)
  · exact absurd (by decide) c_6
  ·
    refine lv_iload_n hx hb dX12_trip_9 rfl (lv_at hl 2 rfl) ?_
    refine rc_S (As := [.int (nI l9)]) hx hb hml hown hC hl (k_isNoLand_0 l E hl9) (zm_X12_84 hC.1) kv_X12_isNoLand True.intro rfl rfl (rwD_le (by decide) (by decide)) ⟨rfl, rfl⟩ (Nat.le_of_ble_eq_true rfl) ⟨Nat.zero_le _, Nat.zero_le _⟩ dX12_trip_10 ?_
    refine lv_if_eq (tgt := 20) hx hb dX12_trip_13 (by decide) (fun c_13 => ?_) (fun c_13 => ?_)
    ·
      refine lv_iconst (v := 0) hx hb dX12_trip_20 (by decide) ?_
      refine lv_iconst (v := 1) hx hb dX12_trip_21 (by decide) ?_
      refine wcw_V (As := [.int (0), .int (1)]) hx hb hml hown hC hl (c_X12_start0 l E hI (w9 := 1)) (rec_of hC (RB.x hR) rfl) (zm_X12_48 hC.1) kv_X12_start hR hS (fun q h => h.imp id (Nat.le_trans hS.1)) rfl rfl (wD_le (by decide) (by decide)) (Nat.le_of_ble_eq_true rfl) ⟨Nat.le_of_ble_eq_true rfl, Nat.le_of_ble_eq_true rfl⟩ dX12_trip_22 (fun H1 locs1 hR hz hq hS => ?_)
      refine lv_if_ne (tgt := 102) hx hb dX12_trip_25 (by decide) (fun c_25 => ?_) (fun c_25 => ?_)
      · exact absurd (by decide) c_25
      ·
        have c_25 : (0 : Int32) = (0) := c_25
        refine lv_aload_n hx hb dX12_trip_28 rfl (lv_at hl 0 rfl) ?_
        refine lv_iload_n hx hb dX12_trip_29 rfl (lv_at hl 3 rfl) ?_
        refine rc_S (As := [.int (f9)]) hx hb hml hown hC hl (k_isNoDay_0 l E hf91 hf92) (zm_X12_69 hC.1) kv_X12_isNoDay True.intro rfl rfl (rwD_le (by decide) (by decide)) ⟨rfl, rfl⟩ (Nat.le_of_ble_eq_true rfl) ⟨Nat.zero_le _, Nat.zero_le _⟩ dX12_trip_30 ?_
        refine lv_if_ne (tgt := 62) hx hb dX12_trip_33 (by decide) (fun c_33 => ?_) (fun c_33 => ?_)
        · exact absurd (by decide) c_33
        ·
          have c_33 : (0 : Int32) = (0) := c_33
          refine lv_iload hx hb dX12_trip_36 (lv_at hl 4 rfl) ?_
          refine rc_S (As := [.int (t9)]) hx hb hml hown hC hl (k_isNoDay_0 l E ht91 ht92) (zm_X12_69 hC.1) kv_X12_isNoDay True.intro rfl rfl (rwD_le (by decide) (by decide)) ⟨rfl, rfl⟩ (Nat.le_of_ble_eq_true rfl) ⟨Nat.zero_le _, Nat.zero_le _⟩ dX12_trip_38 ?_
          refine lv_if_ne (tgt := 62) hx hb dX12_trip_41 (by decide) (fun c_41 => ?_) (fun c_41 => ?_)
          · exact absurd (by decide) c_41
          ·
            have c_41 : (0 : Int32) = (0) := c_41
            refine lv_iload hx hb dX12_trip_44 (lv_at hl 4 rfl) ?_
            refine lv_iload_n hx hb dX12_trip_46 rfl (lv_at hl 3 rfl) ?_
            refine lv_icmp_lt (tgt := 62) hx hb dX12_trip_47 (by decide) (fun c_47 => ?_) (fun c_47 => ?_)
            ·
              have c_47 : (t9 : Int32) < (f9) := c_47
              refine lv_iconst (v := 1) hx hb dX12_trip_62 (by decide) ?_
              refine lv_goto (tgt := 67) hx hb dX12_trip_63 (by decide) ?_
              refine lv_iconst (v := 2) hx hb dX12_trip_67 (by decide) ?_
              refine wcw_V (As := [.int (1), .int (2)]) hx hb hml hown hC hl (c_X12_refuse1 l E hI (w9 := 2) (by decide)) (rec_of hC (RB.x hR) rfl) (zm_X12_20 hC.1) kv_X12_refuse hR hS (fun q h => h.imp id (Nat.le_trans hS.1)) rfl rfl (wD_le (by decide) (by decide)) (Nat.le_of_ble_eq_true rfl) ⟨Nat.le_of_ble_eq_true rfl, Nat.le_of_ble_eq_true rfl⟩ dX12_trip_68 (fun H1 locs1 hR hz hq hS => ?_)
              refine lv_if_ne (tgt := 102) hx hb dX12_trip_71 (by decide) (fun c_71 => ?_) (fun c_71 => ?_)
              ·
                have c_71 : ¬ (1 : Int32) = (0) := c_71
                refine lv_iconst (v := 0) hx hb dX12_trip_102 (by decide) ?_
                exact wr_i hx hb hr hlocks hS ⟨hR, rfl⟩ (Nat.le_of_ble_eq_true rfl) (Nat.le_of_ble_eq_true rfl) dX12_trip_103
              · exact absurd c_71 (by decide)
            · exact absurd htf c_47
    · exact absurd (by decide) c_13
set_option maxRecDepth 100000 in
set_option maxHeartbeats 4000000 in
theorem r_X12_trip_6 (l : Launch) (E : EE) {S : St} {th : Int32} {g : Gh} (hI : Inv S) {p9 : Nat} (hp9 : p9 < S.np) {l9 : Nat} (hl9 : l9 < 3) {f9 : Int32} (hf91 : ¬ f9 < 0) (hf92 : ¬ 119 < f9) {t9 : Int32} (ht91 : ¬ t9 < 0) (ht92 : ¬ 119 < t9) (htf : ¬ t9 < f9) {x9 : Int32} (hbad : x9 < 0 ∨ 9999 < x9) : WM l E yX12_trip cX12_trip 6 (some .int) (wD 8 0 0) [.ref (g.ad 1 0), .int (nI p9), .int (nI l9), .int (f9), .int (t9), .int (x9)] (RB E S th g) (ow g) (fun _ v H => RB E (S) (2) g H ∧ v = some (.int 0)) := by
  refine wm_of rfl (Nat.le_of_ble_eq_true rfl) (fun p e s m below meth c ls hx hb hr hml (hown : s.vm.findClass RX12 = some m.cls) hC hlocks hR hl hini => ?_)
  have hS : va_S (fun q => ow g q ∨ s.heap.size ≤ q) s.heap s.heap [] := va_S.rf
  have hl : lv_has ls 6 [(0, .ref (g.ad 1 0)), (1, .int (nI p9)), (2, .int (nI l9)), (3, .int (f9)), (4, .int (t9)), (5, .int (x9))] := hl
  refine lv_aload_n hx hb dX12_trip_0 rfl (lv_at hl 0 rfl) ?_
  refine lv_aload_n hx hb dX12_trip_1 rfl (lv_at hl 0 rfl) ?_
  refine lv_iload_n hx hb dX12_trip_2 rfl (lv_at hl 1 rfl) ?_
  refine rc_V (As := [.int (nI p9)]) hx hb hml hown hC hl (k_isNo_0 l E hI hp9) (rec_of hC (RB.x hR) rfl) (zm_X12_44 hC.1) kv_X12_isNo hR rfl rfl (rwD_le (by decide) (by decide)) ⟨rfl, rfl⟩ (Nat.le_of_ble_eq_true rfl) ⟨Nat.zero_le _, Nat.zero_le _⟩ dX12_trip_3 ?_
  refine lv_if_ne (tgt := 16) hx hb dX12_trip_6 (by decide) (fun c_6 => ?_) (fun c_6 => ?_)
  · exact absurd (by decide) c_6
  ·
    refine lv_iload_n hx hb dX12_trip_9 rfl (lv_at hl 2 rfl) ?_
    refine rc_S (As := [.int (nI l9)]) hx hb hml hown hC hl (k_isNoLand_0 l E hl9) (zm_X12_84 hC.1) kv_X12_isNoLand True.intro rfl rfl (rwD_le (by decide) (by decide)) ⟨rfl, rfl⟩ (Nat.le_of_ble_eq_true rfl) ⟨Nat.zero_le _, Nat.zero_le _⟩ dX12_trip_10 ?_
    refine lv_if_eq (tgt := 20) hx hb dX12_trip_13 (by decide) (fun c_13 => ?_) (fun c_13 => ?_)
    ·
      refine lv_iconst (v := 0) hx hb dX12_trip_20 (by decide) ?_
      refine lv_iconst (v := 1) hx hb dX12_trip_21 (by decide) ?_
      refine wcw_V (As := [.int (0), .int (1)]) hx hb hml hown hC hl (c_X12_start0 l E hI (w9 := 1)) (rec_of hC (RB.x hR) rfl) (zm_X12_48 hC.1) kv_X12_start hR hS (fun q h => h.imp id (Nat.le_trans hS.1)) rfl rfl (wD_le (by decide) (by decide)) (Nat.le_of_ble_eq_true rfl) ⟨Nat.le_of_ble_eq_true rfl, Nat.le_of_ble_eq_true rfl⟩ dX12_trip_22 (fun H1 locs1 hR hz hq hS => ?_)
      refine lv_if_ne (tgt := 102) hx hb dX12_trip_25 (by decide) (fun c_25 => ?_) (fun c_25 => ?_)
      · exact absurd (by decide) c_25
      ·
        have c_25 : (0 : Int32) = (0) := c_25
        refine lv_aload_n hx hb dX12_trip_28 rfl (lv_at hl 0 rfl) ?_
        refine lv_iload_n hx hb dX12_trip_29 rfl (lv_at hl 3 rfl) ?_
        refine rc_S (As := [.int (f9)]) hx hb hml hown hC hl (k_isNoDay_0 l E hf91 hf92) (zm_X12_69 hC.1) kv_X12_isNoDay True.intro rfl rfl (rwD_le (by decide) (by decide)) ⟨rfl, rfl⟩ (Nat.le_of_ble_eq_true rfl) ⟨Nat.zero_le _, Nat.zero_le _⟩ dX12_trip_30 ?_
        refine lv_if_ne (tgt := 62) hx hb dX12_trip_33 (by decide) (fun c_33 => ?_) (fun c_33 => ?_)
        · exact absurd (by decide) c_33
        ·
          have c_33 : (0 : Int32) = (0) := c_33
          refine lv_iload hx hb dX12_trip_36 (lv_at hl 4 rfl) ?_
          refine rc_S (As := [.int (t9)]) hx hb hml hown hC hl (k_isNoDay_0 l E ht91 ht92) (zm_X12_69 hC.1) kv_X12_isNoDay True.intro rfl rfl (rwD_le (by decide) (by decide)) ⟨rfl, rfl⟩ (Nat.le_of_ble_eq_true rfl) ⟨Nat.zero_le _, Nat.zero_le _⟩ dX12_trip_38 ?_
          refine lv_if_ne (tgt := 62) hx hb dX12_trip_41 (by decide) (fun c_41 => ?_) (fun c_41 => ?_)
          · exact absurd (by decide) c_41
          ·
            have c_41 : (0 : Int32) = (0) := c_41
            refine lv_iload hx hb dX12_trip_44 (lv_at hl 4 rfl) ?_
            refine lv_iload_n hx hb dX12_trip_46 rfl (lv_at hl 3 rfl) ?_
            refine lv_icmp_lt (tgt := 62) hx hb dX12_trip_47 (by decide) (fun c_47 => ?_) (fun c_47 => ?_)
            · exact absurd c_47 htf
            ·
              have c_47 : ¬ (t9 : Int32) < (f9) := c_47
              refine lv_iload hx hb dX12_trip_50 (lv_at hl 5 rfl) ?_
              refine lv_iconst (v := 0) hx hb dX12_trip_52 (by decide) ?_
              refine lv_sipush (v := 9999) hx hb dX12_trip_53 (by decide) ?_
              refine rc_S (As := [.int (x9), .int (0), .int (9999)]) hx hb hml hown hC hl (k_isIn_0 l E hbad) (zm_X12_34 hC.1) kv_X12_isIn True.intro rfl rfl (rwD_le (by decide) (by decide)) ⟨rfl, rfl⟩ (Nat.le_of_ble_eq_true rfl) ⟨Nat.zero_le _, Nat.zero_le _⟩ dX12_trip_56 ?_
              refine lv_if_ne (tgt := 66) hx hb dX12_trip_59 (by decide) (fun c_59 => ?_) (fun c_59 => ?_)
              · exact absurd (by decide) c_59
              ·
                have c_59 : (0 : Int32) = (0) := c_59
                refine lv_iconst (v := 1) hx hb dX12_trip_62 (by decide) ?_
                refine lv_goto (tgt := 67) hx hb dX12_trip_63 (by decide) ?_
                refine lv_iconst (v := 2) hx hb dX12_trip_67 (by decide) ?_
                refine wcw_V (As := [.int (1), .int (2)]) hx hb hml hown hC hl (c_X12_refuse1 l E hI (w9 := 2) (by decide)) (rec_of hC (RB.x hR) rfl) (zm_X12_20 hC.1) kv_X12_refuse hR hS (fun q h => h.imp id (Nat.le_trans hS.1)) rfl rfl (wD_le (by decide) (by decide)) (Nat.le_of_ble_eq_true rfl) ⟨Nat.le_of_ble_eq_true rfl, Nat.le_of_ble_eq_true rfl⟩ dX12_trip_68 (fun H1 locs1 hR hz hq hS => ?_)
                refine lv_if_ne (tgt := 102) hx hb dX12_trip_71 (by decide) (fun c_71 => ?_) (fun c_71 => ?_)
                ·
                  have c_71 : ¬ (1 : Int32) = (0) := c_71
                  refine lv_iconst (v := 0) hx hb dX12_trip_102 (by decide) ?_
                  exact wr_i hx hb hr hlocks hS ⟨hR, rfl⟩ (Nat.le_of_ble_eq_true rfl) (Nat.le_of_ble_eq_true rfl) dX12_trip_103
                · exact absurd c_71 (by decide)
    · exact absurd (by decide) c_13
set_option maxRecDepth 100000 in
set_option maxHeartbeats 4000000 in
theorem r_X12_trip_7 (l : Launch) (E : EE) {S : St} {th : Int32} {g : Gh} (hI : Inv S) {p9 : Nat} (hp9 : p9 < S.np) {l9 : Nat} (hl9 : l9 < 3) {f9 : Int32} (hf91 : ¬ f9 < 0) (hf92 : ¬ 119 < f9) {t9 : Int32} (ht91 : ¬ t9 < 0) (ht92 : ¬ 119 < t9) {x9 : Int32} (hx91 : ¬ x9 < 0) (hx92 : ¬ 9999 < x9) (htf : ¬ t9 < f9) (hfull : 8 ≤ S.nt) : WM l E yX12_trip cX12_trip 6 (some .int) (wD 8 0 0) [.ref (g.ad 1 0), .int (nI p9), .int (nI l9), .int (f9), .int (t9), .int (x9)] (RB E S th g) (ow g) (fun _ v H => RB E (S) (3) g H ∧ v = some (.int 0)) := by
  refine wm_of rfl (Nat.le_of_ble_eq_true rfl) (fun p e s m below meth c ls hx hb hr hml (hown : s.vm.findClass RX12 = some m.cls) hC hlocks hR hl hini => ?_)
  have hS : va_S (fun q => ow g q ∨ s.heap.size ≤ q) s.heap s.heap [] := va_S.rf
  have hl : lv_has ls 6 [(0, .ref (g.ad 1 0)), (1, .int (nI p9)), (2, .int (nI l9)), (3, .int (f9)), (4, .int (t9)), (5, .int (x9))] := hl
  refine lv_aload_n hx hb dX12_trip_0 rfl (lv_at hl 0 rfl) ?_
  refine lv_aload_n hx hb dX12_trip_1 rfl (lv_at hl 0 rfl) ?_
  refine lv_iload_n hx hb dX12_trip_2 rfl (lv_at hl 1 rfl) ?_
  refine rc_V (As := [.int (nI p9)]) hx hb hml hown hC hl (k_isNo_0 l E hI hp9) (rec_of hC (RB.x hR) rfl) (zm_X12_44 hC.1) kv_X12_isNo hR rfl rfl (rwD_le (by decide) (by decide)) ⟨rfl, rfl⟩ (Nat.le_of_ble_eq_true rfl) ⟨Nat.zero_le _, Nat.zero_le _⟩ dX12_trip_3 ?_
  refine lv_if_ne (tgt := 16) hx hb dX12_trip_6 (by decide) (fun c_6 => ?_) (fun c_6 => ?_)
  · exact absurd (by decide) c_6
  ·
    refine lv_iload_n hx hb dX12_trip_9 rfl (lv_at hl 2 rfl) ?_
    refine rc_S (As := [.int (nI l9)]) hx hb hml hown hC hl (k_isNoLand_0 l E hl9) (zm_X12_84 hC.1) kv_X12_isNoLand True.intro rfl rfl (rwD_le (by decide) (by decide)) ⟨rfl, rfl⟩ (Nat.le_of_ble_eq_true rfl) ⟨Nat.zero_le _, Nat.zero_le _⟩ dX12_trip_10 ?_
    refine lv_if_eq (tgt := 20) hx hb dX12_trip_13 (by decide) (fun c_13 => ?_) (fun c_13 => ?_)
    ·
      refine lv_iconst (v := 0) hx hb dX12_trip_20 (by decide) ?_
      refine lv_iconst (v := 1) hx hb dX12_trip_21 (by decide) ?_
      refine wcw_V (As := [.int (0), .int (1)]) hx hb hml hown hC hl (c_X12_start0 l E hI (w9 := 1)) (rec_of hC (RB.x hR) rfl) (zm_X12_48 hC.1) kv_X12_start hR hS (fun q h => h.imp id (Nat.le_trans hS.1)) rfl rfl (wD_le (by decide) (by decide)) (Nat.le_of_ble_eq_true rfl) ⟨Nat.le_of_ble_eq_true rfl, Nat.le_of_ble_eq_true rfl⟩ dX12_trip_22 (fun H1 locs1 hR hz hq hS => ?_)
      refine lv_if_ne (tgt := 102) hx hb dX12_trip_25 (by decide) (fun c_25 => ?_) (fun c_25 => ?_)
      · exact absurd (by decide) c_25
      ·
        have c_25 : (0 : Int32) = (0) := c_25
        refine lv_aload_n hx hb dX12_trip_28 rfl (lv_at hl 0 rfl) ?_
        refine lv_iload_n hx hb dX12_trip_29 rfl (lv_at hl 3 rfl) ?_
        refine rc_S (As := [.int (f9)]) hx hb hml hown hC hl (k_isNoDay_0 l E hf91 hf92) (zm_X12_69 hC.1) kv_X12_isNoDay True.intro rfl rfl (rwD_le (by decide) (by decide)) ⟨rfl, rfl⟩ (Nat.le_of_ble_eq_true rfl) ⟨Nat.zero_le _, Nat.zero_le _⟩ dX12_trip_30 ?_
        refine lv_if_ne (tgt := 62) hx hb dX12_trip_33 (by decide) (fun c_33 => ?_) (fun c_33 => ?_)
        · exact absurd (by decide) c_33
        ·
          have c_33 : (0 : Int32) = (0) := c_33
          refine lv_iload hx hb dX12_trip_36 (lv_at hl 4 rfl) ?_
          refine rc_S (As := [.int (t9)]) hx hb hml hown hC hl (k_isNoDay_0 l E ht91 ht92) (zm_X12_69 hC.1) kv_X12_isNoDay True.intro rfl rfl (rwD_le (by decide) (by decide)) ⟨rfl, rfl⟩ (Nat.le_of_ble_eq_true rfl) ⟨Nat.zero_le _, Nat.zero_le _⟩ dX12_trip_38 ?_
          refine lv_if_ne (tgt := 62) hx hb dX12_trip_41 (by decide) (fun c_41 => ?_) (fun c_41 => ?_)
          · exact absurd (by decide) c_41
          ·
            have c_41 : (0 : Int32) = (0) := c_41
            refine lv_iload hx hb dX12_trip_44 (lv_at hl 4 rfl) ?_
            refine lv_iload_n hx hb dX12_trip_46 rfl (lv_at hl 3 rfl) ?_
            refine lv_icmp_lt (tgt := 62) hx hb dX12_trip_47 (by decide) (fun c_47 => ?_) (fun c_47 => ?_)
            · exact absurd c_47 htf
            ·
              have c_47 : ¬ (t9 : Int32) < (f9) := c_47
              refine lv_iload hx hb dX12_trip_50 (lv_at hl 5 rfl) ?_
              refine lv_iconst (v := 0) hx hb dX12_trip_52 (by decide) ?_
              refine lv_sipush (v := 9999) hx hb dX12_trip_53 (by decide) ?_
              refine rc_S (As := [.int (x9), .int (0), .int (9999)]) hx hb hml hown hC hl (k_isIn_1 l E hx91 hx92) (zm_X12_34 hC.1) kv_X12_isIn True.intro rfl rfl (rwD_le (by decide) (by decide)) ⟨rfl, rfl⟩ (Nat.le_of_ble_eq_true rfl) ⟨Nat.zero_le _, Nat.zero_le _⟩ dX12_trip_56 ?_
              refine lv_if_ne (tgt := 66) hx hb dX12_trip_59 (by decide) (fun c_59 => ?_) (fun c_59 => ?_)
              ·
                have c_59 : ¬ (1 : Int32) = (0) := c_59
                refine lv_iconst (v := 0) hx hb dX12_trip_66 (by decide) ?_
                refine lv_iconst (v := 2) hx hb dX12_trip_67 (by decide) ?_
                refine wcw_V (As := [.int (0), .int (2)]) hx hb hml hown hC hl (c_X12_refuse0 l E hI (w9 := 2)) (rec_of hC (RB.x hR) rfl) (zm_X12_20 hC.1) kv_X12_refuse hR hS (fun q h => h.imp id (Nat.le_trans hS.1)) rfl rfl (wD_le (by decide) (by decide)) (Nat.le_of_ble_eq_true rfl) ⟨Nat.le_of_ble_eq_true rfl, Nat.le_of_ble_eq_true rfl⟩ dX12_trip_68 (fun H1 locs1 hR hz hq hS => ?_)
                refine lv_if_ne (tgt := 102) hx hb dX12_trip_71 (by decide) (fun c_71 => ?_) (fun c_71 => ?_)
                · exact absurd (by decide) c_71
                ·
                  have c_71 : (0 : Int32) = (0) := c_71
                  refine lv_aload_n hx hb dX12_trip_74 rfl (lv_at hl 0 rfl) ?_
                  refine lv_aload_n hx hb dX12_trip_75 rfl (lv_at hl 0 rfl) ?_
                  refine gf_X12_1 hx hb hown hC (RB.x hR) (zf_X12_10 hC.1) dX12_trip_76 ?_
                  refine gf_X8_1 hx hb hown hC (RB.dk hR) (zf_X12_87 hC.1) dX12_trip_79 ?_
                  refine rc_V (As := []) hx hb hml hown hC hl (c_size l E _ _ _ _) (rec_of hC (RB.ls hR (by decide : 1 < 4)) rfl) (zm_X12_28 hC.1) kv_Jx4a65c_size_8abf5 (RB.ls hR (by decide : 1 < 4)) rfl rfl (rwD_le (by decide) (by decide)) ⟨rfl, rfl⟩ (Nat.le_of_ble_eq_true rfl) ⟨Nat.zero_le _, Nat.zero_le _⟩ dX12_trip_82 ?_
                  refine lv_bipush (v := 8) hx hb dX12_trip_85 (by decide) ?_
                  refine lv_icmp_ne (tgt := 94) hx hb dX12_trip_87 (by decide) (fun c_87 => ?_) (fun c_87 => ?_)
                  · exact absurd (show nI S.nt = 8 by rw [show S.nt = 8 by have := hI.1; omega]; rfl) c_87
                  ·
                    have c_87 : (nI (S.nt) : Int32) = (8) := c_87
                    refine lv_iconst (v := 1) hx hb dX12_trip_90 (by decide) ?_
                    refine lv_goto (tgt := 95) hx hb dX12_trip_91 (by decide) ?_
                    refine lv_iconst (v := 3) hx hb dX12_trip_95 (by decide) ?_
                    refine wcw_V (As := [.int (1), .int (3)]) hx hb hml hown hC hl (c_X12_refuse1 l E hI (w9 := 3) (by decide)) (rec_of hC (RB.x hR) rfl) (zm_X12_20 hC.1) kv_X12_refuse hR hS (fun q h => h.imp id (Nat.le_trans hS.1)) rfl rfl (wD_le (by decide) (by decide)) (Nat.le_of_ble_eq_true rfl) ⟨Nat.le_of_ble_eq_true rfl, Nat.le_of_ble_eq_true rfl⟩ dX12_trip_96 (fun H1 locs1 hR hz hq hS => ?_)
                    refine lv_if_eq (tgt := 104) hx hb dX12_trip_99 (by decide) (fun c_99 => ?_) (fun c_99 => ?_)
                    · exact absurd c_99 (by decide)
                    ·
                      have c_99 : ¬ (1 : Int32) = (0) := c_99
                      refine lv_iconst (v := 0) hx hb dX12_trip_102 (by decide) ?_
                      exact wr_i hx hb hr hlocks hS ⟨hR, rfl⟩ (Nat.le_of_ble_eq_true rfl) (Nat.le_of_ble_eq_true rfl) dX12_trip_103
              · exact absurd c_59 (by decide)
    · exact absurd (by decide) c_13
set_option maxRecDepth 100000 in
set_option maxHeartbeats 4000000 in
theorem r_X12_ofPerson_1 (l : Launch) (E : EE) {S : St} {th : Int32} {g : Gh} (hI : Inv S) {p9 : Int32} (hbad : p9 < 0 ∨ nI S.np ≤ p9) {w9 : Int32} : WM l E yX12_ofPerson cX12_ofPerson 3 (some .int) (wD 8 0 0) [.ref (g.ad 1 0), .int (p9), .int (w9)] (RB E S th g) (ow g) (fun _ v H => RB E (S) (1) g H ∧ v = some (.int 0)) := by
  refine wm_of rfl (Nat.le_of_ble_eq_true rfl) (fun p e s m below meth c ls hx hb hr hml (hown : s.vm.findClass RX12 = some m.cls) hC hlocks hR hl hini => ?_)
  have hS : va_S (fun q => ow g q ∨ s.heap.size ≤ q) s.heap s.heap [] := va_S.rf
  have hl : lv_has ls 3 [(0, .ref (g.ad 1 0)), (1, .int (p9)), (2, .int (w9))] := hl
  refine lv_aload_n hx hb dX12_ofPerson_0 rfl (lv_at hl 0 rfl) ?_
  refine lv_aload_n hx hb dX12_ofPerson_1 rfl (lv_at hl 0 rfl) ?_
  refine lv_iload_n hx hb dX12_ofPerson_2 rfl (lv_at hl 1 rfl) ?_
  refine rc_V (As := [.int (p9)]) hx hb hml hown hC hl (k_isNo_1 l E hI hbad) (rec_of hC (RB.x hR) rfl) (zm_X12_44 hC.1) kv_X12_isNo hR rfl rfl (rwD_le (by decide) (by decide)) ⟨rfl, rfl⟩ (Nat.le_of_ble_eq_true rfl) ⟨Nat.zero_le _, Nat.zero_le _⟩ dX12_ofPerson_3 ?_
  refine lv_iconst (v := 1) hx hb dX12_ofPerson_6 (by decide) ?_
  refine wcw_V (As := [.int (1), .int (1)]) hx hb hml hown hC hl (c_X12_start1 l E hI (w9 := 1) (by decide)) (rec_of hC (RB.x hR) rfl) (zm_X12_48 hC.1) kv_X12_start hR hS (fun q h => h.imp id (Nat.le_trans hS.1)) rfl rfl (wD_le (by decide) (by decide)) (Nat.le_of_ble_eq_true rfl) ⟨Nat.le_of_ble_eq_true rfl, Nat.le_of_ble_eq_true rfl⟩ dX12_ofPerson_7 (fun H1 locs1 hR hz hq hS => ?_)
  refine lv_if_ne (tgt := 36) hx hb dX12_ofPerson_10 (by decide) (fun c_10 => ?_) (fun c_10 => ?_)
  ·
    have c_10 : ¬ (1 : Int32) = (0) := c_10
    refine lv_iconst (v := 0) hx hb dX12_ofPerson_36 (by decide) ?_
    refine lv_goto (tgt := 46) hx hb dX12_ofPerson_37 (by decide) ?_
    exact wr_i hx hb hr hlocks hS ⟨hR, rfl⟩ (Nat.le_of_ble_eq_true rfl) (Nat.le_of_ble_eq_true rfl) dX12_ofPerson_46
  · exact absurd c_10 (by decide)
set_option maxRecDepth 100000 in
set_option maxHeartbeats 4000000 in
theorem r_X12_ofPerson_2 (l : Launch) (E : EE) {S : St} {th : Int32} {g : Gh} (hI : Inv S) {p9 : Nat} (hp9 : p9 < S.np) {w9 : Int32} (hbad : w9 < 0 ∨ 6 < w9) : WM l E yX12_ofPerson cX12_ofPerson 3 (some .int) (wD 8 0 0) [.ref (g.ad 1 0), .int (nI p9), .int (w9)] (RB E S th g) (ow g) (fun _ v H => RB E (S) (2) g H ∧ v = some (.int 0)) := by
  refine wm_of rfl (Nat.le_of_ble_eq_true rfl) (fun p e s m below meth c ls hx hb hr hml (hown : s.vm.findClass RX12 = some m.cls) hC hlocks hR hl hini => ?_)
  have hS : va_S (fun q => ow g q ∨ s.heap.size ≤ q) s.heap s.heap [] := va_S.rf
  have hl : lv_has ls 3 [(0, .ref (g.ad 1 0)), (1, .int (nI p9)), (2, .int (w9))] := hl
  refine lv_aload_n hx hb dX12_ofPerson_0 rfl (lv_at hl 0 rfl) ?_
  refine lv_aload_n hx hb dX12_ofPerson_1 rfl (lv_at hl 0 rfl) ?_
  refine lv_iload_n hx hb dX12_ofPerson_2 rfl (lv_at hl 1 rfl) ?_
  refine rc_V (As := [.int (nI p9)]) hx hb hml hown hC hl (k_isNo_0 l E hI hp9) (rec_of hC (RB.x hR) rfl) (zm_X12_44 hC.1) kv_X12_isNo hR rfl rfl (rwD_le (by decide) (by decide)) ⟨rfl, rfl⟩ (Nat.le_of_ble_eq_true rfl) ⟨Nat.zero_le _, Nat.zero_le _⟩ dX12_ofPerson_3 ?_
  refine lv_iconst (v := 1) hx hb dX12_ofPerson_6 (by decide) ?_
  refine wcw_V (As := [.int (0), .int (1)]) hx hb hml hown hC hl (c_X12_start0 l E hI (w9 := 1)) (rec_of hC (RB.x hR) rfl) (zm_X12_48 hC.1) kv_X12_start hR hS (fun q h => h.imp id (Nat.le_trans hS.1)) rfl rfl (wD_le (by decide) (by decide)) (Nat.le_of_ble_eq_true rfl) ⟨Nat.le_of_ble_eq_true rfl, Nat.le_of_ble_eq_true rfl⟩ dX12_ofPerson_7 (fun H1 locs1 hR hz hq hS => ?_)
  refine lv_if_ne (tgt := 36) hx hb dX12_ofPerson_10 (by decide) (fun c_10 => ?_) (fun c_10 => ?_)
  · exact absurd (by decide) c_10
  ·
    have c_10 : (0 : Int32) = (0) := c_10
    refine lv_aload_n hx hb dX12_ofPerson_13 rfl (lv_at hl 0 rfl) ?_
    refine lv_iload_n hx hb dX12_ofPerson_14 rfl (lv_at hl 2 rfl) ?_
    refine lv_iconst (v := 0) hx hb dX12_ofPerson_15 (by decide) ?_
    refine lv_bipush (v := 6) hx hb dX12_ofPerson_16 (by decide) ?_
    refine rc_S (As := [.int (w9), .int (0), .int (6)]) hx hb hml hown hC hl (k_isIn_0 l E hbad) (zm_X12_34 hC.1) kv_X12_isIn True.intro rfl rfl (rwD_le (by decide) (by decide)) ⟨rfl, rfl⟩ (Nat.le_of_ble_eq_true rfl) ⟨Nat.zero_le _, Nat.zero_le _⟩ dX12_ofPerson_18 ?_
    refine lv_if_ne (tgt := 28) hx hb dX12_ofPerson_21 (by decide) (fun c_21 => ?_) (fun c_21 => ?_)
    · exact absurd (by decide) c_21
    ·
      have c_21 : (0 : Int32) = (0) := c_21
      refine lv_iconst (v := 1) hx hb dX12_ofPerson_24 (by decide) ?_
      refine lv_goto (tgt := 29) hx hb dX12_ofPerson_25 (by decide) ?_
      refine lv_iconst (v := 2) hx hb dX12_ofPerson_29 (by decide) ?_
      refine wcw_V (As := [.int (1), .int (2)]) hx hb hml hown hC hl (c_X12_refuse1 l E hI (w9 := 2) (by decide)) (rec_of hC (RB.x hR) rfl) (zm_X12_20 hC.1) kv_X12_refuse hR hS (fun q h => h.imp id (Nat.le_trans hS.1)) rfl rfl (wD_le (by decide) (by decide)) (Nat.le_of_ble_eq_true rfl) ⟨Nat.le_of_ble_eq_true rfl, Nat.le_of_ble_eq_true rfl⟩ dX12_ofPerson_30 (fun H1 locs1 hR hz hq hS => ?_)
      refine lv_if_eq (tgt := 40) hx hb dX12_ofPerson_33 (by decide) (fun c_33 => ?_) (fun c_33 => ?_)
      · exact absurd c_33 (by decide)
      ·
        have c_33 : ¬ (1 : Int32) = (0) := c_33
        refine lv_iconst (v := 0) hx hb dX12_ofPerson_36 (by decide) ?_
        refine lv_goto (tgt := 46) hx hb dX12_ofPerson_37 (by decide) ?_
        exact wr_i hx hb hr hlocks hS ⟨hR, rfl⟩ (Nat.le_of_ble_eq_true rfl) (Nat.le_of_ble_eq_true rfl) dX12_ofPerson_46
set_option maxRecDepth 100000 in
set_option maxHeartbeats 4000000 in
theorem r_X12_maySpend_1 (l : Launch) (E : EE) {S : St} {th : Int32} {g : Gh} (hI : Inv S) {p9 : Int32} (hbad : p9 < 0 ∨ nI S.np ≤ p9) {k9 : Int32} {l9 : Int32} : WM l E yX12_maySpend cX12_maySpend 4 (some .int) (wD 8 0 0) [.ref (g.ad 1 0), .int (p9), .int (k9), .int (l9)] (RB E S th g) (ow g) (fun _ v H => RB E (S) (1) g H ∧ v = some (.int 0)) := by
  refine wm_of rfl (Nat.le_of_ble_eq_true rfl) (fun p e s m below meth c ls hx hb hr hml (hown : s.vm.findClass RX12 = some m.cls) hC hlocks hR hl hini => ?_)
  have hS : va_S (fun q => ow g q ∨ s.heap.size ≤ q) s.heap s.heap [] := va_S.rf
  have hl : lv_has ls 4 [(0, .ref (g.ad 1 0)), (1, .int (p9)), (2, .int (k9)), (3, .int (l9))] := hl
  refine lv_aload_n hx hb dX12_maySpend_0 rfl (lv_at hl 0 rfl) ?_
  refine lv_aload_n hx hb dX12_maySpend_1 rfl (lv_at hl 0 rfl) ?_
  refine lv_iload_n hx hb dX12_maySpend_2 rfl (lv_at hl 1 rfl) ?_
  refine rc_V (As := [.int (p9)]) hx hb hml hown hC hl (k_isNo_1 l E hI hbad) (rec_of hC (RB.x hR) rfl) (zm_X12_44 hC.1) kv_X12_isNo hR rfl rfl (rwD_le (by decide) (by decide)) ⟨rfl, rfl⟩ (Nat.le_of_ble_eq_true rfl) ⟨Nat.zero_le _, Nat.zero_le _⟩ dX12_maySpend_3 ?_
  refine lv_if_ne (tgt := 23) hx hb dX12_maySpend_6 (by decide) (fun c_6 => ?_) (fun c_6 => ?_)
  ·
    refine lv_iconst (v := 1) hx hb dX12_maySpend_23 (by decide) ?_
    refine lv_goto (tgt := 28) hx hb dX12_maySpend_24 (by decide) ?_
    refine lv_iconst (v := 1) hx hb dX12_maySpend_28 (by decide) ?_
    refine wcw_V (As := [.int (1), .int (1)]) hx hb hml hown hC hl (c_X12_start1 l E hI (w9 := 1) (by decide)) (rec_of hC (RB.x hR) rfl) (zm_X12_48 hC.1) kv_X12_start hR hS (fun q h => h.imp id (Nat.le_trans hS.1)) rfl rfl (wD_le (by decide) (by decide)) (Nat.le_of_ble_eq_true rfl) ⟨Nat.le_of_ble_eq_true rfl, Nat.le_of_ble_eq_true rfl⟩ dX12_maySpend_29 (fun H1 locs1 hR hz hq hS => ?_)
    refine lv_if_eq (tgt := 39) hx hb dX12_maySpend_32 (by decide) (fun c_32 => ?_) (fun c_32 => ?_)
    · exact absurd c_32 (by decide)
    ·
      have c_32 : ¬ (1 : Int32) = (0) := c_32
      refine lv_iconst (v := 0) hx hb dX12_maySpend_35 (by decide) ?_
      refine lv_goto (tgt := 49) hx hb dX12_maySpend_36 (by decide) ?_
      exact wr_i hx hb hr hlocks hS ⟨hR, rfl⟩ (Nat.le_of_ble_eq_true rfl) (Nat.le_of_ble_eq_true rfl) dX12_maySpend_49
  · exact absurd c_6 (by decide)
set_option maxRecDepth 100000 in
set_option maxHeartbeats 4000000 in
theorem r_X12_maySpend_2 (l : Launch) (E : EE) {S : St} {th : Int32} {g : Gh} (hI : Inv S) {p9 : Nat} (hp9 : p9 < S.np) {k9 : Int32} (hbad : k9 < 0 ∨ 4 ≤ k9) {l9 : Int32} : WM l E yX12_maySpend cX12_maySpend 4 (some .int) (wD 8 0 0) [.ref (g.ad 1 0), .int (nI p9), .int (k9), .int (l9)] (RB E S th g) (ow g) (fun _ v H => RB E (S) (1) g H ∧ v = some (.int 0)) := by
  refine wm_of rfl (Nat.le_of_ble_eq_true rfl) (fun p e s m below meth c ls hx hb hr hml (hown : s.vm.findClass RX12 = some m.cls) hC hlocks hR hl hini => ?_)
  have hS : va_S (fun q => ow g q ∨ s.heap.size ≤ q) s.heap s.heap [] := va_S.rf
  have hl : lv_has ls 4 [(0, .ref (g.ad 1 0)), (1, .int (nI p9)), (2, .int (k9)), (3, .int (l9))] := hl
  refine lv_aload_n hx hb dX12_maySpend_0 rfl (lv_at hl 0 rfl) ?_
  refine lv_aload_n hx hb dX12_maySpend_1 rfl (lv_at hl 0 rfl) ?_
  refine lv_iload_n hx hb dX12_maySpend_2 rfl (lv_at hl 1 rfl) ?_
  refine rc_V (As := [.int (nI p9)]) hx hb hml hown hC hl (k_isNo_0 l E hI hp9) (rec_of hC (RB.x hR) rfl) (zm_X12_44 hC.1) kv_X12_isNo hR rfl rfl (rwD_le (by decide) (by decide)) ⟨rfl, rfl⟩ (Nat.le_of_ble_eq_true rfl) ⟨Nat.zero_le _, Nat.zero_le _⟩ dX12_maySpend_3 ?_
  refine lv_if_ne (tgt := 23) hx hb dX12_maySpend_6 (by decide) (fun c_6 => ?_) (fun c_6 => ?_)
  · exact absurd (by decide) c_6
  ·
    refine lv_iload_n hx hb dX12_maySpend_9 rfl (lv_at hl 2 rfl) ?_
    refine rc_S (As := [.int (k9)]) hx hb hml hown hC hl (k_isNoKind_1 l E hbad) (zm_X12_62 hC.1) kv_X12_isNoKind True.intro rfl rfl (rwD_le (by decide) (by decide)) ⟨rfl, rfl⟩ (Nat.le_of_ble_eq_true rfl) ⟨Nat.zero_le _, Nat.zero_le _⟩ dX12_maySpend_10 ?_
    refine lv_if_ne (tgt := 23) hx hb dX12_maySpend_13 (by decide) (fun c_13 => ?_) (fun c_13 => ?_)
    ·
      refine lv_iconst (v := 1) hx hb dX12_maySpend_23 (by decide) ?_
      refine lv_goto (tgt := 28) hx hb dX12_maySpend_24 (by decide) ?_
      refine lv_iconst (v := 1) hx hb dX12_maySpend_28 (by decide) ?_
      refine wcw_V (As := [.int (1), .int (1)]) hx hb hml hown hC hl (c_X12_start1 l E hI (w9 := 1) (by decide)) (rec_of hC (RB.x hR) rfl) (zm_X12_48 hC.1) kv_X12_start hR hS (fun q h => h.imp id (Nat.le_trans hS.1)) rfl rfl (wD_le (by decide) (by decide)) (Nat.le_of_ble_eq_true rfl) ⟨Nat.le_of_ble_eq_true rfl, Nat.le_of_ble_eq_true rfl⟩ dX12_maySpend_29 (fun H1 locs1 hR hz hq hS => ?_)
      refine lv_if_eq (tgt := 39) hx hb dX12_maySpend_32 (by decide) (fun c_32 => ?_) (fun c_32 => ?_)
      · exact absurd c_32 (by decide)
      ·
        have c_32 : ¬ (1 : Int32) = (0) := c_32
        refine lv_iconst (v := 0) hx hb dX12_maySpend_35 (by decide) ?_
        refine lv_goto (tgt := 49) hx hb dX12_maySpend_36 (by decide) ?_
        exact wr_i hx hb hr hlocks hS ⟨hR, rfl⟩ (Nat.le_of_ble_eq_true rfl) (Nat.le_of_ble_eq_true rfl) dX12_maySpend_49
    · exact absurd c_13 (by decide)
set_option maxRecDepth 100000 in
set_option maxHeartbeats 4000000 in
theorem r_X12_maySpend_3 (l : Launch) (E : EE) {S : St} {th : Int32} {g : Gh} (hI : Inv S) {p9 : Nat} (hp9 : p9 < S.np) {k9 : Nat} (hk9 : k9 < 4) {l9 : Int32} (hbad : l9 < 0 ∨ 3 ≤ l9) : WM l E yX12_maySpend cX12_maySpend 4 (some .int) (wD 8 0 0) [.ref (g.ad 1 0), .int (nI p9), .int (nI k9), .int (l9)] (RB E S th g) (ow g) (fun _ v H => RB E (S) (1) g H ∧ v = some (.int 0)) := by
  refine wm_of rfl (Nat.le_of_ble_eq_true rfl) (fun p e s m below meth c ls hx hb hr hml (hown : s.vm.findClass RX12 = some m.cls) hC hlocks hR hl hini => ?_)
  have hS : va_S (fun q => ow g q ∨ s.heap.size ≤ q) s.heap s.heap [] := va_S.rf
  have hl : lv_has ls 4 [(0, .ref (g.ad 1 0)), (1, .int (nI p9)), (2, .int (nI k9)), (3, .int (l9))] := hl
  refine lv_aload_n hx hb dX12_maySpend_0 rfl (lv_at hl 0 rfl) ?_
  refine lv_aload_n hx hb dX12_maySpend_1 rfl (lv_at hl 0 rfl) ?_
  refine lv_iload_n hx hb dX12_maySpend_2 rfl (lv_at hl 1 rfl) ?_
  refine rc_V (As := [.int (nI p9)]) hx hb hml hown hC hl (k_isNo_0 l E hI hp9) (rec_of hC (RB.x hR) rfl) (zm_X12_44 hC.1) kv_X12_isNo hR rfl rfl (rwD_le (by decide) (by decide)) ⟨rfl, rfl⟩ (Nat.le_of_ble_eq_true rfl) ⟨Nat.zero_le _, Nat.zero_le _⟩ dX12_maySpend_3 ?_
  refine lv_if_ne (tgt := 23) hx hb dX12_maySpend_6 (by decide) (fun c_6 => ?_) (fun c_6 => ?_)
  · exact absurd (by decide) c_6
  ·
    refine lv_iload_n hx hb dX12_maySpend_9 rfl (lv_at hl 2 rfl) ?_
    refine rc_S (As := [.int (nI k9)]) hx hb hml hown hC hl (k_isNoKind_0 l E hk9) (zm_X12_62 hC.1) kv_X12_isNoKind True.intro rfl rfl (rwD_le (by decide) (by decide)) ⟨rfl, rfl⟩ (Nat.le_of_ble_eq_true rfl) ⟨Nat.zero_le _, Nat.zero_le _⟩ dX12_maySpend_10 ?_
    refine lv_if_ne (tgt := 23) hx hb dX12_maySpend_13 (by decide) (fun c_13 => ?_) (fun c_13 => ?_)
    · exact absurd (by decide) c_13
    ·
      refine lv_iload_n hx hb dX12_maySpend_16 rfl (lv_at hl 3 rfl) ?_
      refine rc_S (As := [.int (l9)]) hx hb hml hown hC hl (k_isNoLand_1 l E hbad) (zm_X12_84 hC.1) kv_X12_isNoLand True.intro rfl rfl (rwD_le (by decide) (by decide)) ⟨rfl, rfl⟩ (Nat.le_of_ble_eq_true rfl) ⟨Nat.zero_le _, Nat.zero_le _⟩ dX12_maySpend_17 ?_
      refine lv_if_eq (tgt := 27) hx hb dX12_maySpend_20 (by decide) (fun c_20 => ?_) (fun c_20 => ?_)
      · exact absurd c_20 (by decide)
      ·
        refine lv_iconst (v := 1) hx hb dX12_maySpend_23 (by decide) ?_
        refine lv_goto (tgt := 28) hx hb dX12_maySpend_24 (by decide) ?_
        refine lv_iconst (v := 1) hx hb dX12_maySpend_28 (by decide) ?_
        refine wcw_V (As := [.int (1), .int (1)]) hx hb hml hown hC hl (c_X12_start1 l E hI (w9 := 1) (by decide)) (rec_of hC (RB.x hR) rfl) (zm_X12_48 hC.1) kv_X12_start hR hS (fun q h => h.imp id (Nat.le_trans hS.1)) rfl rfl (wD_le (by decide) (by decide)) (Nat.le_of_ble_eq_true rfl) ⟨Nat.le_of_ble_eq_true rfl, Nat.le_of_ble_eq_true rfl⟩ dX12_maySpend_29 (fun H1 locs1 hR hz hq hS => ?_)
        refine lv_if_eq (tgt := 39) hx hb dX12_maySpend_32 (by decide) (fun c_32 => ?_) (fun c_32 => ?_)
        · exact absurd c_32 (by decide)
        ·
          have c_32 : ¬ (1 : Int32) = (0) := c_32
          refine lv_iconst (v := 0) hx hb dX12_maySpend_35 (by decide) ?_
          refine lv_goto (tgt := 49) hx hb dX12_maySpend_36 (by decide) ?_
          exact wr_i hx hb hr hlocks hS ⟨hR, rfl⟩ (Nat.le_of_ble_eq_true rfl) (Nat.le_of_ble_eq_true rfl) dX12_maySpend_49
set_option maxRecDepth 100000 in
set_option maxHeartbeats 4000000 in
theorem r_X12_plan_1 (l : Launch) (E : EE) {S : St} {th : Int32} {g : Gh} (hI : Inv S) {k9 : Int32} (hbad : k9 < 0 ∨ 4 ≤ k9) {y9 : Int32} {v9 : Int32} : WM l E yX12_plan cX12_plan 5 (some .int) (wD 8 0 0) [.ref (g.ad 1 0), .int (k9), .int (y9), .int (v9)] (RB E S th g) (ow g) (fun _ v H => RB E (S) (1) g H ∧ v = some (.int 0)) := by
  refine wm_of rfl (Nat.le_of_ble_eq_true rfl) (fun p e s m below meth c ls hx hb hr hml (hown : s.vm.findClass RX12 = some m.cls) hC hlocks hR hl hini => ?_)
  have hS : va_S (fun q => ow g q ∨ s.heap.size ≤ q) s.heap s.heap [] := va_S.rf
  have hl : lv_has ls 5 [(0, .ref (g.ad 1 0)), (1, .int (k9)), (2, .int (y9)), (3, .int (v9))] := hl
  refine lv_aload_n hx hb dX12_plan_0 rfl (lv_at hl 0 rfl) ?_
  refine lv_iload_n hx hb dX12_plan_1 rfl (lv_at hl 1 rfl) ?_
  refine lv_iload_n hx hb dX12_plan_2 rfl (lv_at hl 2 rfl) ?_
  refine wcw_V (As := [.int (k9), .int (y9)]) hx hb hml hown hC hl (c_X12_isNoBudget_1 l E hI hbad) (rec_of hC (RB.x hR) rfl) (zm_X12_148 hC.1) kv_X12_isNoBudget hR hS (fun q h => h.imp id (Nat.le_trans hS.1)) rfl rfl (wD_le (by decide) (by decide)) (Nat.le_of_ble_eq_true rfl) ⟨Nat.le_of_ble_eq_true rfl, Nat.le_of_ble_eq_true rfl⟩ dX12_plan_3 (fun H1 locs1 hR hz hq hS => ?_)
  refine lv_if_ne (tgt := 32) hx hb dX12_plan_6 (by decide) (fun c_6 => ?_) (fun c_6 => ?_)
  ·
    have c_6 : ¬ (1 : Int32) = (0) := c_6
    refine lv_iconst (v := 0) hx hb dX12_plan_32 (by decide) ?_
    exact wr_i hx hb hr hlocks hS ⟨hR, rfl⟩ (Nat.le_of_ble_eq_true rfl) (Nat.le_of_ble_eq_true rfl) dX12_plan_33
  · exact absurd c_6 (by decide)
set_option maxRecDepth 100000 in
set_option maxHeartbeats 4000000 in
theorem r_X12_plan_2 (l : Launch) (E : EE) {S : St} {th : Int32} {g : Gh} (hI : Inv S) {k9 : Nat} (hk9 : k9 < 4) {y9 : Int32} (hbad : y9 < 0 ∨ 4 ≤ y9) {v9 : Int32} : WM l E yX12_plan cX12_plan 5 (some .int) (wD 8 0 0) [.ref (g.ad 1 0), .int (nI k9), .int (y9), .int (v9)] (RB E S th g) (ow g) (fun _ v H => RB E (S) (1) g H ∧ v = some (.int 0)) := by
  refine wm_of rfl (Nat.le_of_ble_eq_true rfl) (fun p e s m below meth c ls hx hb hr hml (hown : s.vm.findClass RX12 = some m.cls) hC hlocks hR hl hini => ?_)
  have hS : va_S (fun q => ow g q ∨ s.heap.size ≤ q) s.heap s.heap [] := va_S.rf
  have hl : lv_has ls 5 [(0, .ref (g.ad 1 0)), (1, .int (nI k9)), (2, .int (y9)), (3, .int (v9))] := hl
  refine lv_aload_n hx hb dX12_plan_0 rfl (lv_at hl 0 rfl) ?_
  refine lv_iload_n hx hb dX12_plan_1 rfl (lv_at hl 1 rfl) ?_
  refine lv_iload_n hx hb dX12_plan_2 rfl (lv_at hl 2 rfl) ?_
  refine wcw_V (As := [.int (nI k9), .int (y9)]) hx hb hml hown hC hl (c_X12_isNoBudget_2 l E hI hk9 hbad) (rec_of hC (RB.x hR) rfl) (zm_X12_148 hC.1) kv_X12_isNoBudget hR hS (fun q h => h.imp id (Nat.le_trans hS.1)) rfl rfl (wD_le (by decide) (by decide)) (Nat.le_of_ble_eq_true rfl) ⟨Nat.le_of_ble_eq_true rfl, Nat.le_of_ble_eq_true rfl⟩ dX12_plan_3 (fun H1 locs1 hR hz hq hS => ?_)
  refine lv_if_ne (tgt := 32) hx hb dX12_plan_6 (by decide) (fun c_6 => ?_) (fun c_6 => ?_)
  ·
    have c_6 : ¬ (1 : Int32) = (0) := c_6
    refine lv_iconst (v := 0) hx hb dX12_plan_32 (by decide) ?_
    exact wr_i hx hb hr hlocks hS ⟨hR, rfl⟩ (Nat.le_of_ble_eq_true rfl) (Nat.le_of_ble_eq_true rfl) dX12_plan_33
  · exact absurd c_6 (by decide)
set_option maxRecDepth 100000 in
set_option maxHeartbeats 4000000 in
theorem r_X12_plan_3 (l : Launch) (E : EE) {S : St} {th : Int32} {g : Gh} (hI : Inv S) {k9 : Nat} (hk9 : k9 < 4) {y9 : Nat} (hy9 : y9 < 4) {v9 : Int32} (hbad : v9 < 0 ∨ 99999 < v9) : WM l E yX12_plan cX12_plan 5 (some .int) (wD 8 0 0) [.ref (g.ad 1 0), .int (nI k9), .int (nI y9), .int (v9)] (RB E S th g) (ow g) (fun _ v H => RB E (S) (2) g H ∧ v = some (.int 0)) := by
  refine wm_of rfl (Nat.le_of_ble_eq_true rfl) (fun p e s m below meth c ls hx hb hr hml (hown : s.vm.findClass RX12 = some m.cls) hC hlocks hR hl hini => ?_)
  have hS : va_S (fun q => ow g q ∨ s.heap.size ≤ q) s.heap s.heap [] := va_S.rf
  have hl : lv_has ls 5 [(0, .ref (g.ad 1 0)), (1, .int (nI k9)), (2, .int (nI y9)), (3, .int (v9))] := hl
  refine lv_aload_n hx hb dX12_plan_0 rfl (lv_at hl 0 rfl) ?_
  refine lv_iload_n hx hb dX12_plan_1 rfl (lv_at hl 1 rfl) ?_
  refine lv_iload_n hx hb dX12_plan_2 rfl (lv_at hl 2 rfl) ?_
  refine wcw_V (As := [.int (nI k9), .int (nI y9)]) hx hb hml hown hC hl (c_X12_isNoBudget_0 l E hI hk9 hy9) (rec_of hC (RB.x hR) rfl) (zm_X12_148 hC.1) kv_X12_isNoBudget hR hS (fun q h => h.imp id (Nat.le_trans hS.1)) rfl rfl (wD_le (by decide) (by decide)) (Nat.le_of_ble_eq_true rfl) ⟨Nat.le_of_ble_eq_true rfl, Nat.le_of_ble_eq_true rfl⟩ dX12_plan_3 (fun H1 locs1 hR hz hq hS => ?_)
  refine lv_if_ne (tgt := 32) hx hb dX12_plan_6 (by decide) (fun c_6 => ?_) (fun c_6 => ?_)
  · exact absurd (by decide) c_6
  ·
    have c_6 : (0 : Int32) = (0) := c_6
    refine lv_aload_n hx hb dX12_plan_9 rfl (lv_at hl 0 rfl) ?_
    refine lv_iload_n hx hb dX12_plan_10 rfl (lv_at hl 3 rfl) ?_
    refine lv_iconst (v := 0) hx hb dX12_plan_11 (by decide) ?_
    refine lv_ldc hx hb hown (zC_X12_152 hC.1) dX12_plan_12 ?_
    refine rc_S (As := [.int (v9), .int (0), .int (99999)]) hx hb hml hown hC hl (k_isIn_0 l E hbad) (zm_X12_34 hC.1) kv_X12_isIn True.intro rfl rfl (rwD_le (by decide) (by decide)) ⟨rfl, rfl⟩ (Nat.le_of_ble_eq_true rfl) ⟨Nat.zero_le _, Nat.zero_le _⟩ dX12_plan_14 ?_
    refine lv_if_ne (tgt := 24) hx hb dX12_plan_17 (by decide) (fun c_17 => ?_) (fun c_17 => ?_)
    · exact absurd (by decide) c_17
    ·
      have c_17 : (0 : Int32) = (0) := c_17
      refine lv_iconst (v := 1) hx hb dX12_plan_20 (by decide) ?_
      refine lv_goto (tgt := 25) hx hb dX12_plan_21 (by decide) ?_
      refine lv_iconst (v := 2) hx hb dX12_plan_25 (by decide) ?_
      refine wcw_V (As := [.int (1), .int (2)]) hx hb hml hown hC hl (c_X12_refuse1 l E hI (w9 := 2) (by decide)) (rec_of hC (RB.x hR) rfl) (zm_X12_20 hC.1) kv_X12_refuse hR hS (fun q h => h.imp id (Nat.le_trans hS.1)) rfl rfl (wD_le (by decide) (by decide)) (Nat.le_of_ble_eq_true rfl) ⟨Nat.le_of_ble_eq_true rfl, Nat.le_of_ble_eq_true rfl⟩ dX12_plan_26 (fun H1 locs1 hR hz hq hS => ?_)
      refine lv_if_eq (tgt := 34) hx hb dX12_plan_29 (by decide) (fun c_29 => ?_) (fun c_29 => ?_)
      · exact absurd c_29 (by decide)
      ·
        have c_29 : ¬ (1 : Int32) = (0) := c_29
        refine lv_iconst (v := 0) hx hb dX12_plan_32 (by decide) ?_
        exact wr_i hx hb hr hlocks hS ⟨hR, rfl⟩ (Nat.le_of_ble_eq_true rfl) (Nat.le_of_ble_eq_true rfl) dX12_plan_33
set_option maxRecDepth 100000 in
set_option maxHeartbeats 4000000 in
theorem r_X12_carry_1 (l : Launch) (E : EE) {S : St} {th : Int32} {g : Gh} (hI : Inv S) {k9 : Int32} (hbad : k9 < 0 ∨ 4 ≤ k9) {v9 : Int32} : WM l E yX12_carry cX12_carry 4 (some .int) (wD 8 0 0) [.ref (g.ad 1 0), .int (k9), .int (v9)] (RB E S th g) (ow g) (fun _ v H => RB E (S) (1) g H ∧ v = some (.int 0)) := by
  refine wm_of rfl (Nat.le_of_ble_eq_true rfl) (fun p e s m below meth c ls hx hb hr hml (hown : s.vm.findClass RX12 = some m.cls) hC hlocks hR hl hini => ?_)
  have hS : va_S (fun q => ow g q ∨ s.heap.size ≤ q) s.heap s.heap [] := va_S.rf
  have hl : lv_has ls 4 [(0, .ref (g.ad 1 0)), (1, .int (k9)), (2, .int (v9))] := hl
  refine lv_aload_n hx hb dX12_carry_0 rfl (lv_at hl 0 rfl) ?_
  refine lv_iload_n hx hb dX12_carry_1 rfl (lv_at hl 1 rfl) ?_
  refine rc_S (As := [.int (k9)]) hx hb hml hown hC hl (k_isNoKind_1 l E hbad) (zm_X12_62 hC.1) kv_X12_isNoKind True.intro rfl rfl (rwD_le (by decide) (by decide)) ⟨rfl, rfl⟩ (Nat.le_of_ble_eq_true rfl) ⟨Nat.zero_le _, Nat.zero_le _⟩ dX12_carry_2 ?_
  refine lv_iconst (v := 1) hx hb dX12_carry_5 (by decide) ?_
  refine wcw_V (As := [.int (1), .int (1)]) hx hb hml hown hC hl (c_X12_start1 l E hI (w9 := 1) (by decide)) (rec_of hC (RB.x hR) rfl) (zm_X12_48 hC.1) kv_X12_start hR hS (fun q h => h.imp id (Nat.le_trans hS.1)) rfl rfl (wD_le (by decide) (by decide)) (Nat.le_of_ble_eq_true rfl) ⟨Nat.le_of_ble_eq_true rfl, Nat.le_of_ble_eq_true rfl⟩ dX12_carry_6 (fun H1 locs1 hR hz hq hS => ?_)
  refine lv_if_ne (tgt := 35) hx hb dX12_carry_9 (by decide) (fun c_9 => ?_) (fun c_9 => ?_)
  ·
    have c_9 : ¬ (1 : Int32) = (0) := c_9
    refine lv_iconst (v := 0) hx hb dX12_carry_35 (by decide) ?_
    exact wr_i hx hb hr hlocks hS ⟨hR, rfl⟩ (Nat.le_of_ble_eq_true rfl) (Nat.le_of_ble_eq_true rfl) dX12_carry_36
  · exact absurd c_9 (by decide)
set_option maxRecDepth 100000 in
set_option maxHeartbeats 4000000 in
theorem r_X12_carry_2 (l : Launch) (E : EE) {S : St} {th : Int32} {g : Gh} (hI : Inv S) {k9 : Nat} (hk9 : k9 < 4) {v9 : Int32} (hbad : v9 < 0 ∨ 100 < v9) : WM l E yX12_carry cX12_carry 4 (some .int) (wD 8 0 0) [.ref (g.ad 1 0), .int (nI k9), .int (v9)] (RB E S th g) (ow g) (fun _ v H => RB E (S) (2) g H ∧ v = some (.int 0)) := by
  refine wm_of rfl (Nat.le_of_ble_eq_true rfl) (fun p e s m below meth c ls hx hb hr hml (hown : s.vm.findClass RX12 = some m.cls) hC hlocks hR hl hini => ?_)
  have hS : va_S (fun q => ow g q ∨ s.heap.size ≤ q) s.heap s.heap [] := va_S.rf
  have hl : lv_has ls 4 [(0, .ref (g.ad 1 0)), (1, .int (nI k9)), (2, .int (v9))] := hl
  refine lv_aload_n hx hb dX12_carry_0 rfl (lv_at hl 0 rfl) ?_
  refine lv_iload_n hx hb dX12_carry_1 rfl (lv_at hl 1 rfl) ?_
  refine rc_S (As := [.int (nI k9)]) hx hb hml hown hC hl (k_isNoKind_0 l E hk9) (zm_X12_62 hC.1) kv_X12_isNoKind True.intro rfl rfl (rwD_le (by decide) (by decide)) ⟨rfl, rfl⟩ (Nat.le_of_ble_eq_true rfl) ⟨Nat.zero_le _, Nat.zero_le _⟩ dX12_carry_2 ?_
  refine lv_iconst (v := 1) hx hb dX12_carry_5 (by decide) ?_
  refine wcw_V (As := [.int (0), .int (1)]) hx hb hml hown hC hl (c_X12_start0 l E hI (w9 := 1)) (rec_of hC (RB.x hR) rfl) (zm_X12_48 hC.1) kv_X12_start hR hS (fun q h => h.imp id (Nat.le_trans hS.1)) rfl rfl (wD_le (by decide) (by decide)) (Nat.le_of_ble_eq_true rfl) ⟨Nat.le_of_ble_eq_true rfl, Nat.le_of_ble_eq_true rfl⟩ dX12_carry_6 (fun H1 locs1 hR hz hq hS => ?_)
  refine lv_if_ne (tgt := 35) hx hb dX12_carry_9 (by decide) (fun c_9 => ?_) (fun c_9 => ?_)
  · exact absurd (by decide) c_9
  ·
    have c_9 : (0 : Int32) = (0) := c_9
    refine lv_aload_n hx hb dX12_carry_12 rfl (lv_at hl 0 rfl) ?_
    refine lv_iload_n hx hb dX12_carry_13 rfl (lv_at hl 2 rfl) ?_
    refine lv_iconst (v := 0) hx hb dX12_carry_14 (by decide) ?_
    refine lv_bipush (v := 100) hx hb dX12_carry_15 (by decide) ?_
    refine rc_S (As := [.int (v9), .int (0), .int (100)]) hx hb hml hown hC hl (k_isIn_0 l E hbad) (zm_X12_34 hC.1) kv_X12_isIn True.intro rfl rfl (rwD_le (by decide) (by decide)) ⟨rfl, rfl⟩ (Nat.le_of_ble_eq_true rfl) ⟨Nat.zero_le _, Nat.zero_le _⟩ dX12_carry_17 ?_
    refine lv_if_ne (tgt := 27) hx hb dX12_carry_20 (by decide) (fun c_20 => ?_) (fun c_20 => ?_)
    · exact absurd (by decide) c_20
    ·
      have c_20 : (0 : Int32) = (0) := c_20
      refine lv_iconst (v := 1) hx hb dX12_carry_23 (by decide) ?_
      refine lv_goto (tgt := 28) hx hb dX12_carry_24 (by decide) ?_
      refine lv_iconst (v := 2) hx hb dX12_carry_28 (by decide) ?_
      refine wcw_V (As := [.int (1), .int (2)]) hx hb hml hown hC hl (c_X12_refuse1 l E hI (w9 := 2) (by decide)) (rec_of hC (RB.x hR) rfl) (zm_X12_20 hC.1) kv_X12_refuse hR hS (fun q h => h.imp id (Nat.le_trans hS.1)) rfl rfl (wD_le (by decide) (by decide)) (Nat.le_of_ble_eq_true rfl) ⟨Nat.le_of_ble_eq_true rfl, Nat.le_of_ble_eq_true rfl⟩ dX12_carry_29 (fun H1 locs1 hR hz hq hS => ?_)
      refine lv_if_eq (tgt := 37) hx hb dX12_carry_32 (by decide) (fun c_32 => ?_) (fun c_32 => ?_)
      · exact absurd c_32 (by decide)
      ·
        have c_32 : ¬ (1 : Int32) = (0) := c_32
        refine lv_iconst (v := 0) hx hb dX12_carry_35 (by decide) ?_
        exact wr_i hx hb hr hlocks hS ⟨hR, rfl⟩ (Nat.le_of_ble_eq_true rfl) (Nat.le_of_ble_eq_true rfl) dX12_carry_36
set_option maxRecDepth 100000 in
set_option maxHeartbeats 4000000 in
theorem r_X12_rate_1 (l : Launch) (E : EE) {S : St} {th : Int32} {g : Gh} (hI : Inv S) {l9 : Int32} (hbad : l9 < 0 ∨ 3 ≤ l9) {k9 : Int32} {v9 : Int32} : WM l E yX12_rate cX12_rate 5 (some .int) (wD 8 0 0) [.ref (g.ad 1 0), .int (l9), .int (k9), .int (v9)] (RB E S th g) (ow g) (fun _ v H => RB E (S) (1) g H ∧ v = some (.int 0)) := by
  refine wm_of rfl (Nat.le_of_ble_eq_true rfl) (fun p e s m below meth c ls hx hb hr hml (hown : s.vm.findClass RX12 = some m.cls) hC hlocks hR hl hini => ?_)
  have hS : va_S (fun q => ow g q ∨ s.heap.size ≤ q) s.heap s.heap [] := va_S.rf
  have hl : lv_has ls 5 [(0, .ref (g.ad 1 0)), (1, .int (l9)), (2, .int (k9)), (3, .int (v9))] := hl
  refine lv_aload_n hx hb dX12_rate_0 rfl (lv_at hl 0 rfl) ?_
  refine lv_iload_n hx hb dX12_rate_1 rfl (lv_at hl 1 rfl) ?_
  refine rc_S (As := [.int (l9)]) hx hb hml hown hC hl (k_isNoLand_1 l E hbad) (zm_X12_84 hC.1) kv_X12_isNoLand True.intro rfl rfl (rwD_le (by decide) (by decide)) ⟨rfl, rfl⟩ (Nat.le_of_ble_eq_true rfl) ⟨Nat.zero_le _, Nat.zero_le _⟩ dX12_rate_2 ?_
  refine lv_if_ne (tgt := 15) hx hb dX12_rate_5 (by decide) (fun c_5 => ?_) (fun c_5 => ?_)
  ·
    refine lv_iconst (v := 1) hx hb dX12_rate_15 (by decide) ?_
    refine lv_goto (tgt := 20) hx hb dX12_rate_16 (by decide) ?_
    refine lv_iconst (v := 1) hx hb dX12_rate_20 (by decide) ?_
    refine wcw_V (As := [.int (1), .int (1)]) hx hb hml hown hC hl (c_X12_start1 l E hI (w9 := 1) (by decide)) (rec_of hC (RB.x hR) rfl) (zm_X12_48 hC.1) kv_X12_start hR hS (fun q h => h.imp id (Nat.le_trans hS.1)) rfl rfl (wD_le (by decide) (by decide)) (Nat.le_of_ble_eq_true rfl) ⟨Nat.le_of_ble_eq_true rfl, Nat.le_of_ble_eq_true rfl⟩ dX12_rate_21 (fun H1 locs1 hR hz hq hS => ?_)
    refine lv_if_ne (tgt := 50) hx hb dX12_rate_24 (by decide) (fun c_24 => ?_) (fun c_24 => ?_)
    ·
      have c_24 : ¬ (1 : Int32) = (0) := c_24
      refine lv_iconst (v := 0) hx hb dX12_rate_50 (by decide) ?_
      exact wr_i hx hb hr hlocks hS ⟨hR, rfl⟩ (Nat.le_of_ble_eq_true rfl) (Nat.le_of_ble_eq_true rfl) dX12_rate_51
    · exact absurd c_24 (by decide)
  · exact absurd c_5 (by decide)
set_option maxRecDepth 100000 in
set_option maxHeartbeats 4000000 in
theorem r_X12_rate_2 (l : Launch) (E : EE) {S : St} {th : Int32} {g : Gh} (hI : Inv S) {l9 : Nat} (hl9 : l9 < 3) {k9 : Int32} (hbad : k9 < 0 ∨ 4 ≤ k9) {v9 : Int32} : WM l E yX12_rate cX12_rate 5 (some .int) (wD 8 0 0) [.ref (g.ad 1 0), .int (nI l9), .int (k9), .int (v9)] (RB E S th g) (ow g) (fun _ v H => RB E (S) (1) g H ∧ v = some (.int 0)) := by
  refine wm_of rfl (Nat.le_of_ble_eq_true rfl) (fun p e s m below meth c ls hx hb hr hml (hown : s.vm.findClass RX12 = some m.cls) hC hlocks hR hl hini => ?_)
  have hS : va_S (fun q => ow g q ∨ s.heap.size ≤ q) s.heap s.heap [] := va_S.rf
  have hl : lv_has ls 5 [(0, .ref (g.ad 1 0)), (1, .int (nI l9)), (2, .int (k9)), (3, .int (v9))] := hl
  refine lv_aload_n hx hb dX12_rate_0 rfl (lv_at hl 0 rfl) ?_
  refine lv_iload_n hx hb dX12_rate_1 rfl (lv_at hl 1 rfl) ?_
  refine rc_S (As := [.int (nI l9)]) hx hb hml hown hC hl (k_isNoLand_0 l E hl9) (zm_X12_84 hC.1) kv_X12_isNoLand True.intro rfl rfl (rwD_le (by decide) (by decide)) ⟨rfl, rfl⟩ (Nat.le_of_ble_eq_true rfl) ⟨Nat.zero_le _, Nat.zero_le _⟩ dX12_rate_2 ?_
  refine lv_if_ne (tgt := 15) hx hb dX12_rate_5 (by decide) (fun c_5 => ?_) (fun c_5 => ?_)
  · exact absurd (by decide) c_5
  ·
    refine lv_iload_n hx hb dX12_rate_8 rfl (lv_at hl 2 rfl) ?_
    refine rc_S (As := [.int (k9)]) hx hb hml hown hC hl (k_isNoKind_1 l E hbad) (zm_X12_62 hC.1) kv_X12_isNoKind True.intro rfl rfl (rwD_le (by decide) (by decide)) ⟨rfl, rfl⟩ (Nat.le_of_ble_eq_true rfl) ⟨Nat.zero_le _, Nat.zero_le _⟩ dX12_rate_9 ?_
    refine lv_if_eq (tgt := 19) hx hb dX12_rate_12 (by decide) (fun c_12 => ?_) (fun c_12 => ?_)
    · exact absurd c_12 (by decide)
    ·
      refine lv_iconst (v := 1) hx hb dX12_rate_15 (by decide) ?_
      refine lv_goto (tgt := 20) hx hb dX12_rate_16 (by decide) ?_
      refine lv_iconst (v := 1) hx hb dX12_rate_20 (by decide) ?_
      refine wcw_V (As := [.int (1), .int (1)]) hx hb hml hown hC hl (c_X12_start1 l E hI (w9 := 1) (by decide)) (rec_of hC (RB.x hR) rfl) (zm_X12_48 hC.1) kv_X12_start hR hS (fun q h => h.imp id (Nat.le_trans hS.1)) rfl rfl (wD_le (by decide) (by decide)) (Nat.le_of_ble_eq_true rfl) ⟨Nat.le_of_ble_eq_true rfl, Nat.le_of_ble_eq_true rfl⟩ dX12_rate_21 (fun H1 locs1 hR hz hq hS => ?_)
      refine lv_if_ne (tgt := 50) hx hb dX12_rate_24 (by decide) (fun c_24 => ?_) (fun c_24 => ?_)
      ·
        have c_24 : ¬ (1 : Int32) = (0) := c_24
        refine lv_iconst (v := 0) hx hb dX12_rate_50 (by decide) ?_
        exact wr_i hx hb hr hlocks hS ⟨hR, rfl⟩ (Nat.le_of_ble_eq_true rfl) (Nat.le_of_ble_eq_true rfl) dX12_rate_51
      · exact absurd c_24 (by decide)
set_option maxRecDepth 100000 in
set_option maxHeartbeats 4000000 in
theorem r_X12_rate_3 (l : Launch) (E : EE) {S : St} {th : Int32} {g : Gh} (hI : Inv S) {l9 : Nat} (hl9 : l9 < 3) {k9 : Nat} (hk9 : k9 < 4) {v9 : Int32} (hbad : v9 < 0 ∨ 30 < v9) : WM l E yX12_rate cX12_rate 5 (some .int) (wD 8 0 0) [.ref (g.ad 1 0), .int (nI l9), .int (nI k9), .int (v9)] (RB E S th g) (ow g) (fun _ v H => RB E (S) (2) g H ∧ v = some (.int 0)) := by
  refine wm_of rfl (Nat.le_of_ble_eq_true rfl) (fun p e s m below meth c ls hx hb hr hml (hown : s.vm.findClass RX12 = some m.cls) hC hlocks hR hl hini => ?_)
  have hS : va_S (fun q => ow g q ∨ s.heap.size ≤ q) s.heap s.heap [] := va_S.rf
  have hl : lv_has ls 5 [(0, .ref (g.ad 1 0)), (1, .int (nI l9)), (2, .int (nI k9)), (3, .int (v9))] := hl
  refine lv_aload_n hx hb dX12_rate_0 rfl (lv_at hl 0 rfl) ?_
  refine lv_iload_n hx hb dX12_rate_1 rfl (lv_at hl 1 rfl) ?_
  refine rc_S (As := [.int (nI l9)]) hx hb hml hown hC hl (k_isNoLand_0 l E hl9) (zm_X12_84 hC.1) kv_X12_isNoLand True.intro rfl rfl (rwD_le (by decide) (by decide)) ⟨rfl, rfl⟩ (Nat.le_of_ble_eq_true rfl) ⟨Nat.zero_le _, Nat.zero_le _⟩ dX12_rate_2 ?_
  refine lv_if_ne (tgt := 15) hx hb dX12_rate_5 (by decide) (fun c_5 => ?_) (fun c_5 => ?_)
  · exact absurd (by decide) c_5
  ·
    refine lv_iload_n hx hb dX12_rate_8 rfl (lv_at hl 2 rfl) ?_
    refine rc_S (As := [.int (nI k9)]) hx hb hml hown hC hl (k_isNoKind_0 l E hk9) (zm_X12_62 hC.1) kv_X12_isNoKind True.intro rfl rfl (rwD_le (by decide) (by decide)) ⟨rfl, rfl⟩ (Nat.le_of_ble_eq_true rfl) ⟨Nat.zero_le _, Nat.zero_le _⟩ dX12_rate_9 ?_
    refine lv_if_eq (tgt := 19) hx hb dX12_rate_12 (by decide) (fun c_12 => ?_) (fun c_12 => ?_)
    ·
      refine lv_iconst (v := 0) hx hb dX12_rate_19 (by decide) ?_
      refine lv_iconst (v := 1) hx hb dX12_rate_20 (by decide) ?_
      refine wcw_V (As := [.int (0), .int (1)]) hx hb hml hown hC hl (c_X12_start0 l E hI (w9 := 1)) (rec_of hC (RB.x hR) rfl) (zm_X12_48 hC.1) kv_X12_start hR hS (fun q h => h.imp id (Nat.le_trans hS.1)) rfl rfl (wD_le (by decide) (by decide)) (Nat.le_of_ble_eq_true rfl) ⟨Nat.le_of_ble_eq_true rfl, Nat.le_of_ble_eq_true rfl⟩ dX12_rate_21 (fun H1 locs1 hR hz hq hS => ?_)
      refine lv_if_ne (tgt := 50) hx hb dX12_rate_24 (by decide) (fun c_24 => ?_) (fun c_24 => ?_)
      · exact absurd (by decide) c_24
      ·
        have c_24 : (0 : Int32) = (0) := c_24
        refine lv_aload_n hx hb dX12_rate_27 rfl (lv_at hl 0 rfl) ?_
        refine lv_iload_n hx hb dX12_rate_28 rfl (lv_at hl 3 rfl) ?_
        refine lv_iconst (v := 0) hx hb dX12_rate_29 (by decide) ?_
        refine lv_bipush (v := 30) hx hb dX12_rate_30 (by decide) ?_
        refine rc_S (As := [.int (v9), .int (0), .int (30)]) hx hb hml hown hC hl (k_isIn_0 l E hbad) (zm_X12_34 hC.1) kv_X12_isIn True.intro rfl rfl (rwD_le (by decide) (by decide)) ⟨rfl, rfl⟩ (Nat.le_of_ble_eq_true rfl) ⟨Nat.zero_le _, Nat.zero_le _⟩ dX12_rate_32 ?_
        refine lv_if_ne (tgt := 42) hx hb dX12_rate_35 (by decide) (fun c_35 => ?_) (fun c_35 => ?_)
        · exact absurd (by decide) c_35
        ·
          have c_35 : (0 : Int32) = (0) := c_35
          refine lv_iconst (v := 1) hx hb dX12_rate_38 (by decide) ?_
          refine lv_goto (tgt := 43) hx hb dX12_rate_39 (by decide) ?_
          refine lv_iconst (v := 2) hx hb dX12_rate_43 (by decide) ?_
          refine wcw_V (As := [.int (1), .int (2)]) hx hb hml hown hC hl (c_X12_refuse1 l E hI (w9 := 2) (by decide)) (rec_of hC (RB.x hR) rfl) (zm_X12_20 hC.1) kv_X12_refuse hR hS (fun q h => h.imp id (Nat.le_trans hS.1)) rfl rfl (wD_le (by decide) (by decide)) (Nat.le_of_ble_eq_true rfl) ⟨Nat.le_of_ble_eq_true rfl, Nat.le_of_ble_eq_true rfl⟩ dX12_rate_44 (fun H1 locs1 hR hz hq hS => ?_)
          refine lv_if_eq (tgt := 52) hx hb dX12_rate_47 (by decide) (fun c_47 => ?_) (fun c_47 => ?_)
          · exact absurd c_47 (by decide)
          ·
            have c_47 : ¬ (1 : Int32) = (0) := c_47
            refine lv_iconst (v := 0) hx hb dX12_rate_50 (by decide) ?_
            exact wr_i hx hb hr hlocks hS ⟨hR, rfl⟩ (Nat.le_of_ble_eq_true rfl) (Nat.le_of_ble_eq_true rfl) dX12_rate_51
    · exact absurd (by decide) c_12
set_option maxRecDepth 100000 in
set_option maxHeartbeats 4000000 in
theorem r_X12_left_1 (l : Launch) (E : EE) {S : St} {th : Int32} {g : Gh} (hI : Inv S) {k9 : Int32} (hbad : k9 < 0 ∨ 4 ≤ k9) {y9 : Int32} : WM l E yX12_left cX12_left 3 (some .int) (wD 8 0 0) [.ref (g.ad 1 0), .int (k9), .int (y9)] (RB E S th g) (ow g) (fun _ v H => RB E (S) (1) g H ∧ v = some (.int 0)) := by
  refine wm_of rfl (Nat.le_of_ble_eq_true rfl) (fun p e s m below meth c ls hx hb hr hml (hown : s.vm.findClass RX12 = some m.cls) hC hlocks hR hl hini => ?_)
  have hS : va_S (fun q => ow g q ∨ s.heap.size ≤ q) s.heap s.heap [] := va_S.rf
  have hl : lv_has ls 3 [(0, .ref (g.ad 1 0)), (1, .int (k9)), (2, .int (y9))] := hl
  refine lv_aload_n hx hb dX12_left_0 rfl (lv_at hl 0 rfl) ?_
  refine lv_iload_n hx hb dX12_left_1 rfl (lv_at hl 1 rfl) ?_
  refine lv_iload_n hx hb dX12_left_2 rfl (lv_at hl 2 rfl) ?_
  refine wcw_V (As := [.int (k9), .int (y9)]) hx hb hml hown hC hl (c_X12_isNoBudget_1 l E hI hbad) (rec_of hC (RB.x hR) rfl) (zm_X12_148 hC.1) kv_X12_isNoBudget hR hS (fun q h => h.imp id (Nat.le_trans hS.1)) rfl rfl (wD_le (by decide) (by decide)) (Nat.le_of_ble_eq_true rfl) ⟨Nat.le_of_ble_eq_true rfl, Nat.le_of_ble_eq_true rfl⟩ dX12_left_3 (fun H1 locs1 hR hz hq hS => ?_)
  refine lv_if_eq (tgt := 13) hx hb dX12_left_6 (by decide) (fun c_6 => ?_) (fun c_6 => ?_)
  · exact absurd c_6 (by decide)
  ·
    have c_6 : ¬ (1 : Int32) = (0) := c_6
    refine lv_iconst (v := 0) hx hb dX12_left_9 (by decide) ?_
    refine lv_goto (tgt := 23) hx hb dX12_left_10 (by decide) ?_
    exact wr_i hx hb hr hlocks hS ⟨hR, rfl⟩ (Nat.le_of_ble_eq_true rfl) (Nat.le_of_ble_eq_true rfl) dX12_left_23
set_option maxRecDepth 100000 in
set_option maxHeartbeats 4000000 in
theorem r_X12_left_2 (l : Launch) (E : EE) {S : St} {th : Int32} {g : Gh} (hI : Inv S) {k9 : Nat} (hk9 : k9 < 4) {y9 : Int32} (hbad : y9 < 0 ∨ 4 ≤ y9) : WM l E yX12_left cX12_left 3 (some .int) (wD 8 0 0) [.ref (g.ad 1 0), .int (nI k9), .int (y9)] (RB E S th g) (ow g) (fun _ v H => RB E (S) (1) g H ∧ v = some (.int 0)) := by
  refine wm_of rfl (Nat.le_of_ble_eq_true rfl) (fun p e s m below meth c ls hx hb hr hml (hown : s.vm.findClass RX12 = some m.cls) hC hlocks hR hl hini => ?_)
  have hS : va_S (fun q => ow g q ∨ s.heap.size ≤ q) s.heap s.heap [] := va_S.rf
  have hl : lv_has ls 3 [(0, .ref (g.ad 1 0)), (1, .int (nI k9)), (2, .int (y9))] := hl
  refine lv_aload_n hx hb dX12_left_0 rfl (lv_at hl 0 rfl) ?_
  refine lv_iload_n hx hb dX12_left_1 rfl (lv_at hl 1 rfl) ?_
  refine lv_iload_n hx hb dX12_left_2 rfl (lv_at hl 2 rfl) ?_
  refine wcw_V (As := [.int (nI k9), .int (y9)]) hx hb hml hown hC hl (c_X12_isNoBudget_2 l E hI hk9 hbad) (rec_of hC (RB.x hR) rfl) (zm_X12_148 hC.1) kv_X12_isNoBudget hR hS (fun q h => h.imp id (Nat.le_trans hS.1)) rfl rfl (wD_le (by decide) (by decide)) (Nat.le_of_ble_eq_true rfl) ⟨Nat.le_of_ble_eq_true rfl, Nat.le_of_ble_eq_true rfl⟩ dX12_left_3 (fun H1 locs1 hR hz hq hS => ?_)
  refine lv_if_eq (tgt := 13) hx hb dX12_left_6 (by decide) (fun c_6 => ?_) (fun c_6 => ?_)
  · exact absurd c_6 (by decide)
  ·
    have c_6 : ¬ (1 : Int32) = (0) := c_6
    refine lv_iconst (v := 0) hx hb dX12_left_9 (by decide) ?_
    refine lv_goto (tgt := 23) hx hb dX12_left_10 (by decide) ?_
    exact wr_i hx hb hr hlocks hS ⟨hR, rfl⟩ (Nat.le_of_ble_eq_true rfl) (Nat.le_of_ble_eq_true rfl) dX12_left_23
set_option maxRecDepth 100000 in
set_option maxHeartbeats 4000000 in
theorem r_X12_leftWith_1 (l : Launch) (E : EE) {S : St} {th : Int32} {g : Gh} (hI : Inv S) {k9 : Int32} (hbad : k9 < 0 ∨ 4 ≤ k9) {y9 : Int32} : WM l E yX12_leftWith cX12_leftWith 3 (some .int) (wD 8 0 0) [.ref (g.ad 1 0), .int (k9), .int (y9)] (RB E S th g) (ow g) (fun _ v H => RB E (S) (1) g H ∧ v = some (.int 0)) := by
  refine wm_of rfl (Nat.le_of_ble_eq_true rfl) (fun p e s m below meth c ls hx hb hr hml (hown : s.vm.findClass RX12 = some m.cls) hC hlocks hR hl hini => ?_)
  have hS : va_S (fun q => ow g q ∨ s.heap.size ≤ q) s.heap s.heap [] := va_S.rf
  have hl : lv_has ls 3 [(0, .ref (g.ad 1 0)), (1, .int (k9)), (2, .int (y9))] := hl
  refine lv_aload_n hx hb dX12_leftWith_0 rfl (lv_at hl 0 rfl) ?_
  refine lv_iload_n hx hb dX12_leftWith_1 rfl (lv_at hl 1 rfl) ?_
  refine lv_iload_n hx hb dX12_leftWith_2 rfl (lv_at hl 2 rfl) ?_
  refine wcw_V (As := [.int (k9), .int (y9)]) hx hb hml hown hC hl (c_X12_isNoBudget_1 l E hI hbad) (rec_of hC (RB.x hR) rfl) (zm_X12_148 hC.1) kv_X12_isNoBudget hR hS (fun q h => h.imp id (Nat.le_trans hS.1)) rfl rfl (wD_le (by decide) (by decide)) (Nat.le_of_ble_eq_true rfl) ⟨Nat.le_of_ble_eq_true rfl, Nat.le_of_ble_eq_true rfl⟩ dX12_leftWith_3 (fun H1 locs1 hR hz hq hS => ?_)
  refine lv_if_eq (tgt := 13) hx hb dX12_leftWith_6 (by decide) (fun c_6 => ?_) (fun c_6 => ?_)
  · exact absurd c_6 (by decide)
  ·
    have c_6 : ¬ (1 : Int32) = (0) := c_6
    refine lv_iconst (v := 0) hx hb dX12_leftWith_9 (by decide) ?_
    refine lv_goto (tgt := 23) hx hb dX12_leftWith_10 (by decide) ?_
    exact wr_i hx hb hr hlocks hS ⟨hR, rfl⟩ (Nat.le_of_ble_eq_true rfl) (Nat.le_of_ble_eq_true rfl) dX12_leftWith_23
set_option maxRecDepth 100000 in
set_option maxHeartbeats 4000000 in
theorem r_X12_leftWith_2 (l : Launch) (E : EE) {S : St} {th : Int32} {g : Gh} (hI : Inv S) {k9 : Nat} (hk9 : k9 < 4) {y9 : Int32} (hbad : y9 < 0 ∨ 4 ≤ y9) : WM l E yX12_leftWith cX12_leftWith 3 (some .int) (wD 8 0 0) [.ref (g.ad 1 0), .int (nI k9), .int (y9)] (RB E S th g) (ow g) (fun _ v H => RB E (S) (1) g H ∧ v = some (.int 0)) := by
  refine wm_of rfl (Nat.le_of_ble_eq_true rfl) (fun p e s m below meth c ls hx hb hr hml (hown : s.vm.findClass RX12 = some m.cls) hC hlocks hR hl hini => ?_)
  have hS : va_S (fun q => ow g q ∨ s.heap.size ≤ q) s.heap s.heap [] := va_S.rf
  have hl : lv_has ls 3 [(0, .ref (g.ad 1 0)), (1, .int (nI k9)), (2, .int (y9))] := hl
  refine lv_aload_n hx hb dX12_leftWith_0 rfl (lv_at hl 0 rfl) ?_
  refine lv_iload_n hx hb dX12_leftWith_1 rfl (lv_at hl 1 rfl) ?_
  refine lv_iload_n hx hb dX12_leftWith_2 rfl (lv_at hl 2 rfl) ?_
  refine wcw_V (As := [.int (nI k9), .int (y9)]) hx hb hml hown hC hl (c_X12_isNoBudget_2 l E hI hk9 hbad) (rec_of hC (RB.x hR) rfl) (zm_X12_148 hC.1) kv_X12_isNoBudget hR hS (fun q h => h.imp id (Nat.le_trans hS.1)) rfl rfl (wD_le (by decide) (by decide)) (Nat.le_of_ble_eq_true rfl) ⟨Nat.le_of_ble_eq_true rfl, Nat.le_of_ble_eq_true rfl⟩ dX12_leftWith_3 (fun H1 locs1 hR hz hq hS => ?_)
  refine lv_if_eq (tgt := 13) hx hb dX12_leftWith_6 (by decide) (fun c_6 => ?_) (fun c_6 => ?_)
  · exact absurd c_6 (by decide)
  ·
    have c_6 : ¬ (1 : Int32) = (0) := c_6
    refine lv_iconst (v := 0) hx hb dX12_leftWith_9 (by decide) ?_
    refine lv_goto (tgt := 23) hx hb dX12_leftWith_10 (by decide) ?_
    exact wr_i hx hb hr hlocks hS ⟨hR, rfl⟩ (Nat.le_of_ble_eq_true rfl) (Nat.le_of_ble_eq_true rfl) dX12_leftWith_23
set_option maxRecDepth 100000 in
set_option maxHeartbeats 4000000 in
theorem r_X12_charge_1 (l : Launch) (E : EE) {S : St} {th : Int32} {g : Gh} (hI : Inv S) {p9 : Int32} (hbad : p9 < 0 ∨ nI S.np ≤ p9) {k9 : Int32} {l9 : Int32} {a9 : Int32} {x9 : Int32} : WM l E yX12_charge cX12_charge 6 (some .int) (wD 8 0 0) [.ref (g.ad 1 0), .int (p9), .int (k9), .int (l9), .int (a9), .int (x9)] (RB E S th g) (ow g) (fun _ v H => RB E (S) (1) g H ∧ v = some (.int 0)) := by
  refine wm_of rfl (Nat.le_of_ble_eq_true rfl) (fun p e s m below meth c ls hx hb hr hml (hown : s.vm.findClass RX12 = some m.cls) hC hlocks hR hl hini => ?_)
  have hS : va_S (fun q => ow g q ∨ s.heap.size ≤ q) s.heap s.heap [] := va_S.rf
  have hl : lv_has ls 6 [(0, .ref (g.ad 1 0)), (1, .int (p9)), (2, .int (k9)), (3, .int (l9)), (4, .int (a9)), (5, .int (x9))] := hl
  refine lv_aload_n hx hb dX12_charge_0 rfl (lv_at hl 0 rfl) ?_
  refine lv_aload_n hx hb dX12_charge_1 rfl (lv_at hl 0 rfl) ?_
  refine lv_iload_n hx hb dX12_charge_2 rfl (lv_at hl 1 rfl) ?_
  refine rc_V (As := [.int (p9)]) hx hb hml hown hC hl (k_isNo_1 l E hI hbad) (rec_of hC (RB.x hR) rfl) (zm_X12_44 hC.1) kv_X12_isNo hR rfl rfl (rwD_le (by decide) (by decide)) ⟨rfl, rfl⟩ (Nat.le_of_ble_eq_true rfl) ⟨Nat.zero_le _, Nat.zero_le _⟩ dX12_charge_3 ?_
  refine lv_if_ne (tgt := 23) hx hb dX12_charge_6 (by decide) (fun c_6 => ?_) (fun c_6 => ?_)
  ·
    refine lv_iconst (v := 1) hx hb dX12_charge_23 (by decide) ?_
    refine lv_goto (tgt := 28) hx hb dX12_charge_24 (by decide) ?_
    refine lv_iconst (v := 1) hx hb dX12_charge_28 (by decide) ?_
    refine wcw_V (As := [.int (1), .int (1)]) hx hb hml hown hC hl (c_X12_start1 l E hI (w9 := 1) (by decide)) (rec_of hC (RB.x hR) rfl) (zm_X12_48 hC.1) kv_X12_start hR hS (fun q h => h.imp id (Nat.le_trans hS.1)) rfl rfl (wD_le (by decide) (by decide)) (Nat.le_of_ble_eq_true rfl) ⟨Nat.le_of_ble_eq_true rfl, Nat.le_of_ble_eq_true rfl⟩ dX12_charge_29 (fun H1 locs1 hR hz hq hS => ?_)
    refine lv_if_ne (tgt := 68) hx hb dX12_charge_32 (by decide) (fun c_32 => ?_) (fun c_32 => ?_)
    ·
      have c_32 : ¬ (1 : Int32) = (0) := c_32
      refine lv_iconst (v := 0) hx hb dX12_charge_68 (by decide) ?_
      exact wr_i hx hb hr hlocks hS ⟨hR, rfl⟩ (Nat.le_of_ble_eq_true rfl) (Nat.le_of_ble_eq_true rfl) dX12_charge_69
    · exact absurd c_32 (by decide)
  · exact absurd c_6 (by decide)
set_option maxRecDepth 100000 in
set_option maxHeartbeats 4000000 in
theorem r_X12_charge_2 (l : Launch) (E : EE) {S : St} {th : Int32} {g : Gh} (hI : Inv S) {p9 : Nat} (hp9 : p9 < S.np) {k9 : Int32} (hbad : k9 < 0 ∨ 4 ≤ k9) {l9 : Int32} {a9 : Int32} {x9 : Int32} : WM l E yX12_charge cX12_charge 6 (some .int) (wD 8 0 0) [.ref (g.ad 1 0), .int (nI p9), .int (k9), .int (l9), .int (a9), .int (x9)] (RB E S th g) (ow g) (fun _ v H => RB E (S) (1) g H ∧ v = some (.int 0)) := by
  refine wm_of rfl (Nat.le_of_ble_eq_true rfl) (fun p e s m below meth c ls hx hb hr hml (hown : s.vm.findClass RX12 = some m.cls) hC hlocks hR hl hini => ?_)
  have hS : va_S (fun q => ow g q ∨ s.heap.size ≤ q) s.heap s.heap [] := va_S.rf
  have hl : lv_has ls 6 [(0, .ref (g.ad 1 0)), (1, .int (nI p9)), (2, .int (k9)), (3, .int (l9)), (4, .int (a9)), (5, .int (x9))] := hl
  refine lv_aload_n hx hb dX12_charge_0 rfl (lv_at hl 0 rfl) ?_
  refine lv_aload_n hx hb dX12_charge_1 rfl (lv_at hl 0 rfl) ?_
  refine lv_iload_n hx hb dX12_charge_2 rfl (lv_at hl 1 rfl) ?_
  refine rc_V (As := [.int (nI p9)]) hx hb hml hown hC hl (k_isNo_0 l E hI hp9) (rec_of hC (RB.x hR) rfl) (zm_X12_44 hC.1) kv_X12_isNo hR rfl rfl (rwD_le (by decide) (by decide)) ⟨rfl, rfl⟩ (Nat.le_of_ble_eq_true rfl) ⟨Nat.zero_le _, Nat.zero_le _⟩ dX12_charge_3 ?_
  refine lv_if_ne (tgt := 23) hx hb dX12_charge_6 (by decide) (fun c_6 => ?_) (fun c_6 => ?_)
  · exact absurd (by decide) c_6
  ·
    refine lv_iload_n hx hb dX12_charge_9 rfl (lv_at hl 2 rfl) ?_
    refine rc_S (As := [.int (k9)]) hx hb hml hown hC hl (k_isNoKind_1 l E hbad) (zm_X12_62 hC.1) kv_X12_isNoKind True.intro rfl rfl (rwD_le (by decide) (by decide)) ⟨rfl, rfl⟩ (Nat.le_of_ble_eq_true rfl) ⟨Nat.zero_le _, Nat.zero_le _⟩ dX12_charge_10 ?_
    refine lv_if_ne (tgt := 23) hx hb dX12_charge_13 (by decide) (fun c_13 => ?_) (fun c_13 => ?_)
    ·
      refine lv_iconst (v := 1) hx hb dX12_charge_23 (by decide) ?_
      refine lv_goto (tgt := 28) hx hb dX12_charge_24 (by decide) ?_
      refine lv_iconst (v := 1) hx hb dX12_charge_28 (by decide) ?_
      refine wcw_V (As := [.int (1), .int (1)]) hx hb hml hown hC hl (c_X12_start1 l E hI (w9 := 1) (by decide)) (rec_of hC (RB.x hR) rfl) (zm_X12_48 hC.1) kv_X12_start hR hS (fun q h => h.imp id (Nat.le_trans hS.1)) rfl rfl (wD_le (by decide) (by decide)) (Nat.le_of_ble_eq_true rfl) ⟨Nat.le_of_ble_eq_true rfl, Nat.le_of_ble_eq_true rfl⟩ dX12_charge_29 (fun H1 locs1 hR hz hq hS => ?_)
      refine lv_if_ne (tgt := 68) hx hb dX12_charge_32 (by decide) (fun c_32 => ?_) (fun c_32 => ?_)
      ·
        have c_32 : ¬ (1 : Int32) = (0) := c_32
        refine lv_iconst (v := 0) hx hb dX12_charge_68 (by decide) ?_
        exact wr_i hx hb hr hlocks hS ⟨hR, rfl⟩ (Nat.le_of_ble_eq_true rfl) (Nat.le_of_ble_eq_true rfl) dX12_charge_69
      · exact absurd c_32 (by decide)
    · exact absurd c_13 (by decide)
set_option maxRecDepth 100000 in
set_option maxHeartbeats 4000000 in
theorem r_X12_charge_3 (l : Launch) (E : EE) {S : St} {th : Int32} {g : Gh} (hI : Inv S) {p9 : Nat} (hp9 : p9 < S.np) {k9 : Nat} (hk9 : k9 < 4) {l9 : Int32} (hbad : l9 < 0 ∨ 3 ≤ l9) {a9 : Int32} {x9 : Int32} : WM l E yX12_charge cX12_charge 6 (some .int) (wD 8 0 0) [.ref (g.ad 1 0), .int (nI p9), .int (nI k9), .int (l9), .int (a9), .int (x9)] (RB E S th g) (ow g) (fun _ v H => RB E (S) (1) g H ∧ v = some (.int 0)) := by
  refine wm_of rfl (Nat.le_of_ble_eq_true rfl) (fun p e s m below meth c ls hx hb hr hml (hown : s.vm.findClass RX12 = some m.cls) hC hlocks hR hl hini => ?_)
  have hS : va_S (fun q => ow g q ∨ s.heap.size ≤ q) s.heap s.heap [] := va_S.rf
  have hl : lv_has ls 6 [(0, .ref (g.ad 1 0)), (1, .int (nI p9)), (2, .int (nI k9)), (3, .int (l9)), (4, .int (a9)), (5, .int (x9))] := hl
  refine lv_aload_n hx hb dX12_charge_0 rfl (lv_at hl 0 rfl) ?_
  refine lv_aload_n hx hb dX12_charge_1 rfl (lv_at hl 0 rfl) ?_
  refine lv_iload_n hx hb dX12_charge_2 rfl (lv_at hl 1 rfl) ?_
  refine rc_V (As := [.int (nI p9)]) hx hb hml hown hC hl (k_isNo_0 l E hI hp9) (rec_of hC (RB.x hR) rfl) (zm_X12_44 hC.1) kv_X12_isNo hR rfl rfl (rwD_le (by decide) (by decide)) ⟨rfl, rfl⟩ (Nat.le_of_ble_eq_true rfl) ⟨Nat.zero_le _, Nat.zero_le _⟩ dX12_charge_3 ?_
  refine lv_if_ne (tgt := 23) hx hb dX12_charge_6 (by decide) (fun c_6 => ?_) (fun c_6 => ?_)
  · exact absurd (by decide) c_6
  ·
    refine lv_iload_n hx hb dX12_charge_9 rfl (lv_at hl 2 rfl) ?_
    refine rc_S (As := [.int (nI k9)]) hx hb hml hown hC hl (k_isNoKind_0 l E hk9) (zm_X12_62 hC.1) kv_X12_isNoKind True.intro rfl rfl (rwD_le (by decide) (by decide)) ⟨rfl, rfl⟩ (Nat.le_of_ble_eq_true rfl) ⟨Nat.zero_le _, Nat.zero_le _⟩ dX12_charge_10 ?_
    refine lv_if_ne (tgt := 23) hx hb dX12_charge_13 (by decide) (fun c_13 => ?_) (fun c_13 => ?_)
    · exact absurd (by decide) c_13
    ·
      refine lv_iload_n hx hb dX12_charge_16 rfl (lv_at hl 3 rfl) ?_
      refine rc_S (As := [.int (l9)]) hx hb hml hown hC hl (k_isNoLand_1 l E hbad) (zm_X12_84 hC.1) kv_X12_isNoLand True.intro rfl rfl (rwD_le (by decide) (by decide)) ⟨rfl, rfl⟩ (Nat.le_of_ble_eq_true rfl) ⟨Nat.zero_le _, Nat.zero_le _⟩ dX12_charge_17 ?_
      refine lv_if_eq (tgt := 27) hx hb dX12_charge_20 (by decide) (fun c_20 => ?_) (fun c_20 => ?_)
      · exact absurd c_20 (by decide)
      ·
        refine lv_iconst (v := 1) hx hb dX12_charge_23 (by decide) ?_
        refine lv_goto (tgt := 28) hx hb dX12_charge_24 (by decide) ?_
        refine lv_iconst (v := 1) hx hb dX12_charge_28 (by decide) ?_
        refine wcw_V (As := [.int (1), .int (1)]) hx hb hml hown hC hl (c_X12_start1 l E hI (w9 := 1) (by decide)) (rec_of hC (RB.x hR) rfl) (zm_X12_48 hC.1) kv_X12_start hR hS (fun q h => h.imp id (Nat.le_trans hS.1)) rfl rfl (wD_le (by decide) (by decide)) (Nat.le_of_ble_eq_true rfl) ⟨Nat.le_of_ble_eq_true rfl, Nat.le_of_ble_eq_true rfl⟩ dX12_charge_29 (fun H1 locs1 hR hz hq hS => ?_)
        refine lv_if_ne (tgt := 68) hx hb dX12_charge_32 (by decide) (fun c_32 => ?_) (fun c_32 => ?_)
        ·
          have c_32 : ¬ (1 : Int32) = (0) := c_32
          refine lv_iconst (v := 0) hx hb dX12_charge_68 (by decide) ?_
          exact wr_i hx hb hr hlocks hS ⟨hR, rfl⟩ (Nat.le_of_ble_eq_true rfl) (Nat.le_of_ble_eq_true rfl) dX12_charge_69
        · exact absurd c_32 (by decide)
set_option maxRecDepth 100000 in
set_option maxHeartbeats 4000000 in
theorem r_X12_charge_4 (l : Launch) (E : EE) {S : St} {th : Int32} {g : Gh} (hI : Inv S) {p9 : Nat} (hp9 : p9 < S.np) {k9 : Nat} (hk9 : k9 < 4) {l9 : Nat} (hl9 : l9 < 3) {a9 : Int32} (hbad : a9 < 1 ∨ 9999 < a9) {x9 : Int32} : WM l E yX12_charge cX12_charge 6 (some .int) (wD 8 0 0) [.ref (g.ad 1 0), .int (nI p9), .int (nI k9), .int (nI l9), .int (a9), .int (x9)] (RB E S th g) (ow g) (fun _ v H => RB E (S) (2) g H ∧ v = some (.int 0)) := by
  refine wm_of rfl (Nat.le_of_ble_eq_true rfl) (fun p e s m below meth c ls hx hb hr hml (hown : s.vm.findClass RX12 = some m.cls) hC hlocks hR hl hini => ?_)
  have hS : va_S (fun q => ow g q ∨ s.heap.size ≤ q) s.heap s.heap [] := va_S.rf
  have hl : lv_has ls 6 [(0, .ref (g.ad 1 0)), (1, .int (nI p9)), (2, .int (nI k9)), (3, .int (nI l9)), (4, .int (a9)), (5, .int (x9))] := hl
  refine lv_aload_n hx hb dX12_charge_0 rfl (lv_at hl 0 rfl) ?_
  refine lv_aload_n hx hb dX12_charge_1 rfl (lv_at hl 0 rfl) ?_
  refine lv_iload_n hx hb dX12_charge_2 rfl (lv_at hl 1 rfl) ?_
  refine rc_V (As := [.int (nI p9)]) hx hb hml hown hC hl (k_isNo_0 l E hI hp9) (rec_of hC (RB.x hR) rfl) (zm_X12_44 hC.1) kv_X12_isNo hR rfl rfl (rwD_le (by decide) (by decide)) ⟨rfl, rfl⟩ (Nat.le_of_ble_eq_true rfl) ⟨Nat.zero_le _, Nat.zero_le _⟩ dX12_charge_3 ?_
  refine lv_if_ne (tgt := 23) hx hb dX12_charge_6 (by decide) (fun c_6 => ?_) (fun c_6 => ?_)
  · exact absurd (by decide) c_6
  ·
    refine lv_iload_n hx hb dX12_charge_9 rfl (lv_at hl 2 rfl) ?_
    refine rc_S (As := [.int (nI k9)]) hx hb hml hown hC hl (k_isNoKind_0 l E hk9) (zm_X12_62 hC.1) kv_X12_isNoKind True.intro rfl rfl (rwD_le (by decide) (by decide)) ⟨rfl, rfl⟩ (Nat.le_of_ble_eq_true rfl) ⟨Nat.zero_le _, Nat.zero_le _⟩ dX12_charge_10 ?_
    refine lv_if_ne (tgt := 23) hx hb dX12_charge_13 (by decide) (fun c_13 => ?_) (fun c_13 => ?_)
    · exact absurd (by decide) c_13
    ·
      refine lv_iload_n hx hb dX12_charge_16 rfl (lv_at hl 3 rfl) ?_
      refine rc_S (As := [.int (nI l9)]) hx hb hml hown hC hl (k_isNoLand_0 l E hl9) (zm_X12_84 hC.1) kv_X12_isNoLand True.intro rfl rfl (rwD_le (by decide) (by decide)) ⟨rfl, rfl⟩ (Nat.le_of_ble_eq_true rfl) ⟨Nat.zero_le _, Nat.zero_le _⟩ dX12_charge_17 ?_
      refine lv_if_eq (tgt := 27) hx hb dX12_charge_20 (by decide) (fun c_20 => ?_) (fun c_20 => ?_)
      ·
        refine lv_iconst (v := 0) hx hb dX12_charge_27 (by decide) ?_
        refine lv_iconst (v := 1) hx hb dX12_charge_28 (by decide) ?_
        refine wcw_V (As := [.int (0), .int (1)]) hx hb hml hown hC hl (c_X12_start0 l E hI (w9 := 1)) (rec_of hC (RB.x hR) rfl) (zm_X12_48 hC.1) kv_X12_start hR hS (fun q h => h.imp id (Nat.le_trans hS.1)) rfl rfl (wD_le (by decide) (by decide)) (Nat.le_of_ble_eq_true rfl) ⟨Nat.le_of_ble_eq_true rfl, Nat.le_of_ble_eq_true rfl⟩ dX12_charge_29 (fun H1 locs1 hR hz hq hS => ?_)
        refine lv_if_ne (tgt := 68) hx hb dX12_charge_32 (by decide) (fun c_32 => ?_) (fun c_32 => ?_)
        · exact absurd (by decide) c_32
        ·
          have c_32 : (0 : Int32) = (0) := c_32
          refine lv_aload_n hx hb dX12_charge_35 rfl (lv_at hl 0 rfl) ?_
          refine lv_iload hx hb dX12_charge_36 (lv_at hl 4 rfl) ?_
          refine lv_iconst (v := 1) hx hb dX12_charge_38 (by decide) ?_
          refine lv_sipush (v := 9999) hx hb dX12_charge_39 (by decide) ?_
          refine rc_S (As := [.int (a9), .int (1), .int (9999)]) hx hb hml hown hC hl (k_isIn_0 l E hbad) (zm_X12_34 hC.1) kv_X12_isIn True.intro rfl rfl (rwD_le (by decide) (by decide)) ⟨rfl, rfl⟩ (Nat.le_of_ble_eq_true rfl) ⟨Nat.zero_le _, Nat.zero_le _⟩ dX12_charge_42 ?_
          refine lv_if_eq (tgt := 56) hx hb dX12_charge_45 (by decide) (fun c_45 => ?_) (fun c_45 => ?_)
          ·
            have c_45 : (0 : Int32) = (0) := c_45
            refine lv_iconst (v := 1) hx hb dX12_charge_56 (by decide) ?_
            refine lv_goto (tgt := 61) hx hb dX12_charge_57 (by decide) ?_
            refine lv_iconst (v := 2) hx hb dX12_charge_61 (by decide) ?_
            refine wcw_V (As := [.int (1), .int (2)]) hx hb hml hown hC hl (c_X12_refuse1 l E hI (w9 := 2) (by decide)) (rec_of hC (RB.x hR) rfl) (zm_X12_20 hC.1) kv_X12_refuse hR hS (fun q h => h.imp id (Nat.le_trans hS.1)) rfl rfl (wD_le (by decide) (by decide)) (Nat.le_of_ble_eq_true rfl) ⟨Nat.le_of_ble_eq_true rfl, Nat.le_of_ble_eq_true rfl⟩ dX12_charge_62 (fun H1 locs1 hR hz hq hS => ?_)
            refine lv_if_eq (tgt := 70) hx hb dX12_charge_65 (by decide) (fun c_65 => ?_) (fun c_65 => ?_)
            · exact absurd c_65 (by decide)
            ·
              have c_65 : ¬ (1 : Int32) = (0) := c_65
              refine lv_iconst (v := 0) hx hb dX12_charge_68 (by decide) ?_
              exact wr_i hx hb hr hlocks hS ⟨hR, rfl⟩ (Nat.le_of_ble_eq_true rfl) (Nat.le_of_ble_eq_true rfl) dX12_charge_69
          · exact absurd (by decide) c_45
      · exact absurd (by decide) c_20
set_option maxRecDepth 100000 in
set_option maxHeartbeats 4000000 in
theorem r_X12_charge_5 (l : Launch) (E : EE) {S : St} {th : Int32} {g : Gh} (hI : Inv S) {p9 : Nat} (hp9 : p9 < S.np) {k9 : Nat} (hk9 : k9 < 4) {l9 : Nat} (hl9 : l9 < 3) {a9 : Int32} (ha91 : ¬ a9 < 1) (ha92 : ¬ 9999 < a9) {x9 : Int32} (hbad : x9 < 0 ∨ 9 < x9) : WM l E yX12_charge cX12_charge 6 (some .int) (wD 8 0 0) [.ref (g.ad 1 0), .int (nI p9), .int (nI k9), .int (nI l9), .int (a9), .int (x9)] (RB E S th g) (ow g) (fun _ v H => RB E (S) (2) g H ∧ v = some (.int 0)) := by
  refine wm_of rfl (Nat.le_of_ble_eq_true rfl) (fun p e s m below meth c ls hx hb hr hml (hown : s.vm.findClass RX12 = some m.cls) hC hlocks hR hl hini => ?_)
  have hS : va_S (fun q => ow g q ∨ s.heap.size ≤ q) s.heap s.heap [] := va_S.rf
  have hl : lv_has ls 6 [(0, .ref (g.ad 1 0)), (1, .int (nI p9)), (2, .int (nI k9)), (3, .int (nI l9)), (4, .int (a9)), (5, .int (x9))] := hl
  refine lv_aload_n hx hb dX12_charge_0 rfl (lv_at hl 0 rfl) ?_
  refine lv_aload_n hx hb dX12_charge_1 rfl (lv_at hl 0 rfl) ?_
  refine lv_iload_n hx hb dX12_charge_2 rfl (lv_at hl 1 rfl) ?_
  refine rc_V (As := [.int (nI p9)]) hx hb hml hown hC hl (k_isNo_0 l E hI hp9) (rec_of hC (RB.x hR) rfl) (zm_X12_44 hC.1) kv_X12_isNo hR rfl rfl (rwD_le (by decide) (by decide)) ⟨rfl, rfl⟩ (Nat.le_of_ble_eq_true rfl) ⟨Nat.zero_le _, Nat.zero_le _⟩ dX12_charge_3 ?_
  refine lv_if_ne (tgt := 23) hx hb dX12_charge_6 (by decide) (fun c_6 => ?_) (fun c_6 => ?_)
  · exact absurd (by decide) c_6
  ·
    refine lv_iload_n hx hb dX12_charge_9 rfl (lv_at hl 2 rfl) ?_
    refine rc_S (As := [.int (nI k9)]) hx hb hml hown hC hl (k_isNoKind_0 l E hk9) (zm_X12_62 hC.1) kv_X12_isNoKind True.intro rfl rfl (rwD_le (by decide) (by decide)) ⟨rfl, rfl⟩ (Nat.le_of_ble_eq_true rfl) ⟨Nat.zero_le _, Nat.zero_le _⟩ dX12_charge_10 ?_
    refine lv_if_ne (tgt := 23) hx hb dX12_charge_13 (by decide) (fun c_13 => ?_) (fun c_13 => ?_)
    · exact absurd (by decide) c_13
    ·
      refine lv_iload_n hx hb dX12_charge_16 rfl (lv_at hl 3 rfl) ?_
      refine rc_S (As := [.int (nI l9)]) hx hb hml hown hC hl (k_isNoLand_0 l E hl9) (zm_X12_84 hC.1) kv_X12_isNoLand True.intro rfl rfl (rwD_le (by decide) (by decide)) ⟨rfl, rfl⟩ (Nat.le_of_ble_eq_true rfl) ⟨Nat.zero_le _, Nat.zero_le _⟩ dX12_charge_17 ?_
      refine lv_if_eq (tgt := 27) hx hb dX12_charge_20 (by decide) (fun c_20 => ?_) (fun c_20 => ?_)
      ·
        refine lv_iconst (v := 0) hx hb dX12_charge_27 (by decide) ?_
        refine lv_iconst (v := 1) hx hb dX12_charge_28 (by decide) ?_
        refine wcw_V (As := [.int (0), .int (1)]) hx hb hml hown hC hl (c_X12_start0 l E hI (w9 := 1)) (rec_of hC (RB.x hR) rfl) (zm_X12_48 hC.1) kv_X12_start hR hS (fun q h => h.imp id (Nat.le_trans hS.1)) rfl rfl (wD_le (by decide) (by decide)) (Nat.le_of_ble_eq_true rfl) ⟨Nat.le_of_ble_eq_true rfl, Nat.le_of_ble_eq_true rfl⟩ dX12_charge_29 (fun H1 locs1 hR hz hq hS => ?_)
        refine lv_if_ne (tgt := 68) hx hb dX12_charge_32 (by decide) (fun c_32 => ?_) (fun c_32 => ?_)
        · exact absurd (by decide) c_32
        ·
          have c_32 : (0 : Int32) = (0) := c_32
          refine lv_aload_n hx hb dX12_charge_35 rfl (lv_at hl 0 rfl) ?_
          refine lv_iload hx hb dX12_charge_36 (lv_at hl 4 rfl) ?_
          refine lv_iconst (v := 1) hx hb dX12_charge_38 (by decide) ?_
          refine lv_sipush (v := 9999) hx hb dX12_charge_39 (by decide) ?_
          refine rc_S (As := [.int (a9), .int (1), .int (9999)]) hx hb hml hown hC hl (k_isIn_1 l E ha91 ha92) (zm_X12_34 hC.1) kv_X12_isIn True.intro rfl rfl (rwD_le (by decide) (by decide)) ⟨rfl, rfl⟩ (Nat.le_of_ble_eq_true rfl) ⟨Nat.zero_le _, Nat.zero_le _⟩ dX12_charge_42 ?_
          refine lv_if_eq (tgt := 56) hx hb dX12_charge_45 (by decide) (fun c_45 => ?_) (fun c_45 => ?_)
          · exact absurd c_45 (by decide)
          ·
            have c_45 : ¬ (1 : Int32) = (0) := c_45
            refine lv_iload hx hb dX12_charge_48 (lv_at hl 5 rfl) ?_
            refine rc_S (As := [.int (x9)]) hx hb hml hown hC hl (k_isNoText_1 l E hbad) (zm_X12_167 hC.1) kv_X12_isNoText True.intro rfl rfl (rwD_le (by decide) (by decide)) ⟨rfl, rfl⟩ (Nat.le_of_ble_eq_true rfl) ⟨Nat.zero_le _, Nat.zero_le _⟩ dX12_charge_50 ?_
            refine lv_if_eq (tgt := 60) hx hb dX12_charge_53 (by decide) (fun c_53 => ?_) (fun c_53 => ?_)
            · exact absurd c_53 (by decide)
            ·
              have c_53 : ¬ (1 : Int32) = (0) := c_53
              refine lv_iconst (v := 1) hx hb dX12_charge_56 (by decide) ?_
              refine lv_goto (tgt := 61) hx hb dX12_charge_57 (by decide) ?_
              refine lv_iconst (v := 2) hx hb dX12_charge_61 (by decide) ?_
              refine wcw_V (As := [.int (1), .int (2)]) hx hb hml hown hC hl (c_X12_refuse1 l E hI (w9 := 2) (by decide)) (rec_of hC (RB.x hR) rfl) (zm_X12_20 hC.1) kv_X12_refuse hR hS (fun q h => h.imp id (Nat.le_trans hS.1)) rfl rfl (wD_le (by decide) (by decide)) (Nat.le_of_ble_eq_true rfl) ⟨Nat.le_of_ble_eq_true rfl, Nat.le_of_ble_eq_true rfl⟩ dX12_charge_62 (fun H1 locs1 hR hz hq hS => ?_)
              refine lv_if_eq (tgt := 70) hx hb dX12_charge_65 (by decide) (fun c_65 => ?_) (fun c_65 => ?_)
              · exact absurd c_65 (by decide)
              ·
                have c_65 : ¬ (1 : Int32) = (0) := c_65
                refine lv_iconst (v := 0) hx hb dX12_charge_68 (by decide) ?_
                exact wr_i hx hb hr hlocks hS ⟨hR, rfl⟩ (Nat.le_of_ble_eq_true rfl) (Nat.le_of_ble_eq_true rfl) dX12_charge_69
      · exact absurd (by decide) c_20
set_option maxRecDepth 100000 in
set_option maxHeartbeats 4000000 in
theorem r_X12_charge_6 (l : Launch) (E : EE) {S : St} {th : Int32} {g : Gh} (hI : Inv S) {p9 : Nat} (hp9 : p9 < S.np) {k9 : Nat} (hk9 : k9 < 4) {l9 : Nat} (hl9 : l9 < 3) {a9 : Int32} (ha91 : ¬ a9 < 1) (ha92 : ¬ 9999 < a9) {x9 : Int32} (hx91 : ¬ x9 < 0) (hx92 : ¬ 9 < x9) (hfull : 30 ≤ S.nc) : WM l E yX12_charge cX12_charge 6 (some .int) (wD 8 0 0) [.ref (g.ad 1 0), .int (nI p9), .int (nI k9), .int (nI l9), .int (a9), .int (x9)] (RB E S th g) (ow g) (fun _ v H => RB E (S) (3) g H ∧ v = some (.int 0)) := by
  refine wm_of rfl (Nat.le_of_ble_eq_true rfl) (fun p e s m below meth c ls hx hb hr hml (hown : s.vm.findClass RX12 = some m.cls) hC hlocks hR hl hini => ?_)
  have hS : va_S (fun q => ow g q ∨ s.heap.size ≤ q) s.heap s.heap [] := va_S.rf
  have hl : lv_has ls 6 [(0, .ref (g.ad 1 0)), (1, .int (nI p9)), (2, .int (nI k9)), (3, .int (nI l9)), (4, .int (a9)), (5, .int (x9))] := hl
  refine lv_aload_n hx hb dX12_charge_0 rfl (lv_at hl 0 rfl) ?_
  refine lv_aload_n hx hb dX12_charge_1 rfl (lv_at hl 0 rfl) ?_
  refine lv_iload_n hx hb dX12_charge_2 rfl (lv_at hl 1 rfl) ?_
  refine rc_V (As := [.int (nI p9)]) hx hb hml hown hC hl (k_isNo_0 l E hI hp9) (rec_of hC (RB.x hR) rfl) (zm_X12_44 hC.1) kv_X12_isNo hR rfl rfl (rwD_le (by decide) (by decide)) ⟨rfl, rfl⟩ (Nat.le_of_ble_eq_true rfl) ⟨Nat.zero_le _, Nat.zero_le _⟩ dX12_charge_3 ?_
  refine lv_if_ne (tgt := 23) hx hb dX12_charge_6 (by decide) (fun c_6 => ?_) (fun c_6 => ?_)
  · exact absurd (by decide) c_6
  ·
    refine lv_iload_n hx hb dX12_charge_9 rfl (lv_at hl 2 rfl) ?_
    refine rc_S (As := [.int (nI k9)]) hx hb hml hown hC hl (k_isNoKind_0 l E hk9) (zm_X12_62 hC.1) kv_X12_isNoKind True.intro rfl rfl (rwD_le (by decide) (by decide)) ⟨rfl, rfl⟩ (Nat.le_of_ble_eq_true rfl) ⟨Nat.zero_le _, Nat.zero_le _⟩ dX12_charge_10 ?_
    refine lv_if_ne (tgt := 23) hx hb dX12_charge_13 (by decide) (fun c_13 => ?_) (fun c_13 => ?_)
    · exact absurd (by decide) c_13
    ·
      refine lv_iload_n hx hb dX12_charge_16 rfl (lv_at hl 3 rfl) ?_
      refine rc_S (As := [.int (nI l9)]) hx hb hml hown hC hl (k_isNoLand_0 l E hl9) (zm_X12_84 hC.1) kv_X12_isNoLand True.intro rfl rfl (rwD_le (by decide) (by decide)) ⟨rfl, rfl⟩ (Nat.le_of_ble_eq_true rfl) ⟨Nat.zero_le _, Nat.zero_le _⟩ dX12_charge_17 ?_
      refine lv_if_eq (tgt := 27) hx hb dX12_charge_20 (by decide) (fun c_20 => ?_) (fun c_20 => ?_)
      ·
        refine lv_iconst (v := 0) hx hb dX12_charge_27 (by decide) ?_
        refine lv_iconst (v := 1) hx hb dX12_charge_28 (by decide) ?_
        refine wcw_V (As := [.int (0), .int (1)]) hx hb hml hown hC hl (c_X12_start0 l E hI (w9 := 1)) (rec_of hC (RB.x hR) rfl) (zm_X12_48 hC.1) kv_X12_start hR hS (fun q h => h.imp id (Nat.le_trans hS.1)) rfl rfl (wD_le (by decide) (by decide)) (Nat.le_of_ble_eq_true rfl) ⟨Nat.le_of_ble_eq_true rfl, Nat.le_of_ble_eq_true rfl⟩ dX12_charge_29 (fun H1 locs1 hR hz hq hS => ?_)
        refine lv_if_ne (tgt := 68) hx hb dX12_charge_32 (by decide) (fun c_32 => ?_) (fun c_32 => ?_)
        · exact absurd (by decide) c_32
        ·
          have c_32 : (0 : Int32) = (0) := c_32
          refine lv_aload_n hx hb dX12_charge_35 rfl (lv_at hl 0 rfl) ?_
          refine lv_iload hx hb dX12_charge_36 (lv_at hl 4 rfl) ?_
          refine lv_iconst (v := 1) hx hb dX12_charge_38 (by decide) ?_
          refine lv_sipush (v := 9999) hx hb dX12_charge_39 (by decide) ?_
          refine rc_S (As := [.int (a9), .int (1), .int (9999)]) hx hb hml hown hC hl (k_isIn_1 l E ha91 ha92) (zm_X12_34 hC.1) kv_X12_isIn True.intro rfl rfl (rwD_le (by decide) (by decide)) ⟨rfl, rfl⟩ (Nat.le_of_ble_eq_true rfl) ⟨Nat.zero_le _, Nat.zero_le _⟩ dX12_charge_42 ?_
          refine lv_if_eq (tgt := 56) hx hb dX12_charge_45 (by decide) (fun c_45 => ?_) (fun c_45 => ?_)
          · exact absurd c_45 (by decide)
          ·
            have c_45 : ¬ (1 : Int32) = (0) := c_45
            refine lv_iload hx hb dX12_charge_48 (lv_at hl 5 rfl) ?_
            refine rc_S (As := [.int (x9)]) hx hb hml hown hC hl (k_isNoText_0 l E hx91 hx92) (zm_X12_167 hC.1) kv_X12_isNoText True.intro rfl rfl (rwD_le (by decide) (by decide)) ⟨rfl, rfl⟩ (Nat.le_of_ble_eq_true rfl) ⟨Nat.zero_le _, Nat.zero_le _⟩ dX12_charge_50 ?_
            refine lv_if_eq (tgt := 60) hx hb dX12_charge_53 (by decide) (fun c_53 => ?_) (fun c_53 => ?_)
            ·
              have c_53 : (0 : Int32) = (0) := c_53
              refine lv_iconst (v := 0) hx hb dX12_charge_60 (by decide) ?_
              refine lv_iconst (v := 2) hx hb dX12_charge_61 (by decide) ?_
              refine wcw_V (As := [.int (0), .int (2)]) hx hb hml hown hC hl (c_X12_refuse0 l E hI (w9 := 2)) (rec_of hC (RB.x hR) rfl) (zm_X12_20 hC.1) kv_X12_refuse hR hS (fun q h => h.imp id (Nat.le_trans hS.1)) rfl rfl (wD_le (by decide) (by decide)) (Nat.le_of_ble_eq_true rfl) ⟨Nat.le_of_ble_eq_true rfl, Nat.le_of_ble_eq_true rfl⟩ dX12_charge_62 (fun H1 locs1 hR hz hq hS => ?_)
              refine lv_if_eq (tgt := 70) hx hb dX12_charge_65 (by decide) (fun c_65 => ?_) (fun c_65 => ?_)
              ·
                have c_65 : (0 : Int32) = (0) := c_65
                refine lv_aload_n hx hb dX12_charge_70 rfl (lv_at hl 0 rfl) ?_
                refine lv_aload_n hx hb dX12_charge_71 rfl (lv_at hl 0 rfl) ?_
                refine gf_X12_1 hx hb hown hC (RB.x hR) (zf_X12_10 hC.1) dX12_charge_72 ?_
                refine gf_X8_2 hx hb hown hC (RB.dk hR) (zf_X12_95 hC.1) dX12_charge_75 ?_
                refine rc_V (As := []) hx hb hml hown hC hl (c_size l E _ _ _ _) (rec_of hC (RB.ls hR (by decide : 2 < 4)) rfl) (zm_X12_28 hC.1) kv_Jx4a65c_size_8abf5 (RB.ls hR (by decide : 2 < 4)) rfl rfl (rwD_le (by decide) (by decide)) ⟨rfl, rfl⟩ (Nat.le_of_ble_eq_true rfl) ⟨Nat.zero_le _, Nat.zero_le _⟩ dX12_charge_78 ?_
                refine lv_bipush (v := 30) hx hb dX12_charge_81 (by decide) ?_
                refine lv_icmp_eq (tgt := 125) hx hb dX12_charge_83 (by decide) (fun c_83 => ?_) (fun c_83 => ?_)
                ·
                  have c_83 : (nI (S.nc) : Int32) = (30) := c_83
                  refine lv_iconst (v := 1) hx hb dX12_charge_125 (by decide) ?_
                  refine lv_goto (tgt := 130) hx hb dX12_charge_126 (by decide) ?_
                  refine lv_iconst (v := 3) hx hb dX12_charge_130 (by decide) ?_
                  refine wcw_V (As := [.int (1), .int (3)]) hx hb hml hown hC hl (c_X12_refuse1 l E hI (w9 := 3) (by decide)) (rec_of hC (RB.x hR) rfl) (zm_X12_20 hC.1) kv_X12_refuse hR hS (fun q h => h.imp id (Nat.le_trans hS.1)) rfl rfl (wD_le (by decide) (by decide)) (Nat.le_of_ble_eq_true rfl) ⟨Nat.le_of_ble_eq_true rfl, Nat.le_of_ble_eq_true rfl⟩ dX12_charge_131 (fun H1 locs1 hR hz hq hS => ?_)
                  refine lv_if_eq (tgt := 139) hx hb dX12_charge_134 (by decide) (fun c_134 => ?_) (fun c_134 => ?_)
                  · exact absurd c_134 (by decide)
                  ·
                    have c_134 : ¬ (1 : Int32) = (0) := c_134
                    refine lv_iconst (v := 0) hx hb dX12_charge_137 (by decide) ?_
                    exact wr_i hx hb hr hlocks hS ⟨hR, rfl⟩ (Nat.le_of_ble_eq_true rfl) (Nat.le_of_ble_eq_true rfl) dX12_charge_138
                · exact absurd (show nI S.nc = 30 by rw [show S.nc = 30 by have := hI.1; omega]; rfl) c_83
              · exact absurd (by decide) c_65
            · exact absurd (by decide) c_53
      · exact absurd (by decide) c_20
set_option maxRecDepth 100000 in
set_option maxHeartbeats 4000000 in
theorem r_X12_charge_7 (l : Launch) (E : EE) {S : St} {th : Int32} {g : Gh} (hI : Inv S) {p9 : Nat} (hp9 : p9 < S.np) {k9 : Nat} (hk9 : k9 < 4) {l9 : Nat} (hl9 : l9 < 3) {a9 : Int32} (ha91 : ¬ a9 < 1) (ha92 : ¬ 9999 < a9) {x9 : Int32} (hx91 : ¬ x9 < 0) (hx92 : ¬ 9 < x9) (h30 : S.nc < 30) (hs1 : spendA S p9 k9 (nI l9) < a9) : WM l E yX12_charge cX12_charge 6 (some .int) (wD 8 0 0) [.ref (g.ad 1 0), .int (nI p9), .int (nI k9), .int (nI l9), .int (a9), .int (x9)] (RB E S th g) (ow g) (fun _ v H => RB E (S) (3) g H ∧ v = some (.int 0)) := by
  refine wm_of rfl (Nat.le_of_ble_eq_true rfl) (fun p e s m below meth c ls hx hb hr hml (hown : s.vm.findClass RX12 = some m.cls) hC hlocks hR hl hini => ?_)
  have hS : va_S (fun q => ow g q ∨ s.heap.size ≤ q) s.heap s.heap [] := va_S.rf
  have hl : lv_has ls 6 [(0, .ref (g.ad 1 0)), (1, .int (nI p9)), (2, .int (nI k9)), (3, .int (nI l9)), (4, .int (a9)), (5, .int (x9))] := hl
  refine lv_aload_n hx hb dX12_charge_0 rfl (lv_at hl 0 rfl) ?_
  refine lv_aload_n hx hb dX12_charge_1 rfl (lv_at hl 0 rfl) ?_
  refine lv_iload_n hx hb dX12_charge_2 rfl (lv_at hl 1 rfl) ?_
  refine rc_V (As := [.int (nI p9)]) hx hb hml hown hC hl (k_isNo_0 l E hI hp9) (rec_of hC (RB.x hR) rfl) (zm_X12_44 hC.1) kv_X12_isNo hR rfl rfl (rwD_le (by decide) (by decide)) ⟨rfl, rfl⟩ (Nat.le_of_ble_eq_true rfl) ⟨Nat.zero_le _, Nat.zero_le _⟩ dX12_charge_3 ?_
  refine lv_if_ne (tgt := 23) hx hb dX12_charge_6 (by decide) (fun c_6 => ?_) (fun c_6 => ?_)
  · exact absurd (by decide) c_6
  ·
    refine lv_iload_n hx hb dX12_charge_9 rfl (lv_at hl 2 rfl) ?_
    refine rc_S (As := [.int (nI k9)]) hx hb hml hown hC hl (k_isNoKind_0 l E hk9) (zm_X12_62 hC.1) kv_X12_isNoKind True.intro rfl rfl (rwD_le (by decide) (by decide)) ⟨rfl, rfl⟩ (Nat.le_of_ble_eq_true rfl) ⟨Nat.zero_le _, Nat.zero_le _⟩ dX12_charge_10 ?_
    refine lv_if_ne (tgt := 23) hx hb dX12_charge_13 (by decide) (fun c_13 => ?_) (fun c_13 => ?_)
    · exact absurd (by decide) c_13
    ·
      refine lv_iload_n hx hb dX12_charge_16 rfl (lv_at hl 3 rfl) ?_
      refine rc_S (As := [.int (nI l9)]) hx hb hml hown hC hl (k_isNoLand_0 l E hl9) (zm_X12_84 hC.1) kv_X12_isNoLand True.intro rfl rfl (rwD_le (by decide) (by decide)) ⟨rfl, rfl⟩ (Nat.le_of_ble_eq_true rfl) ⟨Nat.zero_le _, Nat.zero_le _⟩ dX12_charge_17 ?_
      refine lv_if_eq (tgt := 27) hx hb dX12_charge_20 (by decide) (fun c_20 => ?_) (fun c_20 => ?_)
      ·
        refine lv_iconst (v := 0) hx hb dX12_charge_27 (by decide) ?_
        refine lv_iconst (v := 1) hx hb dX12_charge_28 (by decide) ?_
        refine wcw_V (As := [.int (0), .int (1)]) hx hb hml hown hC hl (c_X12_start0 l E hI (w9 := 1)) (rec_of hC (RB.x hR) rfl) (zm_X12_48 hC.1) kv_X12_start hR hS (fun q h => h.imp id (Nat.le_trans hS.1)) rfl rfl (wD_le (by decide) (by decide)) (Nat.le_of_ble_eq_true rfl) ⟨Nat.le_of_ble_eq_true rfl, Nat.le_of_ble_eq_true rfl⟩ dX12_charge_29 (fun H1 locs1 hR hz hq hS => ?_)
        refine lv_if_ne (tgt := 68) hx hb dX12_charge_32 (by decide) (fun c_32 => ?_) (fun c_32 => ?_)
        · exact absurd (by decide) c_32
        ·
          have c_32 : (0 : Int32) = (0) := c_32
          refine lv_aload_n hx hb dX12_charge_35 rfl (lv_at hl 0 rfl) ?_
          refine lv_iload hx hb dX12_charge_36 (lv_at hl 4 rfl) ?_
          refine lv_iconst (v := 1) hx hb dX12_charge_38 (by decide) ?_
          refine lv_sipush (v := 9999) hx hb dX12_charge_39 (by decide) ?_
          refine rc_S (As := [.int (a9), .int (1), .int (9999)]) hx hb hml hown hC hl (k_isIn_1 l E ha91 ha92) (zm_X12_34 hC.1) kv_X12_isIn True.intro rfl rfl (rwD_le (by decide) (by decide)) ⟨rfl, rfl⟩ (Nat.le_of_ble_eq_true rfl) ⟨Nat.zero_le _, Nat.zero_le _⟩ dX12_charge_42 ?_
          refine lv_if_eq (tgt := 56) hx hb dX12_charge_45 (by decide) (fun c_45 => ?_) (fun c_45 => ?_)
          · exact absurd c_45 (by decide)
          ·
            have c_45 : ¬ (1 : Int32) = (0) := c_45
            refine lv_iload hx hb dX12_charge_48 (lv_at hl 5 rfl) ?_
            refine rc_S (As := [.int (x9)]) hx hb hml hown hC hl (k_isNoText_0 l E hx91 hx92) (zm_X12_167 hC.1) kv_X12_isNoText True.intro rfl rfl (rwD_le (by decide) (by decide)) ⟨rfl, rfl⟩ (Nat.le_of_ble_eq_true rfl) ⟨Nat.zero_le _, Nat.zero_le _⟩ dX12_charge_50 ?_
            refine lv_if_eq (tgt := 60) hx hb dX12_charge_53 (by decide) (fun c_53 => ?_) (fun c_53 => ?_)
            ·
              have c_53 : (0 : Int32) = (0) := c_53
              refine lv_iconst (v := 0) hx hb dX12_charge_60 (by decide) ?_
              refine lv_iconst (v := 2) hx hb dX12_charge_61 (by decide) ?_
              refine wcw_V (As := [.int (0), .int (2)]) hx hb hml hown hC hl (c_X12_refuse0 l E hI (w9 := 2)) (rec_of hC (RB.x hR) rfl) (zm_X12_20 hC.1) kv_X12_refuse hR hS (fun q h => h.imp id (Nat.le_trans hS.1)) rfl rfl (wD_le (by decide) (by decide)) (Nat.le_of_ble_eq_true rfl) ⟨Nat.le_of_ble_eq_true rfl, Nat.le_of_ble_eq_true rfl⟩ dX12_charge_62 (fun H1 locs1 hR hz hq hS => ?_)
              refine lv_if_eq (tgt := 70) hx hb dX12_charge_65 (by decide) (fun c_65 => ?_) (fun c_65 => ?_)
              ·
                have c_65 : (0 : Int32) = (0) := c_65
                refine lv_aload_n hx hb dX12_charge_70 rfl (lv_at hl 0 rfl) ?_
                refine lv_aload_n hx hb dX12_charge_71 rfl (lv_at hl 0 rfl) ?_
                refine gf_X12_1 hx hb hown hC (RB.x hR) (zf_X12_10 hC.1) dX12_charge_72 ?_
                refine gf_X8_2 hx hb hown hC (RB.dk hR) (zf_X12_95 hC.1) dX12_charge_75 ?_
                refine rc_V (As := []) hx hb hml hown hC hl (c_size l E _ _ _ _) (rec_of hC (RB.ls hR (by decide : 2 < 4)) rfl) (zm_X12_28 hC.1) kv_Jx4a65c_size_8abf5 (RB.ls hR (by decide : 2 < 4)) rfl rfl (rwD_le (by decide) (by decide)) ⟨rfl, rfl⟩ (Nat.le_of_ble_eq_true rfl) ⟨Nat.zero_le _, Nat.zero_le _⟩ dX12_charge_78 ?_
                refine lv_bipush (v := 30) hx hb dX12_charge_81 (by decide) ?_
                refine lv_icmp_eq (tgt := 125) hx hb dX12_charge_83 (by decide) (fun c_83 => ?_) (fun c_83 => ?_)
                · exact absurd c_83 (fun h => absurd ((nI_eq (a := S.nc) (b := 30) (by have := hI.1; omega) (by decide)).mp h) (by omega))
                ·
                  have c_83 : ¬ (nI (S.nc) : Int32) = (30) := c_83
                  refine lv_iload hx hb dX12_charge_86 (lv_at hl 4 rfl) ?_
                  refine lv_aload_n hx hb dX12_charge_88 rfl (lv_at hl 0 rfl) ?_
                  refine gf_X12_1 hx hb hown hC (RB.x hR) (zf_X12_10 hC.1) dX12_charge_89 ?_
                  refine lv_iload_n hx hb dX12_charge_92 rfl (lv_at hl 1 rfl) ?_
                  refine lv_iload_n hx hb dX12_charge_93 rfl (lv_at hl 2 rfl) ?_
                  refine lv_iload_n hx hb dX12_charge_94 rfl (lv_at hl 3 rfl) ?_
                  refine rc_V (As := [.int (nI p9), .int (nI k9), .int (nI l9)]) hx hb hml hown hC hl (c_X8_maySpend l E hI hp9 hk9 (nI l9)) (rec_of hC (RB.dk hR) rfl) (zm_X12_144 hC.1) kv_X8_maySpend hR rfl rfl (rwD_le (by decide) (by decide)) ⟨rfl, rfl⟩ (Nat.le_of_ble_eq_true rfl) ⟨Nat.zero_le _, Nat.zero_le _⟩ dX12_charge_95 ?_
                  refine lv_icmp_gt (tgt := 125) hx hb dX12_charge_98 (by decide) (fun c_98 => ?_) (fun c_98 => ?_)
                  ·
                    have c_98 : (spendA S (p9) (k9) (nI l9) : Int32) < (a9) := c_98
                    refine lv_iconst (v := 1) hx hb dX12_charge_125 (by decide) ?_
                    refine lv_goto (tgt := 130) hx hb dX12_charge_126 (by decide) ?_
                    refine lv_iconst (v := 3) hx hb dX12_charge_130 (by decide) ?_
                    refine wcw_V (As := [.int (1), .int (3)]) hx hb hml hown hC hl (c_X12_refuse1 l E hI (w9 := 3) (by decide)) (rec_of hC (RB.x hR) rfl) (zm_X12_20 hC.1) kv_X12_refuse hR hS (fun q h => h.imp id (Nat.le_trans hS.1)) rfl rfl (wD_le (by decide) (by decide)) (Nat.le_of_ble_eq_true rfl) ⟨Nat.le_of_ble_eq_true rfl, Nat.le_of_ble_eq_true rfl⟩ dX12_charge_131 (fun H1 locs1 hR hz hq hS => ?_)
                    refine lv_if_eq (tgt := 139) hx hb dX12_charge_134 (by decide) (fun c_134 => ?_) (fun c_134 => ?_)
                    · exact absurd c_134 (by decide)
                    ·
                      have c_134 : ¬ (1 : Int32) = (0) := c_134
                      refine lv_iconst (v := 0) hx hb dX12_charge_137 (by decide) ?_
                      exact wr_i hx hb hr hlocks hS ⟨hR, rfl⟩ (Nat.le_of_ble_eq_true rfl) (Nat.le_of_ble_eq_true rfl) dX12_charge_138
                  · exact absurd hs1 c_98
              · exact absurd (by decide) c_65
            · exact absurd (by decide) c_53
      · exact absurd (by decide) c_20
set_option maxRecDepth 100000 in
set_option maxHeartbeats 4000000 in
theorem r_X12_charge_8 (l : Launch) (E : EE) {S : St} {th : Int32} {g : Gh} (hI : Inv S) {p9 : Nat} (hp9 : p9 < S.np) {k9 : Nat} (hk9 : k9 < 4) {l9 : Nat} (hl9 : l9 < 3) {a9 : Int32} (ha91 : ¬ a9 < 1) (ha92 : ¬ 9999 < a9) {x9 : Int32} (hx91 : ¬ x9 < 0) (hx92 : ¬ 9 < x9) (h30 : S.nc < 30) (hs1 : ¬ spendA S p9 k9 (nI l9) < a9) (hs2 : ¬ a9 ≤ leftL S k9 0 (S.td / 30 + 1)) : WM l E yX12_charge cX12_charge 6 (some .int) (wD 8 0 0) [.ref (g.ad 1 0), .int (nI p9), .int (nI k9), .int (nI l9), .int (a9), .int (x9)] (RB E S th g) (ow g) (fun _ v H => RB E (S) (3) g H ∧ v = some (.int 0)) := by
  refine wm_of rfl (Nat.le_of_ble_eq_true rfl) (fun p e s m below meth c ls hx hb hr hml (hown : s.vm.findClass RX12 = some m.cls) hC hlocks hR hl hini => ?_)
  have hS : va_S (fun q => ow g q ∨ s.heap.size ≤ q) s.heap s.heap [] := va_S.rf
  have hl : lv_has ls 6 [(0, .ref (g.ad 1 0)), (1, .int (nI p9)), (2, .int (nI k9)), (3, .int (nI l9)), (4, .int (a9)), (5, .int (x9))] := hl
  have htd : S.td / 30 < 4 := by have := hI.td; omega
  have hs3 : leftL S k9 0 (S.td / 30 + 1) < a9 := i_lt2 hs2
  refine lv_aload_n hx hb dX12_charge_0 rfl (lv_at hl 0 rfl) ?_
  refine lv_aload_n hx hb dX12_charge_1 rfl (lv_at hl 0 rfl) ?_
  refine lv_iload_n hx hb dX12_charge_2 rfl (lv_at hl 1 rfl) ?_
  refine rc_V (As := [.int (nI p9)]) hx hb hml hown hC hl (k_isNo_0 l E hI hp9) (rec_of hC (RB.x hR) rfl) (zm_X12_44 hC.1) kv_X12_isNo hR rfl rfl (rwD_le (by decide) (by decide)) ⟨rfl, rfl⟩ (Nat.le_of_ble_eq_true rfl) ⟨Nat.zero_le _, Nat.zero_le _⟩ dX12_charge_3 ?_
  refine lv_if_ne (tgt := 23) hx hb dX12_charge_6 (by decide) (fun c_6 => ?_) (fun c_6 => ?_)
  · exact absurd (by decide) c_6
  ·
    refine lv_iload_n hx hb dX12_charge_9 rfl (lv_at hl 2 rfl) ?_
    refine rc_S (As := [.int (nI k9)]) hx hb hml hown hC hl (k_isNoKind_0 l E hk9) (zm_X12_62 hC.1) kv_X12_isNoKind True.intro rfl rfl (rwD_le (by decide) (by decide)) ⟨rfl, rfl⟩ (Nat.le_of_ble_eq_true rfl) ⟨Nat.zero_le _, Nat.zero_le _⟩ dX12_charge_10 ?_
    refine lv_if_ne (tgt := 23) hx hb dX12_charge_13 (by decide) (fun c_13 => ?_) (fun c_13 => ?_)
    · exact absurd (by decide) c_13
    ·
      refine lv_iload_n hx hb dX12_charge_16 rfl (lv_at hl 3 rfl) ?_
      refine rc_S (As := [.int (nI l9)]) hx hb hml hown hC hl (k_isNoLand_0 l E hl9) (zm_X12_84 hC.1) kv_X12_isNoLand True.intro rfl rfl (rwD_le (by decide) (by decide)) ⟨rfl, rfl⟩ (Nat.le_of_ble_eq_true rfl) ⟨Nat.zero_le _, Nat.zero_le _⟩ dX12_charge_17 ?_
      refine lv_if_eq (tgt := 27) hx hb dX12_charge_20 (by decide) (fun c_20 => ?_) (fun c_20 => ?_)
      ·
        refine lv_iconst (v := 0) hx hb dX12_charge_27 (by decide) ?_
        refine lv_iconst (v := 1) hx hb dX12_charge_28 (by decide) ?_
        refine wcw_V (As := [.int (0), .int (1)]) hx hb hml hown hC hl (c_X12_start0 l E hI (w9 := 1)) (rec_of hC (RB.x hR) rfl) (zm_X12_48 hC.1) kv_X12_start hR hS (fun q h => h.imp id (Nat.le_trans hS.1)) rfl rfl (wD_le (by decide) (by decide)) (Nat.le_of_ble_eq_true rfl) ⟨Nat.le_of_ble_eq_true rfl, Nat.le_of_ble_eq_true rfl⟩ dX12_charge_29 (fun H1 locs1 hR hz hq hS => ?_)
        refine lv_if_ne (tgt := 68) hx hb dX12_charge_32 (by decide) (fun c_32 => ?_) (fun c_32 => ?_)
        · exact absurd (by decide) c_32
        ·
          have c_32 : (0 : Int32) = (0) := c_32
          refine lv_aload_n hx hb dX12_charge_35 rfl (lv_at hl 0 rfl) ?_
          refine lv_iload hx hb dX12_charge_36 (lv_at hl 4 rfl) ?_
          refine lv_iconst (v := 1) hx hb dX12_charge_38 (by decide) ?_
          refine lv_sipush (v := 9999) hx hb dX12_charge_39 (by decide) ?_
          refine rc_S (As := [.int (a9), .int (1), .int (9999)]) hx hb hml hown hC hl (k_isIn_1 l E ha91 ha92) (zm_X12_34 hC.1) kv_X12_isIn True.intro rfl rfl (rwD_le (by decide) (by decide)) ⟨rfl, rfl⟩ (Nat.le_of_ble_eq_true rfl) ⟨Nat.zero_le _, Nat.zero_le _⟩ dX12_charge_42 ?_
          refine lv_if_eq (tgt := 56) hx hb dX12_charge_45 (by decide) (fun c_45 => ?_) (fun c_45 => ?_)
          · exact absurd c_45 (by decide)
          ·
            have c_45 : ¬ (1 : Int32) = (0) := c_45
            refine lv_iload hx hb dX12_charge_48 (lv_at hl 5 rfl) ?_
            refine rc_S (As := [.int (x9)]) hx hb hml hown hC hl (k_isNoText_0 l E hx91 hx92) (zm_X12_167 hC.1) kv_X12_isNoText True.intro rfl rfl (rwD_le (by decide) (by decide)) ⟨rfl, rfl⟩ (Nat.le_of_ble_eq_true rfl) ⟨Nat.zero_le _, Nat.zero_le _⟩ dX12_charge_50 ?_
            refine lv_if_eq (tgt := 60) hx hb dX12_charge_53 (by decide) (fun c_53 => ?_) (fun c_53 => ?_)
            ·
              have c_53 : (0 : Int32) = (0) := c_53
              refine lv_iconst (v := 0) hx hb dX12_charge_60 (by decide) ?_
              refine lv_iconst (v := 2) hx hb dX12_charge_61 (by decide) ?_
              refine wcw_V (As := [.int (0), .int (2)]) hx hb hml hown hC hl (c_X12_refuse0 l E hI (w9 := 2)) (rec_of hC (RB.x hR) rfl) (zm_X12_20 hC.1) kv_X12_refuse hR hS (fun q h => h.imp id (Nat.le_trans hS.1)) rfl rfl (wD_le (by decide) (by decide)) (Nat.le_of_ble_eq_true rfl) ⟨Nat.le_of_ble_eq_true rfl, Nat.le_of_ble_eq_true rfl⟩ dX12_charge_62 (fun H1 locs1 hR hz hq hS => ?_)
              refine lv_if_eq (tgt := 70) hx hb dX12_charge_65 (by decide) (fun c_65 => ?_) (fun c_65 => ?_)
              ·
                have c_65 : (0 : Int32) = (0) := c_65
                refine lv_aload_n hx hb dX12_charge_70 rfl (lv_at hl 0 rfl) ?_
                refine lv_aload_n hx hb dX12_charge_71 rfl (lv_at hl 0 rfl) ?_
                refine gf_X12_1 hx hb hown hC (RB.x hR) (zf_X12_10 hC.1) dX12_charge_72 ?_
                refine gf_X8_2 hx hb hown hC (RB.dk hR) (zf_X12_95 hC.1) dX12_charge_75 ?_
                refine rc_V (As := []) hx hb hml hown hC hl (c_size l E _ _ _ _) (rec_of hC (RB.ls hR (by decide : 2 < 4)) rfl) (zm_X12_28 hC.1) kv_Jx4a65c_size_8abf5 (RB.ls hR (by decide : 2 < 4)) rfl rfl (rwD_le (by decide) (by decide)) ⟨rfl, rfl⟩ (Nat.le_of_ble_eq_true rfl) ⟨Nat.zero_le _, Nat.zero_le _⟩ dX12_charge_78 ?_
                refine lv_bipush (v := 30) hx hb dX12_charge_81 (by decide) ?_
                refine lv_icmp_eq (tgt := 125) hx hb dX12_charge_83 (by decide) (fun c_83 => ?_) (fun c_83 => ?_)
                · exact absurd c_83 (fun h => absurd ((nI_eq (a := S.nc) (b := 30) (by have := hI.1; omega) (by decide)).mp h) (by omega))
                ·
                  have c_83 : ¬ (nI (S.nc) : Int32) = (30) := c_83
                  refine lv_iload hx hb dX12_charge_86 (lv_at hl 4 rfl) ?_
                  refine lv_aload_n hx hb dX12_charge_88 rfl (lv_at hl 0 rfl) ?_
                  refine gf_X12_1 hx hb hown hC (RB.x hR) (zf_X12_10 hC.1) dX12_charge_89 ?_
                  refine lv_iload_n hx hb dX12_charge_92 rfl (lv_at hl 1 rfl) ?_
                  refine lv_iload_n hx hb dX12_charge_93 rfl (lv_at hl 2 rfl) ?_
                  refine lv_iload_n hx hb dX12_charge_94 rfl (lv_at hl 3 rfl) ?_
                  refine rc_V (As := [.int (nI p9), .int (nI k9), .int (nI l9)]) hx hb hml hown hC hl (c_X8_maySpend l E hI hp9 hk9 (nI l9)) (rec_of hC (RB.dk hR) rfl) (zm_X12_144 hC.1) kv_X8_maySpend hR rfl rfl (rwD_le (by decide) (by decide)) ⟨rfl, rfl⟩ (Nat.le_of_ble_eq_true rfl) ⟨Nat.zero_le _, Nat.zero_le _⟩ dX12_charge_95 ?_
                  refine lv_icmp_gt (tgt := 125) hx hb dX12_charge_98 (by decide) (fun c_98 => ?_) (fun c_98 => ?_)
                  · exact absurd c_98 hs1
                  ·
                    have c_98 : ¬ (spendA S (p9) (k9) (nI l9) : Int32) < (a9) := c_98
                    refine lv_iload hx hb dX12_charge_101 (lv_at hl 4 rfl) ?_
                    refine lv_aload_n hx hb dX12_charge_103 rfl (lv_at hl 0 rfl) ?_
                    refine gf_X12_1 hx hb hown hC (RB.x hR) (zf_X12_10 hC.1) dX12_charge_104 ?_
                    refine lv_iload_n hx hb dX12_charge_107 rfl (lv_at hl 2 rfl) ?_
                    refine lv_aload_n hx hb dX12_charge_108 rfl (lv_at hl 0 rfl) ?_
                    refine gf_X12_1 hx hb hown hC (RB.x hR) (zf_X12_10 hC.1) dX12_charge_109 ?_
                    refine gf_X8_7 hx hb hown hC (RB.dk hR) (zf_X12_170 hC.1) dX12_charge_112 ?_
                    refine lv_bipush (v := 30) hx hb dX12_charge_115 (by decide) ?_
                    refine lv_idiv hx hb dX12_charge_117 (by decide) ?_
                    rw [div30 S.td (Nat.lt_succ_of_le hI.td)]
                    refine lv_iconst (v := 0) hx hb dX12_charge_118 (by decide) ?_
                    refine rc_V (As := [.int (nI k9), .int (nI (S.td / 30)), .int (0)]) hx hb hml hown hC hl (c_X8_left l E hI hk9 (0) _ htd) (rec_of hC (RB.dk hR) rfl) (zm_X12_163 hC.1) kv_X8_left hR rfl rfl (rwD_le (by omega) (by decide)) ⟨rfl, rfl⟩ (Nat.le_of_ble_eq_true rfl) ⟨Nat.zero_le _, Nat.zero_le _⟩ dX12_charge_119 ?_
                    refine lv_icmp_le (tgt := 129) hx hb dX12_charge_122 (by decide) (fun c_122 => ?_) (fun c_122 => ?_)
                    · exact absurd c_122 (i_nle2 hs3)
                    ·
                      have c_122 : ¬ (a9 : Int32) ≤ (leftL S (k9) (0) ((S.td / 30) + 1)) := c_122
                      refine lv_iconst (v := 1) hx hb dX12_charge_125 (by decide) ?_
                      refine lv_goto (tgt := 130) hx hb dX12_charge_126 (by decide) ?_
                      refine lv_iconst (v := 3) hx hb dX12_charge_130 (by decide) ?_
                      refine wcw_V (As := [.int (1), .int (3)]) hx hb hml hown hC hl (c_X12_refuse1 l E hI (w9 := 3) (by decide)) (rec_of hC (RB.x hR) rfl) (zm_X12_20 hC.1) kv_X12_refuse hR hS (fun q h => h.imp id (Nat.le_trans hS.1)) rfl rfl (wD_le (by decide) (by decide)) (Nat.le_of_ble_eq_true rfl) ⟨Nat.le_of_ble_eq_true rfl, Nat.le_of_ble_eq_true rfl⟩ dX12_charge_131 (fun H1 locs1 hR hz hq hS => ?_)
                      refine lv_if_eq (tgt := 139) hx hb dX12_charge_134 (by decide) (fun c_134 => ?_) (fun c_134 => ?_)
                      · exact absurd c_134 (by decide)
                      ·
                        have c_134 : ¬ (1 : Int32) = (0) := c_134
                        refine lv_iconst (v := 0) hx hb dX12_charge_137 (by decide) ?_
                        exact wr_i hx hb hr hlocks hS ⟨hR, rfl⟩ (Nat.le_of_ble_eq_true rfl) (Nat.le_of_ble_eq_true rfl) dX12_charge_138
              · exact absurd (by decide) c_65
            · exact absurd (by decide) c_53
      · exact absurd (by decide) c_20
set_option maxRecDepth 100000 in
set_option maxHeartbeats 4000000 in
theorem r_X12_receipt_1 (l : Launch) (E : EE) {S : St} {th : Int32} {g : Gh} (hI : Inv S) {am : Int32} (hbad : am < 1 ∨ 9999 < am) {dy : Int32} {tx : Int32} : WM l E yX12_receipt cX12_receipt 5 (some .int) (wD 8 0 0) [.ref (g.ad 1 0), .int (am), .int (dy), .int (tx)] (RB E S th g) (ow g) (fun _ v H => RB E (S) (1) g H ∧ v = some (.int 0)) := by
  refine wm_of rfl (Nat.le_of_ble_eq_true rfl) (fun p e s m below meth c ls hx hb hr hml (hown : s.vm.findClass RX12 = some m.cls) hC hlocks hR hl hini => ?_)
  have hS : va_S (fun q => ow g q ∨ s.heap.size ≤ q) s.heap s.heap [] := va_S.rf
  have hl : lv_has ls 5 [(0, .ref (g.ad 1 0)), (1, .int (am)), (2, .int (dy)), (3, .int (tx))] := hl
  refine lv_aload_n hx hb dX12_receipt_0 rfl (lv_at hl 0 rfl) ?_
  refine lv_iload_n hx hb dX12_receipt_1 rfl (lv_at hl 1 rfl) ?_
  refine lv_iload_n hx hb dX12_receipt_2 rfl (lv_at hl 2 rfl) ?_
  refine lv_iload_n hx hb dX12_receipt_3 rfl (lv_at hl 3 rfl) ?_
  refine wcw_V (As := [.int (am), .int (dy), .int (tx)]) hx hb hml hown hC hl (c_X12_isNoReceipt_1 l E hI hbad) (rec_of hC (RB.x hR) rfl) (zm_X12_182 hC.1) kv_X12_isNoReceipt hR hS (fun q h => h.imp id (Nat.le_trans hS.1)) rfl rfl (wD_le (by decide) (by decide)) (Nat.le_of_ble_eq_true rfl) ⟨Nat.le_of_ble_eq_true rfl, Nat.le_of_ble_eq_true rfl⟩ dX12_receipt_4 (fun H1 locs1 hR hz hq hS => ?_)
  refine lv_if_ne (tgt := 38) hx hb dX12_receipt_7 (by decide) (fun c_7 => ?_) (fun c_7 => ?_)
  ·
    have c_7 : ¬ (1 : Int32) = (0) := c_7
    refine lv_iconst (v := 0) hx hb dX12_receipt_38 (by decide) ?_
    exact wr_i hx hb hr hlocks hS ⟨hR, rfl⟩ (Nat.le_of_ble_eq_true rfl) (Nat.le_of_ble_eq_true rfl) dX12_receipt_39
  · exact absurd c_7 (by decide)
set_option maxRecDepth 100000 in
set_option maxHeartbeats 4000000 in
theorem r_X12_receipt_2 (l : Launch) (E : EE) {S : St} {th : Int32} {g : Gh} (hI : Inv S) {am : Int32} (ham1 : ¬ am < 1) (ham2 : ¬ 9999 < am) {dy : Int32} (hbad : dy < 0 ∨ 119 < dy) {tx : Int32} : WM l E yX12_receipt cX12_receipt 5 (some .int) (wD 8 0 0) [.ref (g.ad 1 0), .int (am), .int (dy), .int (tx)] (RB E S th g) (ow g) (fun _ v H => RB E (S) (1) g H ∧ v = some (.int 0)) := by
  refine wm_of rfl (Nat.le_of_ble_eq_true rfl) (fun p e s m below meth c ls hx hb hr hml (hown : s.vm.findClass RX12 = some m.cls) hC hlocks hR hl hini => ?_)
  have hS : va_S (fun q => ow g q ∨ s.heap.size ≤ q) s.heap s.heap [] := va_S.rf
  have hl : lv_has ls 5 [(0, .ref (g.ad 1 0)), (1, .int (am)), (2, .int (dy)), (3, .int (tx))] := hl
  refine lv_aload_n hx hb dX12_receipt_0 rfl (lv_at hl 0 rfl) ?_
  refine lv_iload_n hx hb dX12_receipt_1 rfl (lv_at hl 1 rfl) ?_
  refine lv_iload_n hx hb dX12_receipt_2 rfl (lv_at hl 2 rfl) ?_
  refine lv_iload_n hx hb dX12_receipt_3 rfl (lv_at hl 3 rfl) ?_
  refine wcw_V (As := [.int (am), .int (dy), .int (tx)]) hx hb hml hown hC hl (c_X12_isNoReceipt_2 l E hI ham1 ham2 hbad) (rec_of hC (RB.x hR) rfl) (zm_X12_182 hC.1) kv_X12_isNoReceipt hR hS (fun q h => h.imp id (Nat.le_trans hS.1)) rfl rfl (wD_le (by decide) (by decide)) (Nat.le_of_ble_eq_true rfl) ⟨Nat.le_of_ble_eq_true rfl, Nat.le_of_ble_eq_true rfl⟩ dX12_receipt_4 (fun H1 locs1 hR hz hq hS => ?_)
  refine lv_if_ne (tgt := 38) hx hb dX12_receipt_7 (by decide) (fun c_7 => ?_) (fun c_7 => ?_)
  ·
    have c_7 : ¬ (1 : Int32) = (0) := c_7
    refine lv_iconst (v := 0) hx hb dX12_receipt_38 (by decide) ?_
    exact wr_i hx hb hr hlocks hS ⟨hR, rfl⟩ (Nat.le_of_ble_eq_true rfl) (Nat.le_of_ble_eq_true rfl) dX12_receipt_39
  · exact absurd c_7 (by decide)
set_option maxRecDepth 100000 in
set_option maxHeartbeats 4000000 in
theorem r_X12_receipt_3 (l : Launch) (E : EE) {S : St} {th : Int32} {g : Gh} (hI : Inv S) {am : Int32} (ham1 : ¬ am < 1) (ham2 : ¬ 9999 < am) {dy : Int32} (hdy1 : ¬ dy < 0) (hdy2 : ¬ 119 < dy) {tx : Int32} (hbad : tx < 0 ∨ 9 < tx) : WM l E yX12_receipt cX12_receipt 5 (some .int) (wD 8 0 0) [.ref (g.ad 1 0), .int (am), .int (dy), .int (tx)] (RB E S th g) (ow g) (fun _ v H => RB E (S) (1) g H ∧ v = some (.int 0)) := by
  refine wm_of rfl (Nat.le_of_ble_eq_true rfl) (fun p e s m below meth c ls hx hb hr hml (hown : s.vm.findClass RX12 = some m.cls) hC hlocks hR hl hini => ?_)
  have hS : va_S (fun q => ow g q ∨ s.heap.size ≤ q) s.heap s.heap [] := va_S.rf
  have hl : lv_has ls 5 [(0, .ref (g.ad 1 0)), (1, .int (am)), (2, .int (dy)), (3, .int (tx))] := hl
  refine lv_aload_n hx hb dX12_receipt_0 rfl (lv_at hl 0 rfl) ?_
  refine lv_iload_n hx hb dX12_receipt_1 rfl (lv_at hl 1 rfl) ?_
  refine lv_iload_n hx hb dX12_receipt_2 rfl (lv_at hl 2 rfl) ?_
  refine lv_iload_n hx hb dX12_receipt_3 rfl (lv_at hl 3 rfl) ?_
  refine wcw_V (As := [.int (am), .int (dy), .int (tx)]) hx hb hml hown hC hl (c_X12_isNoReceipt_3 l E hI ham1 ham2 hdy1 hdy2 hbad) (rec_of hC (RB.x hR) rfl) (zm_X12_182 hC.1) kv_X12_isNoReceipt hR hS (fun q h => h.imp id (Nat.le_trans hS.1)) rfl rfl (wD_le (by decide) (by decide)) (Nat.le_of_ble_eq_true rfl) ⟨Nat.le_of_ble_eq_true rfl, Nat.le_of_ble_eq_true rfl⟩ dX12_receipt_4 (fun H1 locs1 hR hz hq hS => ?_)
  refine lv_if_ne (tgt := 38) hx hb dX12_receipt_7 (by decide) (fun c_7 => ?_) (fun c_7 => ?_)
  ·
    have c_7 : ¬ (1 : Int32) = (0) := c_7
    refine lv_iconst (v := 0) hx hb dX12_receipt_38 (by decide) ?_
    exact wr_i hx hb hr hlocks hS ⟨hR, rfl⟩ (Nat.le_of_ble_eq_true rfl) (Nat.le_of_ble_eq_true rfl) dX12_receipt_39
  · exact absurd c_7 (by decide)
set_option maxRecDepth 100000 in
set_option maxHeartbeats 4000000 in
theorem r_X12_wouldMatch_1 (l : Launch) (E : EE) {S : St} {th : Int32} {g : Gh} (hI : Inv S) {am : Int32} (hbad : am < 1 ∨ 9999 < am) {dy : Int32} {tx : Int32} : WM l E yX12_wouldMatch cX12_wouldMatch 7 (some .int) (wD 8 0 0) [.ref (g.ad 1 0), .int (am), .int (dy), .int (tx)] (RB E S th g) (ow g) (fun _ v H => RB E (S) (1) g H ∧ v = some (.int 0)) := by
  refine wm_of rfl (Nat.le_of_ble_eq_true rfl) (fun p e s m below meth c ls hx hb hr hml (hown : s.vm.findClass RX12 = some m.cls) hC hlocks hR hl hini => ?_)
  have hS : va_S (fun q => ow g q ∨ s.heap.size ≤ q) s.heap s.heap [] := va_S.rf
  have hl : lv_has ls 7 [(0, .ref (g.ad 1 0)), (1, .int (am)), (2, .int (dy)), (3, .int (tx))] := hl
  refine lv_aload_n hx hb dX12_wouldMatch_0 rfl (lv_at hl 0 rfl) ?_
  refine lv_iload_n hx hb dX12_wouldMatch_1 rfl (lv_at hl 1 rfl) ?_
  refine lv_iload_n hx hb dX12_wouldMatch_2 rfl (lv_at hl 2 rfl) ?_
  refine lv_iload_n hx hb dX12_wouldMatch_3 rfl (lv_at hl 3 rfl) ?_
  refine wcw_V (As := [.int (am), .int (dy), .int (tx)]) hx hb hml hown hC hl (c_X12_isNoReceipt_1 l E hI hbad) (rec_of hC (RB.x hR) rfl) (zm_X12_182 hC.1) kv_X12_isNoReceipt hR hS (fun q h => h.imp id (Nat.le_trans hS.1)) rfl rfl (wD_le (by decide) (by decide)) (Nat.le_of_ble_eq_true rfl) ⟨Nat.le_of_ble_eq_true rfl, Nat.le_of_ble_eq_true rfl⟩ dX12_wouldMatch_4 (fun H1 locs1 hR hz hq hS => ?_)
  refine lv_if_eq (tgt := 12) hx hb dX12_wouldMatch_7 (by decide) (fun c_7 => ?_) (fun c_7 => ?_)
  · exact absurd c_7 (by decide)
  ·
    have c_7 : ¬ (1 : Int32) = (0) := c_7
    refine lv_iconst (v := 0) hx hb dX12_wouldMatch_10 (by decide) ?_
    exact wr_i hx hb hr hlocks hS ⟨hR, rfl⟩ (Nat.le_of_ble_eq_true rfl) (Nat.le_of_ble_eq_true rfl) dX12_wouldMatch_11
set_option maxRecDepth 100000 in
set_option maxHeartbeats 4000000 in
theorem r_X12_wouldMatch_2 (l : Launch) (E : EE) {S : St} {th : Int32} {g : Gh} (hI : Inv S) {am : Int32} (ham1 : ¬ am < 1) (ham2 : ¬ 9999 < am) {dy : Int32} (hbad : dy < 0 ∨ 119 < dy) {tx : Int32} : WM l E yX12_wouldMatch cX12_wouldMatch 7 (some .int) (wD 8 0 0) [.ref (g.ad 1 0), .int (am), .int (dy), .int (tx)] (RB E S th g) (ow g) (fun _ v H => RB E (S) (1) g H ∧ v = some (.int 0)) := by
  refine wm_of rfl (Nat.le_of_ble_eq_true rfl) (fun p e s m below meth c ls hx hb hr hml (hown : s.vm.findClass RX12 = some m.cls) hC hlocks hR hl hini => ?_)
  have hS : va_S (fun q => ow g q ∨ s.heap.size ≤ q) s.heap s.heap [] := va_S.rf
  have hl : lv_has ls 7 [(0, .ref (g.ad 1 0)), (1, .int (am)), (2, .int (dy)), (3, .int (tx))] := hl
  refine lv_aload_n hx hb dX12_wouldMatch_0 rfl (lv_at hl 0 rfl) ?_
  refine lv_iload_n hx hb dX12_wouldMatch_1 rfl (lv_at hl 1 rfl) ?_
  refine lv_iload_n hx hb dX12_wouldMatch_2 rfl (lv_at hl 2 rfl) ?_
  refine lv_iload_n hx hb dX12_wouldMatch_3 rfl (lv_at hl 3 rfl) ?_
  refine wcw_V (As := [.int (am), .int (dy), .int (tx)]) hx hb hml hown hC hl (c_X12_isNoReceipt_2 l E hI ham1 ham2 hbad) (rec_of hC (RB.x hR) rfl) (zm_X12_182 hC.1) kv_X12_isNoReceipt hR hS (fun q h => h.imp id (Nat.le_trans hS.1)) rfl rfl (wD_le (by decide) (by decide)) (Nat.le_of_ble_eq_true rfl) ⟨Nat.le_of_ble_eq_true rfl, Nat.le_of_ble_eq_true rfl⟩ dX12_wouldMatch_4 (fun H1 locs1 hR hz hq hS => ?_)
  refine lv_if_eq (tgt := 12) hx hb dX12_wouldMatch_7 (by decide) (fun c_7 => ?_) (fun c_7 => ?_)
  · exact absurd c_7 (by decide)
  ·
    have c_7 : ¬ (1 : Int32) = (0) := c_7
    refine lv_iconst (v := 0) hx hb dX12_wouldMatch_10 (by decide) ?_
    exact wr_i hx hb hr hlocks hS ⟨hR, rfl⟩ (Nat.le_of_ble_eq_true rfl) (Nat.le_of_ble_eq_true rfl) dX12_wouldMatch_11
set_option maxRecDepth 100000 in
set_option maxHeartbeats 4000000 in
theorem r_X12_wouldMatch_3 (l : Launch) (E : EE) {S : St} {th : Int32} {g : Gh} (hI : Inv S) {am : Int32} (ham1 : ¬ am < 1) (ham2 : ¬ 9999 < am) {dy : Int32} (hdy1 : ¬ dy < 0) (hdy2 : ¬ 119 < dy) {tx : Int32} (hbad : tx < 0 ∨ 9 < tx) : WM l E yX12_wouldMatch cX12_wouldMatch 7 (some .int) (wD 8 0 0) [.ref (g.ad 1 0), .int (am), .int (dy), .int (tx)] (RB E S th g) (ow g) (fun _ v H => RB E (S) (1) g H ∧ v = some (.int 0)) := by
  refine wm_of rfl (Nat.le_of_ble_eq_true rfl) (fun p e s m below meth c ls hx hb hr hml (hown : s.vm.findClass RX12 = some m.cls) hC hlocks hR hl hini => ?_)
  have hS : va_S (fun q => ow g q ∨ s.heap.size ≤ q) s.heap s.heap [] := va_S.rf
  have hl : lv_has ls 7 [(0, .ref (g.ad 1 0)), (1, .int (am)), (2, .int (dy)), (3, .int (tx))] := hl
  refine lv_aload_n hx hb dX12_wouldMatch_0 rfl (lv_at hl 0 rfl) ?_
  refine lv_iload_n hx hb dX12_wouldMatch_1 rfl (lv_at hl 1 rfl) ?_
  refine lv_iload_n hx hb dX12_wouldMatch_2 rfl (lv_at hl 2 rfl) ?_
  refine lv_iload_n hx hb dX12_wouldMatch_3 rfl (lv_at hl 3 rfl) ?_
  refine wcw_V (As := [.int (am), .int (dy), .int (tx)]) hx hb hml hown hC hl (c_X12_isNoReceipt_3 l E hI ham1 ham2 hdy1 hdy2 hbad) (rec_of hC (RB.x hR) rfl) (zm_X12_182 hC.1) kv_X12_isNoReceipt hR hS (fun q h => h.imp id (Nat.le_trans hS.1)) rfl rfl (wD_le (by decide) (by decide)) (Nat.le_of_ble_eq_true rfl) ⟨Nat.le_of_ble_eq_true rfl, Nat.le_of_ble_eq_true rfl⟩ dX12_wouldMatch_4 (fun H1 locs1 hR hz hq hS => ?_)
  refine lv_if_eq (tgt := 12) hx hb dX12_wouldMatch_7 (by decide) (fun c_7 => ?_) (fun c_7 => ?_)
  · exact absurd c_7 (by decide)
  ·
    have c_7 : ¬ (1 : Int32) = (0) := c_7
    refine lv_iconst (v := 0) hx hb dX12_wouldMatch_10 (by decide) ?_
    exact wr_i hx hb hr hlocks hS ⟨hR, rfl⟩ (Nat.le_of_ble_eq_true rfl) (Nat.le_of_ble_eq_true rfl) dX12_wouldMatch_11
set_option maxRecDepth 100000 in
set_option maxHeartbeats 4000000 in
theorem r_X12_receipt_4 (l : Launch) (E : EE) {S : St} {th : Int32} {g : Gh} (hI : Inv S) {am : Int32} (ham1 : ¬ am < 1) (ham2 : ¬ 9999 < am) {dy : Int32} (hdy1 : ¬ dy < 0) (hdy2 : ¬ 119 < dy) {tx : Int32} (htx1 : ¬ tx < 0) (htx2 : ¬ 9 < tx) (hfull : 30 ≤ S.nr) : WM l E yX12_receipt cX12_receipt 5 (some .int) (wD 8 0 0) [.ref (g.ad 1 0), .int (am), .int (dy), .int (tx)] (RB E S th g) (ow g) (fun _ v H => RB E (S) (2) g H ∧ v = some (.int 0)) := by
  refine wm_of rfl (Nat.le_of_ble_eq_true rfl) (fun p e s m below meth c ls hx hb hr hml (hown : s.vm.findClass RX12 = some m.cls) hC hlocks hR hl hini => ?_)
  have hS : va_S (fun q => ow g q ∨ s.heap.size ≤ q) s.heap s.heap [] := va_S.rf
  have hl : lv_has ls 5 [(0, .ref (g.ad 1 0)), (1, .int (am)), (2, .int (dy)), (3, .int (tx))] := hl
  refine lv_aload_n hx hb dX12_receipt_0 rfl (lv_at hl 0 rfl) ?_
  refine lv_iload_n hx hb dX12_receipt_1 rfl (lv_at hl 1 rfl) ?_
  refine lv_iload_n hx hb dX12_receipt_2 rfl (lv_at hl 2 rfl) ?_
  refine lv_iload_n hx hb dX12_receipt_3 rfl (lv_at hl 3 rfl) ?_
  refine wcw_V (As := [.int (am), .int (dy), .int (tx)]) hx hb hml hown hC hl (c_X12_isNoReceipt_0 l E hI ham1 ham2 hdy1 hdy2 htx1 htx2) (rec_of hC (RB.x hR) rfl) (zm_X12_182 hC.1) kv_X12_isNoReceipt hR hS (fun q h => h.imp id (Nat.le_trans hS.1)) rfl rfl (wD_le (by decide) (by decide)) (Nat.le_of_ble_eq_true rfl) ⟨Nat.le_of_ble_eq_true rfl, Nat.le_of_ble_eq_true rfl⟩ dX12_receipt_4 (fun H1 locs1 hR hz hq hS => ?_)
  refine lv_if_ne (tgt := 38) hx hb dX12_receipt_7 (by decide) (fun c_7 => ?_) (fun c_7 => ?_)
  · exact absurd (by decide) c_7
  ·
    have c_7 : (0 : Int32) = (0) := c_7
    refine lv_aload_n hx hb dX12_receipt_10 rfl (lv_at hl 0 rfl) ?_
    refine lv_aload_n hx hb dX12_receipt_11 rfl (lv_at hl 0 rfl) ?_
    refine gf_X12_1 hx hb hown hC (RB.x hR) (zf_X12_10 hC.1) dX12_receipt_12 ?_
    refine gf_X8_3 hx hb hown hC (RB.dk hR) (zf_X12_185 hC.1) dX12_receipt_15 ?_
    refine rc_V (As := []) hx hb hml hown hC hl (c_size l E _ _ _ _) (rec_of hC (RB.ls hR (by decide : 3 < 4)) rfl) (zm_X12_28 hC.1) kv_Jx4a65c_size_8abf5 (RB.ls hR (by decide : 3 < 4)) rfl rfl (rwD_le (by decide) (by decide)) ⟨rfl, rfl⟩ (Nat.le_of_ble_eq_true rfl) ⟨Nat.zero_le _, Nat.zero_le _⟩ dX12_receipt_18 ?_
    refine lv_bipush (v := 30) hx hb dX12_receipt_21 (by decide) ?_
    refine lv_icmp_ne (tgt := 30) hx hb dX12_receipt_23 (by decide) (fun c_23 => ?_) (fun c_23 => ?_)
    · exact absurd (show nI S.nr = 30 by rw [show S.nr = 30 by have := hI.1; omega]; rfl) c_23
    ·
      have c_23 : (nI (S.nr) : Int32) = (30) := c_23
      refine lv_iconst (v := 1) hx hb dX12_receipt_26 (by decide) ?_
      refine lv_goto (tgt := 31) hx hb dX12_receipt_27 (by decide) ?_
      refine lv_iconst (v := 2) hx hb dX12_receipt_31 (by decide) ?_
      refine wcw_V (As := [.int (1), .int (2)]) hx hb hml hown hC hl (c_X12_refuse1 l E hI (w9 := 2) (by decide)) (rec_of hC (RB.x hR) rfl) (zm_X12_20 hC.1) kv_X12_refuse hR hS (fun q h => h.imp id (Nat.le_trans hS.1)) rfl rfl (wD_le (by decide) (by decide)) (Nat.le_of_ble_eq_true rfl) ⟨Nat.le_of_ble_eq_true rfl, Nat.le_of_ble_eq_true rfl⟩ dX12_receipt_32 (fun H1 locs1 hR hz hq hS => ?_)
      refine lv_if_eq (tgt := 40) hx hb dX12_receipt_35 (by decide) (fun c_35 => ?_) (fun c_35 => ?_)
      · exact absurd c_35 (by decide)
      ·
        have c_35 : ¬ (1 : Int32) = (0) := c_35
        refine lv_iconst (v := 0) hx hb dX12_receipt_38 (by decide) ?_
        exact wr_i hx hb hr hlocks hS ⟨hR, rfl⟩ (Nat.le_of_ble_eq_true rfl) (Nat.le_of_ble_eq_true rfl) dX12_receipt_39
set_option maxRecDepth 100000 in
set_option maxHeartbeats 4000000 in
theorem r_X12_split_1 (l : Launch) (E : EE) {S : St} {th : Int32} {g : Gh} (hI : Inv S) {c9 : Int32} (hbad : c9 < 0 ∨ nI S.nc ≤ c9) : WM l E yX12_split cX12_split 3 (some .int) (wD 8 0 0) [.ref (g.ad 1 0), .int (c9)] (RB E S th g) (ow g) (fun _ v H => RB E (S) (1) g H ∧ v = some (.int 0)) := by
  refine wm_of rfl (Nat.le_of_ble_eq_true rfl) (fun p e s m below meth c ls hx hb hr hml (hown : s.vm.findClass RX12 = some m.cls) hC hlocks hR hl hini => ?_)
  have hS : va_S (fun q => ow g q ∨ s.heap.size ≤ q) s.heap s.heap [] := va_S.rf
  have hl : lv_has ls 3 [(0, .ref (g.ad 1 0)), (1, .int (c9))] := hl
  refine lv_aload_n hx hb dX12_split_0 rfl (lv_at hl 0 rfl) ?_
  refine lv_iload_n hx hb dX12_split_1 rfl (lv_at hl 1 rfl) ?_
  refine wcw_V (As := [.int (c9)]) hx hb hml hown hC hl (c_X12_isNoCharge_1 l E hI hbad) (rec_of hC (RB.x hR) rfl) (zm_X12_195 hC.1) kv_X12_isNoCharge hR hS (fun q h => h.imp id (Nat.le_trans hS.1)) rfl rfl (wD_le (by decide) (by decide)) (Nat.le_of_ble_eq_true rfl) ⟨Nat.le_of_ble_eq_true rfl, Nat.le_of_ble_eq_true rfl⟩ dX12_split_2 (fun H1 locs1 hR hz hq hS => ?_)
  refine lv_if_ne (tgt := 33) hx hb dX12_split_5 (by decide) (fun c_5 => ?_) (fun c_5 => ?_)
  ·
    have c_5 : ¬ (1 : Int32) = (0) := c_5
    refine lv_iconst (v := 0) hx hb dX12_split_33 (by decide) ?_
    exact wr_i hx hb hr hlocks hS ⟨hR, rfl⟩ (Nat.le_of_ble_eq_true rfl) (Nat.le_of_ble_eq_true rfl) dX12_split_34
  · exact absurd c_5 (by decide)
set_option maxRecDepth 100000 in
set_option maxHeartbeats 4000000 in
theorem r_X12_split_2 (l : Launch) (E : EE) {S : St} {th : Int32} {g : Gh} (hI : Inv S) {c9 : Nat} (hc9 : c9 < S.nc) (hbad : ¬ S.cs c9 = 1) : WM l E yX12_split cX12_split 3 (some .int) (wD 8 0 0) [.ref (g.ad 1 0), .int (nI c9)] (RB E S th g) (ow g) (fun _ v H => RB E (S) (2) g H ∧ v = some (.int 0)) := by
  refine wm_of rfl (Nat.le_of_ble_eq_true rfl) (fun p e s m below meth c ls hx hb hr hml (hown : s.vm.findClass RX12 = some m.cls) hC hlocks hR hl hini => ?_)
  have hS : va_S (fun q => ow g q ∨ s.heap.size ≤ q) s.heap s.heap [] := va_S.rf
  have hl : lv_has ls 3 [(0, .ref (g.ad 1 0)), (1, .int (nI c9))] := hl
  refine lv_aload_n hx hb dX12_split_0 rfl (lv_at hl 0 rfl) ?_
  refine lv_iload_n hx hb dX12_split_1 rfl (lv_at hl 1 rfl) ?_
  refine wcw_V (As := [.int (nI c9)]) hx hb hml hown hC hl (c_X12_isNoCharge_0 l E hI hc9) (rec_of hC (RB.x hR) rfl) (zm_X12_195 hC.1) kv_X12_isNoCharge hR hS (fun q h => h.imp id (Nat.le_trans hS.1)) rfl rfl (wD_le (by decide) (by decide)) (Nat.le_of_ble_eq_true rfl) ⟨Nat.le_of_ble_eq_true rfl, Nat.le_of_ble_eq_true rfl⟩ dX12_split_2 (fun H1 locs1 hR hz hq hS => ?_)
  refine lv_if_ne (tgt := 33) hx hb dX12_split_5 (by decide) (fun c_5 => ?_) (fun c_5 => ?_)
  · exact absurd (by decide) c_5
  ·
    have c_5 : (0 : Int32) = (0) := c_5
    refine lv_aload_n hx hb dX12_split_8 rfl (lv_at hl 0 rfl) ?_
    refine lv_aload_n hx hb dX12_split_9 rfl (lv_at hl 0 rfl) ?_
    refine lv_iload_n hx hb dX12_split_10 rfl (lv_at hl 1 rfl) ?_
    refine rc_V (As := [.int (nI c9)]) hx hb hml hown hC hl (c_X12_charge_ l E hI hc9) (rec_of hC (RB.x hR) rfl) (zm_X12_198 hC.1) kv_X12_charge_ hR rfl rfl (rwD_le (by decide) (by decide)) ⟨rfl, rfl⟩ (Nat.le_of_ble_eq_true rfl) ⟨Nat.zero_le _, Nat.zero_le _⟩ dX12_split_11 ?_
    refine gf_X7_8 hx hb hown hC (RB.ch hR hc9) (zf_X12_103 hC.1) dX12_split_14 ?_
    refine lv_iconst (v := 1) hx hb dX12_split_17 (by decide) ?_
    refine lv_icmp_eq (tgt := 25) hx hb dX12_split_18 (by decide) (fun c_18 => ?_) (fun c_18 => ?_)
    · exact absurd c_18 hbad
    ·
      have c_18 : ¬ (S.cs (c9) : Int32) = (1) := c_18
      refine lv_iconst (v := 1) hx hb dX12_split_21 (by decide) ?_
      refine lv_goto (tgt := 26) hx hb dX12_split_22 (by decide) ?_
      refine lv_iconst (v := 2) hx hb dX12_split_26 (by decide) ?_
      refine wcw_V (As := [.int (1), .int (2)]) hx hb hml hown hC hl (c_X12_refuse1 l E hI (w9 := 2) (by decide)) (rec_of hC (RB.x hR) rfl) (zm_X12_20 hC.1) kv_X12_refuse hR hS (fun q h => h.imp id (Nat.le_trans hS.1)) rfl rfl (wD_le (by decide) (by decide)) (Nat.le_of_ble_eq_true rfl) ⟨Nat.le_of_ble_eq_true rfl, Nat.le_of_ble_eq_true rfl⟩ dX12_split_27 (fun H1 locs1 hR hz hq hS => ?_)
      refine lv_if_eq (tgt := 35) hx hb dX12_split_30 (by decide) (fun c_30 => ?_) (fun c_30 => ?_)
      · exact absurd c_30 (by decide)
      ·
        have c_30 : ¬ (1 : Int32) = (0) := c_30
        refine lv_iconst (v := 0) hx hb dX12_split_33 (by decide) ?_
        exact wr_i hx hb hr hlocks hS ⟨hR, rfl⟩ (Nat.le_of_ble_eq_true rfl) (Nat.le_of_ble_eq_true rfl) dX12_split_34
set_option maxRecDepth 100000 in
set_option maxHeartbeats 4000000 in
theorem r_X12_settle_1 (l : Launch) (E : EE) {S : St} {th : Int32} {g : Gh} (hI : Inv S) {c9 : Int32} (hbad : c9 < 0 ∨ nI S.nc ≤ c9) {b9 : Int32} : WM l E yX12_settle cX12_settle 3 (some .int) (wD 8 0 0) [.ref (g.ad 1 0), .int (c9), .int (b9)] (RB E S th g) (ow g) (fun _ v H => RB E (S) (1) g H ∧ v = some (.int 0)) := by
  refine wm_of rfl (Nat.le_of_ble_eq_true rfl) (fun p e s m below meth c ls hx hb hr hml (hown : s.vm.findClass RX12 = some m.cls) hC hlocks hR hl hini => ?_)
  have hS : va_S (fun q => ow g q ∨ s.heap.size ≤ q) s.heap s.heap [] := va_S.rf
  have hl : lv_has ls 3 [(0, .ref (g.ad 1 0)), (1, .int (c9)), (2, .int (b9))] := hl
  refine lv_aload_n hx hb dX12_settle_0 rfl (lv_at hl 0 rfl) ?_
  refine lv_iload_n hx hb dX12_settle_1 rfl (lv_at hl 1 rfl) ?_
  refine wcw_V (As := [.int (c9)]) hx hb hml hown hC hl (c_X12_isNoCharge_1 l E hI hbad) (rec_of hC (RB.x hR) rfl) (zm_X12_195 hC.1) kv_X12_isNoCharge hR hS (fun q h => h.imp id (Nat.le_trans hS.1)) rfl rfl (wD_le (by decide) (by decide)) (Nat.le_of_ble_eq_true rfl) ⟨Nat.le_of_ble_eq_true rfl, Nat.le_of_ble_eq_true rfl⟩ dX12_settle_2 (fun H1 locs1 hR hz hq hS => ?_)
  refine lv_if_ne (tgt := 33) hx hb dX12_settle_5 (by decide) (fun c_5 => ?_) (fun c_5 => ?_)
  ·
    have c_5 : ¬ (1 : Int32) = (0) := c_5
    refine lv_iconst (v := 0) hx hb dX12_settle_33 (by decide) ?_
    exact wr_i hx hb hr hlocks hS ⟨hR, rfl⟩ (Nat.le_of_ble_eq_true rfl) (Nat.le_of_ble_eq_true rfl) dX12_settle_34
  · exact absurd c_5 (by decide)
set_option maxRecDepth 100000 in
set_option maxHeartbeats 4000000 in
theorem r_X12_settle_2 (l : Launch) (E : EE) {S : St} {th : Int32} {g : Gh} (hI : Inv S) {c9 : Nat} (hc9 : c9 < S.nc) {b9 : Int32} (hbad : ¬ S.cs c9 = 4) : WM l E yX12_settle cX12_settle 3 (some .int) (wD 8 0 0) [.ref (g.ad 1 0), .int (nI c9), .int (b9)] (RB E S th g) (ow g) (fun _ v H => RB E (S) (2) g H ∧ v = some (.int 0)) := by
  refine wm_of rfl (Nat.le_of_ble_eq_true rfl) (fun p e s m below meth c ls hx hb hr hml (hown : s.vm.findClass RX12 = some m.cls) hC hlocks hR hl hini => ?_)
  have hS : va_S (fun q => ow g q ∨ s.heap.size ≤ q) s.heap s.heap [] := va_S.rf
  have hl : lv_has ls 3 [(0, .ref (g.ad 1 0)), (1, .int (nI c9)), (2, .int (b9))] := hl
  refine lv_aload_n hx hb dX12_settle_0 rfl (lv_at hl 0 rfl) ?_
  refine lv_iload_n hx hb dX12_settle_1 rfl (lv_at hl 1 rfl) ?_
  refine wcw_V (As := [.int (nI c9)]) hx hb hml hown hC hl (c_X12_isNoCharge_0 l E hI hc9) (rec_of hC (RB.x hR) rfl) (zm_X12_195 hC.1) kv_X12_isNoCharge hR hS (fun q h => h.imp id (Nat.le_trans hS.1)) rfl rfl (wD_le (by decide) (by decide)) (Nat.le_of_ble_eq_true rfl) ⟨Nat.le_of_ble_eq_true rfl, Nat.le_of_ble_eq_true rfl⟩ dX12_settle_2 (fun H1 locs1 hR hz hq hS => ?_)
  refine lv_if_ne (tgt := 33) hx hb dX12_settle_5 (by decide) (fun c_5 => ?_) (fun c_5 => ?_)
  · exact absurd (by decide) c_5
  ·
    have c_5 : (0 : Int32) = (0) := c_5
    refine lv_aload_n hx hb dX12_settle_8 rfl (lv_at hl 0 rfl) ?_
    refine lv_aload_n hx hb dX12_settle_9 rfl (lv_at hl 0 rfl) ?_
    refine lv_iload_n hx hb dX12_settle_10 rfl (lv_at hl 1 rfl) ?_
    refine rc_V (As := [.int (nI c9)]) hx hb hml hown hC hl (c_X12_charge_ l E hI hc9) (rec_of hC (RB.x hR) rfl) (zm_X12_198 hC.1) kv_X12_charge_ hR rfl rfl (rwD_le (by decide) (by decide)) ⟨rfl, rfl⟩ (Nat.le_of_ble_eq_true rfl) ⟨Nat.zero_le _, Nat.zero_le _⟩ dX12_settle_11 ?_
    refine gf_X7_8 hx hb hown hC (RB.ch hR hc9) (zf_X12_103 hC.1) dX12_settle_14 ?_
    refine lv_iconst (v := 4) hx hb dX12_settle_17 (by decide) ?_
    refine lv_icmp_eq (tgt := 25) hx hb dX12_settle_18 (by decide) (fun c_18 => ?_) (fun c_18 => ?_)
    · exact absurd c_18 hbad
    ·
      have c_18 : ¬ (S.cs (c9) : Int32) = (4) := c_18
      refine lv_iconst (v := 1) hx hb dX12_settle_21 (by decide) ?_
      refine lv_goto (tgt := 26) hx hb dX12_settle_22 (by decide) ?_
      refine lv_iconst (v := 2) hx hb dX12_settle_26 (by decide) ?_
      refine wcw_V (As := [.int (1), .int (2)]) hx hb hml hown hC hl (c_X12_refuse1 l E hI (w9 := 2) (by decide)) (rec_of hC (RB.x hR) rfl) (zm_X12_20 hC.1) kv_X12_refuse hR hS (fun q h => h.imp id (Nat.le_trans hS.1)) rfl rfl (wD_le (by decide) (by decide)) (Nat.le_of_ble_eq_true rfl) ⟨Nat.le_of_ble_eq_true rfl, Nat.le_of_ble_eq_true rfl⟩ dX12_settle_27 (fun H1 locs1 hR hz hq hS => ?_)
      refine lv_if_eq (tgt := 35) hx hb dX12_settle_30 (by decide) (fun c_30 => ?_) (fun c_30 => ?_)
      · exact absurd c_30 (by decide)
      ·
        have c_30 : ¬ (1 : Int32) = (0) := c_30
        refine lv_iconst (v := 0) hx hb dX12_settle_33 (by decide) ?_
        exact wr_i hx hb hr hlocks hS ⟨hR, rfl⟩ (Nat.le_of_ble_eq_true rfl) (Nat.le_of_ble_eq_true rfl) dX12_settle_34
set_option maxRecDepth 100000 in
set_option maxHeartbeats 4000000 in
theorem r_X12_approve_1 (l : Launch) (E : EE) {S : St} {th : Int32} {g : Gh} (hI : Inv S) {c9 : Int32} (hbad : c9 < 0 ∨ nI S.nc ≤ c9) {p9 : Int32} : WM l E yX12_approve cX12_approve 3 (some .int) (wD 8 0 0) [.ref (g.ad 1 0), .int (c9), .int (p9)] (RB E S th g) (ow g) (fun _ v H => RB E (S) (1) g H ∧ v = some (.int 0)) := by
  refine wm_of rfl (Nat.le_of_ble_eq_true rfl) (fun p e s m below meth c ls hx hb hr hml (hown : s.vm.findClass RX12 = some m.cls) hC hlocks hR hl hini => ?_)
  have hS : va_S (fun q => ow g q ∨ s.heap.size ≤ q) s.heap s.heap [] := va_S.rf
  have hl : lv_has ls 3 [(0, .ref (g.ad 1 0)), (1, .int (c9)), (2, .int (p9))] := hl
  refine lv_aload_n hx hb dX12_approve_0 rfl (lv_at hl 0 rfl) ?_
  refine lv_iload_n hx hb dX12_approve_1 rfl (lv_at hl 1 rfl) ?_
  refine lv_iload_n hx hb dX12_approve_2 rfl (lv_at hl 2 rfl) ?_
  refine wcw_V (As := [.int (c9), .int (p9)]) hx hb hml hown hC hl (c_X12_isNotDue_1 l E hI hbad) (rec_of hC (RB.x hR) rfl) (zm_X12_212 hC.1) kv_X12_isNotDue hR hS (fun q h => h.imp id (Nat.le_trans hS.1)) rfl rfl (wD_le (by decide) (by decide)) (Nat.le_of_ble_eq_true rfl) ⟨Nat.le_of_ble_eq_true rfl, Nat.le_of_ble_eq_true rfl⟩ dX12_approve_3 (fun H1 locs1 hR hz hq hS => ?_)
  refine lv_if_eq (tgt := 11) hx hb dX12_approve_6 (by decide) (fun c_6 => ?_) (fun c_6 => ?_)
  · exact absurd c_6 (by decide)
  ·
    have c_6 : ¬ (1 : Int32) = (0) := c_6
    refine lv_iconst (v := 0) hx hb dX12_approve_9 (by decide) ?_
    exact wr_i hx hb hr hlocks hS ⟨hR, rfl⟩ (Nat.le_of_ble_eq_true rfl) (Nat.le_of_ble_eq_true rfl) dX12_approve_10
set_option maxRecDepth 100000 in
set_option maxHeartbeats 4000000 in
theorem r_X12_approve_2 (l : Launch) (E : EE) {S : St} {th : Int32} {g : Gh} (hI : Inv S) {c9 : Nat} (hc9 : c9 < S.nc) {p9 : Int32} (hbad : p9 < 0 ∨ nI S.np ≤ p9) : WM l E yX12_approve cX12_approve 3 (some .int) (wD 8 0 0) [.ref (g.ad 1 0), .int (nI c9), .int (p9)] (RB E S th g) (ow g) (fun _ v H => RB E (S) (1) g H ∧ v = some (.int 0)) := by
  refine wm_of rfl (Nat.le_of_ble_eq_true rfl) (fun p e s m below meth c ls hx hb hr hml (hown : s.vm.findClass RX12 = some m.cls) hC hlocks hR hl hini => ?_)
  have hS : va_S (fun q => ow g q ∨ s.heap.size ≤ q) s.heap s.heap [] := va_S.rf
  have hl : lv_has ls 3 [(0, .ref (g.ad 1 0)), (1, .int (nI c9)), (2, .int (p9))] := hl
  refine lv_aload_n hx hb dX12_approve_0 rfl (lv_at hl 0 rfl) ?_
  refine lv_iload_n hx hb dX12_approve_1 rfl (lv_at hl 1 rfl) ?_
  refine lv_iload_n hx hb dX12_approve_2 rfl (lv_at hl 2 rfl) ?_
  refine wcw_V (As := [.int (nI c9), .int (p9)]) hx hb hml hown hC hl (c_X12_isNotDue_2 l E hI hc9 hbad) (rec_of hC (RB.x hR) rfl) (zm_X12_212 hC.1) kv_X12_isNotDue hR hS (fun q h => h.imp id (Nat.le_trans hS.1)) rfl rfl (wD_le (by decide) (by decide)) (Nat.le_of_ble_eq_true rfl) ⟨Nat.le_of_ble_eq_true rfl, Nat.le_of_ble_eq_true rfl⟩ dX12_approve_3 (fun H1 locs1 hR hz hq hS => ?_)
  refine lv_if_eq (tgt := 11) hx hb dX12_approve_6 (by decide) (fun c_6 => ?_) (fun c_6 => ?_)
  · exact absurd c_6 (by decide)
  ·
    have c_6 : ¬ (1 : Int32) = (0) := c_6
    refine lv_iconst (v := 0) hx hb dX12_approve_9 (by decide) ?_
    exact wr_i hx hb hr hlocks hS ⟨hR, rfl⟩ (Nat.le_of_ble_eq_true rfl) (Nat.le_of_ble_eq_true rfl) dX12_approve_10
set_option maxRecDepth 100000 in
set_option maxHeartbeats 4000000 in
theorem r_X12_approve_3 (l : Launch) (E : EE) {S : St} {th : Int32} {g : Gh} (hI : Inv S) {c9 : Nat} (hc9 : c9 < S.nc) {p9 : Nat} (hp9 : p9 < S.np) (hbad : ¬ apprA S c9 = some p9) : WM l E yX12_approve cX12_approve 3 (some .int) (wD 8 0 0) [.ref (g.ad 1 0), .int (nI c9), .int (nI p9)] (RB E S th g) (ow g) (fun _ v H => RB E (S) (2) g H ∧ v = some (.int 0)) := by
  refine wm_of rfl (Nat.le_of_ble_eq_true rfl) (fun p e s m below meth c ls hx hb hr hml (hown : s.vm.findClass RX12 = some m.cls) hC hlocks hR hl hini => ?_)
  have hS : va_S (fun q => ow g q ∨ s.heap.size ≤ q) s.heap s.heap [] := va_S.rf
  have hl : lv_has ls 3 [(0, .ref (g.ad 1 0)), (1, .int (nI c9)), (2, .int (nI p9))] := hl
  refine lv_aload_n hx hb dX12_approve_0 rfl (lv_at hl 0 rfl) ?_
  refine lv_iload_n hx hb dX12_approve_1 rfl (lv_at hl 1 rfl) ?_
  refine lv_iload_n hx hb dX12_approve_2 rfl (lv_at hl 2 rfl) ?_
  refine wcw_V (As := [.int (nI c9), .int (nI p9)]) hx hb hml hown hC hl (c_X12_isNotDue_3 l E hI hc9 hp9 hbad) (rec_of hC (RB.x hR) rfl) (zm_X12_212 hC.1) kv_X12_isNotDue hR hS (fun q h => h.imp id (Nat.le_trans hS.1)) rfl rfl (wD_le (by decide) (by decide)) (Nat.le_of_ble_eq_true rfl) ⟨Nat.le_of_ble_eq_true rfl, Nat.le_of_ble_eq_true rfl⟩ dX12_approve_3 (fun H1 locs1 hR hz hq hS => ?_)
  refine lv_if_eq (tgt := 11) hx hb dX12_approve_6 (by decide) (fun c_6 => ?_) (fun c_6 => ?_)
  · exact absurd c_6 (by decide)
  ·
    have c_6 : ¬ (1 : Int32) = (0) := c_6
    refine lv_iconst (v := 0) hx hb dX12_approve_9 (by decide) ?_
    exact wr_i hx hb hr hlocks hS ⟨hR, rfl⟩ (Nat.le_of_ble_eq_true rfl) (Nat.le_of_ble_eq_true rfl) dX12_approve_10
set_option maxRecDepth 100000 in
set_option maxHeartbeats 4000000 in
theorem r_X12_refuse__1 (l : Launch) (E : EE) {S : St} {th : Int32} {g : Gh} (hI : Inv S) {c9 : Int32} (hbad : c9 < 0 ∨ nI S.nc ≤ c9) {p9 : Int32} : WM l E yX12_refuse_ cX12_refuse_ 3 (some .int) (wD 8 0 0) [.ref (g.ad 1 0), .int (c9), .int (p9)] (RB E S th g) (ow g) (fun _ v H => RB E (S) (1) g H ∧ v = some (.int 0)) := by
  refine wm_of rfl (Nat.le_of_ble_eq_true rfl) (fun p e s m below meth c ls hx hb hr hml (hown : s.vm.findClass RX12 = some m.cls) hC hlocks hR hl hini => ?_)
  have hS : va_S (fun q => ow g q ∨ s.heap.size ≤ q) s.heap s.heap [] := va_S.rf
  have hl : lv_has ls 3 [(0, .ref (g.ad 1 0)), (1, .int (c9)), (2, .int (p9))] := hl
  refine lv_aload_n hx hb dX12_refuse__0 rfl (lv_at hl 0 rfl) ?_
  refine lv_iload_n hx hb dX12_refuse__1 rfl (lv_at hl 1 rfl) ?_
  refine lv_iload_n hx hb dX12_refuse__2 rfl (lv_at hl 2 rfl) ?_
  refine wcw_V (As := [.int (c9), .int (p9)]) hx hb hml hown hC hl (c_X12_isNotDue_1 l E hI hbad) (rec_of hC (RB.x hR) rfl) (zm_X12_212 hC.1) kv_X12_isNotDue hR hS (fun q h => h.imp id (Nat.le_trans hS.1)) rfl rfl (wD_le (by decide) (by decide)) (Nat.le_of_ble_eq_true rfl) ⟨Nat.le_of_ble_eq_true rfl, Nat.le_of_ble_eq_true rfl⟩ dX12_refuse__3 (fun H1 locs1 hR hz hq hS => ?_)
  refine lv_if_eq (tgt := 11) hx hb dX12_refuse__6 (by decide) (fun c_6 => ?_) (fun c_6 => ?_)
  · exact absurd c_6 (by decide)
  ·
    have c_6 : ¬ (1 : Int32) = (0) := c_6
    refine lv_iconst (v := 0) hx hb dX12_refuse__9 (by decide) ?_
    exact wr_i hx hb hr hlocks hS ⟨hR, rfl⟩ (Nat.le_of_ble_eq_true rfl) (Nat.le_of_ble_eq_true rfl) dX12_refuse__10
set_option maxRecDepth 100000 in
set_option maxHeartbeats 4000000 in
theorem r_X12_refuse__2 (l : Launch) (E : EE) {S : St} {th : Int32} {g : Gh} (hI : Inv S) {c9 : Nat} (hc9 : c9 < S.nc) {p9 : Int32} (hbad : p9 < 0 ∨ nI S.np ≤ p9) : WM l E yX12_refuse_ cX12_refuse_ 3 (some .int) (wD 8 0 0) [.ref (g.ad 1 0), .int (nI c9), .int (p9)] (RB E S th g) (ow g) (fun _ v H => RB E (S) (1) g H ∧ v = some (.int 0)) := by
  refine wm_of rfl (Nat.le_of_ble_eq_true rfl) (fun p e s m below meth c ls hx hb hr hml (hown : s.vm.findClass RX12 = some m.cls) hC hlocks hR hl hini => ?_)
  have hS : va_S (fun q => ow g q ∨ s.heap.size ≤ q) s.heap s.heap [] := va_S.rf
  have hl : lv_has ls 3 [(0, .ref (g.ad 1 0)), (1, .int (nI c9)), (2, .int (p9))] := hl
  refine lv_aload_n hx hb dX12_refuse__0 rfl (lv_at hl 0 rfl) ?_
  refine lv_iload_n hx hb dX12_refuse__1 rfl (lv_at hl 1 rfl) ?_
  refine lv_iload_n hx hb dX12_refuse__2 rfl (lv_at hl 2 rfl) ?_
  refine wcw_V (As := [.int (nI c9), .int (p9)]) hx hb hml hown hC hl (c_X12_isNotDue_2 l E hI hc9 hbad) (rec_of hC (RB.x hR) rfl) (zm_X12_212 hC.1) kv_X12_isNotDue hR hS (fun q h => h.imp id (Nat.le_trans hS.1)) rfl rfl (wD_le (by decide) (by decide)) (Nat.le_of_ble_eq_true rfl) ⟨Nat.le_of_ble_eq_true rfl, Nat.le_of_ble_eq_true rfl⟩ dX12_refuse__3 (fun H1 locs1 hR hz hq hS => ?_)
  refine lv_if_eq (tgt := 11) hx hb dX12_refuse__6 (by decide) (fun c_6 => ?_) (fun c_6 => ?_)
  · exact absurd c_6 (by decide)
  ·
    have c_6 : ¬ (1 : Int32) = (0) := c_6
    refine lv_iconst (v := 0) hx hb dX12_refuse__9 (by decide) ?_
    exact wr_i hx hb hr hlocks hS ⟨hR, rfl⟩ (Nat.le_of_ble_eq_true rfl) (Nat.le_of_ble_eq_true rfl) dX12_refuse__10
set_option maxRecDepth 100000 in
set_option maxHeartbeats 4000000 in
theorem r_X12_refuse__3 (l : Launch) (E : EE) {S : St} {th : Int32} {g : Gh} (hI : Inv S) {c9 : Nat} (hc9 : c9 < S.nc) {p9 : Nat} (hp9 : p9 < S.np) (hbad : ¬ apprA S c9 = some p9) : WM l E yX12_refuse_ cX12_refuse_ 3 (some .int) (wD 8 0 0) [.ref (g.ad 1 0), .int (nI c9), .int (nI p9)] (RB E S th g) (ow g) (fun _ v H => RB E (S) (2) g H ∧ v = some (.int 0)) := by
  refine wm_of rfl (Nat.le_of_ble_eq_true rfl) (fun p e s m below meth c ls hx hb hr hml (hown : s.vm.findClass RX12 = some m.cls) hC hlocks hR hl hini => ?_)
  have hS : va_S (fun q => ow g q ∨ s.heap.size ≤ q) s.heap s.heap [] := va_S.rf
  have hl : lv_has ls 3 [(0, .ref (g.ad 1 0)), (1, .int (nI c9)), (2, .int (nI p9))] := hl
  refine lv_aload_n hx hb dX12_refuse__0 rfl (lv_at hl 0 rfl) ?_
  refine lv_iload_n hx hb dX12_refuse__1 rfl (lv_at hl 1 rfl) ?_
  refine lv_iload_n hx hb dX12_refuse__2 rfl (lv_at hl 2 rfl) ?_
  refine wcw_V (As := [.int (nI c9), .int (nI p9)]) hx hb hml hown hC hl (c_X12_isNotDue_3 l E hI hc9 hp9 hbad) (rec_of hC (RB.x hR) rfl) (zm_X12_212 hC.1) kv_X12_isNotDue hR hS (fun q h => h.imp id (Nat.le_trans hS.1)) rfl rfl (wD_le (by decide) (by decide)) (Nat.le_of_ble_eq_true rfl) ⟨Nat.le_of_ble_eq_true rfl, Nat.le_of_ble_eq_true rfl⟩ dX12_refuse__3 (fun H1 locs1 hR hz hq hS => ?_)
  refine lv_if_eq (tgt := 11) hx hb dX12_refuse__6 (by decide) (fun c_6 => ?_) (fun c_6 => ?_)
  · exact absurd c_6 (by decide)
  ·
    have c_6 : ¬ (1 : Int32) = (0) := c_6
    refine lv_iconst (v := 0) hx hb dX12_refuse__9 (by decide) ?_
    exact wr_i hx hb hr hlocks hS ⟨hR, rfl⟩ (Nat.le_of_ble_eq_true rfl) (Nat.le_of_ble_eq_true rfl) dX12_refuse__10
set_option maxRecDepth 100000 in
set_option maxHeartbeats 4000000 in
theorem r_X12_ofCharge_1 (l : Launch) (E : EE) {S : St} {th : Int32} {g : Gh} (hI : Inv S) {c9 : Int32} (hbad : c9 < 0 ∨ nI S.nc ≤ c9) {w9 : Int32} : WM l E yX12_ofCharge cX12_ofCharge 3 (some .int) (wD 8 0 0) [.ref (g.ad 1 0), .int (c9), .int (w9)] (RB E S th g) (ow g) (fun _ v H => RB E (S) (1) g H ∧ v = some (.int 0)) := by
  refine wm_of rfl (Nat.le_of_ble_eq_true rfl) (fun p e s m below meth c ls hx hb hr hml (hown : s.vm.findClass RX12 = some m.cls) hC hlocks hR hl hini => ?_)
  have hS : va_S (fun q => ow g q ∨ s.heap.size ≤ q) s.heap s.heap [] := va_S.rf
  have hl : lv_has ls 3 [(0, .ref (g.ad 1 0)), (1, .int (c9)), (2, .int (w9))] := hl
  refine lv_aload_n hx hb dX12_ofCharge_0 rfl (lv_at hl 0 rfl) ?_
  refine lv_iload_n hx hb dX12_ofCharge_1 rfl (lv_at hl 1 rfl) ?_
  refine wcw_V (As := [.int (c9)]) hx hb hml hown hC hl (c_X12_isNoCharge_1 l E hI hbad) (rec_of hC (RB.x hR) rfl) (zm_X12_195 hC.1) kv_X12_isNoCharge hR hS (fun q h => h.imp id (Nat.le_trans hS.1)) rfl rfl (wD_le (by decide) (by decide)) (Nat.le_of_ble_eq_true rfl) ⟨Nat.le_of_ble_eq_true rfl, Nat.le_of_ble_eq_true rfl⟩ dX12_ofCharge_2 (fun H1 locs1 hR hz hq hS => ?_)
  refine lv_if_ne (tgt := 31) hx hb dX12_ofCharge_5 (by decide) (fun c_5 => ?_) (fun c_5 => ?_)
  ·
    have c_5 : ¬ (1 : Int32) = (0) := c_5
    refine lv_iconst (v := 0) hx hb dX12_ofCharge_31 (by decide) ?_
    refine lv_goto (tgt := 45) hx hb dX12_ofCharge_32 (by decide) ?_
    exact wr_i hx hb hr hlocks hS ⟨hR, rfl⟩ (Nat.le_of_ble_eq_true rfl) (Nat.le_of_ble_eq_true rfl) dX12_ofCharge_45
  · exact absurd c_5 (by decide)
set_option maxRecDepth 100000 in
set_option maxHeartbeats 4000000 in
theorem r_X12_ofCharge_2 (l : Launch) (E : EE) {S : St} {th : Int32} {g : Gh} (hI : Inv S) {c9 : Nat} (hc9 : c9 < S.nc) {w9 : Int32} (hbad : w9 < 0 ∨ 11 < w9) : WM l E yX12_ofCharge cX12_ofCharge 3 (some .int) (wD 8 0 0) [.ref (g.ad 1 0), .int (nI c9), .int (w9)] (RB E S th g) (ow g) (fun _ v H => RB E (S) (2) g H ∧ v = some (.int 0)) := by
  refine wm_of rfl (Nat.le_of_ble_eq_true rfl) (fun p e s m below meth c ls hx hb hr hml (hown : s.vm.findClass RX12 = some m.cls) hC hlocks hR hl hini => ?_)
  have hS : va_S (fun q => ow g q ∨ s.heap.size ≤ q) s.heap s.heap [] := va_S.rf
  have hl : lv_has ls 3 [(0, .ref (g.ad 1 0)), (1, .int (nI c9)), (2, .int (w9))] := hl
  refine lv_aload_n hx hb dX12_ofCharge_0 rfl (lv_at hl 0 rfl) ?_
  refine lv_iload_n hx hb dX12_ofCharge_1 rfl (lv_at hl 1 rfl) ?_
  refine wcw_V (As := [.int (nI c9)]) hx hb hml hown hC hl (c_X12_isNoCharge_0 l E hI hc9) (rec_of hC (RB.x hR) rfl) (zm_X12_195 hC.1) kv_X12_isNoCharge hR hS (fun q h => h.imp id (Nat.le_trans hS.1)) rfl rfl (wD_le (by decide) (by decide)) (Nat.le_of_ble_eq_true rfl) ⟨Nat.le_of_ble_eq_true rfl, Nat.le_of_ble_eq_true rfl⟩ dX12_ofCharge_2 (fun H1 locs1 hR hz hq hS => ?_)
  refine lv_if_ne (tgt := 31) hx hb dX12_ofCharge_5 (by decide) (fun c_5 => ?_) (fun c_5 => ?_)
  · exact absurd (by decide) c_5
  ·
    have c_5 : (0 : Int32) = (0) := c_5
    refine lv_aload_n hx hb dX12_ofCharge_8 rfl (lv_at hl 0 rfl) ?_
    refine lv_iload_n hx hb dX12_ofCharge_9 rfl (lv_at hl 2 rfl) ?_
    refine lv_iconst (v := 0) hx hb dX12_ofCharge_10 (by decide) ?_
    refine lv_bipush (v := 11) hx hb dX12_ofCharge_11 (by decide) ?_
    refine rc_S (As := [.int (w9), .int (0), .int (11)]) hx hb hml hown hC hl (k_isIn_0 l E hbad) (zm_X12_34 hC.1) kv_X12_isIn True.intro rfl rfl (rwD_le (by decide) (by decide)) ⟨rfl, rfl⟩ (Nat.le_of_ble_eq_true rfl) ⟨Nat.zero_le _, Nat.zero_le _⟩ dX12_ofCharge_13 ?_
    refine lv_if_ne (tgt := 23) hx hb dX12_ofCharge_16 (by decide) (fun c_16 => ?_) (fun c_16 => ?_)
    · exact absurd (by decide) c_16
    ·
      have c_16 : (0 : Int32) = (0) := c_16
      refine lv_iconst (v := 1) hx hb dX12_ofCharge_19 (by decide) ?_
      refine lv_goto (tgt := 24) hx hb dX12_ofCharge_20 (by decide) ?_
      refine lv_iconst (v := 2) hx hb dX12_ofCharge_24 (by decide) ?_
      refine wcw_V (As := [.int (1), .int (2)]) hx hb hml hown hC hl (c_X12_refuse1 l E hI (w9 := 2) (by decide)) (rec_of hC (RB.x hR) rfl) (zm_X12_20 hC.1) kv_X12_refuse hR hS (fun q h => h.imp id (Nat.le_trans hS.1)) rfl rfl (wD_le (by decide) (by decide)) (Nat.le_of_ble_eq_true rfl) ⟨Nat.le_of_ble_eq_true rfl, Nat.le_of_ble_eq_true rfl⟩ dX12_ofCharge_25 (fun H1 locs1 hR hz hq hS => ?_)
      refine lv_if_eq (tgt := 35) hx hb dX12_ofCharge_28 (by decide) (fun c_28 => ?_) (fun c_28 => ?_)
      · exact absurd c_28 (by decide)
      ·
        have c_28 : ¬ (1 : Int32) = (0) := c_28
        refine lv_iconst (v := 0) hx hb dX12_ofCharge_31 (by decide) ?_
        refine lv_goto (tgt := 45) hx hb dX12_ofCharge_32 (by decide) ?_
        exact wr_i hx hb hr hlocks hS ⟨hR, rfl⟩ (Nat.le_of_ble_eq_true rfl) (Nat.le_of_ble_eq_true rfl) dX12_ofCharge_45
set_option maxRecDepth 100000 in
set_option maxHeartbeats 4000000 in
theorem r_X12_ofReceipt_1 (l : Launch) (E : EE) {S : St} {th : Int32} {g : Gh} (hI : Inv S) {r9 : Int32} (hbad : r9 < 0 ∨ nI S.nr ≤ r9) : WM l E yX12_ofReceipt cX12_ofReceipt 2 (some .int) (wD 8 0 0) [.ref (g.ad 1 0), .int (r9)] (RB E S th g) (ow g) (fun _ v H => RB E (S) (1) g H ∧ v = some (.int 0)) := by
  refine wm_of rfl (Nat.le_of_ble_eq_true rfl) (fun p e s m below meth c ls hx hb hr hml (hown : s.vm.findClass RX12 = some m.cls) hC hlocks hR hl hini => ?_)
  have hS : va_S (fun q => ow g q ∨ s.heap.size ≤ q) s.heap s.heap [] := va_S.rf
  have hl : lv_has ls 2 [(0, .ref (g.ad 1 0)), (1, .int (r9))] := hl
  refine lv_aload_n hx hb dX12_ofReceipt_0 rfl (lv_at hl 0 rfl) ?_
  refine lv_aload_n hx hb dX12_ofReceipt_1 rfl (lv_at hl 0 rfl) ?_
  refine lv_iload_n hx hb dX12_ofReceipt_2 rfl (lv_at hl 1 rfl) ?_
  refine rc_V (As := [.int (r9)]) hx hb hml hown hC hl (k_isNoOne_1 l E hI hbad) (rec_of hC (RB.x hR) rfl) (zm_X12_240 hC.1) kv_X12_isNoOne hR rfl rfl (rwD_le (by decide) (by decide)) ⟨rfl, rfl⟩ (Nat.le_of_ble_eq_true rfl) ⟨Nat.zero_le _, Nat.zero_le _⟩ dX12_ofReceipt_3 ?_
  refine lv_iconst (v := 1) hx hb dX12_ofReceipt_6 (by decide) ?_
  refine wcw_V (As := [.int (1), .int (1)]) hx hb hml hown hC hl (c_X12_start1 l E hI (w9 := 1) (by decide)) (rec_of hC (RB.x hR) rfl) (zm_X12_48 hC.1) kv_X12_start hR hS (fun q h => h.imp id (Nat.le_trans hS.1)) rfl rfl (wD_le (by decide) (by decide)) (Nat.le_of_ble_eq_true rfl) ⟨Nat.le_of_ble_eq_true rfl, Nat.le_of_ble_eq_true rfl⟩ dX12_ofReceipt_7 (fun H1 locs1 hR hz hq hS => ?_)
  refine lv_if_eq (tgt := 17) hx hb dX12_ofReceipt_10 (by decide) (fun c_10 => ?_) (fun c_10 => ?_)
  · exact absurd c_10 (by decide)
  ·
    have c_10 : ¬ (1 : Int32) = (0) := c_10
    refine lv_iconst (v := 0) hx hb dX12_ofReceipt_13 (by decide) ?_
    refine lv_goto (tgt := 34) hx hb dX12_ofReceipt_14 (by decide) ?_
    exact wr_i hx hb hr hlocks hS ⟨hR, rfl⟩ (Nat.le_of_ble_eq_true rfl) (Nat.le_of_ble_eq_true rfl) dX12_ofReceipt_34
set_option maxRecDepth 100000 in
set_option maxHeartbeats 4000000 in
theorem r_X12_score_1 (l : Launch) (E : EE) {S : St} {th : Int32} {g : Gh} (hI : Inv S) {c9 : Int32} (hbad : c9 < 0 ∨ nI S.nc ≤ c9) {r9 : Int32} : WM l E yX12_score cX12_score 3 (some .int) (wD 8 0 0) [.ref (g.ad 1 0), .int (c9), .int (r9)] (RB E S th g) (ow g) (fun _ v H => RB E (S) (1) g H ∧ v = some (.int 0)) := by
  refine wm_of rfl (Nat.le_of_ble_eq_true rfl) (fun p e s m below meth c ls hx hb hr hml (hown : s.vm.findClass RX12 = some m.cls) hC hlocks hR hl hini => ?_)
  have hS : va_S (fun q => ow g q ∨ s.heap.size ≤ q) s.heap s.heap [] := va_S.rf
  have hl : lv_has ls 3 [(0, .ref (g.ad 1 0)), (1, .int (c9)), (2, .int (r9))] := hl
  refine lv_aload_n hx hb dX12_score_0 rfl (lv_at hl 0 rfl) ?_
  refine lv_iload_n hx hb dX12_score_1 rfl (lv_at hl 1 rfl) ?_
  refine wcw_V (As := [.int (c9)]) hx hb hml hown hC hl (c_X12_isNoCharge_1 l E hI hbad) (rec_of hC (RB.x hR) rfl) (zm_X12_195 hC.1) kv_X12_isNoCharge hR hS (fun q h => h.imp id (Nat.le_trans hS.1)) rfl rfl (wD_le (by decide) (by decide)) (Nat.le_of_ble_eq_true rfl) ⟨Nat.le_of_ble_eq_true rfl, Nat.le_of_ble_eq_true rfl⟩ dX12_score_2 (fun H1 locs1 hR hz hq hS => ?_)
  refine lv_if_ne (tgt := 21) hx hb dX12_score_5 (by decide) (fun c_5 => ?_) (fun c_5 => ?_)
  ·
    have c_5 : ¬ (1 : Int32) = (0) := c_5
    refine lv_iconst (v := 0) hx hb dX12_score_21 (by decide) ?_
    refine lv_goto (tgt := 47) hx hb dX12_score_22 (by decide) ?_
    exact wr_i hx hb hr hlocks hS ⟨hR, rfl⟩ (Nat.le_of_ble_eq_true rfl) (Nat.le_of_ble_eq_true rfl) dX12_score_47
  · exact absurd c_5 (by decide)
set_option maxRecDepth 100000 in
set_option maxHeartbeats 4000000 in
theorem r_X12_score_2 (l : Launch) (E : EE) {S : St} {th : Int32} {g : Gh} (hI : Inv S) {c9 : Nat} (hc9 : c9 < S.nc) {r9 : Int32} (hbad : r9 < 0 ∨ nI S.nr ≤ r9) : WM l E yX12_score cX12_score 3 (some .int) (wD 8 0 0) [.ref (g.ad 1 0), .int (nI c9), .int (r9)] (RB E S th g) (ow g) (fun _ v H => RB E (S) (1) g H ∧ v = some (.int 0)) := by
  refine wm_of rfl (Nat.le_of_ble_eq_true rfl) (fun p e s m below meth c ls hx hb hr hml (hown : s.vm.findClass RX12 = some m.cls) hC hlocks hR hl hini => ?_)
  have hS : va_S (fun q => ow g q ∨ s.heap.size ≤ q) s.heap s.heap [] := va_S.rf
  have hl : lv_has ls 3 [(0, .ref (g.ad 1 0)), (1, .int (nI c9)), (2, .int (r9))] := hl
  refine lv_aload_n hx hb dX12_score_0 rfl (lv_at hl 0 rfl) ?_
  refine lv_iload_n hx hb dX12_score_1 rfl (lv_at hl 1 rfl) ?_
  refine wcw_V (As := [.int (nI c9)]) hx hb hml hown hC hl (c_X12_isNoCharge_0 l E hI hc9) (rec_of hC (RB.x hR) rfl) (zm_X12_195 hC.1) kv_X12_isNoCharge hR hS (fun q h => h.imp id (Nat.le_trans hS.1)) rfl rfl (wD_le (by decide) (by decide)) (Nat.le_of_ble_eq_true rfl) ⟨Nat.le_of_ble_eq_true rfl, Nat.le_of_ble_eq_true rfl⟩ dX12_score_2 (fun H1 locs1 hR hz hq hS => ?_)
  refine lv_if_ne (tgt := 21) hx hb dX12_score_5 (by decide) (fun c_5 => ?_) (fun c_5 => ?_)
  · exact absurd (by decide) c_5
  ·
    have c_5 : (0 : Int32) = (0) := c_5
    refine lv_aload_n hx hb dX12_score_8 rfl (lv_at hl 0 rfl) ?_
    refine lv_aload_n hx hb dX12_score_9 rfl (lv_at hl 0 rfl) ?_
    refine lv_iload_n hx hb dX12_score_10 rfl (lv_at hl 2 rfl) ?_
    refine rc_V (As := [.int (r9)]) hx hb hml hown hC hl (k_isNoOne_1 l E hI hbad) (rec_of hC (RB.x hR) rfl) (zm_X12_240 hC.1) kv_X12_isNoOne hR rfl rfl (rwD_le (by decide) (by decide)) ⟨rfl, rfl⟩ (Nat.le_of_ble_eq_true rfl) ⟨Nat.zero_le _, Nat.zero_le _⟩ dX12_score_11 ?_
    refine lv_iconst (v := 1) hx hb dX12_score_14 (by decide) ?_
    refine wcw_V (As := [.int (1), .int (1)]) hx hb hml hown hC hl (c_X12_refuse1 l E hI (w9 := 1) (by decide)) (rec_of hC (RB.x hR) rfl) (zm_X12_20 hC.1) kv_X12_refuse hR hS (fun q h => h.imp id (Nat.le_trans hS.1)) rfl rfl (wD_le (by decide) (by decide)) (Nat.le_of_ble_eq_true rfl) ⟨Nat.le_of_ble_eq_true rfl, Nat.le_of_ble_eq_true rfl⟩ dX12_score_15 (fun H1 locs1 hR hz hq hS => ?_)
    refine lv_if_eq (tgt := 25) hx hb dX12_score_18 (by decide) (fun c_18 => ?_) (fun c_18 => ?_)
    · exact absurd c_18 (by decide)
    ·
      have c_18 : ¬ (1 : Int32) = (0) := c_18
      refine lv_iconst (v := 0) hx hb dX12_score_21 (by decide) ?_
      refine lv_goto (tgt := 47) hx hb dX12_score_22 (by decide) ?_
      exact wr_i hx hb hr hlocks hS ⟨hR, rfl⟩ (Nat.le_of_ble_eq_true rfl) (Nat.le_of_ble_eq_true rfl) dX12_score_47
set_option maxRecDepth 100000 in
set_option maxHeartbeats 4000000 in
theorem r_X12_many_1 (l : Launch) (E : EE) {S : St} {th : Int32} {g : Gh} (hI : Inv S) {w9 : Int32} (hbad : w9 < 0 ∨ 12 < w9) : WM l E yX12_many cX12_many 2 (some .int) (wD 8 0 0) [.ref (g.ad 1 0), .int (w9)] (RB E S th g) (ow g) (fun _ v H => RB E (S) (1) g H ∧ v = some (.int 0)) := by
  refine wm_of rfl (Nat.le_of_ble_eq_true rfl) (fun p e s m below meth c ls hx hb hr hml (hown : s.vm.findClass RX12 = some m.cls) hC hlocks hR hl hini => ?_)
  have hS : va_S (fun q => ow g q ∨ s.heap.size ≤ q) s.heap s.heap [] := va_S.rf
  have hl : lv_has ls 2 [(0, .ref (g.ad 1 0)), (1, .int (w9))] := hl
  refine lv_aload_n hx hb dX12_many_0 rfl (lv_at hl 0 rfl) ?_
  refine lv_iload_n hx hb dX12_many_1 rfl (lv_at hl 1 rfl) ?_
  refine lv_iconst (v := 0) hx hb dX12_many_2 (by decide) ?_
  refine lv_bipush (v := 12) hx hb dX12_many_3 (by decide) ?_
  refine rc_S (As := [.int (w9), .int (0), .int (12)]) hx hb hml hown hC hl (k_isIn_0 l E hbad) (zm_X12_34 hC.1) kv_X12_isIn True.intro rfl rfl (rwD_le (by decide) (by decide)) ⟨rfl, rfl⟩ (Nat.le_of_ble_eq_true rfl) ⟨Nat.zero_le _, Nat.zero_le _⟩ dX12_many_5 ?_
  refine lv_if_ne (tgt := 15) hx hb dX12_many_8 (by decide) (fun c_8 => ?_) (fun c_8 => ?_)
  · exact absurd (by decide) c_8
  ·
    refine lv_iconst (v := 1) hx hb dX12_many_11 (by decide) ?_
    refine lv_goto (tgt := 16) hx hb dX12_many_12 (by decide) ?_
    refine lv_iconst (v := 1) hx hb dX12_many_16 (by decide) ?_
    refine wcw_V (As := [.int (1), .int (1)]) hx hb hml hown hC hl (c_X12_start1 l E hI (w9 := 1) (by decide)) (rec_of hC (RB.x hR) rfl) (zm_X12_48 hC.1) kv_X12_start hR hS (fun q h => h.imp id (Nat.le_trans hS.1)) rfl rfl (wD_le (by decide) (by decide)) (Nat.le_of_ble_eq_true rfl) ⟨Nat.le_of_ble_eq_true rfl, Nat.le_of_ble_eq_true rfl⟩ dX12_many_17 (fun H1 locs1 hR hz hq hS => ?_)
    refine lv_if_eq (tgt := 27) hx hb dX12_many_20 (by decide) (fun c_20 => ?_) (fun c_20 => ?_)
    · exact absurd c_20 (by decide)
    ·
      have c_20 : ¬ (1 : Int32) = (0) := c_20
      refine lv_iconst (v := 0) hx hb dX12_many_23 (by decide) ?_
      refine lv_goto (tgt := 32) hx hb dX12_many_24 (by decide) ?_
      exact wr_i hx hb hr hlocks hS ⟨hR, rfl⟩ (Nat.le_of_ble_eq_true rfl) (Nat.le_of_ble_eq_true rfl) dX12_many_32
set_option maxRecDepth 100000 in
set_option maxHeartbeats 4000000 in
theorem r_X12_trustBehind_1 (l : Launch) (E : EE) {S : St} {th : Int32} {g : Gh} (hI : Inv S) {p9 : Int32} (hbad : p9 < 0 ∨ nI S.np ≤ p9) {d9 : Int32} : WM l E yX12_trustBehind cX12_trustBehind 3 (some .int) (wD 8 0 0) [.ref (g.ad 1 0), .int (p9), .int (d9)] (RB E S th g) (ow g) (fun _ v H => RB E (S) (1) g H ∧ v = some (.int 0)) := by
  refine wm_of rfl (Nat.le_of_ble_eq_true rfl) (fun p e s m below meth c ls hx hb hr hml (hown : s.vm.findClass RX12 = some m.cls) hC hlocks hR hl hini => ?_)
  have hS : va_S (fun q => ow g q ∨ s.heap.size ≤ q) s.heap s.heap [] := va_S.rf
  have hl : lv_has ls 3 [(0, .ref (g.ad 1 0)), (1, .int (p9)), (2, .int (d9))] := hl
  refine lv_aload_n hx hb dX12_trustBehind_0 rfl (lv_at hl 0 rfl) ?_
  refine lv_aload_n hx hb dX12_trustBehind_1 rfl (lv_at hl 0 rfl) ?_
  refine lv_iload_n hx hb dX12_trustBehind_2 rfl (lv_at hl 1 rfl) ?_
  refine rc_V (As := [.int (p9)]) hx hb hml hown hC hl (k_isNo_1 l E hI hbad) (rec_of hC (RB.x hR) rfl) (zm_X12_44 hC.1) kv_X12_isNo hR rfl rfl (rwD_le (by decide) (by decide)) ⟨rfl, rfl⟩ (Nat.le_of_ble_eq_true rfl) ⟨Nat.zero_le _, Nat.zero_le _⟩ dX12_trustBehind_3 ?_
  refine lv_iconst (v := 1) hx hb dX12_trustBehind_6 (by decide) ?_
  refine wcw_V (As := [.int (1), .int (1)]) hx hb hml hown hC hl (c_X12_start1 l E hI (w9 := 1) (by decide)) (rec_of hC (RB.x hR) rfl) (zm_X12_48 hC.1) kv_X12_start hR hS (fun q h => h.imp id (Nat.le_trans hS.1)) rfl rfl (wD_le (by decide) (by decide)) (Nat.le_of_ble_eq_true rfl) ⟨Nat.le_of_ble_eq_true rfl, Nat.le_of_ble_eq_true rfl⟩ dX12_trustBehind_7 (fun H1 locs1 hR hz hq hS => ?_)
  refine lv_if_ne (tgt := 36) hx hb dX12_trustBehind_10 (by decide) (fun c_10 => ?_) (fun c_10 => ?_)
  ·
    have c_10 : ¬ (1 : Int32) = (0) := c_10
    refine lv_iconst (v := 0) hx hb dX12_trustBehind_36 (by decide) ?_
    refine lv_goto (tgt := 49) hx hb dX12_trustBehind_37 (by decide) ?_
    exact wr_i hx hb hr hlocks hS ⟨hR, rfl⟩ (Nat.le_of_ble_eq_true rfl) (Nat.le_of_ble_eq_true rfl) dX12_trustBehind_49
  · exact absurd c_10 (by decide)
set_option maxRecDepth 100000 in
set_option maxHeartbeats 4000000 in
theorem r_X12_trustBehind_2 (l : Launch) (E : EE) {S : St} {th : Int32} {g : Gh} (hI : Inv S) {p9 : Nat} (hp9 : p9 < S.np) {d9 : Int32} (hbad : d9 < 0 ∨ 30 < d9) : WM l E yX12_trustBehind cX12_trustBehind 3 (some .int) (wD 8 0 0) [.ref (g.ad 1 0), .int (nI p9), .int (d9)] (RB E S th g) (ow g) (fun _ v H => RB E (S) (2) g H ∧ v = some (.int 0)) := by
  refine wm_of rfl (Nat.le_of_ble_eq_true rfl) (fun p e s m below meth c ls hx hb hr hml (hown : s.vm.findClass RX12 = some m.cls) hC hlocks hR hl hini => ?_)
  have hS : va_S (fun q => ow g q ∨ s.heap.size ≤ q) s.heap s.heap [] := va_S.rf
  have hl : lv_has ls 3 [(0, .ref (g.ad 1 0)), (1, .int (nI p9)), (2, .int (d9))] := hl
  refine lv_aload_n hx hb dX12_trustBehind_0 rfl (lv_at hl 0 rfl) ?_
  refine lv_aload_n hx hb dX12_trustBehind_1 rfl (lv_at hl 0 rfl) ?_
  refine lv_iload_n hx hb dX12_trustBehind_2 rfl (lv_at hl 1 rfl) ?_
  refine rc_V (As := [.int (nI p9)]) hx hb hml hown hC hl (k_isNo_0 l E hI hp9) (rec_of hC (RB.x hR) rfl) (zm_X12_44 hC.1) kv_X12_isNo hR rfl rfl (rwD_le (by decide) (by decide)) ⟨rfl, rfl⟩ (Nat.le_of_ble_eq_true rfl) ⟨Nat.zero_le _, Nat.zero_le _⟩ dX12_trustBehind_3 ?_
  refine lv_iconst (v := 1) hx hb dX12_trustBehind_6 (by decide) ?_
  refine wcw_V (As := [.int (0), .int (1)]) hx hb hml hown hC hl (c_X12_start0 l E hI (w9 := 1)) (rec_of hC (RB.x hR) rfl) (zm_X12_48 hC.1) kv_X12_start hR hS (fun q h => h.imp id (Nat.le_trans hS.1)) rfl rfl (wD_le (by decide) (by decide)) (Nat.le_of_ble_eq_true rfl) ⟨Nat.le_of_ble_eq_true rfl, Nat.le_of_ble_eq_true rfl⟩ dX12_trustBehind_7 (fun H1 locs1 hR hz hq hS => ?_)
  refine lv_if_ne (tgt := 36) hx hb dX12_trustBehind_10 (by decide) (fun c_10 => ?_) (fun c_10 => ?_)
  · exact absurd (by decide) c_10
  ·
    have c_10 : (0 : Int32) = (0) := c_10
    refine lv_aload_n hx hb dX12_trustBehind_13 rfl (lv_at hl 0 rfl) ?_
    refine lv_iload_n hx hb dX12_trustBehind_14 rfl (lv_at hl 2 rfl) ?_
    refine lv_iconst (v := 0) hx hb dX12_trustBehind_15 (by decide) ?_
    refine lv_bipush (v := 30) hx hb dX12_trustBehind_16 (by decide) ?_
    refine rc_S (As := [.int (d9), .int (0), .int (30)]) hx hb hml hown hC hl (k_isIn_0 l E hbad) (zm_X12_34 hC.1) kv_X12_isIn True.intro rfl rfl (rwD_le (by decide) (by decide)) ⟨rfl, rfl⟩ (Nat.le_of_ble_eq_true rfl) ⟨Nat.zero_le _, Nat.zero_le _⟩ dX12_trustBehind_18 ?_
    refine lv_if_ne (tgt := 28) hx hb dX12_trustBehind_21 (by decide) (fun c_21 => ?_) (fun c_21 => ?_)
    · exact absurd (by decide) c_21
    ·
      have c_21 : (0 : Int32) = (0) := c_21
      refine lv_iconst (v := 1) hx hb dX12_trustBehind_24 (by decide) ?_
      refine lv_goto (tgt := 29) hx hb dX12_trustBehind_25 (by decide) ?_
      refine lv_iconst (v := 2) hx hb dX12_trustBehind_29 (by decide) ?_
      refine wcw_V (As := [.int (1), .int (2)]) hx hb hml hown hC hl (c_X12_refuse1 l E hI (w9 := 2) (by decide)) (rec_of hC (RB.x hR) rfl) (zm_X12_20 hC.1) kv_X12_refuse hR hS (fun q h => h.imp id (Nat.le_trans hS.1)) rfl rfl (wD_le (by decide) (by decide)) (Nat.le_of_ble_eq_true rfl) ⟨Nat.le_of_ble_eq_true rfl, Nat.le_of_ble_eq_true rfl⟩ dX12_trustBehind_30 (fun H1 locs1 hR hz hq hS => ?_)
      refine lv_if_eq (tgt := 40) hx hb dX12_trustBehind_33 (by decide) (fun c_33 => ?_) (fun c_33 => ?_)
      · exact absurd c_33 (by decide)
      ·
        have c_33 : ¬ (1 : Int32) = (0) := c_33
        refine lv_iconst (v := 0) hx hb dX12_trustBehind_36 (by decide) ?_
        refine lv_goto (tgt := 49) hx hb dX12_trustBehind_37 (by decide) ?_
        exact wr_i hx hb hr hlocks hS ⟨hR, rfl⟩ (Nat.le_of_ble_eq_true rfl) (Nat.le_of_ble_eq_true rfl) dX12_trustBehind_49
set_option maxRecDepth 100000 in
set_option maxHeartbeats 4000000 in
theorem r_X12_day_1 (l : Launch) (E : EE) {S : St} {th : Int32} {g : Gh} (hI : Inv S) (hfull : 119 ≤ S.td) : WM l E yX12_day cX12_day 1 (some .int) (wD 8 0 0) [.ref (g.ad 1 0)] (RB E S th g) (ow g) (fun _ v H => RB E (S) (1) g H ∧ v = some (.int 0)) := by
  refine wm_of rfl (Nat.le_of_ble_eq_true rfl) (fun p e s m below meth c ls hx hb hr hml (hown : s.vm.findClass RX12 = some m.cls) hC hlocks hR hl hini => ?_)
  have hS : va_S (fun q => ow g q ∨ s.heap.size ≤ q) s.heap s.heap [] := va_S.rf
  have hl : lv_has ls 1 [(0, .ref (g.ad 1 0))] := hl
  refine lv_aload_n hx hb dX12_day_0 rfl (lv_at hl 0 rfl) ?_
  refine lv_aload_n hx hb dX12_day_1 rfl (lv_at hl 0 rfl) ?_
  refine gf_X12_1 hx hb hown hC (RB.x hR) (zf_X12_10 hC.1) dX12_day_2 ?_
  refine gf_X8_7 hx hb hown hC (RB.dk hR) (zf_X12_170 hC.1) dX12_day_5 ?_
  refine lv_bipush (v := 119) hx hb dX12_day_8 (by decide) ?_
  refine lv_icmp_ne (tgt := 17) hx hb dX12_day_10 (by decide) (fun c_10 => ?_) (fun c_10 => ?_)
  · exact absurd (show nI S.td = 119 by rw [show S.td = 119 by have := hI.1; omega]; rfl) c_10
  ·
    refine lv_iconst (v := 1) hx hb dX12_day_13 (by decide) ?_
    refine lv_goto (tgt := 18) hx hb dX12_day_14 (by decide) ?_
    refine lv_iconst (v := 1) hx hb dX12_day_18 (by decide) ?_
    refine wcw_V (As := [.int (1), .int (1)]) hx hb hml hown hC hl (c_X12_start1 l E hI (w9 := 1) (by decide)) (rec_of hC (RB.x hR) rfl) (zm_X12_48 hC.1) kv_X12_start hR hS (fun q h => h.imp id (Nat.le_trans hS.1)) rfl rfl (wD_le (by decide) (by decide)) (Nat.le_of_ble_eq_true rfl) ⟨Nat.le_of_ble_eq_true rfl, Nat.le_of_ble_eq_true rfl⟩ dX12_day_19 (fun H1 locs1 hR hz hq hS => ?_)
    refine lv_if_eq (tgt := 29) hx hb dX12_day_22 (by decide) (fun c_22 => ?_) (fun c_22 => ?_)
    · exact absurd c_22 (by decide)
    ·
      have c_22 : ¬ (1 : Int32) = (0) := c_22
      refine lv_iconst (v := 0) hx hb dX12_day_25 (by decide) ?_
      refine lv_goto (tgt := 36) hx hb dX12_day_26 (by decide) ?_
      exact wr_i hx hb hr hlocks hS ⟨hR, rfl⟩ (Nat.le_of_ble_eq_true rfl) (Nat.le_of_ble_eq_true rfl) dX12_day_36
