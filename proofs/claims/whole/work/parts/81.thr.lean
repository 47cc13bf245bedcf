set_option maxRecDepth 100000 in
set_option maxHeartbeats 4000000 in
theorem c_X12_refuse0 (l : Launch) (E : EE) {S : St} {g : Gh} (hI : Inv S) {w9 : Int32} : WM l E yX12_refuse cX12_refuse 3 (some .boolean) (wD 1 0 0) [.ref (g.ad 1 0), .int (0), .int (w9)] (RB E S 0 g) (ow g) (fun _ v H => RB E (S) (0) g H ∧ v = some (.int 0)) := by
  refine wm_of rfl (Nat.le_of_ble_eq_true rfl) (fun p e s m below meth c ls hx hb hr hml (hown : s.vm.findClass RX12 = some m.cls) hC hlocks hR hl hini => ?_)
  have hS : va_S (fun q => ow g q ∨ s.heap.size ≤ q) s.heap s.heap [] := va_S.rf
  have hl : lv_has ls 3 [(0, .ref (g.ad 1 0)), (1, .int (0)), (2, .int (w9))] := hl
  refine lv_iload_n hx hb dX12_refuse_0 rfl (lv_at hl 1 rfl) ?_
  refine lv_if_eq (tgt := 16) hx hb dX12_refuse_1 (by decide) (fun c_1 => ?_) (fun c_1 => ?_)
  ·
    refine lv_aload_n hx hb dX12_refuse_16 rfl (lv_at hl 0 rfl) ?_
    refine gf_X12_0 hx hb hown hC (RB.x hR) (zf_X12_16 hC.1) dX12_refuse_17 ?_
    refine lv_if_le (tgt := 27) hx hb dX12_refuse_20 (by decide) (fun c_20 => ?_) (fun c_20 => ?_)
    ·
      refine lv_iconst (v := 0) hx hb dX12_refuse_27 (by decide) ?_
      exact wr_z hx hb hr hlocks (by decide) hS ⟨hR, rfl⟩ (Nat.le_of_ble_eq_true rfl) (Nat.le_of_ble_eq_true rfl) dX12_refuse_28
    · exact absurd (by decide) c_20
  · exact absurd (by decide) c_1
set_option maxRecDepth 100000 in
set_option maxHeartbeats 4000000 in
theorem c_X12_refuse1 (l : Launch) (E : EE) {S : St} {g : Gh} (hI : Inv S) {w9 : Int32} (hw : ¬ w9 ≤ 0) : WM l E yX12_refuse cX12_refuse 3 (some .boolean) (wD 1 0 0) [.ref (g.ad 1 0), .int (1), .int (w9)] (RB E S 0 g) (ow g) (fun _ v H => RB E (S) (w9) g H ∧ v = some (.int 1)) := by
  refine wm_of rfl (Nat.le_of_ble_eq_true rfl) (fun p e s m below meth c ls hx hb hr hml (hown : s.vm.findClass RX12 = some m.cls) hC hlocks hR hl hini => ?_)
  have hS : va_S (fun q => ow g q ∨ s.heap.size ≤ q) s.heap s.heap [] := va_S.rf
  have hl : lv_has ls 3 [(0, .ref (g.ad 1 0)), (1, .int (1)), (2, .int (w9))] := hl
  refine lv_iload_n hx hb dX12_refuse_0 rfl (lv_at hl 1 rfl) ?_
  refine lv_if_eq (tgt := 16) hx hb dX12_refuse_1 (by decide) (fun c_1 => ?_) (fun c_1 => ?_)
  · exact absurd c_1 (by decide)
  ·
    refine lv_aload_n hx hb dX12_refuse_4 rfl (lv_at hl 0 rfl) ?_
    refine gf_X12_0 hx hb hown hC (RB.x hR) (zf_X12_16 hC.1) dX12_refuse_5 ?_
    refine lv_if_ne (tgt := 16) hx hb dX12_refuse_8 (by decide) (fun c_8 => ?_) (fun c_8 => ?_)
    · exact absurd (by decide) c_8
    ·
      refine lv_aload_n hx hb dX12_refuse_11 rfl (lv_at hl 0 rfl) ?_
      refine lv_iload_n hx hb dX12_refuse_12 rfl (lv_at hl 2 rfl) ?_
      refine pf_X12_0 hx hb hown hC (RB.x hR) hS (Or.inl (RB.ow hR (k := 1) (i := 0) rfl)) (zf_X12_16 hC.1) rfl rfl dX12_refuse_13 (fun H1 locs1 hat hz hq hS => ?_)
      have hR : RB E (S) (w9) g H1 := RB.s_th (v := w9) hR hat hq
      refine lv_aload_n hx hb dX12_refuse_16 rfl (lv_at hl 0 rfl) ?_
      refine gf_X12_0 hx hb hown hC (RB.x hR) (zf_X12_16 hC.1) dX12_refuse_17 ?_
      refine lv_if_le (tgt := 27) hx hb dX12_refuse_20 (by decide) (fun c_20 => ?_) (fun c_20 => ?_)
      · exact absurd c_20 hw
      ·
        refine lv_iconst (v := 1) hx hb dX12_refuse_23 (by decide) ?_
        refine lv_goto (tgt := 28) hx hb dX12_refuse_24 (by decide) ?_
        exact wr_z hx hb hr hlocks (by decide) hS ⟨hR, rfl⟩ (Nat.le_of_ble_eq_true rfl) (Nat.le_of_ble_eq_true rfl) dX12_refuse_28
set_option maxRecDepth 100000 in
set_option maxHeartbeats 4000000 in
theorem c_X12_start0 (l : Launch) (E : EE) {S : St} {th : Int32} {g : Gh} (hI : Inv S) {w9 : Int32} : WM l E yX12_start cX12_start 3 (some .boolean) (wD 2 0 0) [.ref (g.ad 1 0), .int (0), .int (w9)] (RB E S th g) (ow g) (fun _ v H => RB E (S) (0) g H ∧ v = some (.int 0)) := by
  refine wm_of rfl (Nat.le_of_ble_eq_true rfl) (fun p e s m below meth c ls hx hb hr hml (hown : s.vm.findClass RX12 = some m.cls) hC hlocks hR hl hini => ?_)
  have hS : va_S (fun q => ow g q ∨ s.heap.size ≤ q) s.heap s.heap [] := va_S.rf
  have hl : lv_has ls 3 [(0, .ref (g.ad 1 0)), (1, .int (0)), (2, .int (w9))] := hl
  refine lv_aload_n hx hb dX12_start_0 rfl (lv_at hl 0 rfl) ?_
  refine lv_iconst (v := 0) hx hb dX12_start_1 (by decide) ?_
  refine pf_X12_0 hx hb hown hC (RB.x hR) hS (Or.inl (RB.ow hR (k := 1) (i := 0) rfl)) (zf_X12_16 hC.1) rfl rfl dX12_start_2 (fun H1 locs1 hat hz hq hS => ?_)
  have hR : RB E (S) (0) g H1 := RB.s_th (v := 0) hR hat hq
  refine lv_aload_n hx hb dX12_start_5 rfl (lv_at hl 0 rfl) ?_
  refine lv_iload_n hx hb dX12_start_6 rfl (lv_at hl 1 rfl) ?_
  refine lv_iload_n hx hb dX12_start_7 rfl (lv_at hl 2 rfl) ?_
  refine wcw_V (As := [.int (0), .int (w9)]) hx hb hml hown hC hl (c_X12_refuse0 l E hI (w9 := w9)) (rec_of hC (RB.x hR) rfl) (zm_X12_20 hC.1) kv_X12_refuse hR hS (fun q h => h.imp id (Nat.le_trans hS.1)) rfl rfl (wD_le (by decide) (by decide)) (Nat.le_of_ble_eq_true rfl) ⟨Nat.le_of_ble_eq_true rfl, Nat.le_of_ble_eq_true rfl⟩ dX12_start_8 (fun H1 locs1 hR hz hq hS => ?_)
  exact wr_z hx hb hr hlocks (by decide) hS ⟨hR, rfl⟩ (Nat.le_of_ble_eq_true rfl) (Nat.le_of_ble_eq_true rfl) dX12_start_11
set_option maxRecDepth 100000 in
set_option maxHeartbeats 4000000 in
theorem c_X12_start1 (l : Launch) (E : EE) {S : St} {th : Int32} {g : Gh} (hI : Inv S) {w9 : Int32} (hw : ¬ w9 ≤ 0) : WM l E yX12_start cX12_start 3 (some .boolean) (wD 2 0 0) [.ref (g.ad 1 0), .int (1), .int (w9)] (RB E S th g) (ow g) (fun _ v H => RB E (S) (w9) g H ∧ v = some (.int 1)) := by
  refine wm_of rfl (Nat.le_of_ble_eq_true rfl) (fun p e s m below meth c ls hx hb hr hml (hown : s.vm.findClass RX12 = some m.cls) hC hlocks hR hl hini => ?_)
  have hS : va_S (fun q => ow g q ∨ s.heap.size ≤ q) s.heap s.heap [] := va_S.rf
  have hl : lv_has ls 3 [(0, .ref (g.ad 1 0)), (1, .int (1)), (2, .int (w9))] := hl
  refine lv_aload_n hx hb dX12_start_0 rfl (lv_at hl 0 rfl) ?_
  refine lv_iconst (v := 0) hx hb dX12_start_1 (by decide) ?_
  refine pf_X12_0 hx hb hown hC (RB.x hR) hS (Or.inl (RB.ow hR (k := 1) (i := 0) rfl)) (zf_X12_16 hC.1) rfl rfl dX12_start_2 (fun H1 locs1 hat hz hq hS => ?_)
  have hR : RB E (S) (0) g H1 := RB.s_th (v := 0) hR hat hq
  refine lv_aload_n hx hb dX12_start_5 rfl (lv_at hl 0 rfl) ?_
  refine lv_iload_n hx hb dX12_start_6 rfl (lv_at hl 1 rfl) ?_
  refine lv_iload_n hx hb dX12_start_7 rfl (lv_at hl 2 rfl) ?_
  refine wcw_V (As := [.int (1), .int (w9)]) hx hb hml hown hC hl (c_X12_refuse1 l E hI (w9 := w9) hw) (rec_of hC (RB.x hR) rfl) (zm_X12_20 hC.1) kv_X12_refuse hR hS (fun q h => h.imp id (Nat.le_trans hS.1)) rfl rfl (wD_le (by decide) (by decide)) (Nat.le_of_ble_eq_true rfl) ⟨Nat.le_of_ble_eq_true rfl, Nat.le_of_ble_eq_true rfl⟩ dX12_start_8 (fun H1 locs1 hR hz hq hS => ?_)
  exact wr_z hx hb hr hlocks (by decide) hS ⟨hR, rfl⟩ (Nat.le_of_ble_eq_true rfl) (Nat.le_of_ble_eq_true rfl) dX12_start_11
set_option maxRecDepth 100000 in
set_option maxHeartbeats 4000000 in
theorem c_X12_isNoBudget_1 (l : Launch) (E : EE) {S : St} {th : Int32} {g : Gh} (hI : Inv S) {k9 : Int32} (hbad : k9 < 0 ∨ 4 ≤ k9) {y9 : Int32} : WM l E yX12_isNoBudget cX12_isNoBudget 3 (some .boolean) (wD 3 0 0) [.ref (g.ad 1 0), .int (k9), .int (y9)] (RB E S th g) (ow g) (fun _ v H => RB E (S) (1) g H ∧ v = some (.int 1)) := by
  refine wm_of rfl (Nat.le_of_ble_eq_true rfl) (fun p e s m below meth c ls hx hb hr hml (hown : s.vm.findClass RX12 = some m.cls) hC hlocks hR hl hini => ?_)
  have hS : va_S (fun q => ow g q ∨ s.heap.size ≤ q) s.heap s.heap [] := va_S.rf
  have hl : lv_has ls 3 [(0, .ref (g.ad 1 0)), (1, .int (k9)), (2, .int (y9))] := hl
  refine lv_aload_n hx hb dX12_isNoBudget_0 rfl (lv_at hl 0 rfl) ?_
  refine lv_iload_n hx hb dX12_isNoBudget_1 rfl (lv_at hl 1 rfl) ?_
  refine rc_S (As := [.int (k9)]) hx hb hml hown hC hl (k_isNoKind_1 l E hbad) (zm_X12_62 hC.1) kv_X12_isNoKind True.intro rfl rfl (rwD_le (by decide) (by decide)) ⟨rfl, rfl⟩ (Nat.le_of_ble_eq_true rfl) ⟨Nat.zero_le _, Nat.zero_le _⟩ dX12_isNoBudget_2 ?_
  refine lv_if_ne (tgt := 17) hx hb dX12_isNoBudget_5 (by decide) (fun c_5 => ?_) (fun c_5 => ?_)
  ·
    refine lv_iconst (v := 1) hx hb dX12_isNoBudget_17 (by decide) ?_
    refine lv_goto (tgt := 22) hx hb dX12_isNoBudget_18 (by decide) ?_
    refine lv_iconst (v := 1) hx hb dX12_isNoBudget_22 (by decide) ?_
    refine wcw_V (As := [.int (1), .int (1)]) hx hb hml hown hC hl (c_X12_start1 l E hI (w9 := 1) (by decide)) (rec_of hC (RB.x hR) rfl) (zm_X12_48 hC.1) kv_X12_start hR hS (fun q h => h.imp id (Nat.le_trans hS.1)) rfl rfl (wD_le (by decide) (by decide)) (Nat.le_of_ble_eq_true rfl) ⟨Nat.le_of_ble_eq_true rfl, Nat.le_of_ble_eq_true rfl⟩ dX12_isNoBudget_23 (fun H1 locs1 hR hz hq hS => ?_)
    exact wr_z hx hb hr hlocks (by decide) hS ⟨hR, rfl⟩ (Nat.le_of_ble_eq_true rfl) (Nat.le_of_ble_eq_true rfl) dX12_isNoBudget_26
  · exact absurd c_5 (by decide)
set_option maxRecDepth 100000 in
set_option maxHeartbeats 4000000 in
theorem c_X12_isNoBudget_2 (l : Launch) (E : EE) {S : St} {th : Int32} {g : Gh} (hI : Inv S) {k9 : Nat} (hk9 : k9 < 4) {y9 : Int32} (hbad : y9 < 0 ∨ 4 ≤ y9) : WM l E yX12_isNoBudget cX12_isNoBudget 3 (some .boolean) (wD 3 0 0) [.ref (g.ad 1 0), .int (nI k9), .int (y9)] (RB E S th g) (ow g) (fun _ v H => RB E (S) (1) g H ∧ v = some (.int 1)) := by
  refine wm_of rfl (Nat.le_of_ble_eq_true rfl) (fun p e s m below meth c ls hx hb hr hml (hown : s.vm.findClass RX12 = some m.cls) hC hlocks hR hl hini => ?_)
  have hS : va_S (fun q => ow g q ∨ s.heap.size ≤ q) s.heap s.heap [] := va_S.rf
  have hl : lv_has ls 3 [(0, .ref (g.ad 1 0)), (1, .int (nI k9)), (2, .int (y9))] := hl
  refine lv_aload_n hx hb dX12_isNoBudget_0 rfl (lv_at hl 0 rfl) ?_
  refine lv_iload_n hx hb dX12_isNoBudget_1 rfl (lv_at hl 1 rfl) ?_
  refine rc_S (As := [.int (nI k9)]) hx hb hml hown hC hl (k_isNoKind_0 l E hk9) (zm_X12_62 hC.1) kv_X12_isNoKind True.intro rfl rfl (rwD_le (by decide) (by decide)) ⟨rfl, rfl⟩ (Nat.le_of_ble_eq_true rfl) ⟨Nat.zero_le _, Nat.zero_le _⟩ dX12_isNoBudget_2 ?_
  refine lv_if_ne (tgt := 17) hx hb dX12_isNoBudget_5 (by decide) (fun c_5 => ?_) (fun c_5 => ?_)
  · exact absurd (by decide) c_5
  ·
    refine lv_iload_n hx hb dX12_isNoBudget_8 rfl (lv_at hl 2 rfl) ?_
    refine lv_iconst (v := 0) hx hb dX12_isNoBudget_9 (by decide) ?_
    refine lv_iconst (v := 3) hx hb dX12_isNoBudget_10 (by decide) ?_
    refine rc_S (As := [.int (y9), .int (0), .int (3)]) hx hb hml hown hC hl (k_isIn_0 l E (rgK_bad (n := 3) (by decide) hbad)) (zm_X12_34 hC.1) kv_X12_isIn True.intro rfl rfl (rwD_le (by decide) (by decide)) ⟨rfl, rfl⟩ (Nat.le_of_ble_eq_true rfl) ⟨Nat.zero_le _, Nat.zero_le _⟩ dX12_isNoBudget_11 ?_
    refine lv_if_ne (tgt := 21) hx hb dX12_isNoBudget_14 (by decide) (fun c_14 => ?_) (fun c_14 => ?_)
    · exact absurd (by decide) c_14
    ·
      refine lv_iconst (v := 1) hx hb dX12_isNoBudget_17 (by decide) ?_
      refine lv_goto (tgt := 22) hx hb dX12_isNoBudget_18 (by decide) ?_
      refine lv_iconst (v := 1) hx hb dX12_isNoBudget_22 (by decide) ?_
      refine wcw_V (As := [.int (1), .int (1)]) hx hb hml hown hC hl (c_X12_start1 l E hI (w9 := 1) (by decide)) (rec_of hC (RB.x hR) rfl) (zm_X12_48 hC.1) kv_X12_start hR hS (fun q h => h.imp id (Nat.le_trans hS.1)) rfl rfl (wD_le (by decide) (by decide)) (Nat.le_of_ble_eq_true rfl) ⟨Nat.le_of_ble_eq_true rfl, Nat.le_of_ble_eq_true rfl⟩ dX12_isNoBudget_23 (fun H1 locs1 hR hz hq hS => ?_)
      exact wr_z hx hb hr hlocks (by decide) hS ⟨hR, rfl⟩ (Nat.le_of_ble_eq_true rfl) (Nat.le_of_ble_eq_true rfl) dX12_isNoBudget_26
set_option maxRecDepth 100000 in
set_option maxHeartbeats 4000000 in
theorem c_X12_isNoBudget_0 (l : Launch) (E : EE) {S : St} {th : Int32} {g : Gh} (hI : Inv S) {k9 : Nat} (hk9 : k9 < 4) {y9 : Nat} (hy9 : y9 < 4) : WM l E yX12_isNoBudget cX12_isNoBudget 3 (some .boolean) (wD 3 0 0) [.ref (g.ad 1 0), .int (nI k9), .int (nI y9)] (RB E S th g) (ow g) (fun _ v H => RB E (S) (0) g H ∧ v = some (.int 0)) := by
  refine wm_of rfl (Nat.le_of_ble_eq_true rfl) (fun p e s m below meth c ls hx hb hr hml (hown : s.vm.findClass RX12 = some m.cls) hC hlocks hR hl hini => ?_)
  have hS : va_S (fun q => ow g q ∨ s.heap.size ≤ q) s.heap s.heap [] := va_S.rf
  have hl : lv_has ls 3 [(0, .ref (g.ad 1 0)), (1, .int (nI k9)), (2, .int (nI y9))] := hl
  refine lv_aload_n hx hb dX12_isNoBudget_0 rfl (lv_at hl 0 rfl) ?_
  refine lv_iload_n hx hb dX12_isNoBudget_1 rfl (lv_at hl 1 rfl) ?_
  refine rc_S (As := [.int (nI k9)]) hx hb hml hown hC hl (k_isNoKind_0 l E hk9) (zm_X12_62 hC.1) kv_X12_isNoKind True.intro rfl rfl (rwD_le (by decide) (by decide)) ⟨rfl, rfl⟩ (Nat.le_of_ble_eq_true rfl) ⟨Nat.zero_le _, Nat.zero_le _⟩ dX12_isNoBudget_2 ?_
  refine lv_if_ne (tgt := 17) hx hb dX12_isNoBudget_5 (by decide) (fun c_5 => ?_) (fun c_5 => ?_)
  · exact absurd (by decide) c_5
  ·
    refine lv_iload_n hx hb dX12_isNoBudget_8 rfl (lv_at hl 2 rfl) ?_
    refine lv_iconst (v := 0) hx hb dX12_isNoBudget_9 (by decide) ?_
    refine lv_iconst (v := 3) hx hb dX12_isNoBudget_10 (by decide) ?_
    refine rc_S (As := [.int (nI y9), .int (0), .int (3)]) hx hb hml hown hC hl (k_isIn_1 l E (rgK_ok (n := 3) hy9 (by decide)).1 (rgK_ok (n := 3) hy9 (by decide)).2) (zm_X12_34 hC.1) kv_X12_isIn True.intro rfl rfl (rwD_le (by decide) (by decide)) ⟨rfl, rfl⟩ (Nat.le_of_ble_eq_true rfl) ⟨Nat.zero_le _, Nat.zero_le _⟩ dX12_isNoBudget_11 ?_
    refine lv_if_ne (tgt := 21) hx hb dX12_isNoBudget_14 (by decide) (fun c_14 => ?_) (fun c_14 => ?_)
    ·
      refine lv_iconst (v := 0) hx hb dX12_isNoBudget_21 (by decide) ?_
      refine lv_iconst (v := 1) hx hb dX12_isNoBudget_22 (by decide) ?_
      refine wcw_V (As := [.int (0), .int (1)]) hx hb hml hown hC hl (c_X12_start0 l E hI (w9 := 1)) (rec_of hC (RB.x hR) rfl) (zm_X12_48 hC.1) kv_X12_start hR hS (fun q h => h.imp id (Nat.le_trans hS.1)) rfl rfl (wD_le (by decide) (by decide)) (Nat.le_of_ble_eq_true rfl) ⟨Nat.le_of_ble_eq_true rfl, Nat.le_of_ble_eq_true rfl⟩ dX12_isNoBudget_23 (fun H1 locs1 hR hz hq hS => ?_)
      exact wr_z hx hb hr hlocks (by decide) hS ⟨hR, rfl⟩ (Nat.le_of_ble_eq_true rfl) (Nat.le_of_ble_eq_true rfl) dX12_isNoBudget_26
    · exact absurd c_14 (by decide)
set_option maxRecDepth 100000 in
set_option maxHeartbeats 4000000 in
theorem c_X12_isNoReceipt_1 (l : Launch) (E : EE) {S : St} {th : Int32} {g : Gh} (hI : Inv S) {am : Int32} (hbad : am < 1 ∨ 9999 < am) {dy : Int32} {tx : Int32} : WM l E yX12_isNoReceipt cX12_isNoReceipt 4 (some .boolean) (wD 3 0 0) [.ref (g.ad 1 0), .int (am), .int (dy), .int (tx)] (RB E S th g) (ow g) (fun _ v H => RB E (S) (1) g H ∧ v = some (.int 1)) := by
  refine wm_of rfl (Nat.le_of_ble_eq_true rfl) (fun p e s m below meth c ls hx hb hr hml (hown : s.vm.findClass RX12 = some m.cls) hC hlocks hR hl hini => ?_)
  have hS : va_S (fun q => ow g q ∨ s.heap.size ≤ q) s.heap s.heap [] := va_S.rf
  have hl : lv_has ls 4 [(0, .ref (g.ad 1 0)), (1, .int (am)), (2, .int (dy)), (3, .int (tx))] := hl
  refine lv_aload_n hx hb dX12_isNoReceipt_0 rfl (lv_at hl 0 rfl) ?_
  refine lv_iload_n hx hb dX12_isNoReceipt_1 rfl (lv_at hl 1 rfl) ?_
  refine lv_iconst (v := 1) hx hb dX12_isNoReceipt_2 (by decide) ?_
  refine lv_sipush (v := 9999) hx hb dX12_isNoReceipt_3 (by decide) ?_
  refine rc_S (As := [.int (am), .int (1), .int (9999)]) hx hb hml hown hC hl (k_isIn_0 l E hbad) (zm_X12_34 hC.1) kv_X12_isIn True.intro rfl rfl (rwD_le (by decide) (by decide)) ⟨rfl, rfl⟩ (Nat.le_of_ble_eq_true rfl) ⟨Nat.zero_le _, Nat.zero_le _⟩ dX12_isNoReceipt_6 ?_
  refine lv_if_eq (tgt := 26) hx hb dX12_isNoReceipt_9 (by decide) (fun c_9 => ?_) (fun c_9 => ?_)
  ·
    refine lv_iconst (v := 1) hx hb dX12_isNoReceipt_26 (by decide) ?_
    refine lv_goto (tgt := 31) hx hb dX12_isNoReceipt_27 (by decide) ?_
    refine lv_iconst (v := 1) hx hb dX12_isNoReceipt_31 (by decide) ?_
    refine wcw_V (As := [.int (1), .int (1)]) hx hb hml hown hC hl (c_X12_start1 l E hI (w9 := 1) (by decide)) (rec_of hC (RB.x hR) rfl) (zm_X12_48 hC.1) kv_X12_start hR hS (fun q h => h.imp id (Nat.le_trans hS.1)) rfl rfl (wD_le (by decide) (by decide)) (Nat.le_of_ble_eq_true rfl) ⟨Nat.le_of_ble_eq_true rfl, Nat.le_of_ble_eq_true rfl⟩ dX12_isNoReceipt_32 (fun H1 locs1 hR hz hq hS => ?_)
    exact wr_z hx hb hr hlocks (by decide) hS ⟨hR, rfl⟩ (Nat.le_of_ble_eq_true rfl) (Nat.le_of_ble_eq_true rfl) dX12_isNoReceipt_35
  · exact absurd (by decide) c_9
set_option maxRecDepth 100000 in
set_option maxHeartbeats 4000000 in
theorem c_X12_isNoReceipt_2 (l : Launch) (E : EE) {S : St} {th : Int32} {g : Gh} (hI : Inv S) {am : Int32} (ham1 : ¬ am < 1) (ham2 : ¬ 9999 < am) {dy : Int32} (hbad : dy < 0 ∨ 119 < dy) {tx : Int32} : WM l E yX12_isNoReceipt cX12_isNoReceipt 4 (some .boolean) (wD 3 0 0) [.ref (g.ad 1 0), .int (am), .int (dy), .int (tx)] (RB E S th g) (ow g) (fun _ v H => RB E (S) (1) g H ∧ v = some (.int 1)) := by
  refine wm_of rfl (Nat.le_of_ble_eq_true rfl) (fun p e s m below meth c ls hx hb hr hml (hown : s.vm.findClass RX12 = some m.cls) hC hlocks hR hl hini => ?_)
  have hS : va_S (fun q => ow g q ∨ s.heap.size ≤ q) s.heap s.heap [] := va_S.rf
  have hl : lv_has ls 4 [(0, .ref (g.ad 1 0)), (1, .int (am)), (2, .int (dy)), (3, .int (tx))] := hl
  refine lv_aload_n hx hb dX12_isNoReceipt_0 rfl (lv_at hl 0 rfl) ?_
  refine lv_iload_n hx hb dX12_isNoReceipt_1 rfl (lv_at hl 1 rfl) ?_
  refine lv_iconst (v := 1) hx hb dX12_isNoReceipt_2 (by decide) ?_
  refine lv_sipush (v := 9999) hx hb dX12_isNoReceipt_3 (by decide) ?_
  refine rc_S (As := [.int (am), .int (1), .int (9999)]) hx hb hml hown hC hl (k_isIn_1 l E ham1 ham2) (zm_X12_34 hC.1) kv_X12_isIn True.intro rfl rfl (rwD_le (by decide) (by decide)) ⟨rfl, rfl⟩ (Nat.le_of_ble_eq_true rfl) ⟨Nat.zero_le _, Nat.zero_le _⟩ dX12_isNoReceipt_6 ?_
  refine lv_if_eq (tgt := 26) hx hb dX12_isNoReceipt_9 (by decide) (fun c_9 => ?_) (fun c_9 => ?_)
  · exact absurd c_9 (by decide)
  ·
    refine lv_iload_n hx hb dX12_isNoReceipt_12 rfl (lv_at hl 2 rfl) ?_
    refine rc_S (As := [.int (dy)]) hx hb hml hown hC hl (k_isNoDay_1 l E hbad) (zm_X12_69 hC.1) kv_X12_isNoDay True.intro rfl rfl (rwD_le (by decide) (by decide)) ⟨rfl, rfl⟩ (Nat.le_of_ble_eq_true rfl) ⟨Nat.zero_le _, Nat.zero_le _⟩ dX12_isNoReceipt_13 ?_
    refine lv_if_ne (tgt := 26) hx hb dX12_isNoReceipt_16 (by decide) (fun c_16 => ?_) (fun c_16 => ?_)
    ·
      refine lv_iconst (v := 1) hx hb dX12_isNoReceipt_26 (by decide) ?_
      refine lv_goto (tgt := 31) hx hb dX12_isNoReceipt_27 (by decide) ?_
      refine lv_iconst (v := 1) hx hb dX12_isNoReceipt_31 (by decide) ?_
      refine wcw_V (As := [.int (1), .int (1)]) hx hb hml hown hC hl (c_X12_start1 l E hI (w9 := 1) (by decide)) (rec_of hC (RB.x hR) rfl) (zm_X12_48 hC.1) kv_X12_start hR hS (fun q h => h.imp id (Nat.le_trans hS.1)) rfl rfl (wD_le (by decide) (by decide)) (Nat.le_of_ble_eq_true rfl) ⟨Nat.le_of_ble_eq_true rfl, Nat.le_of_ble_eq_true rfl⟩ dX12_isNoReceipt_32 (fun H1 locs1 hR hz hq hS => ?_)
      exact wr_z hx hb hr hlocks (by decide) hS ⟨hR, rfl⟩ (Nat.le_of_ble_eq_true rfl) (Nat.le_of_ble_eq_true rfl) dX12_isNoReceipt_35
    · exact absurd c_16 (by decide)
set_option maxRecDepth 100000 in
set_option maxHeartbeats 4000000 in
theorem c_X12_isNoReceipt_3 (l : Launch) (E : EE) {S : St} {th : Int32} {g : Gh} (hI : Inv S) {am : Int32} (ham1 : ¬ am < 1) (ham2 : ¬ 9999 < am) {dy : Int32} (hdy1 : ¬ dy < 0) (hdy2 : ¬ 119 < dy) {tx : Int32} (hbad : tx < 0 ∨ 9 < tx) : WM l E yX12_isNoReceipt cX12_isNoReceipt 4 (some .boolean) (wD 3 0 0) [.ref (g.ad 1 0), .int (am), .int (dy), .int (tx)] (RB E S th g) (ow g) (fun _ v H => RB E (S) (1) g H ∧ v = some (.int 1)) := by
  refine wm_of rfl (Nat.le_of_ble_eq_true rfl) (fun p e s m below meth c ls hx hb hr hml (hown : s.vm.findClass RX12 = some m.cls) hC hlocks hR hl hini => ?_)
  have hS : va_S (fun q => ow g q ∨ s.heap.size ≤ q) s.heap s.heap [] := va_S.rf
  have hl : lv_has ls 4 [(0, .ref (g.ad 1 0)), (1, .int (am)), (2, .int (dy)), (3, .int (tx))] := hl
  refine lv_aload_n hx hb dX12_isNoReceipt_0 rfl (lv_at hl 0 rfl) ?_
  refine lv_iload_n hx hb dX12_isNoReceipt_1 rfl (lv_at hl 1 rfl) ?_
  refine lv_iconst (v := 1) hx hb dX12_isNoReceipt_2 (by decide) ?_
  refine lv_sipush (v := 9999) hx hb dX12_isNoReceipt_3 (by decide) ?_
  refine rc_S (As := [.int (am), .int (1), .int (9999)]) hx hb hml hown hC hl (k_isIn_1 l E ham1 ham2) (zm_X12_34 hC.1) kv_X12_isIn True.intro rfl rfl (rwD_le (by decide) (by decide)) ⟨rfl, rfl⟩ (Nat.le_of_ble_eq_true rfl) ⟨Nat.zero_le _, Nat.zero_le _⟩ dX12_isNoReceipt_6 ?_
  refine lv_if_eq (tgt := 26) hx hb dX12_isNoReceipt_9 (by decide) (fun c_9 => ?_) (fun c_9 => ?_)
  · exact absurd c_9 (by decide)
  ·
    refine lv_iload_n hx hb dX12_isNoReceipt_12 rfl (lv_at hl 2 rfl) ?_
    refine rc_S (As := [.int (dy)]) hx hb hml hown hC hl (k_isNoDay_0 l E hdy1 hdy2) (zm_X12_69 hC.1) kv_X12_isNoDay True.intro rfl rfl (rwD_le (by decide) (by decide)) ⟨rfl, rfl⟩ (Nat.le_of_ble_eq_true rfl) ⟨Nat.zero_le _, Nat.zero_le _⟩ dX12_isNoReceipt_13 ?_
    refine lv_if_ne (tgt := 26) hx hb dX12_isNoReceipt_16 (by decide) (fun c_16 => ?_) (fun c_16 => ?_)
    · exact absurd (by decide) c_16
    ·
      refine lv_iload_n hx hb dX12_isNoReceipt_19 rfl (lv_at hl 3 rfl) ?_
      refine rc_S (As := [.int (tx)]) hx hb hml hown hC hl (k_isNoText_1 l E hbad) (zm_X12_167 hC.1) kv_X12_isNoText True.intro rfl rfl (rwD_le (by decide) (by decide)) ⟨rfl, rfl⟩ (Nat.le_of_ble_eq_true rfl) ⟨Nat.zero_le _, Nat.zero_le _⟩ dX12_isNoReceipt_20 ?_
      refine lv_if_eq (tgt := 30) hx hb dX12_isNoReceipt_23 (by decide) (fun c_23 => ?_) (fun c_23 => ?_)
      · exact absurd c_23 (by decide)
      ·
        refine lv_iconst (v := 1) hx hb dX12_isNoReceipt_26 (by decide) ?_
        refine lv_goto (tgt := 31) hx hb dX12_isNoReceipt_27 (by decide) ?_
        refine lv_iconst (v := 1) hx hb dX12_isNoReceipt_31 (by decide) ?_
        refine wcw_V (As := [.int (1), .int (1)]) hx hb hml hown hC hl (c_X12_start1 l E hI (w9 := 1) (by decide)) (rec_of hC (RB.x hR) rfl) (zm_X12_48 hC.1) kv_X12_start hR hS (fun q h => h.imp id (Nat.le_trans hS.1)) rfl rfl (wD_le (by decide) (by decide)) (Nat.le_of_ble_eq_true rfl) ⟨Nat.le_of_ble_eq_true rfl, Nat.le_of_ble_eq_true rfl⟩ dX12_isNoReceipt_32 (fun H1 locs1 hR hz hq hS => ?_)
        exact wr_z hx hb hr hlocks (by decide) hS ⟨hR, rfl⟩ (Nat.le_of_ble_eq_true rfl) (Nat.le_of_ble_eq_true rfl) dX12_isNoReceipt_35
set_option maxRecDepth 100000 in
set_option maxHeartbeats 4000000 in
theorem c_X12_isNoReceipt_0 (l : Launch) (E : EE) {S : St} {th : Int32} {g : Gh} (hI : Inv S) {am : Int32} (ham1 : ¬ am < 1) (ham2 : ¬ 9999 < am) {dy : Int32} (hdy1 : ¬ dy < 0) (hdy2 : ¬ 119 < dy) {tx : Int32} (htx1 : ¬ tx < 0) (htx2 : ¬ 9 < tx) : WM l E yX12_isNoReceipt cX12_isNoReceipt 4 (some .boolean) (wD 3 0 0) [.ref (g.ad 1 0), .int (am), .int (dy), .int (tx)] (RB E S th g) (ow g) (fun _ v H => RB E (S) (0) g H ∧ v = some (.int 0)) := by
  refine wm_of rfl (Nat.le_of_ble_eq_true rfl) (fun p e s m below meth c ls hx hb hr hml (hown : s.vm.findClass RX12 = some m.cls) hC hlocks hR hl hini => ?_)
  have hS : va_S (fun q => ow g q ∨ s.heap.size ≤ q) s.heap s.heap [] := va_S.rf
  have hl : lv_has ls 4 [(0, .ref (g.ad 1 0)), (1, .int (am)), (2, .int (dy)), (3, .int (tx))] := hl
  refine lv_aload_n hx hb dX12_isNoReceipt_0 rfl (lv_at hl 0 rfl) ?_
  refine lv_iload_n hx hb dX12_isNoReceipt_1 rfl (lv_at hl 1 rfl) ?_
  refine lv_iconst (v := 1) hx hb dX12_isNoReceipt_2 (by decide) ?_
  refine lv_sipush (v := 9999) hx hb dX12_isNoReceipt_3 (by decide) ?_
  refine rc_S (As := [.int (am), .int (1), .int (9999)]) hx hb hml hown hC hl (k_isIn_1 l E ham1 ham2) (zm_X12_34 hC.1) kv_X12_isIn True.intro rfl rfl (rwD_le (by decide) (by decide)) ⟨rfl, rfl⟩ (Nat.le_of_ble_eq_true rfl) ⟨Nat.zero_le _, Nat.zero_le _⟩ dX12_isNoReceipt_6 ?_
  refine lv_if_eq (tgt := 26) hx hb dX12_isNoReceipt_9 (by decide) (fun c_9 => ?_) (fun c_9 => ?_)
  · exact absurd c_9 (by decide)
  ·
    refine lv_iload_n hx hb dX12_isNoReceipt_12 rfl (lv_at hl 2 rfl) ?_
    refine rc_S (As := [.int (dy)]) hx hb hml hown hC hl (k_isNoDay_0 l E hdy1 hdy2) (zm_X12_69 hC.1) kv_X12_isNoDay True.intro rfl rfl (rwD_le (by decide) (by decide)) ⟨rfl, rfl⟩ (Nat.le_of_ble_eq_true rfl) ⟨Nat.zero_le _, Nat.zero_le _⟩ dX12_isNoReceipt_13 ?_
    refine lv_if_ne (tgt := 26) hx hb dX12_isNoReceipt_16 (by decide) (fun c_16 => ?_) (fun c_16 => ?_)
    · exact absurd (by decide) c_16
    ·
      refine lv_iload_n hx hb dX12_isNoReceipt_19 rfl (lv_at hl 3 rfl) ?_
      refine rc_S (As := [.int (tx)]) hx hb hml hown hC hl (k_isNoText_0 l E htx1 htx2) (zm_X12_167 hC.1) kv_X12_isNoText True.intro rfl rfl (rwD_le (by decide) (by decide)) ⟨rfl, rfl⟩ (Nat.le_of_ble_eq_true rfl) ⟨Nat.zero_le _, Nat.zero_le _⟩ dX12_isNoReceipt_20 ?_
      refine lv_if_eq (tgt := 30) hx hb dX12_isNoReceipt_23 (by decide) (fun c_23 => ?_) (fun c_23 => ?_)
      ·
        refine lv_iconst (v := 0) hx hb dX12_isNoReceipt_30 (by decide) ?_
        refine lv_iconst (v := 1) hx hb dX12_isNoReceipt_31 (by decide) ?_
        refine wcw_V (As := [.int (0), .int (1)]) hx hb hml hown hC hl (c_X12_start0 l E hI (w9 := 1)) (rec_of hC (RB.x hR) rfl) (zm_X12_48 hC.1) kv_X12_start hR hS (fun q h => h.imp id (Nat.le_trans hS.1)) rfl rfl (wD_le (by decide) (by decide)) (Nat.le_of_ble_eq_true rfl) ⟨Nat.le_of_ble_eq_true rfl, Nat.le_of_ble_eq_true rfl⟩ dX12_isNoReceipt_32 (fun H1 locs1 hR hz hq hS => ?_)
        exact wr_z hx hb hr hlocks (by decide) hS ⟨hR, rfl⟩ (Nat.le_of_ble_eq_true rfl) (Nat.le_of_ble_eq_true rfl) dX12_isNoReceipt_35
      · exact absurd (by decide) c_23
set_option maxRecDepth 100000 in
set_option maxHeartbeats 4000000 in
theorem c_X12_isNoCharge_1 (l : Launch) (E : EE) {S : St} {th : Int32} {g : Gh} (hI : Inv S) {c9 : Int32} (hbad : c9 < 0 ∨ nI S.nc ≤ c9) : WM l E yX12_isNoCharge cX12_isNoCharge 2 (some .boolean) (wD 3 0 0) [.ref (g.ad 1 0), .int (c9)] (RB E S th g) (ow g) (fun _ v H => RB E (S) (1) g H ∧ v = some (.int 1)) := by
  refine wm_of rfl (Nat.le_of_ble_eq_true rfl) (fun p e s m below meth c ls hx hb hr hml (hown : s.vm.findClass RX12 = some m.cls) hC hlocks hR hl hini => ?_)
  have hS : va_S (fun q => ow g q ∨ s.heap.size ≤ q) s.heap s.heap [] := va_S.rf
  have hl : lv_has ls 2 [(0, .ref (g.ad 1 0)), (1, .int (c9))] := hl
  refine lv_aload_n hx hb dX12_isNoCharge_0 rfl (lv_at hl 0 rfl) ?_
  refine lv_iload_n hx hb dX12_isNoCharge_1 rfl (lv_at hl 1 rfl) ?_
  refine lv_iconst (v := 0) hx hb dX12_isNoCharge_2 (by decide) ?_
  refine lv_aload_n hx hb dX12_isNoCharge_3 rfl (lv_at hl 0 rfl) ?_
  refine gf_X12_1 hx hb hown hC (RB.x hR) (zf_X12_10 hC.1) dX12_isNoCharge_4 ?_
  refine gf_X8_2 hx hb hown hC (RB.dk hR) (zf_X12_95 hC.1) dX12_isNoCharge_7 ?_
  refine rc_V (As := []) hx hb hml hown hC hl (c_size l E _ _ _ _) (rec_of hC (RB.ls hR (by decide : 2 < 4)) rfl) (zm_X12_28 hC.1) kv_Jx4a65c_size_8abf5 (RB.ls hR (by decide : 2 < 4)) rfl rfl (rwD_le (by decide) (by decide)) ⟨rfl, rfl⟩ (Nat.le_of_ble_eq_true rfl) ⟨Nat.zero_le _, Nat.zero_le _⟩ dX12_isNoCharge_10 ?_
  refine lv_iconst (v := 1) hx hb dX12_isNoCharge_13 (by decide) ?_
  refine lv_isub hx hb dX12_isNoCharge_14 ?_
  refine rc_S (As := [.int (c9), .int (0), .int ((nI (S.nc)) - (1))]) hx hb hml hown hC hl (k_isIn_0 l E (rgN_bad hI.nc31 hbad)) (zm_X12_34 hC.1) kv_X12_isIn True.intro rfl rfl (rwD_le (by decide) (by decide)) ⟨rfl, rfl⟩ (Nat.le_of_ble_eq_true rfl) ⟨Nat.zero_le _, Nat.zero_le _⟩ dX12_isNoCharge_15 ?_
  refine lv_if_ne (tgt := 25) hx hb dX12_isNoCharge_18 (by decide) (fun c_18 => ?_) (fun c_18 => ?_)
  · exact absurd (by decide) c_18
  ·
    refine lv_iconst (v := 1) hx hb dX12_isNoCharge_21 (by decide) ?_
    refine lv_goto (tgt := 26) hx hb dX12_isNoCharge_22 (by decide) ?_
    refine lv_iconst (v := 1) hx hb dX12_isNoCharge_26 (by decide) ?_
    refine wcw_V (As := [.int (1), .int (1)]) hx hb hml hown hC hl (c_X12_start1 l E hI (w9 := 1) (by decide)) (rec_of hC (RB.x hR) rfl) (zm_X12_48 hC.1) kv_X12_start hR hS (fun q h => h.imp id (Nat.le_trans hS.1)) rfl rfl (wD_le (by decide) (by decide)) (Nat.le_of_ble_eq_true rfl) ⟨Nat.le_of_ble_eq_true rfl, Nat.le_of_ble_eq_true rfl⟩ dX12_isNoCharge_27 (fun H1 locs1 hR hz hq hS => ?_)
    exact wr_z hx hb hr hlocks (by decide) hS ⟨hR, rfl⟩ (Nat.le_of_ble_eq_true rfl) (Nat.le_of_ble_eq_true rfl) dX12_isNoCharge_30
set_option maxRecDepth 100000 in
set_option maxHeartbeats 4000000 in
theorem c_X12_isNoCharge_0 (l : Launch) (E : EE) {S : St} {th : Int32} {g : Gh} (hI : Inv S) {c9 : Nat} (hc9 : c9 < S.nc) : WM l E yX12_isNoCharge cX12_isNoCharge 2 (some .boolean) (wD 3 0 0) [.ref (g.ad 1 0), .int (nI c9)] (RB E S th g) (ow g) (fun _ v H => RB E (S) (0) g H ∧ v = some (.int 0)) := by
  refine wm_of rfl (Nat.le_of_ble_eq_true rfl) (fun p e s m below meth c ls hx hb hr hml (hown : s.vm.findClass RX12 = some m.cls) hC hlocks hR hl hini => ?_)
  have hS : va_S (fun q => ow g q ∨ s.heap.size ≤ q) s.heap s.heap [] := va_S.rf
  have hl : lv_has ls 2 [(0, .ref (g.ad 1 0)), (1, .int (nI c9))] := hl
  refine lv_aload_n hx hb dX12_isNoCharge_0 rfl (lv_at hl 0 rfl) ?_
  refine lv_iload_n hx hb dX12_isNoCharge_1 rfl (lv_at hl 1 rfl) ?_
  refine lv_iconst (v := 0) hx hb dX12_isNoCharge_2 (by decide) ?_
  refine lv_aload_n hx hb dX12_isNoCharge_3 rfl (lv_at hl 0 rfl) ?_
  refine gf_X12_1 hx hb hown hC (RB.x hR) (zf_X12_10 hC.1) dX12_isNoCharge_4 ?_
  refine gf_X8_2 hx hb hown hC (RB.dk hR) (zf_X12_95 hC.1) dX12_isNoCharge_7 ?_
  refine rc_V (As := []) hx hb hml hown hC hl (c_size l E _ _ _ _) (rec_of hC (RB.ls hR (by decide : 2 < 4)) rfl) (zm_X12_28 hC.1) kv_Jx4a65c_size_8abf5 (RB.ls hR (by decide : 2 < 4)) rfl rfl (rwD_le (by decide) (by decide)) ⟨rfl, rfl⟩ (Nat.le_of_ble_eq_true rfl) ⟨Nat.zero_le _, Nat.zero_le _⟩ dX12_isNoCharge_10 ?_
  refine lv_iconst (v := 1) hx hb dX12_isNoCharge_13 (by decide) ?_
  refine lv_isub hx hb dX12_isNoCharge_14 ?_
  refine rc_S (As := [.int (nI c9), .int (0), .int ((nI (S.nc)) - (1))]) hx hb hml hown hC hl (k_isIn_1 l E (rgN_ok hc9 hI.nc31).1 (rgN_ok hc9 hI.nc31).2) (zm_X12_34 hC.1) kv_X12_isIn True.intro rfl rfl (rwD_le (by decide) (by decide)) ⟨rfl, rfl⟩ (Nat.le_of_ble_eq_true rfl) ⟨Nat.zero_le _, Nat.zero_le _⟩ dX12_isNoCharge_15 ?_
  refine lv_if_ne (tgt := 25) hx hb dX12_isNoCharge_18 (by decide) (fun c_18 => ?_) (fun c_18 => ?_)
  ·
    refine lv_iconst (v := 0) hx hb dX12_isNoCharge_25 (by decide) ?_
    refine lv_iconst (v := 1) hx hb dX12_isNoCharge_26 (by decide) ?_
    refine wcw_V (As := [.int (0), .int (1)]) hx hb hml hown hC hl (c_X12_start0 l E hI (w9 := 1)) (rec_of hC (RB.x hR) rfl) (zm_X12_48 hC.1) kv_X12_start hR hS (fun q h => h.imp id (Nat.le_trans hS.1)) rfl rfl (wD_le (by decide) (by decide)) (Nat.le_of_ble_eq_true rfl) ⟨Nat.le_of_ble_eq_true rfl, Nat.le_of_ble_eq_true rfl⟩ dX12_isNoCharge_27 (fun H1 locs1 hR hz hq hS => ?_)
    exact wr_z hx hb hr hlocks (by decide) hS ⟨hR, rfl⟩ (Nat.le_of_ble_eq_true rfl) (Nat.le_of_ble_eq_true rfl) dX12_isNoCharge_30
  · exact absurd c_18 (by decide)
set_option maxRecDepth 100000 in
set_option maxHeartbeats 4000000 in
theorem c_X12_isNotDue_1 (l : Launch) (E : EE) {S : St} {th : Int32} {g : Gh} (hI : Inv S) {c9 : Int32} (hbad : c9 < 0 ∨ nI S.nc ≤ c9) {p9 : Int32} : WM l E yX12_isNotDue cX12_isNotDue 3 (some .boolean) (wD 6 0 0) [.ref (g.ad 1 0), .int (c9), .int (p9)] (RB E S th g) (ow g) (fun _ v H => RB E (S) (1) g H ∧ v = some (.int 1)) := by
  refine wm_of rfl (Nat.le_of_ble_eq_true rfl) (fun p e s m below meth c ls hx hb hr hml (hown : s.vm.findClass RX12 = some m.cls) hC hlocks hR hl hini => ?_)
  have hS : va_S (fun q => ow g q ∨ s.heap.size ≤ q) s.heap s.heap [] := va_S.rf
  have hl : lv_has ls 3 [(0, .ref (g.ad 1 0)), (1, .int (c9)), (2, .int (p9))] := hl
  refine lv_aload_n hx hb dX12_isNotDue_0 rfl (lv_at hl 0 rfl) ?_
  refine lv_iload_n hx hb dX12_isNotDue_1 rfl (lv_at hl 1 rfl) ?_
  refine lv_iconst (v := 0) hx hb dX12_isNotDue_2 (by decide) ?_
  refine lv_aload_n hx hb dX12_isNotDue_3 rfl (lv_at hl 0 rfl) ?_
  refine gf_X12_1 hx hb hown hC (RB.x hR) (zf_X12_10 hC.1) dX12_isNotDue_4 ?_
  refine gf_X8_2 hx hb hown hC (RB.dk hR) (zf_X12_95 hC.1) dX12_isNotDue_7 ?_
  refine rc_V (As := []) hx hb hml hown hC hl (c_size l E _ _ _ _) (rec_of hC (RB.ls hR (by decide : 2 < 4)) rfl) (zm_X12_28 hC.1) kv_Jx4a65c_size_8abf5 (RB.ls hR (by decide : 2 < 4)) rfl rfl (rwD_le (by decide) (by decide)) ⟨rfl, rfl⟩ (Nat.le_of_ble_eq_true rfl) ⟨Nat.zero_le _, Nat.zero_le _⟩ dX12_isNotDue_10 ?_
  refine lv_iconst (v := 1) hx hb dX12_isNotDue_13 (by decide) ?_
  refine lv_isub hx hb dX12_isNotDue_14 ?_
  refine rc_S (As := [.int (c9), .int (0), .int ((nI (S.nc)) - (1))]) hx hb hml hown hC hl (k_isIn_0 l E (rgN_bad hI.nc31 hbad)) (zm_X12_34 hC.1) kv_X12_isIn True.intro rfl rfl (rwD_le (by decide) (by decide)) ⟨rfl, rfl⟩ (Nat.le_of_ble_eq_true rfl) ⟨Nat.zero_le _, Nat.zero_le _⟩ dX12_isNotDue_15 ?_
  refine lv_if_eq (tgt := 29) hx hb dX12_isNotDue_18 (by decide) (fun c_18 => ?_) (fun c_18 => ?_)
  ·
    refine lv_iconst (v := 1) hx hb dX12_isNotDue_29 (by decide) ?_
    refine lv_goto (tgt := 34) hx hb dX12_isNotDue_30 (by decide) ?_
    refine lv_iconst (v := 1) hx hb dX12_isNotDue_34 (by decide) ?_
    refine wcw_V (As := [.int (1), .int (1)]) hx hb hml hown hC hl (c_X12_start1 l E hI (w9 := 1) (by decide)) (rec_of hC (RB.x hR) rfl) (zm_X12_48 hC.1) kv_X12_start hR hS (fun q h => h.imp id (Nat.le_trans hS.1)) rfl rfl (wD_le (by decide) (by decide)) (Nat.le_of_ble_eq_true rfl) ⟨Nat.le_of_ble_eq_true rfl, Nat.le_of_ble_eq_true rfl⟩ dX12_isNotDue_35 (fun H1 locs1 hR hz hq hS => ?_)
    refine lv_if_ne (tgt := 70) hx hb dX12_isNotDue_38 (by decide) (fun c_38 => ?_) (fun c_38 => ?_)
    ·
      have c_38 : ¬ (1 : Int32) = (0) := c_38
      refine lv_iconst (v := 1) hx hb dX12_isNotDue_70 (by decide) ?_
      refine lv_goto (tgt := 75) hx hb dX12_isNotDue_71 (by decide) ?_
      exact wr_z hx hb hr hlocks (by decide) hS ⟨hR, rfl⟩ (Nat.le_of_ble_eq_true rfl) (Nat.le_of_ble_eq_true rfl) dX12_isNotDue_75
    · exact absurd c_38 (by decide)
  · exact absurd (by decide) c_18
set_option maxRecDepth 100000 in
set_option maxHeartbeats 4000000 in
theorem c_X12_isNotDue_2 (l : Launch) (E : EE) {S : St} {th : Int32} {g : Gh} (hI : Inv S) {c9 : Nat} (hc9 : c9 < S.nc) {p9 : Int32} (hbad : p9 < 0 ∨ nI S.np ≤ p9) : WM l E yX12_isNotDue cX12_isNotDue 3 (some .boolean) (wD 6 0 0) [.ref (g.ad 1 0), .int (nI c9), .int (p9)] (RB E S th g) (ow g) (fun _ v H => RB E (S) (1) g H ∧ v = some (.int 1)) := by
  refine wm_of rfl (Nat.le_of_ble_eq_true rfl) (fun p e s m below meth c ls hx hb hr hml (hown : s.vm.findClass RX12 = some m.cls) hC hlocks hR hl hini => ?_)
  have hS : va_S (fun q => ow g q ∨ s.heap.size ≤ q) s.heap s.heap [] := va_S.rf
  have hl : lv_has ls 3 [(0, .ref (g.ad 1 0)), (1, .int (nI c9)), (2, .int (p9))] := hl
  refine lv_aload_n hx hb dX12_isNotDue_0 rfl (lv_at hl 0 rfl) ?_
  refine lv_iload_n hx hb dX12_isNotDue_1 rfl (lv_at hl 1 rfl) ?_
  refine lv_iconst (v := 0) hx hb dX12_isNotDue_2 (by decide) ?_
  refine lv_aload_n hx hb dX12_isNotDue_3 rfl (lv_at hl 0 rfl) ?_
  refine gf_X12_1 hx hb hown hC (RB.x hR) (zf_X12_10 hC.1) dX12_isNotDue_4 ?_
  refine gf_X8_2 hx hb hown hC (RB.dk hR) (zf_X12_95 hC.1) dX12_isNotDue_7 ?_
  refine rc_V (As := []) hx hb hml hown hC hl (c_size l E _ _ _ _) (rec_of hC (RB.ls hR (by decide : 2 < 4)) rfl) (zm_X12_28 hC.1) kv_Jx4a65c_size_8abf5 (RB.ls hR (by decide : 2 < 4)) rfl rfl (rwD_le (by decide) (by decide)) ⟨rfl, rfl⟩ (Nat.le_of_ble_eq_true rfl) ⟨Nat.zero_le _, Nat.zero_le _⟩ dX12_isNotDue_10 ?_
  refine lv_iconst (v := 1) hx hb dX12_isNotDue_13 (by decide) ?_
  refine lv_isub hx hb dX12_isNotDue_14 ?_
  refine rc_S (As := [.int (nI c9), .int (0), .int ((nI (S.nc)) - (1))]) hx hb hml hown hC hl (k_isIn_1 l E (rgN_ok hc9 hI.nc31).1 (rgN_ok hc9 hI.nc31).2) (zm_X12_34 hC.1) kv_X12_isIn True.intro rfl rfl (rwD_le (by decide) (by decide)) ⟨rfl, rfl⟩ (Nat.le_of_ble_eq_true rfl) ⟨Nat.zero_le _, Nat.zero_le _⟩ dX12_isNotDue_15 ?_
  refine lv_if_eq (tgt := 29) hx hb dX12_isNotDue_18 (by decide) (fun c_18 => ?_) (fun c_18 => ?_)
  · exact absurd c_18 (by decide)
  ·
    refine lv_aload_n hx hb dX12_isNotDue_21 rfl (lv_at hl 0 rfl) ?_
    refine lv_iload_n hx hb dX12_isNotDue_22 rfl (lv_at hl 2 rfl) ?_
    refine rc_V (As := [.int (p9)]) hx hb hml hown hC hl (k_isNo_1 l E hI hbad) (rec_of hC (RB.x hR) rfl) (zm_X12_44 hC.1) kv_X12_isNo hR rfl rfl (rwD_le (by decide) (by decide)) ⟨rfl, rfl⟩ (Nat.le_of_ble_eq_true rfl) ⟨Nat.zero_le _, Nat.zero_le _⟩ dX12_isNotDue_23 ?_
    refine lv_if_eq (tgt := 33) hx hb dX12_isNotDue_26 (by decide) (fun c_26 => ?_) (fun c_26 => ?_)
    · exact absurd c_26 (by decide)
    ·
      refine lv_iconst (v := 1) hx hb dX12_isNotDue_29 (by decide) ?_
      refine lv_goto (tgt := 34) hx hb dX12_isNotDue_30 (by decide) ?_
      refine lv_iconst (v := 1) hx hb dX12_isNotDue_34 (by decide) ?_
      refine wcw_V (As := [.int (1), .int (1)]) hx hb hml hown hC hl (c_X12_start1 l E hI (w9 := 1) (by decide)) (rec_of hC (RB.x hR) rfl) (zm_X12_48 hC.1) kv_X12_start hR hS (fun q h => h.imp id (Nat.le_trans hS.1)) rfl rfl (wD_le (by decide) (by decide)) (Nat.le_of_ble_eq_true rfl) ⟨Nat.le_of_ble_eq_true rfl, Nat.le_of_ble_eq_true rfl⟩ dX12_isNotDue_35 (fun H1 locs1 hR hz hq hS => ?_)
      refine lv_if_ne (tgt := 70) hx hb dX12_isNotDue_38 (by decide) (fun c_38 => ?_) (fun c_38 => ?_)
      ·
        have c_38 : ¬ (1 : Int32) = (0) := c_38
        refine lv_iconst (v := 1) hx hb dX12_isNotDue_70 (by decide) ?_
        refine lv_goto (tgt := 75) hx hb dX12_isNotDue_71 (by decide) ?_
        exact wr_z hx hb hr hlocks (by decide) hS ⟨hR, rfl⟩ (Nat.le_of_ble_eq_true rfl) (Nat.le_of_ble_eq_true rfl) dX12_isNotDue_75
      · exact absurd c_38 (by decide)
set_option maxRecDepth 100000 in
set_option maxHeartbeats 4000000 in
theorem c_X12_isNotDue_0 (l : Launch) (E : EE) {S : St} {th : Int32} {g : Gh} (hI : Inv S) {c9 : Nat} (hc9 : c9 < S.nc) {p9 : Nat} (hp9 : p9 < S.np) (hs : apprA S c9 = some p9) : WM l E yX12_isNotDue cX12_isNotDue 3 (some .boolean) (wD 6 0 0) [.ref (g.ad 1 0), .int (nI c9), .int (nI p9)] (RB E S th g) (ow g) (fun _ v H => RB E (S) (0) g H ∧ v = some (.int 0)) := by
  refine wm_of rfl (Nat.le_of_ble_eq_true rfl) (fun p e s m below meth c ls hx hb hr hml (hown : s.vm.findClass RX12 = some m.cls) hC hlocks hR hl hini => ?_)
  have hS : va_S (fun q => ow g q ∨ s.heap.size ≤ q) s.heap s.heap [] := va_S.rf
  have hl : lv_has ls 3 [(0, .ref (g.ad 1 0)), (1, .int (nI c9)), (2, .int (nI p9))] := hl
  refine lv_aload_n hx hb dX12_isNotDue_0 rfl (lv_at hl 0 rfl) ?_
  refine lv_iload_n hx hb dX12_isNotDue_1 rfl (lv_at hl 1 rfl) ?_
  refine lv_iconst (v := 0) hx hb dX12_isNotDue_2 (by decide) ?_
  refine lv_aload_n hx hb dX12_isNotDue_3 rfl (lv_at hl 0 rfl) ?_
  refine gf_X12_1 hx hb hown hC (RB.x hR) (zf_X12_10 hC.1) dX12_isNotDue_4 ?_
  refine gf_X8_2 hx hb hown hC (RB.dk hR) (zf_X12_95 hC.1) dX12_isNotDue_7 ?_
  refine rc_V (As := []) hx hb hml hown hC hl (c_size l E _ _ _ _) (rec_of hC (RB.ls hR (by decide : 2 < 4)) rfl) (zm_X12_28 hC.1) kv_Jx4a65c_size_8abf5 (RB.ls hR (by decide : 2 < 4)) rfl rfl (rwD_le (by decide) (by decide)) ⟨rfl, rfl⟩ (Nat.le_of_ble_eq_true rfl) ⟨Nat.zero_le _, Nat.zero_le _⟩ dX12_isNotDue_10 ?_
  refine lv_iconst (v := 1) hx hb dX12_isNotDue_13 (by decide) ?_
  refine lv_isub hx hb dX12_isNotDue_14 ?_
  refine rc_S (As := [.int (nI c9), .int (0), .int ((nI (S.nc)) - (1))]) hx hb hml hown hC hl (k_isIn_1 l E (rgN_ok hc9 hI.nc31).1 (rgN_ok hc9 hI.nc31).2) (zm_X12_34 hC.1) kv_X12_isIn True.intro rfl rfl (rwD_le (by decide) (by decide)) ⟨rfl, rfl⟩ (Nat.le_of_ble_eq_true rfl) ⟨Nat.zero_le _, Nat.zero_le _⟩ dX12_isNotDue_15 ?_
  refine lv_if_eq (tgt := 29) hx hb dX12_isNotDue_18 (by decide) (fun c_18 => ?_) (fun c_18 => ?_)
  · exact absurd c_18 (by decide)
  ·
    refine lv_aload_n hx hb dX12_isNotDue_21 rfl (lv_at hl 0 rfl) ?_
    refine lv_iload_n hx hb dX12_isNotDue_22 rfl (lv_at hl 2 rfl) ?_
    refine rc_V (As := [.int (nI p9)]) hx hb hml hown hC hl (k_isNo_0 l E hI hp9) (rec_of hC (RB.x hR) rfl) (zm_X12_44 hC.1) kv_X12_isNo hR rfl rfl (rwD_le (by decide) (by decide)) ⟨rfl, rfl⟩ (Nat.le_of_ble_eq_true rfl) ⟨Nat.zero_le _, Nat.zero_le _⟩ dX12_isNotDue_23 ?_
    refine lv_if_eq (tgt := 33) hx hb dX12_isNotDue_26 (by decide) (fun c_26 => ?_) (fun c_26 => ?_)
    ·
      refine lv_iconst (v := 0) hx hb dX12_isNotDue_33 (by decide) ?_
      refine lv_iconst (v := 1) hx hb dX12_isNotDue_34 (by decide) ?_
      refine wcw_V (As := [.int (0), .int (1)]) hx hb hml hown hC hl (c_X12_start0 l E hI (w9 := 1)) (rec_of hC (RB.x hR) rfl) (zm_X12_48 hC.1) kv_X12_start hR hS (fun q h => h.imp id (Nat.le_trans hS.1)) rfl rfl (wD_le (by decide) (by decide)) (Nat.le_of_ble_eq_true rfl) ⟨Nat.le_of_ble_eq_true rfl, Nat.le_of_ble_eq_true rfl⟩ dX12_isNotDue_35 (fun H1 locs1 hR hz hq hS => ?_)
      refine lv_if_ne (tgt := 70) hx hb dX12_isNotDue_38 (by decide) (fun c_38 => ?_) (fun c_38 => ?_)
      · exact absurd (by decide) c_38
      ·
        have c_38 : (0 : Int32) = (0) := c_38
        refine lv_aload_n hx hb dX12_isNotDue_41 rfl (lv_at hl 0 rfl) ?_
        refine lv_aload_n hx hb dX12_isNotDue_42 rfl (lv_at hl 0 rfl) ?_
        refine gf_X12_1 hx hb hown hC (RB.x hR) (zf_X12_10 hC.1) dX12_isNotDue_43 ?_
        refine lv_aload_n hx hb dX12_isNotDue_46 rfl (lv_at hl 0 rfl) ?_
        refine lv_iload_n hx hb dX12_isNotDue_47 rfl (lv_at hl 1 rfl) ?_
        refine rc_V (As := [.int (nI c9)]) hx hb hml hown hC hl (c_X12_charge_ l E hI hc9) (rec_of hC (RB.x hR) rfl) (zm_X12_198 hC.1) kv_X12_charge_ hR rfl rfl (rwD_le (by decide) (by decide)) ⟨rfl, rfl⟩ (Nat.le_of_ble_eq_true rfl) ⟨Nat.zero_le _, Nat.zero_le _⟩ dX12_isNotDue_48 ?_
        refine rc_V (As := [.ref (g.ad 8 (c9))]) hx hb hml hown hC hl (c_X8_approver l E hI hc9) (rec_of hC (RB.dk hR) rfl) (zm_X12_113 hC.1) kv_X8_approver hR rfl rfl (rwD_le (by decide) (by decide)) ⟨rfl, rfl⟩ (Nat.le_of_ble_eq_true rfl) ⟨Nat.zero_le _, Nat.zero_le _⟩ dX12_isNotDue_51 ?_
        refine lv_iload_n hx hb dX12_isNotDue_54 rfl (lv_at hl 2 rfl) ?_
        refine lv_icmp_eq (tgt := 62) hx hb dX12_isNotDue_55 (by decide) (fun c_55 => ?_) (fun c_55 => ?_)
        ·
          have c_55 : (irI (apprA S (c9)) : Int32) = (nI p9) := c_55
          refine lv_iconst (v := 0) hx hb dX12_isNotDue_62 (by decide) ?_
          refine lv_iconst (v := 2) hx hb dX12_isNotDue_63 (by decide) ?_
          refine wcw_V (As := [.int (0), .int (2)]) hx hb hml hown hC hl (c_X12_refuse0 l E hI (w9 := 2)) (rec_of hC (RB.x hR) rfl) (zm_X12_20 hC.1) kv_X12_refuse hR hS (fun q h => h.imp id (Nat.le_trans hS.1)) rfl rfl (wD_le (by decide) (by decide)) (Nat.le_of_ble_eq_true rfl) ⟨Nat.le_of_ble_eq_true rfl, Nat.le_of_ble_eq_true rfl⟩ dX12_isNotDue_64 (fun H1 locs1 hR hz hq hS => ?_)
          refine lv_if_eq (tgt := 74) hx hb dX12_isNotDue_67 (by decide) (fun c_67 => ?_) (fun c_67 => ?_)
          ·
            have c_67 : (0 : Int32) = (0) := c_67
            refine lv_iconst (v := 0) hx hb dX12_isNotDue_74 (by decide) ?_
            exact wr_z hx hb hr hlocks (by decide) hS ⟨hR, rfl⟩ (Nat.le_of_ble_eq_true rfl) (Nat.le_of_ble_eq_true rfl) dX12_isNotDue_75
          · exact absurd (by decide) c_67
        · exact absurd ((irI_s (fun j hj => Nat.lt_trans (apprA_lt hI hc9 hj) hI.np31) (Nat.lt_trans hp9 hI.np31)).mpr hs) c_55
    · exact absurd (by decide) c_26
set_option maxRecDepth 100000 in
set_option maxHeartbeats 4000000 in
theorem c_X12_isNotDue_3 (l : Launch) (E : EE) {S : St} {th : Int32} {g : Gh} (hI : Inv S) {c9 : Nat} (hc9 : c9 < S.nc) {p9 : Nat} (hp9 : p9 < S.np) (hs : ¬ apprA S c9 = some p9) : WM l E yX12_isNotDue cX12_isNotDue 3 (some .boolean) (wD 6 0 0) [.ref (g.ad 1 0), .int (nI c9), .int (nI p9)] (RB E S th g) (ow g) (fun _ v H => RB E (S) (2) g H ∧ v = some (.int 1)) := by
  refine wm_of rfl (Nat.le_of_ble_eq_true rfl) (fun p e s m below meth c ls hx hb hr hml (hown : s.vm.findClass RX12 = some m.cls) hC hlocks hR hl hini => ?_)
  have hS : va_S (fun q => ow g q ∨ s.heap.size ≤ q) s.heap s.heap [] := va_S.rf
  have hl : lv_has ls 3 [(0, .ref (g.ad 1 0)), (1, .int (nI c9)), (2, .int (nI p9))] := hl
  refine lv_aload_n hx hb dX12_isNotDue_0 rfl (lv_at hl 0 rfl) ?_
  refine lv_iload_n hx hb dX12_isNotDue_1 rfl (lv_at hl 1 rfl) ?_
  refine lv_iconst (v := 0) hx hb dX12_isNotDue_2 (by decide) ?_
  refine lv_aload_n hx hb dX12_isNotDue_3 rfl (lv_at hl 0 rfl) ?_
  refine gf_X12_1 hx hb hown hC (RB.x hR) (zf_X12_10 hC.1) dX12_isNotDue_4 ?_
  refine gf_X8_2 hx hb hown hC (RB.dk hR) (zf_X12_95 hC.1) dX12_isNotDue_7 ?_
  refine rc_V (As := []) hx hb hml hown hC hl (c_size l E _ _ _ _) (rec_of hC (RB.ls hR (by decide : 2 < 4)) rfl) (zm_X12_28 hC.1) kv_Jx4a65c_size_8abf5 (RB.ls hR (by decide : 2 < 4)) rfl rfl (rwD_le (by decide) (by decide)) ⟨rfl, rfl⟩ (Nat.le_of_ble_eq_true rfl) ⟨Nat.zero_le _, Nat.zero_le _⟩ dX12_isNotDue_10 ?_
  refine lv_iconst (v := 1) hx hb dX12_isNotDue_13 (by decide) ?_
  refine lv_isub hx hb dX12_isNotDue_14 ?_
  refine rc_S (As := [.int (nI c9), .int (0), .int ((nI (S.nc)) - (1))]) hx hb hml hown hC hl (k_isIn_1 l E (rgN_ok hc9 hI.nc31).1 (rgN_ok hc9 hI.nc31).2) (zm_X12_34 hC.1) kv_X12_isIn True.intro rfl rfl (rwD_le (by decide) (by decide)) ⟨rfl, rfl⟩ (Nat.le_of_ble_eq_true rfl) ⟨Nat.zero_le _, Nat.zero_le _⟩ dX12_isNotDue_15 ?_
  refine lv_if_eq (tgt := 29) hx hb dX12_isNotDue_18 (by decide) (fun c_18 => ?_) (fun c_18 => ?_)
  · exact absurd c_18 (by decide)
  ·
    refine lv_aload_n hx hb dX12_isNotDue_21 rfl (lv_at hl 0 rfl) ?_
    refine lv_iload_n hx hb dX12_isNotDue_22 rfl (lv_at hl 2 rfl) ?_
    refine rc_V (As := [.int (nI p9)]) hx hb hml hown hC hl (k_isNo_0 l E hI hp9) (rec_of hC (RB.x hR) rfl) (zm_X12_44 hC.1) kv_X12_isNo hR rfl rfl (rwD_le (by decide) (by decide)) ⟨rfl, rfl⟩ (Nat.le_of_ble_eq_true rfl) ⟨Nat.zero_le _, Nat.zero_le _⟩ dX12_isNotDue_23 ?_
    refine lv_if_eq (tgt := 33) hx hb dX12_isNotDue_26 (by decide) (fun c_26 => ?_) (fun c_26 => ?_)
    ·
      refine lv_iconst (v := 0) hx hb dX12_isNotDue_33 (by decide) ?_
      refine lv_iconst (v := 1) hx hb dX12_isNotDue_34 (by decide) ?_
      refine wcw_V (As := [.int (0), .int (1)]) hx hb hml hown hC hl (c_X12_start0 l E hI (w9 := 1)) (rec_of hC (RB.x hR) rfl) (zm_X12_48 hC.1) kv_X12_start hR hS (fun q h => h.imp id (Nat.le_trans hS.1)) rfl rfl (wD_le (by decide) (by decide)) (Nat.le_of_ble_eq_true rfl) ⟨Nat.le_of_ble_eq_true rfl, Nat.le_of_ble_eq_true rfl⟩ dX12_isNotDue_35 (fun H1 locs1 hR hz hq hS => ?_)
      refine lv_if_ne (tgt := 70) hx hb dX12_isNotDue_38 (by decide) (fun c_38 => ?_) (fun c_38 => ?_)
      · exact absurd (by decide) c_38
      ·
        have c_38 : (0 : Int32) = (0) := c_38
        refine lv_aload_n hx hb dX12_isNotDue_41 rfl (lv_at hl 0 rfl) ?_
        refine lv_aload_n hx hb dX12_isNotDue_42 rfl (lv_at hl 0 rfl) ?_
        refine gf_X12_1 hx hb hown hC (RB.x hR) (zf_X12_10 hC.1) dX12_isNotDue_43 ?_
        refine lv_aload_n hx hb dX12_isNotDue_46 rfl (lv_at hl 0 rfl) ?_
        refine lv_iload_n hx hb dX12_isNotDue_47 rfl (lv_at hl 1 rfl) ?_
        refine rc_V (As := [.int (nI c9)]) hx hb hml hown hC hl (c_X12_charge_ l E hI hc9) (rec_of hC (RB.x hR) rfl) (zm_X12_198 hC.1) kv_X12_charge_ hR rfl rfl (rwD_le (by decide) (by decide)) ⟨rfl, rfl⟩ (Nat.le_of_ble_eq_true rfl) ⟨Nat.zero_le _, Nat.zero_le _⟩ dX12_isNotDue_48 ?_
        refine rc_V (As := [.ref (g.ad 8 (c9))]) hx hb hml hown hC hl (c_X8_approver l E hI hc9) (rec_of hC (RB.dk hR) rfl) (zm_X12_113 hC.1) kv_X8_approver hR rfl rfl (rwD_le (by decide) (by decide)) ⟨rfl, rfl⟩ (Nat.le_of_ble_eq_true rfl) ⟨Nat.zero_le _, Nat.zero_le _⟩ dX12_isNotDue_51 ?_
        refine lv_iload_n hx hb dX12_isNotDue_54 rfl (lv_at hl 2 rfl) ?_
        refine lv_icmp_eq (tgt := 62) hx hb dX12_isNotDue_55 (by decide) (fun c_55 => ?_) (fun c_55 => ?_)
        · exact absurd ((irI_s (fun j hj => Nat.lt_trans (apprA_lt hI hc9 hj) hI.np31) (Nat.lt_trans hp9 hI.np31)).mp c_55) hs
        ·
          have c_55 : ¬ (irI (apprA S (c9)) : Int32) = (nI p9) := c_55
          refine lv_iconst (v := 1) hx hb dX12_isNotDue_58 (by decide) ?_
          refine lv_goto (tgt := 63) hx hb dX12_isNotDue_59 (by decide) ?_
          refine lv_iconst (v := 2) hx hb dX12_isNotDue_63 (by decide) ?_
          refine wcw_V (As := [.int (1), .int (2)]) hx hb hml hown hC hl (c_X12_refuse1 l E hI (w9 := 2) (by decide)) (rec_of hC (RB.x hR) rfl) (zm_X12_20 hC.1) kv_X12_refuse hR hS (fun q h => h.imp id (Nat.le_trans hS.1)) rfl rfl (wD_le (by decide) (by decide)) (Nat.le_of_ble_eq_true rfl) ⟨Nat.le_of_ble_eq_true rfl, Nat.le_of_ble_eq_true rfl⟩ dX12_isNotDue_64 (fun H1 locs1 hR hz hq hS => ?_)
          refine lv_if_eq (tgt := 74) hx hb dX12_isNotDue_67 (by decide) (fun c_67 => ?_) (fun c_67 => ?_)
          · exact absurd c_67 (by decide)
          ·
            have c_67 : ¬ (1 : Int32) = (0) := c_67
            refine lv_iconst (v := 1) hx hb dX12_isNotDue_70 (by decide) ?_
            refine lv_goto (tgt := 75) hx hb dX12_isNotDue_71 (by decide) ?_
            exact wr_z hx hb hr hlocks (by decide) hS ⟨hR, rfl⟩ (Nat.le_of_ble_eq_true rfl) (Nat.le_of_ble_eq_true rfl) dX12_isNotDue_75
    · exact absurd (by decide) c_26
