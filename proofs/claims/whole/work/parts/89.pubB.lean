theorem s_cs_ce (S : St) (a : Nat → Int32) (b : Nat → Nat) : (S.s_cs a).s_ce b = (S.s_ce b).s_cs a := by
  refine Prod.ext (funext fun k => funext fun i => ?_) rfl
  show cond (Nat.beq k 22) (b i, (cond (Nat.beq k 20) ((S.1 k i).1, a i, (S.1 k i).2.2) (S.1 k i)).2) (cond (Nat.beq k 20) ((S.1 k i).1, a i, (S.1 k i).2.2) (S.1 k i)) = cond (Nat.beq k 20) ((cond (Nat.beq k 22) (b i, (S.1 k i).2) (S.1 k i)).1, a i, (cond (Nat.beq k 22) (b i, (S.1 k i).2) (S.1 k i)).2.2) (cond (Nat.beq k 22) (b i, (S.1 k i).2) (S.1 k i))
  cases h1 : Nat.beq k 20 with
  | false => rfl
  | true =>
    rw [Nat.eq_of_beq_eq_true h1]
    rfl
theorem u_ce_cs (S : St) (c : Nat) (a : Int32) (b : Nat) : u_ce (u_cs S c a) c b = u_cs (u_ce S c b) c a := s_cs_ce S _ _
set_option maxRecDepth 100000 in
set_option maxHeartbeats 4000000 in
theorem c_X12_of_n (l : Launch) (E : EE) {S : St} {th : Int32} {g : Gh} {p9 : Nat} (hp : p9 < S.np) : RM l E yX12_of cX12_of 2 (.object "ApprovalGridModel$Person") (rD 3) [.ref (g.ad 1 0), .int (nI p9)] (RB E S th g) (.ref (g.ad 6 p9)) := by
  refine rm_of rfl (Nat.le_of_ble_eq_true rfl) (fun p e s m below meth c ls hx hb hr hml (hown : s.vm.findClass RX12 = some m.cls) hC hlocks hR hl => ?_)
  have hl : lv_has ls 2 [(0, .ref (g.ad 1 0)), (1, .int (nI p9))] := hl
  refine lv_aload_n hx hb dX12_of_0 rfl (lv_at hl 0 rfl) ?_
  refine gf_X12_1 hx hb hown hC (RB.x hR) (zf_X12_10 hC.1) dX12_of_1 ?_
  refine gf_X8_0 hx hb hown hC (RB.dk hR) (zf_X12_24 hC.1) dX12_of_4 ?_
  refine lv_iload_n hx hb dX12_of_7 rfl (lv_at hl 1 rfl) ?_
  refine rc_V (As := [.int (nI p9)]) hx hb hml hown hC hl (c_getLB l E 0 rfl hR (by decide) hp) (rec_of hC (RB.ls hR (by decide : 0 < 4)) rfl) (zm_X12_38 hC.1) kv_Jx4a65c_get_915e3 (RB.gp hR 0 (by decide) hp) rfl rfl (rD_le (by decide) (by decide)) ⟨rfl, rfl⟩ (Nat.le_of_ble_eq_true rfl) ⟨Nat.zero_le _, Nat.zero_le _⟩ dX12_of_8 ?_
  refine g_cast hx hb hown hC (RB.pe hR hp) rfl (zc_X12_42 hC.1) dX12_of_11 ?_
  exact rr_r hx hb hr hlocks rfl dX12_of_14
set_option maxRecDepth 100000 in
set_option maxHeartbeats 4000000 in
theorem c_X12_charge_n (l : Launch) (E : EE) {S : St} {th : Int32} {g : Gh} {c9 : Nat} (hc : c9 < S.nc) : RM l E yX12_charge_ cX12_charge_ 2 (.object "ApprovalGridModel$Charge") (rD 3) [.ref (g.ad 1 0), .int (nI c9)] (RB E S th g) (.ref (g.ad 8 c9)) := by
  refine rm_of rfl (Nat.le_of_ble_eq_true rfl) (fun p e s m below meth c ls hx hb hr hml (hown : s.vm.findClass RX12 = some m.cls) hC hlocks hR hl => ?_)
  have hl : lv_has ls 2 [(0, .ref (g.ad 1 0)), (1, .int (nI c9))] := hl
  refine lv_aload_n hx hb dX12_charge__0 rfl (lv_at hl 0 rfl) ?_
  refine gf_X12_1 hx hb hown hC (RB.x hR) (zf_X12_10 hC.1) dX12_charge__1 ?_
  refine gf_X8_2 hx hb hown hC (RB.dk hR) (zf_X12_95 hC.1) dX12_charge__4 ?_
  refine lv_iload_n hx hb dX12_charge__7 rfl (lv_at hl 1 rfl) ?_
  refine rc_V (As := [.int (nI c9)]) hx hb hml hown hC hl (c_getLB l E 2 rfl hR (by decide) hc) (rec_of hC (RB.ls hR (by decide : 2 < 4)) rfl) (zm_X12_38 hC.1) kv_Jx4a65c_get_915e3 (RB.gp hR 2 (by decide) hc) rfl rfl (rD_le (by decide) (by decide)) ⟨rfl, rfl⟩ (Nat.le_of_ble_eq_true rfl) ⟨Nat.zero_le _, Nat.zero_le _⟩ dX12_charge__8 ?_
  refine g_cast hx hb hown hC (RB.ch hR hc) rfl (zc_X12_98 hC.1) dX12_charge__11 ?_
  exact rr_r hx hb hr hlocks rfl dX12_charge__14
set_option maxRecDepth 100000 in
set_option maxHeartbeats 4000000 in
theorem c_X12_maySpend (l : Launch) (E : EE) {S : St} {th : Int32} {g : Gh} (hI : Inv S) {p9 : Nat} (hp9 : p9 < S.np) {k9 : Nat} (hk9 : k9 < 4) {l9 : Nat} (hl9 : l9 < 3)  : WM l E yX12_maySpend cX12_maySpend 4 (some .int) (wD 8 0 0) [.ref (g.ad 1 0), .int (nI p9), .int (nI k9), .int (nI l9)] (RB E S th g) (ow g) (fun _ v H => RB E (S) (0) g H ∧ v = some (.int (spendA S p9 k9 (nI l9)))) := by
  refine wm_of rfl (Nat.le_of_ble_eq_true rfl) (fun p e s m below meth c ls hx hb hr hml (hown : s.vm.findClass RX12 = some m.cls) hC hlocks hR hl hini => ?_)
  have hS : va_S (fun q => ow g q ∨ s.heap.size ≤ q) s.heap s.heap [] := va_S.rf
  have hl : lv_has ls 4 [(0, .ref (g.ad 1 0)), (1, .int (nI p9)), (2, .int (nI k9)), (3, .int (nI l9))] := hl
  refine lv_aload_n hx hb dX12_maySpend_0 rfl (lv_at hl 0 rfl) ?_
  refine lv_aload_n hx hb dX12_maySpend_1 rfl (lv_at hl 0 rfl) ?_
  refine lv_iload_n hx hb dX12_maySpend_2 rfl (lv_at hl 1 rfl) ?_
  refine rc_V (As := [.int (nI p9)]) hx hb hml hown hC hl (k_isNo_0 l E hI hp9) (rec_of hC (RB.x hR) rfl) (zm_X12_44 hC.1) kv_X12_isNo hR rfl rfl (rwD_le (by decide) (by decide)) ⟨rfl, rfl⟩ (Nat.le_of_ble_eq_true rfl) ⟨Nat.zero_le _, Nat.zero_le _⟩ dX12_maySpend_3 ?_
  refine lv_if_ne (tgt := 23) hx hb dX12_maySpend_6 (by decide) (fun c_6 => ?_) (fun c_6 => ?_)
  · exact absurd (by decide) c_6
  ·
    refine lv_iload_n hx hb dX12_maySpend_9 rfl (lv_at hl 2 rfl) ?_
    refine rc_S (As := [.int (nI k9)]) hx hb hml hown hC hl (k_isNoKind_0 l E hk9) (zm_X12_62 hC.1) kv_X12_isNoKind True.intro rfl rfl (rwD_le (by decide) (by decide)) ⟨rfl, rfl⟩ (Nat.le_of_ble_eq_true rfl) ⟨Nat.zero_le _, Nat.zero_le _⟩ dX12_maySpend_10 ?_
    refine lv_if_ne (tgt := 23) hx hb dX12_maySpend_13 (by decide) (fun c_13 => ?_) (fun c_13 => ?_)
    · exact absurd (by decide) c_13
    ·
      refine lv_iload_n hx hb dX12_maySpend_16 rfl (lv_at hl 3 rfl) ?_
      refine rc_S (As := [.int (nI l9)]) hx hb hml hown hC hl (k_isNoLand_0 l E hl9) (zm_X12_84 hC.1) kv_X12_isNoLand True.intro rfl rfl (rwD_le (by decide) (by decide)) ⟨rfl, rfl⟩ (Nat.le_of_ble_eq_true rfl) ⟨Nat.zero_le _, Nat.zero_le _⟩ dX12_maySpend_17 ?_
      refine lv_if_eq (tgt := 27) hx hb dX12_maySpend_20 (by decide) (fun c_20 => ?_) (fun c_20 => ?_)
      ·
        refine lv_iconst (v := 0) hx hb dX12_maySpend_27 (by decide) ?_
        refine lv_iconst (v := 1) hx hb dX12_maySpend_28 (by decide) ?_
        refine wcw_V (As := [.int (0), .int (1)]) hx hb hml hown hC hl (c_X12_start0 l E hI (w9 := 1)) (rec_of hC (RB.x hR) rfl) (zm_X12_48 hC.1) kv_X12_start hR hS (fun q h => h.imp id (Nat.le_trans hS.1)) rfl rfl (wD_le (by decide) (by decide)) (Nat.le_of_ble_eq_true rfl) ⟨Nat.le_of_ble_eq_true rfl, Nat.le_of_ble_eq_true rfl⟩ dX12_maySpend_29 (fun H1 locs1 hR hz hq hS => ?_)
        refine lv_if_eq (tgt := 39) hx hb dX12_maySpend_32 (by decide) (fun c_32 => ?_) (fun c_32 => ?_)
        ·
          have c_32 : (0 : Int32) = (0) := c_32
          refine lv_aload_n hx hb dX12_maySpend_39 rfl (lv_at hl 0 rfl) ?_
          refine gf_X12_1 hx hb hown hC (RB.x hR) (zf_X12_10 hC.1) dX12_maySpend_40 ?_
          refine lv_iload_n hx hb dX12_maySpend_43 rfl (lv_at hl 1 rfl) ?_
          refine lv_iload_n hx hb dX12_maySpend_44 rfl (lv_at hl 2 rfl) ?_
          refine lv_iload_n hx hb dX12_maySpend_45 rfl (lv_at hl 3 rfl) ?_
          refine rc_V (As := [.int (nI p9), .int (nI k9), .int (nI l9)]) hx hb hml hown hC hl (c_X8_maySpend l E hI hp9 hk9 (nI l9)) (rec_of hC (RB.dk hR) rfl) (zm_X12_144 hC.1) kv_X8_maySpend hR rfl rfl (rwD_le (by decide) (by decide)) ⟨rfl, rfl⟩ (Nat.le_of_ble_eq_true rfl) ⟨Nat.zero_le _, Nat.zero_le _⟩ dX12_maySpend_46 ?_
          exact wr_i hx hb hr hlocks hS ⟨hR, rfl⟩ (Nat.le_of_ble_eq_true rfl) (Nat.le_of_ble_eq_true rfl) dX12_maySpend_49
        · exact absurd (by decide) c_32
      · exact absurd (by decide) c_20
set_option maxRecDepth 100000 in
set_option maxHeartbeats 4000000 in
theorem c_X12_left (l : Launch) (E : EE) {S : St} {th : Int32} {g : Gh} (hI : Inv S) {k9 : Nat} (hk9 : k9 < 4) {y9 : Nat} (hy9 : y9 < 4)  : WM l E yX12_left cX12_left 3 (some .int) (wD 8 0 0) [.ref (g.ad 1 0), .int (nI k9), .int (nI y9)] (RB E S th g) (ow g) (fun _ v H => RB E (S) (0) g H ∧ v = some (.int (leftL S k9 0 (y9 + 1)))) := by
  refine wm_of rfl (Nat.le_of_ble_eq_true rfl) (fun p e s m below meth c ls hx hb hr hml (hown : s.vm.findClass RX12 = some m.cls) hC hlocks hR hl hini => ?_)
  have hS : va_S (fun q => ow g q ∨ s.heap.size ≤ q) s.heap s.heap [] := va_S.rf
  have hl : lv_has ls 3 [(0, .ref (g.ad 1 0)), (1, .int (nI k9)), (2, .int (nI y9))] := hl
  refine lv_aload_n hx hb dX12_left_0 rfl (lv_at hl 0 rfl) ?_
  refine lv_iload_n hx hb dX12_left_1 rfl (lv_at hl 1 rfl) ?_
  refine lv_iload_n hx hb dX12_left_2 rfl (lv_at hl 2 rfl) ?_
  refine wcw_V (As := [.int (nI k9), .int (nI y9)]) hx hb hml hown hC hl (c_X12_isNoBudget_0 l E hI hk9 hy9) (rec_of hC (RB.x hR) rfl) (zm_X12_148 hC.1) kv_X12_isNoBudget hR hS (fun q h => h.imp id (Nat.le_trans hS.1)) rfl rfl (wD_le (by decide) (by decide)) (Nat.le_of_ble_eq_true rfl) ⟨Nat.le_of_ble_eq_true rfl, Nat.le_of_ble_eq_true rfl⟩ dX12_left_3 (fun H1 locs1 hR hz hq hS => ?_)
  refine lv_if_eq (tgt := 13) hx hb dX12_left_6 (by decide) (fun c_6 => ?_) (fun c_6 => ?_)
  ·
    have c_6 : (0 : Int32) = (0) := c_6
    refine lv_aload_n hx hb dX12_left_13 rfl (lv_at hl 0 rfl) ?_
    refine gf_X12_1 hx hb hown hC (RB.x hR) (zf_X12_10 hC.1) dX12_left_14 ?_
    refine lv_iload_n hx hb dX12_left_17 rfl (lv_at hl 1 rfl) ?_
    refine lv_iload_n hx hb dX12_left_18 rfl (lv_at hl 2 rfl) ?_
    refine lv_iconst (v := 0) hx hb dX12_left_19 (by decide) ?_
    refine rc_V (As := [.int (nI k9), .int (nI y9), .int (0)]) hx hb hml hown hC hl (c_X8_left l E hI hk9 (0) _ hy9) (rec_of hC (RB.dk hR) rfl) (zm_X12_163 hC.1) kv_X8_left hR rfl rfl (rwD_le (by omega) (by decide)) ⟨rfl, rfl⟩ (Nat.le_of_ble_eq_true rfl) ⟨Nat.zero_le _, Nat.zero_le _⟩ dX12_left_20 ?_
    exact wr_i hx hb hr hlocks hS ⟨hR, rfl⟩ (Nat.le_of_ble_eq_true rfl) (Nat.le_of_ble_eq_true rfl) dX12_left_23
  · exact absurd (by decide) c_6
set_option maxRecDepth 100000 in
set_option maxHeartbeats 4000000 in
theorem c_X12_leftWith (l : Launch) (E : EE) {S : St} {th : Int32} {g : Gh} (hI : Inv S) {k9 : Nat} (hk9 : k9 < 4) {y9 : Nat} (hy9 : y9 < 4)  : WM l E yX12_leftWith cX12_leftWith 3 (some .int) (wD 8 0 0) [.ref (g.ad 1 0), .int (nI k9), .int (nI y9)] (RB E S th g) (ow g) (fun _ v H => RB E (S) (0) g H ∧ v = some (.int (leftL S k9 1 (y9 + 1)))) := by
  refine wm_of rfl (Nat.le_of_ble_eq_true rfl) (fun p e s m below meth c ls hx hb hr hml (hown : s.vm.findClass RX12 = some m.cls) hC hlocks hR hl hini => ?_)
  have hS : va_S (fun q => ow g q ∨ s.heap.size ≤ q) s.heap s.heap [] := va_S.rf
  have hl : lv_has ls 3 [(0, .ref (g.ad 1 0)), (1, .int (nI k9)), (2, .int (nI y9))] := hl
  refine lv_aload_n hx hb dX12_leftWith_0 rfl (lv_at hl 0 rfl) ?_
  refine lv_iload_n hx hb dX12_leftWith_1 rfl (lv_at hl 1 rfl) ?_
  refine lv_iload_n hx hb dX12_leftWith_2 rfl (lv_at hl 2 rfl) ?_
  refine wcw_V (As := [.int (nI k9), .int (nI y9)]) hx hb hml hown hC hl (c_X12_isNoBudget_0 l E hI hk9 hy9) (rec_of hC (RB.x hR) rfl) (zm_X12_148 hC.1) kv_X12_isNoBudget hR hS (fun q h => h.imp id (Nat.le_trans hS.1)) rfl rfl (wD_le (by decide) (by decide)) (Nat.le_of_ble_eq_true rfl) ⟨Nat.le_of_ble_eq_true rfl, Nat.le_of_ble_eq_true rfl⟩ dX12_leftWith_3 (fun H1 locs1 hR hz hq hS => ?_)
  refine lv_if_eq (tgt := 13) hx hb dX12_leftWith_6 (by decide) (fun c_6 => ?_) (fun c_6 => ?_)
  ·
    have c_6 : (0 : Int32) = (0) := c_6
    refine lv_aload_n hx hb dX12_leftWith_13 rfl (lv_at hl 0 rfl) ?_
    refine gf_X12_1 hx hb hown hC (RB.x hR) (zf_X12_10 hC.1) dX12_leftWith_14 ?_
    refine lv_iload_n hx hb dX12_leftWith_17 rfl (lv_at hl 1 rfl) ?_
    refine lv_iload_n hx hb dX12_leftWith_18 rfl (lv_at hl 2 rfl) ?_
    refine lv_iconst (v := 1) hx hb dX12_leftWith_19 (by decide) ?_
    refine rc_V (As := [.int (nI k9), .int (nI y9), .int (1)]) hx hb hml hown hC hl (c_X8_left l E hI hk9 (1) _ hy9) (rec_of hC (RB.dk hR) rfl) (zm_X12_163 hC.1) kv_X8_left hR rfl rfl (rwD_le (by omega) (by decide)) ⟨rfl, rfl⟩ (Nat.le_of_ble_eq_true rfl) ⟨Nat.zero_le _, Nat.zero_le _⟩ dX12_leftWith_20 ?_
    exact wr_i hx hb hr hlocks hS ⟨hR, rfl⟩ (Nat.le_of_ble_eq_true rfl) (Nat.le_of_ble_eq_true rfl) dX12_leftWith_23
  · exact absurd (by decide) c_6
set_option maxRecDepth 100000 in
set_option maxHeartbeats 4000000 in
theorem c_X12_ofPerson (l : Launch) (E : EE) {S : St} {th : Int32} {g : Gh} (hI : Inv S) {p9 : Nat} (hp9 : p9 < S.np) {w9 : Nat} (hw9 : w9 ≤ 6)  : WM l E yX12_ofPerson cX12_ofPerson 3 (some .int) (wD 8 1 7) [.ref (g.ad 1 0), .int (nI p9), .int (nI w9)] (RB E S th g) (ow g) (fun _ v H => RB E (S) (0) g H ∧ v = some (.int (ofPersonA S p9 w9))) := by
  refine wm_of rfl (Nat.le_of_ble_eq_true rfl) (fun p e s m below meth c ls hx hb hr hml (hown : s.vm.findClass RX12 = some m.cls) hC hlocks hR hl hini => ?_)
  have hS : va_S (fun q => ow g q ∨ s.heap.size ≤ q) s.heap s.heap [] := va_S.rf
  have hl : lv_has ls 3 [(0, .ref (g.ad 1 0)), (1, .int (nI p9)), (2, .int (nI w9))] := hl
  refine lv_aload_n hx hb dX12_ofPerson_0 rfl (lv_at hl 0 rfl) ?_
  refine lv_aload_n hx hb dX12_ofPerson_1 rfl (lv_at hl 0 rfl) ?_
  refine lv_iload_n hx hb dX12_ofPerson_2 rfl (lv_at hl 1 rfl) ?_
  refine rc_V (As := [.int (nI p9)]) hx hb hml hown hC hl (k_isNo_0 l E hI hp9) (rec_of hC (RB.x hR) rfl) (zm_X12_44 hC.1) kv_X12_isNo hR rfl rfl (rwD_le (by decide) (by decide)) ⟨rfl, rfl⟩ (Nat.le_of_ble_eq_true rfl) ⟨Nat.zero_le _, Nat.zero_le _⟩ dX12_ofPerson_3 ?_
  refine lv_iconst (v := 1) hx hb dX12_ofPerson_6 (by decide) ?_
  refine wcw_V (As := [.int (0), .int (1)]) hx hb hml hown hC hl (c_X12_start0 l E hI (w9 := 1)) (rec_of hC (RB.x hR) rfl) (zm_X12_48 hC.1) kv_X12_start hR hS (fun q h => h.imp id (Nat.le_trans hS.1)) rfl rfl (wD_le (by decide) (by decide)) (Nat.le_of_ble_eq_true rfl) ⟨Nat.le_of_ble_eq_true rfl, Nat.le_of_ble_eq_true rfl⟩ dX12_ofPerson_7 (fun H1 locs1 hR hz hq hS => ?_)
  refine lv_if_ne (tgt := 36) hx hb dX12_ofPerson_10 (by decide) (fun c_10 => ?_) (fun c_10 => ?_)
  · exact absurd (by decide) c_10
  ·
    have c_10 : (0 : Int32) = (0) := c_10
    refine lv_aload_n hx hb dX12_ofPerson_13 rfl (lv_at hl 0 rfl) ?_
    refine lv_iload_n hx hb dX12_ofPerson_14 rfl (lv_at hl 2 rfl) ?_
    refine lv_iconst (v := 0) hx hb dX12_ofPerson_15 (by decide) ?_
    refine lv_bipush (v := 6) hx hb dX12_ofPerson_16 (by decide) ?_
    refine rc_S (As := [.int (nI w9), .int (0), .int (6)]) hx hb hml hown hC hl (k_isIn_1 l E (rgK_ok (n := 6) (Nat.lt_succ_of_le hw9) (by decide)).1 (rgK_ok (n := 6) (Nat.lt_succ_of_le hw9) (by decide)).2) (zm_X12_34 hC.1) kv_X12_isIn True.intro rfl rfl (rwD_le (by decide) (by decide)) ⟨rfl, rfl⟩ (Nat.le_of_ble_eq_true rfl) ⟨Nat.zero_le _, Nat.zero_le _⟩ dX12_ofPerson_18 ?_
    refine lv_if_ne (tgt := 28) hx hb dX12_ofPerson_21 (by decide) (fun c_21 => ?_) (fun c_21 => ?_)
    ·
      have c_21 : ¬ (1 : Int32) = (0) := c_21
      refine lv_iconst (v := 0) hx hb dX12_ofPerson_28 (by decide) ?_
      refine lv_iconst (v := 2) hx hb dX12_ofPerson_29 (by decide) ?_
      refine wcw_V (As := [.int (0), .int (2)]) hx hb hml hown hC hl (c_X12_refuse0 l E hI (w9 := 2)) (rec_of hC (RB.x hR) rfl) (zm_X12_20 hC.1) kv_X12_refuse hR hS (fun q h => h.imp id (Nat.le_trans hS.1)) rfl rfl (wD_le (by decide) (by decide)) (Nat.le_of_ble_eq_true rfl) ⟨Nat.le_of_ble_eq_true rfl, Nat.le_of_ble_eq_true rfl⟩ dX12_ofPerson_30 (fun H1 locs1 hR hz hq hS => ?_)
      refine lv_if_eq (tgt := 40) hx hb dX12_ofPerson_33 (by decide) (fun c_33 => ?_) (fun c_33 => ?_)
      ·
        have c_33 : (0 : Int32) = (0) := c_33
        refine lv_aload_n hx hb dX12_ofPerson_40 rfl (lv_at hl 0 rfl) ?_
        refine lv_iload_n hx hb dX12_ofPerson_41 rfl (lv_at hl 1 rfl) ?_
        refine lv_iload_n hx hb dX12_ofPerson_42 rfl (lv_at hl 2 rfl) ?_
        refine wcw_V (As := [.int (nI p9), .int (nI w9)]) hx hb hml hown hC hl (c_X12_ofPersonNow l E hI hp9 (w9 := w9) (by omega)) (rec_of hC (RB.x hR) rfl) (zm_X12_140 hC.1) kv_X12_ofPersonNow hR hS (fun q h => h.imp id (Nat.le_trans hS.1)) rfl rfl (wD_le (by decide) (by decide)) (Nat.le_of_ble_eq_true rfl) ⟨Nat.le_of_ble_eq_true rfl, Nat.le_of_ble_eq_true rfl⟩ dX12_ofPerson_43 (fun H1 locs1 hR hz hq hS => ?_)
        exact wr_i hx hb hr hlocks hS ⟨hR, rfl⟩ (Nat.le_of_ble_eq_true rfl) (Nat.le_of_ble_eq_true rfl) dX12_ofPerson_46
      · exact absurd (by decide) c_33
    · exact absurd c_21 (by decide)
set_option maxRecDepth 100000 in
set_option maxHeartbeats 4000000 in
theorem c_X12_ofCharge (l : Launch) (E : EE) {S : St} {th : Int32} {g : Gh} (hI : Inv S) {c9 : Nat} (hc9 : c9 < S.nc) {w9 : Nat} (hw9 : w9 ≤ 11)  : WM l E yX12_ofCharge cX12_ofCharge 3 (some .int) (wD 8 1 12) [.ref (g.ad 1 0), .int (nI c9), .int (nI w9)] (RB E S th g) (ow g) (fun _ v H => RB E (S) (0) g H ∧ v = some (.int (ofChargeA S c9 w9))) := by
  refine wm_of rfl (Nat.le_of_ble_eq_true rfl) (fun p e s m below meth c ls hx hb hr hml (hown : s.vm.findClass RX12 = some m.cls) hC hlocks hR hl hini => ?_)
  have hS : va_S (fun q => ow g q ∨ s.heap.size ≤ q) s.heap s.heap [] := va_S.rf
  have hl : lv_has ls 3 [(0, .ref (g.ad 1 0)), (1, .int (nI c9)), (2, .int (nI w9))] := hl
  refine lv_aload_n hx hb dX12_ofCharge_0 rfl (lv_at hl 0 rfl) ?_
  refine lv_iload_n hx hb dX12_ofCharge_1 rfl (lv_at hl 1 rfl) ?_
  refine wcw_V (As := [.int (nI c9)]) hx hb hml hown hC hl (c_X12_isNoCharge_0 l E hI hc9) (rec_of hC (RB.x hR) rfl) (zm_X12_195 hC.1) kv_X12_isNoCharge hR hS (fun q h => h.imp id (Nat.le_trans hS.1)) rfl rfl (wD_le (by decide) (by decide)) (Nat.le_of_ble_eq_true rfl) ⟨Nat.le_of_ble_eq_true rfl, Nat.le_of_ble_eq_true rfl⟩ dX12_ofCharge_2 (fun H1 locs1 hR hz hq hS => ?_)
  refine lv_if_ne (tgt := 31) hx hb dX12_ofCharge_5 (by decide) (fun c_5 => ?_) (fun c_5 => ?_)
  · exact absurd (by decide) c_5
  ·
    have c_5 : (0 : Int32) = (0) := c_5
    refine lv_aload_n hx hb dX12_ofCharge_8 rfl (lv_at hl 0 rfl) ?_
    refine lv_iload_n hx hb dX12_ofCharge_9 rfl (lv_at hl 2 rfl) ?_
    refine lv_iconst (v := 0) hx hb dX12_ofCharge_10 (by decide) ?_
    refine lv_bipush (v := 11) hx hb dX12_ofCharge_11 (by decide) ?_
    refine rc_S (As := [.int (nI w9), .int (0), .int (11)]) hx hb hml hown hC hl (k_isIn_1 l E (rgK_ok (n := 11) (Nat.lt_succ_of_le hw9) (by decide)).1 (rgK_ok (n := 11) (Nat.lt_succ_of_le hw9) (by decide)).2) (zm_X12_34 hC.1) kv_X12_isIn True.intro rfl rfl (rwD_le (by decide) (by decide)) ⟨rfl, rfl⟩ (Nat.le_of_ble_eq_true rfl) ⟨Nat.zero_le _, Nat.zero_le _⟩ dX12_ofCharge_13 ?_
    refine lv_if_ne (tgt := 23) hx hb dX12_ofCharge_16 (by decide) (fun c_16 => ?_) (fun c_16 => ?_)
    ·
      have c_16 : ¬ (1 : Int32) = (0) := c_16
      refine lv_iconst (v := 0) hx hb dX12_ofCharge_23 (by decide) ?_
      refine lv_iconst (v := 2) hx hb dX12_ofCharge_24 (by decide) ?_
      refine wcw_V (As := [.int (0), .int (2)]) hx hb hml hown hC hl (c_X12_refuse0 l E hI (w9 := 2)) (rec_of hC (RB.x hR) rfl) (zm_X12_20 hC.1) kv_X12_refuse hR hS (fun q h => h.imp id (Nat.le_trans hS.1)) rfl rfl (wD_le (by decide) (by decide)) (Nat.le_of_ble_eq_true rfl) ⟨Nat.le_of_ble_eq_true rfl, Nat.le_of_ble_eq_true rfl⟩ dX12_ofCharge_25 (fun H1 locs1 hR hz hq hS => ?_)
      refine lv_if_eq (tgt := 35) hx hb dX12_ofCharge_28 (by decide) (fun c_28 => ?_) (fun c_28 => ?_)
      ·
        have c_28 : (0 : Int32) = (0) := c_28
        refine lv_aload_n hx hb dX12_ofCharge_35 rfl (lv_at hl 0 rfl) ?_
        refine lv_aload_n hx hb dX12_ofCharge_36 rfl (lv_at hl 0 rfl) ?_
        refine lv_iload_n hx hb dX12_ofCharge_37 rfl (lv_at hl 1 rfl) ?_
        refine rc_V (As := [.int (nI c9)]) hx hb hml hown hC hl (c_X12_charge_n l E (S := S) hc9) (rec_of hC (RB.x hR) rfl) (zm_X12_198 hC.1) kv_X12_charge_ hR rfl rfl (rwD_le (by decide) (by decide)) ⟨rfl, rfl⟩ (Nat.le_of_ble_eq_true rfl) ⟨Nat.zero_le _, Nat.zero_le _⟩ dX12_ofCharge_38 ?_
        refine lv_iload_n hx hb dX12_ofCharge_41 rfl (lv_at hl 2 rfl) ?_
        refine wcw_V (As := [.ref (g.ad 8 (c9)), .int (nI w9)]) hx hb hml hown hC hl (c_X12_ofChargeNow l E hI hc9 (w9 := w9) (by omega)) (rec_of hC (RB.x hR) rfl) (zm_X12_236 hC.1) kv_X12_ofChargeNow hR hS (fun q h => h.imp id (Nat.le_trans hS.1)) rfl rfl (wD_le (by decide) (by decide)) (Nat.le_of_ble_eq_true rfl) ⟨Nat.le_of_ble_eq_true rfl, Nat.le_of_ble_eq_true rfl⟩ dX12_ofCharge_42 (fun H1 locs1 hR hz hq hS => ?_)
        exact wr_i hx hb hr hlocks hS ⟨hR, rfl⟩ (Nat.le_of_ble_eq_true rfl) (Nat.le_of_ble_eq_true rfl) dX12_ofCharge_45
      · exact absurd (by decide) c_28
    · exact absurd c_16 (by decide)
set_option maxRecDepth 100000 in
set_option maxHeartbeats 4000000 in
theorem c_X12_ofReceipt (l : Launch) (E : EE) {S : St} {th : Int32} {g : Gh} (hI : Inv S) {r9 : Nat} (hr9 : r9 < S.nr)  : WM l E yX12_ofReceipt cX12_ofReceipt 2 (some .int) (wD 8 0 0) [.ref (g.ad 1 0), .int (nI r9)] (RB E S th g) (ow g) (fun _ v H => RB E (S) (0) g H ∧ v = some (.int (irI (S.ro r9)))) := by
  refine wm_of rfl (Nat.le_of_ble_eq_true rfl) (fun p e s m below meth c ls hx hb hr hml (hown : s.vm.findClass RX12 = some m.cls) hC hlocks hR hl hini => ?_)
  have hS : va_S (fun q => ow g q ∨ s.heap.size ≤ q) s.heap s.heap [] := va_S.rf
  have hl : lv_has ls 2 [(0, .ref (g.ad 1 0)), (1, .int (nI r9))] := hl
  refine lv_aload_n hx hb dX12_ofReceipt_0 rfl (lv_at hl 0 rfl) ?_
  refine lv_aload_n hx hb dX12_ofReceipt_1 rfl (lv_at hl 0 rfl) ?_
  refine lv_iload_n hx hb dX12_ofReceipt_2 rfl (lv_at hl 1 rfl) ?_
  refine rc_V (As := [.int (nI r9)]) hx hb hml hown hC hl (k_isNoOne_0 l E hI hr9) (rec_of hC (RB.x hR) rfl) (zm_X12_240 hC.1) kv_X12_isNoOne hR rfl rfl (rwD_le (by decide) (by decide)) ⟨rfl, rfl⟩ (Nat.le_of_ble_eq_true rfl) ⟨Nat.zero_le _, Nat.zero_le _⟩ dX12_ofReceipt_3 ?_
  refine lv_iconst (v := 1) hx hb dX12_ofReceipt_6 (by decide) ?_
  refine wcw_V (As := [.int (0), .int (1)]) hx hb hml hown hC hl (c_X12_start0 l E hI (w9 := 1)) (rec_of hC (RB.x hR) rfl) (zm_X12_48 hC.1) kv_X12_start hR hS (fun q h => h.imp id (Nat.le_trans hS.1)) rfl rfl (wD_le (by decide) (by decide)) (Nat.le_of_ble_eq_true rfl) ⟨Nat.le_of_ble_eq_true rfl, Nat.le_of_ble_eq_true rfl⟩ dX12_ofReceipt_7 (fun H1 locs1 hR hz hq hS => ?_)
  refine lv_if_eq (tgt := 17) hx hb dX12_ofReceipt_10 (by decide) (fun c_10 => ?_) (fun c_10 => ?_)
  ·
    have c_10 : (0 : Int32) = (0) := c_10
    refine lv_aload_n hx hb dX12_ofReceipt_17 rfl (lv_at hl 0 rfl) ?_
    refine gf_X12_1 hx hb hown hC (RB.x hR) (zf_X12_10 hC.1) dX12_ofReceipt_18 ?_
    refine gf_X8_3 hx hb hown hC (RB.dk hR) (zf_X12_185 hC.1) dX12_ofReceipt_21 ?_
    refine lv_iload_n hx hb dX12_ofReceipt_24 rfl (lv_at hl 1 rfl) ?_
    refine rc_V (As := [.int (nI r9)]) hx hb hml hown hC hl (c_getLB l E 3 rfl hR (by decide) hr9) (rec_of hC (RB.ls hR (by decide : 3 < 4)) rfl) (zm_X12_38 hC.1) kv_Jx4a65c_get_915e3 (RB.gp hR 3 (by decide) hr9) rfl rfl (rwD_le (by decide) (by decide)) ⟨rfl, rfl⟩ (Nat.le_of_ble_eq_true rfl) ⟨Nat.zero_le _, Nat.zero_le _⟩ dX12_ofReceipt_25 ?_
    refine g_cast hx hb hown hC (RB.re hR hr9) rfl (zc_X12_188 hC.1) dX12_ofReceipt_28 ?_
    refine gf_X10_3 hx hb hown hC (RB.re hR hr9) (zf_X12_193 hC.1) dX12_ofReceipt_31 ?_
    exact wr_i hx hb hr hlocks hS ⟨hR, rfl⟩ (Nat.le_of_ble_eq_true rfl) (Nat.le_of_ble_eq_true rfl) dX12_ofReceipt_34
  · exact absurd (by decide) c_10
set_option maxRecDepth 100000 in
set_option maxHeartbeats 4000000 in
theorem c_X12_score (l : Launch) (E : EE) {S : St} {th : Int32} {g : Gh} (hI : Inv S) {c9 : Nat} (hc9 : c9 < S.nc) {r9 : Nat} (hr9 : r9 < S.nr)  : WM l E yX12_score cX12_score 3 (some .int) (wD 8 0 0) [.ref (g.ad 1 0), .int (nI c9), .int (nI r9)] (RB E S th g) (ow g) (fun _ v H => RB E (S) (0) g H ∧ v = some (.int (scA S c9 (S.ra r9) (S.rd r9) (S.rx r9)))) := by
  refine wm_of rfl (Nat.le_of_ble_eq_true rfl) (fun p e s m below meth c ls hx hb hr hml (hown : s.vm.findClass RX12 = some m.cls) hC hlocks hR hl hini => ?_)
  have hS : va_S (fun q => ow g q ∨ s.heap.size ≤ q) s.heap s.heap [] := va_S.rf
  have hl : lv_has ls 3 [(0, .ref (g.ad 1 0)), (1, .int (nI c9)), (2, .int (nI r9))] := hl
  refine lv_aload_n hx hb dX12_score_0 rfl (lv_at hl 0 rfl) ?_
  refine lv_iload_n hx hb dX12_score_1 rfl (lv_at hl 1 rfl) ?_
  refine wcw_V (As := [.int (nI c9)]) hx hb hml hown hC hl (c_X12_isNoCharge_0 l E hI hc9) (rec_of hC (RB.x hR) rfl) (zm_X12_195 hC.1) kv_X12_isNoCharge hR hS (fun q h => h.imp id (Nat.le_trans hS.1)) rfl rfl (wD_le (by decide) (by decide)) (Nat.le_of_ble_eq_true rfl) ⟨Nat.le_of_ble_eq_true rfl, Nat.le_of_ble_eq_true rfl⟩ dX12_score_2 (fun H1 locs1 hR hz hq hS => ?_)
  refine lv_if_ne (tgt := 21) hx hb dX12_score_5 (by decide) (fun c_5 => ?_) (fun c_5 => ?_)
  · exact absurd (by decide) c_5
  ·
    have c_5 : (0 : Int32) = (0) := c_5
    refine lv_aload_n hx hb dX12_score_8 rfl (lv_at hl 0 rfl) ?_
    refine lv_aload_n hx hb dX12_score_9 rfl (lv_at hl 0 rfl) ?_
    refine lv_iload_n hx hb dX12_score_10 rfl (lv_at hl 2 rfl) ?_
    refine rc_V (As := [.int (nI r9)]) hx hb hml hown hC hl (k_isNoOne_0 l E hI hr9) (rec_of hC (RB.x hR) rfl) (zm_X12_240 hC.1) kv_X12_isNoOne hR rfl rfl (rwD_le (by decide) (by decide)) ⟨rfl, rfl⟩ (Nat.le_of_ble_eq_true rfl) ⟨Nat.zero_le _, Nat.zero_le _⟩ dX12_score_11 ?_
    refine lv_iconst (v := 1) hx hb dX12_score_14 (by decide) ?_
    refine wcw_V (As := [.int (0), .int (1)]) hx hb hml hown hC hl (c_X12_refuse0 l E hI (w9 := 1)) (rec_of hC (RB.x hR) rfl) (zm_X12_20 hC.1) kv_X12_refuse hR hS (fun q h => h.imp id (Nat.le_trans hS.1)) rfl rfl (wD_le (by decide) (by decide)) (Nat.le_of_ble_eq_true rfl) ⟨Nat.le_of_ble_eq_true rfl, Nat.le_of_ble_eq_true rfl⟩ dX12_score_15 (fun H1 locs1 hR hz hq hS => ?_)
    refine lv_if_eq (tgt := 25) hx hb dX12_score_18 (by decide) (fun c_18 => ?_) (fun c_18 => ?_)
    ·
      have c_18 : (0 : Int32) = (0) := c_18
      refine lv_aload_n hx hb dX12_score_25 rfl (lv_at hl 0 rfl) ?_
      refine lv_iload_n hx hb dX12_score_26 rfl (lv_at hl 1 rfl) ?_
      refine rc_V (As := [.int (nI c9)]) hx hb hml hown hC hl (c_X12_charge_n l E (S := S) hc9) (rec_of hC (RB.x hR) rfl) (zm_X12_198 hC.1) kv_X12_charge_ hR rfl rfl (rwD_le (by decide) (by decide)) ⟨rfl, rfl⟩ (Nat.le_of_ble_eq_true rfl) ⟨Nat.zero_le _, Nat.zero_le _⟩ dX12_score_27 ?_
      refine lv_aload_n hx hb dX12_score_30 rfl (lv_at hl 0 rfl) ?_
      refine gf_X12_1 hx hb hown hC (RB.x hR) (zf_X12_10 hC.1) dX12_score_31 ?_
      refine gf_X8_3 hx hb hown hC (RB.dk hR) (zf_X12_185 hC.1) dX12_score_34 ?_
      refine lv_iload_n hx hb dX12_score_37 rfl (lv_at hl 2 rfl) ?_
      refine rc_V (As := [.int (nI r9)]) hx hb hml hown hC hl (c_getLB l E 3 rfl hR (by decide) hr9) (rec_of hC (RB.ls hR (by decide : 3 < 4)) rfl) (zm_X12_38 hC.1) kv_Jx4a65c_get_915e3 (RB.gp hR 3 (by decide) hr9) rfl rfl (rwD_le (by decide) (by decide)) ⟨rfl, rfl⟩ (Nat.le_of_ble_eq_true rfl) ⟨Nat.zero_le _, Nat.zero_le _⟩ dX12_score_38 ?_
      refine g_cast hx hb hown hC (RB.re hR hr9) rfl (zc_X12_188 hC.1) dX12_score_41 ?_
      refine rc_V (As := [.ref (g.ad 9 (r9))]) hx hb hml hown hC hl (c_X7_score l E hI hc9 (g.ad 9 (r9)) (S.ra (r9)) (S.rd (r9)) (S.rx (r9)) (irI (S.ro (r9)))) (rec_of hC (RB.ch hR hc9) rfl) (zm_X12_243 hC.1) kv_X7_score ⟨hR, (RB.re hR hr9)⟩ rfl rfl (rwD_le (by decide) (by decide)) ⟨rfl, rfl⟩ (Nat.le_of_ble_eq_true rfl) ⟨Nat.zero_le _, Nat.zero_le _⟩ dX12_score_44 ?_
      exact wr_i hx hb hr hlocks hS ⟨hR, rfl⟩ (Nat.le_of_ble_eq_true rfl) (Nat.le_of_ble_eq_true rfl) dX12_score_47
    · exact absurd (by decide) c_18
set_option maxRecDepth 100000 in
set_option maxHeartbeats 4000000 in
theorem c_X12_many (l : Launch) (E : EE) {S : St} {th : Int32} {g : Gh} (hI : Inv S) {w9 : Nat} (hw9 : w9 ≤ 12)  : WM l E yX12_many cX12_many 2 (some .int) (wD 8 0 0) [.ref (g.ad 1 0), .int (nI w9)] (RB E S th g) (ow g) (fun _ v H => RB E (S) (0) g H ∧ v = some (.int (manyA S w9))) := by
  refine wm_of rfl (Nat.le_of_ble_eq_true rfl) (fun p e s m below meth c ls hx hb hr hml (hown : s.vm.findClass RX12 = some m.cls) hC hlocks hR hl hini => ?_)
  have hS : va_S (fun q => ow g q ∨ s.heap.size ≤ q) s.heap s.heap [] := va_S.rf
  have hl : lv_has ls 2 [(0, .ref (g.ad 1 0)), (1, .int (nI w9))] := hl
  refine lv_aload_n hx hb dX12_many_0 rfl (lv_at hl 0 rfl) ?_
  refine lv_iload_n hx hb dX12_many_1 rfl (lv_at hl 1 rfl) ?_
  refine lv_iconst (v := 0) hx hb dX12_many_2 (by decide) ?_
  refine lv_bipush (v := 12) hx hb dX12_many_3 (by decide) ?_
  refine rc_S (As := [.int (nI w9), .int (0), .int (12)]) hx hb hml hown hC hl (k_isIn_1 l E (rgK_ok (n := 12) (Nat.lt_succ_of_le hw9) (by decide)).1 (rgK_ok (n := 12) (Nat.lt_succ_of_le hw9) (by decide)).2) (zm_X12_34 hC.1) kv_X12_isIn True.intro rfl rfl (rwD_le (by decide) (by decide)) ⟨rfl, rfl⟩ (Nat.le_of_ble_eq_true rfl) ⟨Nat.zero_le _, Nat.zero_le _⟩ dX12_many_5 ?_
  refine lv_if_ne (tgt := 15) hx hb dX12_many_8 (by decide) (fun c_8 => ?_) (fun c_8 => ?_)
  ·
    refine lv_iconst (v := 0) hx hb dX12_many_15 (by decide) ?_
    refine lv_iconst (v := 1) hx hb dX12_many_16 (by decide) ?_
    refine wcw_V (As := [.int (0), .int (1)]) hx hb hml hown hC hl (c_X12_start0 l E hI (w9 := 1)) (rec_of hC (RB.x hR) rfl) (zm_X12_48 hC.1) kv_X12_start hR hS (fun q h => h.imp id (Nat.le_trans hS.1)) rfl rfl (wD_le (by decide) (by decide)) (Nat.le_of_ble_eq_true rfl) ⟨Nat.le_of_ble_eq_true rfl, Nat.le_of_ble_eq_true rfl⟩ dX12_many_17 (fun H1 locs1 hR hz hq hS => ?_)
    refine lv_if_eq (tgt := 27) hx hb dX12_many_20 (by decide) (fun c_20 => ?_) (fun c_20 => ?_)
    ·
      have c_20 : (0 : Int32) = (0) := c_20
      refine lv_aload_n hx hb dX12_many_27 rfl (lv_at hl 0 rfl) ?_
      refine lv_iload_n hx hb dX12_many_28 rfl (lv_at hl 1 rfl) ?_
      refine rc_V (As := [.int (nI w9)]) hx hb hml hown hC hl (c_X12_count l E hI (w9 := w9) (by omega)) (rec_of hC (RB.x hR) rfl) (zm_X12_257 hC.1) kv_X12_count hR rfl rfl (rwD_le (by decide) (by decide)) ⟨rfl, rfl⟩ (Nat.le_of_ble_eq_true rfl) ⟨Nat.zero_le _, Nat.zero_le _⟩ dX12_many_29 ?_
      exact wr_i hx hb hr hlocks hS ⟨hR, rfl⟩ (Nat.le_of_ble_eq_true rfl) (Nat.le_of_ble_eq_true rfl) dX12_many_32
    · exact absurd (by decide) c_20
  · exact absurd c_8 (by decide)
set_option maxRecDepth 100000 in
set_option maxHeartbeats 4000000 in
theorem c_X12_trustBehind (l : Launch) (E : EE) {S : St} {th : Int32} {g : Gh} (hI : Inv S) {p9 : Nat} (hp9 : p9 < S.np) {D9 : Nat} (hD9 : D9 ≤ 30)  : WM l E yX12_trustBehind cX12_trustBehind 3 (some .int) (wD 8 1 30) [.ref (g.ad 1 0), .int (nI p9), .int (nI D9)] (RB E S th g) (ow g) (fun _ v H => RB E (S) (0) g H ∧ v = some (.int (trustA S p9 (nI D9)))) := by
  refine wm_of rfl (Nat.le_of_ble_eq_true rfl) (fun p e s m below meth c ls hx hb hr hml (hown : s.vm.findClass RX12 = some m.cls) hC hlocks hR hl hini => ?_)
  have hS : va_S (fun q => ow g q ∨ s.heap.size ≤ q) s.heap s.heap [] := va_S.rf
  have hl : lv_has ls 3 [(0, .ref (g.ad 1 0)), (1, .int (nI p9)), (2, .int (nI D9))] := hl
  refine lv_aload_n hx hb dX12_trustBehind_0 rfl (lv_at hl 0 rfl) ?_
  refine lv_aload_n hx hb dX12_trustBehind_1 rfl (lv_at hl 0 rfl) ?_
  refine lv_iload_n hx hb dX12_trustBehind_2 rfl (lv_at hl 1 rfl) ?_
  refine rc_V (As := [.int (nI p9)]) hx hb hml hown hC hl (k_isNo_0 l E hI hp9) (rec_of hC (RB.x hR) rfl) (zm_X12_44 hC.1) kv_X12_isNo hR rfl rfl (rwD_le (by decide) (by decide)) ⟨rfl, rfl⟩ (Nat.le_of_ble_eq_true rfl) ⟨Nat.zero_le _, Nat.zero_le _⟩ dX12_trustBehind_3 ?_
  refine lv_iconst (v := 1) hx hb dX12_trustBehind_6 (by decide) ?_
  refine wcw_V (As := [.int (0), .int (1)]) hx hb hml hown hC hl (c_X12_start0 l E hI (w9 := 1)) (rec_of hC (RB.x hR) rfl) (zm_X12_48 hC.1) kv_X12_start hR hS (fun q h => h.imp id (Nat.le_trans hS.1)) rfl rfl (wD_le (by decide) (by decide)) (Nat.le_of_ble_eq_true rfl) ⟨Nat.le_of_ble_eq_true rfl, Nat.le_of_ble_eq_true rfl⟩ dX12_trustBehind_7 (fun H1 locs1 hR hz hq hS => ?_)
  refine lv_if_ne (tgt := 36) hx hb dX12_trustBehind_10 (by decide) (fun c_10 => ?_) (fun c_10 => ?_)
  · exact absurd (by decide) c_10
  ·
    have c_10 : (0 : Int32) = (0) := c_10
    refine lv_aload_n hx hb dX12_trustBehind_13 rfl (lv_at hl 0 rfl) ?_
    refine lv_iload_n hx hb dX12_trustBehind_14 rfl (lv_at hl 2 rfl) ?_
    refine lv_iconst (v := 0) hx hb dX12_trustBehind_15 (by decide) ?_
    refine lv_bipush (v := 30) hx hb dX12_trustBehind_16 (by decide) ?_
    refine rc_S (As := [.int (nI D9), .int (0), .int (30)]) hx hb hml hown hC hl (k_isIn_1 l E (rgK_ok (n := 30) (Nat.lt_succ_of_le hD9) (by decide)).1 (rgK_ok (n := 30) (Nat.lt_succ_of_le hD9) (by decide)).2) (zm_X12_34 hC.1) kv_X12_isIn True.intro rfl rfl (rwD_le (by decide) (by decide)) ⟨rfl, rfl⟩ (Nat.le_of_ble_eq_true rfl) ⟨Nat.zero_le _, Nat.zero_le _⟩ dX12_trustBehind_18 ?_
    refine lv_if_ne (tgt := 28) hx hb dX12_trustBehind_21 (by decide) (fun c_21 => ?_) (fun c_21 => ?_)
    ·
      have c_21 : ¬ (1 : Int32) = (0) := c_21
      refine lv_iconst (v := 0) hx hb dX12_trustBehind_28 (by decide) ?_
      refine lv_iconst (v := 2) hx hb dX12_trustBehind_29 (by decide) ?_
      refine wcw_V (As := [.int (0), .int (2)]) hx hb hml hown hC hl (c_X12_refuse0 l E hI (w9 := 2)) (rec_of hC (RB.x hR) rfl) (zm_X12_20 hC.1) kv_X12_refuse hR hS (fun q h => h.imp id (Nat.le_trans hS.1)) rfl rfl (wD_le (by decide) (by decide)) (Nat.le_of_ble_eq_true rfl) ⟨Nat.le_of_ble_eq_true rfl, Nat.le_of_ble_eq_true rfl⟩ dX12_trustBehind_30 (fun H1 locs1 hR hz hq hS => ?_)
      refine lv_if_eq (tgt := 40) hx hb dX12_trustBehind_33 (by decide) (fun c_33 => ?_) (fun c_33 => ?_)
      ·
        have c_33 : (0 : Int32) = (0) := c_33
        refine lv_aload_n hx hb dX12_trustBehind_40 rfl (lv_at hl 0 rfl) ?_
        refine gf_X12_1 hx hb hown hC (RB.x hR) (zf_X12_10 hC.1) dX12_trustBehind_41 ?_
        refine lv_iload_n hx hb dX12_trustBehind_44 rfl (lv_at hl 1 rfl) ?_
        refine lv_iload_n hx hb dX12_trustBehind_45 rfl (lv_at hl 2 rfl) ?_
        refine wcw_V (As := [.int (nI p9), .int (nI D9)]) hx hb hml hown hC hl (c_X8_trustBehind l E hI hp9 (D9 := D9) (by omega)) (rec_of hC (RB.dk hR) rfl) (zm_X12_263 hC.1) kv_X8_trustBehind hR hS (fun q h => h.imp id (Nat.le_trans hS.1)) rfl rfl (wD_le (by decide) (by decide)) (Nat.le_of_ble_eq_true rfl) ⟨Nat.le_of_ble_eq_true rfl, Nat.le_of_ble_eq_true rfl⟩ dX12_trustBehind_46 (fun H1 locs1 hR hz hq hS => ?_)
        exact wr_i hx hb hr hlocks hS ⟨hR, rfl⟩ (Nat.le_of_ble_eq_true rfl) (Nat.le_of_ble_eq_true rfl) dX12_trustBehind_49
      · exact absurd (by decide) c_33
    · exact absurd c_21 (by decide)
set_option maxRecDepth 100000 in
set_option maxHeartbeats 4000000 in
theorem c_X12_day (l : Launch) (E : EE) {S : St} {th : Int32} {g : Gh} (hI : Inv S)  (ht : S.td < 119) : WM l E yX12_day cX12_day 1 (some .int) (wD 8 0 0) [.ref (g.ad 1 0)] (RB E S th g) (ow g) (fun _ v H => RB E (dayS S) (0) g H ∧ v = some (.int (dayR S))) := by
  refine wm_of rfl (Nat.le_of_ble_eq_true rfl) (fun p e s m below meth c ls hx hb hr hml (hown : s.vm.findClass RX12 = some m.cls) hC hlocks hR hl hini => ?_)
  have hS : va_S (fun q => ow g q ∨ s.heap.size ≤ q) s.heap s.heap [] := va_S.rf
  have hl : lv_has ls 1 [(0, .ref (g.ad 1 0))] := hl
  refine lv_aload_n hx hb dX12_day_0 rfl (lv_at hl 0 rfl) ?_
  refine lv_aload_n hx hb dX12_day_1 rfl (lv_at hl 0 rfl) ?_
  refine gf_X12_1 hx hb hown hC (RB.x hR) (zf_X12_10 hC.1) dX12_day_2 ?_
  refine gf_X8_7 hx hb hown hC (RB.dk hR) (zf_X12_170 hC.1) dX12_day_5 ?_
  refine lv_bipush (v := 119) hx hb dX12_day_8 (by decide) ?_
  refine lv_icmp_ne (tgt := 17) hx hb dX12_day_10 (by decide) (fun c_10 => ?_) (fun c_10 => ?_)
  ·
    refine lv_iconst (v := 0) hx hb dX12_day_17 (by decide) ?_
    refine lv_iconst (v := 1) hx hb dX12_day_18 (by decide) ?_
    refine wcw_V (As := [.int (0), .int (1)]) hx hb hml hown hC hl (c_X12_start0 l E hI (w9 := 1)) (rec_of hC (RB.x hR) rfl) (zm_X12_48 hC.1) kv_X12_start hR hS (fun q h => h.imp id (Nat.le_trans hS.1)) rfl rfl (wD_le (by decide) (by decide)) (Nat.le_of_ble_eq_true rfl) ⟨Nat.le_of_ble_eq_true rfl, Nat.le_of_ble_eq_true rfl⟩ dX12_day_19 (fun H1 locs1 hR hz hq hS => ?_)
    refine lv_if_eq (tgt := 29) hx hb dX12_day_22 (by decide) (fun c_22 => ?_) (fun c_22 => ?_)
    ·
      have c_22 : (0 : Int32) = (0) := c_22
      refine lv_aload_n hx hb dX12_day_29 rfl (lv_at hl 0 rfl) ?_
      refine gf_X12_1 hx hb hown hC (RB.x hR) (zf_X12_10 hC.1) dX12_day_30 ?_
      refine wcw_V (As := []) hx hb hml hown hC hl (c_X8_dayOn l E hI ht) (rec_of hC (RB.dk hR) rfl) (zm_X12_247 hC.1) kv_X8_dayOn hR hS (fun q h => h.imp id (Nat.le_trans hS.1)) rfl rfl (wD_le (by decide) (by decide)) (Nat.le_of_ble_eq_true rfl) ⟨Nat.le_of_ble_eq_true rfl, Nat.le_of_ble_eq_true rfl⟩ dX12_day_33 (fun H1 locs1 hR hz hq hS => ?_)
      exact wr_i hx hb hr hlocks hS ⟨hR, rfl⟩ (Nat.le_of_ble_eq_true rfl) (Nat.le_of_ble_eq_true rfl) dX12_day_36
    · exact absurd (by decide) c_22
  · exact absurd c_10 (fun h => absurd ((nI_eq (a := S.td) (b := 119) (by have := hI.1; omega) (by decide)).mp h) (by omega))
set_option maxRecDepth 100000 in
set_option maxHeartbeats 4000000 in
theorem c_X12_limit (l : Launch) (E : EE) {S : St} {th : Int32} {g : Gh} (hI : Inv S) {p9 : Nat} (hp9 : p9 < S.np) {k9 : Nat} (hk9 : k9 < 4) {v9 : Int32} (hv91 : ¬ v9 < 0) (hv92 : ¬ 9999 < v9)  : WM l E yX12_limit cX12_limit 5 (some .int) (wD 8 0 0) [.ref (g.ad 1 0), .int (nI p9), .int (nI k9), .int (v9)] (RB E S th g) (ow g) (fun _ v H => RB E (setT S 0 (p9 * 4 + k9) v9) (0) g H ∧ v = some (.int (S.tb 0 (p9 * 4 + k9)))) := by
  refine wm_of rfl (Nat.le_of_ble_eq_true rfl) (fun p e s m below meth c ls hx hb hr hml (hown : s.vm.findClass RX12 = some m.cls) hC hlocks hR hl hini => ?_)
  have hS : va_S (fun q => ow g q ∨ s.heap.size ≤ q) s.heap s.heap [] := va_S.rf
  have hl : lv_has ls 5 [(0, .ref (g.ad 1 0)), (1, .int (nI p9)), (2, .int (nI k9)), (3, .int (v9))] := hl
  refine lv_aload_n hx hb dX12_limit_0 rfl (lv_at hl 0 rfl) ?_
  refine lv_aload_n hx hb dX12_limit_1 rfl (lv_at hl 0 rfl) ?_
  refine lv_iload_n hx hb dX12_limit_2 rfl (lv_at hl 1 rfl) ?_
  refine rc_V (As := [.int (nI p9)]) hx hb hml hown hC hl (k_isNo_0 l E hI hp9) (rec_of hC (RB.x hR) rfl) (zm_X12_44 hC.1) kv_X12_isNo hR rfl rfl (rwD_le (by decide) (by decide)) ⟨rfl, rfl⟩ (Nat.le_of_ble_eq_true rfl) ⟨Nat.zero_le _, Nat.zero_le _⟩ dX12_limit_3 ?_
  refine lv_if_ne (tgt := 16) hx hb dX12_limit_6 (by decide) (fun c_6 => ?_) (fun c_6 => ?_)
  · exact absurd (by decide) c_6
  ·
    refine lv_iload_n hx hb dX12_limit_9 rfl (lv_at hl 2 rfl) ?_
    refine rc_S (As := [.int (nI k9)]) hx hb hml hown hC hl (k_isNoKind_0 l E hk9) (zm_X12_62 hC.1) kv_X12_isNoKind True.intro rfl rfl (rwD_le (by decide) (by decide)) ⟨rfl, rfl⟩ (Nat.le_of_ble_eq_true rfl) ⟨Nat.zero_le _, Nat.zero_le _⟩ dX12_limit_10 ?_
    refine lv_if_eq (tgt := 20) hx hb dX12_limit_13 (by decide) (fun c_13 => ?_) (fun c_13 => ?_)
    ·
      refine lv_iconst (v := 0) hx hb dX12_limit_20 (by decide) ?_
      refine lv_iconst (v := 1) hx hb dX12_limit_21 (by decide) ?_
      refine wcw_V (As := [.int (0), .int (1)]) hx hb hml hown hC hl (c_X12_start0 l E hI (w9 := 1)) (rec_of hC (RB.x hR) rfl) (zm_X12_48 hC.1) kv_X12_start hR hS (fun q h => h.imp id (Nat.le_trans hS.1)) rfl rfl (wD_le (by decide) (by decide)) (Nat.le_of_ble_eq_true rfl) ⟨Nat.le_of_ble_eq_true rfl, Nat.le_of_ble_eq_true rfl⟩ dX12_limit_22 (fun H1 locs1 hR hz hq hS => ?_)
      refine lv_if_ne (tgt := 52) hx hb dX12_limit_25 (by decide) (fun c_25 => ?_) (fun c_25 => ?_)
      · exact absurd (by decide) c_25
      ·
        have c_25 : (0 : Int32) = (0) := c_25
        refine lv_aload_n hx hb dX12_limit_28 rfl (lv_at hl 0 rfl) ?_
        refine lv_iload_n hx hb dX12_limit_29 rfl (lv_at hl 3 rfl) ?_
        refine lv_iconst (v := 0) hx hb dX12_limit_30 (by decide) ?_
        refine lv_sipush (v := 9999) hx hb dX12_limit_31 (by decide) ?_
        refine rc_S (As := [.int (v9), .int (0), .int (9999)]) hx hb hml hown hC hl (k_isIn_1 l E hv91 hv92) (zm_X12_34 hC.1) kv_X12_isIn True.intro rfl rfl (rwD_le (by decide) (by decide)) ⟨rfl, rfl⟩ (Nat.le_of_ble_eq_true rfl) ⟨Nat.zero_le _, Nat.zero_le _⟩ dX12_limit_34 ?_
        refine lv_if_ne (tgt := 44) hx hb dX12_limit_37 (by decide) (fun c_37 => ?_) (fun c_37 => ?_)
        ·
          have c_37 : ¬ (1 : Int32) = (0) := c_37
          refine lv_iconst (v := 0) hx hb dX12_limit_44 (by decide) ?_
          refine lv_iconst (v := 2) hx hb dX12_limit_45 (by decide) ?_
          refine wcw_V (As := [.int (0), .int (2)]) hx hb hml hown hC hl (c_X12_refuse0 l E hI (w9 := 2)) (rec_of hC (RB.x hR) rfl) (zm_X12_20 hC.1) kv_X12_refuse hR hS (fun q h => h.imp id (Nat.le_trans hS.1)) rfl rfl (wD_le (by decide) (by decide)) (Nat.le_of_ble_eq_true rfl) ⟨Nat.le_of_ble_eq_true rfl, Nat.le_of_ble_eq_true rfl⟩ dX12_limit_46 (fun H1 locs1 hR hz hq hS => ?_)
          refine lv_if_eq (tgt := 54) hx hb dX12_limit_49 (by decide) (fun c_49 => ?_) (fun c_49 => ?_)
          ·
            have c_49 : (0 : Int32) = (0) := c_49
            refine lv_aload_n hx hb dX12_limit_54 rfl (lv_at hl 0 rfl) ?_
            refine lv_iload_n hx hb dX12_limit_55 rfl (lv_at hl 1 rfl) ?_
            refine rc_V (As := [.int (nI p9)]) hx hb hml hown hC hl (c_X12_of_n l E (S := S) hp9) (rec_of hC (RB.x hR) rfl) (zm_X12_51 hC.1) kv_X12_of hR rfl rfl (rwD_le (by decide) (by decide)) ⟨rfl, rfl⟩ (Nat.le_of_ble_eq_true rfl) ⟨Nat.zero_le _, Nat.zero_le _⟩ dX12_limit_56 ?_
            refine gf_X9_4 hx hb hown hC (RB.pe hR hp9) (zf_X12_65 hC.1) dX12_limit_59 ?_
            refine lv_iload_n hx hb dX12_limit_62 rfl (lv_at hl 2 rfl) ?_
            refine g_iald hx hb hC (RB.li hR hp9) ⟨rfl, hk9, by decide⟩ dX12_limit_63 ?_
            refine lv_istore (lv' := [(4, .int ((lmB S (p9)) (k9))), (0, .ref (g.ad 1 0)), (1, .int (nI p9)), (2, .int (nI k9)), (3, .int (v9))]) hx hb dX12_limit_64 hl (by decide) rfl (fun ls hl => ?_)
            refine lv_aload_n hx hb dX12_limit_66 rfl (lv_at hl 1 rfl) ?_
            refine lv_iload_n hx hb dX12_limit_67 rfl (lv_at hl 2 rfl) ?_
            refine rc_V (As := [.int (nI p9)]) hx hb hml hown hC hl (c_X12_of_n l E (S := S) hp9) (rec_of hC (RB.x hR) rfl) (zm_X12_51 hC.1) kv_X12_of hR rfl rfl (rwD_le (by decide) (by decide)) ⟨rfl, rfl⟩ (Nat.le_of_ble_eq_true rfl) ⟨Nat.zero_le _, Nat.zero_le _⟩ dX12_limit_68 ?_
            refine gf_X9_4 hx hb hown hC (RB.pe hR hp9) (zf_X12_65 hC.1) dX12_limit_71 ?_
            refine lv_iload_n hx hb dX12_limit_74 rfl (lv_at hl 3 rfl) ?_
            refine lv_iload_n hx hb dX12_limit_75 rfl (lv_at hl 4 rfl) ?_
            refine g_iast (j := k9) hx hb hC (RB.li hR hp9) hS (Or.inl (RB.ow hR (k := 13) hp9)) ⟨rfl, hk9, by decide⟩ dX12_limit_76 (fun H1 locs1 hat hz hq hS => ?_)
            have hR : RB E (setT S 0 (p9 * 4 + k9) v9) 0 g H1 := RB.t_0 hR hp9 hk9 hat hq
            refine lv_iload hx hb dX12_limit_77 (lv_at hl 0 rfl) ?_
            exact wr_i hx hb hr hlocks hS ⟨hR, congrArg (fun v => some (Value.int v)) (show lmB S p9 k9 = _ from if_pos hk9)⟩ (Nat.le_of_ble_eq_true rfl) (Nat.le_of_ble_eq_true rfl) dX12_limit_79
          · exact absurd (by decide) c_49
        · exact absurd c_37 (by decide)
    · exact absurd (by decide) c_13
set_option maxRecDepth 100000 in
set_option maxHeartbeats 4000000 in
theorem c_X12_plan (l : Launch) (E : EE) {S : St} {th : Int32} {g : Gh} (hI : Inv S) {k9 : Nat} (hk9 : k9 < 4) {y9 : Nat} (hy9 : y9 < 4) {v9 : Int32} (hv91 : ¬ v9 < 0) (hv92 : ¬ 99999 < v9)  : WM l E yX12_plan cX12_plan 5 (some .int) (wD 8 0 0) [.ref (g.ad 1 0), .int (nI k9), .int (nI y9), .int (v9)] (RB E S th g) (ow g) (fun _ v H => RB E (setT S 1 (k9 * 4 + y9) v9) (0) g H ∧ v = some (.int (S.tb 1 (k9 * 4 + y9)))) := by
  refine wm_of rfl (Nat.le_of_ble_eq_true rfl) (fun p e s m below meth c ls hx hb hr hml (hown : s.vm.findClass RX12 = some m.cls) hC hlocks hR hl hini => ?_)
  have hS : va_S (fun q => ow g q ∨ s.heap.size ≤ q) s.heap s.heap [] := va_S.rf
  have hl : lv_has ls 5 [(0, .ref (g.ad 1 0)), (1, .int (nI k9)), (2, .int (nI y9)), (3, .int (v9))] := hl
  refine lv_aload_n hx hb dX12_plan_0 rfl (lv_at hl 0 rfl) ?_
  refine lv_iload_n hx hb dX12_plan_1 rfl (lv_at hl 1 rfl) ?_
  refine lv_iload_n hx hb dX12_plan_2 rfl (lv_at hl 2 rfl) ?_
  refine wcw_V (As := [.int (nI k9), .int (nI y9)]) hx hb hml hown hC hl (c_X12_isNoBudget_0 l E hI hk9 hy9) (rec_of hC (RB.x hR) rfl) (zm_X12_148 hC.1) kv_X12_isNoBudget hR hS (fun q h => h.imp id (Nat.le_trans hS.1)) rfl rfl (wD_le (by decide) (by decide)) (Nat.le_of_ble_eq_true rfl) ⟨Nat.le_of_ble_eq_true rfl, Nat.le_of_ble_eq_true rfl⟩ dX12_plan_3 (fun H1 locs1 hR hz hq hS => ?_)
  refine lv_if_ne (tgt := 32) hx hb dX12_plan_6 (by decide) (fun c_6 => ?_) (fun c_6 => ?_)
  · exact absurd (by decide) c_6
  ·
    have c_6 : (0 : Int32) = (0) := c_6
    refine lv_aload_n hx hb dX12_plan_9 rfl (lv_at hl 0 rfl) ?_
    refine lv_iload_n hx hb dX12_plan_10 rfl (lv_at hl 3 rfl) ?_
    refine lv_iconst (v := 0) hx hb dX12_plan_11 (by decide) ?_
    refine lv_ldc hx hb hown (zC_X12_152 hC.1) dX12_plan_12 ?_
    refine rc_S (As := [.int (v9), .int (0), .int (99999)]) hx hb hml hown hC hl (k_isIn_1 l E hv91 hv92) (zm_X12_34 hC.1) kv_X12_isIn True.intro rfl rfl (rwD_le (by decide) (by decide)) ⟨rfl, rfl⟩ (Nat.le_of_ble_eq_true rfl) ⟨Nat.zero_le _, Nat.zero_le _⟩ dX12_plan_14 ?_
    refine lv_if_ne (tgt := 24) hx hb dX12_plan_17 (by decide) (fun c_17 => ?_) (fun c_17 => ?_)
    ·
      have c_17 : ¬ (1 : Int32) = (0) := c_17
      refine lv_iconst (v := 0) hx hb dX12_plan_24 (by decide) ?_
      refine lv_iconst (v := 2) hx hb dX12_plan_25 (by decide) ?_
      refine wcw_V (As := [.int (0), .int (2)]) hx hb hml hown hC hl (c_X12_refuse0 l E hI (w9 := 2)) (rec_of hC (RB.x hR) rfl) (zm_X12_20 hC.1) kv_X12_refuse hR hS (fun q h => h.imp id (Nat.le_trans hS.1)) rfl rfl (wD_le (by decide) (by decide)) (Nat.le_of_ble_eq_true rfl) ⟨Nat.le_of_ble_eq_true rfl, Nat.le_of_ble_eq_true rfl⟩ dX12_plan_26 (fun H1 locs1 hR hz hq hS => ?_)
      refine lv_if_eq (tgt := 34) hx hb dX12_plan_29 (by decide) (fun c_29 => ?_) (fun c_29 => ?_)
      ·
        have c_29 : (0 : Int32) = (0) := c_29
        refine lv_aload_n hx hb dX12_plan_34 rfl (lv_at hl 0 rfl) ?_
        refine gf_X12_1 hx hb hown hC (RB.x hR) (zf_X12_10 hC.1) dX12_plan_35 ?_
        refine gf_X8_4 hx hb hown hC (RB.dk hR) (zf_X12_153 hC.1) dX12_plan_38 ?_
        refine lv_iload_n hx hb dX12_plan_41 rfl (lv_at hl 1 rfl) ?_
        refine g_rald hx hb hC (RB.pl hR) ⟨rfl, hk9, by decide⟩ (if_pos hk9) dX12_plan_42 ?_
        refine lv_iload_n hx hb dX12_plan_43 rfl (lv_at hl 2 rfl) ?_
        refine g_iald hx hb hC (RB.plr hR hk9) ⟨rfl, hy9, by decide⟩ dX12_plan_44 ?_
        refine lv_istore (lv' := [(4, .int ((plB S (k9)) (y9))), (0, .ref (g.ad 1 0)), (1, .int (nI k9)), (2, .int (nI y9)), (3, .int (v9))]) hx hb dX12_plan_45 hl (by decide) rfl (fun ls hl => ?_)
        refine lv_aload_n hx hb dX12_plan_47 rfl (lv_at hl 1 rfl) ?_
        refine gf_X12_1 hx hb hown hC (RB.x hR) (zf_X12_10 hC.1) dX12_plan_48 ?_
        refine gf_X8_4 hx hb hown hC (RB.dk hR) (zf_X12_153 hC.1) dX12_plan_51 ?_
        refine lv_iload_n hx hb dX12_plan_54 rfl (lv_at hl 2 rfl) ?_
        refine g_rald hx hb hC (RB.pl hR) ⟨rfl, hk9, by decide⟩ (if_pos hk9) dX12_plan_55 ?_
        refine lv_iload_n hx hb dX12_plan_56 rfl (lv_at hl 3 rfl) ?_
        refine lv_iload_n hx hb dX12_plan_57 rfl (lv_at hl 4 rfl) ?_
        refine g_iast (j := y9) hx hb hC (RB.plr hR hk9) hS (Or.inl (RB.ow hR (k := 10) hk9)) ⟨rfl, hy9, by decide⟩ dX12_plan_58 (fun H1 locs1 hat hz hq hS => ?_)
        have hR : RB E (setT S 1 (k9 * 4 + y9) v9) 0 g H1 := RB.t_1 hR hk9 hy9 hat hq
        refine lv_iload hx hb dX12_plan_59 (lv_at hl 0 rfl) ?_
        exact wr_i hx hb hr hlocks hS ⟨hR, congrArg (fun v => some (Value.int v)) (plB_e hy9)⟩ (Nat.le_of_ble_eq_true rfl) (Nat.le_of_ble_eq_true rfl) dX12_plan_61
      · exact absurd (by decide) c_29
    · exact absurd c_17 (by decide)
set_option maxRecDepth 100000 in
set_option maxHeartbeats 4000000 in
theorem c_X12_carry (l : Launch) (E : EE) {S : St} {th : Int32} {g : Gh} (hI : Inv S) {k9 : Nat} (hk9 : k9 < 4) {v9 : Int32} (hv91 : ¬ v9 < 0) (hv92 : ¬ 100 < v9)  : WM l E yX12_carry cX12_carry 4 (some .int) (wD 8 0 0) [.ref (g.ad 1 0), .int (nI k9), .int (v9)] (RB E S th g) (ow g) (fun _ v H => RB E (setT S 2 (k9 * 1 + 0) v9) (0) g H ∧ v = some (.int (S.tb 2 (k9 * 1 + 0)))) := by
  refine wm_of rfl (Nat.le_of_ble_eq_true rfl) (fun p e s m below meth c ls hx hb hr hml (hown : s.vm.findClass RX12 = some m.cls) hC hlocks hR hl hini => ?_)
  have hS : va_S (fun q => ow g q ∨ s.heap.size ≤ q) s.heap s.heap [] := va_S.rf
  have hl : lv_has ls 4 [(0, .ref (g.ad 1 0)), (1, .int (nI k9)), (2, .int (v9))] := hl
  refine lv_aload_n hx hb dX12_carry_0 rfl (lv_at hl 0 rfl) ?_
  refine lv_iload_n hx hb dX12_carry_1 rfl (lv_at hl 1 rfl) ?_
  refine rc_S (As := [.int (nI k9)]) hx hb hml hown hC hl (k_isNoKind_0 l E hk9) (zm_X12_62 hC.1) kv_X12_isNoKind True.intro rfl rfl (rwD_le (by decide) (by decide)) ⟨rfl, rfl⟩ (Nat.le_of_ble_eq_true rfl) ⟨Nat.zero_le _, Nat.zero_le _⟩ dX12_carry_2 ?_
  refine lv_iconst (v := 1) hx hb dX12_carry_5 (by decide) ?_
  refine wcw_V (As := [.int (0), .int (1)]) hx hb hml hown hC hl (c_X12_start0 l E hI (w9 := 1)) (rec_of hC (RB.x hR) rfl) (zm_X12_48 hC.1) kv_X12_start hR hS (fun q h => h.imp id (Nat.le_trans hS.1)) rfl rfl (wD_le (by decide) (by decide)) (Nat.le_of_ble_eq_true rfl) ⟨Nat.le_of_ble_eq_true rfl, Nat.le_of_ble_eq_true rfl⟩ dX12_carry_6 (fun H1 locs1 hR hz hq hS => ?_)
  refine lv_if_ne (tgt := 35) hx hb dX12_carry_9 (by decide) (fun c_9 => ?_) (fun c_9 => ?_)
  · exact absurd (by decide) c_9
  ·
    have c_9 : (0 : Int32) = (0) := c_9
    refine lv_aload_n hx hb dX12_carry_12 rfl (lv_at hl 0 rfl) ?_
    refine lv_iload_n hx hb dX12_carry_13 rfl (lv_at hl 2 rfl) ?_
    refine lv_iconst (v := 0) hx hb dX12_carry_14 (by decide) ?_
    refine lv_bipush (v := 100) hx hb dX12_carry_15 (by decide) ?_
    refine rc_S (As := [.int (v9), .int (0), .int (100)]) hx hb hml hown hC hl (k_isIn_1 l E hv91 hv92) (zm_X12_34 hC.1) kv_X12_isIn True.intro rfl rfl (rwD_le (by decide) (by decide)) ⟨rfl, rfl⟩ (Nat.le_of_ble_eq_true rfl) ⟨Nat.zero_le _, Nat.zero_le _⟩ dX12_carry_17 ?_
    refine lv_if_ne (tgt := 27) hx hb dX12_carry_20 (by decide) (fun c_20 => ?_) (fun c_20 => ?_)
    ·
      have c_20 : ¬ (1 : Int32) = (0) := c_20
      refine lv_iconst (v := 0) hx hb dX12_carry_27 (by decide) ?_
      refine lv_iconst (v := 2) hx hb dX12_carry_28 (by decide) ?_
      refine wcw_V (As := [.int (0), .int (2)]) hx hb hml hown hC hl (c_X12_refuse0 l E hI (w9 := 2)) (rec_of hC (RB.x hR) rfl) (zm_X12_20 hC.1) kv_X12_refuse hR hS (fun q h => h.imp id (Nat.le_trans hS.1)) rfl rfl (wD_le (by decide) (by decide)) (Nat.le_of_ble_eq_true rfl) ⟨Nat.le_of_ble_eq_true rfl, Nat.le_of_ble_eq_true rfl⟩ dX12_carry_29 (fun H1 locs1 hR hz hq hS => ?_)
      refine lv_if_eq (tgt := 37) hx hb dX12_carry_32 (by decide) (fun c_32 => ?_) (fun c_32 => ?_)
      ·
        have c_32 : (0 : Int32) = (0) := c_32
        refine lv_aload_n hx hb dX12_carry_37 rfl (lv_at hl 0 rfl) ?_
        refine gf_X12_1 hx hb hown hC (RB.x hR) (zf_X12_10 hC.1) dX12_carry_38 ?_
        refine gf_X8_5 hx hb hown hC (RB.dk hR) (zf_X12_157 hC.1) dX12_carry_41 ?_
        refine lv_iload_n hx hb dX12_carry_44 rfl (lv_at hl 1 rfl) ?_
        refine g_iald hx hb hC (RB.ca hR) ⟨rfl, hk9, by decide⟩ dX12_carry_45 ?_
        refine lv_istore_n (lv' := [(3, .int ((caB S) (k9))), (0, .ref (g.ad 1 0)), (1, .int (nI k9)), (2, .int (v9))]) hx hb dX12_carry_46 rfl hl (by decide) rfl (fun ls hl => ?_)
        refine lv_aload_n hx hb dX12_carry_47 rfl (lv_at hl 1 rfl) ?_
        refine gf_X12_1 hx hb hown hC (RB.x hR) (zf_X12_10 hC.1) dX12_carry_48 ?_
        refine gf_X8_5 hx hb hown hC (RB.dk hR) (zf_X12_157 hC.1) dX12_carry_51 ?_
        refine lv_iload_n hx hb dX12_carry_54 rfl (lv_at hl 2 rfl) ?_
        refine lv_iload_n hx hb dX12_carry_55 rfl (lv_at hl 3 rfl) ?_
        refine g_iast (j := k9) hx hb hC (RB.ca hR) hS (Or.inl (RB.ow hR (k := 5) (i := 0) rfl)) ⟨rfl, hk9, by decide⟩ dX12_carry_56 (fun H1 locs1 hat hz hq hS => ?_)
        have hR : RB E (setT S 2 (k9 * 1 + 0) v9) 0 g H1 := RB.t_2 hR hk9 hat hq
        refine lv_iload_n hx hb dX12_carry_57 rfl (lv_at hl 0 rfl) ?_
        exact wr_i hx hb hr hlocks hS ⟨hR, congrArg (fun v => some (Value.int v)) (caB_e hk9)⟩ (Nat.le_of_ble_eq_true rfl) (Nat.le_of_ble_eq_true rfl) dX12_carry_58
      · exact absurd (by decide) c_32
    · exact absurd c_20 (by decide)
set_option maxRecDepth 100000 in
set_option maxHeartbeats 4000000 in
theorem c_X12_rate (l : Launch) (E : EE) {S : St} {th : Int32} {g : Gh} (hI : Inv S) {l9 : Nat} (hl9 : l9 < 3) {k9 : Nat} (hk9 : k9 < 4) {v9 : Int32} (hv91 : ¬ v9 < 0) (hv92 : ¬ 30 < v9)  : WM l E yX12_rate cX12_rate 5 (some .int) (wD 8 0 0) [.ref (g.ad 1 0), .int (nI l9), .int (nI k9), .int (v9)] (RB E S th g) (ow g) (fun _ v H => RB E (setT S 3 (l9 * 4 + k9) v9) (0) g H ∧ v = some (.int (S.tb 3 (l9 * 4 + k9)))) := by
  refine wm_of rfl (Nat.le_of_ble_eq_true rfl) (fun p e s m below meth c ls hx hb hr hml (hown : s.vm.findClass RX12 = some m.cls) hC hlocks hR hl hini => ?_)
  have hS : va_S (fun q => ow g q ∨ s.heap.size ≤ q) s.heap s.heap [] := va_S.rf
  have hl : lv_has ls 5 [(0, .ref (g.ad 1 0)), (1, .int (nI l9)), (2, .int (nI k9)), (3, .int (v9))] := hl
  refine lv_aload_n hx hb dX12_rate_0 rfl (lv_at hl 0 rfl) ?_
  refine lv_iload_n hx hb dX12_rate_1 rfl (lv_at hl 1 rfl) ?_
  refine rc_S (As := [.int (nI l9)]) hx hb hml hown hC hl (k_isNoLand_0 l E hl9) (zm_X12_84 hC.1) kv_X12_isNoLand True.intro rfl rfl (rwD_le (by decide) (by decide)) ⟨rfl, rfl⟩ (Nat.le_of_ble_eq_true rfl) ⟨Nat.zero_le _, Nat.zero_le _⟩ dX12_rate_2 ?_
  refine lv_if_ne (tgt := 15) hx hb dX12_rate_5 (by decide) (fun c_5 => ?_) (fun c_5 => ?_)
  · exact absurd (by decide) c_5
  ·
    refine lv_iload_n hx hb dX12_rate_8 rfl (lv_at hl 2 rfl) ?_
    refine rc_S (As := [.int (nI k9)]) hx hb hml hown hC hl (k_isNoKind_0 l E hk9) (zm_X12_62 hC.1) kv_X12_isNoKind True.intro rfl rfl (rwD_le (by decide) (by decide)) ⟨rfl, rfl⟩ (Nat.le_of_ble_eq_true rfl) ⟨Nat.zero_le _, Nat.zero_le _⟩ dX12_rate_9 ?_
    refine lv_if_eq (tgt := 19) hx hb dX12_rate_12 (by decide) (fun c_12 => ?_) (fun c_12 => ?_)
    ·
      refine lv_iconst (v := 0) hx hb dX12_rate_19 (by decide) ?_
      refine lv_iconst (v := 1) hx hb dX12_rate_20 (by decide) ?_
      refine wcw_V (As := [.int (0), .int (1)]) hx hb hml hown hC hl (c_X12_start0 l E hI (w9 := 1)) (rec_of hC (RB.x hR) rfl) (zm_X12_48 hC.1) kv_X12_start hR hS (fun q h => h.imp id (Nat.le_trans hS.1)) rfl rfl (wD_le (by decide) (by decide)) (Nat.le_of_ble_eq_true rfl) ⟨Nat.le_of_ble_eq_true rfl, Nat.le_of_ble_eq_true rfl⟩ dX12_rate_21 (fun H1 locs1 hR hz hq hS => ?_)
      refine lv_if_ne (tgt := 50) hx hb dX12_rate_24 (by decide) (fun c_24 => ?_) (fun c_24 => ?_)
      · exact absurd (by decide) c_24
      ·
        have c_24 : (0 : Int32) = (0) := c_24
        refine lv_aload_n hx hb dX12_rate_27 rfl (lv_at hl 0 rfl) ?_
        refine lv_iload_n hx hb dX12_rate_28 rfl (lv_at hl 3 rfl) ?_
        refine lv_iconst (v := 0) hx hb dX12_rate_29 (by decide) ?_
        refine lv_bipush (v := 30) hx hb dX12_rate_30 (by decide) ?_
        refine rc_S (As := [.int (v9), .int (0), .int (30)]) hx hb hml hown hC hl (k_isIn_1 l E hv91 hv92) (zm_X12_34 hC.1) kv_X12_isIn True.intro rfl rfl (rwD_le (by decide) (by decide)) ⟨rfl, rfl⟩ (Nat.le_of_ble_eq_true rfl) ⟨Nat.zero_le _, Nat.zero_le _⟩ dX12_rate_32 ?_
        refine lv_if_ne (tgt := 42) hx hb dX12_rate_35 (by decide) (fun c_35 => ?_) (fun c_35 => ?_)
        ·
          have c_35 : ¬ (1 : Int32) = (0) := c_35
          refine lv_iconst (v := 0) hx hb dX12_rate_42 (by decide) ?_
          refine lv_iconst (v := 2) hx hb dX12_rate_43 (by decide) ?_
          refine wcw_V (As := [.int (0), .int (2)]) hx hb hml hown hC hl (c_X12_refuse0 l E hI (w9 := 2)) (rec_of hC (RB.x hR) rfl) (zm_X12_20 hC.1) kv_X12_refuse hR hS (fun q h => h.imp id (Nat.le_trans hS.1)) rfl rfl (wD_le (by decide) (by decide)) (Nat.le_of_ble_eq_true rfl) ⟨Nat.le_of_ble_eq_true rfl, Nat.le_of_ble_eq_true rfl⟩ dX12_rate_44 (fun H1 locs1 hR hz hq hS => ?_)
          refine lv_if_eq (tgt := 52) hx hb dX12_rate_47 (by decide) (fun c_47 => ?_) (fun c_47 => ?_)
          ·
            have c_47 : (0 : Int32) = (0) := c_47
            refine lv_aload_n hx hb dX12_rate_52 rfl (lv_at hl 0 rfl) ?_
            refine gf_X12_1 hx hb hown hC (RB.x hR) (zf_X12_10 hC.1) dX12_rate_53 ?_
            refine gf_X8_6 hx hb hown hC (RB.dk hR) (zf_X12_160 hC.1) dX12_rate_56 ?_
            refine lv_iload_n hx hb dX12_rate_59 rfl (lv_at hl 1 rfl) ?_
            refine g_rald hx hb hC (RB.rt hR) ⟨rfl, hl9, by decide⟩ (if_pos hl9) dX12_rate_60 ?_
            refine lv_iload_n hx hb dX12_rate_61 rfl (lv_at hl 2 rfl) ?_
            refine g_iald hx hb hC (RB.rtr hR hl9) ⟨rfl, hk9, by decide⟩ dX12_rate_62 ?_
            refine lv_istore (lv' := [(4, .int ((rtB S (l9)) (k9))), (0, .ref (g.ad 1 0)), (1, .int (nI l9)), (2, .int (nI k9)), (3, .int (v9))]) hx hb dX12_rate_63 hl (by decide) rfl (fun ls hl => ?_)
            refine lv_aload_n hx hb dX12_rate_65 rfl (lv_at hl 1 rfl) ?_
            refine gf_X12_1 hx hb hown hC (RB.x hR) (zf_X12_10 hC.1) dX12_rate_66 ?_
            refine gf_X8_6 hx hb hown hC (RB.dk hR) (zf_X12_160 hC.1) dX12_rate_69 ?_
            refine lv_iload_n hx hb dX12_rate_72 rfl (lv_at hl 2 rfl) ?_
            refine g_rald hx hb hC (RB.rt hR) ⟨rfl, hl9, by decide⟩ (if_pos hl9) dX12_rate_73 ?_
            refine lv_iload_n hx hb dX12_rate_74 rfl (lv_at hl 3 rfl) ?_
            refine lv_iload_n hx hb dX12_rate_75 rfl (lv_at hl 4 rfl) ?_
            refine g_iast (j := k9) hx hb hC (RB.rtr hR hl9) hS (Or.inl (RB.ow hR (k := 11) hl9)) ⟨rfl, hk9, by decide⟩ dX12_rate_76 (fun H1 locs1 hat hz hq hS => ?_)
            have hR : RB E (setT S 3 (l9 * 4 + k9) v9) 0 g H1 := RB.t_3 hR hl9 hk9 hat hq
            refine lv_iload hx hb dX12_rate_77 (lv_at hl 0 rfl) ?_
            exact wr_i hx hb hr hlocks hS ⟨hR, congrArg (fun v => some (Value.int v)) (show rtB S l9 k9 = _ from if_pos hk9)⟩ (Nat.le_of_ble_eq_true rfl) (Nat.le_of_ble_eq_true rfl) dX12_rate_79
          · exact absurd (by decide) c_47
        · exact absurd c_35 (by decide)
    · exact absurd (by decide) c_12
set_option maxRecDepth 100000 in
set_option maxHeartbeats 4000000 in
theorem c_X12_away (l : Launch) (E : EE) {S : St} {th : Int32} {g : Gh} (hI : Inv S) {p9 : Nat} (hp9 : p9 < S.np) {v9 : Int32} (hv91 : ¬ v9 < 0) (hv92 : ¬ 119 < v9) {o9 : Nat} (ho9 : o9 < S.np) (hne : ¬ o9 = p9) : WM l E yX12_away cX12_away 5 (some .boolean) (wD 8 0 0) [.ref (g.ad 1 0), .int (nI p9), .int (v9), .int (nI o9)] (RB E S th g) (ow g) (fun _ v H => RB E (awayS S p9 v9 o9) (0) g H ∧ v = some (.int (awayA S p9 (nI S.td)))) := by
  refine wm_of rfl (Nat.le_of_ble_eq_true rfl) (fun p e s m below meth c ls hx hb hr hml (hown : s.vm.findClass RX12 = some m.cls) hC hlocks hR hl hini => ?_)
  have hS : va_S (fun q => ow g q ∨ s.heap.size ≤ q) s.heap s.heap [] := va_S.rf
  have hl : lv_has ls 5 [(0, .ref (g.ad 1 0)), (1, .int (nI p9)), (2, .int (v9)), (3, .int (nI o9))] := hl
  refine lv_aload_n hx hb dX12_away_0 rfl (lv_at hl 0 rfl) ?_
  refine lv_aload_n hx hb dX12_away_1 rfl (lv_at hl 0 rfl) ?_
  refine lv_iload_n hx hb dX12_away_2 rfl (lv_at hl 1 rfl) ?_
  refine rc_V (As := [.int (nI p9)]) hx hb hml hown hC hl (k_isNo_0 l E hI hp9) (rec_of hC (RB.x hR) rfl) (zm_X12_44 hC.1) kv_X12_isNo hR rfl rfl (rwD_le (by decide) (by decide)) ⟨rfl, rfl⟩ (Nat.le_of_ble_eq_true rfl) ⟨Nat.zero_le _, Nat.zero_le _⟩ dX12_away_3 ?_
  refine lv_if_ne (tgt := 17) hx hb dX12_away_6 (by decide) (fun c_6 => ?_) (fun c_6 => ?_)
  · exact absurd (by decide) c_6
  ·
    refine lv_aload_n hx hb dX12_away_9 rfl (lv_at hl 0 rfl) ?_
    refine lv_iload_n hx hb dX12_away_10 rfl (lv_at hl 3 rfl) ?_
    refine rc_V (As := [.int (nI o9)]) hx hb hml hown hC hl (k_isNo_0 l E hI ho9) (rec_of hC (RB.x hR) rfl) (zm_X12_44 hC.1) kv_X12_isNo hR rfl rfl (rwD_le (by decide) (by decide)) ⟨rfl, rfl⟩ (Nat.le_of_ble_eq_true rfl) ⟨Nat.zero_le _, Nat.zero_le _⟩ dX12_away_11 ?_
    refine lv_if_eq (tgt := 21) hx hb dX12_away_14 (by decide) (fun c_14 => ?_) (fun c_14 => ?_)
    ·
      refine lv_iconst (v := 0) hx hb dX12_away_21 (by decide) ?_
      refine lv_iconst (v := 1) hx hb dX12_away_22 (by decide) ?_
      refine wcw_V (As := [.int (0), .int (1)]) hx hb hml hown hC hl (c_X12_start0 l E hI (w9 := 1)) (rec_of hC (RB.x hR) rfl) (zm_X12_48 hC.1) kv_X12_start hR hS (fun q h => h.imp id (Nat.le_trans hS.1)) rfl rfl (wD_le (by decide) (by decide)) (Nat.le_of_ble_eq_true rfl) ⟨Nat.le_of_ble_eq_true rfl, Nat.le_of_ble_eq_true rfl⟩ dX12_away_23 (fun H1 locs1 hR hz hq hS => ?_)
      refine lv_if_ne (tgt := 54) hx hb dX12_away_26 (by decide) (fun c_26 => ?_) (fun c_26 => ?_)
      · exact absurd (by decide) c_26
      ·
        have c_26 : (0 : Int32) = (0) := c_26
        refine lv_aload_n hx hb dX12_away_29 rfl (lv_at hl 0 rfl) ?_
        refine lv_iload_n hx hb dX12_away_30 rfl (lv_at hl 2 rfl) ?_
        refine rc_S (As := [.int (v9)]) hx hb hml hown hC hl (k_isNoDay_0 l E hv91 hv92) (zm_X12_69 hC.1) kv_X12_isNoDay True.intro rfl rfl (rwD_le (by decide) (by decide)) ⟨rfl, rfl⟩ (Nat.le_of_ble_eq_true rfl) ⟨Nat.zero_le _, Nat.zero_le _⟩ dX12_away_31 ?_
        refine lv_if_ne (tgt := 42) hx hb dX12_away_34 (by decide) (fun c_34 => ?_) (fun c_34 => ?_)
        · exact absurd (by decide) c_34
        ·
          have c_34 : (0 : Int32) = (0) := c_34
          refine lv_iload_n hx hb dX12_away_37 rfl (lv_at hl 3 rfl) ?_
          refine lv_iload_n hx hb dX12_away_38 rfl (lv_at hl 1 rfl) ?_
          refine lv_icmp_ne (tgt := 46) hx hb dX12_away_39 (by decide) (fun c_39 => ?_) (fun c_39 => ?_)
          ·
            have c_39 : ¬ (nI o9 : Int32) = (nI p9) := c_39
            refine lv_iconst (v := 0) hx hb dX12_away_46 (by decide) ?_
            refine lv_iconst (v := 2) hx hb dX12_away_47 (by decide) ?_
            refine wcw_V (As := [.int (0), .int (2)]) hx hb hml hown hC hl (c_X12_refuse0 l E hI (w9 := 2)) (rec_of hC (RB.x hR) rfl) (zm_X12_20 hC.1) kv_X12_refuse hR hS (fun q h => h.imp id (Nat.le_trans hS.1)) rfl rfl (wD_le (by decide) (by decide)) (Nat.le_of_ble_eq_true rfl) ⟨Nat.le_of_ble_eq_true rfl, Nat.le_of_ble_eq_true rfl⟩ dX12_away_48 (fun H1 locs1 hR hz hq hS => ?_)
            refine lv_if_eq (tgt := 56) hx hb dX12_away_51 (by decide) (fun c_51 => ?_) (fun c_51 => ?_)
            ·
              have c_51 : (0 : Int32) = (0) := c_51
              refine lv_aload_n hx hb dX12_away_56 rfl (lv_at hl 0 rfl) ?_
              refine gf_X12_1 hx hb hown hC (RB.x hR) (zf_X12_10 hC.1) dX12_away_57 ?_
              refine lv_iload_n hx hb dX12_away_60 rfl (lv_at hl 1 rfl) ?_
              refine rc_V (As := [.int (nI p9)]) hx hb hml hown hC hl (c_X8_isAway l E hI hp9) (rec_of hC (RB.dk hR) rfl) (zm_X12_72 hC.1) kv_X8_isAway hR rfl rfl (rwD_le (by decide) (by decide)) ⟨rfl, rfl⟩ (Nat.le_of_ble_eq_true rfl) ⟨Nat.zero_le _, Nat.zero_le _⟩ dX12_away_61 ?_
              refine lv_istore (lv' := [(4, .int (awayA S (p9) (nI S.td))), (0, .ref (g.ad 1 0)), (1, .int (nI p9)), (2, .int (v9)), (3, .int (nI o9))]) hx hb dX12_away_64 hl (by decide) rfl (fun ls hl => ?_)
              refine lv_aload_n hx hb dX12_away_66 rfl (lv_at hl 1 rfl) ?_
              refine lv_iload_n hx hb dX12_away_67 rfl (lv_at hl 2 rfl) ?_
              refine rc_V (As := [.int (nI p9)]) hx hb hml hown hC hl (c_X12_of_n l E (S := S) hp9) (rec_of hC (RB.x hR) rfl) (zm_X12_51 hC.1) kv_X12_of hR rfl rfl (rwD_le (by decide) (by decide)) ⟨rfl, rfl⟩ (Nat.le_of_ble_eq_true rfl) ⟨Nat.zero_le _, Nat.zero_le _⟩ dX12_away_68 ?_
              refine lv_iload_n hx hb dX12_away_71 rfl (lv_at hl 3 rfl) ?_
              refine pf_X9_5 hx hb hown hC (RB.pe hR hp9) hS (Or.inl (RB.ow hR (k := 6) hp9)) (zf_X12_75 hC.1) rfl rfl dX12_away_72 (fun H1 locs1 hat hz hq hS => ?_)
              have hR : RB E (u_aw S (p9) (v9)) (0) g H1 := RB.s_aw (v := v9) hR hp9 hat hq
              refine lv_aload_n hx hb dX12_away_75 rfl (lv_at hl 1 rfl) ?_
              refine lv_iload_n hx hb dX12_away_76 rfl (lv_at hl 2 rfl) ?_
              refine rc_V (As := [.int (nI p9)]) hx hb hml hown hC hl (c_X12_of_n l E (S := (u_aw S (p9) (v9))) hp9) (rec_of hC (RB.x hR) rfl) (zm_X12_51 hC.1) kv_X12_of hR rfl rfl (rwD_le (by decide) (by decide)) ⟨rfl, rfl⟩ (Nat.le_of_ble_eq_true rfl) ⟨Nat.zero_le _, Nat.zero_le _⟩ dX12_away_77 ?_
              refine lv_iload_n hx hb dX12_away_80 rfl (lv_at hl 4 rfl) ?_
              refine pf_X9_6 hx hb hown hC (RB.pe hR hp9) hS (Or.inl (RB.ow hR (k := 6) hp9)) (zf_X12_78 hC.1) rfl rfl dX12_away_81 (fun H1 locs1 hat hz hq hS => ?_)
              have hR : RB E (u_si (u_aw S (p9) (v9)) (p9) (some (o9))) (0) g H1 := RB.s_si (v := (some (o9))) hR hp9 hat hq
              refine lv_aload_n hx hb dX12_away_84 rfl (lv_at hl 1 rfl) ?_
              refine gf_X12_1 hx hb hown hC (RB.x hR) (zf_X12_10 hC.1) dX12_away_85 ?_
              have hI : Inv ((u_si (u_aw S (p9) (v9)) (p9) (some (o9)))) := hI.away ho9 hv91 hv92
              refine wcv_V (As := []) hx hb hml hown hC hl (c_X8_goOn l E hI) (rec_of hC (RB.dk hR) rfl) (zm_X12_81 hC.1) kv_X8_goOn hR hS (fun q h => h.imp id (Nat.le_trans hS.1)) rfl rfl (wD_le (by decide) (by decide)) (Nat.le_of_ble_eq_true rfl) ⟨Nat.le_of_ble_eq_true rfl, Nat.le_of_ble_eq_true rfl⟩ dX12_away_88 (fun H1 locs1 hR hz hq hS => ?_)
              have hI : Inv (passS (u_si (u_aw S (p9) (v9)) (p9) (some (o9)))) := hI.pS
              refine lv_iload hx hb dX12_away_91 (lv_at hl 0 rfl) ?_
              exact wr_z hx hb hr hlocks (by unfold awayA; split <;> rfl) hS ⟨hR, rfl⟩ (Nat.le_of_ble_eq_true rfl) (Nat.le_of_ble_eq_true rfl) dX12_away_93
            · exact absurd (by decide) c_51
          · exact absurd ((nI_eq (Nat.lt_trans ho9 hI.np31) (Nat.lt_trans hp9 hI.np31)).mp c_39) hne
    · exact absurd (by decide) c_14
set_option maxRecDepth 100000 in
set_option maxHeartbeats 4000000 in
theorem c_X12_split (l : Launch) (E : EE) {S : St} {th : Int32} {g : Gh} (hI : Inv S) {c9 : Nat} (hc9 : c9 < S.nc) (hs : S.cs c9 = 1) : WM l E yX12_split cX12_split 3 (some .int) (wD 8 0 0) [.ref (g.ad 1 0), .int (nI c9)] (RB E S th g) (ow g) (fun _ v H => RB E (splitS S c9) (0) g H ∧ v = some (.int ((splitS S c9).cs c9))) := by
  refine wm_of rfl (Nat.le_of_ble_eq_true rfl) (fun p e s m below meth c ls hx hb hr hml (hown : s.vm.findClass RX12 = some m.cls) hC hlocks hR hl hini => ?_)
  have hS : va_S (fun q => ow g q ∨ s.heap.size ≤ q) s.heap s.heap [] := va_S.rf
  have hl : lv_has ls 3 [(0, .ref (g.ad 1 0)), (1, .int (nI c9))] := hl
  obtain ⟨r9, hr9c⟩ := irI_e (hI.cr1 hc9 (Or.inl hs))
  have hr9 := hI.cr hc9 hr9c
  refine lv_aload_n hx hb dX12_split_0 rfl (lv_at hl 0 rfl) ?_
  refine lv_iload_n hx hb dX12_split_1 rfl (lv_at hl 1 rfl) ?_
  refine wcw_V (As := [.int (nI c9)]) hx hb hml hown hC hl (c_X12_isNoCharge_0 l E hI hc9) (rec_of hC (RB.x hR) rfl) (zm_X12_195 hC.1) kv_X12_isNoCharge hR hS (fun q h => h.imp id (Nat.le_trans hS.1)) rfl rfl (wD_le (by decide) (by decide)) (Nat.le_of_ble_eq_true rfl) ⟨Nat.le_of_ble_eq_true rfl, Nat.le_of_ble_eq_true rfl⟩ dX12_split_2 (fun H1 locs1 hR hz hq hS => ?_)
  refine lv_if_ne (tgt := 33) hx hb dX12_split_5 (by decide) (fun c_5 => ?_) (fun c_5 => ?_)
  · exact absurd (by decide) c_5
  ·
    have c_5 : (0 : Int32) = (0) := c_5
    refine lv_aload_n hx hb dX12_split_8 rfl (lv_at hl 0 rfl) ?_
    refine lv_aload_n hx hb dX12_split_9 rfl (lv_at hl 0 rfl) ?_
    refine lv_iload_n hx hb dX12_split_10 rfl (lv_at hl 1 rfl) ?_
    refine rc_V (As := [.int (nI c9)]) hx hb hml hown hC hl (c_X12_charge_n l E (S := S) hc9) (rec_of hC (RB.x hR) rfl) (zm_X12_198 hC.1) kv_X12_charge_ hR rfl rfl (rwD_le (by decide) (by decide)) ⟨rfl, rfl⟩ (Nat.le_of_ble_eq_true rfl) ⟨Nat.zero_le _, Nat.zero_le _⟩ dX12_split_11 ?_
    refine gf_X7_8 hx hb hown hC (RB.ch hR hc9) (zf_X12_103 hC.1) dX12_split_14 ?_
    refine lv_iconst (v := 1) hx hb dX12_split_17 (by decide) ?_
    refine lv_icmp_eq (tgt := 25) hx hb dX12_split_18 (by decide) (fun c_18 => ?_) (fun c_18 => ?_)
    ·
      have c_18 : (S.cs (c9) : Int32) = (1) := c_18
      refine lv_iconst (v := 0) hx hb dX12_split_25 (by decide) ?_
      refine lv_iconst (v := 2) hx hb dX12_split_26 (by decide) ?_
      refine wcw_V (As := [.int (0), .int (2)]) hx hb hml hown hC hl (c_X12_refuse0 l E hI (w9 := 2)) (rec_of hC (RB.x hR) rfl) (zm_X12_20 hC.1) kv_X12_refuse hR hS (fun q h => h.imp id (Nat.le_trans hS.1)) rfl rfl (wD_le (by decide) (by decide)) (Nat.le_of_ble_eq_true rfl) ⟨Nat.le_of_ble_eq_true rfl, Nat.le_of_ble_eq_true rfl⟩ dX12_split_27 (fun H1 locs1 hR hz hq hS => ?_)
      refine lv_if_eq (tgt := 35) hx hb dX12_split_30 (by decide) (fun c_30 => ?_) (fun c_30 => ?_)
      ·
        have c_30 : (0 : Int32) = (0) := c_30
        refine lv_aload_n hx hb dX12_split_35 rfl (lv_at hl 0 rfl) ?_
        refine lv_iload_n hx hb dX12_split_36 rfl (lv_at hl 1 rfl) ?_
        refine rc_V (As := [.int (nI c9)]) hx hb hml hown hC hl (c_X12_charge_n l E (S := S) hc9) (rec_of hC (RB.x hR) rfl) (zm_X12_198 hC.1) kv_X12_charge_ hR rfl rfl (rwD_le (by decide) (by decide)) ⟨rfl, rfl⟩ (Nat.le_of_ble_eq_true rfl) ⟨Nat.zero_le _, Nat.zero_le _⟩ dX12_split_37 ?_
        refine lv_astore_n (lv' := [(2, .ref (g.ad 8 (c9))), (0, .ref (g.ad 1 0)), (1, .int (nI c9))]) hx hb dX12_split_40 rfl hl (by decide) rfl (fun ls hl => ?_)
        refine lv_aload_n hx hb dX12_split_41 rfl (lv_at hl 0 rfl) ?_
        refine gf_X7_7 hx hb hown hC (RB.ch hR hc9) (zf_X12_202 hC.1) dX12_split_42 ?_
        refine lv_aload_n hx hb dX12_split_45 rfl (lv_at hl 0 rfl) ?_
        refine gf_X7_9 hx hb hown hC (RB.ch hR hc9) (zf_X12_206 hC.1) dX12_split_46 ?_
        rw [show irI (S.cr c9) = nI r9 by rw [show S.cr c9 = some r9 from hr9c]; rfl]
        refine lv_iconst (v := 1) hx hb dX12_split_49 (by decide) ?_
        refine g_zast (j := r9) hx hb hC (RB.sp hR hc9) hS (Or.inl (RB.ow hR (k := 14) hc9)) ⟨rfl, (by have := hI.nr; omega), by decide⟩ (by decide) dX12_split_50 (fun H1 locs1 hat hz hq hS => ?_)
        have hR : RB E (u_sp S (c9) (S.sp c9 ||| ((1 : Int32) <<< (nI r9 &&& 31)))) 0 g H1 := RB.s_sp hR hc9 (r := r9) (by have := hI.nr; omega) hat hq
        refine lv_aload_n hx hb dX12_split_51 rfl (lv_at hl 1 rfl) ?_
        refine gf_X12_1 hx hb hown hC (RB.x hR) (zf_X12_10 hC.1) dX12_split_52 ?_
        refine gf_X8_3 hx hb hown hC (RB.dk hR) (zf_X12_185 hC.1) dX12_split_55 ?_
        refine lv_aload_n hx hb dX12_split_58 rfl (lv_at hl 0 rfl) ?_
        refine gf_X7_9 hx hb hown hC (RB.ch hR hc9) (zf_X12_206 hC.1) dX12_split_59 ?_
        rw [show irI ((u_sp S (c9) (S.sp c9 ||| ((1 : Int32) <<< (nI r9 &&& 31)))).cr c9) = nI r9 by rw [show (u_sp S (c9) (S.sp c9 ||| ((1 : Int32) <<< (nI r9 &&& 31)))).cr c9 = some r9 from hr9c]; rfl]
        refine rc_V (As := [.int (nI r9)]) hx hb hml hown hC hl (c_getLB l E 3 rfl hR (by decide) hr9) (rec_of hC (RB.ls hR (by decide : 3 < 4)) rfl) (zm_X12_38 hC.1) kv_Jx4a65c_get_915e3 (RB.gp hR 3 (by decide) hr9) rfl rfl (rwD_le (by decide) (by decide)) ⟨rfl, rfl⟩ (Nat.le_of_ble_eq_true rfl) ⟨Nat.zero_le _, Nat.zero_le _⟩ dX12_split_62 ?_
        refine g_cast hx hb hown hC (RB.re hR hr9) rfl (zc_X12_188 hC.1) dX12_split_65 ?_
        refine lv_iconst (v := (-1)) hx hb dX12_split_68 (by decide) ?_
        refine pf_X10_3 hx hb hown hC (RB.re hR hr9) hS (Or.inl (RB.ow hR (k := 9) hr9)) (zf_X12_193 hC.1) rfl rfl dX12_split_69 (fun H1 locs1 hat hz hq hS => ?_)
        have hR : RB E (u_ro (u_sp S (c9) (S.sp c9 ||| ((1 : Int32) <<< (nI r9 &&& 31)))) (r9) (none)) (0) g H1 := RB.s_ro (v := none) hR hr9 hat hq
        refine lv_aload_n hx hb dX12_split_72 rfl (lv_at hl 0 rfl) ?_
        refine lv_iconst (v := (-1)) hx hb dX12_split_73 (by decide) ?_
        refine pf_X7_9 hx hb hown hC (RB.ch hR hc9) hS (Or.inl (RB.ow hR (k := 8) hc9)) (zf_X12_206 hC.1) rfl rfl dX12_split_74 (fun H1 locs1 hat hz hq hS => ?_)
        have hR : RB E (u_cr (u_ro (u_sp S (c9) (S.sp c9 ||| ((1 : Int32) <<< (nI r9 &&& 31)))) (r9) (none)) (c9) (none)) (0) g H1 := RB.s_cr (v := none) hR hc9 hat hq
        refine lv_aload_n hx hb dX12_split_77 rfl (lv_at hl 0 rfl) ?_
        refine lv_iconst (v := 0) hx hb dX12_split_78 (by decide) ?_
        refine pf_X7_10 hx hb hown hC (RB.ch hR hc9) hS (Or.inl (RB.ow hR (k := 8) hc9)) (zf_X12_209 hC.1) rfl rfl dX12_split_79 (fun H1 locs1 hat hz hq hS => ?_)
        have hR : RB E (u_ce (u_cr (u_ro (u_sp S (c9) (S.sp c9 ||| ((1 : Int32) <<< (nI r9 &&& 31)))) (r9) (none)) (c9) (none)) (c9) (0)) (0) g H1 := RB.s_ce (v := 0) hR hc9 hat hq
        refine lv_aload_n hx hb dX12_split_82 rfl (lv_at hl 0 rfl) ?_
        refine lv_iconst (v := 0) hx hb dX12_split_83 (by decide) ?_
        refine pf_X7_8 hx hb hown hC (RB.ch hR hc9) hS (Or.inl (RB.ow hR (k := 8) hc9)) (zf_X12_103 hC.1) rfl rfl dX12_split_84 (fun H1 locs1 hat hz hq hS => ?_)
        have hR : RB E (u_cs (u_ce (u_cr (u_ro (u_sp S (c9) (S.sp c9 ||| ((1 : Int32) <<< (nI r9 &&& 31)))) (r9) (none)) (c9) (none)) (c9) (0)) (c9) (0)) (0) g H1 := RB.s_cs (v := 0) hR hc9 hat hq
        have hR : RB E (partS S c9) 0 g H1 := by have e9 : partS S c9 = u_cs (u_ce (u_cr (u_ro (u_sp S (c9) (S.sp c9 ||| ((1 : Int32) <<< (nI r9 &&& 31)))) (r9) (none)) (c9) (none)) (c9) (0)) (c9) (0) := (by unfold partS partR; rw [hr9c]; exact u_ce_cs _ _ _ _); rw [e9]; exact hR
        have hI : Inv (partS S c9) := hI.part hc9
        refine lv_aload_n hx hb dX12_split_87 rfl (lv_at hl 1 rfl) ?_
        refine gf_X12_1 hx hb hown hC (RB.x hR) (zf_X12_10 hC.1) dX12_split_88 ?_
        refine wcv_V (As := []) hx hb hml hown hC hl (c_X8_matchAll l E hI) (rec_of hC (RB.dk hR) rfl) (zm_X12_179 hC.1) kv_X8_matchAll hR hS (fun q h => h.imp id (Nat.le_trans hS.1)) rfl rfl (wD_le (by decide) (by decide)) (Nat.le_of_ble_eq_true rfl) ⟨Nat.le_of_ble_eq_true rfl, Nat.le_of_ble_eq_true rfl⟩ dX12_split_91 (fun H1 locs1 hR hz hq hS => ?_)
        have hI : Inv (mpS (partS S c9)) := hI.mp
        refine lv_aload_n hx hb dX12_split_94 rfl (lv_at hl 1 rfl) ?_
        refine gf_X12_1 hx hb hown hC (RB.x hR) (zf_X12_10 hC.1) dX12_split_95 ?_
        refine wcv_V (As := []) hx hb hml hown hC hl (c_X8_goOn l E hI) (rec_of hC (RB.dk hR) rfl) (zm_X12_81 hC.1) kv_X8_goOn hR hS (fun q h => h.imp id (Nat.le_trans hS.1)) rfl rfl (wD_le (by decide) (by decide)) (Nat.le_of_ble_eq_true rfl) ⟨Nat.le_of_ble_eq_true rfl, Nat.le_of_ble_eq_true rfl⟩ dX12_split_98 (fun H1 locs1 hR hz hq hS => ?_)
        have hI : Inv (passS (mpS (partS S c9))) := hI.pS
        refine lv_aload_n hx hb dX12_split_101 rfl (lv_at hl 0 rfl) ?_
        have hc9 : c9 < ((passS (mpS (partS S c9)))).nc := by rw [passS_nc, mpS_nc, part_nc]; exact hc9
        refine gf_X7_8 hx hb hown hC (RB.ch hR hc9) (zf_X12_103 hC.1) dX12_split_102 ?_
        exact wr_i hx hb hr hlocks hS ⟨hR, rfl⟩ (Nat.le_of_ble_eq_true rfl) (Nat.le_of_ble_eq_true rfl) dX12_split_105
      · exact absurd (by decide) c_30
    · exact absurd hs c_18
set_option maxRecDepth 100000 in
set_option maxHeartbeats 4000000 in
theorem c_X12_approve (l : Launch) (E : EE) {S : St} {th : Int32} {g : Gh} (hI : Inv S) {c9 : Nat} (hc9 : c9 < S.nc) {p9 : Nat} (hp9 : p9 < S.np) (hs : apprA S c9 = some p9) : WM l E yX12_approve cX12_approve 3 (some .int) (wD 8 0 0) [.ref (g.ad 1 0), .int (nI c9), .int (nI p9)] (RB E S th g) (ow g) (fun _ v H => RB E (approveS S c9) (0) g H ∧ v = some (.int ((approveS S c9).cs c9))) := by
  refine wm_of rfl (Nat.le_of_ble_eq_true rfl) (fun p e s m below meth c ls hx hb hr hml (hown : s.vm.findClass RX12 = some m.cls) hC hlocks hR hl hini => ?_)
  have hS : va_S (fun q => ow g q ∨ s.heap.size ≤ q) s.heap s.heap [] := va_S.rf
  have hl : lv_has ls 3 [(0, .ref (g.ad 1 0)), (1, .int (nI c9)), (2, .int (nI p9))] := hl
  refine lv_aload_n hx hb dX12_approve_0 rfl (lv_at hl 0 rfl) ?_
  refine lv_iload_n hx hb dX12_approve_1 rfl (lv_at hl 1 rfl) ?_
  refine lv_iload_n hx hb dX12_approve_2 rfl (lv_at hl 2 rfl) ?_
  refine wcw_V (As := [.int (nI c9), .int (nI p9)]) hx hb hml hown hC hl (c_X12_isNotDue_0 l E hI hc9 hp9 hs) (rec_of hC (RB.x hR) rfl) (zm_X12_212 hC.1) kv_X12_isNotDue hR hS (fun q h => h.imp id (Nat.le_trans hS.1)) rfl rfl (wD_le (by decide) (by decide)) (Nat.le_of_ble_eq_true rfl) ⟨Nat.le_of_ble_eq_true rfl, Nat.le_of_ble_eq_true rfl⟩ dX12_approve_3 (fun H1 locs1 hR hz hq hS => ?_)
  refine lv_if_eq (tgt := 11) hx hb dX12_approve_6 (by decide) (fun c_6 => ?_) (fun c_6 => ?_)
  ·
    have c_6 : (0 : Int32) = (0) := c_6
    refine lv_aload_n hx hb dX12_approve_11 rfl (lv_at hl 0 rfl) ?_
    refine lv_iload_n hx hb dX12_approve_12 rfl (lv_at hl 1 rfl) ?_
    refine rc_V (As := [.int (nI c9)]) hx hb hml hown hC hl (c_X12_charge_n l E (S := S) hc9) (rec_of hC (RB.x hR) rfl) (zm_X12_198 hC.1) kv_X12_charge_ hR rfl rfl (rwD_le (by decide) (by decide)) ⟨rfl, rfl⟩ (Nat.le_of_ble_eq_true rfl) ⟨Nat.zero_le _, Nat.zero_le _⟩ dX12_approve_13 ?_
    refine lv_dup hx hb dX12_approve_16 rfl ?_
    refine gf_X7_10 hx hb hown hC (RB.ch hR hc9) (zf_X12_209 hC.1) dX12_approve_17 ?_
    refine lv_iconst (v := 1) hx hb dX12_approve_20 (by decide) ?_
    refine lv_iadd hx hb dX12_approve_21 ?_
    rw [← nI_succ (S.ce c9)]
    refine pf_X7_10 hx hb hown hC (RB.ch hR hc9) hS (Or.inl (RB.ow hR (k := 8) hc9)) (zf_X12_209 hC.1) rfl rfl dX12_approve_22 (fun H1 locs1 hat hz hq hS => ?_)
    have hR : RB E (u_ce S (c9) (S.ce c9 + 1)) (0) g H1 := RB.s_ce (v := (S.ce c9 + 1)) hR hc9 hat hq
    refine lv_aload_n hx hb dX12_approve_25 rfl (lv_at hl 0 rfl) ?_
    refine gf_X12_1 hx hb hown hC (RB.x hR) (zf_X12_10 hC.1) dX12_approve_26 ?_
    have hI : Inv ((u_ce S (c9) (S.ce c9 + 1))) := hI.appr hs
    refine wcv_V (As := []) hx hb hml hown hC hl (c_X8_goOn l E hI) (rec_of hC (RB.dk hR) rfl) (zm_X12_81 hC.1) kv_X8_goOn hR hS (fun q h => h.imp id (Nat.le_trans hS.1)) rfl rfl (wD_le (by decide) (by decide)) (Nat.le_of_ble_eq_true rfl) ⟨Nat.le_of_ble_eq_true rfl, Nat.le_of_ble_eq_true rfl⟩ dX12_approve_29 (fun H1 locs1 hR hz hq hS => ?_)
    have hI : Inv (passS (u_ce S (c9) (S.ce c9 + 1))) := hI.pS
    refine lv_aload_n hx hb dX12_approve_32 rfl (lv_at hl 0 rfl) ?_
    refine lv_iload_n hx hb dX12_approve_33 rfl (lv_at hl 1 rfl) ?_
    have hc9 : c9 < ((passS (u_ce S (c9) (S.ce c9 + 1)))).nc := by rw [passS_nc]; exact hc9
    refine rc_V (As := [.int (nI c9)]) hx hb hml hown hC hl (c_X12_charge_n l E (S := (passS (u_ce S (c9) (S.ce c9 + 1)))) hc9) (rec_of hC (RB.x hR) rfl) (zm_X12_198 hC.1) kv_X12_charge_ hR rfl rfl (rwD_le (by decide) (by decide)) ⟨rfl, rfl⟩ (Nat.le_of_ble_eq_true rfl) ⟨Nat.zero_le _, Nat.zero_le _⟩ dX12_approve_34 ?_
    refine gf_X7_8 hx hb hown hC (RB.ch hR hc9) (zf_X12_103 hC.1) dX12_approve_37 ?_
    exact wr_i hx hb hr hlocks hS ⟨hR, rfl⟩ (Nat.le_of_ble_eq_true rfl) (Nat.le_of_ble_eq_true rfl) dX12_approve_40
  · exact absurd (by decide) c_6
set_option maxRecDepth 100000 in
set_option maxHeartbeats 4000000 in
theorem c_X12_refuse_ (l : Launch) (E : EE) {S : St} {th : Int32} {g : Gh} (hI : Inv S) {c9 : Nat} (hc9 : c9 < S.nc) {p9 : Nat} (hp9 : p9 < S.np) (hs : apprA S c9 = some p9) : WM l E yX12_refuse_ cX12_refuse_ 3 (some .int) (wD 8 0 0) [.ref (g.ad 1 0), .int (nI c9), .int (nI p9)] (RB E S th g) (ow g) (fun _ v H => RB E (u_cs S c9 4) (0) g H ∧ v = some (.int (inA (u_cs S c9 4) 4))) := by
  refine wm_of rfl (Nat.le_of_ble_eq_true rfl) (fun p e s m below meth c ls hx hb hr hml (hown : s.vm.findClass RX12 = some m.cls) hC hlocks hR hl hini => ?_)
  have hS : va_S (fun q => ow g q ∨ s.heap.size ≤ q) s.heap s.heap [] := va_S.rf
  have hl : lv_has ls 3 [(0, .ref (g.ad 1 0)), (1, .int (nI c9)), (2, .int (nI p9))] := hl
  refine lv_aload_n hx hb dX12_refuse__0 rfl (lv_at hl 0 rfl) ?_
  refine lv_iload_n hx hb dX12_refuse__1 rfl (lv_at hl 1 rfl) ?_
  refine lv_iload_n hx hb dX12_refuse__2 rfl (lv_at hl 2 rfl) ?_
  refine wcw_V (As := [.int (nI c9), .int (nI p9)]) hx hb hml hown hC hl (c_X12_isNotDue_0 l E hI hc9 hp9 hs) (rec_of hC (RB.x hR) rfl) (zm_X12_212 hC.1) kv_X12_isNotDue hR hS (fun q h => h.imp id (Nat.le_trans hS.1)) rfl rfl (wD_le (by decide) (by decide)) (Nat.le_of_ble_eq_true rfl) ⟨Nat.le_of_ble_eq_true rfl, Nat.le_of_ble_eq_true rfl⟩ dX12_refuse__3 (fun H1 locs1 hR hz hq hS => ?_)
  refine lv_if_eq (tgt := 11) hx hb dX12_refuse__6 (by decide) (fun c_6 => ?_) (fun c_6 => ?_)
  ·
    have c_6 : (0 : Int32) = (0) := c_6
    refine lv_aload_n hx hb dX12_refuse__11 rfl (lv_at hl 0 rfl) ?_
    refine lv_iload_n hx hb dX12_refuse__12 rfl (lv_at hl 1 rfl) ?_
    refine rc_V (As := [.int (nI c9)]) hx hb hml hown hC hl (c_X12_charge_n l E (S := S) hc9) (rec_of hC (RB.x hR) rfl) (zm_X12_198 hC.1) kv_X12_charge_ hR rfl rfl (rwD_le (by decide) (by decide)) ⟨rfl, rfl⟩ (Nat.le_of_ble_eq_true rfl) ⟨Nat.zero_le _, Nat.zero_le _⟩ dX12_refuse__13 ?_
    refine lv_iconst (v := 4) hx hb dX12_refuse__16 (by decide) ?_
    refine pf_X7_8 hx hb hown hC (RB.ch hR hc9) hS (Or.inl (RB.ow hR (k := 8) hc9)) (zf_X12_103 hC.1) rfl rfl dX12_refuse__17 (fun H1 locs1 hat hz hq hS => ?_)
    have hR : RB E (u_cs S (c9) (4)) (0) g H1 := RB.s_cs (v := 4) hR hc9 hat hq
    refine lv_aload_n hx hb dX12_refuse__20 rfl (lv_at hl 0 rfl) ?_
    refine gf_X12_1 hx hb hown hC (RB.x hR) (zf_X12_10 hC.1) dX12_refuse__21 ?_
    refine lv_iconst (v := 4) hx hb dX12_refuse__24 (by decide) ?_
    have hI : Inv ((u_cs S (c9) (4))) := hI.refu hc9 (apprA_1 hs).1
    refine rc_V (As := [.int (4)]) hx hb hml hown hC hl (c_X8_in l E hI (4)) (rec_of hC (RB.dk hR) rfl) (zm_X12_215 hC.1) kv_X8_in hR rfl rfl (rwD_le (by decide) (by decide)) ⟨rfl, rfl⟩ (Nat.le_of_ble_eq_true rfl) ⟨Nat.zero_le _, Nat.zero_le _⟩ dX12_refuse__25 ?_
    exact wr_i hx hb hr hlocks hS ⟨hR, rfl⟩ (Nat.le_of_ble_eq_true rfl) (Nat.le_of_ble_eq_true rfl) dX12_refuse__28
  · exact absurd (by decide) c_6
set_option maxRecDepth 100000 in
set_option maxHeartbeats 4000000 in
theorem c_X12_settle (l : Launch) (E : EE) {S : St} {th : Int32} {g : Gh} (hI : Inv S) {c9 : Nat} (hc9 : c9 < S.nc) {b9 : Int32} (hs : S.cs c9 = 4) : WM l E yX12_settle cX12_settle 3 (some .int) (wD 8 0 0) [.ref (g.ad 1 0), .int (nI c9), .int (b9)] (RB E S th g) (ow g) (fun _ v H => RB E (settleS S c9 b9) (0) g H ∧ v = some (.int ((settleS S c9 b9).cs c9))) := by
  refine wm_of rfl (Nat.le_of_ble_eq_true rfl) (fun p e s m below meth c ls hx hb hr hml (hown : s.vm.findClass RX12 = some m.cls) hC hlocks hR hl hini => ?_)
  have hS : va_S (fun q => ow g q ∨ s.heap.size ≤ q) s.heap s.heap [] := va_S.rf
  have hl : lv_has ls 3 [(0, .ref (g.ad 1 0)), (1, .int (nI c9)), (2, .int (b9))] := hl
  refine lv_aload_n hx hb dX12_settle_0 rfl (lv_at hl 0 rfl) ?_
  refine lv_iload_n hx hb dX12_settle_1 rfl (lv_at hl 1 rfl) ?_
  refine wcw_V (As := [.int (nI c9)]) hx hb hml hown hC hl (c_X12_isNoCharge_0 l E hI hc9) (rec_of hC (RB.x hR) rfl) (zm_X12_195 hC.1) kv_X12_isNoCharge hR hS (fun q h => h.imp id (Nat.le_trans hS.1)) rfl rfl (wD_le (by decide) (by decide)) (Nat.le_of_ble_eq_true rfl) ⟨Nat.le_of_ble_eq_true rfl, Nat.le_of_ble_eq_true rfl⟩ dX12_settle_2 (fun H1 locs1 hR hz hq hS => ?_)
  refine lv_if_ne (tgt := 33) hx hb dX12_settle_5 (by decide) (fun c_5 => ?_) (fun c_5 => ?_)
  · exact absurd (by decide) c_5
  ·
    have c_5 : (0 : Int32) = (0) := c_5
    refine lv_aload_n hx hb dX12_settle_8 rfl (lv_at hl 0 rfl) ?_
    refine lv_aload_n hx hb dX12_settle_9 rfl (lv_at hl 0 rfl) ?_
    refine lv_iload_n hx hb dX12_settle_10 rfl (lv_at hl 1 rfl) ?_
    refine rc_V (As := [.int (nI c9)]) hx hb hml hown hC hl (c_X12_charge_n l E (S := S) hc9) (rec_of hC (RB.x hR) rfl) (zm_X12_198 hC.1) kv_X12_charge_ hR rfl rfl (rwD_le (by decide) (by decide)) ⟨rfl, rfl⟩ (Nat.le_of_ble_eq_true rfl) ⟨Nat.zero_le _, Nat.zero_le _⟩ dX12_settle_11 ?_
    refine gf_X7_8 hx hb hown hC (RB.ch hR hc9) (zf_X12_103 hC.1) dX12_settle_14 ?_
    refine lv_iconst (v := 4) hx hb dX12_settle_17 (by decide) ?_
    refine lv_icmp_eq (tgt := 25) hx hb dX12_settle_18 (by decide) (fun c_18 => ?_) (fun c_18 => ?_)
    ·
      have c_18 : (S.cs (c9) : Int32) = (4) := c_18
      refine lv_iconst (v := 0) hx hb dX12_settle_25 (by decide) ?_
      refine lv_iconst (v := 2) hx hb dX12_settle_26 (by decide) ?_
      refine wcw_V (As := [.int (0), .int (2)]) hx hb hml hown hC hl (c_X12_refuse0 l E hI (w9 := 2)) (rec_of hC (RB.x hR) rfl) (zm_X12_20 hC.1) kv_X12_refuse hR hS (fun q h => h.imp id (Nat.le_trans hS.1)) rfl rfl (wD_le (by decide) (by decide)) (Nat.le_of_ble_eq_true rfl) ⟨Nat.le_of_ble_eq_true rfl, Nat.le_of_ble_eq_true rfl⟩ dX12_settle_27 (fun H1 locs1 hR hz hq hS => ?_)
      refine lv_if_eq (tgt := 35) hx hb dX12_settle_30 (by decide) (fun c_30 => ?_) (fun c_30 => ?_)
      ·
        have c_30 : (0 : Int32) = (0) := c_30
        refine lv_aload_n hx hb dX12_settle_35 rfl (lv_at hl 0 rfl) ?_
        refine lv_iload_n hx hb dX12_settle_36 rfl (lv_at hl 1 rfl) ?_
        refine rc_V (As := [.int (nI c9)]) hx hb hml hown hC hl (c_X12_charge_n l E (S := S) hc9) (rec_of hC (RB.x hR) rfl) (zm_X12_198 hC.1) kv_X12_charge_ hR rfl rfl (rwD_le (by decide) (by decide)) ⟨rfl, rfl⟩ (Nat.le_of_ble_eq_true rfl) ⟨Nat.zero_le _, Nat.zero_le _⟩ dX12_settle_37 ?_
        refine lv_iload_n hx hb dX12_settle_40 rfl (lv_at hl 2 rfl) ?_
        refine lv_if_eq (tgt := 48) hx hb dX12_settle_41 (by decide) (fun c_41 => ?_) (fun c_41 => ?_)
        ·
          have c_41 : (b9 : Int32) = (0) := c_41
          refine lv_iconst (v := 1) hx hb dX12_settle_48 (by decide) ?_
          refine pf_X7_8 hx hb hown hC (RB.ch hR hc9) hS (Or.inl (RB.ow hR (k := 8) hc9)) (zf_X12_103 hC.1) rfl rfl dX12_settle_49 (fun H1 locs1 hat hz hq hS => ?_)
          have hR : RB E (u_cs S (c9) (1)) (0) g H1 := RB.s_cs (v := 1) hR hc9 hat hq
          refine lv_iload_n hx hb dX12_settle_52 rfl (lv_at hl 2 rfl) ?_
          refine lv_if_ne (tgt := 65) hx hb dX12_settle_53 (by decide) (fun c_53 => ?_) (fun c_53 => ?_)
          · exact absurd c_41 c_53
          ·
            have c_53 : (b9 : Int32) = (0) := c_53
            refine lv_aload_n hx hb dX12_settle_56 rfl (lv_at hl 0 rfl) ?_
            refine lv_iload_n hx hb dX12_settle_57 rfl (lv_at hl 1 rfl) ?_
            refine rc_V (As := [.int (nI c9)]) hx hb hml hown hC hl (c_X12_charge_n l E (S := (u_cs S (c9) (1))) hc9) (rec_of hC (RB.x hR) rfl) (zm_X12_198 hC.1) kv_X12_charge_ hR rfl rfl (rwD_le (by decide) (by decide)) ⟨rfl, rfl⟩ (Nat.le_of_ble_eq_true rfl) ⟨Nat.zero_le _, Nat.zero_le _⟩ dX12_settle_58 ?_
            refine lv_iconst (v := 0) hx hb dX12_settle_61 (by decide) ?_
            refine pf_X7_10 hx hb hown hC (RB.ch hR hc9) hS (Or.inl (RB.ow hR (k := 8) hc9)) (zf_X12_209 hC.1) rfl rfl dX12_settle_62 (fun H1 locs1 hat hz hq hS => ?_)
            have hR : RB E (u_ce (u_cs S (c9) (1)) (c9) (0)) (0) g H1 := RB.s_ce (v := 0) hR hc9 hat hq
            refine lv_aload_n hx hb dX12_settle_65 rfl (lv_at hl 0 rfl) ?_
            refine gf_X12_1 hx hb hown hC (RB.x hR) (zf_X12_10 hC.1) dX12_settle_66 ?_
            have hI : Inv ((u_ce (u_cs S (c9) (1)) (c9) (0))) := hI.set1 hc9 hs
            refine wcv_V (As := []) hx hb hml hown hC hl (c_X8_goOn l E hI) (rec_of hC (RB.dk hR) rfl) (zm_X12_81 hC.1) kv_X8_goOn hR hS (fun q h => h.imp id (Nat.le_trans hS.1)) rfl rfl (wD_le (by decide) (by decide)) (Nat.le_of_ble_eq_true rfl) ⟨Nat.le_of_ble_eq_true rfl, Nat.le_of_ble_eq_true rfl⟩ dX12_settle_69 (fun H1 locs1 hR hz hq hS => ?_)
            have hI : Inv (passS (u_ce (u_cs S (c9) (1)) (c9) (0))) := hI.pS
            refine lv_aload_n hx hb dX12_settle_72 rfl (lv_at hl 0 rfl) ?_
            refine lv_iload_n hx hb dX12_settle_73 rfl (lv_at hl 1 rfl) ?_
            have hc9 : c9 < ((passS (u_ce (u_cs S (c9) (1)) (c9) (0)))).nc := by rw [passS_nc]; exact hc9
            refine rc_V (As := [.int (nI c9)]) hx hb hml hown hC hl (c_X12_charge_n l E (S := (passS (u_ce (u_cs S (c9) (1)) (c9) (0)))) hc9) (rec_of hC (RB.x hR) rfl) (zm_X12_198 hC.1) kv_X12_charge_ hR rfl rfl (rwD_le (by decide) (by decide)) ⟨rfl, rfl⟩ (Nat.le_of_ble_eq_true rfl) ⟨Nat.zero_le _, Nat.zero_le _⟩ dX12_settle_74 ?_
            refine gf_X7_8 hx hb hown hC (RB.ch hR hc9) (zf_X12_103 hC.1) dX12_settle_77 ?_
            exact wr_i hx hb hr hlocks hS ⟨by unfold settleS; rw [if_pos c_41]; exact hR, by unfold settleS; rw [if_pos c_41]⟩ (Nat.le_of_ble_eq_true rfl) (Nat.le_of_ble_eq_true rfl) dX12_settle_80
        ·
          have c_41 : ¬ (b9 : Int32) = (0) := c_41
          refine lv_iconst (v := 3) hx hb dX12_settle_44 (by decide) ?_
          refine lv_goto (tgt := 49) hx hb dX12_settle_45 (by decide) ?_
          refine pf_X7_8 hx hb hown hC (RB.ch hR hc9) hS (Or.inl (RB.ow hR (k := 8) hc9)) (zf_X12_103 hC.1) rfl rfl dX12_settle_49 (fun H1 locs1 hat hz hq hS => ?_)
          have hR : RB E (u_cs S (c9) (3)) (0) g H1 := RB.s_cs (v := 3) hR hc9 hat hq
          refine lv_iload_n hx hb dX12_settle_52 rfl (lv_at hl 2 rfl) ?_
          refine lv_if_ne (tgt := 65) hx hb dX12_settle_53 (by decide) (fun c_53 => ?_) (fun c_53 => ?_)
          ·
            have c_53 : ¬ (b9 : Int32) = (0) := c_53
            refine lv_aload_n hx hb dX12_settle_65 rfl (lv_at hl 0 rfl) ?_
            refine gf_X12_1 hx hb hown hC (RB.x hR) (zf_X12_10 hC.1) dX12_settle_66 ?_
            have hI : Inv ((u_cs S (c9) (3))) := hI.set3
            refine wcv_V (As := []) hx hb hml hown hC hl (c_X8_goOn l E hI) (rec_of hC (RB.dk hR) rfl) (zm_X12_81 hC.1) kv_X8_goOn hR hS (fun q h => h.imp id (Nat.le_trans hS.1)) rfl rfl (wD_le (by decide) (by decide)) (Nat.le_of_ble_eq_true rfl) ⟨Nat.le_of_ble_eq_true rfl, Nat.le_of_ble_eq_true rfl⟩ dX12_settle_69 (fun H1 locs1 hR hz hq hS => ?_)
            have hI : Inv (passS (u_cs S (c9) (3))) := hI.pS
            refine lv_aload_n hx hb dX12_settle_72 rfl (lv_at hl 0 rfl) ?_
            refine lv_iload_n hx hb dX12_settle_73 rfl (lv_at hl 1 rfl) ?_
            have hc9 : c9 < ((passS (u_cs S (c9) (3)))).nc := by rw [passS_nc]; exact hc9
            refine rc_V (As := [.int (nI c9)]) hx hb hml hown hC hl (c_X12_charge_n l E (S := (passS (u_cs S (c9) (3)))) hc9) (rec_of hC (RB.x hR) rfl) (zm_X12_198 hC.1) kv_X12_charge_ hR rfl rfl (rwD_le (by decide) (by decide)) ⟨rfl, rfl⟩ (Nat.le_of_ble_eq_true rfl) ⟨Nat.zero_le _, Nat.zero_le _⟩ dX12_settle_74 ?_
            refine gf_X7_8 hx hb hown hC (RB.ch hR hc9) (zf_X12_103 hC.1) dX12_settle_77 ?_
            exact wr_i hx hb hr hlocks hS ⟨by unfold settleS; rw [if_neg c_41]; exact hR, by unfold settleS; rw [if_neg c_41]⟩ (Nat.le_of_ble_eq_true rfl) (Nat.le_of_ble_eq_true rfl) dX12_settle_80
          · exact absurd c_53 c_41
      · exact absurd (by decide) c_30
    · exact absurd hs c_18
