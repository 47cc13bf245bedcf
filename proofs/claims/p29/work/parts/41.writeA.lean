set_option maxRecDepth 100000 in
set_option maxHeartbeats 4000000 in
theorem c_X2_gainPoint (l : Launch) (E : EE) {S : St} {g : Gh} {p9 : Nat} (hp : p9 < S.np) : WM l E yX2_gainPoint cX2_gainPoint 1 none (wD 1 0 0) [.ref (g.ad 6 (p9))] (RA E S g) (ow g) (fun _ v H => RA E (gainS S p9) g H ∧ v = none) := by
  refine wm_of rfl (Nat.le_of_ble_eq_true rfl) (fun p e s m below meth c ls hx hb hr hml (hown : s.vm.findClass RX2 = some m.cls) hC hlocks hR hl hini => ?_)
  have hS : va_S (fun q => ow g q ∨ s.heap.size ≤ q) s.heap s.heap [] := va_S.rf
  have hl : lv_has ls 1 [(0, .ref (g.ad 6 (p9)))] := hl
  refine lv_aload_n hx hb dX2_gainPoint_0 rfl (lv_at hl 0 rfl) ?_
  refine lv_dup hx hb dX2_gainPoint_1 rfl ?_
  refine gf_X2_3 hx hb hown hC (RA.pe hR hp) (zf_X2_15 hC.1) dX2_gainPoint_2 ?_
  refine lv_iconst (v := 1) hx hb dX2_gainPoint_5 (by decide) ?_
  refine lv_iadd hx hb dX2_gainPoint_6 ?_
  refine pf_X2_3 hx hb hown hC (RA.pe hR hp) hS (Or.inl (RA.ow hR (k := 6) hp)) (zf_X2_15 hC.1) rfl rfl dX2_gainPoint_7 (fun H1 locs1 hat hz hq hS => ?_)
  have hR : RA E (u_po S (p9) ((S.po (p9)) + (1))) g H1 := RA.s_po (v := (S.po (p9)) + (1)) hR hp hat hq
  refine lv_aload_n hx hb dX2_gainPoint_10 rfl (lv_at hl 0 rfl) ?_
  refine gf_X2_3 hx hb hown hC (RA.pe hR hp) (zf_X2_15 hC.1) dX2_gainPoint_11 ?_
  refine lv_iconst (v := 3) hx hb dX2_gainPoint_14 (by decide) ?_
  refine lv_icmp_lt (tgt := 38) hx hb dX2_gainPoint_15 (by decide) (fun c_15 => ?_) (fun c_15 => ?_)
  ·
    have c_15 : ((u_po S (p9) ((S.po (p9)) + (1))).po (p9) : Int32) < (3) := c_15
    exact wr_v hx hb hr hlocks hS ⟨(by unfold gainS; rw [if_pos c_15]; exact hR), rfl⟩ (Nat.le_of_ble_eq_true rfl) (Nat.le_of_ble_eq_true rfl) dX2_gainPoint_38
  ·
    have c_15 : ¬ ((u_po S (p9) ((S.po (p9)) + (1))).po (p9) : Int32) < (3) := c_15
    refine lv_aload_n hx hb dX2_gainPoint_18 rfl (lv_at hl 0 rfl) ?_
    refine lv_iconst (v := 0) hx hb dX2_gainPoint_19 (by decide) ?_
    refine pf_X2_3 hx hb hown hC (RA.pe hR hp) hS (Or.inl (RA.ow hR (k := 6) hp)) (zf_X2_15 hC.1) rfl rfl dX2_gainPoint_20 (fun H1 locs1 hat hz hq hS => ?_)
    have hR : RA E (u_po (u_po S (p9) ((S.po (p9)) + (1))) (p9) (0)) g H1 := RA.s_po (v := 0) hR hp hat hq
    refine lv_aload_n hx hb dX2_gainPoint_23 rfl (lv_at hl 0 rfl) ?_
    refine lv_aload_n hx hb dX2_gainPoint_24 rfl (lv_at hl 0 rfl) ?_
    refine gf_X2_2 hx hb hown hC (RA.pe hR hp) (zf_X2_9 hC.1) dX2_gainPoint_25 ?_
    refine lv_iconst (v := 1) hx hb dX2_gainPoint_28 (by decide) ?_
    refine lv_iadd hx hb dX2_gainPoint_29 ?_
    refine lv_bipush (v := 10) hx hb dX2_gainPoint_30 (by decide) ?_
    refine va_mmin hx hb (hml.trans hl.1.symm) hown (zm_X2_28 hC.1) (ztm_min hC.1) (znm hC.1) (zkm_min hC.1) (Nat.le_of_ble_eq_true rfl) (Nat.le_of_ble_eq_true rfl) (Nat.zero_le _) (Nat.zero_le _) dX2_gainPoint_32 ?_
    refine pf_X2_2 hx hb hown hC (RA.pe hR hp) hS (Or.inl (RA.ow hR (k := 6) hp)) (zf_X2_9 hC.1) rfl rfl dX2_gainPoint_35 (fun H1 locs1 hat hz hq hS => ?_)
    have hR : RA E (u_tr (u_po (u_po S (p9) ((S.po (p9)) + (1))) (p9) (0)) (p9) (minI ((S.tr (p9)) + (1)) (10))) g H1 := RA.s_tr (v := (minI ((S.tr (p9)) + (1)) (10))) hR hp hat hq
    exact wr_v hx hb hr hlocks hS ⟨(by unfold gainS; rw [if_neg c_15]; exact hR), rfl⟩ (Nat.le_of_ble_eq_true rfl) (Nat.le_of_ble_eq_true rfl) dX2_gainPoint_38
set_option maxRecDepth 100000 in
set_option maxHeartbeats 4000000 in
theorem c_X2_loseTrust (l : Launch) (E : EE) {S : St} {g : Gh} {p9 : Nat} (hp : p9 < S.np) : WM l E yX2_loseTrust cX2_loseTrust 1 none (wD 1 0 0) [.ref (g.ad 6 (p9))] (RA E S g) (ow g) (fun _ v H => RA E (loseS S p9) g H ∧ v = none) := by
  refine wm_of rfl (Nat.le_of_ble_eq_true rfl) (fun p e s m below meth c ls hx hb hr hml (hown : s.vm.findClass RX2 = some m.cls) hC hlocks hR hl hini => ?_)
  have hS : va_S (fun q => ow g q ∨ s.heap.size ≤ q) s.heap s.heap [] := va_S.rf
  have hl : lv_has ls 1 [(0, .ref (g.ad 6 (p9)))] := hl
  refine lv_aload_n hx hb dX2_loseTrust_0 rfl (lv_at hl 0 rfl) ?_
  refine lv_aload_n hx hb dX2_loseTrust_1 rfl (lv_at hl 0 rfl) ?_
  refine gf_X2_2 hx hb hown hC (RA.pe hR hp) (zf_X2_9 hC.1) dX2_loseTrust_2 ?_
  refine lv_iconst (v := 1) hx hb dX2_loseTrust_5 (by decide) ?_
  refine lv_isub hx hb dX2_loseTrust_6 ?_
  refine lv_iconst (v := 0) hx hb dX2_loseTrust_7 (by decide) ?_
  refine va_mmax hx hb (hml.trans hl.1.symm) hown (zm_X2_34 hC.1) (ztm_max hC.1) (znm hC.1) (zkm_max hC.1) (Nat.le_of_ble_eq_true rfl) (Nat.le_of_ble_eq_true rfl) (Nat.zero_le _) (Nat.zero_le _) dX2_loseTrust_8 ?_
  refine pf_X2_2 hx hb hown hC (RA.pe hR hp) hS (Or.inl (RA.ow hR (k := 6) hp)) (zf_X2_9 hC.1) rfl rfl dX2_loseTrust_11 (fun H1 locs1 hat hz hq hS => ?_)
  have hR : RA E (u_tr S (p9) (maxI ((S.tr (p9)) - (1)) (0))) g H1 := RA.s_tr (v := (maxI ((S.tr (p9)) - (1)) (0))) hR hp hat hq
  exact wr_v hx hb hr hlocks hS ⟨(by unfold loseS; exact hR), rfl⟩ (Nat.le_of_ble_eq_true rfl) (Nat.le_of_ble_eq_true rfl) dX2_loseTrust_14
set_option maxRecDepth 100000 in
set_option maxHeartbeats 4000000 in
theorem c_X6_match (l : Launch) (E : EE) {S : St} {g : Gh} (hI : Inv S) {c9 : Nat} (hc : c9 < S.nc) {r9 : Nat} (hr9 : r9 < S.nr) : WM l E yX6_match cX6_match 3 none (wD 2 0 0) [.ref (g.ad 1 0), .ref (g.ad 8 (c9)), .ref (g.ad 9 (r9))] (RA E S g) (ow g) (fun _ v H => RA E (matchS S c9 r9) g H ∧ v = none) := by
  refine wm_of rfl (Nat.le_of_ble_eq_true rfl) (fun p e s m below meth c ls hx hb hr hml (hown : s.vm.findClass RX6 = some m.cls) hC hlocks hR hl hini => ?_)
  have hS : va_S (fun q => ow g q ∨ s.heap.size ≤ q) s.heap s.heap [] := va_S.rf
  have hl : lv_has ls 3 [(0, .ref (g.ad 1 0)), (1, .ref (g.ad 8 (c9))), (2, .ref (g.ad 9 (r9)))] := hl
  refine lv_aload_n hx hb dX6_match_0 rfl (lv_at hl 1 rfl) ?_
  refine lv_iconst (v := 1) hx hb dX6_match_1 (by decide) ?_
  refine pf_X0_8 hx hb hown hC (RA.ch hR hc) hS (Or.inl (RA.ow hR (k := 8) hc)) (zf_X6_197 hC.1) rfl rfl dX6_match_2 (fun H1 locs1 hat hz hq hS => ?_)
  have hR : RA E (u_cs S (c9) (1)) g H1 := RA.s_cs (v := 1) hR hc hat hq
  refine lv_aload_n hx hb dX6_match_5 rfl (lv_at hl 1 rfl) ?_
  refine lv_aload_n hx hb dX6_match_6 rfl (lv_at hl 2 rfl) ?_
  refine pf_X0_9 hx hb hown hC (RA.ch hR hc) hS (Or.inl (RA.ow hR (k := 8) hc)) (zf_X6_223 hC.1) rfl rfl dX6_match_7 (fun H1 locs1 hat hz hq hS => ?_)
  have hR : RA E (u_cr (u_cs S (c9) (1)) (c9) ((some (r9)))) g H1 := RA.s_cr (v := (some (r9))) hR hc hat hq
  refine lv_aload_n hx hb dX6_match_10 rfl (lv_at hl 2 rfl) ?_
  refine lv_aload_n hx hb dX6_match_11 rfl (lv_at hl 1 rfl) ?_
  refine pf_X3_4 hx hb hown hC (RA.re hR hr9) hS (Or.inl (RA.ow hR (k := 9) hr9)) (zf_X6_182 hC.1) rfl rfl dX6_match_12 (fun H1 locs1 hat hz hq hS => ?_)
  have hR : RA E (u_ro (u_cr (u_cs S (c9) (1)) (c9) ((some (r9)))) (r9) ((some (c9)))) g H1 := RA.s_ro (v := (some (c9))) hR hr9 hat hq
  refine lv_aload_n hx hb dX6_match_15 rfl (lv_at hl 0 rfl) ?_
  refine gf_X6_8 hx hb hown hC (RA.x hR) (zf_X6_43 hC.1) dX6_match_16 ?_
  refine lv_aload_n hx hb dX6_match_19 rfl (lv_at hl 1 rfl) ?_
  refine gf_X0_6 hx hb hown hC (RA.ch hR hc) (zf_X6_220 hC.1) dX6_match_20 ?_
  refine lv_isub hx hb dX6_match_23 ?_
  refine lv_bipush (v := 7) hx hb dX6_match_24 (by decide) ?_
  refine lv_icmp_gt (tgt := 36) hx hb dX6_match_26 (by decide) (fun c_26 => ?_) (fun c_26 => ?_)
  ·
    have c_26 : (7 : Int32) < ((nI S.td) - (nI (S.cd (c9)))) := c_26
    exact wr_v hx hb hr hlocks hS ⟨(by unfold matchS; rw [if_pos c_26]; exact hR), rfl⟩ (Nat.le_of_ble_eq_true rfl) (Nat.le_of_ble_eq_true rfl) dX6_match_36
  ·
    have c_26 : ¬ (7 : Int32) < ((nI S.td) - (nI (S.cd (c9)))) := c_26
    refine lv_aload_n hx hb dX6_match_29 rfl (lv_at hl 1 rfl) ?_
    refine gf_X0_1 hx hb hown hC (RA.ch hR hc) (zf_X6_211 hC.1) dX6_match_30 ?_
    refine wcv_V (As := []) hx hb hml hown hC hl (c_X2_gainPoint l E (S := (u_ro (u_cr (u_cs S (c9) (1)) (c9) ((some (r9)))) (r9) ((some (c9))))) (hI.cp hc)) (rec_of hC (RA.pe hR (hI.cp hc)) rfl) (zm_X6_383 hC.1) kv_X2_gainPoint hR hS (fun q h => h.imp id (Nat.le_trans hS.1)) rfl rfl (wD_le (by decide) (by decide)) (Nat.le_of_ble_eq_true rfl) ⟨Nat.le_of_ble_eq_true rfl, Nat.le_of_ble_eq_true rfl⟩ dX6_match_33 (fun H1 locs1 hR hz hq hS => ?_)
    exact wr_v hx hb hr hlocks hS ⟨(by unfold matchS; rw [if_neg c_26]; exact hR), rfl⟩ (Nat.le_of_ble_eq_true rfl) (Nat.le_of_ble_eq_true rfl) dX6_match_36
set_option maxRecDepth 100000 in
set_option maxHeartbeats 4000000 in
theorem c_X6_isOverdue (l : Launch) (E : EE) {S : St} {g : Gh} (hI : Inv S) {c9 : Nat} (hc : c9 < S.nc) : RM l E yX6_isOverdue cX6_isOverdue 3 .boolean (rD 0) [.ref (g.ad 1 0), .ref (g.ad 8 (c9))] (RA E S g) (.int (growR S c9)) := by
  refine rm_of rfl (Nat.le_of_ble_eq_true rfl) (fun p e s m below meth c ls hx hb hr hml (hown : s.vm.findClass RX6 = some m.cls) hC hlocks hR hl => ?_)
  have hl : lv_has ls 3 [(0, .ref (g.ad 1 0)), (1, .ref (g.ad 8 (c9)))] := hl
  refine lv_aload_n hx hb dX6_isOverdue_0 rfl (lv_at hl 0 rfl) ?_
  refine gf_X6_8 hx hb hown hC (RA.x hR) (zf_X6_43 hC.1) dX6_isOverdue_1 ?_
  refine lv_aload_n hx hb dX6_isOverdue_4 rfl (lv_at hl 1 rfl) ?_
  refine gf_X0_6 hx hb hown hC (RA.ch hR hc) (zf_X6_220 hC.1) dX6_isOverdue_5 ?_
  refine lv_isub hx hb dX6_isOverdue_8 ?_
  refine lv_istore_n (lv' := [(2, .int ((nI S.td) - (nI (S.cd (c9))))), (0, .ref (g.ad 1 0)), (1, .ref (g.ad 8 (c9)))]) hx hb dX6_isOverdue_9 rfl hl (by decide) rfl (fun ls hl => ?_)
  refine lv_aload_n hx hb dX6_isOverdue_10 rfl (lv_at hl 2 rfl) ?_
  refine gf_X0_8 hx hb hown hC (RA.ch hR hc) (zf_X6_197 hC.1) dX6_isOverdue_11 ?_
  refine lv_if_ne (tgt := 33) hx hb dX6_isOverdue_14 (by decide) (fun c_14 => ?_) (fun c_14 => ?_)
  ·
    refine lv_iconst (v := 0) hx hb dX6_isOverdue_33 (by decide) ?_
    exact rr_z hx hb hr hlocks (by decide) (by unfold growR ageA; rw [if_neg c_14]) dX6_isOverdue_34
  ·
    refine lv_iload_n hx hb dX6_isOverdue_17 rfl (lv_at hl 0 rfl) ?_
    refine lv_bipush (v := 8) hx hb dX6_isOverdue_18 (by decide) ?_
    refine lv_icmp_eq (tgt := 29) hx hb dX6_isOverdue_20 (by decide) (fun c_20 => ?_) (fun c_20 => ?_)
    ·
      refine lv_iconst (v := 1) hx hb dX6_isOverdue_29 (by decide) ?_
      refine lv_goto (tgt := 34) hx hb dX6_isOverdue_30 (by decide) ?_
      exact rr_z hx hb hr hlocks (by decide) (by unfold growR ageA; rw [if_pos c_14, if_pos c_20]) dX6_isOverdue_34
    ·
      refine lv_iload_n hx hb dX6_isOverdue_23 rfl (lv_at hl 0 rfl) ?_
      refine lv_bipush (v := 15) hx hb dX6_isOverdue_24 (by decide) ?_
      refine lv_icmp_lt (tgt := 33) hx hb dX6_isOverdue_26 (by decide) (fun c_26 => ?_) (fun c_26 => ?_)
      ·
        refine lv_iconst (v := 0) hx hb dX6_isOverdue_33 (by decide) ?_
        exact rr_z hx hb hr hlocks (by decide) (by unfold growR ageA; rw [if_pos c_14, if_neg c_20, if_neg (fun h => Int32.not_lt.mpr h c_26)]) dX6_isOverdue_34
      ·
        refine lv_iconst (v := 1) hx hb dX6_isOverdue_29 (by decide) ?_
        refine lv_goto (tgt := 34) hx hb dX6_isOverdue_30 (by decide) ?_
        exact rr_z hx hb hr hlocks (by decide) (by unfold growR ageA; rw [if_pos c_14, if_neg c_20, if_pos (Int32.not_lt.mp c_26)]) dX6_isOverdue_34
set_option maxRecDepth 100000 in
set_option maxHeartbeats 4000000 in
theorem c_X6_bearDelay (l : Launch) (E : EE) {S : St} {g : Gh} (hI : Inv S) {c9 : Nat} (hc : c9 < S.nc) : WM l E yX6_bearDelay cX6_bearDelay 2 none (wD 2 0 0) [.ref (g.ad 1 0), .ref (g.ad 8 (c9))] (RA E S g) (ow g) (fun _ v H => RA E (bearS S c9) g H ∧ v = none) := by
  refine wm_of rfl (Nat.le_of_ble_eq_true rfl) (fun p e s m below meth c ls hx hb hr hml (hown : s.vm.findClass RX6 = some m.cls) hC hlocks hR hl hini => ?_)
  have hS : va_S (fun q => ow g q ∨ s.heap.size ≤ q) s.heap s.heap [] := va_S.rf
  have hl : lv_has ls 2 [(0, .ref (g.ad 1 0)), (1, .ref (g.ad 8 (c9)))] := hl
  refine lv_aload_n hx hb dX6_bearDelay_0 rfl (lv_at hl 0 rfl) ?_
  refine gf_X6_8 hx hb hown hC (RA.x hR) (zf_X6_43 hC.1) dX6_bearDelay_1 ?_
  refine lv_aload_n hx hb dX6_bearDelay_4 rfl (lv_at hl 1 rfl) ?_
  refine gf_X0_6 hx hb hown hC (RA.ch hR hc) (zf_X6_220 hC.1) dX6_bearDelay_5 ?_
  refine lv_isub hx hb dX6_bearDelay_8 ?_
  refine lv_bipush (v := 15) hx hb dX6_bearDelay_9 (by decide) ?_
  refine lv_icmp_lt (tgt := 22) hx hb dX6_bearDelay_11 (by decide) (fun c_11 => ?_) (fun c_11 => ?_)
  ·
    refine lv_aload_n hx hb dX6_bearDelay_22 rfl (lv_at hl 1 rfl) ?_
    refine lv_iconst (v := 1) hx hb dX6_bearDelay_23 (by decide) ?_
    refine pf_X0_11 hx hb hown hC (RA.ch hR hc) hS (Or.inl (RA.ow hR (k := 8) hc)) (zf_X6_239 hC.1) rfl rfl dX6_bearDelay_24 (fun H1 locs1 hat hz hq hS => ?_)
    have hR : RA E (u_cm S (c9) (1)) g H1 := RA.s_cm (v := 1) hR hc hat hq
    refine lv_aload_n hx hb dX6_bearDelay_27 rfl (lv_at hl 1 rfl) ?_
    refine gf_X0_1 hx hb hown hC (RA.ch hR hc) (zf_X6_211 hC.1) dX6_bearDelay_28 ?_
    refine wcv_V (As := []) hx hb hml hown hC hl (c_X2_loseTrust l E (S := (u_cm S (c9) (1))) (hI.cp hc)) (rec_of hC (RA.pe hR (hI.cp hc)) rfl) (zm_X6_409 hC.1) kv_X2_loseTrust hR hS (fun q h => h.imp id (Nat.le_trans hS.1)) rfl rfl (wD_le (by decide) (by decide)) (Nat.le_of_ble_eq_true rfl) ⟨Nat.le_of_ble_eq_true rfl, Nat.le_of_ble_eq_true rfl⟩ dX6_bearDelay_31 (fun H1 locs1 hR hz hq hS => ?_)
    exact wr_v hx hb hr hlocks hS ⟨(by unfold bearS ageA; rw [if_pos c_11]; exact hR), rfl⟩ (Nat.le_of_ble_eq_true rfl) (Nat.le_of_ble_eq_true rfl) dX6_bearDelay_34
  ·
    refine lv_aload_n hx hb dX6_bearDelay_14 rfl (lv_at hl 1 rfl) ?_
    refine lv_iconst (v := 3) hx hb dX6_bearDelay_15 (by decide) ?_
    refine pf_X0_8 hx hb hown hC (RA.ch hR hc) hS (Or.inl (RA.ow hR (k := 8) hc)) (zf_X6_197 hC.1) rfl rfl dX6_bearDelay_16 (fun H1 locs1 hat hz hq hS => ?_)
    have hR : RA E (u_cs S (c9) (3)) g H1 := RA.s_cs (v := 3) hR hc hat hq
    refine lv_goto (tgt := 27) hx hb dX6_bearDelay_19 (by decide) ?_
    refine lv_aload_n hx hb dX6_bearDelay_27 rfl (lv_at hl 1 rfl) ?_
    refine gf_X0_1 hx hb hown hC (RA.ch hR hc) (zf_X6_211 hC.1) dX6_bearDelay_28 ?_
    refine wcv_V (As := []) hx hb hml hown hC hl (c_X2_loseTrust l E (S := (u_cs S (c9) (3))) (hI.cp hc)) (rec_of hC (RA.pe hR (hI.cp hc)) rfl) (zm_X6_409 hC.1) kv_X2_loseTrust hR hS (fun q h => h.imp id (Nat.le_trans hS.1)) rfl rfl (wD_le (by decide) (by decide)) (Nat.le_of_ble_eq_true rfl) ⟨Nat.le_of_ble_eq_true rfl, Nat.le_of_ble_eq_true rfl⟩ dX6_bearDelay_31 (fun H1 locs1 hR hz hq hS => ?_)
    exact wr_v hx hb hr hlocks hS ⟨(by unfold bearS ageA; rw [if_neg c_11]; exact hR), rfl⟩ (Nat.le_of_ble_eq_true rfl) (Nat.le_of_ble_eq_true rfl) dX6_bearDelay_34

