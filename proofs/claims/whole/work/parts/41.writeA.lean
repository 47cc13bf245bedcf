set_option maxRecDepth 100000 in
set_option maxHeartbeats 4000000 in
theorem c_X2_gainPoint (l : Launch) (E : EE) {S : St} {g : Gh} (hI : Inv S) {p9 : Nat} (hp : p9 < S.np) : WM l E yX2_gainPoint cX2_gainPoint 1 none (wD 1 0 0) [.ref (g.ad 6 (p9))] (RA E S g) (ow g) (fun _ v H => RA E (gainS S p9) g H ∧ v = none) := by
  refine wm_of rfl (Nat.le_of_ble_eq_true rfl) (fun p e s m below meth c ls hx hb hr hml (hown : s.vm.findClass RX2 = some m.cls) hC hlocks hR hl hini => ?_)
  have hS : va_S (fun q => ow g q ∨ s.heap.size ≤ q) s.heap s.heap [] := va_S.rf
  have hl : lv_has ls 1 [(0, .ref (g.ad 6 (p9)))] := hl
  refine lv_aload_n hx hb dX2_gainPoint_0 rfl (lv_at hl 0 rfl) ?_
  refine lv_dup hx hb dX2_gainPoint_1 rfl ?_
  refine gf_X2_3 hx hb hown hC (RA.pe hR hp) (zf_X2_15 hC.1) dX2_gainPoint_2 ?_
  refine lv_iconst (v := 1) hx hb dX2_gainPoint_5 (by decide) ?_
  refine lv_iadd hx hb dX2_gainPoint_6 ?_
  refine pf_X2_3 hx hb hown hC (RA.pe hR hp) hS (Or.inl (RA.ow hR (k := 6) hp)) (zf_X2_15 hC.1) rfl rfl dX2_gainPoint_7 (fun H1 locs1 hat hz hq hS => ?_)
  have hR : RA E (u_po S (p9) ((S.po (p9)) + (1))) g H1 := RA.s_po (v := (S.po (p9)) + (1)) hR hp hat hq
  refine lv_aload_n hx hb dX2_gainPoint_10 rfl (lv_at hl 0 rfl) ?_
  refine gf_X2_3 hx hb hown hC (RA.pe hR hp) (zf_X2_15 hC.1) dX2_gainPoint_11 ?_
  refine lv_iconst (v := 3) hx hb dX2_gainPoint_14 (by decide) ?_
  refine lv_icmp_lt (tgt := 38) hx hb dX2_gainPoint_15 (by decide) (fun c_15 => ?_) (fun c_15 => ?_)
  ·
    exact wr_v hx hb hr hlocks hS ⟨(by unfold gainS; rw [if_pos c_15]; exact hR), rfl⟩ (Nat.le_of_ble_eq_true rfl) (Nat.le_of_ble_eq_true rfl) dX2_gainPoint_38
  ·
    refine lv_aload_n hx hb dX2_gainPoint_18 rfl (lv_at hl 0 rfl) ?_
    refine lv_iconst (v := 0) hx hb dX2_gainPoint_19 (by decide) ?_
    refine pf_X2_3 hx hb hown hC (RA.pe hR hp) hS (Or.inl (RA.ow hR (k := 6) hp)) (zf_X2_15 hC.1) rfl rfl dX2_gainPoint_20 (fun H1 locs1 hat hz hq hS => ?_)
    have hR : RA E (u_po (u_po S (p9) ((S.po (p9)) + (1))) (p9) (0)) g H1 := RA.s_po (v := 0) hR hp hat hq
    refine lv_aload_n hx hb dX2_gainPoint_23 rfl (lv_at hl 0 rfl) ?_
    refine lv_aload_n hx hb dX2_gainPoint_24 rfl (lv_at hl 0 rfl) ?_
    refine gf_X2_2 hx hb hown hC (RA.pe hR hp) (zf_X2_9 hC.1) dX2_gainPoint_25 ?_
    refine lv_iconst (v := 1) hx hb dX2_gainPoint_28 (by decide) ?_
    refine lv_iadd hx hb dX2_gainPoint_29 ?_
    refine lv_bipush (v := 10) hx hb dX2_gainPoint_30 (by decide) ?_
    refine va_mmin hx hb (hml.trans hl.1.symm) hown (zm_X2_28 hC.1) (ztm_min hC.1) (znm hC.1) (zkm_min hC.1) (by decide) (by decide) (Nat.zero_le _) (Nat.zero_le _) dX2_gainPoint_32 ?_
    refine pf_X2_2 hx hb hown hC (RA.pe hR hp) hS (Or.inl (RA.ow hR (k := 6) hp)) (zf_X2_9 hC.1) rfl rfl dX2_gainPoint_35 (fun H1 locs1 hat hz hq hS => ?_)
    have hR : RA E (u_tr (u_po (u_po S (p9) ((S.po (p9)) + (1))) (p9) (0)) (p9) (minI ((S.tr (p9)) + (1)) (10))) g H1 := RA.s_tr (v := (minI ((S.tr (p9)) + (1)) (10))) hR hp hat hq
    exact wr_v hx hb hr hlocks hS ⟨(by unfold gainS; rw [if_neg c_15]; exact hR), rfl⟩ (Nat.le_of_ble_eq_true rfl) (Nat.le_of_ble_eq_true rfl) dX2_gainPoint_38
set_option maxRecDepth 100000 in
set_option maxHeartbeats 4000000 in
theorem c_X2_loseTrust (l : Launch) (E : EE) {S : St} {g : Gh} (hI : Inv S) {p9 : Nat} (hp : p9 < S.np) : WM l E yX2_loseTrust cX2_loseTrust 1 none (wD 1 0 0) [.ref (g.ad 6 (p9))] (RA E S g) (ow g) (fun _ v H => RA E (loseS S p9) g H ∧ v = none) := by
  refine wm_of rfl (Nat.le_of_ble_eq_true rfl) (fun p e s m below meth c ls hx hb hr hml (hown : s.vm.findClass RX2 = some m.cls) hC hlocks hR hl hini => ?_)
  have hS : va_S (fun q => ow g q ∨ s.heap.size ≤ q) s.heap s.heap [] := va_S.rf
  have hl : lv_has ls 1 [(0, .ref (g.ad 6 (p9)))] := hl
  refine lv_aload_n hx hb dX2_loseTrust_0 rfl (lv_at hl 0 rfl) ?_
  refine lv_aload_n hx hb dX2_loseTrust_1 rfl (lv_at hl 0 rfl) ?_
  refine gf_X2_2 hx hb hown hC (RA.pe hR hp) (zf_X2_9 hC.1) dX2_loseTrust_2 ?_
  refine lv_iconst (v := 1) hx hb dX2_loseTrust_5 (by decide) ?_
  refine lv_isub hx hb dX2_loseTrust_6 ?_
  refine lv_iconst (v := 0) hx hb dX2_loseTrust_7 (by decide) ?_
  refine va_mmax hx hb (hml.trans hl.1.symm) hown (zm_X2_34 hC.1) (ztm_max hC.1) (znm hC.1) (zkm_max hC.1) (by decide) (by decide) (Nat.zero_le _) (Nat.zero_le _) dX2_loseTrust_8 ?_
  refine pf_X2_2 hx hb hown hC (RA.pe hR hp) hS (Or.inl (RA.ow hR (k := 6) hp)) (zf_X2_9 hC.1) rfl rfl dX2_loseTrust_11 (fun H1 locs1 hat hz hq hS => ?_)
  have hR : RA E (u_tr S (p9) (maxI ((S.tr (p9)) - (1)) (0))) g H1 := RA.s_tr (v := (maxI ((S.tr (p9)) - (1)) (0))) hR hp hat hq
  exact wr_v hx hb hr hlocks hS ⟨(by unfold loseS; exact hR), rfl⟩ (Nat.le_of_ble_eq_true rfl) (Nat.le_of_ble_eq_true rfl) dX2_loseTrust_14
