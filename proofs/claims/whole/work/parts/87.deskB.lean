theorem minI_c (x a : Int32) : (if x < a then x else a) = minI x a := by
  unfold minI
  by_cases h : x < a
  · rw [if_pos h, if_neg (fun q => i_ltle q (by rw [Int32.le_iff_toInt_le]; rw [Int32.lt_iff_toInt_lt] at h; omega))]
  · rw [if_neg h]
    by_cases h2 : a < x
    · rw [if_pos h2]
    · rw [if_neg h2]
      apply Int32.toInt.inj
      rw [Int32.lt_iff_toInt_lt] at h h2
      omega
theorem maxI_c (x a : Int32) : (if a < x then x else a) = maxI x a := by
  unfold maxI
  by_cases h : a < x
  · rw [if_pos h, if_neg (fun q => i_ltle q (by rw [Int32.le_iff_toInt_le]; rw [Int32.lt_iff_toInt_lt] at h; omega))]
  · rw [if_neg h]
    by_cases h2 : x < a
    · rw [if_pos h2]
    · rw [if_neg h2]
      apply Int32.toInt.inj
      rw [Int32.lt_iff_toInt_lt] at h h2
      omega
theorem itB_some {S : St} : ∀ (n k : Nat) (o : Option Nat), k < cntB S n o → ¬ itB S k o = none := by
  intro n
  induction n with
  | zero => intro k o h; exact absurd h (Nat.not_lt_zero k)
  | succ n ih =>
    intro k o h
    cases o with
    | none => exact absurd h (Nat.not_lt_zero k)
    | some j =>
      have h : k < cntB S n (S.bo j) + 1 := h
      cases k with
      | zero => intro e; cases e
      | succ k => rw [itB_s]; exact ih k _ (by omega)
theorem bossN_n (S : St) (c : Nat) : bossN S c = none ↔ needB S c ≤ S.ce c := by
  unfold bossN
  by_cases h : needB S c ≤ S.ce c
  · rw [if_pos h]; exact ⟨fun _ => h, fun _ => itB_z _⟩
  · rw [if_neg h]; exact ⟨fun e => absurd e (itB_some _ _ _ (Nat.lt_of_not_le h)), fun e => absurd e h⟩
set_option maxRecDepth 100000 in
set_option maxHeartbeats 4000000 in
theorem c_X8_match (l : Launch) (E : EE) {S : St} {th : Int32} {g : Gh} (hI : Inv S) {c9 : Nat} (hc : c9 < S.nc) {r9 : Nat} (hr9 : r9 < S.nr) (hs : S.cs c9 = 0) : WM l E yX8_match cX8_match 5 none (wD 3 0 0) [.ref (g.ad 12 0), .int (nI c9), .int (nI r9)] (RB E S th g) (ow g) (fun _ v H => RB E (matchS S c9 r9) (th) g H ∧ v = none) := by
  refine wm_of rfl (Nat.le_of_ble_eq_true rfl) (fun p e s m below meth c ls hx hb hr hml (hown : s.vm.findClass RX8 = some m.cls) hC hlocks hR hl hini => ?_)
  have hS : va_S (fun q => ow g q ∨ s.heap.size ≤ q) s.heap s.heap [] := va_S.rf
  have hl : lv_has ls 5 [(0, .ref (g.ad 12 0)), (1, .int (nI c9)), (2, .int (nI r9))] := hl
  have hs0 : S.ce c9 = 0 := ((hI.2.2.2.1 c9 hc).2.2.2.2.2.2.2.2.2.2.1 hs).1
  refine lv_aload_n hx hb dX8_match_0 rfl (lv_at hl 0 rfl) ?_
  refine gf_X8_2 hx hb hown hC (RB.dk hR) (zf_X8_21 hC.1) dX8_match_1 ?_
  refine lv_iload_n hx hb dX8_match_4 rfl (lv_at hl 1 rfl) ?_
  refine rc_V (As := [.int (nI c9)]) hx hb hml hown hC hl (c_getLB l E 2 rfl hR (by decide) hc) (rec_of hC (RB.ls hR (by decide : 2 < 4)) rfl) (zm_X8_39 hC.1) kv_Jx4a65c_get_915e3 (RB.gp hR 2 (by decide) hc) rfl rfl (rwD_le (by decide) (by decide)) ⟨rfl, rfl⟩ (Nat.le_of_ble_eq_true rfl) ⟨Nat.zero_le _, Nat.zero_le _⟩ dX8_match_5 ?_
  refine g_cast hx hb hown hC (RB.ch hR hc) rfl (zc_X8_83 hC.1) dX8_match_8 ?_
  refine lv_astore_n (lv' := [(3, .ref (g.ad 8 (c9))), (0, .ref (g.ad 12 0)), (1, .int (nI c9)), (2, .int (nI r9))]) hx hb dX8_match_11 rfl hl (by decide) rfl (fun ls hl => ?_)
  refine lv_aload_n hx hb dX8_match_12 rfl (lv_at hl 0 rfl) ?_
  refine lv_iconst (v := 1) hx hb dX8_match_13 (by decide) ?_
  refine pf_X7_8 hx hb hown hC (RB.ch hR hc) hS (Or.inl (RB.ow hR (k := 8) hc)) (zf_X8_101 hC.1) rfl rfl dX8_match_14 (fun H1 locs1 hat hz hq hS => ?_)
  have hR : RB E (u_cs S (c9) (1)) (th) g H1 := RB.s_cs (v := 1) hR hc hat hq
  refine lv_aload_n hx hb dX8_match_17 rfl (lv_at hl 0 rfl) ?_
  refine lv_iload_n hx hb dX8_match_18 rfl (lv_at hl 3 rfl) ?_
  refine pf_X7_9 hx hb hown hC (RB.ch hR hc) hS (Or.inl (RB.ow hR (k := 8) hc)) (zf_X8_134 hC.1) rfl rfl dX8_match_19 (fun H1 locs1 hat hz hq hS => ?_)
  have hR : RB E (u_cr (u_cs S (c9) (1)) (c9) (some (r9))) (th) g H1 := RB.s_cr (v := (some (r9))) hR hc hat hq
  refine lv_aload_n hx hb dX8_match_22 rfl (lv_at hl 0 rfl) ?_
  refine lv_iconst (v := 0) hx hb dX8_match_23 (by decide) ?_
  refine pf_X7_10 hx hb hown hC (RB.ch hR hc) hS (Or.inl (RB.ow hR (k := 8) hc)) (zf_X8_137 hC.1) rfl rfl dX8_match_24 (fun H1 locs1 hat hz hq hS => ?_)
  have hR : RB E (u_ce (u_cr (u_cs S (c9) (1)) (c9) (some (r9))) (c9) (0)) (th) g H1 := RB.s_ce (v := 0) hR hc hat hq
  have hR : RB E (u_cr (u_cs S (c9) (1)) (c9) (some (r9))) th g H1 := by have h := hR; rw [show u_ce (u_cr (u_cs S (c9) (1)) (c9) (some (r9))) c9 0 = (u_cr (u_cs S (c9) (1)) (c9) (some (r9))) from by have e9 := u_ce_id (u_cr (u_cs S (c9) (1)) (c9) (some (r9))) c9; rw [show (u_cr (u_cs S (c9) (1)) (c9) (some (r9))).ce c9 = 0 from hs0] at e9; exact e9] at h; exact h
  refine lv_aload_n hx hb dX8_match_27 rfl (lv_at hl 1 rfl) ?_
  refine gf_X8_3 hx hb hown hC (RB.dk hR) (zf_X8_24 hC.1) dX8_match_28 ?_
  refine lv_iload_n hx hb dX8_match_31 rfl (lv_at hl 3 rfl) ?_
  refine rc_V (As := [.int (nI r9)]) hx hb hml hown hC hl (c_getLB l E 3 rfl hR (by decide) hr9) (rec_of hC (RB.ls hR (by decide : 3 < 4)) rfl) (zm_X8_39 hC.1) kv_Jx4a65c_get_915e3 (RB.gp hR 3 (by decide) hr9) rfl rfl (rwD_le (by decide) (by decide)) ⟨rfl, rfl⟩ (Nat.le_of_ble_eq_true rfl) ⟨Nat.zero_le _, Nat.zero_le _⟩ dX8_match_32 ?_
  refine g_cast hx hb hown hC (RB.re hR hr9) rfl (zc_X8_121 hC.1) dX8_match_35 ?_
  refine lv_iload_n hx hb dX8_match_38 rfl (lv_at hl 2 rfl) ?_
  refine pf_X10_3 hx hb hown hC (RB.re hR hr9) hS (Or.inl (RB.ow hR (k := 9) hr9)) (zf_X8_123 hC.1) rfl rfl dX8_match_39 (fun H1 locs1 hat hz hq hS => ?_)
  have hR : RB E (u_ro (u_cr (u_cs S (c9) (1)) (c9) (some (r9))) (r9) (some (c9))) (th) g H1 := RB.s_ro (v := (some (c9))) hR hr9 hat hq
  refine lv_aload_n hx hb dX8_match_42 rfl (lv_at hl 1 rfl) ?_
  refine gf_X8_7 hx hb hown hC (RB.dk hR) (zf_X8_49 hC.1) dX8_match_43 ?_
  refine lv_aload_n hx hb dX8_match_46 rfl (lv_at hl 0 rfl) ?_
  refine gf_X7_5 hx hb hown hC (RB.ch hR hc) (zf_X8_96 hC.1) dX8_match_47 ?_
  refine lv_isub hx hb dX8_match_50 ?_
  refine lv_bipush (v := 7) hx hb dX8_match_51 (by decide) ?_
  refine lv_icmp_le (tgt := 57) hx hb dX8_match_53 (by decide) (fun c_53 => ?_) (fun c_53 => ?_)
  ·
    have c_53 : ((nI S.td) - (nI (S.cd (c9))) : Int32) ≤ (7) := c_53
    have c_53 : ¬ (7 : Int32) < (nI S.td - nI (S.cd c9)) := fun h => i_ltle h c_53
    refine lv_aload_n hx hb dX8_match_57 rfl (lv_at hl 1 rfl) ?_
    refine gf_X8_0 hx hb hown hC (RB.dk hR) (zf_X8_12 hC.1) dX8_match_58 ?_
    refine lv_aload_n hx hb dX8_match_61 rfl (lv_at hl 0 rfl) ?_
    refine gf_X7_0 hx hb hown hC (RB.ch hR hc) (zf_X8_92 hC.1) dX8_match_62 ?_
    refine rc_V (As := [.int (nI (S.cp (c9)))]) hx hb hml hown hC hl (c_getLB l E 0 rfl hR (by decide) (hI.cp hc)) (rec_of hC (RB.ls hR (by decide : 0 < 4)) rfl) (zm_X8_39 hC.1) kv_Jx4a65c_get_915e3 (RB.gp hR 0 (by decide) (hI.cp hc)) rfl rfl (rwD_le (by decide) (by decide)) ⟨rfl, rfl⟩ (Nat.le_of_ble_eq_true rfl) ⟨Nat.zero_le _, Nat.zero_le _⟩ dX8_match_65 ?_
    refine g_cast hx hb hown hC (RB.pe hR (hI.cp hc)) rfl (zc_X8_43 hC.1) dX8_match_68 ?_
    refine lv_astore (lv' := [(4, .ref (g.ad 6 (S.cp (c9)))), (3, .ref (g.ad 8 (c9))), (0, .ref (g.ad 12 0)), (1, .int (nI c9)), (2, .int (nI r9))]) hx hb dX8_match_71 hl (by decide) rfl (fun ls hl => ?_)
    refine lv_aload hx hb dX8_match_73 (lv_at hl 0 rfl) ?_
    refine lv_dup hx hb dX8_match_75 rfl ?_
    refine gf_X9_3 hx hb hown hC (RB.pe hR (hI.cp hc)) (zf_X8_140 hC.1) dX8_match_76 ?_
    refine lv_iconst (v := 1) hx hb dX8_match_79 (by decide) ?_
    refine lv_iadd hx hb dX8_match_80 ?_
    refine pf_X9_3 hx hb hown hC (RB.pe hR (hI.cp hc)) hS (Or.inl (RB.ow hR (k := 6) (hI.cp hc))) (zf_X8_140 hC.1) rfl rfl dX8_match_81 (fun H1 locs1 hat hz hq hS => ?_)
    have hR : RB E (u_po (u_ro (u_cr (u_cs S (c9) (1)) (c9) (some (r9))) (r9) (some (c9))) (S.cp (c9)) ((S.po (S.cp (c9))) + (1))) (th) g H1 := RB.s_po (v := ((S.po (S.cp (c9))) + (1))) hR (hI.cp hc) hat hq
    refine lv_aload hx hb dX8_match_84 (lv_at hl 0 rfl) ?_
    refine gf_X9_3 hx hb hown hC (RB.pe hR (hI.cp hc)) (zf_X8_140 hC.1) dX8_match_86 ?_
    refine lv_iconst (v := 3) hx hb dX8_match_89 (by decide) ?_
    refine lv_icmp_ge (tgt := 94) hx hb dX8_match_90 (by decide) (fun c_90 => ?_) (fun c_90 => ?_)
    ·
      have c_90 : (3 : Int32) ≤ ((u_po (u_ro (u_cr (u_cs S (c9) (1)) (c9) (some (r9))) (r9) (some (c9))) (S.cp (c9)) ((S.po (S.cp (c9))) + (1))).po (S.cp (c9))) := c_90
      have c_90 : ¬ (u_po (matS S c9 r9) (S.cp c9) ((matS S c9 r9).po (S.cp c9) + 1)).po (S.cp c9) < 3 := fun h => i_ltle h c_90
      refine lv_aload hx hb dX8_match_94 (lv_at hl 0 rfl) ?_
      refine lv_iconst (v := 0) hx hb dX8_match_96 (by decide) ?_
      refine pf_X9_3 hx hb hown hC (RB.pe hR (hI.cp hc)) hS (Or.inl (RB.ow hR (k := 6) (hI.cp hc))) (zf_X8_140 hC.1) rfl rfl dX8_match_97 (fun H1 locs1 hat hz hq hS => ?_)
      have hR : RB E (u_po (u_po (u_ro (u_cr (u_cs S (c9) (1)) (c9) (some (r9))) (r9) (some (c9))) (S.cp (c9)) ((S.po (S.cp (c9))) + (1))) (S.cp (c9)) (0)) (th) g H1 := RB.s_po (v := 0) hR (hI.cp hc) hat hq
      refine lv_aload hx hb dX8_match_100 (lv_at hl 0 rfl) ?_
      refine lv_bipush (v := 10) hx hb dX8_match_102 (by decide) ?_
      refine lv_aload hx hb dX8_match_104 (lv_at hl 0 rfl) ?_
      refine gf_X9_2 hx hb hown hC (RB.pe hR (hI.cp hc)) (zf_X8_77 hC.1) dX8_match_106 ?_
      refine lv_iconst (v := 1) hx hb dX8_match_109 (by decide) ?_
      refine lv_iadd hx hb dX8_match_110 ?_
      refine va_mmin hx hb (hml.trans hl.1.symm) hown (zm_X8_143 hC.1) (ztm_min hC.1) (znm hC.1) (zkm_min hC.1) (Nat.le_of_ble_eq_true rfl) (Nat.le_of_ble_eq_true rfl) (Nat.zero_le _) (Nat.zero_le _) dX8_match_111 ?_
      rw [minI_c]
      refine pf_X9_2 hx hb hown hC (RB.pe hR (hI.cp hc)) hS (Or.inl (RB.ow hR (k := 6) (hI.cp hc))) (zf_X8_77 hC.1) rfl rfl dX8_match_114 (fun H1 locs1 hat hz hq hS => ?_)
      have hR : RB E (u_tr (u_po (u_po (u_ro (u_cr (u_cs S (c9) (1)) (c9) (some (r9))) (r9) (some (c9))) (S.cp (c9)) ((S.po (S.cp (c9))) + (1))) (S.cp (c9)) (0)) (S.cp (c9)) (minI ((S.tr (S.cp (c9))) + (1)) 10)) (th) g H1 := RB.s_tr (v := (minI ((S.tr (S.cp (c9))) + (1)) 10)) hR (hI.cp hc) hat hq
      exact wr_v hx hb hr hlocks hS ⟨(by unfold matchS gainS; rw [if_neg c_53, if_neg c_90]; exact hR), rfl⟩ (Nat.le_of_ble_eq_true rfl) (Nat.le_of_ble_eq_true rfl) dX8_match_117
    ·
      have c_90 : ¬ (3 : Int32) ≤ ((u_po (u_ro (u_cr (u_cs S (c9) (1)) (c9) (some (r9))) (r9) (some (c9))) (S.cp (c9)) ((S.po (S.cp (c9))) + (1))).po (S.cp (c9))) := c_90
      have c_90 : (u_po (matS S c9 r9) (S.cp c9) ((matS S c9 r9).po (S.cp c9) + 1)).po (S.cp c9) < 3 := i_nle c_90
      exact wr_v hx hb hr hlocks hS ⟨(by unfold matchS gainS; rw [if_neg c_53, if_pos c_90]; exact hR), rfl⟩ (Nat.le_of_ble_eq_true rfl) (Nat.le_of_ble_eq_true rfl) dX8_match_93
  ·
    have c_53 : ¬ ((nI S.td) - (nI (S.cd (c9))) : Int32) ≤ (7) := c_53
    have c_53 : (7 : Int32) < (nI S.td - nI (S.cd c9)) := i_nle c_53
    exact wr_v hx hb hr hlocks hS ⟨(by unfold matchS; rw [if_pos c_53]; exact hR), rfl⟩ (Nat.le_of_ble_eq_true rfl) (Nat.le_of_ble_eq_true rfl) dX8_match_56
set_option maxRecDepth 100000 in
set_option maxHeartbeats 4000000 in
theorem c_X8_goOn (l : Launch) (E : EE) {S : St} {th : Int32} {g : Gh} (hI : Inv S)  : WM l E yX8_goOn cX8_goOn 3 none (wD 5 0 0) [.ref (g.ad 12 0)] (RB E S th g) (ow g) (fun _ v H => RB E (passS S) (th) g H ∧ v = none) := by
  refine wm_of rfl (Nat.le_of_ble_eq_true rfl) (fun p e s m below meth c ls hx hb hr hml (hown : s.vm.findClass RX8 = some m.cls) hC hlocks hR hl hini => ?_)
  have hS : va_S (fun q => ow g q ∨ s.heap.size ≤ q) s.heap s.heap [] := va_S.rf
  have hl : lv_has ls 3 [(0, .ref (g.ad 12 0))] := hl
  have hI0 := hI
  refine lv_iconst (v := 0) hx hb dX8_goOn_0 (by decide) ?_
  refine lv_istore_n (lv' := [(1, .int (0)), (0, .ref (g.ad 12 0))]) hx hb dX8_goOn_1 rfl hl (by decide) rfl (fun ls hl => ?_)
  have loop2 : ∀ (r i : Nat) (H1 : Heap) (locs1 : List Loc), i + r = S.nc → RB E (passF S i) th g H1 → va_S (fun q => ow g q ∨ s.heap.size ≤ q) s.heap H1 locs1 → ∀ ls, lv_has ls 3 [(1, .int (nI (i))), (0, .ref (g.ad 12 0))] → W p l e (wD 5 0 0) s m ([.ref (g.ad 12 0)] : List Value).toArray below meth c H1 locs1 0 0 (MQ below (WQ (ow g) s.heap.size (fun v H => RB E (passS S) (th) g H ∧ v = none)) ([.ref (g.ad 12 0)] : List Value).toArray s (wD 5 0 0).cells (wD 5 0 0).slots (fun q => ow g q ∨ s.heap.size ≤ q)) (F0 m 2 ls []) := by
    intro r
    induction r with
    | zero =>
      intro i H1 locs1 hE hR hS ls hl
      have hN : i = S.nc := by omega
      subst hN
      have hnc : (passF S S.nc).nc = S.nc := passF_nc S (S.nc)
      have hI : Inv (passF S S.nc) := hI0.pF (S.nc) (Nat.le_refl _)
      refine lv_iload_n hx hb dX8_goOn_2 rfl (lv_at hl 0 rfl) ?_
      refine lv_aload_n hx hb dX8_goOn_3 rfl (lv_at hl 1 rfl) ?_
      refine gf_X8_2 hx hb hown hC (RB.dk hR) (zf_X8_21 hC.1) dX8_goOn_4 ?_
      refine rc_V (As := []) hx hb hml hown hC hl (c_size l E _ _ _ _) (rec_of hC (RB.ls hR (by decide : 2 < 4)) rfl) (zm_X8_52 hC.1) kv_Jx4a65c_size_8abf5 (RB.ls hR (by decide : 2 < 4)) rfl rfl (rwD_le (by decide) (by decide)) ⟨rfl, rfl⟩ (Nat.le_of_ble_eq_true rfl) ⟨Nat.zero_le _, Nat.zero_le _⟩ dX8_goOn_7 ?_
      refine lv_icmp_ge (tgt := 93) hx hb dX8_goOn_10 (by decide) (fun c_10 => ?_) (fun c_10 => ?_)
      ·
        exact wr_v hx hb hr hlocks hS ⟨hR, rfl⟩ (Nat.le_of_ble_eq_true rfl) (Nat.le_of_ble_eq_true rfl) dX8_goOn_93
      · exact absurd (by rw [show (passF S S.nc).cnt 2 = S.nc from hnc]; exact Int32.le_refl _) c_10
    | succ r ih =>
      intro i H1 locs1 hE hR hS ls hl
      have hnc : (passF S i).nc = S.nc := passF_nc S (i)
      have hlt : i < (passF S i).nc := by rw [hnc]; omega
      have hI : Inv (passF S i) := hI0.pF (i) (by omega)
      refine lv_iload_n hx hb dX8_goOn_2 rfl (lv_at hl 0 rfl) ?_
      refine lv_aload_n hx hb dX8_goOn_3 rfl (lv_at hl 1 rfl) ?_
      refine gf_X8_2 hx hb hown hC (RB.dk hR) (zf_X8_21 hC.1) dX8_goOn_4 ?_
      refine rc_V (As := []) hx hb hml hown hC hl (c_size l E _ _ _ _) (rec_of hC (RB.ls hR (by decide : 2 < 4)) rfl) (zm_X8_52 hC.1) kv_Jx4a65c_size_8abf5 (RB.ls hR (by decide : 2 < 4)) rfl rfl (rwD_le (by decide) (by decide)) ⟨rfl, rfl⟩ (Nat.le_of_ble_eq_true rfl) ⟨Nat.zero_le _, Nat.zero_le _⟩ dX8_goOn_7 ?_
      refine lv_icmp_ge (tgt := 93) hx hb dX8_goOn_10 (by decide) (fun c_10 => ?_) (fun c_10 => ?_)
      · rw [show (passF S i).cnt 2 = S.nc from hnc] at c_10; exact absurd c_10 (nI_ge (by omega) hI0.nc31)
      ·
        refine lv_aload_n hx hb dX8_goOn_13 rfl (lv_at hl 1 rfl) ?_
        refine gf_X8_2 hx hb hown hC (RB.dk hR) (zf_X8_21 hC.1) dX8_goOn_14 ?_
        refine lv_iload_n hx hb dX8_goOn_17 rfl (lv_at hl 0 rfl) ?_
        refine rc_V (As := [.int (nI (i))]) hx hb hml hown hC hl (c_getLB l E 2 rfl hR (by decide) hlt) (rec_of hC (RB.ls hR (by decide : 2 < 4)) rfl) (zm_X8_39 hC.1) kv_Jx4a65c_get_915e3 (RB.gp hR 2 (by decide) hlt) rfl rfl (rwD_le (by decide) (by decide)) ⟨rfl, rfl⟩ (Nat.le_of_ble_eq_true rfl) ⟨Nat.zero_le _, Nat.zero_le _⟩ dX8_goOn_18 ?_
        refine g_cast hx hb hown hC (RB.ch hR hlt) rfl (zc_X8_83 hC.1) dX8_goOn_21 ?_
        refine lv_astore_n (lv' := [(2, .ref (g.ad 8 (i))), (1, .int (nI (i))), (0, .ref (g.ad 12 0))]) hx hb dX8_goOn_24 rfl hl (by decide) rfl (fun ls hl => ?_)
        refine lv_aload_n hx hb dX8_goOn_25 rfl (lv_at hl 0 rfl) ?_
        refine gf_X7_8 hx hb hown hC (RB.ch hR hlt) (zf_X8_101 hC.1) dX8_goOn_26 ?_
        refine lv_iconst (v := 1) hx hb dX8_goOn_29 (by decide) ?_
        refine lv_icmp_eq (tgt := 36) hx hb dX8_goOn_30 (by decide) (fun c_30 => ?_) (fun c_30 => ?_)
        ·
          have hcs1 : (passF S i).cs i = 1 := c_30
          have loop36 : ∀ (n : Nat) (S1 : St) (H1 : Heap) (locs1 : List Loc), Inv S1 → S1.cs i = 1 → i < S1.nc → needB S1 i = needB (passF S i) i → needB (passF S i) i ≤ S1.ce i + n → pwS S1 i n = pwS (passF S i) i 3 → RB E S1 th g H1 → va_S (fun q => ow g q ∨ s.heap.size ≤ q) s.heap H1 locs1 → ∀ ls, lv_has ls 3 [(2, .ref (g.ad 8 (i))), (1, .int (nI (i))), (0, .ref (g.ad 12 0))] → W p l e (wD 5 0 0) s m ([.ref (g.ad 12 0)] : List Value).toArray below meth c H1 locs1 0 0 (MQ below (WQ (ow g) s.heap.size (fun v H => RB E (passS S) (th) g H ∧ v = none)) ([.ref (g.ad 12 0)] : List Value).toArray s (wD 5 0 0).cells (wD 5 0 0).slots (fun q => ow g q ∨ s.heap.size ≤ q)) (F0 m 36 ls []) := by
            intro n
            induction n with
            | zero =>
              intro S1 H1 locs1 hI hs1 hc1 hm hn hp hR hS ls hl
              refine lv_aload_n hx hb dX8_goOn_36 rfl (lv_at hl 2 rfl) ?_
              refine lv_aload_n hx hb dX8_goOn_37 rfl (lv_at hl 0 rfl) ?_
              refine lv_aload_n hx hb dX8_goOn_38 rfl (lv_at hl 0 rfl) ?_
              refine gf_X7_10 hx hb hown hC (RB.ch hR hc1) (zf_X8_137 hC.1) dX8_goOn_39 ?_
              refine rc_V (As := [.ref (g.ad 8 (i)), .int (nI (S1.ce (i)))]) hx hb hml hown hC hl (c_X8_bossOf l E hI hc1) (rec_of hC (RB.dk hR) rfl) (zm_X8_161 hC.1) kv_X8_bossOf hR rfl rfl (rwD_le (by decide) (by decide)) ⟨rfl, rfl⟩ (Nat.le_of_ble_eq_true rfl) ⟨Nat.zero_le _, Nat.zero_le _⟩ dX8_goOn_42 ?_
              have o_45 : bossN S1 i = none := (bossN_n S1 i).mpr (by rw [hm]; exact hn)
              refine lw_none o_45 ?_
              refine lv_ifnullN (tgt := 70) hx hb dX8_goOn_45 (by decide) ?_
              refine lv_aload_n hx hb dX8_goOn_70 rfl (lv_at hl 2 rfl) ?_
              refine lv_aload_n hx hb dX8_goOn_71 rfl (lv_at hl 0 rfl) ?_
              refine lv_aload_n hx hb dX8_goOn_72 rfl (lv_at hl 0 rfl) ?_
              refine gf_X7_10 hx hb hown hC (RB.ch hR hc1) (zf_X8_137 hC.1) dX8_goOn_73 ?_
              refine rc_V (As := [.ref (g.ad 8 (i)), .int (nI (S1.ce (i)))]) hx hb hml hown hC hl (c_X8_bossOf l E hI hc1) (rec_of hC (RB.dk hR) rfl) (zm_X8_161 hC.1) kv_X8_bossOf hR rfl rfl (rwD_le (by decide) (by decide)) ⟨rfl, rfl⟩ (Nat.le_of_ble_eq_true rfl) ⟨Nat.zero_le _, Nat.zero_le _⟩ dX8_goOn_76 ?_
              refine lw_none o_45 ?_
              refine lv_ifnonnullN hx hb dX8_goOn_79 ?_
              refine lv_aload_n hx hb dX8_goOn_82 rfl (lv_at hl 0 rfl) ?_
              refine lv_iconst (v := 2) hx hb dX8_goOn_83 (by decide) ?_
              refine pf_X7_8 hx hb hown hC (RB.ch hR hc1) hS (Or.inl (RB.ow hR (k := 8) hc1)) (zf_X8_101 hC.1) rfl rfl dX8_goOn_84 (fun H1 locs1 hat hz hq hS => ?_)
              have hR : RB E (u_cs S1 (i) (2)) (th) g H1 := RB.s_cs (v := 2) hR hc1 hat hq
              refine lv_iinc (v := nI (i) + 1) (lv' := [(1, .int (nI (i) + 1)), (2, .ref (g.ad 8 (i))), (0, .ref (g.ad 12 0))]) hx hb dX8_goOn_87 hl (k := 1) rfl rfl (by decide) rfl (fun ls hl => ?_)
              refine lv_goto (tgt := 2) hx hb dX8_goOn_90 (by decide) ?_
              refine ih (i + 1) _ _ (by omega) (by have e9 : S1 = pwS (passF S i) i 3 := hp; rw [show passF S (i + 1) = (if (passF S i).cs i = 1 then passOneS (passF S i) i else passF S i) from rfl, if_pos hcs1]; unfold passOneS; rw [← e9, if_pos (by rw [← hm]; exact (show needB S1 i ≤ S1.ce i from (bossN_n S1 i).mp o_45))]; exact hR) hS ls ?_
              rw [nI_succ i]
              exact lv_sub hl [0, 2] rfl
            | succ n ihw =>
              intro S1 H1 locs1 hI hs1 hc1 hm hn hp hR hS ls hl
              refine lv_aload_n hx hb dX8_goOn_36 rfl (lv_at hl 2 rfl) ?_
              refine lv_aload_n hx hb dX8_goOn_37 rfl (lv_at hl 0 rfl) ?_
              refine lv_aload_n hx hb dX8_goOn_38 rfl (lv_at hl 0 rfl) ?_
              refine gf_X7_10 hx hb hown hC (RB.ch hR hc1) (zf_X8_137 hC.1) dX8_goOn_39 ?_
              refine rc_V (As := [.ref (g.ad 8 (i)), .int (nI (S1.ce (i)))]) hx hb hml hown hC hl (c_X8_bossOf l E hI hc1) (rec_of hC (RB.dk hR) rfl) (zm_X8_161 hC.1) kv_X8_bossOf hR rfl rfl (rwD_le (by decide) (by decide)) ⟨rfl, rfl⟩ (Nat.le_of_ble_eq_true rfl) ⟨Nat.zero_le _, Nat.zero_le _⟩ dX8_goOn_42 ?_
              refine lw_ifnull (tgt := 70) hx hb dX8_goOn_45 (by decide) (fun o_45 => ?_) (fun j_45 o_45 => ?_)
              ·
                refine lv_aload_n hx hb dX8_goOn_70 rfl (lv_at hl 2 rfl) ?_
                refine lv_aload_n hx hb dX8_goOn_71 rfl (lv_at hl 0 rfl) ?_
                refine lv_aload_n hx hb dX8_goOn_72 rfl (lv_at hl 0 rfl) ?_
                refine gf_X7_10 hx hb hown hC (RB.ch hR hc1) (zf_X8_137 hC.1) dX8_goOn_73 ?_
                refine rc_V (As := [.ref (g.ad 8 (i)), .int (nI (S1.ce (i)))]) hx hb hml hown hC hl (c_X8_bossOf l E hI hc1) (rec_of hC (RB.dk hR) rfl) (zm_X8_161 hC.1) kv_X8_bossOf hR rfl rfl (rwD_le (by decide) (by decide)) ⟨rfl, rfl⟩ (Nat.le_of_ble_eq_true rfl) ⟨Nat.zero_le _, Nat.zero_le _⟩ dX8_goOn_76 ?_
                refine lw_none o_45 ?_
                refine lv_ifnonnullN hx hb dX8_goOn_79 ?_
                refine lv_aload_n hx hb dX8_goOn_82 rfl (lv_at hl 0 rfl) ?_
                refine lv_iconst (v := 2) hx hb dX8_goOn_83 (by decide) ?_
                refine pf_X7_8 hx hb hown hC (RB.ch hR hc1) hS (Or.inl (RB.ow hR (k := 8) hc1)) (zf_X8_101 hC.1) rfl rfl dX8_goOn_84 (fun H1 locs1 hat hz hq hS => ?_)
                have hR : RB E (u_cs S1 (i) (2)) (th) g H1 := RB.s_cs (v := 2) hR hc1 hat hq
                refine lv_iinc (v := nI (i) + 1) (lv' := [(1, .int (nI (i) + 1)), (2, .ref (g.ad 8 (i))), (0, .ref (g.ad 12 0))]) hx hb dX8_goOn_87 hl (k := 1) rfl rfl (by decide) rfl (fun ls hl => ?_)
                refine lv_goto (tgt := 2) hx hb dX8_goOn_90 (by decide) ?_
                refine ih (i + 1) _ _ (by omega) (by have e9 : S1 = pwS (passF S i) i 3 := (by rw [← hp]; show _ = (if needB S1 i ≤ S1.ce i then S1 else if apprA S1 i = none then pwS (u_ce S1 i (S1.ce i + 1)) i n else S1); rw [if_pos (show needB S1 i ≤ S1.ce i from (bossN_n S1 i).mp o_45)]); rw [show passF S (i + 1) = (if (passF S i).cs i = 1 then passOneS (passF S i) i else passF S i) from rfl, if_pos hcs1]; unfold passOneS; rw [← e9, if_pos (by rw [← hm]; exact (show needB S1 i ≤ S1.ce i from (bossN_n S1 i).mp o_45))]; exact hR) hS ls ?_
                rw [nI_succ i]
                exact lv_sub hl [0, 2] rfl
              ·
                refine lv_aload_n hx hb dX8_goOn_48 rfl (lv_at hl 2 rfl) ?_
                refine lv_aload_n hx hb dX8_goOn_49 rfl (lv_at hl 0 rfl) ?_
                refine rc_V (As := [.ref (g.ad 8 (i))]) hx hb hml hown hC hl (c_X8_approver l E hI hc1) (rec_of hC (RB.dk hR) rfl) (zm_X8_175 hC.1) kv_X8_approver hR rfl rfl (rwD_le (by decide) (by decide)) ⟨rfl, rfl⟩ (Nat.le_of_ble_eq_true rfl) ⟨Nat.zero_le _, Nat.zero_le _⟩ dX8_goOn_50 ?_
                refine lv_iconst (v := (-1)) hx hb dX8_goOn_53 (by decide) ?_
                refine lv_icmp_ne (tgt := 70) hx hb dX8_goOn_54 (by decide) (fun c_54 => ?_) (fun c_54 => ?_)
                ·
                  have c_54 : ¬ apprA S1 i = none := fun h => c_54 ((irI_m (fun j hj => Nat.lt_trans (apprA_lt hI hc1 hj) hI.np31)).mpr h)
                  refine lv_aload_n hx hb dX8_goOn_70 rfl (lv_at hl 2 rfl) ?_
                  refine lv_aload_n hx hb dX8_goOn_71 rfl (lv_at hl 0 rfl) ?_
                  refine lv_aload_n hx hb dX8_goOn_72 rfl (lv_at hl 0 rfl) ?_
                  refine gf_X7_10 hx hb hown hC (RB.ch hR hc1) (zf_X8_137 hC.1) dX8_goOn_73 ?_
                  refine rc_V (As := [.ref (g.ad 8 (i)), .int (nI (S1.ce (i)))]) hx hb hml hown hC hl (c_X8_bossOf l E hI hc1) (rec_of hC (RB.dk hR) rfl) (zm_X8_161 hC.1) kv_X8_bossOf hR rfl rfl (rwD_le (by decide) (by decide)) ⟨rfl, rfl⟩ (Nat.le_of_ble_eq_true rfl) ⟨Nat.zero_le _, Nat.zero_le _⟩ dX8_goOn_76 ?_
                  refine lw_some o_45 ?_
                  refine lv_ifnonnull (tgt := 87) hx hb dX8_goOn_79 (by decide) ?_
                  refine lv_iinc (v := nI (i) + 1) (lv' := [(1, .int (nI (i) + 1)), (2, .ref (g.ad 8 (i))), (0, .ref (g.ad 12 0))]) hx hb dX8_goOn_87 hl (k := 1) rfl rfl (by decide) rfl (fun ls hl => ?_)
                  refine lv_goto (tgt := 2) hx hb dX8_goOn_90 (by decide) ?_
                  refine ih (i + 1) _ _ (by omega) (by have e9 : S1 = pwS (passF S i) i 3 := (by rw [← hp]; show _ = (if needB S1 i ≤ S1.ce i then S1 else if apprA S1 i = none then pwS (u_ce S1 i (S1.ce i + 1)) i n else S1); rw [if_neg (show ¬ needB S1 i ≤ S1.ce i from fun h => nsome o_45 ((bossN_n S1 i).mpr h)), if_neg c_54]); rw [show passF S (i + 1) = (if (passF S i).cs i = 1 then passOneS (passF S i) i else passF S i) from rfl, if_pos hcs1]; unfold passOneS; rw [← e9, if_neg (by rw [← hm]; exact (show ¬ needB S1 i ≤ S1.ce i from fun h => nsome o_45 ((bossN_n S1 i).mpr h)))]; exact hR) hS ls ?_
                  rw [nI_succ i]
                  exact lv_sub hl [0, 2] rfl
                ·
                  have c_54 : apprA S1 i = none := (irI_m (fun j hj => Nat.lt_trans (apprA_lt hI hc1 hj) hI.np31)).mp c_54
                  have hI0w := hI
                  refine lv_aload_n hx hb dX8_goOn_57 rfl (lv_at hl 0 rfl) ?_
                  refine lv_dup hx hb dX8_goOn_58 rfl ?_
                  refine gf_X7_10 hx hb hown hC (RB.ch hR hc1) (zf_X8_137 hC.1) dX8_goOn_59 ?_
                  refine lv_iconst (v := 1) hx hb dX8_goOn_62 (by decide) ?_
                  refine lv_iadd hx hb dX8_goOn_63 ?_
                  rw [← nI_succ (S1.ce i)]
                  refine pf_X7_10 hx hb hown hC (RB.ch hR hc1) hS (Or.inl (RB.ow hR (k := 8) hc1)) (zf_X8_137 hC.1) rfl rfl dX8_goOn_64 (fun H1 locs1 hat hz hq hS => ?_)
                  have hR : RB E (u_ce S1 (i) (S1.ce i + 1)) (th) g H1 := RB.s_ce (v := (S1.ce i + 1)) hR hc1 hat hq
                  refine lv_goto (tgt := 36) hx hb dX8_goOn_67 (by decide) ?_
                  have hlt2 : S1.ce i < needB S1 i := Nat.lt_of_not_le (fun h => nsome o_45 ((bossN_n S1 i).mpr h))
                  have ha : apprA S1 i = none := c_54
                  exact ihw (u_ce S1 i (S1.ce i + 1)) H1 locs1 (hI0w.uce (Nat.le_trans hlt2 (needB_le S1 i)) (fun z => by rw [hs1] at z; exact absurd z (by decide))) hs1 hc1 ((needB_ce S1 i _ i).trans hm) (by show needB (passF S i) i ≤ va_up S1.ce i (S1.ce i + 1) i + n; rw [va_up_self]; omega) (by rw [← hp]; show _ = (if needB S1 i ≤ S1.ce i then S1 else if apprA S1 i = none then pwS (u_ce S1 i (S1.ce i + 1)) i n else S1); rw [if_neg (by omega), if_pos ha]) hR hS ls (lv_sub hl [0, 1, 2] rfl)
          exact loop36 3 (passF S i) H1 locs1 hI hcs1 hlt rfl (Nat.le_trans (needB_le _ i) (Nat.le_add_left 3 _)) rfl hR hS ls (lv_sub hl [0, 1, 2] rfl)
        ·
          refine lv_goto (tgt := 87) hx hb dX8_goOn_33 (by decide) ?_
          refine lv_iinc (v := nI (i) + 1) (lv' := [(1, .int (nI (i) + 1)), (2, .ref (g.ad 8 (i))), (0, .ref (g.ad 12 0))]) hx hb dX8_goOn_87 hl (k := 1) rfl rfl (by decide) rfl (fun ls hl => ?_)
          refine lv_goto (tgt := 2) hx hb dX8_goOn_90 (by decide) ?_
          refine ih (i + 1) _ _ (by omega) (by rw [show passF S (i + 1) = (if (passF S i).cs i = 1 then passOneS (passF S i) i else passF S i) from rfl, if_neg c_30]; exact hR) hS ls ?_
          rw [nI_succ i]
          exact lv_sub hl [0, 2] rfl
  exact loop2 (S.nc) 0 s.heap [] (Nat.zero_add _) hR hS ls (lv_sub hl [0, 1] rfl)
set_option maxRecDepth 100000 in
set_option maxHeartbeats 4000000 in
theorem c_X8_dayOn (l : Launch) (E : EE) {S : St} {th : Int32} {g : Gh} (hI : Inv S) (ht : S.td < 119) : WM l E yX8_dayOn cX8_dayOn 5 (some .int) (wD 6 0 0) [.ref (g.ad 12 0)] (RB E S th g) (ow g) (fun _ v H => RB E (dayS S) (th) g H ∧ v = some (.int (dayR S))) := by
  refine wm_of rfl (Nat.le_of_ble_eq_true rfl) (fun p e s m below meth c ls hx hb hr hml (hown : s.vm.findClass RX8 = some m.cls) hC hlocks hR hl hini => ?_)
  have hS : va_S (fun q => ow g q ∨ s.heap.size ≤ q) s.heap s.heap [] := va_S.rf
  have hl : lv_has ls 5 [(0, .ref (g.ad 12 0))] := hl
  refine lv_aload_n hx hb dX8_dayOn_0 rfl (lv_at hl 0 rfl) ?_
  refine lv_dup hx hb dX8_dayOn_1 rfl ?_
  refine gf_X8_7 hx hb hown hC (RB.dk hR) (zf_X8_49 hC.1) dX8_dayOn_2 ?_
  refine lv_iconst (v := 1) hx hb dX8_dayOn_5 (by decide) ?_
  refine lv_iadd hx hb dX8_dayOn_6 ?_
  rw [← nI_succ]
  refine pf_X8_7 hx hb hown hC (RB.dk hR) hS (Or.inl (RB.ow hR (k := 12) (i := 0) rfl)) (zf_X8_49 hC.1) rfl rfl dX8_dayOn_7 (fun H1 locs1 hat hz hq hS => ?_)
  have hR : RB E (S.s_td (S.td + 1)) (th) g H1 := RB.s_td (v := S.td + 1) hR hat hq
  have hI : Inv (S.s_td (S.td + 1)) := hI.tdS ht
  have hI0 := hI
  refine lv_iconst (v := 0) hx hb dX8_dayOn_10 (by decide) ?_
  refine lv_istore_n (lv' := [(1, .int (0)), (0, .ref (g.ad 12 0))]) hx hb dX8_dayOn_11 rfl hl (by decide) rfl (fun ls hl => ?_)
  refine lv_iconst (v := 0) hx hb dX8_dayOn_12 (by decide) ?_
  refine lv_istore_n (lv' := [(2, .int (0)), (1, .int (0)), (0, .ref (g.ad 12 0))]) hx hb dX8_dayOn_13 rfl hl (by decide) rfl (fun ls hl => ?_)
  have loop14 : ∀ (r i : Nat) (H1 : Heap) (locs1 : List Loc), i + r = S.nc → RB E ((dayF (S.s_td (S.td + 1)) i).1) th g H1 → va_S (fun q => ow g q ∨ s.heap.size ≤ q) s.heap H1 locs1 → ∀ ls, lv_has ls 5 [(2, .int (nI (i))), (1, .int ((dayF (S.s_td (S.td + 1)) i).2)), (0, .ref (g.ad 12 0))] → W p l e (wD 6 0 0) s m ([.ref (g.ad 12 0)] : List Value).toArray below meth c H1 locs1 0 0 (MQ below (WQ (ow g) s.heap.size (fun v H => RB E (dayS S) (th) g H ∧ v = some (.int (dayR S)))) ([.ref (g.ad 12 0)] : List Value).toArray s (wD 6 0 0).cells (wD 6 0 0).slots (fun q => ow g q ∨ s.heap.size ≤ q)) (F0 m 14 ls []) := by
    intro r
    induction r with
    | zero =>
      intro i H1 locs1 hE hR hS ls hl
      have hN : i = S.nc := by omega
      subst hN
      have hnc : ((dayF (S.s_td (S.td + 1)) S.nc).1).nc = S.nc := dayF_nc (S.s_td (S.td + 1)) S.nc
      have hI : Inv ((dayF (S.s_td (S.td + 1)) S.nc).1) := hI0.dayf S.nc
      refine lv_iload_n hx hb dX8_dayOn_14 rfl (lv_at hl 0 rfl) ?_
      refine lv_aload_n hx hb dX8_dayOn_15 rfl (lv_at hl 2 rfl) ?_
      refine gf_X8_2 hx hb hown hC (RB.dk hR) (zf_X8_21 hC.1) dX8_dayOn_16 ?_
      refine rc_V (As := []) hx hb hml hown hC hl (c_size l E _ _ _ _) (rec_of hC (RB.ls hR (by decide : 2 < 4)) rfl) (zm_X8_52 hC.1) kv_Jx4a65c_size_8abf5 (RB.ls hR (by decide : 2 < 4)) rfl rfl (rwD_le (by decide) (by decide)) ⟨rfl, rfl⟩ (Nat.le_of_ble_eq_true rfl) ⟨Nat.zero_le _, Nat.zero_le _⟩ dX8_dayOn_19 ?_
      refine lv_icmp_ge (tgt := 141) hx hb dX8_dayOn_22 (by decide) (fun c_22 => ?_) (fun c_22 => ?_)
      ·
        refine lv_aload_n hx hb dX8_dayOn_141 rfl (lv_at hl 2 rfl) ?_
        refine wcv_V (As := []) hx hb hml hown hC hl (c_X8_goOn l E hI) (rec_of hC (RB.dk hR) rfl) (zm_X8_182 hC.1) kv_X8_goOn hR hS (fun q h => h.imp id (Nat.le_trans hS.1)) rfl rfl (wD_le (by decide) (by decide)) (Nat.le_of_ble_eq_true rfl) ⟨Nat.le_of_ble_eq_true rfl, Nat.le_of_ble_eq_true rfl⟩ dX8_dayOn_142 (fun H1 locs1 hR hz hq hS => ?_)
        have hI : Inv (passS ((dayF (S.s_td (S.td + 1)) S.nc).1)) := hI.pS
        refine lv_iload_n hx hb dX8_dayOn_145 rfl (lv_at hl 1 rfl) ?_
        exact wr_i hx hb hr hlocks hS ⟨hR, rfl⟩ (Nat.le_of_ble_eq_true rfl) (Nat.le_of_ble_eq_true rfl) dX8_dayOn_146
      · exact absurd (by rw [show ((dayF (S.s_td (S.td + 1)) S.nc).1).cnt 2 = S.nc from hnc]; exact Int32.le_refl _) c_22
    | succ r ih =>
      intro i H1 locs1 hE hR hS ls hl
      have hnc : ((dayF (S.s_td (S.td + 1)) i).1).nc = S.nc := dayF_nc (S.s_td (S.td + 1)) i
      have hlt : i < ((dayF (S.s_td (S.td + 1)) i).1).nc := by rw [hnc]; omega
      have hI : Inv ((dayF (S.s_td (S.td + 1)) i).1) := hI0.dayf i
      refine lv_iload_n hx hb dX8_dayOn_14 rfl (lv_at hl 0 rfl) ?_
      refine lv_aload_n hx hb dX8_dayOn_15 rfl (lv_at hl 2 rfl) ?_
      refine gf_X8_2 hx hb hown hC (RB.dk hR) (zf_X8_21 hC.1) dX8_dayOn_16 ?_
      refine rc_V (As := []) hx hb hml hown hC hl (c_size l E _ _ _ _) (rec_of hC (RB.ls hR (by decide : 2 < 4)) rfl) (zm_X8_52 hC.1) kv_Jx4a65c_size_8abf5 (RB.ls hR (by decide : 2 < 4)) rfl rfl (rwD_le (by decide) (by decide)) ⟨rfl, rfl⟩ (Nat.le_of_ble_eq_true rfl) ⟨Nat.zero_le _, Nat.zero_le _⟩ dX8_dayOn_19 ?_
      refine lv_icmp_ge (tgt := 141) hx hb dX8_dayOn_22 (by decide) (fun c_22 => ?_) (fun c_22 => ?_)
      · rw [show ((dayF (S.s_td (S.td + 1)) i).1).cnt 2 = S.nc from hnc] at c_22; exact absurd c_22 (nI_ge (by omega) hI0.nc31)
      ·
        refine lv_aload_n hx hb dX8_dayOn_25 rfl (lv_at hl 2 rfl) ?_
        refine gf_X8_2 hx hb hown hC (RB.dk hR) (zf_X8_21 hC.1) dX8_dayOn_26 ?_
        refine lv_iload_n hx hb dX8_dayOn_29 rfl (lv_at hl 0 rfl) ?_
        refine rc_V (As := [.int (nI (i))]) hx hb hml hown hC hl (c_getLB l E 2 rfl hR (by decide) hlt) (rec_of hC (RB.ls hR (by decide : 2 < 4)) rfl) (zm_X8_39 hC.1) kv_Jx4a65c_get_915e3 (RB.gp hR 2 (by decide) hlt) rfl rfl (rwD_le (by decide) (by decide)) ⟨rfl, rfl⟩ (Nat.le_of_ble_eq_true rfl) ⟨Nat.zero_le _, Nat.zero_le _⟩ dX8_dayOn_30 ?_
        refine g_cast hx hb hown hC (RB.ch hR hlt) rfl (zc_X8_83 hC.1) dX8_dayOn_33 ?_
        refine lv_astore_n (lv' := [(3, .ref (g.ad 8 (i))), (2, .int (nI (i))), (1, .int ((dayF (S.s_td (S.td + 1)) i).2)), (0, .ref (g.ad 12 0))]) hx hb dX8_dayOn_36 rfl hl (by decide) rfl (fun ls hl => ?_)
        refine lv_aload_n hx hb dX8_dayOn_37 rfl (lv_at hl 3 rfl) ?_
        refine gf_X8_7 hx hb hown hC (RB.dk hR) (zf_X8_49 hC.1) dX8_dayOn_38 ?_
        refine lv_aload_n hx hb dX8_dayOn_41 rfl (lv_at hl 0 rfl) ?_
        refine gf_X7_5 hx hb hown hC (RB.ch hR hlt) (zf_X8_96 hC.1) dX8_dayOn_42 ?_
        refine lv_isub hx hb dX8_dayOn_45 ?_
        refine lv_istore (lv' := [(4, .int ((nI ((dayF (S.s_td (S.td + 1)) i).1).td) - (nI (((dayF (S.s_td (S.td + 1)) i).1).cd (i))))), (3, .ref (g.ad 8 (i))), (2, .int (nI (i))), (1, .int ((dayF (S.s_td (S.td + 1)) i).2)), (0, .ref (g.ad 12 0))]) hx hb dX8_dayOn_46 hl (by decide) rfl (fun ls hl => ?_)
        refine lv_aload_n hx hb dX8_dayOn_48 rfl (lv_at hl 1 rfl) ?_
        refine gf_X7_8 hx hb hown hC (RB.ch hR hlt) (zf_X8_101 hC.1) dX8_dayOn_49 ?_
        refine lv_if_ne (tgt := 135) hx hb dX8_dayOn_52 (by decide) (fun c_52 => ?_) (fun c_52 => ?_)
        ·
          refine lv_iinc (v := nI (i) + 1) (lv' := [(2, .int (nI (i) + 1)), (4, .int ((nI ((dayF (S.s_td (S.td + 1)) i).1).td) - (nI (((dayF (S.s_td (S.td + 1)) i).1).cd (i))))), (3, .ref (g.ad 8 (i))), (1, .int ((dayF (S.s_td (S.td + 1)) i).2)), (0, .ref (g.ad 12 0))]) hx hb dX8_dayOn_135 hl (k := 2) rfl rfl (by decide) rfl (fun ls hl => ?_)
          refine lv_goto (tgt := 14) hx hb dX8_dayOn_138 (by decide) ?_
          refine ih (i + 1) _ _ (by omega) (by rw [show (dayF (S.s_td (S.td + 1)) (i + 1)).1 = growS ((dayF (S.s_td (S.td + 1)) i).1) i from rfl]; unfold growS ageA; rw [if_neg c_52]; exact hR) hS ls ?_
          rw [nI_succ i, show (dayF (S.s_td (S.td + 1)) (i + 1)).2 = (dayF (S.s_td (S.td + 1)) i).2 from if_pos (show growR ((dayF (S.s_td (S.td + 1)) i).1) i = 0 from (by unfold growR ageA; rw [if_neg c_52]))]
          exact lv_sub hl [0, 3, 4] rfl
        ·
          refine lv_iload hx hb dX8_dayOn_55 (lv_at hl 0 rfl) ?_
          refine lv_bipush (v := 8) hx hb dX8_dayOn_57 (by decide) ?_
          refine lv_icmp_eq (tgt := 72) hx hb dX8_dayOn_59 (by decide) (fun c_59 => ?_) (fun c_59 => ?_)
          ·
            refine lv_iload hx hb dX8_dayOn_72 (lv_at hl 0 rfl) ?_
            refine lv_bipush (v := 8) hx hb dX8_dayOn_74 (by decide) ?_
            refine lv_icmp_ne (tgt := 87) hx hb dX8_dayOn_76 (by decide) (fun c_76 => ?_) (fun c_76 => ?_)
            · exact absurd c_59 c_76
            ·
              refine lv_aload_n hx hb dX8_dayOn_79 rfl (lv_at hl 1 rfl) ?_
              refine lv_iconst (v := 1) hx hb dX8_dayOn_80 (by decide) ?_
              refine pf_X7_11 hx hb hown hC (RB.ch hR hlt) hS (Or.inl (RB.ow hR (k := 8) hlt)) (zf_X8_178 hC.1) rfl rfl dX8_dayOn_81 (fun H1 locs1 hat hz hq hS => ?_)
              have hR : RB E (u_cm ((dayF (S.s_td (S.td + 1)) i).1) (i) (1)) (th) g H1 := RB.s_cm (v := 1) hR hlt hat hq
              refine lv_goto (tgt := 92) hx hb dX8_dayOn_84 (by decide) ?_
              refine lv_aload_n hx hb dX8_dayOn_92 rfl (lv_at hl 4 rfl) ?_
              refine gf_X8_0 hx hb hown hC (RB.dk hR) (zf_X8_12 hC.1) dX8_dayOn_93 ?_
              refine lv_aload_n hx hb dX8_dayOn_96 rfl (lv_at hl 1 rfl) ?_
              refine gf_X7_0 hx hb hown hC (RB.ch hR hlt) (zf_X8_92 hC.1) dX8_dayOn_97 ?_
              refine rc_V (As := [.int (nI (((dayF (S.s_td (S.td + 1)) i).1).cp (i)))]) hx hb hml hown hC hl (c_getLB l E 0 rfl hR (by decide) (hI.cp hlt)) (rec_of hC (RB.ls hR (by decide : 0 < 4)) rfl) (zm_X8_39 hC.1) kv_Jx4a65c_get_915e3 (RB.gp hR 0 (by decide) (hI.cp hlt)) rfl rfl (rwD_le (by decide) (by decide)) ⟨rfl, rfl⟩ (Nat.le_of_ble_eq_true rfl) ⟨Nat.zero_le _, Nat.zero_le _⟩ dX8_dayOn_100 ?_
              refine g_cast hx hb hown hC (RB.pe hR (hI.cp hlt)) rfl (zc_X8_43 hC.1) dX8_dayOn_103 ?_
              refine lv_iconst (v := 0) hx hb dX8_dayOn_106 (by decide) ?_
              refine lv_aload_n hx hb dX8_dayOn_107 rfl (lv_at hl 4 rfl) ?_
              refine gf_X8_0 hx hb hown hC (RB.dk hR) (zf_X8_12 hC.1) dX8_dayOn_108 ?_
              refine lv_aload_n hx hb dX8_dayOn_111 rfl (lv_at hl 1 rfl) ?_
              refine gf_X7_0 hx hb hown hC (RB.ch hR hlt) (zf_X8_92 hC.1) dX8_dayOn_112 ?_
              refine rc_V (As := [.int (nI (((dayF (S.s_td (S.td + 1)) i).1).cp (i)))]) hx hb hml hown hC hl (c_getLB l E 0 rfl hR (by decide) (hI.cp hlt)) (rec_of hC (RB.ls hR (by decide : 0 < 4)) rfl) (zm_X8_39 hC.1) kv_Jx4a65c_get_915e3 (RB.gp hR 0 (by decide) (hI.cp hlt)) rfl rfl (rwD_le (by decide) (by decide)) ⟨rfl, rfl⟩ (Nat.le_of_ble_eq_true rfl) ⟨Nat.zero_le _, Nat.zero_le _⟩ dX8_dayOn_115 ?_
              refine g_cast hx hb hown hC (RB.pe hR (hI.cp hlt)) rfl (zc_X8_43 hC.1) dX8_dayOn_118 ?_
              refine gf_X9_2 hx hb hown hC (RB.pe hR (hI.cp hlt)) (zf_X8_77 hC.1) dX8_dayOn_121 ?_
              refine lv_iconst (v := 1) hx hb dX8_dayOn_124 (by decide) ?_
              refine lv_isub hx hb dX8_dayOn_125 ?_
              refine va_mmax hx hb (hml.trans hl.1.symm) hown (zm_X8_112 hC.1) (ztm_max hC.1) (znm hC.1) (zkm_max hC.1) (Nat.le_of_ble_eq_true rfl) (Nat.le_of_ble_eq_true rfl) (Nat.zero_le _) (Nat.zero_le _) dX8_dayOn_126 ?_
              rw [maxI_c]
              refine pf_X9_2 hx hb hown hC (RB.pe hR (hI.cp hlt)) hS (Or.inl (RB.ow hR (k := 6) (hI.cp hlt))) (zf_X8_77 hC.1) rfl rfl dX8_dayOn_129 (fun H1 locs1 hat hz hq hS => ?_)
              have hR : RB E (u_tr (u_cm ((dayF (S.s_td (S.td + 1)) i).1) (i) (1)) (((dayF (S.s_td (S.td + 1)) i).1).cp (i)) (maxI ((((dayF (S.s_td (S.td + 1)) i).1).tr (((dayF (S.s_td (S.td + 1)) i).1).cp (i))) - (1)) 0)) (th) g H1 := RB.s_tr (v := (maxI ((((dayF (S.s_td (S.td + 1)) i).1).tr (((dayF (S.s_td (S.td + 1)) i).1).cp (i))) - (1)) 0)) hR (hI.cp hlt) hat hq
              refine lv_iinc (v := (dayF (S.s_td (S.td + 1)) i).2 + 1) (lv' := [(1, .int ((dayF (S.s_td (S.td + 1)) i).2 + 1)), (4, .int ((nI ((dayF (S.s_td (S.td + 1)) i).1).td) - (nI (((dayF (S.s_td (S.td + 1)) i).1).cd (i))))), (3, .ref (g.ad 8 (i))), (2, .int (nI (i))), (0, .ref (g.ad 12 0))]) hx hb dX8_dayOn_132 hl (k := 3) rfl rfl (by decide) rfl (fun ls hl => ?_)
              refine lv_iinc (v := nI (i) + 1) (lv' := [(2, .int (nI (i) + 1)), (1, .int ((dayF (S.s_td (S.td + 1)) i).2 + 1)), (4, .int ((nI ((dayF (S.s_td (S.td + 1)) i).1).td) - (nI (((dayF (S.s_td (S.td + 1)) i).1).cd (i))))), (3, .ref (g.ad 8 (i))), (0, .ref (g.ad 12 0))]) hx hb dX8_dayOn_135 hl (k := 3) rfl rfl (by decide) rfl (fun ls hl => ?_)
              refine lv_goto (tgt := 14) hx hb dX8_dayOn_138 (by decide) ?_
              refine ih (i + 1) _ _ (by omega) (by rw [show (dayF (S.s_td (S.td + 1)) (i + 1)).1 = growS ((dayF (S.s_td (S.td + 1)) i).1) i from rfl]; unfold growS ageA loseS; rw [if_pos c_52, if_pos c_59]; exact hR) hS ls ?_
              rw [nI_succ i, show (dayF (S.s_td (S.td + 1)) (i + 1)).2 = (dayF (S.s_td (S.td + 1)) i).2 + 1 from if_neg (show ¬ growR ((dayF (S.s_td (S.td + 1)) i).1) i = 0 from (by rw [show growR ((dayF (S.s_td (S.td + 1)) i).1) i = 1 from (by unfold growR ageA; rw [if_pos c_52, if_pos c_59])]; decide))]
              exact lv_sub hl [0, 1, 4] rfl
          ·
            refine lv_iload hx hb dX8_dayOn_62 (lv_at hl 0 rfl) ?_
            refine lv_bipush (v := 15) hx hb dX8_dayOn_64 (by decide) ?_
            refine lv_icmp_ge (tgt := 72) hx hb dX8_dayOn_66 (by decide) (fun c_66 => ?_) (fun c_66 => ?_)
            ·
              refine lv_iload hx hb dX8_dayOn_72 (lv_at hl 0 rfl) ?_
              refine lv_bipush (v := 8) hx hb dX8_dayOn_74 (by decide) ?_
              refine lv_icmp_ne (tgt := 87) hx hb dX8_dayOn_76 (by decide) (fun c_76 => ?_) (fun c_76 => ?_)
              ·
                refine lv_aload_n hx hb dX8_dayOn_87 rfl (lv_at hl 1 rfl) ?_
                refine lv_iconst (v := 3) hx hb dX8_dayOn_88 (by decide) ?_
                refine pf_X7_8 hx hb hown hC (RB.ch hR hlt) hS (Or.inl (RB.ow hR (k := 8) hlt)) (zf_X8_101 hC.1) rfl rfl dX8_dayOn_89 (fun H1 locs1 hat hz hq hS => ?_)
                have hR : RB E (u_cs ((dayF (S.s_td (S.td + 1)) i).1) (i) (3)) (th) g H1 := RB.s_cs (v := 3) hR hlt hat hq
                refine lv_aload_n hx hb dX8_dayOn_92 rfl (lv_at hl 4 rfl) ?_
                refine gf_X8_0 hx hb hown hC (RB.dk hR) (zf_X8_12 hC.1) dX8_dayOn_93 ?_
                refine lv_aload_n hx hb dX8_dayOn_96 rfl (lv_at hl 1 rfl) ?_
                refine gf_X7_0 hx hb hown hC (RB.ch hR hlt) (zf_X8_92 hC.1) dX8_dayOn_97 ?_
                refine rc_V (As := [.int (nI (((dayF (S.s_td (S.td + 1)) i).1).cp (i)))]) hx hb hml hown hC hl (c_getLB l E 0 rfl hR (by decide) (hI.cp hlt)) (rec_of hC (RB.ls hR (by decide : 0 < 4)) rfl) (zm_X8_39 hC.1) kv_Jx4a65c_get_915e3 (RB.gp hR 0 (by decide) (hI.cp hlt)) rfl rfl (rwD_le (by decide) (by decide)) ⟨rfl, rfl⟩ (Nat.le_of_ble_eq_true rfl) ⟨Nat.zero_le _, Nat.zero_le _⟩ dX8_dayOn_100 ?_
                refine g_cast hx hb hown hC (RB.pe hR (hI.cp hlt)) rfl (zc_X8_43 hC.1) dX8_dayOn_103 ?_
                refine lv_iconst (v := 0) hx hb dX8_dayOn_106 (by decide) ?_
                refine lv_aload_n hx hb dX8_dayOn_107 rfl (lv_at hl 4 rfl) ?_
                refine gf_X8_0 hx hb hown hC (RB.dk hR) (zf_X8_12 hC.1) dX8_dayOn_108 ?_
                refine lv_aload_n hx hb dX8_dayOn_111 rfl (lv_at hl 1 rfl) ?_
                refine gf_X7_0 hx hb hown hC (RB.ch hR hlt) (zf_X8_92 hC.1) dX8_dayOn_112 ?_
                refine rc_V (As := [.int (nI (((dayF (S.s_td (S.td + 1)) i).1).cp (i)))]) hx hb hml hown hC hl (c_getLB l E 0 rfl hR (by decide) (hI.cp hlt)) (rec_of hC (RB.ls hR (by decide : 0 < 4)) rfl) (zm_X8_39 hC.1) kv_Jx4a65c_get_915e3 (RB.gp hR 0 (by decide) (hI.cp hlt)) rfl rfl (rwD_le (by decide) (by decide)) ⟨rfl, rfl⟩ (Nat.le_of_ble_eq_true rfl) ⟨Nat.zero_le _, Nat.zero_le _⟩ dX8_dayOn_115 ?_
                refine g_cast hx hb hown hC (RB.pe hR (hI.cp hlt)) rfl (zc_X8_43 hC.1) dX8_dayOn_118 ?_
                refine gf_X9_2 hx hb hown hC (RB.pe hR (hI.cp hlt)) (zf_X8_77 hC.1) dX8_dayOn_121 ?_
                refine lv_iconst (v := 1) hx hb dX8_dayOn_124 (by decide) ?_
                refine lv_isub hx hb dX8_dayOn_125 ?_
                refine va_mmax hx hb (hml.trans hl.1.symm) hown (zm_X8_112 hC.1) (ztm_max hC.1) (znm hC.1) (zkm_max hC.1) (Nat.le_of_ble_eq_true rfl) (Nat.le_of_ble_eq_true rfl) (Nat.zero_le _) (Nat.zero_le _) dX8_dayOn_126 ?_
                rw [maxI_c]
                refine pf_X9_2 hx hb hown hC (RB.pe hR (hI.cp hlt)) hS (Or.inl (RB.ow hR (k := 6) (hI.cp hlt))) (zf_X8_77 hC.1) rfl rfl dX8_dayOn_129 (fun H1 locs1 hat hz hq hS => ?_)
                have hR : RB E (u_tr (u_cs ((dayF (S.s_td (S.td + 1)) i).1) (i) (3)) (((dayF (S.s_td (S.td + 1)) i).1).cp (i)) (maxI ((((dayF (S.s_td (S.td + 1)) i).1).tr (((dayF (S.s_td (S.td + 1)) i).1).cp (i))) - (1)) 0)) (th) g H1 := RB.s_tr (v := (maxI ((((dayF (S.s_td (S.td + 1)) i).1).tr (((dayF (S.s_td (S.td + 1)) i).1).cp (i))) - (1)) 0)) hR (hI.cp hlt) hat hq
                refine lv_iinc (v := (dayF (S.s_td (S.td + 1)) i).2 + 1) (lv' := [(1, .int ((dayF (S.s_td (S.td + 1)) i).2 + 1)), (4, .int ((nI ((dayF (S.s_td (S.td + 1)) i).1).td) - (nI (((dayF (S.s_td (S.td + 1)) i).1).cd (i))))), (3, .ref (g.ad 8 (i))), (2, .int (nI (i))), (0, .ref (g.ad 12 0))]) hx hb dX8_dayOn_132 hl (k := 3) rfl rfl (by decide) rfl (fun ls hl => ?_)
                refine lv_iinc (v := nI (i) + 1) (lv' := [(2, .int (nI (i) + 1)), (1, .int ((dayF (S.s_td (S.td + 1)) i).2 + 1)), (4, .int ((nI ((dayF (S.s_td (S.td + 1)) i).1).td) - (nI (((dayF (S.s_td (S.td + 1)) i).1).cd (i))))), (3, .ref (g.ad 8 (i))), (0, .ref (g.ad 12 0))]) hx hb dX8_dayOn_135 hl (k := 3) rfl rfl (by decide) rfl (fun ls hl => ?_)
                refine lv_goto (tgt := 14) hx hb dX8_dayOn_138 (by decide) ?_
                refine ih (i + 1) _ _ (by omega) (by rw [show (dayF (S.s_td (S.td + 1)) (i + 1)).1 = growS ((dayF (S.s_td (S.td + 1)) i).1) i from rfl]; unfold growS ageA loseS; rw [if_pos c_52, if_neg c_59, if_pos c_66]; exact hR) hS ls ?_
                rw [nI_succ i, show (dayF (S.s_td (S.td + 1)) (i + 1)).2 = (dayF (S.s_td (S.td + 1)) i).2 + 1 from if_neg (show ¬ growR ((dayF (S.s_td (S.td + 1)) i).1) i = 0 from (by rw [show growR ((dayF (S.s_td (S.td + 1)) i).1) i = 1 from (by unfold growR ageA; rw [if_pos c_52, if_neg c_59, if_pos c_66])]; decide))]
                exact lv_sub hl [0, 1, 4] rfl
              · exact absurd c_76 c_59
            ·
              refine lv_goto (tgt := 135) hx hb dX8_dayOn_69 (by decide) ?_
              refine lv_iinc (v := nI (i) + 1) (lv' := [(2, .int (nI (i) + 1)), (4, .int ((nI ((dayF (S.s_td (S.td + 1)) i).1).td) - (nI (((dayF (S.s_td (S.td + 1)) i).1).cd (i))))), (3, .ref (g.ad 8 (i))), (1, .int ((dayF (S.s_td (S.td + 1)) i).2)), (0, .ref (g.ad 12 0))]) hx hb dX8_dayOn_135 hl (k := 2) rfl rfl (by decide) rfl (fun ls hl => ?_)
              refine lv_goto (tgt := 14) hx hb dX8_dayOn_138 (by decide) ?_
              refine ih (i + 1) _ _ (by omega) (by rw [show (dayF (S.s_td (S.td + 1)) (i + 1)).1 = growS ((dayF (S.s_td (S.td + 1)) i).1) i from rfl]; unfold growS ageA; rw [if_pos c_52, if_neg c_59, if_neg c_66]; exact hR) hS ls ?_
              rw [nI_succ i, show (dayF (S.s_td (S.td + 1)) (i + 1)).2 = (dayF (S.s_td (S.td + 1)) i).2 from if_pos (show growR ((dayF (S.s_td (S.td + 1)) i).1) i = 0 from (by unfold growR ageA; rw [if_pos c_52, if_neg c_59, if_neg c_66]))]
              exact lv_sub hl [0, 3, 4] rfl
  exact loop14 (S.nc) 0 H1 locs1 (Nat.zero_add _) hR hS ls (lv_sub hl [0, 1, 2] rfl)
