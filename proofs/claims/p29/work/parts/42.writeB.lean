set_option maxRecDepth 100000 in
set_option maxHeartbeats 4000000 in
theorem c_X6_passStepsOf (l : Launch) (E : EE) {S : St} {g : Gh} (hI : Inv S) {c9 : Nat} (hc : c9 < S.nc) (hs : S.cs c9 = 1) : WM l E yX6_passStepsOf cX6_passStepsOf 3 none (wD 4 0 0) [.ref (g.ad 1 0), .ref (g.ad 8 (c9))] (RA E S g) (ow g) (fun _ v H => RA E (passOneS S c9) g H ∧ v = none) := by
  refine wm_of rfl (Nat.le_of_ble_eq_true rfl) (fun p e s m below meth c ls hx hb hr hml (hown : s.vm.findClass RX6 = some m.cls) hC hlocks hR hl hini => ?_)
  have hS : va_S (fun q => ow g q ∨ s.heap.size ≤ q) s.heap s.heap [] := va_S.rf
  have hl : lv_has ls 3 [(0, .ref (g.ad 1 0)), (1, .ref (g.ad 8 (c9)))] := hl
  refine lv_aload_n hx hb dX6_passStepsOf_0 rfl (lv_at hl 1 rfl) ?_
  refine rc_V (As := []) hx hb hml hown hC hl (c_X0_stepsNeeded l E hI hc) (rec_of hC (RA.ch hR hc) rfl) (zm_X6_402 hC.1) kv_X0_stepsNeeded hR rfl rfl (rwD_le (by decide) (by decide)) ⟨rfl, rfl⟩ (Nat.le_of_ble_eq_true rfl) ⟨Nat.zero_le _, Nat.zero_le _⟩ dX6_passStepsOf_1 ?_
  refine lv_istore_n (lv' := [(2, .int (nI (needB S (c9)))), (0, .ref (g.ad 1 0)), (1, .ref (g.ad 8 (c9)))]) hx hb dX6_passStepsOf_4 rfl hl (by decide) rfl (fun ls hl => ?_)
  have loop5 : ∀ (n : Nat) (S1 : St) (H1 : Heap) (locs1 : List Loc), Inv S1 → S1.cs c9 = 1 → c9 < S1.nc → needB S1 c9 = needB S c9 → needB S c9 ≤ S1.ce c9 + n → pwS S1 c9 n = pwS S c9 3 → RA E S1 g H1 → va_S (fun q => ow g q ∨ s.heap.size ≤ q) s.heap H1 locs1 → ∀ ls, lv_has ls 3 [(2, .int (nI (needB S (c9)))), (0, .ref (g.ad 1 0)), (1, .ref (g.ad 8 (c9)))] → W p l e (wD 4 0 0) s m ([.ref (g.ad 1 0), .ref (g.ad 8 (c9))] : List Value).toArray below meth c H1 locs1 0 0 (MQ below (WQ (ow g) s.heap.size (fun v H => RA E (passOneS S c9) g H ∧ v = none)) ([.ref (g.ad 1 0), .ref (g.ad 8 (c9))] : List Value).toArray s (wD 4 0 0).cells (wD 4 0 0).slots (fun q => ow g q ∨ s.heap.size ≤ q)) (F0 m 5 ls []) := by
    intro n
    induction n with
    | zero =>
      intro S1 H1 locs1 hI hs1 hc1 hm hn hp hR hS ls hl
      refine lv_aload_n hx hb dX6_passStepsOf_5 rfl (lv_at hl 2 rfl) ?_
      refine gf_X0_10 hx hb hown hC (RA.ch hR hc1) (zf_X6_204 hC.1) dX6_passStepsOf_6 ?_
      refine lv_iload_n hx hb dX6_passStepsOf_9 rfl (lv_at hl 0 rfl) ?_
      refine lv_icmp_ge (tgt := 34) hx hb dX6_passStepsOf_10 (by decide) (fun c_10 => ?_) (fun c_10 => ?_)
      ·
        refine lv_aload_n hx hb dX6_passStepsOf_34 rfl (lv_at hl 2 rfl) ?_
        refine gf_X0_10 hx hb hown hC (RA.ch hR hc1) (zf_X6_204 hC.1) dX6_passStepsOf_35 ?_
        refine lv_iload_n hx hb dX6_passStepsOf_38 rfl (lv_at hl 0 rfl) ?_
        refine lv_icmp_lt (tgt := 47) hx hb dX6_passStepsOf_39 (by decide) (fun c_39 => ?_) (fun c_39 => ?_)
        · exact (i_ltle c_39 c_10).elim
        ·
          refine lv_aload_n hx hb dX6_passStepsOf_42 rfl (lv_at hl 2 rfl) ?_
          refine lv_iconst (v := 2) hx hb dX6_passStepsOf_43 (by decide) ?_
          refine pf_X0_8 hx hb hown hC (RA.ch hR hc1) hS (Or.inl (RA.ow hR (k := 8) hc1)) (zf_X6_197 hC.1) rfl rfl dX6_passStepsOf_44 (fun H1 locs1 hat hz hq hS => ?_)
          have hR : RA E (u_cs S1 (c9) (2)) g H1 := RA.s_cs (v := 2) hR hc1 hat hq
          exact wr_v hx hb hr hlocks hS ⟨(by have h9 : needB S c9 ≤ S1.ce c9 := hn; have e9 : S1 = pwS S c9 3 := hp; unfold passOneS; rw [← e9, if_pos h9]; exact hR), rfl⟩ (Nat.le_of_ble_eq_true rfl) (Nat.le_of_ble_eq_true rfl) dX6_passStepsOf_47
      · exact absurd ((nle (Nat.lt_of_le_of_lt (needB_le S c9) (by decide)) (Nat.lt_of_le_of_lt (hI.ce hc1) (by decide))).mpr hn) c_10
    | succ n ih =>
      intro S1 H1 locs1 hI hs1 hc1 hm hn hp hR hS ls hl
      refine lv_aload_n hx hb dX6_passStepsOf_5 rfl (lv_at hl 2 rfl) ?_
      refine gf_X0_10 hx hb hown hC (RA.ch hR hc1) (zf_X6_204 hC.1) dX6_passStepsOf_6 ?_
      refine lv_iload_n hx hb dX6_passStepsOf_9 rfl (lv_at hl 0 rfl) ?_
      refine lv_icmp_ge (tgt := 34) hx hb dX6_passStepsOf_10 (by decide) (fun c_10 => ?_) (fun c_10 => ?_)
      ·
        refine lv_aload_n hx hb dX6_passStepsOf_34 rfl (lv_at hl 2 rfl) ?_
        refine gf_X0_10 hx hb hown hC (RA.ch hR hc1) (zf_X6_204 hC.1) dX6_passStepsOf_35 ?_
        refine lv_iload_n hx hb dX6_passStepsOf_38 rfl (lv_at hl 0 rfl) ?_
        refine lv_icmp_lt (tgt := 47) hx hb dX6_passStepsOf_39 (by decide) (fun c_39 => ?_) (fun c_39 => ?_)
        · exact (i_ltle c_39 c_10).elim
        ·
          refine lv_aload_n hx hb dX6_passStepsOf_42 rfl (lv_at hl 2 rfl) ?_
          refine lv_iconst (v := 2) hx hb dX6_passStepsOf_43 (by decide) ?_
          refine pf_X0_8 hx hb hown hC (RA.ch hR hc1) hS (Or.inl (RA.ow hR (k := 8) hc1)) (zf_X6_197 hC.1) rfl rfl dX6_passStepsOf_44 (fun H1 locs1 hat hz hq hS => ?_)
          have hR : RA E (u_cs S1 (c9) (2)) g H1 := RA.s_cs (v := 2) hR hc1 hat hq
          exact wr_v hx hb hr hlocks hS ⟨(by have h9 : needB S c9 ≤ S1.ce c9 := (nle (Nat.lt_of_le_of_lt (needB_le S c9) (by decide)) (Nat.lt_of_le_of_lt (hI.ce hc1) (by decide))).mp c_10; have e9 : S1 = pwS S c9 3 := (show S1 = pwS S c9 3 by rw [← hp]; show _ = (if needB S1 c9 ≤ S1.ce c9 then S1 else if apprA S1 c9 = none then pwS (u_ce S1 c9 (S1.ce c9 + 1)) c9 n else S1); rw [if_pos (by rw [hm]; exact h9)]); unfold passOneS; rw [← e9, if_pos h9]; exact hR), rfl⟩ (Nat.le_of_ble_eq_true rfl) (Nat.le_of_ble_eq_true rfl) dX6_passStepsOf_47
      ·
        refine lv_aload_n hx hb dX6_passStepsOf_13 rfl (lv_at hl 1 rfl) ?_
        refine lv_aload_n hx hb dX6_passStepsOf_14 rfl (lv_at hl 2 rfl) ?_
        refine rc_V (As := [.ref (g.ad 8 (c9))]) hx hb hml hown hC hl (c_X6_nextApproverOf l E hI hc1) (rec_of hC (RA.x hR) rfl) (zm_X6_235 hC.1) kv_X6_nextApproverOf hR rfl rfl (rwD_le (by decide) (by decide)) ⟨rfl, rfl⟩ (Nat.le_of_ble_eq_true rfl) ⟨Nat.zero_le _, Nat.zero_le _⟩ dX6_passStepsOf_15 ?_
        refine lw_ifnonnull (tgt := 34) hx hb dX6_passStepsOf_18 (by decide) (fun j_18 o_18 => ?_) (fun o_18 => ?_)
        ·
          refine lv_aload_n hx hb dX6_passStepsOf_34 rfl (lv_at hl 2 rfl) ?_
          refine gf_X0_10 hx hb hown hC (RA.ch hR hc1) (zf_X6_204 hC.1) dX6_passStepsOf_35 ?_
          refine lv_iload_n hx hb dX6_passStepsOf_38 rfl (lv_at hl 0 rfl) ?_
          refine lv_icmp_lt (tgt := 47) hx hb dX6_passStepsOf_39 (by decide) (fun c_39 => ?_) (fun c_39 => ?_)
          ·
            exact wr_v hx hb hr hlocks hS ⟨(by have h9 : ¬ needB S c9 ≤ S1.ce c9 := fun h => c_10 ((nle (Nat.lt_of_le_of_lt (needB_le S c9) (by decide)) (Nat.lt_of_le_of_lt (hI.ce hc1) (by decide))).mpr h); have e9 : S1 = pwS S c9 3 := (show S1 = pwS S c9 3 by rw [← hp]; show _ = (if needB S1 c9 ≤ S1.ce c9 then S1 else if apprA S1 c9 = none then pwS (u_ce S1 c9 (S1.ce c9 + 1)) c9 n else S1); rw [if_neg (by rw [hm]; exact h9), if_neg (nsome o_18)]); unfold passOneS; rw [← e9, if_neg h9]; exact hR), rfl⟩ (Nat.le_of_ble_eq_true rfl) (Nat.le_of_ble_eq_true rfl) dX6_passStepsOf_47
          · exact absurd (i_nle c_10) c_39
        ·
          refine lv_aload_n hx hb dX6_passStepsOf_21 rfl (lv_at hl 2 rfl) ?_
          refine lv_dup hx hb dX6_passStepsOf_22 rfl ?_
          refine gf_X0_10 hx hb hown hC (RA.ch hR hc1) (zf_X6_204 hC.1) dX6_passStepsOf_23 ?_
          refine lv_iconst (v := 1) hx hb dX6_passStepsOf_26 (by decide) ?_
          refine lv_iadd hx hb dX6_passStepsOf_27 ?_
          rw [← nI_succ (S1.ce c9)]
          refine pf_X0_10 hx hb hown hC (RA.ch hR hc1) hS (Or.inl (RA.ow hR (k := 8) hc1)) (zf_X6_204 hC.1) rfl rfl dX6_passStepsOf_28 (fun H1 locs1 hat hz hq hS => ?_)
          have hR : RA E (u_ce S1 (c9) (S1.ce c9 + 1)) g H1 := RA.s_ce (v := (S1.ce c9 + 1)) hR hc1 hat hq
          refine lv_goto (tgt := 5) hx hb dX6_passStepsOf_31 (by decide) ?_
          have hlt : S1.ce c9 < needB S c9 := Nat.lt_of_not_le (fun h => c_10 ((nle (Nat.lt_of_le_of_lt (needB_le S c9) (by decide)) (Nat.lt_of_le_of_lt (hI.ce hc1) (by decide))).mpr h))
          exact ih (u_ce S1 c9 (S1.ce c9 + 1)) H1 locs1 (hI.uce (Nat.le_trans hlt (needB_le S c9)) (fun z => by rw [hs1] at z; exact absurd z (by decide))) hs1 hc1 ((needB_ce S1 c9 _ c9).trans hm) (by show needB S c9 ≤ va_up S1.ce c9 (S1.ce c9 + 1) c9 + n; rw [va_up_self]; omega) (by rw [← hp]; show _ = (if needB S1 c9 ≤ S1.ce c9 then S1 else if apprA S1 c9 = none then pwS (u_ce S1 c9 (S1.ce c9 + 1)) c9 n else S1); rw [if_neg (by omega), if_pos o_18]) hR hS ls (lv_sub hl [0, 1, 2] rfl)
  exact loop5 3 S s.heap [] hI hs hc rfl (Nat.le_trans (needB_le S c9) (Nat.le_add_left 3 _)) rfl hR hS ls hl
set_option maxRecDepth 100000 in
set_option maxHeartbeats 4000000 in
theorem c_X6_passSteps (l : Launch) (E : EE) {S : St} {g : Gh} (hI : Inv S)  : WM l E yX6_passSteps cX6_passSteps 3 none (wD 5 0 0) [.ref (g.ad 1 0)] (RA E S g) (ow g) (fun _ v H => RA E (passS S) g H ∧ v = none) := by
  refine wm_of rfl (Nat.le_of_ble_eq_true rfl) (fun p e s m below meth c ls hx hb hr hml (hown : s.vm.findClass RX6 = some m.cls) hC hlocks hR hl hini => ?_)
  have hS : va_S (fun q => ow g q ∨ s.heap.size ≤ q) s.heap s.heap [] := va_S.rf
  have hl : lv_has ls 3 [(0, .ref (g.ad 1 0))] := hl
  have hI0 := hI
  refine lv_iconst (v := 0) hx hb dX6_passSteps_0 (by decide) ?_
  refine lv_istore_n (lv' := [(1, .int (0)), (0, .ref (g.ad 1 0))]) hx hb dX6_passSteps_1 rfl hl (by decide) rfl (fun ls hl => ?_)
  have loop2 : ∀ (r i : Nat) (H1 : Heap) (locs1 : List Loc), i + r = S.nc → RA E (passF S i) g H1 → va_S (fun q => ow g q ∨ s.heap.size ≤ q) s.heap H1 locs1 → ∀ ls, lv_has ls 3 [(1, .int (nI (i))), (0, .ref (g.ad 1 0))] → W p l e (wD 5 0 0) s m ([.ref (g.ad 1 0)] : List Value).toArray below meth c H1 locs1 0 0 (MQ below (WQ (ow g) s.heap.size (fun v H => RA E (passS S) g H ∧ v = none)) ([.ref (g.ad 1 0)] : List Value).toArray s (wD 5 0 0).cells (wD 5 0 0).slots (fun q => ow g q ∨ s.heap.size ≤ q)) (F0 m 2 ls []) := by
    intro r
    induction r with
    | zero =>
      intro i H1 locs1 hE hR hS ls hl
      have hN : i = S.nc := by omega
      subst hN
      have hnc : (passF S (S.nc)).nc = S.nc := passF_nc S (S.nc)
      have hI : Inv (passF S (S.nc)) := hI0.pF (S.nc) (Nat.le_refl _)
      refine lv_iload_n hx hb dX6_passSteps_2 rfl (lv_at hl 0 rfl) ?_
      refine lv_aload_n hx hb dX6_passSteps_3 rfl (lv_at hl 1 rfl) ?_
      refine gf_X6_2 hx hb hown hC (RA.x hR) (zf_X6_19 hC.1) dX6_passSteps_4 ?_
      refine rc_V (As := []) hx hb hml hown hC hl (c_size l E _ _ _ _) (rec_of hC (RA.ls hR (by decide : 2 < 4)) rfl) (zm_X6_51 hC.1) kv_Jx4a65c_size_8abf5 (RA.ls hR (by decide : 2 < 4)) rfl rfl (rwD_le (by decide) (by decide)) ⟨rfl, rfl⟩ (Nat.le_of_ble_eq_true rfl) ⟨Nat.zero_le _, Nat.zero_le _⟩ dX6_passSteps_7 ?_
      refine lv_icmp_ge (tgt := 44) hx hb dX6_passSteps_10 (by decide) (fun c_10 => ?_) (fun c_10 => ?_)
      ·
        exact wr_v hx hb hr hlocks hS ⟨hR, rfl⟩ (Nat.le_of_ble_eq_true rfl) (Nat.le_of_ble_eq_true rfl) dX6_passSteps_44
      · exact absurd (by rw [show (passF S (S.nc)).cnt 2 = S.nc from hnc]; exact Int32.le_refl _) c_10
    | succ r ih =>
      intro i H1 locs1 hE hR hS ls hl
      have hnc : (passF S i).nc = S.nc := passF_nc S (i)
      have hlt : i < (passF S i).nc := by rw [hnc]; omega
      have hI : Inv (passF S i) := hI0.pF (i) (by omega)
      refine lv_iload_n hx hb dX6_passSteps_2 rfl (lv_at hl 0 rfl) ?_
      refine lv_aload_n hx hb dX6_passSteps_3 rfl (lv_at hl 1 rfl) ?_
      refine gf_X6_2 hx hb hown hC (RA.x hR) (zf_X6_19 hC.1) dX6_passSteps_4 ?_
      refine rc_V (As := []) hx hb hml hown hC hl (c_size l E _ _ _ _) (rec_of hC (RA.ls hR (by decide : 2 < 4)) rfl) (zm_X6_51 hC.1) kv_Jx4a65c_size_8abf5 (RA.ls hR (by decide : 2 < 4)) rfl rfl (rwD_le (by decide) (by decide)) ⟨rfl, rfl⟩ (Nat.le_of_ble_eq_true rfl) ⟨Nat.zero_le _, Nat.zero_le _⟩ dX6_passSteps_7 ?_
      refine lv_icmp_ge (tgt := 44) hx hb dX6_passSteps_10 (by decide) (fun c_10 => ?_) (fun c_10 => ?_)
      · rw [show (passF S i).cnt 2 = S.nc from hnc] at c_10; exact absurd c_10 (nI_ge (by omega) hI0.nc31)
      ·
        refine lv_aload_n hx hb dX6_passSteps_13 rfl (lv_at hl 1 rfl) ?_
        refine gf_X6_2 hx hb hown hC (RA.x hR) (zf_X6_19 hC.1) dX6_passSteps_14 ?_
        refine lv_iload_n hx hb dX6_passSteps_17 rfl (lv_at hl 0 rfl) ?_
        refine rc_V (As := [.int (nI (i))]) hx hb hml hown hC hl (c_getL l E 2 rfl hR (by decide) hlt) (rec_of hC (RA.ls hR (by decide : 2 < 4)) rfl) (zm_X6_253 hC.1) kv_Jx4a65c_get_915e3 (RA.gp hR 2 (by decide) hlt) rfl rfl (rwD_le (by decide) (by decide)) ⟨rfl, rfl⟩ (Nat.le_of_ble_eq_true rfl) ⟨Nat.zero_le _, Nat.zero_le _⟩ dX6_passSteps_18 ?_
        refine g_cast hx hb hown hC (RA.ch hR hlt) rfl (zc_X6_155 hC.1) dX6_passSteps_21 ?_
        refine lv_astore_n (lv' := [(2, .ref (g.ad 8 (i))), (1, .int (nI (i))), (0, .ref (g.ad 1 0))]) hx hb dX6_passSteps_24 rfl hl (by decide) rfl (fun ls hl => ?_)
        refine lv_aload_n hx hb dX6_passSteps_25 rfl (lv_at hl 0 rfl) ?_
        refine gf_X0_8 hx hb hown hC (RA.ch hR hlt) (zf_X6_197 hC.1) dX6_passSteps_26 ?_
        refine lv_iconst (v := 1) hx hb dX6_passSteps_29 (by decide) ?_
        refine lv_icmp_ne (tgt := 38) hx hb dX6_passSteps_30 (by decide) (fun c_30 => ?_) (fun c_30 => ?_)
        ·
          refine lv_iinc (v := nI (i) + 1) (lv' := [(1, .int (nI (i) + 1)), (2, .ref (g.ad 8 (i))), (0, .ref (g.ad 1 0))]) hx hb dX6_passSteps_38 hl (k := 1) rfl rfl (by decide) rfl (fun ls hl => ?_)
          refine lv_goto (tgt := 2) hx hb dX6_passSteps_41 (by decide) ?_
          refine ih (i + 1) _ _ (by omega) (by rw [show passF S (i + 1) = (if (passF S i).cs i = 1 then passOneS (passF S i) i else passF S i) from rfl, if_neg c_30]; exact hR) hS ls ?_
          rw [nI_succ i]
          exact lv_sub hl [0, 2] rfl
        ·
          refine lv_aload_n hx hb dX6_passSteps_33 rfl (lv_at hl 2 rfl) ?_
          refine lv_aload_n hx hb dX6_passSteps_34 rfl (lv_at hl 0 rfl) ?_
          refine wcv_V (As := [.ref (g.ad 8 (i))]) hx hb hml hown hC hl (c_X6_passStepsOf l E hI hlt c_30) (rec_of hC (RA.x hR) rfl) (zm_X6_399 hC.1) kv_X6_passStepsOf hR hS (fun q h => h.imp id (Nat.le_trans hS.1)) rfl rfl (wD_le (by decide) (by decide)) (Nat.le_of_ble_eq_true rfl) ⟨Nat.le_of_ble_eq_true rfl, Nat.le_of_ble_eq_true rfl⟩ dX6_passSteps_35 (fun H1 locs1 hR hz hq hS => ?_)
          have hI : Inv (passOneS (passF S i) (i)) := Inv.passOne hI c_30 hlt
          refine lv_iinc (v := nI (i) + 1) (lv' := [(1, .int (nI (i) + 1)), (2, .ref (g.ad 8 (i))), (0, .ref (g.ad 1 0))]) hx hb dX6_passSteps_38 hl (k := 1) rfl rfl (by decide) rfl (fun ls hl => ?_)
          refine lv_goto (tgt := 2) hx hb dX6_passSteps_41 (by decide) ?_
          refine ih (i + 1) _ _ (by omega) (by rw [show passF S (i + 1) = (if (passF S i).cs i = 1 then passOneS (passF S i) i else passF S i) from rfl, if_pos c_30]; exact hR) hS ls ?_
          rw [nI_succ i]
          exact lv_sub hl [0, 2] rfl
  exact loop2 (S.nc) 0 s.heap [] (Nat.zero_add _) hR hS ls (lv_sub hl [0, 1] rfl)
set_option maxRecDepth 100000 in
set_option maxHeartbeats 4000000 in
theorem c_X6_matchBestPair (l : Launch) (E : EE) {S : St} {g : Gh} (hI : Inv S)  : WM l E yX6_matchBestPair cX6_matchBestPair 7 (some .boolean) (wD 4 0 0) [.ref (g.ad 1 0)] (RA E S g) (ow g) (fun _ v H => RA E (mbS S) g H ∧ v = some (.int (mbR S))) := by
  refine wm_of rfl (Nat.le_of_ble_eq_true rfl) (fun p e s m below meth c ls hx hb hr hml (hown : s.vm.findClass RX6 = some m.cls) hC hlocks hR hl hini => ?_)
  have hS : va_S (fun q => ow g q ∨ s.heap.size ≤ q) s.heap s.heap [] := va_S.rf
  have hl : lv_has ls 7 [(0, .ref (g.ad 1 0))] := hl
  refine lv_null hx hb dX6_matchBestPair_0 ?_
  refine lv_astore_nN (lv' := [(1, .null), (0, .ref (g.ad 1 0))]) hx hb dX6_matchBestPair_1 rfl hl (by decide) rfl (fun ls hl => ?_)
  refine lv_null hx hb dX6_matchBestPair_2 ?_
  refine lv_astore_nN (lv' := [(2, .null), (1, .null), (0, .ref (g.ad 1 0))]) hx hb dX6_matchBestPair_3 rfl hl (by decide) rfl (fun ls hl => ?_)
  refine lv_iconst (v := (-1)) hx hb dX6_matchBestPair_4 (by decide) ?_
  refine lv_istore_n (lv' := [(3, .int ((-1))), (2, .null), (1, .null), (0, .ref (g.ad 1 0))]) hx hb dX6_matchBestPair_5 rfl hl (by decide) rfl (fun ls hl => ?_)
  refine lv_iconst (v := 0) hx hb dX6_matchBestPair_6 (by decide) ?_
  refine lv_istore (lv' := [(4, .int (0)), (3, .int ((-1))), (2, .null), (1, .null), (0, .ref (g.ad 1 0))]) hx hb dX6_matchBestPair_7 hl (by decide) rfl (fun ls hl => ?_)
  have loop9 : ∀ (r9 i : Nat), i + r9 = S.nc → ∀ ls, lv_has ls 7 [(4, .int (nI (i))), (3, .int ((bP S i).2)), (2, va_rf (((bP S i).1.map Prod.snd).map (g.ad 9))), (1, va_rf (((bP S i).1.map Prod.fst).map (g.ad 8))), (0, .ref (g.ad 1 0))] → W p l e (wD 4 0 0) s m ([.ref (g.ad 1 0)] : List Value).toArray below meth c s.heap [] 0 0 (MQ below (WQ (ow g) s.heap.size (fun v H => RA E (mbS S) g H ∧ v = some (.int (mbR S)))) ([.ref (g.ad 1 0)] : List Value).toArray s (wD 4 0 0).cells (wD 4 0 0).slots (fun q => ow g q ∨ s.heap.size ≤ q)) (F0 m 9 ls []) := by
    intro r9
    induction r9 with
    | zero =>
      intro i hE9 ls hl
      have hN9 : i = S.nc := by omega
      subst hN9
      refine lv_iload hx hb dX6_matchBestPair_9 (lv_at hl 0 rfl) ?_
      refine lv_aload_n hx hb dX6_matchBestPair_11 rfl (lv_at hl 4 rfl) ?_
      refine gf_X6_2 hx hb hown hC (RA.x hR) (zf_X6_19 hC.1) dX6_matchBestPair_12 ?_
      refine rc_V (As := []) hx hb hml hown hC hl (c_size l E _ _ _ _) (rec_of hC (RA.ls hR (by decide : 2 < 4)) rfl) (zm_X6_51 hC.1) kv_Jx4a65c_size_8abf5 (RA.ls hR (by decide : 2 < 4)) rfl rfl (rwD_le (by decide) (by decide)) ⟨rfl, rfl⟩ (Nat.le_of_ble_eq_true rfl) ⟨Nat.zero_le _, Nat.zero_le _⟩ dX6_matchBestPair_15 ?_
      refine lv_icmp_ge (tgt := 79) hx hb dX6_matchBestPair_18 (by decide) (fun c_18 => ?_) (fun c_18 => ?_)
      ·
        refine lw_aload_n hx hb dX6_matchBestPair_79 rfl (lv_at hl 3 rfl) ?_
        refine lw_ifnull (tgt := 87) hx hb dX6_matchBestPair_80 (by decide) (fun o_80 => ?_) (fun j_80 o_80 => ?_)
        ·
          refine lv_iconst (v := 0) hx hb dX6_matchBestPair_87 (by decide) ?_
          exact wr_z hx hb hr hlocks (by decide) hS ⟨(by unfold mbS; rw [bP_n o_80]; exact hR), (by unfold mbR; rw [bP_n o_80])⟩ (Nat.le_of_ble_eq_true rfl) (Nat.le_of_ble_eq_true rfl) dX6_matchBestPair_88
        ·
          refine lw_aload_n hx hb dX6_matchBestPair_83 rfl (lv_at hl 2 rfl) ?_
          obtain ⟨j_84, o_84⟩ := bP_e o_80
          refine lw_some o_84 ?_
          refine lv_ifnonnull (tgt := 89) hx hb dX6_matchBestPair_84 (by decide) ?_
          refine lv_aload_n hx hb dX6_matchBestPair_89 rfl (lv_at hl 4 rfl) ?_
          refine lw_aload_n hx hb dX6_matchBestPair_90 rfl (lv_at hl 3 rfl) ?_
          refine lw_aload_n hx hb dX6_matchBestPair_91 rfl (lv_at hl 2 rfl) ?_
          refine lw_some1 o_80 ?_
          refine lw_some o_84 ?_
          refine wcv_V (As := [.ref (g.ad 8 (j_80)), .ref (g.ad 9 (j_84))]) hx hb hml hown hC hl (c_X6_match l E hI (bP_f o_80) (bP_r o_84)) (rec_of hC (RA.x hR) rfl) (zm_X6_379 hC.1) kv_X6_match hR hS (fun q h => h.imp id (Nat.le_trans hS.1)) rfl rfl (wD_le (by decide) (by decide)) (Nat.le_of_ble_eq_true rfl) ⟨Nat.le_of_ble_eq_true rfl, Nat.le_of_ble_eq_true rfl⟩ dX6_matchBestPair_92 (fun H1 locs1 hR hz hq hS => ?_)
          have hI : Inv (matchS S (j_80) (j_84)) := hI.match' (bP_f o_80) (bP_r o_84)
          refine lv_iconst (v := 1) hx hb dX6_matchBestPair_95 (by decide) ?_
          exact wr_z hx hb hr hlocks (by decide) hS ⟨(by unfold mbS; rw [bP_s o_80 o_84]; exact hR), (by unfold mbR; rw [bP_s o_80 o_84])⟩ (Nat.le_of_ble_eq_true rfl) (Nat.le_of_ble_eq_true rfl) dX6_matchBestPair_96
      · exact absurd (Int32.le_refl _) c_18
    | succ r9 ih9 =>
      intro i hE9 ls hl
      have hlt9 : i < S.nc := by omega
      refine lv_iload hx hb dX6_matchBestPair_9 (lv_at hl 0 rfl) ?_
      refine lv_aload_n hx hb dX6_matchBestPair_11 rfl (lv_at hl 4 rfl) ?_
      refine gf_X6_2 hx hb hown hC (RA.x hR) (zf_X6_19 hC.1) dX6_matchBestPair_12 ?_
      refine rc_V (As := []) hx hb hml hown hC hl (c_size l E _ _ _ _) (rec_of hC (RA.ls hR (by decide : 2 < 4)) rfl) (zm_X6_51 hC.1) kv_Jx4a65c_size_8abf5 (RA.ls hR (by decide : 2 < 4)) rfl rfl (rwD_le (by decide) (by decide)) ⟨rfl, rfl⟩ (Nat.le_of_ble_eq_true rfl) ⟨Nat.zero_le _, Nat.zero_le _⟩ dX6_matchBestPair_15 ?_
      refine lv_icmp_ge (tgt := 79) hx hb dX6_matchBestPair_18 (by decide) (fun c_18 => ?_) (fun c_18 => ?_)
      · exact absurd c_18 (nI_ge hlt9 hI.nc31)
      ·
        refine lv_aload_n hx hb dX6_matchBestPair_21 rfl (lv_at hl 4 rfl) ?_
        refine gf_X6_2 hx hb hown hC (RA.x hR) (zf_X6_19 hC.1) dX6_matchBestPair_22 ?_
        refine lv_iload hx hb dX6_matchBestPair_25 (lv_at hl 0 rfl) ?_
        refine rc_V (As := [.int (nI (i))]) hx hb hml hown hC hl (c_getL l E 2 rfl hR (by decide) hlt9) (rec_of hC (RA.ls hR (by decide : 2 < 4)) rfl) (zm_X6_253 hC.1) kv_Jx4a65c_get_915e3 (RA.gp hR 2 (by decide) hlt9) rfl rfl (rwD_le (by decide) (by decide)) ⟨rfl, rfl⟩ (Nat.le_of_ble_eq_true rfl) ⟨Nat.zero_le _, Nat.zero_le _⟩ dX6_matchBestPair_27 ?_
        refine g_cast hx hb hown hC (RA.ch hR hlt9) rfl (zc_X6_155 hC.1) dX6_matchBestPair_30 ?_
        refine lv_astore (lv' := [(5, .ref (g.ad 8 (i))), (4, .int (nI (i))), (3, .int ((bP S i).2)), (2, va_rf (((bP S i).1.map Prod.snd).map (g.ad 9))), (1, va_rf (((bP S i).1.map Prod.fst).map (g.ad 8))), (0, .ref (g.ad 1 0))]) hx hb dX6_matchBestPair_33 hl (by decide) rfl (fun ls hl => ?_)
        refine lv_aload_n hx hb dX6_matchBestPair_35 rfl (lv_at hl 5 rfl) ?_
        refine lv_aload hx hb dX6_matchBestPair_36 (lv_at hl 0 rfl) ?_
        refine rc_V (As := [.ref (g.ad 8 (i))]) hx hb hml hown hC hl (c_X6_bestReceiptFor l E hI hlt9) (rec_of hC (RA.x hR) rfl) (zm_X6_375 hC.1) kv_X6_bestReceiptFor hR rfl rfl (rwD_le (by decide) (by decide)) ⟨rfl, rfl⟩ (Nat.le_of_ble_eq_true rfl) ⟨Nat.zero_le _, Nat.zero_le _⟩ dX6_matchBestPair_38 ?_
        refine lw_astore (lv' := [(6, va_rf ((bRA S (i)).map (g.ad 9))), (5, .ref (g.ad 8 (i))), (4, .int (nI (i))), (3, .int ((bP S i).2)), (2, va_rf (((bP S i).1.map Prod.snd).map (g.ad 9))), (1, va_rf (((bP S i).1.map Prod.fst).map (g.ad 8))), (0, .ref (g.ad 1 0))]) hx hb dX6_matchBestPair_41 hl (by decide) rfl (fun ls hl => ?_)
        refine lw_aload hx hb dX6_matchBestPair_43 (lv_at hl 0 rfl) ?_
        refine lw_ifnull (tgt := 73) hx hb dX6_matchBestPair_45 (by decide) (fun o_45 => ?_) (fun j_45 o_45 => ?_)
        ·
          refine lv_iinc (v := nI (i) + 1) (lv' := [(4, .int (nI (i) + 1)), (6, va_rf ((bRA S (i)).map (g.ad 9))), (5, .ref (g.ad 8 (i))), (3, .int ((bP S i).2)), (2, va_rf (((bP S i).1.map Prod.snd).map (g.ad 9))), (1, va_rf (((bP S i).1.map Prod.fst).map (g.ad 8))), (0, .ref (g.ad 1 0))]) hx hb dX6_matchBestPair_73 hl (k := 2) rfl rfl (by decide) rfl (fun ls hl => ?_)
          refine lv_goto (tgt := 9) hx hb dX6_matchBestPair_76 (by decide) ?_
          refine ih9 (i + 1) (by omega) ls ?_
          rw [nI_succ i, bP_a o_45]
          exact lv_sub hl [0, 3, 4, 5, 6] rfl
        ·
          refine lv_aload hx hb dX6_matchBestPair_48 (lv_at hl 1 rfl) ?_
          refine lw_aload hx hb dX6_matchBestPair_50 (lv_at hl 0 rfl) ?_
          refine lw_some o_45 ?_
          refine rc_S (As := [.ref (g.ad 8 (i)), .ref (g.ad 9 (j_45))]) hx hb hml hown hC hl (c_X6_scoreOf l E hI hlt9 (g.ad 9 (j_45)) (nI (j_45)) (S.ra (j_45)) (S.rd (j_45)) (S.rx (j_45)) (S.ro (j_45))) (zm_X6_247 hC.1) kv_X6_scoreOf ⟨hR, (RA.re hR (bR_lt o_45))⟩ rfl rfl (rwD_le (by decide) (by decide)) ⟨rfl, rfl⟩ (Nat.le_of_ble_eq_true rfl) ⟨Nat.zero_le _, Nat.zero_le _⟩ dX6_matchBestPair_52 ?_
          refine lv_iload_n hx hb dX6_matchBestPair_55 rfl (lv_at hl 3 rfl) ?_
          refine lv_icmp_le (tgt := 73) hx hb dX6_matchBestPair_56 (by decide) (fun c_56 => ?_) (fun c_56 => ?_)
          ·
            refine lv_iinc (v := nI (i) + 1) (lv' := [(4, .int (nI (i) + 1)), (6, va_rf ((bRA S (i)).map (g.ad 9))), (5, .ref (g.ad 8 (i))), (3, .int ((bP S i).2)), (2, va_rf (((bP S i).1.map Prod.snd).map (g.ad 9))), (1, va_rf (((bP S i).1.map Prod.fst).map (g.ad 8))), (0, .ref (g.ad 1 0))]) hx hb dX6_matchBestPair_73 hl (k := 2) rfl rfl (by decide) rfl (fun ls hl => ?_)
            refine lv_goto (tgt := 9) hx hb dX6_matchBestPair_76 (by decide) ?_
            refine ih9 (i + 1) (by omega) ls ?_
            rw [nI_succ i, bP_b o_45 c_56]
            exact lv_sub hl [0, 3, 4, 5, 6] rfl
          ·
            refine lv_aload hx hb dX6_matchBestPair_59 (lv_at hl 1 rfl) ?_
            refine lv_astore_n (lv' := [(1, .ref (g.ad 8 (i))), (6, va_rf ((bRA S (i)).map (g.ad 9))), (5, .ref (g.ad 8 (i))), (4, .int (nI (i))), (3, .int ((bP S i).2)), (2, va_rf (((bP S i).1.map Prod.snd).map (g.ad 9))), (0, .ref (g.ad 1 0))]) hx hb dX6_matchBestPair_61 rfl hl (by decide) rfl (fun ls hl => ?_)
            refine lw_aload hx hb dX6_matchBestPair_62 (lv_at hl 1 rfl) ?_
            refine lw_astore_n (lv' := [(2, va_rf ((bRA S (i)).map (g.ad 9))), (1, .ref (g.ad 8 (i))), (6, va_rf ((bRA S (i)).map (g.ad 9))), (5, .ref (g.ad 8 (i))), (4, .int (nI (i))), (3, .int ((bP S i).2)), (0, .ref (g.ad 1 0))]) hx hb dX6_matchBestPair_64 rfl hl (by decide) rfl (fun ls hl => ?_)
            refine lv_aload hx hb dX6_matchBestPair_65 (lv_at hl 3 rfl) ?_
            refine lw_aload hx hb dX6_matchBestPair_67 (lv_at hl 2 rfl) ?_
            refine lw_some o_45 ?_
            refine rc_S (As := [.ref (g.ad 8 (i)), .ref (g.ad 9 (j_45))]) hx hb hml hown hC hl (c_X6_scoreOf l E hI hlt9 (g.ad 9 (j_45)) (nI (j_45)) (S.ra (j_45)) (S.rd (j_45)) (S.rx (j_45)) (S.ro (j_45))) (zm_X6_247 hC.1) kv_X6_scoreOf ⟨hR, (RA.re hR (bR_lt o_45))⟩ rfl rfl (rwD_le (by decide) (by decide)) ⟨rfl, rfl⟩ (Nat.le_of_ble_eq_true rfl) ⟨Nat.zero_le _, Nat.zero_le _⟩ dX6_matchBestPair_69 ?_
            refine lv_istore_n (i := 3) (lv' := [(3, .int (scA S (i) (S.ra (j_45)) (S.rd (j_45)) (S.rx (j_45)))), (2, va_rf ((bRA S (i)).map (g.ad 9))), (1, .ref (g.ad 8 (i))), (6, va_rf ((bRA S (i)).map (g.ad 9))), (5, .ref (g.ad 8 (i))), (4, .int (nI (i))), (0, .ref (g.ad 1 0))]) hx hb dX6_matchBestPair_72 rfl hl (by decide) (by simp [va_rf_cat, tC]) (fun ls hl => ?_)
            refine lv_iinc (v := nI (i) + 1) (lv' := [(4, .int (nI (i) + 1)), (3, .int (scA S (i) (S.ra (j_45)) (S.rd (j_45)) (S.rx (j_45)))), (2, va_rf ((bRA S (i)).map (g.ad 9))), (1, .ref (g.ad 8 (i))), (6, va_rf ((bRA S (i)).map (g.ad 9))), (5, .ref (g.ad 8 (i))), (0, .ref (g.ad 1 0))]) hx hb dX6_matchBestPair_73 hl (k := 5) rfl rfl (by decide) rfl (fun ls hl => ?_)
            refine lv_goto (tgt := 9) hx hb dX6_matchBestPair_76 (by decide) ?_
            refine ih9 (i + 1) (by omega) ls ?_
            rw [o_45] at hl
            rw [nI_succ i, bP_c o_45 c_56]
            exact lv_sub hl [0, 1, 2, 3, 6] rfl
  exact loop9 (S.nc) 0 (by omega) ls (lv_sub hl [0, 1, 2, 3, 4] rfl)
set_option maxRecDepth 100000 in
set_option maxHeartbeats 4000000 in
theorem c_X6_matchPairs (l : Launch) (E : EE) {S : St} {g : Gh} (hI : Inv S)  : WM l E yX6_matchPairs cX6_matchPairs 3 none (wD 5 0 0) [.ref (g.ad 1 0)] (RA E S g) (ow g) (fun _ v H => RA E (mpS S) g H ∧ v = none) := by
  refine wm_of rfl (Nat.le_of_ble_eq_true rfl) (fun p e s m below meth c ls hx hb hr hml (hown : s.vm.findClass RX6 = some m.cls) hC hlocks hR hl hini => ?_)
  have hS : va_S (fun q => ow g q ∨ s.heap.size ≤ q) s.heap s.heap [] := va_S.rf
  have hl : lv_has ls 3 [(0, .ref (g.ad 1 0))] := hl
  refine lv_iconst (v := 1) hx hb dX6_matchPairs_0 (by decide) ?_
  refine lv_istore_n (lv' := [(1, .int (1)), (0, .ref (g.ad 1 0))]) hx hb dX6_matchPairs_1 rfl hl (by decide) rfl (fun ls hl => ?_)
  refine lv_iconst (v := 0) hx hb dX6_matchPairs_2 (by decide) ?_
  refine lv_istore_n (lv' := [(2, .int (0)), (1, .int (1)), (0, .ref (g.ad 1 0))]) hx hb dX6_matchPairs_3 rfl hl (by decide) rfl (fun ls hl => ?_)
  have loop4 : ∀ (r i : Nat) (H1 : Heap) (locs1 : List Loc), i + r = 30 → RA E (mpF S i).1 g H1 → va_S (fun q => ow g q ∨ s.heap.size ≤ q) s.heap H1 locs1 → ∀ ls, lv_has ls 3 [(2, .int (nI i)), (1, .int ((mpF S i).2)), (0, .ref (g.ad 1 0))] → W p l e (wD 5 0 0) s m ([.ref (g.ad 1 0)] : List Value).toArray below meth c H1 locs1 0 0 (MQ below (WQ (ow g) s.heap.size (fun v H => RA E (mpS S) g H ∧ v = none)) ([.ref (g.ad 1 0)] : List Value).toArray s (wD 5 0 0).cells (wD 5 0 0).slots (fun q => ow g q ∨ s.heap.size ≤ q)) (F0 m 4 ls []) := by
    intro r
    induction r with
    | zero =>
      intro i H1 locs1 hE hR hS ls hl
      have hN : i = 30 := by omega
      subst hN
      have hI := hI.mpf 30
      refine lv_iload_n hx hb dX6_matchPairs_4 rfl (lv_at hl 0 rfl) ?_
      refine lv_bipush (v := 30) hx hb dX6_matchPairs_5 (by decide) ?_
      refine lv_icmp_ge (tgt := 25) hx hb dX6_matchPairs_7 (by decide) (fun c_7 => ?_) (fun c_7 => ?_)
      ·
        exact wr_v hx hb hr hlocks hS ⟨hR, rfl⟩ (Nat.le_of_ble_eq_true rfl) (Nat.le_of_ble_eq_true rfl) dX6_matchPairs_25
      · exact absurd (by decide) c_7
    | succ r ih =>
      intro i H1 locs1 hE hR hS ls hl
      have hI := hI.mpf i
      refine lv_iload_n hx hb dX6_matchPairs_4 rfl (lv_at hl 0 rfl) ?_
      refine lv_bipush (v := 30) hx hb dX6_matchPairs_5 (by decide) ?_
      refine lv_icmp_ge (tgt := 25) hx hb dX6_matchPairs_7 (by decide) (fun c_7 => ?_) (fun c_7 => ?_)
      · exact absurd c_7 (show ¬ (30 : Int32) ≤ nI i from nI_ge (b := 30) (by omega) (by decide))
      ·
        refine lv_iload_n hx hb dX6_matchPairs_10 rfl (lv_at hl 1 rfl) ?_
        refine lv_if_eq (tgt := 25) hx hb dX6_matchPairs_11 (by decide) (fun c_11 => ?_) (fun c_11 => ?_)
        ·
          exact wr_v hx hb hr hlocks hS ⟨(by unfold mpS; rw [mpF_stop c_11 30 (by omega)]; exact hR), rfl⟩ (Nat.le_of_ble_eq_true rfl) (Nat.le_of_ble_eq_true rfl) dX6_matchPairs_25
        ·
          refine lv_aload_n hx hb dX6_matchPairs_14 rfl (lv_at hl 2 rfl) ?_
          refine wcw_V (As := []) hx hb hml hown hC hl (c_X6_matchBestPair l E hI) (rec_of hC (RA.x hR) rfl) (zm_X6_372 hC.1) kv_X6_matchBestPair hR hS (fun q h => h.imp id (Nat.le_trans hS.1)) rfl rfl (wD_le (by decide) (by decide)) (Nat.le_of_ble_eq_true rfl) ⟨Nat.le_of_ble_eq_true rfl, Nat.le_of_ble_eq_true rfl⟩ dX6_matchPairs_15 (fun H1 locs1 hR hz hq hS => ?_)
          have hI : Inv (mbS ((mpF S i).1)) := hI.mb
          refine lv_istore_n (lv' := [(1, .int (mbR ((mpF S i).1))), (2, .int (nI i)), (0, .ref (g.ad 1 0))]) hx hb dX6_matchPairs_18 rfl hl (by decide) rfl (fun ls hl => ?_)
          refine lv_iinc (v := nI i + 1) (lv' := [(2, .int (nI i + 1)), (1, .int (mbR ((mpF S i).1))), (0, .ref (g.ad 1 0))]) hx hb dX6_matchPairs_19 hl (k := 1) rfl rfl (by decide) rfl (fun ls hl => ?_)
          refine lv_goto (tgt := 4) hx hb dX6_matchPairs_22 (by decide) ?_
          refine ih (i + 1) _ _ (by omega) (by rw [mpF_b c_11]; exact hR) hS ls ?_
          rw [nI_succ i, mpF_b c_11]
          exact lv_sub hl [0, 1, 2] rfl
  exact loop4 30 0 s.heap [] (by omega) hR hS ls (lv_sub hl [0, 1, 2] rfl)

