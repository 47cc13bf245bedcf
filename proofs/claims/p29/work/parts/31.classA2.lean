set_option maxRecDepth 100000 in
set_option maxHeartbeats 4000000 in
theorem c_X0_stepsNeeded (l : Launch) (E : EE) {S : St} {g : Gh} (hI : Inv S) {c9 : Nat} (hc : c9 < S.nc) : RM l E yX0_stepsNeeded cX0_stepsNeeded 4 .int (rD 0) [.ref (g.ad 8 (c9))] (RA E S g) (.int (nI (needB S c9))) := by
  refine rm_of rfl (Nat.le_of_ble_eq_true rfl) (fun p e s m below meth c ls hx hb hr hml (hown : s.vm.findClass RX0 = some m.cls) hC hlocks hR hl => ?_)
  have hl : lv_has ls 4 [(0, .ref (g.ad 8 (c9)))] := hl
  have j29 : ∀ (M : Nat), mostB S c9 = M → ∀ ls, lv_has ls 4 [(0, .ref (g.ad 8 (c9)))] → W p l e (rD 0) s m ([.ref (g.ad 8 (c9))] : List Value).toArray below meth c s.heap [] 0 0 (MQ below (RQ (.int (nI (needB S c9)))) ([.ref (g.ad 8 (c9))] : List Value).toArray s 0 0 (fun _ => False)) (F0 m 29 ls [.int (nI M)]) := by
    intro M hM ls hl
    have hM3 : M ≤ 3 := by rw [← hM]; exact mostB_le S c9
    refine lv_istore_n (lv' := [(1, .int (nI M)), (0, .ref (g.ad 8 (c9)))]) hx hb dX0_stepsNeeded_29 rfl hl (by decide) rfl (fun ls hl => ?_)
    refine lv_iconst (v := 0) hx hb dX0_stepsNeeded_30 (by decide) ?_
    refine lv_istore_n (lv' := [(2, .int (0)), (1, .int (nI M)), (0, .ref (g.ad 8 (c9)))]) hx hb dX0_stepsNeeded_31 rfl hl (by decide) rfl (fun ls hl => ?_)
    refine lv_aload_n hx hb dX0_stepsNeeded_32 rfl (lv_at hl 2 rfl) ?_
    refine gf_X0_1 hx hb hown hC (RA.ch hR hc) (zf_X0_33 hC.1) dX0_stepsNeeded_33 ?_
    refine gf_X2_1 hx hb hown hC (RA.pe hR (hI.cp hc)) (zf_X0_61 hC.1) dX0_stepsNeeded_36 ?_
    refine lw_astore_n (lv' := [(3, va_rf ((S.bo (S.cp (c9))).map (g.ad 6))), (2, .int (0)), (1, .int (nI M)), (0, .ref (g.ad 8 (c9)))]) hx hb dX0_stepsNeeded_39 rfl hl (by decide) rfl (fun ls hl => ?_)
    have loop40 : ∀ (r k : Nat) (o : Option Nat), (∀ j, o = some j → j < S.np) → k + r = M → needB S c9 = k + cntB S r o → ∀ ls, lv_has ls 4 [(3, va_rf ((o).map (g.ad 6))), (2, .int (nI k)), (1, .int (nI M)), (0, .ref (g.ad 8 (c9)))] → W p l e (rD 0) s m ([.ref (g.ad 8 (c9))] : List Value).toArray below meth c s.heap [] 0 0 (MQ below (RQ (.int (nI (needB S c9)))) ([.ref (g.ad 8 (c9))] : List Value).toArray s 0 0 (fun _ => False)) (F0 m 40 ls []) := by
      intro r
      induction r with
      | zero =>
        intro k o ho hk hn ls hl
        have hkM : k = M := by omega
        refine lw_aload_n hx hb dX0_stepsNeeded_40 rfl (lv_at hl 0 rfl) ?_
        refine lw_ifnull (tgt := 60) hx hb dX0_stepsNeeded_41 (by decide) (fun o_41 => ?_) (fun j_41 o_41 => ?_)
        ·
          refine lv_iload_n hx hb dX0_stepsNeeded_60 rfl (lv_at hl 1 rfl) ?_
          exact rr_i hx hb hr hlocks (by rw [hn, o_41]; rfl) dX0_stepsNeeded_61
        ·
          refine lv_iload_n hx hb dX0_stepsNeeded_44 rfl (lv_at hl 1 rfl) ?_
          refine lv_iload_n hx hb dX0_stepsNeeded_45 rfl (lv_at hl 2 rfl) ?_
          refine lv_icmp_ge (tgt := 60) hx hb dX0_stepsNeeded_46 (by decide) (fun c_46 => ?_) (fun c_46 => ?_)
          ·
            refine lv_iload_n hx hb dX0_stepsNeeded_60 rfl (lv_at hl 1 rfl) ?_
            exact rr_i hx hb hr hlocks (by rw [hn]; rfl) dX0_stepsNeeded_61
          · exact absurd (by rw [hkM]; exact Int32.le_refl _) c_46
      | succ r ih =>
        intro k o ho hk hn ls hl
        refine lw_aload_n hx hb dX0_stepsNeeded_40 rfl (lv_at hl 0 rfl) ?_
        refine lw_ifnull (tgt := 60) hx hb dX0_stepsNeeded_41 (by decide) (fun o_41 => ?_) (fun j_41 o_41 => ?_)
        ·
          refine lv_iload_n hx hb dX0_stepsNeeded_60 rfl (lv_at hl 1 rfl) ?_
          exact rr_i hx hb hr hlocks (by rw [hn, o_41]; rfl) dX0_stepsNeeded_61
        ·
          refine lv_iload_n hx hb dX0_stepsNeeded_44 rfl (lv_at hl 1 rfl) ?_
          refine lv_iload_n hx hb dX0_stepsNeeded_45 rfl (lv_at hl 2 rfl) ?_
          refine lv_icmp_ge (tgt := 60) hx hb dX0_stepsNeeded_46 (by decide) (fun c_46 => ?_) (fun c_46 => ?_)
          ·
            refine lv_iload_n hx hb dX0_stepsNeeded_60 rfl (lv_at hl 1 rfl) ?_
            exact absurd c_46 (nI_ge (by omega) (by omega))
          ·
            refine lv_iinc (v := nI k + 1) (lv' := [(2, .int (nI k + 1)), (3, va_rf ((o).map (g.ad 6))), (1, .int (nI M)), (0, .ref (g.ad 8 (c9)))]) hx hb dX0_stepsNeeded_49 hl (k := 1) rfl rfl (by decide) rfl (fun ls hl => ?_)
            refine lw_aload_n hx hb dX0_stepsNeeded_52 rfl (lv_at hl 1 rfl) ?_
            refine lw_some o_41 ?_
            refine gf_X2_1 hx hb hown hC (RA.pe hR (ho j_41 o_41)) (zf_X0_61 hC.1) dX0_stepsNeeded_53 ?_
            refine lw_astore_n (lv' := [(3, va_rf ((S.bo (j_41)).map (g.ad 6))), (2, .int (nI k + 1)), (1, .int (nI M)), (0, .ref (g.ad 8 (c9)))]) hx hb dX0_stepsNeeded_56 rfl hl (by decide) rfl (fun ls hl => ?_)
            refine lv_goto (tgt := 40) hx hb dX0_stepsNeeded_57 (by decide) ?_
            refine ih (k + 1) (S.bo j_41) (fun j h => hI.bo (ho _ o_41) h) (by omega) (by rw [hn, o_41]; show k + (cntB S r (S.bo j_41) + 1) = _; omega) ls ?_
            rw [nI_succ k]
            exact lv_sub hl [0, 1, 2, 3] rfl
    exact loop40 M 0 (S.bo (S.cp c9)) (fun j h => hI.bo (hI.cp hc) h) (by omega) (by unfold needB; rw [hM, Nat.zero_add]) ls (lv_sub hl [0, 1, 2, 3] rfl)
  refine lv_aload_n hx hb dX0_stepsNeeded_0 rfl (lv_at hl 0 rfl) ?_
  refine gf_X0_4 hx hb hown hC (RA.ch hR hc) (zf_X0_43 hC.1) dX0_stepsNeeded_1 ?_
  refine lv_sipush (v := 2000) hx hb dX0_stepsNeeded_4 (by decide) ?_
  refine lv_icmp_le (tgt := 14) hx hb dX0_stepsNeeded_7 (by decide) (fun c_7 => ?_) (fun c_7 => ?_)
  ·
    refine lv_aload_n hx hb dX0_stepsNeeded_14 rfl (lv_at hl 0 rfl) ?_
    refine gf_X0_4 hx hb hown hC (RA.ch hR hc) (zf_X0_43 hC.1) dX0_stepsNeeded_15 ?_
    refine lv_sipush (v := 500) hx hb dX0_stepsNeeded_18 (by decide) ?_
    refine lv_icmp_le (tgt := 28) hx hb dX0_stepsNeeded_21 (by decide) (fun c_21 => ?_) (fun c_21 => ?_)
    ·
      refine lv_iconst (v := 1) hx hb dX0_stepsNeeded_28 (by decide) ?_
      exact j29 1 (by unfold mostB; rw [if_pos c_7, if_pos c_21]) ls hl
    ·
      refine lv_iconst (v := 2) hx hb dX0_stepsNeeded_24 (by decide) ?_
      refine lv_goto (tgt := 29) hx hb dX0_stepsNeeded_25 (by decide) ?_
      exact j29 2 (by unfold mostB; rw [if_pos c_7, if_neg c_21]) ls hl
  ·
    refine lv_iconst (v := 3) hx hb dX0_stepsNeeded_10 (by decide) ?_
    refine lv_goto (tgt := 29) hx hb dX0_stepsNeeded_11 (by decide) ?_
    exact j29 3 (by unfold mostB; rw [if_neg c_7]) ls hl
set_option maxRecDepth 100000 in
set_option maxHeartbeats 4000000 in
theorem c_X0_bossOfNextStep (l : Launch) (E : EE) {S : St} {g : Gh} (hI : Inv S) {c9 : Nat} (hc : c9 < S.nc) : RM l E yX0_bossOfNextStep cX0_bossOfNextStep 3 (.object "ApprovalGrid$Person") (rD 1) [.ref (g.ad 8 (c9))] (RA E S g) (va_rf ((bossN S c9).map (g.ad 6))) := by
  refine rm_of rfl (Nat.le_of_ble_eq_true rfl) (fun p e s m below meth c ls hx hb hr hml (hown : s.vm.findClass RX0 = some m.cls) hC hlocks hR hl => ?_)
  have hl : lv_has ls 3 [(0, .ref (g.ad 8 (c9)))] := hl
  have j22 : ∀ (o : Option Nat), (if needB S c9 ≤ S.ce c9 then none else S.bo (S.cp c9)) = o → (∀ j, o = some j → j < S.np) → ∀ ls, lv_has ls 3 [(0, .ref (g.ad 8 (c9)))] → W p l e (rD 1) s m ([.ref (g.ad 8 (c9))] : List Value).toArray below meth c s.heap [] 0 0 (MQ below (RQ (va_rf ((bossN S c9).map (g.ad 6)))) ([.ref (g.ad 8 (c9))] : List Value).toArray s 0 0 (fun _ => False)) (F0 m 22 ls [va_rf ((o).map (g.ad 6))]) := by
    intro o ho2 ho ls hl
    refine lw_astore_n (lv' := [(1, va_rf ((o).map (g.ad 6))), (0, .ref (g.ad 8 (c9)))]) hx hb dX0_bossOfNextStep_22 rfl hl (by decide) rfl (fun ls hl => ?_)
    refine lv_iconst (v := 0) hx hb dX0_bossOfNextStep_23 (by decide) ?_
    refine lv_istore_n (i := 2) (lv' := [(2, .int (0)), (1, va_rf ((o).map (g.ad 6))), (0, .ref (g.ad 8 (c9)))]) hx hb dX0_bossOfNextStep_24 rfl hl (by decide) (by simp [va_rf_cat, tC]) (fun ls hl => ?_)
    have loop25 : ∀ (r k : Nat), k + r = S.ce c9 → ∀ ls, lv_has ls 3 [(2, .int (nI k)), (1, va_rf ((itB S k o).map (g.ad 6))), (0, .ref (g.ad 8 (c9)))] → W p l e (rD 1) s m ([.ref (g.ad 8 (c9))] : List Value).toArray below meth c s.heap [] 0 0 (MQ below (RQ (va_rf ((bossN S c9).map (g.ad 6)))) ([.ref (g.ad 8 (c9))] : List Value).toArray s 0 0 (fun _ => False)) (F0 m 25 ls []) := by
      intro r
      induction r with
      | zero =>
        intro k hk ls hl
        have hk2 : k = S.ce c9 := by omega
        refine lv_iload_n hx hb dX0_bossOfNextStep_25 rfl (lv_at hl 0 rfl) ?_
        refine lv_aload_n hx hb dX0_bossOfNextStep_26 rfl (lv_at hl 2 rfl) ?_
        refine gf_X0_10 hx hb hown hC (RA.ch hR hc) (zf_X0_23 hC.1) dX0_bossOfNextStep_27 ?_
        refine lv_icmp_ge (tgt := 48) hx hb dX0_bossOfNextStep_30 (by decide) (fun c_30 => ?_) (fun c_30 => ?_)
        ·
          refine lw_aload_n hx hb dX0_bossOfNextStep_48 rfl (lv_at hl 1 rfl) ?_
          exact rr_a hx hb hr hlocks (by unfold bossN; rw [ho2, hk2]) dX0_bossOfNextStep_49
        · exact absurd (by rw [hk2]; exact Int32.le_refl _) c_30
      | succ r ih =>
        intro k hk ls hl
        refine lv_iload_n hx hb dX0_bossOfNextStep_25 rfl (lv_at hl 0 rfl) ?_
        refine lv_aload_n hx hb dX0_bossOfNextStep_26 rfl (lv_at hl 2 rfl) ?_
        refine gf_X0_10 hx hb hown hC (RA.ch hR hc) (zf_X0_23 hC.1) dX0_bossOfNextStep_27 ?_
        refine lv_icmp_ge (tgt := 48) hx hb dX0_bossOfNextStep_30 (by decide) (fun c_30 => ?_) (fun c_30 => ?_)
        · exact absurd c_30 (nI_ge (by omega) (by have := hI.ce hc; omega))
        ·
          refine lw_aload_n hx hb dX0_bossOfNextStep_33 rfl (lv_at hl 1 rfl) ?_
          refine lw_ifnull (tgt := 48) hx hb dX0_bossOfNextStep_34 (by decide) (fun o_34 => ?_) (fun j_34 o_34 => ?_)
          ·
            refine lw_aload_n hx hb dX0_bossOfNextStep_48 rfl (lv_at hl 1 rfl) ?_
            exact rr_a hx hb hr hlocks (by unfold bossN; rw [ho2, (itB_none o_34 (by omega) : itB S (S.ce c9) o = none), o_34]) dX0_bossOfNextStep_49
          ·
            refine lw_aload_n hx hb dX0_bossOfNextStep_37 rfl (lv_at hl 1 rfl) ?_
            refine lw_some o_34 ?_
            refine gf_X2_1 hx hb hown hC (RA.pe hR (itB_lt hI ho o_34)) (zf_X0_61 hC.1) dX0_bossOfNextStep_38 ?_
            refine lw_astore_n (lv' := [(1, va_rf ((S.bo (j_34)).map (g.ad 6))), (2, .int (nI k)), (0, .ref (g.ad 8 (c9)))]) hx hb dX0_bossOfNextStep_41 rfl hl (by decide) rfl (fun ls hl => ?_)
            refine lv_iinc (v := nI k + 1) (lv' := [(2, .int (nI k + 1)), (1, va_rf ((S.bo (j_34)).map (g.ad 6))), (0, .ref (g.ad 8 (c9)))]) hx hb dX0_bossOfNextStep_42 hl (k := 1) rfl rfl (by decide) (by simp [va_rf_cat, tC]) (fun ls hl => ?_)
            refine lv_goto (tgt := 25) hx hb dX0_bossOfNextStep_45 (by decide) ?_
            refine ih (k + 1) (by omega) ls ?_
            rw [nI_succ k, show itB S (k + 1) o = S.bo j_34 from by show (itB S k o).bind S.bo = _; rw [o_34]; rfl]
            exact lv_sub hl [0, 1, 2] rfl
    exact loop25 (S.ce c9) 0 (by omega) ls (lv_sub hl [0, 1, 2] rfl)
  refine lv_aload_n hx hb dX0_bossOfNextStep_0 rfl (lv_at hl 0 rfl) ?_
  refine gf_X0_10 hx hb hown hC (RA.ch hR hc) (zf_X0_23 hC.1) dX0_bossOfNextStep_1 ?_
  refine lv_aload_n hx hb dX0_bossOfNextStep_4 rfl (lv_at hl 0 rfl) ?_
  refine rc_V (As := []) hx hb hml hown hC hl (c_X0_stepsNeeded l E hI hc) (rec_of hC (RA.ch hR hc) rfl) (zm_X0_66 hC.1) kv_X0_stepsNeeded hR rfl rfl (rD_le (by decide) (by decide)) ⟨rfl, rfl⟩ (Nat.le_of_ble_eq_true rfl) ⟨Nat.zero_le _, Nat.zero_le _⟩ dX0_bossOfNextStep_5 ?_
  refine lv_icmp_ge (tgt := 21) hx hb dX0_bossOfNextStep_8 (by decide) (fun c_8 => ?_) (fun c_8 => ?_)
  ·
    refine lv_null hx hb dX0_bossOfNextStep_21 ?_
    exact j22 none (by rw [if_pos ((nle (by have := needB_le S c9; omega) (by have := hI.ce hc; omega)).mp c_8)]) (fun j h => by cases h) ls hl
  ·
    refine lv_aload_n hx hb dX0_bossOfNextStep_11 rfl (lv_at hl 0 rfl) ?_
    refine gf_X0_1 hx hb hown hC (RA.ch hR hc) (zf_X0_33 hC.1) dX0_bossOfNextStep_12 ?_
    refine gf_X2_1 hx hb hown hC (RA.pe hR (hI.cp hc)) (zf_X0_61 hC.1) dX0_bossOfNextStep_15 ?_
    refine lv_goto (tgt := 22) hx hb dX0_bossOfNextStep_18 (by decide) ?_
    exact j22 (S.bo (S.cp c9)) (by rw [if_neg (fun h => c_8 ((nle (by have := needB_le S c9; omega) (by have := hI.ce hc; omega)).mpr h))]) (fun j h => hI.bo (hI.cp hc) h) ls hl
set_option maxRecDepth 100000 in
set_option maxHeartbeats 4000000 in
theorem c_X6_nextApproverOf (l : Launch) (E : EE) {S : St} {g : Gh} (hI : Inv S) {c9 : Nat} (hc : c9 < S.nc) : RM l E yX6_nextApproverOf cX6_nextApproverOf 4 (.object "ApprovalGrid$Person") (rD 2) [.ref (g.ad 1 0), .ref (g.ad 8 (c9))] (RA E S g) (va_rf ((apprA S c9).map (g.ad 6))) := by
  refine rm_of rfl (Nat.le_of_ble_eq_true rfl) (fun p e s m below meth c ls hx hb hr hml (hown : s.vm.findClass RX6 = some m.cls) hC hlocks hR hl => ?_)
  have hl : lv_has ls 4 [(0, .ref (g.ad 1 0)), (1, .ref (g.ad 8 (c9)))] := hl
  have j16 : ∀ (o : Option Nat), (if S.cs c9 = 1 then bossN S c9 else none) = o → (∀ j, o = some j → j < S.np) → ∀ ls, lv_has ls 4 [(0, .ref (g.ad 1 0)), (1, .ref (g.ad 8 (c9)))] → W p l e (rD 2) s m ([.ref (g.ad 1 0), .ref (g.ad 8 (c9))] : List Value).toArray below meth c s.heap [] 0 0 (MQ below (RQ (va_rf ((apprA S c9).map (g.ad 6)))) ([.ref (g.ad 1 0), .ref (g.ad 8 (c9))] : List Value).toArray s 0 0 (fun _ => False)) (F0 m 16 ls [va_rf ((o).map (g.ad 6))]) := by
    intro o ho2 ho ls hl
    refine lw_astore_n (lv' := [(2, va_rf ((o).map (g.ad 6))), (0, .ref (g.ad 1 0)), (1, .ref (g.ad 8 (c9)))]) hx hb dX6_nextApproverOf_16 rfl hl (by decide) rfl (fun ls hl => ?_)
    refine lw_aload_n hx hb dX6_nextApproverOf_17 rfl (lv_at hl 0 rfl) ?_
    refine lw_ifnull (tgt := 32) hx hb dX6_nextApproverOf_18 (by decide) (fun o_18 => ?_) (fun j_18 o_18 => ?_)
    ·
      refine lw_aload_n hx hb dX6_nextApproverOf_32 rfl (lv_at hl 0 rfl) ?_
      exact rr_a hx hb hr hlocks (by unfold apprA; rw [ho2]; simp [apprO, va_rf, o_18]) dX6_nextApproverOf_33
    ·
      refine lw_aload_n hx hb dX6_nextApproverOf_21 rfl (lv_at hl 0 rfl) ?_
      refine lv_aload_n hx hb dX6_nextApproverOf_22 rfl (lv_at hl 1 rfl) ?_
      refine gf_X6_8 hx hb hown hC (RA.x hR) (zf_X6_43 hC.1) dX6_nextApproverOf_23 ?_
      refine lw_some1 o_18 ?_
      refine rc_V (As := [.int (nI S.td)]) hx hb hml hown hC hl (c_X2_isAwayOn l E hI (ho _ o_18) (nI S.td)) (rec_of hC (RA.pe hR (ho _ o_18)) rfl) (zm_X6_91 hC.1) kv_X2_isAwayOn hR rfl rfl (rD_le (by decide) (by decide)) ⟨rfl, rfl⟩ (Nat.le_of_ble_eq_true rfl) ⟨Nat.zero_le _, Nat.zero_le _⟩ dX6_nextApproverOf_26 ?_
      refine lv_if_ne (tgt := 34) hx hb dX6_nextApproverOf_29 (by decide) (fun c_29 => ?_) (fun c_29 => ?_)
      ·
        refine lw_aload_n hx hb dX6_nextApproverOf_34 rfl (lv_at hl 0 rfl) ?_
        refine lw_some o_18 ?_
        refine gf_X2_5 hx hb hown hC (RA.pe hR (ho _ o_18)) (zf_X6_98 hC.1) dX6_nextApproverOf_35 ?_
        refine lw_astore_n (i := 3) (lv' := [(3, va_rf ((S.si (j_18)).map (g.ad 6))), (2, va_rf ((o).map (g.ad 6))), (0, .ref (g.ad 1 0)), (1, .ref (g.ad 8 (c9)))]) hx hb dX6_nextApproverOf_38 rfl hl (by decide) (by simp [va_rf_cat, tC]) (fun ls hl => ?_)
        refine lw_aload_n hx hb dX6_nextApproverOf_39 rfl (lv_at hl 0 rfl) ?_
        refine lw_ifnull (tgt := 62) hx hb dX6_nextApproverOf_40 (by decide) (fun o_40 => ?_) (fun j_40 o_40 => ?_)
        ·
          refine lv_null hx hb dX6_nextApproverOf_62 ?_
          exact rr_n hx hb hr hlocks (by unfold apprA; rw [ho2]; simp [apprO, va_rf, o_18, c_29, o_40]) dX6_nextApproverOf_63
        ·
          refine lw_aload_n hx hb dX6_nextApproverOf_43 rfl (lv_at hl 0 rfl) ?_
          refine lv_aload_n hx hb dX6_nextApproverOf_44 rfl (lv_at hl 3 rfl) ?_
          refine gf_X0_1 hx hb hown hC (RA.ch hR hc) (zf_X6_211 hC.1) dX6_nextApproverOf_45 ?_
          refine lw_some1 o_40 ?_
          refine lw_acmp_eq (i := j_40) (j := S.cp (c9)) (tgt := 62) hx hb (RA.iff hR 6 (hI.si (ho _ o_18) o_40) (hI.cp hc)) dX6_nextApproverOf_48 (by decide) (fun c_48 => ?_) (fun c_48 => ?_)
          ·
            refine lv_null hx hb dX6_nextApproverOf_62 ?_
            exact rr_n hx hb hr hlocks (by unfold apprA; rw [ho2]; simp [apprO, va_rf, o_18, c_29, o_40, c_48]) dX6_nextApproverOf_63
          ·
            refine lw_aload_n hx hb dX6_nextApproverOf_51 rfl (lv_at hl 0 rfl) ?_
            refine lv_aload_n hx hb dX6_nextApproverOf_52 rfl (lv_at hl 2 rfl) ?_
            refine gf_X6_8 hx hb hown hC (RA.x hR) (zf_X6_43 hC.1) dX6_nextApproverOf_53 ?_
            refine lw_some1 o_40 ?_
            refine rc_V (As := [.int (nI S.td)]) hx hb hml hown hC hl (c_X2_isAwayOn l E hI (hI.si (ho _ o_18) o_40) (nI S.td)) (rec_of hC (RA.pe hR (hI.si (ho _ o_18) o_40)) rfl) (zm_X6_91 hC.1) kv_X2_isAwayOn hR rfl rfl (rD_le (by decide) (by decide)) ⟨rfl, rfl⟩ (Nat.le_of_ble_eq_true rfl) ⟨Nat.zero_le _, Nat.zero_le _⟩ dX6_nextApproverOf_56 ?_
            refine lv_if_eq (tgt := 64) hx hb dX6_nextApproverOf_59 (by decide) (fun c_59 => ?_) (fun c_59 => ?_)
            ·
              refine lw_aload_n hx hb dX6_nextApproverOf_64 rfl (lv_at hl 0 rfl) ?_
              exact rr_a hx hb hr hlocks (by unfold apprA; rw [ho2]; simp [apprO, va_rf, o_18, c_29, o_40, c_48, c_59]) dX6_nextApproverOf_65
            ·
              refine lv_null hx hb dX6_nextApproverOf_62 ?_
              exact rr_n hx hb hr hlocks (by unfold apprA; rw [ho2]; simp [apprO, va_rf, o_18, c_29, o_40, c_48, c_59]) dX6_nextApproverOf_63
      ·
        refine lw_aload_n hx hb dX6_nextApproverOf_32 rfl (lv_at hl 0 rfl) ?_
        exact rr_a hx hb hr hlocks (by unfold apprA; rw [ho2]; simp [apprO, va_rf, o_18, c_29]) dX6_nextApproverOf_33
  refine lv_aload_n hx hb dX6_nextApproverOf_0 rfl (lv_at hl 1 rfl) ?_
  refine gf_X0_8 hx hb hown hC (RA.ch hR hc) (zf_X6_197 hC.1) dX6_nextApproverOf_1 ?_
  refine lv_iconst (v := 1) hx hb dX6_nextApproverOf_4 (by decide) ?_
  refine lv_icmp_ne (tgt := 15) hx hb dX6_nextApproverOf_5 (by decide) (fun c_5 => ?_) (fun c_5 => ?_)
  ·
    refine lv_null hx hb dX6_nextApproverOf_15 ?_
    exact j16 none (by rw [if_neg c_5]) (fun j h => by cases h) ls hl
  ·
    refine lv_aload_n hx hb dX6_nextApproverOf_8 rfl (lv_at hl 1 rfl) ?_
    refine rc_V (As := []) hx hb hml hown hC hl (c_X0_bossOfNextStep l E hI hc) (rec_of hC (RA.ch hR hc) rfl) (zm_X6_405 hC.1) kv_X0_bossOfNextStep hR rfl rfl (rD_le (by decide) (by decide)) ⟨rfl, rfl⟩ (Nat.le_of_ble_eq_true rfl) ⟨Nat.zero_le _, Nat.zero_le _⟩ dX6_nextApproverOf_9 ?_
    refine lv_goto (tgt := 16) hx hb dX6_nextApproverOf_12 (by decide) ?_
    exact j16 (bossN S c9) (by rw [if_pos c_5]) (fun j h => bossN_lt hI hc h) ls hl
set_option maxRecDepth 100000 in
set_option maxHeartbeats 4000000 in
theorem c_X6_countToApproveBy (l : Launch) (E : EE) {S : St} {g : Gh} (hI : Inv S) {p9 : Nat} (hp : p9 < S.np) : RM l E yX6_countToApproveBy cX6_countToApproveBy 4 .int (rD 3) [.ref (g.ad 1 0), .ref (g.ad 6 (p9))] (RA E S g) (.int (toApA S p9)) := by
  refine rm_of rfl (Nat.le_of_ble_eq_true rfl) (fun p e s m below meth c ls hx hb hr hml (hown : s.vm.findClass RX6 = some m.cls) hC hlocks hR hl => ?_)
  have hl : lv_has ls 4 [(0, .ref (g.ad 1 0)), (1, .ref (g.ad 6 (p9)))] := hl
  refine lv_iconst (v := 0) hx hb dX6_countToApproveBy_0 (by decide) ?_
  refine lv_istore_n (lv' := [(2, .int (0)), (0, .ref (g.ad 1 0)), (1, .ref (g.ad 6 (p9)))]) hx hb dX6_countToApproveBy_1 rfl hl (by decide) rfl (fun ls hl => ?_)
  refine lv_iconst (v := 0) hx hb dX6_countToApproveBy_2 (by decide) ?_
  refine lv_istore_n (lv' := [(3, .int (0)), (2, .int (0)), (0, .ref (g.ad 1 0)), (1, .ref (g.ad 6 (p9)))]) hx hb dX6_countToApproveBy_3 rfl hl (by decide) rfl (fun ls hl => ?_)
  have loop4 : ∀ (n i : Nat), i ≤ S.nc → S.nc < i + n → ∀ ls, lv_has ls 4 [(3, .int (nI i)), (2, .int (sm (toApQ S p9) i)), (0, .ref (g.ad 1 0)), (1, .ref (g.ad 6 (p9)))] → W p l e (rD 3) s m ([.ref (g.ad 1 0), .ref (g.ad 6 (p9))] : List Value).toArray below meth c s.heap [] 0 0 (MQ below (RQ (.int (toApA S p9))) ([.ref (g.ad 1 0), .ref (g.ad 6 (p9))] : List Value).toArray s 0 0 (fun _ => False)) (F0 m 4 ls []) := by
    intro n
    induction n with
    | zero => intro i h1 h2; exact absurd h2 (by omega)
    | succ n ih =>
      intro i hi hin ls hl
      refine lv_iload_n hx hb dX6_countToApproveBy_4 rfl (lv_at hl 0 rfl) ?_
      refine lv_aload_n hx hb dX6_countToApproveBy_5 rfl (lv_at hl 2 rfl) ?_
      refine gf_X6_2 hx hb hown hC (RA.x hR) (zf_X6_19 hC.1) dX6_countToApproveBy_6 ?_
      refine rc_V (As := []) hx hb hml hown hC hl (c_size l E _ _ _ _) (rec_of hC (RA.ls hR (by decide : 2 < 4)) rfl) (zm_X6_51 hC.1) kv_Jx4a65c_size_8abf5 (RA.ls hR (by decide : 2 < 4)) rfl rfl (rD_le (by decide) (by decide)) ⟨rfl, rfl⟩ (Nat.le_of_ble_eq_true rfl) ⟨Nat.zero_le _, Nat.zero_le _⟩ dX6_countToApproveBy_9 ?_
      refine lv_icmp_ge (tgt := 43) hx hb dX6_countToApproveBy_12 (by decide) (fun c_12 => ?_) (fun c_12 => ?_)
      ·
        have hi := ge_in c_12 hi hI.nc31
        subst hi
        refine lv_iload_n hx hb dX6_countToApproveBy_43 rfl (lv_at hl 1 rfl) ?_
        exact rr_i hx hb hr hlocks rfl dX6_countToApproveBy_44
      ·
        have hlt := ge_out c_12 hi hI.nc31
        refine lv_aload_n hx hb dX6_countToApproveBy_15 rfl (lv_at hl 2 rfl) ?_
        refine lv_aload_n hx hb dX6_countToApproveBy_16 rfl (lv_at hl 2 rfl) ?_
        refine gf_X6_2 hx hb hown hC (RA.x hR) (zf_X6_19 hC.1) dX6_countToApproveBy_17 ?_
        refine lv_iload_n hx hb dX6_countToApproveBy_20 rfl (lv_at hl 0 rfl) ?_
        refine rc_V (As := [.int (nI i)]) hx hb hml hown hC hl (c_getL l E 2 rfl hR (by decide) hlt) (rec_of hC (RA.ls hR (by decide : 2 < 4)) rfl) (zm_X6_253 hC.1) kv_Jx4a65c_get_915e3 (RA.gp hR 2 (by decide) hlt) rfl rfl (rD_le (by decide) (by decide)) ⟨rfl, rfl⟩ (Nat.le_of_ble_eq_true rfl) ⟨Nat.zero_le _, Nat.zero_le _⟩ dX6_countToApproveBy_21 ?_
        refine g_cast hx hb hown hC (RA.ch hR hlt) rfl (zc_X6_155 hC.1) dX6_countToApproveBy_24 ?_
        refine rc_V (As := [.ref (g.ad 8 (i))]) hx hb hml hown hC hl (c_X6_nextApproverOf l E hI hlt) (rec_of hC (RA.x hR) rfl) (zm_X6_235 hC.1) kv_X6_nextApproverOf hR rfl rfl (rD_le (by decide) (by decide)) ⟨rfl, rfl⟩ (Nat.le_of_ble_eq_true rfl) ⟨Nat.zero_le _, Nat.zero_le _⟩ dX6_countToApproveBy_27 ?_
        refine lv_aload_n hx hb dX6_countToApproveBy_30 rfl (lv_at hl 3 rfl) ?_
        refine lw_acmpo_ne (o := apprA S (i)) (j := p9) (tgt := 37) hx hb (RA.iffo hR 6 (fun i h => (apprA_lt hI hlt h)) hp) dX6_countToApproveBy_31 (by decide) (fun c_31 => ?_) (fun c_31 => ?_)
        ·
          refine lv_iinc (v := nI i + 1) (lv' := [(3, .int (nI i + 1)), (2, .int (sm (toApQ S p9) i)), (0, .ref (g.ad 1 0)), (1, .ref (g.ad 6 (p9)))]) hx hb dX6_countToApproveBy_37 hl (k := 0) rfl rfl (by decide) rfl (fun ls hl => ?_)
          refine lv_goto (tgt := 4) hx hb dX6_countToApproveBy_40 (by decide) ?_
          refine ih (i + 1) hlt (by omega) ls ?_
          rw [nI_succ i, sm_z (f := toApQ S p9) (by unfold toApQ; rw [if_neg c_31])]
          exact lv_sub hl [0, 1, 2, 3] rfl
        ·
          refine lv_iinc (v := sm (toApQ S p9) i + 1) (lv' := [(2, .int (sm (toApQ S p9) i + 1)), (3, .int (nI i)), (0, .ref (g.ad 1 0)), (1, .ref (g.ad 6 (p9)))]) hx hb dX6_countToApproveBy_34 hl (k := 1) rfl rfl (by decide) rfl (fun ls hl => ?_)
          refine lv_iinc (v := nI i + 1) (lv' := [(3, .int (nI i + 1)), (2, .int (sm (toApQ S p9) i + 1)), (0, .ref (g.ad 1 0)), (1, .ref (g.ad 6 (p9)))]) hx hb dX6_countToApproveBy_37 hl (k := 1) rfl rfl (by decide) rfl (fun ls hl => ?_)
          refine lv_goto (tgt := 4) hx hb dX6_countToApproveBy_40 (by decide) ?_
          refine ih (i + 1) hlt (by omega) ls ?_
          rw [nI_succ i, sm_t (f := toApQ S p9) (by unfold toApQ; rw [if_pos c_31])]
          exact lv_sub hl [0, 1, 2, 3] rfl
  refine loop4 (S.nc + 1) 0 (Nat.zero_le _) (by omega) ls ?_
  exact lv_sub hl [0, 1, 2, 3] rfl
set_option maxRecDepth 100000 in
set_option maxHeartbeats 4000000 in
theorem c_X6_tripToday (l : Launch) (E : EE) {S : St} {g : Gh} (hI : Inv S) {p9 : Nat} (hp : p9 < S.np) (ld : Int32) : RM l E yX6_tripToday cX6_tripToday 5 (.object "ApprovalGrid$Trip") (rD 3) [.ref (g.ad 1 0), .ref (g.ad 6 (p9)), .int (ld)] (RA E S g) (va_rf ((tripA S p9 ld).map (g.ad 7))) := by
  refine rm_of rfl (Nat.le_of_ble_eq_true rfl) (fun p e s m below meth c ls hx hb hr hml (hown : s.vm.findClass RX6 = some m.cls) hC hlocks hR hl => ?_)
  have hl : lv_has ls 5 [(0, .ref (g.ad 1 0)), (1, .ref (g.ad 6 (p9))), (2, .int (ld))] := hl
  refine lv_iconst (v := 0) hx hb dX6_tripToday_0 (by decide) ?_
  refine lv_istore_n (lv' := [(3, .int (0)), (0, .ref (g.ad 1 0)), (1, .ref (g.ad 6 (p9))), (2, .int (ld))]) hx hb dX6_tripToday_1 rfl hl (by decide) rfl (fun ls hl => ?_)
  have loop2 : ∀ (n i : Nat), i ≤ S.nt → S.nt < i + n → fstB (tripQ S p9 ld) i = none → ∀ ls, lv_has ls 5 [(3, .int (nI i)), (0, .ref (g.ad 1 0)), (1, .ref (g.ad 6 (p9))), (2, .int (ld))] → W p l e (rD 3) s m ([.ref (g.ad 1 0), .ref (g.ad 6 (p9)), .int (ld)] : List Value).toArray below meth c s.heap [] 0 0 (MQ below (RQ (va_rf ((tripA S p9 ld).map (g.ad 7)))) ([.ref (g.ad 1 0), .ref (g.ad 6 (p9)), .int (ld)] : List Value).toArray s 0 0 (fun _ => False)) (F0 m 2 ls []) := by
    intro n
    induction n with
    | zero => intro i h1 h2; exact absurd h2 (by omega)
    | succ n ih =>
      intro i hi hin hf ls hl
      refine lv_iload_n hx hb dX6_tripToday_2 rfl (lv_at hl 0 rfl) ?_
      refine lv_aload_n hx hb dX6_tripToday_3 rfl (lv_at hl 1 rfl) ?_
      refine gf_X6_1 hx hb hown hC (RA.x hR) (zf_X6_16 hC.1) dX6_tripToday_4 ?_
      refine rc_V (As := []) hx hb hml hown hC hl (c_size l E _ _ _ _) (rec_of hC (RA.ls hR (by decide : 1 < 4)) rfl) (zm_X6_51 hC.1) kv_Jx4a65c_size_8abf5 (RA.ls hR (by decide : 1 < 4)) rfl rfl (rD_le (by decide) (by decide)) ⟨rfl, rfl⟩ (Nat.le_of_ble_eq_true rfl) ⟨Nat.zero_le _, Nat.zero_le _⟩ dX6_tripToday_7 ?_
      refine lv_icmp_ge (tgt := 77) hx hb dX6_tripToday_10 (by decide) (fun c_10 => ?_) (fun c_10 => ?_)
      ·
        have hi := ge_in c_10 hi hI.nt31
        subst hi
        refine lv_null hx hb dX6_tripToday_77 ?_
        exact rr_n hx hb hr hlocks (by rw [show tripA S p9 ld = none from hf]; rfl) dX6_tripToday_78
      ·
        have hlt := ge_out c_10 hi hI.nt31
        exact absurd hlt (by show ¬ _ < S.nt; rw [hI.nt0]; exact Nat.not_lt_zero _)
  refine loop2 (S.nt + 1) 0 (Nat.zero_le _) (by omega) rfl ls ?_
  exact lv_sub hl [0, 1, 2, 3] rfl
set_option maxRecDepth 100000 in
set_option maxHeartbeats 4000000 in
theorem c_X6_spendableBy (l : Launch) (E : EE) {S : St} {g : Gh} (hI : Inv S) {p9 : Nat} (hp : p9 < S.np) {k9 : Nat} (hk : k9 < 4) (ld : Int32) : RM l E yX6_spendableBy cX6_spendableBy 6 .int (rD 4) [.ref (g.ad 1 0), .ref (g.ad 6 (p9)), .int (nI k9), .int (ld)] (RA E S g) (.int (spendA S p9 k9 ld)) := by
  refine rm_of rfl (Nat.le_of_ble_eq_true rfl) (fun p e s m below meth c ls hx hb hr hml (hown : s.vm.findClass RX6 = some m.cls) hC hlocks hR hl => ?_)
  have hl : lv_has ls 6 [(0, .ref (g.ad 1 0)), (1, .ref (g.ad 6 (p9))), (2, .int (nI k9)), (3, .int (ld))] := hl
  refine lv_aload_n hx hb dX6_spendableBy_0 rfl (lv_at hl 0 rfl) ?_
  refine lv_aload_n hx hb dX6_spendableBy_1 rfl (lv_at hl 1 rfl) ?_
  refine lv_iload_n hx hb dX6_spendableBy_2 rfl (lv_at hl 3 rfl) ?_
  refine rc_V (As := [.ref (g.ad 6 (p9)), .int (ld)]) hx hb hml hown hC hl (c_X6_tripToday l E hI hp (ld)) (rec_of hC (RA.x hR) rfl) (zm_X6_160 hC.1) kv_X6_tripToday hR rfl rfl (rD_le (by decide) (by decide)) ⟨rfl, rfl⟩ (Nat.le_of_ble_eq_true rfl) ⟨Nat.zero_le _, Nat.zero_le _⟩ dX6_spendableBy_3 ?_
  refine lw_astore (lv' := [(4, va_rf ((tripA S (p9) (ld)).map (g.ad 7))), (0, .ref (g.ad 1 0)), (1, .ref (g.ad 6 (p9))), (2, .int (nI k9)), (3, .int (ld))]) hx hb dX6_spendableBy_6 hl (by decide) rfl (fun ls hl => ?_)
  refine lw_aload hx hb dX6_spendableBy_8 (lv_at hl 0 rfl) ?_
  refine lw_ifnull (tgt := 26) hx hb dX6_spendableBy_10 (by decide) (fun o_10 => ?_) (fun j_10 o_10 => ?_)
  ·
    refine lv_aload_n hx hb dX6_spendableBy_26 rfl (lv_at hl 1 rfl) ?_
    refine gf_X6_4 hx hb hown hC (RA.x hR) (zf_X6_30 hC.1) dX6_spendableBy_27 ?_
    refine lv_aload_n hx hb dX6_spendableBy_30 rfl (lv_at hl 2 rfl) ?_
    refine gf_X2_0_s hx hb hown hC (RA.pe hR hp) (zf_X6_71 hC.1) dX6_spendableBy_31 ?_
    refine lv_iload_n hx hb dX6_spendableBy_34 rfl (lv_at hl 3 rfl) ?_
    refine rc_V (As := [.int (nI (p9)), .int (nI k9)]) hx hb hml hown hC hl (c_X4_at l E hI (by decide : 0 < 4) (r9 := p9) (c9 := k9) (Nat.lt_of_lt_of_le hp hI.np) hk) (rec_of hC (RA.tb hR (by decide : 0 < 4)) rfl) (zm_X6_361 hC.1) kv_X4_at hR rfl rfl (rD_le (by decide) (by decide)) ⟨rfl, rfl⟩ (Nat.le_of_ble_eq_true rfl) ⟨Nat.zero_le _, Nat.zero_le _⟩ dX6_spendableBy_35 ?_
    refine lv_iconst (v := 5) hx hb dX6_spendableBy_38 (by decide) ?_
    refine lv_aload_n hx hb dX6_spendableBy_39 rfl (lv_at hl 2 rfl) ?_
    refine gf_X2_2 hx hb hown hC (RA.pe hR hp) (zf_X6_123 hC.1) dX6_spendableBy_40 ?_
    refine lv_iadd hx hb dX6_spendableBy_43 ?_
    refine lv_imul hx hb dX6_spendableBy_44 ?_
    refine lv_bipush (v := 10) hx hb dX6_spendableBy_45 (by decide) ?_
    refine lv_idiv hx hb dX6_spendableBy_47 (by decide) ?_
    refine lv_istore (i := 5) (lv' := [(5, .int (((S.tb 0 (p9 * 4 + k9)) * ((5) + (S.tr (p9)))) / (10))), (4, va_rf ((tripA S (p9) (ld)).map (g.ad 7))), (0, .ref (g.ad 1 0)), (1, .ref (g.ad 6 (p9))), (2, .int (nI k9)), (3, .int (ld))]) hx hb dX6_spendableBy_48 hl (by decide) (by simp [va_rf_cat, tC]) (fun ls hl => ?_)
    refine lv_iload hx hb dX6_spendableBy_50 (lv_at hl 0 rfl) ?_
    refine lv_aload_n hx hb dX6_spendableBy_52 rfl (lv_at hl 2 rfl) ?_
    refine lv_aload_n hx hb dX6_spendableBy_53 rfl (lv_at hl 3 rfl) ?_
    refine lv_iload_n hx hb dX6_spendableBy_54 rfl (lv_at hl 4 rfl) ?_
    refine rc_V (As := [.ref (g.ad 6 (p9)), .int (nI k9)]) hx hb hml hown hC hl (c_X6_spentOffTrips l E hI hp (nI k9)) (rec_of hC (RA.x hR) rfl) (zm_X6_364 hC.1) kv_X6_spentOffTrips hR rfl rfl (rD_le (by decide) (by decide)) ⟨rfl, rfl⟩ (Nat.le_of_ble_eq_true rfl) ⟨Nat.zero_le _, Nat.zero_le _⟩ dX6_spendableBy_55 ?_
    refine lv_isub hx hb dX6_spendableBy_58 ?_
    exact rr_i hx hb hr hlocks (by unfold spendA; rw [o_10]) dX6_spendableBy_59
  ·
    refine lw_aload hx hb dX6_spendableBy_13 (lv_at hl 0 rfl) ?_
    refine lw_some o_10 ?_
    exact absurd (fstB_lt o_10) (by show ¬ _ < S.nt; rw [hI.nt0]; exact Nat.not_lt_zero _)
