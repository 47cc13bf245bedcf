set_option maxRecDepth 100000 in
set_option maxHeartbeats 4000000 in
theorem c_X2_isAwayOn (l : Launch) (E : EE) {S : St} {g : Gh} (hI : Inv S) {i : Nat} (hi : i < S.np) (d : Int32) : RM l E yX2_isAwayOn cX2_isAwayOn 2 .boolean (rD 0) [.ref (g.ad 6 (i)), .int (d)] (RA E S g) (.int (awayA S i d)) := by
  refine rm_of rfl (Nat.le_of_ble_eq_true rfl) (fun p e s m below meth c ls hx hb hr hml (hown : s.vm.findClass RX2 = some m.cls) hC hlocks hR hl => ?_)
  have hl : lv_has ls 2 [(0, .ref (g.ad 6 (i))), (1, .int (d))] := hl
  refine lv_aload_n hx hb dX2_isAwayOn_0 rfl (lv_at hl 0 rfl) ?_
  refine gf_X2_4 hx hb hown hC (RA.pe hR hi) (zf_X2_18 hC.1) dX2_isAwayOn_1 ?_
  refine lv_iload_n hx hb dX2_isAwayOn_4 rfl (lv_at hl 1 rfl) ?_
  refine lv_icmp_lt (tgt := 12) hx hb dX2_isAwayOn_5 (by decide) (fun c_5 => ?_) (fun c_5 => ?_)
  ·
    refine lv_iconst (v := 0) hx hb dX2_isAwayOn_12 (by decide) ?_
    exact rr_z hx hb hr hlocks (by decide) (by unfold awayA; rw [if_pos c_5]) dX2_isAwayOn_13
  ·
    refine lv_iconst (v := 1) hx hb dX2_isAwayOn_8 (by decide) ?_
    refine lv_goto (tgt := 13) hx hb dX2_isAwayOn_9 (by decide) ?_
    exact rr_z hx hb hr hlocks (by decide) (by unfold awayA; rw [if_neg c_5]) dX2_isAwayOn_13
set_option maxRecDepth 100000 in
set_option maxHeartbeats 4000000 in
theorem c_X6_countOpenOf (l : Launch) (E : EE) {S : St} {g : Gh} (hI : Inv S) {p9 : Nat} (hp : p9 < S.np) : RM l E yX6_countOpenOf cX6_countOpenOf 5 .int (rD 3) [.ref (g.ad 1 0), .ref (g.ad 6 (p9))] (RA E S g) (.int (openA S p9)) := by
  refine rm_of rfl (Nat.le_of_ble_eq_true rfl) (fun p e s m below meth c ls hx hb hr hml (hown : s.vm.findClass RX6 = some m.cls) hC hlocks hR hl => ?_)
  have hl : lv_has ls 5 [(0, .ref (g.ad 1 0)), (1, .ref (g.ad 6 (p9)))] := hl
  refine lv_iconst (v := 0) hx hb dX6_countOpenOf_0 (by decide) ?_
  refine lv_istore_n (lv' := [(2, .int (0)), (0, .ref (g.ad 1 0)), (1, .ref (g.ad 6 (p9)))]) hx hb dX6_countOpenOf_1 rfl hl (by decide) rfl (fun ls hl => ?_)
  refine lv_iconst (v := 0) hx hb dX6_countOpenOf_2 (by decide) ?_
  refine lv_istore_n (lv' := [(3, .int (0)), (2, .int (0)), (0, .ref (g.ad 1 0)), (1, .ref (g.ad 6 (p9)))]) hx hb dX6_countOpenOf_3 rfl hl (by decide) rfl (fun ls hl => ?_)
  have loop4 : ∀ (n i : Nat), i ≤ S.nc → S.nc < i + n → ∀ ls, lv_has ls 5 [(3, .int (nI i)), (2, .int (sm (openQ S p9) i)), (0, .ref (g.ad 1 0)), (1, .ref (g.ad 6 (p9)))] → W p l e (rD 3) s m ([.ref (g.ad 1 0), .ref (g.ad 6 (p9))] : List Value).toArray below meth c s.heap [] 0 0 (MQ below (RQ (.int (openA S p9))) ([.ref (g.ad 1 0), .ref (g.ad 6 (p9))] : List Value).toArray s 0 0 (fun _ => False)) (F0 m 4 ls []) := by
    intro n
    induction n with
    | zero => intro i h1 h2; exact absurd h2 (by omega)
    | succ n ih =>
      intro i hi hin ls hl
      refine lv_iload_n hx hb dX6_countOpenOf_4 rfl (lv_at hl 0 rfl) ?_
      refine lv_aload_n hx hb dX6_countOpenOf_5 rfl (lv_at hl 2 rfl) ?_
      refine gf_X6_2 hx hb hown hC (RA.x hR) (zf_X6_19 hC.1) dX6_countOpenOf_6 ?_
      refine rc_V (As := []) hx hb hml hown hC hl (c_size l E _ _ _ _) (rec_of hC (RA.ls hR (by decide : 2 < 4)) rfl) (zm_X6_51 hC.1) kv_Jx4a65c_size_8abf5 (RA.ls hR (by decide : 2 < 4)) rfl rfl (rD_le (by decide) (by decide)) ⟨rfl, rfl⟩ (Nat.le_of_ble_eq_true rfl) ⟨Nat.zero_le _, Nat.zero_le _⟩ dX6_countOpenOf_9 ?_
      refine lv_icmp_ge (tgt := 54) hx hb dX6_countOpenOf_12 (by decide) (fun c_12 => ?_) (fun c_12 => ?_)
      ·
        have hi := ge_in c_12 hi hI.nc31
        subst hi
        refine lv_iload_n hx hb dX6_countOpenOf_54 rfl (lv_at hl 1 rfl) ?_
        exact rr_i hx hb hr hlocks rfl dX6_countOpenOf_55
      ·
        have hlt := ge_out c_12 hi hI.nc31
        refine lv_aload_n hx hb dX6_countOpenOf_15 rfl (lv_at hl 2 rfl) ?_
        refine gf_X6_2 hx hb hown hC (RA.x hR) (zf_X6_19 hC.1) dX6_countOpenOf_16 ?_
        refine lv_iload_n hx hb dX6_countOpenOf_19 rfl (lv_at hl 0 rfl) ?_
        refine rc_V (As := [.int (nI i)]) hx hb hml hown hC hl (c_getL l E 2 rfl hR (by decide) hlt) (rec_of hC (RA.ls hR (by decide : 2 < 4)) rfl) (zm_X6_253 hC.1) kv_Jx4a65c_get_915e3 (RA.gp hR 2 (by decide) hlt) rfl rfl (rD_le (by decide) (by decide)) ⟨rfl, rfl⟩ (Nat.le_of_ble_eq_true rfl) ⟨Nat.zero_le _, Nat.zero_le _⟩ dX6_countOpenOf_20 ?_
        refine g_cast hx hb hown hC (RA.ch hR hlt) rfl (zc_X6_155 hC.1) dX6_countOpenOf_23 ?_
        refine lv_astore (lv' := [(4, .ref (g.ad 8 (i))), (3, .int (nI i)), (2, .int (sm (openQ S p9) i)), (0, .ref (g.ad 1 0)), (1, .ref (g.ad 6 (p9)))]) hx hb dX6_countOpenOf_26 hl (by decide) rfl (fun ls hl => ?_)
        refine lv_aload hx hb dX6_countOpenOf_28 (lv_at hl 0 rfl) ?_
        refine gf_X0_1 hx hb hown hC (RA.ch hR hlt) (zf_X6_211 hC.1) dX6_countOpenOf_30 ?_
        refine lv_aload_n hx hb dX6_countOpenOf_33 rfl (lv_at hl 4 rfl) ?_
        refine lw_acmp_ne (i := S.cp (i)) (j := p9) (tgt := 48) hx hb (RA.iff hR 6 (hI.cp hlt) hp) dX6_countOpenOf_34 (by decide) (fun c_34 => ?_) (fun c_34 => ?_)
        ·
          refine lv_iinc (v := nI i + 1) (lv' := [(3, .int (nI i + 1)), (4, .ref (g.ad 8 (i))), (2, .int (sm (openQ S p9) i)), (0, .ref (g.ad 1 0)), (1, .ref (g.ad 6 (p9)))]) hx hb dX6_countOpenOf_48 hl (k := 1) rfl rfl (by decide) rfl (fun ls hl => ?_)
          refine lv_goto (tgt := 4) hx hb dX6_countOpenOf_51 (by decide) ?_
          refine ih (i + 1) hlt (by omega) ls ?_
          rw [nI_succ i, sm_z (f := openQ S p9) (by unfold openQ; rw [if_neg c_34])]
          exact lv_sub hl [0, 2, 3, 4] rfl
        ·
          refine lv_aload hx hb dX6_countOpenOf_37 (lv_at hl 0 rfl) ?_
          refine gf_X0_8 hx hb hown hC (RA.ch hR hlt) (zf_X6_197 hC.1) dX6_countOpenOf_39 ?_
          refine lv_if_ne (tgt := 48) hx hb dX6_countOpenOf_42 (by decide) (fun c_42 => ?_) (fun c_42 => ?_)
          ·
            refine lv_iinc (v := nI i + 1) (lv' := [(3, .int (nI i + 1)), (4, .ref (g.ad 8 (i))), (2, .int (sm (openQ S p9) i)), (0, .ref (g.ad 1 0)), (1, .ref (g.ad 6 (p9)))]) hx hb dX6_countOpenOf_48 hl (k := 1) rfl rfl (by decide) rfl (fun ls hl => ?_)
            refine lv_goto (tgt := 4) hx hb dX6_countOpenOf_51 (by decide) ?_
            refine ih (i + 1) hlt (by omega) ls ?_
            rw [nI_succ i, sm_z (f := openQ S p9) (by unfold openQ; rw [if_pos c_34, if_neg c_42])]
            exact lv_sub hl [0, 2, 3, 4] rfl
          ·
            refine lv_iinc (v := sm (openQ S p9) i + 1) (lv' := [(2, .int (sm (openQ S p9) i + 1)), (4, .ref (g.ad 8 (i))), (3, .int (nI i)), (0, .ref (g.ad 1 0)), (1, .ref (g.ad 6 (p9)))]) hx hb dX6_countOpenOf_45 hl (k := 2) rfl rfl (by decide) rfl (fun ls hl => ?_)
            refine lv_iinc (v := nI i + 1) (lv' := [(3, .int (nI i + 1)), (2, .int (sm (openQ S p9) i + 1)), (4, .ref (g.ad 8 (i))), (0, .ref (g.ad 1 0)), (1, .ref (g.ad 6 (p9)))]) hx hb dX6_countOpenOf_48 hl (k := 2) rfl rfl (by decide) rfl (fun ls hl => ?_)
            refine lv_goto (tgt := 4) hx hb dX6_countOpenOf_51 (by decide) ?_
            refine ih (i + 1) hlt (by omega) ls ?_
            rw [nI_succ i, sm_t (f := openQ S p9) (by unfold openQ; rw [if_pos c_34, if_pos c_42])]
            exact lv_sub hl [0, 1, 3, 4] rfl
  refine loop4 (S.nc + 1) 0 (Nat.zero_le _) (by omega) ls ?_
  exact lv_sub hl [0, 1, 2, 3] rfl
set_option maxRecDepth 100000 in
set_option maxHeartbeats 4000000 in
theorem c_X6_repaidAmountOf (l : Launch) (E : EE) {S : St} {g : Gh} (hI : Inv S) {p9 : Nat} (hp : p9 < S.np) : RM l E yX6_repaidAmountOf cX6_repaidAmountOf 5 .int (rD 3) [.ref (g.ad 1 0), .ref (g.ad 6 (p9))] (RA E S g) (.int (repA S p9)) := by
  refine rm_of rfl (Nat.le_of_ble_eq_true rfl) (fun p e s m below meth c ls hx hb hr hml (hown : s.vm.findClass RX6 = some m.cls) hC hlocks hR hl => ?_)
  have hl : lv_has ls 5 [(0, .ref (g.ad 1 0)), (1, .ref (g.ad 6 (p9)))] := hl
  refine lv_iconst (v := 0) hx hb dX6_repaidAmountOf_0 (by decide) ?_
  refine lv_istore_n (lv' := [(2, .int (0)), (0, .ref (g.ad 1 0)), (1, .ref (g.ad 6 (p9)))]) hx hb dX6_repaidAmountOf_1 rfl hl (by decide) rfl (fun ls hl => ?_)
  refine lv_iconst (v := 0) hx hb dX6_repaidAmountOf_2 (by decide) ?_
  refine lv_istore_n (lv' := [(3, .int (0)), (2, .int (0)), (0, .ref (g.ad 1 0)), (1, .ref (g.ad 6 (p9)))]) hx hb dX6_repaidAmountOf_3 rfl hl (by decide) rfl (fun ls hl => ?_)
  have loop4 : ∀ (n i : Nat), i ≤ S.nc → S.nc < i + n → ∀ ls, lv_has ls 5 [(3, .int (nI i)), (2, .int (sm (repQ S p9) i)), (0, .ref (g.ad 1 0)), (1, .ref (g.ad 6 (p9)))] → W p l e (rD 3) s m ([.ref (g.ad 1 0), .ref (g.ad 6 (p9))] : List Value).toArray below meth c s.heap [] 0 0 (MQ below (RQ (.int (repA S p9))) ([.ref (g.ad 1 0), .ref (g.ad 6 (p9))] : List Value).toArray s 0 0 (fun _ => False)) (F0 m 4 ls []) := by
    intro n
    induction n with
    | zero => intro i h1 h2; exact absurd h2 (by omega)
    | succ n ih =>
      intro i hi hin ls hl
      refine lv_iload_n hx hb dX6_repaidAmountOf_4 rfl (lv_at hl 0 rfl) ?_
      refine lv_aload_n hx hb dX6_repaidAmountOf_5 rfl (lv_at hl 2 rfl) ?_
      refine gf_X6_2 hx hb hown hC (RA.x hR) (zf_X6_19 hC.1) dX6_repaidAmountOf_6 ?_
      refine rc_V (As := []) hx hb hml hown hC hl (c_size l E _ _ _ _) (rec_of hC (RA.ls hR (by decide : 2 < 4)) rfl) (zm_X6_51 hC.1) kv_Jx4a65c_size_8abf5 (RA.ls hR (by decide : 2 < 4)) rfl rfl (rD_le (by decide) (by decide)) ⟨rfl, rfl⟩ (Nat.le_of_ble_eq_true rfl) ⟨Nat.zero_le _, Nat.zero_le _⟩ dX6_repaidAmountOf_9 ?_
      refine lv_icmp_ge (tgt := 60) hx hb dX6_repaidAmountOf_12 (by decide) (fun c_12 => ?_) (fun c_12 => ?_)
      ·
        have hi := ge_in c_12 hi hI.nc31
        subst hi
        refine lv_iload_n hx hb dX6_repaidAmountOf_60 rfl (lv_at hl 1 rfl) ?_
        exact rr_i hx hb hr hlocks rfl dX6_repaidAmountOf_61
      ·
        have hlt := ge_out c_12 hi hI.nc31
        refine lv_aload_n hx hb dX6_repaidAmountOf_15 rfl (lv_at hl 2 rfl) ?_
        refine gf_X6_2 hx hb hown hC (RA.x hR) (zf_X6_19 hC.1) dX6_repaidAmountOf_16 ?_
        refine lv_iload_n hx hb dX6_repaidAmountOf_19 rfl (lv_at hl 0 rfl) ?_
        refine rc_V (As := [.int (nI i)]) hx hb hml hown hC hl (c_getL l E 2 rfl hR (by decide) hlt) (rec_of hC (RA.ls hR (by decide : 2 < 4)) rfl) (zm_X6_253 hC.1) kv_Jx4a65c_get_915e3 (RA.gp hR 2 (by decide) hlt) rfl rfl (rD_le (by decide) (by decide)) ⟨rfl, rfl⟩ (Nat.le_of_ble_eq_true rfl) ⟨Nat.zero_le _, Nat.zero_le _⟩ dX6_repaidAmountOf_20 ?_
        refine g_cast hx hb hown hC (RA.ch hR hlt) rfl (zc_X6_155 hC.1) dX6_repaidAmountOf_23 ?_
        refine lv_astore (lv' := [(4, .ref (g.ad 8 (i))), (3, .int (nI i)), (2, .int (sm (repQ S p9) i)), (0, .ref (g.ad 1 0)), (1, .ref (g.ad 6 (p9)))]) hx hb dX6_repaidAmountOf_26 hl (by decide) rfl (fun ls hl => ?_)
        refine lv_aload hx hb dX6_repaidAmountOf_28 (lv_at hl 0 rfl) ?_
        refine gf_X0_1 hx hb hown hC (RA.ch hR hlt) (zf_X6_211 hC.1) dX6_repaidAmountOf_30 ?_
        refine lv_aload_n hx hb dX6_repaidAmountOf_33 rfl (lv_at hl 4 rfl) ?_
        refine lw_acmp_ne (i := S.cp (i)) (j := p9) (tgt := 54) hx hb (RA.iff hR 6 (hI.cp hlt) hp) dX6_repaidAmountOf_34 (by decide) (fun c_34 => ?_) (fun c_34 => ?_)
        ·
          refine lv_iinc (v := nI i + 1) (lv' := [(3, .int (nI i + 1)), (4, .ref (g.ad 8 (i))), (2, .int (sm (repQ S p9) i)), (0, .ref (g.ad 1 0)), (1, .ref (g.ad 6 (p9)))]) hx hb dX6_repaidAmountOf_54 hl (k := 1) rfl rfl (by decide) rfl (fun ls hl => ?_)
          refine lv_goto (tgt := 4) hx hb dX6_repaidAmountOf_57 (by decide) ?_
          refine ih (i + 1) hlt (by omega) ls ?_
          rw [nI_succ i, sm_z (f := repQ S p9) (by unfold repQ; rw [if_neg c_34])]
          exact lv_sub hl [0, 2, 3, 4] rfl
        ·
          refine lv_aload hx hb dX6_repaidAmountOf_37 (lv_at hl 0 rfl) ?_
          refine gf_X0_8 hx hb hown hC (RA.ch hR hlt) (zf_X6_197 hC.1) dX6_repaidAmountOf_39 ?_
          refine lv_iconst (v := 3) hx hb dX6_repaidAmountOf_42 (by decide) ?_
          refine lv_icmp_ne (tgt := 54) hx hb dX6_repaidAmountOf_43 (by decide) (fun c_43 => ?_) (fun c_43 => ?_)
          ·
            refine lv_iinc (v := nI i + 1) (lv' := [(3, .int (nI i + 1)), (4, .ref (g.ad 8 (i))), (2, .int (sm (repQ S p9) i)), (0, .ref (g.ad 1 0)), (1, .ref (g.ad 6 (p9)))]) hx hb dX6_repaidAmountOf_54 hl (k := 1) rfl rfl (by decide) rfl (fun ls hl => ?_)
            refine lv_goto (tgt := 4) hx hb dX6_repaidAmountOf_57 (by decide) ?_
            refine ih (i + 1) hlt (by omega) ls ?_
            rw [nI_succ i, sm_z (f := repQ S p9) (by unfold repQ; rw [if_pos c_34, if_neg c_43])]
            exact lv_sub hl [0, 2, 3, 4] rfl
          ·
            refine lv_iload_n hx hb dX6_repaidAmountOf_46 rfl (lv_at hl 2 rfl) ?_
            refine lv_aload hx hb dX6_repaidAmountOf_47 (lv_at hl 0 rfl) ?_
            refine gf_X0_4 hx hb hown hC (RA.ch hR hlt) (zf_X6_217 hC.1) dX6_repaidAmountOf_49 ?_
            refine lv_iadd hx hb dX6_repaidAmountOf_52 ?_
            refine lv_istore_n (lv' := [(2, .int ((sm (repQ S p9) i) + (S.ca (i)))), (4, .ref (g.ad 8 (i))), (3, .int (nI i)), (0, .ref (g.ad 1 0)), (1, .ref (g.ad 6 (p9)))]) hx hb dX6_repaidAmountOf_53 rfl hl (by decide) rfl (fun ls hl => ?_)
            refine lv_iinc (v := nI i + 1) (lv' := [(3, .int (nI i + 1)), (2, .int ((sm (repQ S p9) i) + (S.ca (i)))), (4, .ref (g.ad 8 (i))), (0, .ref (g.ad 1 0)), (1, .ref (g.ad 6 (p9)))]) hx hb dX6_repaidAmountOf_54 hl (k := 2) rfl rfl (by decide) rfl (fun ls hl => ?_)
            refine lv_goto (tgt := 4) hx hb dX6_repaidAmountOf_57 (by decide) ?_
            refine ih (i + 1) hlt (by omega) ls ?_
            rw [nI_succ i, sm_t (f := repQ S p9) (by unfold repQ; rw [if_pos c_34, if_pos c_43])]
            exact lv_sub hl [0, 1, 3, 4] rfl
  refine loop4 (S.nc + 1) 0 (Nat.zero_le _) (by omega) ls ?_
  exact lv_sub hl [0, 1, 2, 3] rfl
set_option maxRecDepth 100000 in
set_option maxHeartbeats 4000000 in
theorem c_X6_countInState (l : Launch) (E : EE) {S : St} {g : Gh} (hI : Inv S) (st : Int32) : RM l E yX6_countInState cX6_countInState 4 .int (rD 3) [.ref (g.ad 1 0), .int (st)] (RA E S g) (.int (inA S st)) := by
  refine rm_of rfl (Nat.le_of_ble_eq_true rfl) (fun p e s m below meth c ls hx hb hr hml (hown : s.vm.findClass RX6 = some m.cls) hC hlocks hR hl => ?_)
  have hl : lv_has ls 4 [(0, .ref (g.ad 1 0)), (1, .int (st))] := hl
  refine lv_iconst (v := 0) hx hb dX6_countInState_0 (by decide) ?_
  refine lv_istore_n (lv' := [(2, .int (0)), (0, .ref (g.ad 1 0)), (1, .int (st))]) hx hb dX6_countInState_1 rfl hl (by decide) rfl (fun ls hl => ?_)
  refine lv_iconst (v := 0) hx hb dX6_countInState_2 (by decide) ?_
  refine lv_istore_n (lv' := [(3, .int (0)), (2, .int (0)), (0, .ref (g.ad 1 0)), (1, .int (st))]) hx hb dX6_countInState_3 rfl hl (by decide) rfl (fun ls hl => ?_)
  have loop4 : ∀ (n i : Nat), i ≤ S.nc → S.nc < i + n → ∀ ls, lv_has ls 4 [(3, .int (nI i)), (2, .int (sm (inQ S st) i)), (0, .ref (g.ad 1 0)), (1, .int (st))] → W p l e (rD 3) s m ([.ref (g.ad 1 0), .int (st)] : List Value).toArray below meth c s.heap [] 0 0 (MQ below (RQ (.int (inA S st))) ([.ref (g.ad 1 0), .int (st)] : List Value).toArray s 0 0 (fun _ => False)) (F0 m 4 ls []) := by
    intro n
    induction n with
    | zero => intro i h1 h2; exact absurd h2 (by omega)
    | succ n ih =>
      intro i hi hin ls hl
      refine lv_iload_n hx hb dX6_countInState_4 rfl (lv_at hl 0 rfl) ?_
      refine lv_aload_n hx hb dX6_countInState_5 rfl (lv_at hl 2 rfl) ?_
      refine gf_X6_2 hx hb hown hC (RA.x hR) (zf_X6_19 hC.1) dX6_countInState_6 ?_
      refine rc_V (As := []) hx hb hml hown hC hl (c_size l E _ _ _ _) (rec_of hC (RA.ls hR (by decide : 2 < 4)) rfl) (zm_X6_51 hC.1) kv_Jx4a65c_size_8abf5 (RA.ls hR (by decide : 2 < 4)) rfl rfl (rD_le (by decide) (by decide)) ⟨rfl, rfl⟩ (Nat.le_of_ble_eq_true rfl) ⟨Nat.zero_le _, Nat.zero_le _⟩ dX6_countInState_9 ?_
      refine lv_icmp_ge (tgt := 42) hx hb dX6_countInState_12 (by decide) (fun c_12 => ?_) (fun c_12 => ?_)
      ·
        have hi := ge_in c_12 hi hI.nc31
        subst hi
        refine lv_iload_n hx hb dX6_countInState_42 rfl (lv_at hl 1 rfl) ?_
        exact rr_i hx hb hr hlocks rfl dX6_countInState_43
      ·
        have hlt := ge_out c_12 hi hI.nc31
        refine lv_aload_n hx hb dX6_countInState_15 rfl (lv_at hl 2 rfl) ?_
        refine gf_X6_2 hx hb hown hC (RA.x hR) (zf_X6_19 hC.1) dX6_countInState_16 ?_
        refine lv_iload_n hx hb dX6_countInState_19 rfl (lv_at hl 0 rfl) ?_
        refine rc_V (As := [.int (nI i)]) hx hb hml hown hC hl (c_getL l E 2 rfl hR (by decide) hlt) (rec_of hC (RA.ls hR (by decide : 2 < 4)) rfl) (zm_X6_253 hC.1) kv_Jx4a65c_get_915e3 (RA.gp hR 2 (by decide) hlt) rfl rfl (rD_le (by decide) (by decide)) ⟨rfl, rfl⟩ (Nat.le_of_ble_eq_true rfl) ⟨Nat.zero_le _, Nat.zero_le _⟩ dX6_countInState_20 ?_
        refine g_cast hx hb hown hC (RA.ch hR hlt) rfl (zc_X6_155 hC.1) dX6_countInState_23 ?_
        refine gf_X0_8 hx hb hown hC (RA.ch hR hlt) (zf_X6_197 hC.1) dX6_countInState_26 ?_
        refine lv_iload_n hx hb dX6_countInState_29 rfl (lv_at hl 3 rfl) ?_
        refine lv_icmp_ne (tgt := 36) hx hb dX6_countInState_30 (by decide) (fun c_30 => ?_) (fun c_30 => ?_)
        ·
          refine lv_iinc (v := nI i + 1) (lv' := [(3, .int (nI i + 1)), (2, .int (sm (inQ S st) i)), (0, .ref (g.ad 1 0)), (1, .int (st))]) hx hb dX6_countInState_36 hl (k := 0) rfl rfl (by decide) rfl (fun ls hl => ?_)
          refine lv_goto (tgt := 4) hx hb dX6_countInState_39 (by decide) ?_
          refine ih (i + 1) hlt (by omega) ls ?_
          rw [nI_succ i, sm_z (f := inQ S st) (by unfold inQ; rw [if_neg c_30])]
          exact lv_sub hl [0, 1, 2, 3] rfl
        ·
          refine lv_iinc (v := sm (inQ S st) i + 1) (lv' := [(2, .int (sm (inQ S st) i + 1)), (3, .int (nI i)), (0, .ref (g.ad 1 0)), (1, .int (st))]) hx hb dX6_countInState_33 hl (k := 1) rfl rfl (by decide) rfl (fun ls hl => ?_)
          refine lv_iinc (v := nI i + 1) (lv' := [(3, .int (nI i + 1)), (2, .int (sm (inQ S st) i + 1)), (0, .ref (g.ad 1 0)), (1, .int (st))]) hx hb dX6_countInState_36 hl (k := 1) rfl rfl (by decide) rfl (fun ls hl => ?_)
          refine lv_goto (tgt := 4) hx hb dX6_countInState_39 (by decide) ?_
          refine ih (i + 1) hlt (by omega) ls ?_
          rw [nI_succ i, sm_t (f := inQ S st) (by unfold inQ; rw [if_pos c_30])]
          exact lv_sub hl [0, 1, 2, 3] rfl
  refine loop4 (S.nc + 1) 0 (Nat.zero_le _) (by omega) ls ?_
  exact lv_sub hl [0, 1, 2, 3] rfl
set_option maxRecDepth 100000 in
set_option maxHeartbeats 4000000 in
theorem c_X6_countFreeReceipts (l : Launch) (E : EE) {S : St} {g : Gh} (hI : Inv S)  : RM l E yX6_countFreeReceipts cX6_countFreeReceipts 3 .int (rD 3) [.ref (g.ad 1 0)] (RA E S g) (.int (freeA S)) := by
  refine rm_of rfl (Nat.le_of_ble_eq_true rfl) (fun p e s m below meth c ls hx hb hr hml (hown : s.vm.findClass RX6 = some m.cls) hC hlocks hR hl => ?_)
  have hl : lv_has ls 3 [(0, .ref (g.ad 1 0))] := hl
  refine lv_iconst (v := 0) hx hb dX6_countFreeReceipts_0 (by decide) ?_
  refine lv_istore_n (lv' := [(1, .int (0)), (0, .ref (g.ad 1 0))]) hx hb dX6_countFreeReceipts_1 rfl hl (by decide) rfl (fun ls hl => ?_)
  refine lv_iconst (v := 0) hx hb dX6_countFreeReceipts_2 (by decide) ?_
  refine lv_istore_n (lv' := [(2, .int (0)), (1, .int (0)), (0, .ref (g.ad 1 0))]) hx hb dX6_countFreeReceipts_3 rfl hl (by decide) rfl (fun ls hl => ?_)
  have loop4 : ∀ (n i : Nat), i ≤ S.nr → S.nr < i + n → ∀ ls, lv_has ls 3 [(2, .int (nI i)), (1, .int (sm (freeQ S) i)), (0, .ref (g.ad 1 0))] → W p l e (rD 3) s m ([.ref (g.ad 1 0)] : List Value).toArray below meth c s.heap [] 0 0 (MQ below (RQ (.int (freeA S))) ([.ref (g.ad 1 0)] : List Value).toArray s 0 0 (fun _ => False)) (F0 m 4 ls []) := by
    intro n
    induction n with
    | zero => intro i h1 h2; exact absurd h2 (by omega)
    | succ n ih =>
      intro i hi hin ls hl
      refine lv_iload_n hx hb dX6_countFreeReceipts_4 rfl (lv_at hl 0 rfl) ?_
      refine lv_aload_n hx hb dX6_countFreeReceipts_5 rfl (lv_at hl 2 rfl) ?_
      refine gf_X6_3 hx hb hown hC (RA.x hR) (zf_X6_22 hC.1) dX6_countFreeReceipts_6 ?_
      refine rc_V (As := []) hx hb hml hown hC hl (c_size l E _ _ _ _) (rec_of hC (RA.ls hR (by decide : 3 < 4)) rfl) (zm_X6_51 hC.1) kv_Jx4a65c_size_8abf5 (RA.ls hR (by decide : 3 < 4)) rfl rfl (rD_le (by decide) (by decide)) ⟨rfl, rfl⟩ (Nat.le_of_ble_eq_true rfl) ⟨Nat.zero_le _, Nat.zero_le _⟩ dX6_countFreeReceipts_9 ?_
      refine lv_icmp_ge (tgt := 41) hx hb dX6_countFreeReceipts_12 (by decide) (fun c_12 => ?_) (fun c_12 => ?_)
      ·
        have hi := ge_in c_12 hi hI.nr31
        subst hi
        refine lv_iload_n hx hb dX6_countFreeReceipts_41 rfl (lv_at hl 1 rfl) ?_
        exact rr_i hx hb hr hlocks rfl dX6_countFreeReceipts_42
      ·
        have hlt := ge_out c_12 hi hI.nr31
        refine lv_aload_n hx hb dX6_countFreeReceipts_15 rfl (lv_at hl 2 rfl) ?_
        refine gf_X6_3 hx hb hown hC (RA.x hR) (zf_X6_22 hC.1) dX6_countFreeReceipts_16 ?_
        refine lv_iload_n hx hb dX6_countFreeReceipts_19 rfl (lv_at hl 0 rfl) ?_
        refine rc_V (As := [.int (nI i)]) hx hb hml hown hC hl (c_getL l E 3 rfl hR (by decide) hlt) (rec_of hC (RA.ls hR (by decide : 3 < 4)) rfl) (zm_X6_253 hC.1) kv_Jx4a65c_get_915e3 (RA.gp hR 3 (by decide) hlt) rfl rfl (rD_le (by decide) (by decide)) ⟨rfl, rfl⟩ (Nat.le_of_ble_eq_true rfl) ⟨Nat.zero_le _, Nat.zero_le _⟩ dX6_countFreeReceipts_20 ?_
        refine g_cast hx hb hown hC (RA.re hR hlt) rfl (zc_X6_177 hC.1) dX6_countFreeReceipts_23 ?_
        refine gf_X3_4 hx hb hown hC (RA.re hR hlt) (zf_X6_182 hC.1) dX6_countFreeReceipts_26 ?_
        refine lw_ifnonnull (tgt := 35) hx hb dX6_countFreeReceipts_29 (by decide) (fun j_29 o_29 => ?_) (fun o_29 => ?_)
        ·
          refine lv_iinc (v := nI i + 1) (lv' := [(2, .int (nI i + 1)), (1, .int (sm (freeQ S) i)), (0, .ref (g.ad 1 0))]) hx hb dX6_countFreeReceipts_35 hl (k := 0) rfl rfl (by decide) rfl (fun ls hl => ?_)
          refine lv_goto (tgt := 4) hx hb dX6_countFreeReceipts_38 (by decide) ?_
          refine ih (i + 1) hlt (by omega) ls ?_
          rw [nI_succ i, sm_z (f := freeQ S) (by unfold freeQ; rw [if_neg (nsome o_29)])]
          exact lv_sub hl [0, 1, 2] rfl
        ·
          refine lv_iinc (v := sm (freeQ S) i + 1) (lv' := [(1, .int (sm (freeQ S) i + 1)), (2, .int (nI i)), (0, .ref (g.ad 1 0))]) hx hb dX6_countFreeReceipts_32 hl (k := 1) rfl rfl (by decide) rfl (fun ls hl => ?_)
          refine lv_iinc (v := nI i + 1) (lv' := [(2, .int (nI i + 1)), (1, .int (sm (freeQ S) i + 1)), (0, .ref (g.ad 1 0))]) hx hb dX6_countFreeReceipts_35 hl (k := 1) rfl rfl (by decide) rfl (fun ls hl => ?_)
          refine lv_goto (tgt := 4) hx hb dX6_countFreeReceipts_38 (by decide) ?_
          refine ih (i + 1) hlt (by omega) ls ?_
          rw [nI_succ i, sm_t (f := freeQ S) (by unfold freeQ; rw [if_pos o_29])]
          exact lv_sub hl [0, 1, 2] rfl
  refine loop4 (S.nr + 1) 0 (Nat.zero_le _) (by omega) ls ?_
  exact lv_sub hl [0, 1, 2] rfl
set_option maxRecDepth 100000 in
set_option maxHeartbeats 4000000 in
theorem c_X6_amountNotRepaid (l : Launch) (E : EE) {S : St} {g : Gh} (hI : Inv S)  : RM l E yX6_amountNotRepaid cX6_amountNotRepaid 4 .int (rD 3) [.ref (g.ad 1 0)] (RA E S g) (.int (amtA S)) := by
  refine rm_of rfl (Nat.le_of_ble_eq_true rfl) (fun p e s m below meth c ls hx hb hr hml (hown : s.vm.findClass RX6 = some m.cls) hC hlocks hR hl => ?_)
  have hl : lv_has ls 4 [(0, .ref (g.ad 1 0))] := hl
  refine lv_iconst (v := 0) hx hb dX6_amountNotRepaid_0 (by decide) ?_
  refine lv_istore_n (lv' := [(1, .int (0)), (0, .ref (g.ad 1 0))]) hx hb dX6_amountNotRepaid_1 rfl hl (by decide) rfl (fun ls hl => ?_)
  refine lv_iconst (v := 0) hx hb dX6_amountNotRepaid_2 (by decide) ?_
  refine lv_istore_n (lv' := [(2, .int (0)), (1, .int (0)), (0, .ref (g.ad 1 0))]) hx hb dX6_amountNotRepaid_3 rfl hl (by decide) rfl (fun ls hl => ?_)
  have loop4 : ∀ (n i : Nat), i ≤ S.nc → S.nc < i + n → ∀ ls, lv_has ls 4 [(2, .int (nI i)), (1, .int (sm (amtQ S) i)), (0, .ref (g.ad 1 0))] → W p l e (rD 3) s m ([.ref (g.ad 1 0)] : List Value).toArray below meth c s.heap [] 0 0 (MQ below (RQ (.int (amtA S))) ([.ref (g.ad 1 0)] : List Value).toArray s 0 0 (fun _ => False)) (F0 m 4 ls []) := by
    intro n
    induction n with
    | zero => intro i h1 h2; exact absurd h2 (by omega)
    | succ n ih =>
      intro i hi hin ls hl
      refine lv_iload_n hx hb dX6_amountNotRepaid_4 rfl (lv_at hl 0 rfl) ?_
      refine lv_aload_n hx hb dX6_amountNotRepaid_5 rfl (lv_at hl 2 rfl) ?_
      refine gf_X6_2 hx hb hown hC (RA.x hR) (zf_X6_19 hC.1) dX6_amountNotRepaid_6 ?_
      refine rc_V (As := []) hx hb hml hown hC hl (c_size l E _ _ _ _) (rec_of hC (RA.ls hR (by decide : 2 < 4)) rfl) (zm_X6_51 hC.1) kv_Jx4a65c_size_8abf5 (RA.ls hR (by decide : 2 < 4)) rfl rfl (rD_le (by decide) (by decide)) ⟨rfl, rfl⟩ (Nat.le_of_ble_eq_true rfl) ⟨Nat.zero_le _, Nat.zero_le _⟩ dX6_amountNotRepaid_9 ?_
      refine lv_icmp_ge (tgt := 48) hx hb dX6_amountNotRepaid_12 (by decide) (fun c_12 => ?_) (fun c_12 => ?_)
      ·
        have hi := ge_in c_12 hi hI.nc31
        subst hi
        refine lv_iload_n hx hb dX6_amountNotRepaid_48 rfl (lv_at hl 1 rfl) ?_
        exact rr_i hx hb hr hlocks rfl dX6_amountNotRepaid_49
      ·
        have hlt := ge_out c_12 hi hI.nc31
        refine lv_aload_n hx hb dX6_amountNotRepaid_15 rfl (lv_at hl 2 rfl) ?_
        refine gf_X6_2 hx hb hown hC (RA.x hR) (zf_X6_19 hC.1) dX6_amountNotRepaid_16 ?_
        refine lv_iload_n hx hb dX6_amountNotRepaid_19 rfl (lv_at hl 0 rfl) ?_
        refine rc_V (As := [.int (nI i)]) hx hb hml hown hC hl (c_getL l E 2 rfl hR (by decide) hlt) (rec_of hC (RA.ls hR (by decide : 2 < 4)) rfl) (zm_X6_253 hC.1) kv_Jx4a65c_get_915e3 (RA.gp hR 2 (by decide) hlt) rfl rfl (rD_le (by decide) (by decide)) ⟨rfl, rfl⟩ (Nat.le_of_ble_eq_true rfl) ⟨Nat.zero_le _, Nat.zero_le _⟩ dX6_amountNotRepaid_20 ?_
        refine g_cast hx hb hown hC (RA.ch hR hlt) rfl (zc_X6_155 hC.1) dX6_amountNotRepaid_23 ?_
        refine lv_astore_n (lv' := [(3, .ref (g.ad 8 (i))), (2, .int (nI i)), (1, .int (sm (amtQ S) i)), (0, .ref (g.ad 1 0))]) hx hb dX6_amountNotRepaid_26 rfl hl (by decide) rfl (fun ls hl => ?_)
        refine lv_aload_n hx hb dX6_amountNotRepaid_27 rfl (lv_at hl 0 rfl) ?_
        refine gf_X0_8 hx hb hown hC (RA.ch hR hlt) (zf_X6_197 hC.1) dX6_amountNotRepaid_28 ?_
        refine lv_iconst (v := 3) hx hb dX6_amountNotRepaid_31 (by decide) ?_
        refine lv_icmp_eq (tgt := 42) hx hb dX6_amountNotRepaid_32 (by decide) (fun c_32 => ?_) (fun c_32 => ?_)
        ·
          refine lv_iinc (v := nI i + 1) (lv' := [(2, .int (nI i + 1)), (3, .ref (g.ad 8 (i))), (1, .int (sm (amtQ S) i)), (0, .ref (g.ad 1 0))]) hx hb dX6_amountNotRepaid_42 hl (k := 1) rfl rfl (by decide) rfl (fun ls hl => ?_)
          refine lv_goto (tgt := 4) hx hb dX6_amountNotRepaid_45 (by decide) ?_
          refine ih (i + 1) hlt (by omega) ls ?_
          rw [nI_succ i, sm_z (f := amtQ S) (by unfold amtQ; rw [if_pos c_32])]
          exact lv_sub hl [0, 2, 3] rfl
        ·
          refine lv_iload_n hx hb dX6_amountNotRepaid_35 rfl (lv_at hl 2 rfl) ?_
          refine lv_aload_n hx hb dX6_amountNotRepaid_36 rfl (lv_at hl 0 rfl) ?_
          refine gf_X0_4 hx hb hown hC (RA.ch hR hlt) (zf_X6_217 hC.1) dX6_amountNotRepaid_37 ?_
          refine lv_iadd hx hb dX6_amountNotRepaid_40 ?_
          refine lv_istore_n (lv' := [(1, .int ((sm (amtQ S) i) + (S.ca (i)))), (3, .ref (g.ad 8 (i))), (2, .int (nI i)), (0, .ref (g.ad 1 0))]) hx hb dX6_amountNotRepaid_41 rfl hl (by decide) rfl (fun ls hl => ?_)
          refine lv_iinc (v := nI i + 1) (lv' := [(2, .int (nI i + 1)), (1, .int ((sm (amtQ S) i) + (S.ca (i)))), (3, .ref (g.ad 8 (i))), (0, .ref (g.ad 1 0))]) hx hb dX6_amountNotRepaid_42 hl (k := 2) rfl rfl (by decide) rfl (fun ls hl => ?_)
          refine lv_goto (tgt := 4) hx hb dX6_amountNotRepaid_45 (by decide) ?_
          refine ih (i + 1) hlt (by omega) ls ?_
          rw [nI_succ i, sm_t (f := amtQ S) (by unfold amtQ; rw [if_neg c_32])]
          exact lv_sub hl [0, 1, 3] rfl
  refine loop4 (S.nc + 1) 0 (Nat.zero_le _) (by omega) ls ?_
  exact lv_sub hl [0, 1, 2] rfl
set_option maxRecDepth 100000 in
set_option maxHeartbeats 4000000 in
theorem c_X6_spentOnTrip (l : Launch) (E : EE) {S : St} {g : Gh} (hI : Inv S) {t9 : Nat} (ht : t9 < S.nt) : RM l E yX6_spentOnTrip cX6_spentOnTrip 5 .int (rD 3) [.ref (g.ad 1 0), .ref (g.ad 7 (t9))] (RA E S g) (.int (onTripA S t9)) := by
  refine rm_of rfl (Nat.le_of_ble_eq_true rfl) (fun p e s m below meth c ls hx hb hr hml (hown : s.vm.findClass RX6 = some m.cls) hC hlocks hR hl => ?_)
  have hl : lv_has ls 5 [(0, .ref (g.ad 1 0)), (1, .ref (g.ad 7 (t9)))] := hl
  refine lv_iconst (v := 0) hx hb dX6_spentOnTrip_0 (by decide) ?_
  refine lv_istore_n (lv' := [(2, .int (0)), (0, .ref (g.ad 1 0)), (1, .ref (g.ad 7 (t9)))]) hx hb dX6_spentOnTrip_1 rfl hl (by decide) rfl (fun ls hl => ?_)
  refine lv_iconst (v := 0) hx hb dX6_spentOnTrip_2 (by decide) ?_
  refine lv_istore_n (lv' := [(3, .int (0)), (2, .int (0)), (0, .ref (g.ad 1 0)), (1, .ref (g.ad 7 (t9)))]) hx hb dX6_spentOnTrip_3 rfl hl (by decide) rfl (fun ls hl => ?_)
  have loop4 : ∀ (n i : Nat), i ≤ S.nc → S.nc < i + n → ∀ ls, lv_has ls 5 [(3, .int (nI i)), (2, .int (sm (onTripQ S t9) i)), (0, .ref (g.ad 1 0)), (1, .ref (g.ad 7 (t9)))] → W p l e (rD 3) s m ([.ref (g.ad 1 0), .ref (g.ad 7 (t9))] : List Value).toArray below meth c s.heap [] 0 0 (MQ below (RQ (.int (onTripA S t9))) ([.ref (g.ad 1 0), .ref (g.ad 7 (t9))] : List Value).toArray s 0 0 (fun _ => False)) (F0 m 4 ls []) := by
    intro n
    induction n with
    | zero => intro i h1 h2; exact absurd h2 (by omega)
    | succ n ih =>
      intro i hi hin ls hl
      refine lv_iload_n hx hb dX6_spentOnTrip_4 rfl (lv_at hl 0 rfl) ?_
      refine lv_aload_n hx hb dX6_spentOnTrip_5 rfl (lv_at hl 2 rfl) ?_
      refine gf_X6_2 hx hb hown hC (RA.x hR) (zf_X6_19 hC.1) dX6_spentOnTrip_6 ?_
      refine rc_V (As := []) hx hb hml hown hC hl (c_size l E _ _ _ _) (rec_of hC (RA.ls hR (by decide : 2 < 4)) rfl) (zm_X6_51 hC.1) kv_Jx4a65c_size_8abf5 (RA.ls hR (by decide : 2 < 4)) rfl rfl (rD_le (by decide) (by decide)) ⟨rfl, rfl⟩ (Nat.le_of_ble_eq_true rfl) ⟨Nat.zero_le _, Nat.zero_le _⟩ dX6_spentOnTrip_9 ?_
      refine lv_icmp_ge (tgt := 60) hx hb dX6_spentOnTrip_12 (by decide) (fun c_12 => ?_) (fun c_12 => ?_)
      ·
        have hi := ge_in c_12 hi hI.nc31
        subst hi
        refine lv_iload_n hx hb dX6_spentOnTrip_60 rfl (lv_at hl 1 rfl) ?_
        exact rr_i hx hb hr hlocks rfl dX6_spentOnTrip_61
      ·
        have hlt := ge_out c_12 hi hI.nc31
        refine lv_aload_n hx hb dX6_spentOnTrip_15 rfl (lv_at hl 2 rfl) ?_
        refine gf_X6_2 hx hb hown hC (RA.x hR) (zf_X6_19 hC.1) dX6_spentOnTrip_16 ?_
        refine lv_iload_n hx hb dX6_spentOnTrip_19 rfl (lv_at hl 0 rfl) ?_
        refine rc_V (As := [.int (nI i)]) hx hb hml hown hC hl (c_getL l E 2 rfl hR (by decide) hlt) (rec_of hC (RA.ls hR (by decide : 2 < 4)) rfl) (zm_X6_253 hC.1) kv_Jx4a65c_get_915e3 (RA.gp hR 2 (by decide) hlt) rfl rfl (rD_le (by decide) (by decide)) ⟨rfl, rfl⟩ (Nat.le_of_ble_eq_true rfl) ⟨Nat.zero_le _, Nat.zero_le _⟩ dX6_spentOnTrip_20 ?_
        refine g_cast hx hb hown hC (RA.ch hR hlt) rfl (zc_X6_155 hC.1) dX6_spentOnTrip_23 ?_
        refine lv_astore (lv' := [(4, .ref (g.ad 8 (i))), (3, .int (nI i)), (2, .int (sm (onTripQ S t9) i)), (0, .ref (g.ad 1 0)), (1, .ref (g.ad 7 (t9)))]) hx hb dX6_spentOnTrip_26 hl (by decide) rfl (fun ls hl => ?_)
        refine lv_aload hx hb dX6_spentOnTrip_28 (lv_at hl 0 rfl) ?_
        refine gf_X0_7 hx hb hown hC (RA.ch hR hlt) (zf_X6_164 hC.1) dX6_spentOnTrip_30 ?_
        refine lv_aload_n hx hb dX6_spentOnTrip_33 rfl (lv_at hl 4 rfl) ?_
        refine lw_acmpo_ne (o := S.ct (i)) (j := t9) (tgt := 54) hx hb (RA.iffo hR 7 (fun i h => (hI.ct hlt h)) ht) dX6_spentOnTrip_34 (by decide) (fun c_34 => ?_) (fun c_34 => ?_)
        ·
          refine lv_iinc (v := nI i + 1) (lv' := [(3, .int (nI i + 1)), (4, .ref (g.ad 8 (i))), (2, .int (sm (onTripQ S t9) i)), (0, .ref (g.ad 1 0)), (1, .ref (g.ad 7 (t9)))]) hx hb dX6_spentOnTrip_54 hl (k := 1) rfl rfl (by decide) rfl (fun ls hl => ?_)
          refine lv_goto (tgt := 4) hx hb dX6_spentOnTrip_57 (by decide) ?_
          refine ih (i + 1) hlt (by omega) ls ?_
          rw [nI_succ i, sm_z (f := onTripQ S t9) (by unfold onTripQ; rw [if_neg c_34])]
          exact lv_sub hl [0, 2, 3, 4] rfl
        ·
          refine lv_aload hx hb dX6_spentOnTrip_37 (lv_at hl 0 rfl) ?_
          refine gf_X0_8 hx hb hown hC (RA.ch hR hlt) (zf_X6_197 hC.1) dX6_spentOnTrip_39 ?_
          refine lv_iconst (v := 3) hx hb dX6_spentOnTrip_42 (by decide) ?_
          refine lv_icmp_eq (tgt := 54) hx hb dX6_spentOnTrip_43 (by decide) (fun c_43 => ?_) (fun c_43 => ?_)
          ·
            refine lv_iinc (v := nI i + 1) (lv' := [(3, .int (nI i + 1)), (4, .ref (g.ad 8 (i))), (2, .int (sm (onTripQ S t9) i)), (0, .ref (g.ad 1 0)), (1, .ref (g.ad 7 (t9)))]) hx hb dX6_spentOnTrip_54 hl (k := 1) rfl rfl (by decide) rfl (fun ls hl => ?_)
            refine lv_goto (tgt := 4) hx hb dX6_spentOnTrip_57 (by decide) ?_
            refine ih (i + 1) hlt (by omega) ls ?_
            rw [nI_succ i, sm_z (f := onTripQ S t9) (by unfold onTripQ; rw [if_pos c_34, if_pos c_43])]
            exact lv_sub hl [0, 2, 3, 4] rfl
          ·
            refine lv_iload_n hx hb dX6_spentOnTrip_46 rfl (lv_at hl 2 rfl) ?_
            refine lv_aload hx hb dX6_spentOnTrip_47 (lv_at hl 0 rfl) ?_
            refine gf_X0_4 hx hb hown hC (RA.ch hR hlt) (zf_X6_217 hC.1) dX6_spentOnTrip_49 ?_
            refine lv_iadd hx hb dX6_spentOnTrip_52 ?_
            refine lv_istore_n (lv' := [(2, .int ((sm (onTripQ S t9) i) + (S.ca (i)))), (4, .ref (g.ad 8 (i))), (3, .int (nI i)), (0, .ref (g.ad 1 0)), (1, .ref (g.ad 7 (t9)))]) hx hb dX6_spentOnTrip_53 rfl hl (by decide) rfl (fun ls hl => ?_)
            refine lv_iinc (v := nI i + 1) (lv' := [(3, .int (nI i + 1)), (2, .int ((sm (onTripQ S t9) i) + (S.ca (i)))), (4, .ref (g.ad 8 (i))), (0, .ref (g.ad 1 0)), (1, .ref (g.ad 7 (t9)))]) hx hb dX6_spentOnTrip_54 hl (k := 2) rfl rfl (by decide) rfl (fun ls hl => ?_)
            refine lv_goto (tgt := 4) hx hb dX6_spentOnTrip_57 (by decide) ?_
            refine ih (i + 1) hlt (by omega) ls ?_
            rw [nI_succ i, sm_t (f := onTripQ S t9) (by unfold onTripQ; rw [if_pos c_34, if_neg c_43])]
            exact lv_sub hl [0, 1, 3, 4] rfl
  refine loop4 (S.nc + 1) 0 (Nat.zero_le _) (by omega) ls ?_
  exact lv_sub hl [0, 1, 2, 3] rfl
set_option maxRecDepth 100000 in
set_option maxHeartbeats 4000000 in
theorem c_X6_spentOffTrips (l : Launch) (E : EE) {S : St} {g : Gh} (hI : Inv S) {p9 : Nat} (hp : p9 < S.np) (k : Int32) : RM l E yX6_spentOffTrips cX6_spentOffTrips 7 .int (rD 3) [.ref (g.ad 1 0), .ref (g.ad 6 (p9)), .int (k)] (RA E S g) (.int (offA S p9 k)) := by
  refine rm_of rfl (Nat.le_of_ble_eq_true rfl) (fun p e s m below meth c ls hx hb hr hml (hown : s.vm.findClass RX6 = some m.cls) hC hlocks hR hl => ?_)
  have hl : lv_has ls 7 [(0, .ref (g.ad 1 0)), (1, .ref (g.ad 6 (p9))), (2, .int (k))] := hl
  refine lv_iconst (v := 0) hx hb dX6_spentOffTrips_0 (by decide) ?_
  refine lv_istore_n (lv' := [(3, .int (0)), (0, .ref (g.ad 1 0)), (1, .ref (g.ad 6 (p9))), (2, .int (k))]) hx hb dX6_spentOffTrips_1 rfl hl (by decide) rfl (fun ls hl => ?_)
  refine lv_iconst (v := 0) hx hb dX6_spentOffTrips_2 (by decide) ?_
  refine lv_istore (lv' := [(4, .int (0)), (3, .int (0)), (0, .ref (g.ad 1 0)), (1, .ref (g.ad 6 (p9))), (2, .int (k))]) hx hb dX6_spentOffTrips_3 hl (by decide) rfl (fun ls hl => ?_)
  have loop5 : ∀ (n i : Nat), i ≤ S.nc → S.nc < i + n → ∀ ls, lv_has ls 7 [(4, .int (nI i)), (3, .int (sm (offQ S p9 k) i)), (0, .ref (g.ad 1 0)), (1, .ref (g.ad 6 (p9))), (2, .int (k))] → W p l e (rD 3) s m ([.ref (g.ad 1 0), .ref (g.ad 6 (p9)), .int (k)] : List Value).toArray below meth c s.heap [] 0 0 (MQ below (RQ (.int (offA S p9 k))) ([.ref (g.ad 1 0), .ref (g.ad 6 (p9)), .int (k)] : List Value).toArray s 0 0 (fun _ => False)) (F0 m 5 ls []) := by
    intro n
    induction n with
    | zero => intro i h1 h2; exact absurd h2 (by omega)
    | succ n ih =>
      intro i hi hin ls hl
      refine lv_iload hx hb dX6_spentOffTrips_5 (lv_at hl 0 rfl) ?_
      refine lv_aload_n hx hb dX6_spentOffTrips_7 rfl (lv_at hl 2 rfl) ?_
      refine gf_X6_2 hx hb hown hC (RA.x hR) (zf_X6_19 hC.1) dX6_spentOffTrips_8 ?_
      refine rc_V (As := []) hx hb hml hown hC hl (c_size l E _ _ _ _) (rec_of hC (RA.ls hR (by decide : 2 < 4)) rfl) (zm_X6_51 hC.1) kv_Jx4a65c_size_8abf5 (RA.ls hR (by decide : 2 < 4)) rfl rfl (rD_le (by decide) (by decide)) ⟨rfl, rfl⟩ (Nat.le_of_ble_eq_true rfl) ⟨Nat.zero_le _, Nat.zero_le _⟩ dX6_spentOffTrips_11 ?_
      refine lv_icmp_ge (tgt := 107) hx hb dX6_spentOffTrips_14 (by decide) (fun c_14 => ?_) (fun c_14 => ?_)
      ·
        have hi := ge_in c_14 hi hI.nc31
        subst hi
        refine lv_iload_n hx hb dX6_spentOffTrips_107 rfl (lv_at hl 1 rfl) ?_
        exact rr_i hx hb hr hlocks rfl dX6_spentOffTrips_108
      ·
        have hlt := ge_out c_14 hi hI.nc31
        refine lv_aload_n hx hb dX6_spentOffTrips_17 rfl (lv_at hl 2 rfl) ?_
        refine gf_X6_2 hx hb hown hC (RA.x hR) (zf_X6_19 hC.1) dX6_spentOffTrips_18 ?_
        refine lv_iload hx hb dX6_spentOffTrips_21 (lv_at hl 0 rfl) ?_
        refine rc_V (As := [.int (nI i)]) hx hb hml hown hC hl (c_getL l E 2 rfl hR (by decide) hlt) (rec_of hC (RA.ls hR (by decide : 2 < 4)) rfl) (zm_X6_253 hC.1) kv_Jx4a65c_get_915e3 (RA.gp hR 2 (by decide) hlt) rfl rfl (rD_le (by decide) (by decide)) ⟨rfl, rfl⟩ (Nat.le_of_ble_eq_true rfl) ⟨Nat.zero_le _, Nat.zero_le _⟩ dX6_spentOffTrips_23 ?_
        refine g_cast hx hb hown hC (RA.ch hR hlt) rfl (zc_X6_155 hC.1) dX6_spentOffTrips_26 ?_
        refine lv_astore (lv' := [(5, .ref (g.ad 8 (i))), (4, .int (nI i)), (3, .int (sm (offQ S p9 k) i)), (0, .ref (g.ad 1 0)), (1, .ref (g.ad 6 (p9))), (2, .int (k))]) hx hb dX6_spentOffTrips_29 hl (by decide) rfl (fun ls hl => ?_)
        refine lv_aload hx hb dX6_spentOffTrips_31 (lv_at hl 0 rfl) ?_
        refine gf_X0_7 hx hb hown hC (RA.ch hR hlt) (zf_X6_164 hC.1) dX6_spentOffTrips_33 ?_
        refine lw_ifnonnull (tgt := 67) hx hb dX6_spentOffTrips_36 (by decide) (fun j_36 o_36 => ?_) (fun o_36 => ?_)
        ·
          refine lv_iconst (v := 0) hx hb dX6_spentOffTrips_67 (by decide) ?_
          refine lv_istore (lv' := [(6, .int (0)), (5, .ref (g.ad 8 (i))), (4, .int (nI i)), (3, .int (sm (offQ S p9 k) i)), (0, .ref (g.ad 1 0)), (1, .ref (g.ad 6 (p9))), (2, .int (k))]) hx hb dX6_spentOffTrips_68 hl (by decide) rfl (fun ls hl => ?_)
          refine lv_iload hx hb dX6_spentOffTrips_70 (lv_at hl 0 rfl) ?_
          refine lv_if_eq (tgt := 101) hx hb dX6_spentOffTrips_72 (by decide) (fun c_72 => ?_) (fun c_72 => ?_)
          ·
            refine lv_iinc (v := nI i + 1) (lv' := [(4, .int (nI i + 1)), (6, .int (0)), (5, .ref (g.ad 8 (i))), (3, .int (sm (offQ S p9 k) i)), (0, .ref (g.ad 1 0)), (1, .ref (g.ad 6 (p9))), (2, .int (k))]) hx hb dX6_spentOffTrips_101 hl (k := 2) rfl rfl (by decide) rfl (fun ls hl => ?_)
            refine lv_goto (tgt := 5) hx hb dX6_spentOffTrips_104 (by decide) ?_
            refine ih (i + 1) hlt (by omega) ls ?_
            rw [nI_succ i, sm_z (f := offQ S p9 k) (by unfold offQ; rw [if_neg (nsome o_36)])]
            exact lv_sub hl [0, 3, 4, 5, 6] rfl
          · exact absurd (by decide) c_72
        ·
          refine lv_aload hx hb dX6_spentOffTrips_39 (lv_at hl 0 rfl) ?_
          refine gf_X0_8 hx hb hown hC (RA.ch hR hlt) (zf_X6_197 hC.1) dX6_spentOffTrips_41 ?_
          refine lv_iconst (v := 3) hx hb dX6_spentOffTrips_44 (by decide) ?_
          refine lv_icmp_eq (tgt := 67) hx hb dX6_spentOffTrips_45 (by decide) (fun c_45 => ?_) (fun c_45 => ?_)
          ·
            refine lv_iconst (v := 0) hx hb dX6_spentOffTrips_67 (by decide) ?_
            refine lv_istore (lv' := [(6, .int (0)), (5, .ref (g.ad 8 (i))), (4, .int (nI i)), (3, .int (sm (offQ S p9 k) i)), (0, .ref (g.ad 1 0)), (1, .ref (g.ad 6 (p9))), (2, .int (k))]) hx hb dX6_spentOffTrips_68 hl (by decide) rfl (fun ls hl => ?_)
            refine lv_iload hx hb dX6_spentOffTrips_70 (lv_at hl 0 rfl) ?_
            refine lv_if_eq (tgt := 101) hx hb dX6_spentOffTrips_72 (by decide) (fun c_72 => ?_) (fun c_72 => ?_)
            ·
              refine lv_iinc (v := nI i + 1) (lv' := [(4, .int (nI i + 1)), (6, .int (0)), (5, .ref (g.ad 8 (i))), (3, .int (sm (offQ S p9 k) i)), (0, .ref (g.ad 1 0)), (1, .ref (g.ad 6 (p9))), (2, .int (k))]) hx hb dX6_spentOffTrips_101 hl (k := 2) rfl rfl (by decide) rfl (fun ls hl => ?_)
              refine lv_goto (tgt := 5) hx hb dX6_spentOffTrips_104 (by decide) ?_
              refine ih (i + 1) hlt (by omega) ls ?_
              rw [nI_succ i, sm_z (f := offQ S p9 k) (by unfold offQ; rw [if_pos o_36, if_pos c_45])]
              exact lv_sub hl [0, 3, 4, 5, 6] rfl
            · exact absurd (by decide) c_72
          ·
            refine lv_aload_n hx hb dX6_spentOffTrips_48 rfl (lv_at hl 3 rfl) ?_
            refine gf_X6_8 hx hb hown hC (RA.x hR) (zf_X6_43 hC.1) dX6_spentOffTrips_49 ?_
            refine lv_aload hx hb dX6_spentOffTrips_52 (lv_at hl 0 rfl) ?_
            refine gf_X0_6 hx hb hown hC (RA.ch hR hlt) (zf_X6_220 hC.1) dX6_spentOffTrips_54 ?_
            refine lv_isub hx hb dX6_spentOffTrips_57 ?_
            refine lv_bipush (v := 10) hx hb dX6_spentOffTrips_58 (by decide) ?_
            refine lv_icmp_ge (tgt := 67) hx hb dX6_spentOffTrips_60 (by decide) (fun c_60 => ?_) (fun c_60 => ?_)
            ·
              refine lv_iconst (v := 0) hx hb dX6_spentOffTrips_67 (by decide) ?_
              refine lv_istore (lv' := [(6, .int (0)), (5, .ref (g.ad 8 (i))), (4, .int (nI i)), (3, .int (sm (offQ S p9 k) i)), (0, .ref (g.ad 1 0)), (1, .ref (g.ad 6 (p9))), (2, .int (k))]) hx hb dX6_spentOffTrips_68 hl (by decide) rfl (fun ls hl => ?_)
              refine lv_iload hx hb dX6_spentOffTrips_70 (lv_at hl 0 rfl) ?_
              refine lv_if_eq (tgt := 101) hx hb dX6_spentOffTrips_72 (by decide) (fun c_72 => ?_) (fun c_72 => ?_)
              ·
                refine lv_iinc (v := nI i + 1) (lv' := [(4, .int (nI i + 1)), (6, .int (0)), (5, .ref (g.ad 8 (i))), (3, .int (sm (offQ S p9 k) i)), (0, .ref (g.ad 1 0)), (1, .ref (g.ad 6 (p9))), (2, .int (k))]) hx hb dX6_spentOffTrips_101 hl (k := 2) rfl rfl (by decide) rfl (fun ls hl => ?_)
                refine lv_goto (tgt := 5) hx hb dX6_spentOffTrips_104 (by decide) ?_
                refine ih (i + 1) hlt (by omega) ls ?_
                rw [nI_succ i, sm_z (f := offQ S p9 k) (by unfold offQ; rw [if_pos o_36, if_neg c_45, if_pos c_60])]
                exact lv_sub hl [0, 3, 4, 5, 6] rfl
              · exact absurd (by decide) c_72
            ·
              refine lv_iconst (v := 1) hx hb dX6_spentOffTrips_63 (by decide) ?_
              refine lv_goto (tgt := 68) hx hb dX6_spentOffTrips_64 (by decide) ?_
              refine lv_istore (lv' := [(6, .int (1)), (5, .ref (g.ad 8 (i))), (4, .int (nI i)), (3, .int (sm (offQ S p9 k) i)), (0, .ref (g.ad 1 0)), (1, .ref (g.ad 6 (p9))), (2, .int (k))]) hx hb dX6_spentOffTrips_68 hl (by decide) rfl (fun ls hl => ?_)
              refine lv_iload hx hb dX6_spentOffTrips_70 (lv_at hl 0 rfl) ?_
              refine lv_if_eq (tgt := 101) hx hb dX6_spentOffTrips_72 (by decide) (fun c_72 => ?_) (fun c_72 => ?_)
              · exact absurd c_72 (by decide)
              ·
                refine lv_aload hx hb dX6_spentOffTrips_75 (lv_at hl 1 rfl) ?_
                refine gf_X0_1 hx hb hown hC (RA.ch hR hlt) (zf_X6_211 hC.1) dX6_spentOffTrips_77 ?_
                refine lv_aload_n hx hb dX6_spentOffTrips_80 rfl (lv_at hl 5 rfl) ?_
                refine lw_acmp_ne (i := S.cp (i)) (j := p9) (tgt := 101) hx hb (RA.iff hR 6 (hI.cp hlt) hp) dX6_spentOffTrips_81 (by decide) (fun c_81 => ?_) (fun c_81 => ?_)
                ·
                  refine lv_iinc (v := nI i + 1) (lv' := [(4, .int (nI i + 1)), (6, .int (1)), (5, .ref (g.ad 8 (i))), (3, .int (sm (offQ S p9 k) i)), (0, .ref (g.ad 1 0)), (1, .ref (g.ad 6 (p9))), (2, .int (k))]) hx hb dX6_spentOffTrips_101 hl (k := 2) rfl rfl (by decide) rfl (fun ls hl => ?_)
                  refine lv_goto (tgt := 5) hx hb dX6_spentOffTrips_104 (by decide) ?_
                  refine ih (i + 1) hlt (by omega) ls ?_
                  rw [nI_succ i, sm_z (f := offQ S p9 k) (by unfold offQ; rw [if_pos o_36, if_neg c_45, if_neg c_60, if_neg c_81])]
                  exact lv_sub hl [0, 3, 4, 5, 6] rfl
                ·
                  refine lv_aload hx hb dX6_spentOffTrips_84 (lv_at hl 1 rfl) ?_
                  refine gf_X0_2 hx hb hown hC (RA.ch hR hlt) (zf_X6_214 hC.1) dX6_spentOffTrips_86 ?_
                  refine lv_iload_n hx hb dX6_spentOffTrips_89 rfl (lv_at hl 6 rfl) ?_
                  refine lv_icmp_ne (tgt := 101) hx hb dX6_spentOffTrips_90 (by decide) (fun c_90 => ?_) (fun c_90 => ?_)
                  ·
                    refine lv_iinc (v := nI i + 1) (lv' := [(4, .int (nI i + 1)), (6, .int (1)), (5, .ref (g.ad 8 (i))), (3, .int (sm (offQ S p9 k) i)), (0, .ref (g.ad 1 0)), (1, .ref (g.ad 6 (p9))), (2, .int (k))]) hx hb dX6_spentOffTrips_101 hl (k := 2) rfl rfl (by decide) rfl (fun ls hl => ?_)
                    refine lv_goto (tgt := 5) hx hb dX6_spentOffTrips_104 (by decide) ?_
                    refine ih (i + 1) hlt (by omega) ls ?_
                    rw [nI_succ i, sm_z (f := offQ S p9 k) (by unfold offQ; rw [if_pos o_36, if_neg c_45, if_neg c_60, if_pos c_81, if_neg c_90])]
                    exact lv_sub hl [0, 3, 4, 5, 6] rfl
                  ·
                    refine lv_iload_n hx hb dX6_spentOffTrips_93 rfl (lv_at hl 3 rfl) ?_
                    refine lv_aload hx hb dX6_spentOffTrips_94 (lv_at hl 1 rfl) ?_
                    refine gf_X0_4 hx hb hown hC (RA.ch hR hlt) (zf_X6_217 hC.1) dX6_spentOffTrips_96 ?_
                    refine lv_iadd hx hb dX6_spentOffTrips_99 ?_
                    refine lv_istore_n (lv' := [(3, .int ((sm (offQ S p9 k) i) + (S.ca (i)))), (6, .int (1)), (5, .ref (g.ad 8 (i))), (4, .int (nI i)), (0, .ref (g.ad 1 0)), (1, .ref (g.ad 6 (p9))), (2, .int (k))]) hx hb dX6_spentOffTrips_100 rfl hl (by decide) rfl (fun ls hl => ?_)
                    refine lv_iinc (v := nI i + 1) (lv' := [(4, .int (nI i + 1)), (3, .int ((sm (offQ S p9 k) i) + (S.ca (i)))), (6, .int (1)), (5, .ref (g.ad 8 (i))), (0, .ref (g.ad 1 0)), (1, .ref (g.ad 6 (p9))), (2, .int (k))]) hx hb dX6_spentOffTrips_101 hl (k := 3) rfl rfl (by decide) rfl (fun ls hl => ?_)
                    refine lv_goto (tgt := 5) hx hb dX6_spentOffTrips_104 (by decide) ?_
                    refine ih (i + 1) hlt (by omega) ls ?_
                    rw [nI_succ i, sm_t (f := offQ S p9 k) (by unfold offQ; rw [if_pos o_36, if_neg c_45, if_neg c_60, if_pos c_81, if_pos c_90])]
                    exact lv_sub hl [0, 1, 4, 5, 6] rfl
  refine loop5 (S.nc + 1) 0 (Nat.zero_le _) (by omega) ls ?_
  exact lv_sub hl [0, 1, 2, 3, 4] rfl
theorem tR_le (t : Nat) : tR t ≤ 8 := by unfold tR; split <;> decide
theorem tC_le (t : Nat) : tC t ≤ 4 := by unfold tC; split <;> decide
theorem ix_lt {r R c C : Nat} (hr : r < R) (hc : c < C) : r * C + c < R * C := by
  have h : (r + 1) * C ≤ R * C := Nat.mul_le_mul_right C hr
  rw [Nat.succ_mul] at h
  omega
theorem ix_nI (r c C : Nat) : nI r * nI C + nI c = nI (r * C + c) := by rw [pk_mul, nI_add]
set_option maxRecDepth 100000 in
set_option maxHeartbeats 4000000 in
theorem c_X4_at (l : Launch) (E : EE) {S : St} {g : Gh} (hI : Inv S) {t9 : Nat} (ht : t9 < 4) {r9 c9 : Nat} (hr9 : r9 < tR t9) (hc9 : c9 < tC t9) : RM l E yX4_at cX4_at 4 .int (rD 0) [.ref (g.ad 4 t9), .int (nI r9), .int (nI c9)] (RA E S g) (.int (S.tb t9 (r9 * tC t9 + c9))) := by
  refine rm_of rfl (Nat.le_of_ble_eq_true rfl) (fun p e s m below meth c ls hx hb hr hml (hown : s.vm.findClass RX4 = some m.cls) hC hlocks hR hl => ?_)
  have hl : lv_has ls 4 [(0, .ref (g.ad 4 t9)), (1, .int (nI r9)), (2, .int (nI c9))] := hl
  have hR8 := tR_le t9
  have hC4 := tC_le t9
  have hix : (nI r9) * (nI (tC t9)) + (nI c9) = nI (r9 * tC t9 + c9) ∧ r9 * tC t9 + c9 < tR t9 * tC t9 ∧ tR t9 * tC t9 < 2 ^ 31 := ⟨ix_nI _ _ _, ix_lt hr9 hc9, Nat.lt_of_le_of_lt (Nat.mul_le_mul hR8 hC4) (by decide)⟩
  refine lv_iload_n hx hb dX4_at_0 rfl (lv_at hl 1 rfl) ?_
  refine lv_if_lt (tgt := 28) hx hb dX4_at_1 (by decide) (fun c_1 => ?_) (fun c_1 => ?_)
  · exact absurd c_1 (nI_pos (by omega))
  ·
    refine lv_iload_n hx hb dX4_at_4 rfl (lv_at hl 1 rfl) ?_
    refine lv_aload_n hx hb dX4_at_5 rfl (lv_at hl 0 rfl) ?_
    refine gf_X4_0 hx hb hown hC (RA.tb hR ht) (zf_X4_13 hC.1) dX4_at_6 ?_
    refine lv_icmp_ge (tgt := 28) hx hb dX4_at_9 (by decide) (fun c_9 => ?_) (fun c_9 => ?_)
    · exact absurd c_9 (nI_ge hr9 (by omega))
    ·
      refine lv_iload_n hx hb dX4_at_12 rfl (lv_at hl 2 rfl) ?_
      refine lv_if_lt (tgt := 28) hx hb dX4_at_13 (by decide) (fun c_13 => ?_) (fun c_13 => ?_)
      · exact absurd c_13 (nI_pos (by omega))
      ·
        refine lv_iload_n hx hb dX4_at_16 rfl (lv_at hl 2 rfl) ?_
        refine lv_aload_n hx hb dX4_at_17 rfl (lv_at hl 0 rfl) ?_
        refine gf_X4_1 hx hb hown hC (RA.tb hR ht) (zf_X4_19 hC.1) dX4_at_18 ?_
        refine lv_icmp_ge (tgt := 28) hx hb dX4_at_21 (by decide) (fun c_21 => ?_) (fun c_21 => ?_)
        · exact absurd c_21 (nI_ge hc9 (by omega))
        ·
          refine lv_iconst (v := 1) hx hb dX4_at_24 (by decide) ?_
          refine lv_goto (tgt := 29) hx hb dX4_at_25 (by decide) ?_
          refine lv_istore_n (lv' := [(3, .int (1)), (0, .ref (g.ad 4 t9)), (1, .int (nI r9)), (2, .int (nI c9))]) hx hb dX4_at_29 rfl hl (by decide) rfl (fun ls hl => ?_)
          refine lv_iload_n hx hb dX4_at_30 rfl (lv_at hl 0 rfl) ?_
          refine lv_if_eq (tgt := 50) hx hb dX4_at_31 (by decide) (fun c_31 => ?_) (fun c_31 => ?_)
          · exact absurd c_31 (by decide)
          ·
            refine lv_aload_n hx hb dX4_at_34 rfl (lv_at hl 1 rfl) ?_
            refine gf_X4_2 hx hb hown hC (RA.tb hR ht) (zf_X4_22 hC.1) dX4_at_35 ?_
            refine lv_iload_n hx hb dX4_at_38 rfl (lv_at hl 2 rfl) ?_
            refine lv_aload_n hx hb dX4_at_39 rfl (lv_at hl 1 rfl) ?_
            refine gf_X4_1 hx hb hown hC (RA.tb hR ht) (zf_X4_19 hC.1) dX4_at_40 ?_
            refine lv_imul hx hb dX4_at_43 ?_
            refine lv_iload_n hx hb dX4_at_44 rfl (lv_at hl 3 rfl) ?_
            refine lv_iadd hx hb dX4_at_45 ?_
            refine g_iald hx hb hC (RA.ta hR ht) hix dX4_at_46 ?_
            refine lv_goto (tgt := 51) hx hb dX4_at_47 (by decide) ?_
            exact rr_i hx hb hr hlocks rfl dX4_at_51
set_option maxRecDepth 100000 in
set_option maxHeartbeats 4000000 in
theorem c_X6_taxOf (l : Launch) (E : EE) {S : St} {g : Gh} (hI : Inv S) {c9 : Nat} (hc : c9 < S.nc) : RM l E yX6_taxOf cX6_taxOf 4 .int (rD 1) [.ref (g.ad 1 0), .ref (g.ad 8 (c9))] (RA E S g) (.int (taxA S c9)) := by
  refine rm_of rfl (Nat.le_of_ble_eq_true rfl) (fun p e s m below meth c ls hx hb hr hml (hown : s.vm.findClass RX6 = some m.cls) hC hlocks hR hl => ?_)
  have hl : lv_has ls 4 [(0, .ref (g.ad 1 0)), (1, .ref (g.ad 8 (c9)))] := hl
  refine lv_aload_n hx hb dX6_taxOf_0 rfl (lv_at hl 0 rfl) ?_
  refine gf_X6_7 hx hb hown hC (RA.x hR) (zf_X6_40 hC.1) dX6_taxOf_1 ?_
  refine lv_aload_n hx hb dX6_taxOf_4 rfl (lv_at hl 1 rfl) ?_
  refine gf_X0_3 hx hb hown hC (RA.ch hR hc) (zf_X6_371 hC.1) dX6_taxOf_5 ?_
  refine lv_aload_n hx hb dX6_taxOf_8 rfl (lv_at hl 1 rfl) ?_
  refine gf_X0_2 hx hb hown hC (RA.ch hR hc) (zf_X6_214 hC.1) dX6_taxOf_9 ?_
  refine rc_V (As := [.int (nI (S.cl (c9))), .int (nI (S.ck (c9)))]) hx hb hml hown hC hl (c_X4_at l E hI (by decide : 3 < 4) (r9 := S.cl (c9)) (c9 := S.ck (c9)) (hI.cl hc) (hI.ck hc)) (rec_of hC (RA.tb hR (by decide : 3 < 4)) rfl) (zm_X6_361 hC.1) kv_X4_at hR rfl rfl (rD_le (by decide) (by decide)) ⟨rfl, rfl⟩ (Nat.le_of_ble_eq_true rfl) ⟨Nat.zero_le _, Nat.zero_le _⟩ dX6_taxOf_12 ?_
  refine lv_istore_n (lv' := [(2, .int (S.tb 3 (S.cl (c9) * 4 + S.ck (c9)))), (0, .ref (g.ad 1 0)), (1, .ref (g.ad 8 (c9)))]) hx hb dX6_taxOf_15 rfl hl (by decide) rfl (fun ls hl => ?_)
  refine lv_bipush (v := 100) hx hb dX6_taxOf_16 (by decide) ?_
  refine lv_iload_n hx hb dX6_taxOf_18 rfl (lv_at hl 0 rfl) ?_
  refine lv_iadd hx hb dX6_taxOf_19 ?_
  refine lv_istore_n (lv' := [(3, .int ((100) + (S.tb 3 (S.cl (c9) * 4 + S.ck (c9))))), (2, .int (S.tb 3 (S.cl (c9) * 4 + S.ck (c9)))), (0, .ref (g.ad 1 0)), (1, .ref (g.ad 8 (c9)))]) hx hb dX6_taxOf_20 rfl hl (by decide) rfl (fun ls hl => ?_)
  refine lv_iload_n hx hb dX6_taxOf_21 rfl (lv_at hl 0 rfl) ?_
  refine lv_if_le (tgt := 36) hx hb dX6_taxOf_22 (by decide) (fun c_22 => ?_) (fun c_22 => ?_)
  ·
    refine lv_iconst (v := 0) hx hb dX6_taxOf_36 (by decide) ?_
    exact rr_i hx hb hr hlocks (by unfold taxA rateA; rw [if_pos c_22]) dX6_taxOf_37
  ·
    refine lv_aload_n hx hb dX6_taxOf_25 rfl (lv_at hl 3 rfl) ?_
    refine gf_X0_4 hx hb hown hC (RA.ch hR hc) (zf_X6_217 hC.1) dX6_taxOf_26 ?_
    refine lv_iload_n hx hb dX6_taxOf_29 rfl (lv_at hl 1 rfl) ?_
    refine lv_imul hx hb dX6_taxOf_30 ?_
    refine lv_iload_n hx hb dX6_taxOf_31 rfl (lv_at hl 0 rfl) ?_
    refine lv_idiv hx hb dX6_taxOf_32 (fun h => absurd (show 100 + rateA S c9 ≤ 0 from by unfold rateA; rw [h]; decide) c_22) ?_
    refine lv_goto (tgt := 37) hx hb dX6_taxOf_33 (by decide) ?_
    exact rr_i hx hb hr hlocks (by unfold taxA rateA; rw [if_neg c_22]) dX6_taxOf_37
set_option maxRecDepth 100000 in
set_option maxHeartbeats 4000000 in
theorem c_X6_costOf (l : Launch) (E : EE) {S : St} {g : Gh} (hI : Inv S) {c9 : Nat} (hc : c9 < S.nc) (b : Int32) : RM l E yX6_costOf cX6_costOf 3 .int (rD 2) [.ref (g.ad 1 0), .ref (g.ad 8 (c9)), .int (b)] (RA E S g) (.int (costA S c9 b)) := by
  refine rm_of rfl (Nat.le_of_ble_eq_true rfl) (fun p e s m below meth c ls hx hb hr hml (hown : s.vm.findClass RX6 = some m.cls) hC hlocks hR hl => ?_)
  have hl : lv_has ls 3 [(0, .ref (g.ad 1 0)), (1, .ref (g.ad 8 (c9))), (2, .int (b))] := hl
  refine lv_aload_n hx hb dX6_costOf_0 rfl (lv_at hl 1 rfl) ?_
  refine gf_X0_8 hx hb hown hC (RA.ch hR hc) (zf_X6_197 hC.1) dX6_costOf_1 ?_
  rcases hI.cs hc with h4 | h4 | h4 | h4 | h4
  · refine lv_tableIn (off := 45) (tgt := 49) hx hb dX6_costOf_4 (by rw [h4]; decide) (by rw [h4]; decide) (by rw [h4]; decide) (by decide) ?_
    refine lv_iload_n hx hb dX6_costOf_49 rfl (lv_at hl 2 rfl) ?_
    refine lv_if_eq (tgt := 66) hx hb dX6_costOf_50 (by decide) (fun c_50 => ?_) (fun c_50 => ?_)
    ·
      refine lv_aload_n hx hb dX6_costOf_66 rfl (lv_at hl 1 rfl) ?_
      refine gf_X0_4 hx hb hown hC (RA.ch hR hc) (zf_X6_217 hC.1) dX6_costOf_67 ?_
      exact rr_i hx hb hr hlocks (by simp [costA, h4, c_50]) dX6_costOf_70
    ·
      refine lv_aload_n hx hb dX6_costOf_53 rfl (lv_at hl 1 rfl) ?_
      refine gf_X0_4 hx hb hown hC (RA.ch hR hc) (zf_X6_217 hC.1) dX6_costOf_54 ?_
      refine lv_aload_n hx hb dX6_costOf_57 rfl (lv_at hl 0 rfl) ?_
      refine lv_aload_n hx hb dX6_costOf_58 rfl (lv_at hl 1 rfl) ?_
      refine rc_V (As := [.ref (g.ad 8 (c9))]) hx hb hml hown hC hl (c_X6_taxOf l E hI hc) (rec_of hC (RA.x hR) rfl) (zm_X6_227 hC.1) kv_X6_taxOf hR rfl rfl (rD_le (by decide) (by decide)) ⟨rfl, rfl⟩ (Nat.le_of_ble_eq_true rfl) ⟨Nat.zero_le _, Nat.zero_le _⟩ dX6_costOf_59 ?_
      refine lv_isub hx hb dX6_costOf_62 ?_
      refine lv_goto (tgt := 70) hx hb dX6_costOf_63 (by decide) ?_
      exact rr_i hx hb hr hlocks (by simp [costA, h4, c_50]) dX6_costOf_70
  · refine lv_tableIn (off := 32) (tgt := 36) hx hb dX6_costOf_4 (by rw [h4]; decide) (by rw [h4]; decide) (by rw [h4]; decide) (by decide) ?_
    refine lv_aload_n hx hb dX6_costOf_36 rfl (lv_at hl 1 rfl) ?_
    refine gf_X0_4 hx hb hown hC (RA.ch hR hc) (zf_X6_217 hC.1) dX6_costOf_37 ?_
    refine lv_aload_n hx hb dX6_costOf_40 rfl (lv_at hl 0 rfl) ?_
    refine lv_aload_n hx hb dX6_costOf_41 rfl (lv_at hl 1 rfl) ?_
    refine rc_V (As := [.ref (g.ad 8 (c9))]) hx hb hml hown hC hl (c_X6_taxOf l E hI hc) (rec_of hC (RA.x hR) rfl) (zm_X6_227 hC.1) kv_X6_taxOf hR rfl rfl (rD_le (by decide) (by decide)) ⟨rfl, rfl⟩ (Nat.le_of_ble_eq_true rfl) ⟨Nat.zero_le _, Nat.zero_le _⟩ dX6_costOf_42 ?_
    refine lv_isub hx hb dX6_costOf_45 ?_
    exact rr_i hx hb hr hlocks (by simp [costA, h4]) dX6_costOf_46
  · refine lv_tableIn (off := 32) (tgt := 36) hx hb dX6_costOf_4 (by rw [h4]; decide) (by rw [h4]; decide) (by rw [h4]; decide) (by decide) ?_
    refine lv_aload_n hx hb dX6_costOf_36 rfl (lv_at hl 1 rfl) ?_
    refine gf_X0_4 hx hb hown hC (RA.ch hR hc) (zf_X6_217 hC.1) dX6_costOf_37 ?_
    refine lv_aload_n hx hb dX6_costOf_40 rfl (lv_at hl 0 rfl) ?_
    refine lv_aload_n hx hb dX6_costOf_41 rfl (lv_at hl 1 rfl) ?_
    refine rc_V (As := [.ref (g.ad 8 (c9))]) hx hb hml hown hC hl (c_X6_taxOf l E hI hc) (rec_of hC (RA.x hR) rfl) (zm_X6_227 hC.1) kv_X6_taxOf hR rfl rfl (rD_le (by decide) (by decide)) ⟨rfl, rfl⟩ (Nat.le_of_ble_eq_true rfl) ⟨Nat.zero_le _, Nat.zero_le _⟩ dX6_costOf_42 ?_
    refine lv_isub hx hb dX6_costOf_45 ?_
    exact rr_i hx hb hr hlocks (by simp [costA, h4]) dX6_costOf_46
  · refine lv_tableIn (off := 43) (tgt := 47) hx hb dX6_costOf_4 (by rw [h4]; decide) (by rw [h4]; decide) (by rw [h4]; decide) (by decide) ?_
    refine lv_iconst (v := 0) hx hb dX6_costOf_47 (by decide) ?_
    exact rr_i hx hb hr hlocks (by simp [costA, h4]) dX6_costOf_48
  · refine lv_tableOut (tgt := 71) hx hb dX6_costOf_4 (Or.inr (by rw [h4]; decide)) (by decide) ?_
    refine lv_aload_n hx hb dX6_costOf_71 rfl (lv_at hl 1 rfl) ?_
    refine gf_X0_4 hx hb hown hC (RA.ch hR hc) (zf_X6_217 hC.1) dX6_costOf_72 ?_
    exact rr_i hx hb hr hlocks (by simp [costA, h4]) dX6_costOf_75
set_option maxRecDepth 100000 in
set_option maxHeartbeats 4000000 in
theorem c_X6_costIn (l : Launch) (E : EE) {S : St} {g : Gh} (hI : Inv S) (k per b : Int32) : RM l E yX6_costIn cX6_costIn 7 .int (rD 3) [.ref (g.ad 1 0), .int (k), .int (per), .int (b)] (RA E S g) (.int (costInA S k per b)) := by
  refine rm_of rfl (Nat.le_of_ble_eq_true rfl) (fun p e s m below meth c ls hx hb hr hml (hown : s.vm.findClass RX6 = some m.cls) hC hlocks hR hl => ?_)
  have hl : lv_has ls 7 [(0, .ref (g.ad 1 0)), (1, .int (k)), (2, .int (per)), (3, .int (b))] := hl
  refine lv_iconst (v := 0) hx hb dX6_costIn_0 (by decide) ?_
  refine lv_istore (lv' := [(4, .int (0)), (0, .ref (g.ad 1 0)), (1, .int (k)), (2, .int (per)), (3, .int (b))]) hx hb dX6_costIn_1 hl (by decide) rfl (fun ls hl => ?_)
  refine lv_iconst (v := 0) hx hb dX6_costIn_3 (by decide) ?_
  refine lv_istore (lv' := [(5, .int (0)), (4, .int (0)), (0, .ref (g.ad 1 0)), (1, .int (k)), (2, .int (per)), (3, .int (b))]) hx hb dX6_costIn_4 hl (by decide) rfl (fun ls hl => ?_)
  have loop6 : ∀ (n i : Nat), i ≤ S.nc → S.nc < i + n → ∀ ls, lv_has ls 7 [(5, .int (nI i)), (4, .int (sm (costInQ S k per b) i)), (0, .ref (g.ad 1 0)), (1, .int (k)), (2, .int (per)), (3, .int (b))] → W p l e (rD 3) s m ([.ref (g.ad 1 0), .int (k), .int (per), .int (b)] : List Value).toArray below meth c s.heap [] 0 0 (MQ below (RQ (.int (costInA S k per b))) ([.ref (g.ad 1 0), .int (k), .int (per), .int (b)] : List Value).toArray s 0 0 (fun _ => False)) (F0 m 6 ls []) := by
    intro n
    induction n with
    | zero => intro i h1 h2; exact absurd h2 (by omega)
    | succ n ih =>
      intro i hi hin ls hl
      refine lv_iload hx hb dX6_costIn_6 (lv_at hl 0 rfl) ?_
      refine lv_aload_n hx hb dX6_costIn_8 rfl (lv_at hl 2 rfl) ?_
      refine gf_X6_2 hx hb hown hC (RA.x hR) (zf_X6_19 hC.1) dX6_costIn_9 ?_
      refine rc_V (As := []) hx hb hml hown hC hl (c_size l E _ _ _ _) (rec_of hC (RA.ls hR (by decide : 2 < 4)) rfl) (zm_X6_51 hC.1) kv_Jx4a65c_size_8abf5 (RA.ls hR (by decide : 2 < 4)) rfl rfl (rD_le (by decide) (by decide)) ⟨rfl, rfl⟩ (Nat.le_of_ble_eq_true rfl) ⟨Nat.zero_le _, Nat.zero_le _⟩ dX6_costIn_12 ?_
      refine lv_icmp_ge (tgt := 71) hx hb dX6_costIn_15 (by decide) (fun c_15 => ?_) (fun c_15 => ?_)
      ·
        have hi := ge_in c_15 hi hI.nc31
        subst hi
        refine lv_iload hx hb dX6_costIn_71 (lv_at hl 1 rfl) ?_
        exact rr_i hx hb hr hlocks rfl dX6_costIn_73
      ·
        have hlt := ge_out c_15 hi hI.nc31
        refine lv_aload_n hx hb dX6_costIn_18 rfl (lv_at hl 2 rfl) ?_
        refine gf_X6_2 hx hb hown hC (RA.x hR) (zf_X6_19 hC.1) dX6_costIn_19 ?_
        refine lv_iload hx hb dX6_costIn_22 (lv_at hl 0 rfl) ?_
        refine rc_V (As := [.int (nI i)]) hx hb hml hown hC hl (c_getL l E 2 rfl hR (by decide) hlt) (rec_of hC (RA.ls hR (by decide : 2 < 4)) rfl) (zm_X6_253 hC.1) kv_Jx4a65c_get_915e3 (RA.gp hR 2 (by decide) hlt) rfl rfl (rD_le (by decide) (by decide)) ⟨rfl, rfl⟩ (Nat.le_of_ble_eq_true rfl) ⟨Nat.zero_le _, Nat.zero_le _⟩ dX6_costIn_24 ?_
        refine g_cast hx hb hown hC (RA.ch hR hlt) rfl (zc_X6_155 hC.1) dX6_costIn_27 ?_
        refine lv_astore (lv' := [(6, .ref (g.ad 8 (i))), (5, .int (nI i)), (4, .int (sm (costInQ S k per b) i)), (0, .ref (g.ad 1 0)), (1, .int (k)), (2, .int (per)), (3, .int (b))]) hx hb dX6_costIn_30 hl (by decide) rfl (fun ls hl => ?_)
        refine lv_aload hx hb dX6_costIn_32 (lv_at hl 0 rfl) ?_
        refine gf_X0_2 hx hb hown hC (RA.ch hR hlt) (zf_X6_214 hC.1) dX6_costIn_34 ?_
        refine lv_iload_n hx hb dX6_costIn_37 rfl (lv_at hl 4 rfl) ?_
        refine lv_icmp_ne (tgt := 65) hx hb dX6_costIn_38 (by decide) (fun c_38 => ?_) (fun c_38 => ?_)
        ·
          refine lv_iinc (v := nI i + 1) (lv' := [(5, .int (nI i + 1)), (6, .ref (g.ad 8 (i))), (4, .int (sm (costInQ S k per b) i)), (0, .ref (g.ad 1 0)), (1, .int (k)), (2, .int (per)), (3, .int (b))]) hx hb dX6_costIn_65 hl (k := 1) rfl rfl (by decide) rfl (fun ls hl => ?_)
          refine lv_goto (tgt := 6) hx hb dX6_costIn_68 (by decide) ?_
          refine ih (i + 1) hlt (by omega) ls ?_
          rw [nI_succ i, sm_z (f := costInQ S k per b) (by unfold costInQ; rw [if_neg c_38])]
          exact lv_sub hl [0, 2, 3, 4, 5, 6] rfl
        ·
          refine lv_aload hx hb dX6_costIn_41 (lv_at hl 0 rfl) ?_
          refine gf_X0_6 hx hb hown hC (RA.ch hR hlt) (zf_X6_220 hC.1) dX6_costIn_43 ?_
          refine lv_bipush (v := 30) hx hb dX6_costIn_46 (by decide) ?_
          refine lv_idiv hx hb dX6_costIn_48 (by decide) ?_
          refine lv_iload_n hx hb dX6_costIn_49 rfl (lv_at hl 5 rfl) ?_
          refine lv_icmp_ne (tgt := 65) hx hb dX6_costIn_50 (by decide) (fun c_50 => ?_) (fun c_50 => ?_)
          ·
            refine lv_iinc (v := nI i + 1) (lv' := [(5, .int (nI i + 1)), (6, .ref (g.ad 8 (i))), (4, .int (sm (costInQ S k per b) i)), (0, .ref (g.ad 1 0)), (1, .int (k)), (2, .int (per)), (3, .int (b))]) hx hb dX6_costIn_65 hl (k := 1) rfl rfl (by decide) rfl (fun ls hl => ?_)
            refine lv_goto (tgt := 6) hx hb dX6_costIn_68 (by decide) ?_
            refine ih (i + 1) hlt (by omega) ls ?_
            rw [nI_succ i, sm_z (f := costInQ S k per b) (by unfold costInQ; rw [if_pos c_38, if_neg c_50])]
            exact lv_sub hl [0, 2, 3, 4, 5, 6] rfl
          ·
            refine lv_iload hx hb dX6_costIn_53 (lv_at hl 2 rfl) ?_
            refine lv_aload_n hx hb dX6_costIn_55 rfl (lv_at hl 3 rfl) ?_
            refine lv_aload hx hb dX6_costIn_56 (lv_at hl 0 rfl) ?_
            refine lv_iload_n hx hb dX6_costIn_58 rfl (lv_at hl 6 rfl) ?_
            refine rc_V (As := [.ref (g.ad 8 (i)), .int (b)]) hx hb hml hown hC hl (c_X6_costOf l E hI hlt (b)) (rec_of hC (RA.x hR) rfl) (zm_X6_231 hC.1) kv_X6_costOf hR rfl rfl (rD_le (by decide) (by decide)) ⟨rfl, rfl⟩ (Nat.le_of_ble_eq_true rfl) ⟨Nat.zero_le _, Nat.zero_le _⟩ dX6_costIn_59 ?_
            refine lv_iadd hx hb dX6_costIn_62 ?_
            refine lv_istore (lv' := [(4, .int ((sm (costInQ S k per b) i) + (costA S (i) (b)))), (6, .ref (g.ad 8 (i))), (5, .int (nI i)), (0, .ref (g.ad 1 0)), (1, .int (k)), (2, .int (per)), (3, .int (b))]) hx hb dX6_costIn_63 hl (by decide) rfl (fun ls hl => ?_)
            refine lv_iinc (v := nI i + 1) (lv' := [(5, .int (nI i + 1)), (4, .int ((sm (costInQ S k per b) i) + (costA S (i) (b)))), (6, .ref (g.ad 8 (i))), (0, .ref (g.ad 1 0)), (1, .int (k)), (2, .int (per)), (3, .int (b))]) hx hb dX6_costIn_65 hl (k := 2) rfl rfl (by decide) rfl (fun ls hl => ?_)
            refine lv_goto (tgt := 6) hx hb dX6_costIn_68 (by decide) ?_
            refine ih (i + 1) hlt (by omega) ls ?_
            rw [nI_succ i, sm_t (f := costInQ S k per b) (by unfold costInQ; rw [if_pos c_38, if_pos c_50])]
            exact lv_sub hl [0, 1, 3, 4, 5, 6] rfl
  refine loop6 (S.nc + 1) 0 (Nat.zero_le _) (by omega) ls ?_
  exact lv_sub hl [0, 1, 2, 3, 4, 5] rfl
set_option maxRecDepth 100000 in
set_option maxHeartbeats 4000000 in
theorem c_X6_costOfAll (l : Launch) (E : EE) {S : St} {g : Gh} (hI : Inv S)  : RM l E yX6_costOfAll cX6_costOfAll 3 .int (rD 3) [.ref (g.ad 1 0)] (RA E S g) (.int (costsA S)) := by
  refine rm_of rfl (Nat.le_of_ble_eq_true rfl) (fun p e s m below meth c ls hx hb hr hml (hown : s.vm.findClass RX6 = some m.cls) hC hlocks hR hl => ?_)
  have hl : lv_has ls 3 [(0, .ref (g.ad 1 0))] := hl
  refine lv_iconst (v := 0) hx hb dX6_costOfAll_0 (by decide) ?_
  refine lv_istore_n (lv' := [(1, .int (0)), (0, .ref (g.ad 1 0))]) hx hb dX6_costOfAll_1 rfl hl (by decide) rfl (fun ls hl => ?_)
  refine lv_iconst (v := 0) hx hb dX6_costOfAll_2 (by decide) ?_
  refine lv_istore_n (lv' := [(2, .int (0)), (1, .int (0)), (0, .ref (g.ad 1 0))]) hx hb dX6_costOfAll_3 rfl hl (by decide) rfl (fun ls hl => ?_)
  have loop4 : ∀ (n i : Nat), i ≤ S.nc → S.nc < i + n → ∀ ls, lv_has ls 3 [(2, .int (nI i)), (1, .int (sm (costQ S) i)), (0, .ref (g.ad 1 0))] → W p l e (rD 3) s m ([.ref (g.ad 1 0)] : List Value).toArray below meth c s.heap [] 0 0 (MQ below (RQ (.int (costsA S))) ([.ref (g.ad 1 0)] : List Value).toArray s 0 0 (fun _ => False)) (F0 m 4 ls []) := by
    intro n
    induction n with
    | zero => intro i h1 h2; exact absurd h2 (by omega)
    | succ n ih =>
      intro i hi hin ls hl
      refine lv_iload_n hx hb dX6_costOfAll_4 rfl (lv_at hl 0 rfl) ?_
      refine lv_aload_n hx hb dX6_costOfAll_5 rfl (lv_at hl 2 rfl) ?_
      refine gf_X6_2 hx hb hown hC (RA.x hR) (zf_X6_19 hC.1) dX6_costOfAll_6 ?_
      refine rc_V (As := []) hx hb hml hown hC hl (c_size l E _ _ _ _) (rec_of hC (RA.ls hR (by decide : 2 < 4)) rfl) (zm_X6_51 hC.1) kv_Jx4a65c_size_8abf5 (RA.ls hR (by decide : 2 < 4)) rfl rfl (rD_le (by decide) (by decide)) ⟨rfl, rfl⟩ (Nat.le_of_ble_eq_true rfl) ⟨Nat.zero_le _, Nat.zero_le _⟩ dX6_costOfAll_9 ?_
      refine lv_icmp_ge (tgt := 40) hx hb dX6_costOfAll_12 (by decide) (fun c_12 => ?_) (fun c_12 => ?_)
      ·
        have hi := ge_in c_12 hi hI.nc31
        subst hi
        refine lv_iload_n hx hb dX6_costOfAll_40 rfl (lv_at hl 1 rfl) ?_
        exact rr_i hx hb hr hlocks rfl dX6_costOfAll_41
      ·
        have hlt := ge_out c_12 hi hI.nc31
        refine lv_iload_n hx hb dX6_costOfAll_15 rfl (lv_at hl 1 rfl) ?_
        refine lv_aload_n hx hb dX6_costOfAll_16 rfl (lv_at hl 2 rfl) ?_
        refine lv_aload_n hx hb dX6_costOfAll_17 rfl (lv_at hl 2 rfl) ?_
        refine gf_X6_2 hx hb hown hC (RA.x hR) (zf_X6_19 hC.1) dX6_costOfAll_18 ?_
        refine lv_iload_n hx hb dX6_costOfAll_21 rfl (lv_at hl 0 rfl) ?_
        refine rc_V (As := [.int (nI i)]) hx hb hml hown hC hl (c_getL l E 2 rfl hR (by decide) hlt) (rec_of hC (RA.ls hR (by decide : 2 < 4)) rfl) (zm_X6_253 hC.1) kv_Jx4a65c_get_915e3 (RA.gp hR 2 (by decide) hlt) rfl rfl (rD_le (by decide) (by decide)) ⟨rfl, rfl⟩ (Nat.le_of_ble_eq_true rfl) ⟨Nat.zero_le _, Nat.zero_le _⟩ dX6_costOfAll_22 ?_
        refine g_cast hx hb hown hC (RA.ch hR hlt) rfl (zc_X6_155 hC.1) dX6_costOfAll_25 ?_
        refine lv_iconst (v := 0) hx hb dX6_costOfAll_28 (by decide) ?_
        refine rc_V (As := [.ref (g.ad 8 (i)), .int (0)]) hx hb hml hown hC hl (c_X6_costOf l E hI hlt (0)) (rec_of hC (RA.x hR) rfl) (zm_X6_231 hC.1) kv_X6_costOf hR rfl rfl (rD_le (by decide) (by decide)) ⟨rfl, rfl⟩ (Nat.le_of_ble_eq_true rfl) ⟨Nat.zero_le _, Nat.zero_le _⟩ dX6_costOfAll_29 ?_
        refine lv_iadd hx hb dX6_costOfAll_32 ?_
        refine lv_istore_n (lv' := [(1, .int ((sm (costQ S) i) + (costA S (i) (0)))), (2, .int (nI i)), (0, .ref (g.ad 1 0))]) hx hb dX6_costOfAll_33 rfl hl (by decide) rfl (fun ls hl => ?_)
        refine lv_iinc (v := nI i + 1) (lv' := [(2, .int (nI i + 1)), (1, .int ((sm (costQ S) i) + (costA S (i) (0)))), (0, .ref (g.ad 1 0))]) hx hb dX6_costOfAll_34 hl (k := 1) rfl rfl (by decide) rfl (fun ls hl => ?_)
        refine lv_goto (tgt := 4) hx hb dX6_costOfAll_37 (by decide) ?_
        refine ih (i + 1) hlt (by omega) ls ?_
        rw [nI_succ i, sm_t (f := costQ S) rfl]
        exact lv_sub hl [0, 1, 2] rfl
  refine loop4 (S.nc + 1) 0 (Nat.zero_le _) (by omega) ls ?_
  exact lv_sub hl [0, 1, 2] rfl
set_option maxRecDepth 100000 in
set_option maxHeartbeats 4000000 in
theorem c_X6_mixed (l : Launch) (E : EE) {S : St} {g : Gh} (hI : Inv S) (a : Int64) (v : Int32) : RM l E yX6_mixed cX6_mixed 3 .long (rD 0) [.long (a), .int (v)] (RA E S g) (.long (a * 31 + v.toInt64)) := by
  refine rm_of rfl (Nat.le_of_ble_eq_true rfl) (fun p e s m below meth c ls hx hb hr hml (hown : s.vm.findClass RX6 = some m.cls) hC hlocks hR hl => ?_)
  have hl : lv_has ls 3 [(0, .long (a)), (2, .int (v))] := hl
  refine lv_lload_n hx hb dX6_mixed_0 rfl (lv_at hl 0 rfl) ?_
  refine lv_ldc2 hx hb hown (zl_X6_412 hC.1) dX6_mixed_1 ?_
  refine lv_lmul hx hb dX6_mixed_4 ?_
  refine lv_iload_n hx hb dX6_mixed_5 rfl (lv_at hl 1 rfl) ?_
  refine lv_i2l hx hb dX6_mixed_6 rfl ?_
  refine lv_ladd hx hb dX6_mixed_7 ?_
  exact rr_l hx hb hr hlocks rfl dX6_mixed_8
set_option maxRecDepth 100000 in
set_option maxHeartbeats 4000000 in
theorem c_X6_trustLostBy (l : Launch) (E : EE) {S : St} {g : Gh} (hI : Inv S) {c9 : Nat} (hc : c9 < S.nc) (e9 : Int32) : RM l E yX6_trustLostBy cX6_trustLostBy 6 .int (rD 1) [.ref (g.ad 1 0), .ref (g.ad 8 (c9)), .int (e9)] (RA E S g) (.int (lostA S c9 e9)) := by
  refine rm_of rfl (Nat.le_of_ble_eq_true rfl) (fun p e s m below meth c ls hx hb hr hml (hown : s.vm.findClass RX6 = some m.cls) hC hlocks hR hl => ?_)
  have hl : lv_has ls 6 [(0, .ref (g.ad 1 0)), (1, .ref (g.ad 8 (c9))), (2, .int (e9))] := hl
  refine lv_aload_n hx hb dX6_trustLostBy_0 rfl (lv_at hl 1 rfl) ?_
  refine gf_X0_6 hx hb hown hC (RA.ch hR hc) (zf_X6_220 hC.1) dX6_trustLostBy_1 ?_
  refine lv_bipush (v := 8) hx hb dX6_trustLostBy_4 (by decide) ?_
  refine lv_iadd hx hb dX6_trustLostBy_6 ?_
  refine lv_istore_n (lv' := [(3, .int ((nI (S.cd (c9))) + (8))), (0, .ref (g.ad 1 0)), (1, .ref (g.ad 8 (c9))), (2, .int (e9))]) hx hb dX6_trustLostBy_7 rfl hl (by decide) rfl (fun ls hl => ?_)
  refine lv_aload_n hx hb dX6_trustLostBy_8 rfl (lv_at hl 2 rfl) ?_
  refine gf_X0_6 hx hb hown hC (RA.ch hR hc) (zf_X6_220 hC.1) dX6_trustLostBy_9 ?_
  refine lv_bipush (v := 15) hx hb dX6_trustLostBy_12 (by decide) ?_
  refine lv_iadd hx hb dX6_trustLostBy_14 ?_
  refine lv_aload_n hx hb dX6_trustLostBy_15 rfl (lv_at hl 1 rfl) ?_
  refine gf_X6_8 hx hb hown hC (RA.x hR) (zf_X6_43 hC.1) dX6_trustLostBy_16 ?_
  refine lv_iconst (v := 1) hx hb dX6_trustLostBy_19 (by decide) ?_
  refine lv_iadd hx hb dX6_trustLostBy_20 ?_
  refine va_mmax hx hb (hml.trans hl.1.symm) hown (zm_X6_292 hC.1) (ztm_max hC.1) (znm hC.1) (zkm_max hC.1) (Nat.le_of_ble_eq_true rfl) (Nat.le_of_ble_eq_true rfl) (Nat.zero_le _) (Nat.zero_le _) dX6_trustLostBy_21 ?_
  refine lv_istore (lv' := [(4, .int (maxI ((nI (S.cd (c9))) + (15)) ((nI S.td) + (1)))), (3, .int ((nI (S.cd (c9))) + (8))), (0, .ref (g.ad 1 0)), (1, .ref (g.ad 8 (c9))), (2, .int (e9))]) hx hb dX6_trustLostBy_24 hl (by decide) rfl (fun ls hl => ?_)
  refine lv_iconst (v := 0) hx hb dX6_trustLostBy_26 (by decide) ?_
  refine lv_istore (lv' := [(5, .int (0)), (4, .int (maxI ((nI (S.cd (c9))) + (15)) ((nI S.td) + (1)))), (3, .int ((nI (S.cd (c9))) + (8))), (0, .ref (g.ad 1 0)), (1, .ref (g.ad 8 (c9))), (2, .int (e9))]) hx hb dX6_trustLostBy_27 hl (by decide) rfl (fun ls hl => ?_)
  refine lv_iload_n hx hb dX6_trustLostBy_29 rfl (lv_at hl 2 rfl) ?_
  refine lv_aload_n hx hb dX6_trustLostBy_30 rfl (lv_at hl 3 rfl) ?_
  refine gf_X6_8 hx hb hown hC (RA.x hR) (zf_X6_43 hC.1) dX6_trustLostBy_31 ?_
  refine lv_icmp_le (tgt := 45) hx hb dX6_trustLostBy_34 (by decide) (fun c_34 => ?_) (fun c_34 => ?_)
  ·
    refine lv_iload hx hb dX6_trustLostBy_45 (lv_at hl 1 rfl) ?_
    refine lv_iload_n hx hb dX6_trustLostBy_47 rfl (lv_at hl 5 rfl) ?_
    refine lv_icmp_gt (tgt := 54) hx hb dX6_trustLostBy_48 (by decide) (fun c_48 => ?_) (fun c_48 => ?_)
    ·
      refine lv_iload hx hb dX6_trustLostBy_54 (lv_at hl 0 rfl) ?_
      exact rr_i hx hb hr hlocks (by unfold lostA; rw [if_pos c_34, if_pos c_48]) dX6_trustLostBy_56
    ·
      refine lv_iinc (v := 0 + 1) (lv' := [(5, .int (0 + 1)), (4, .int (maxI ((nI (S.cd (c9))) + (15)) ((nI S.td) + (1)))), (3, .int ((nI (S.cd (c9))) + (8))), (0, .ref (g.ad 1 0)), (1, .ref (g.ad 8 (c9))), (2, .int (e9))]) hx hb dX6_trustLostBy_51 hl (k := 0) rfl rfl (by decide) rfl (fun ls hl => ?_)
      refine lv_iload hx hb dX6_trustLostBy_54 (lv_at hl 0 rfl) ?_
      exact rr_i hx hb hr hlocks (by unfold lostA; rw [if_pos c_34, if_neg c_48]) dX6_trustLostBy_56
  ·
    refine lv_iload_n hx hb dX6_trustLostBy_37 rfl (lv_at hl 2 rfl) ?_
    refine lv_iload_n hx hb dX6_trustLostBy_38 rfl (lv_at hl 5 rfl) ?_
    refine lv_icmp_gt (tgt := 45) hx hb dX6_trustLostBy_39 (by decide) (fun c_39 => ?_) (fun c_39 => ?_)
    ·
      refine lv_iload hx hb dX6_trustLostBy_45 (lv_at hl 1 rfl) ?_
      refine lv_iload_n hx hb dX6_trustLostBy_47 rfl (lv_at hl 5 rfl) ?_
      refine lv_icmp_gt (tgt := 54) hx hb dX6_trustLostBy_48 (by decide) (fun c_48 => ?_) (fun c_48 => ?_)
      ·
        refine lv_iload hx hb dX6_trustLostBy_54 (lv_at hl 0 rfl) ?_
        exact rr_i hx hb hr hlocks (by unfold lostA; rw [if_neg c_34, if_pos c_39, if_pos c_48]) dX6_trustLostBy_56
      ·
        refine lv_iinc (v := 0 + 1) (lv' := [(5, .int (0 + 1)), (4, .int (maxI ((nI (S.cd (c9))) + (15)) ((nI S.td) + (1)))), (3, .int ((nI (S.cd (c9))) + (8))), (0, .ref (g.ad 1 0)), (1, .ref (g.ad 8 (c9))), (2, .int (e9))]) hx hb dX6_trustLostBy_51 hl (k := 0) rfl rfl (by decide) rfl (fun ls hl => ?_)
        refine lv_iload hx hb dX6_trustLostBy_54 (lv_at hl 0 rfl) ?_
        exact rr_i hx hb hr hlocks (by unfold lostA; rw [if_neg c_34, if_pos c_39, if_neg c_48]) dX6_trustLostBy_56
    ·
      refine lv_iinc (v := 0 + 1) (lv' := [(5, .int (0 + 1)), (4, .int (maxI ((nI (S.cd (c9))) + (15)) ((nI S.td) + (1)))), (3, .int ((nI (S.cd (c9))) + (8))), (0, .ref (g.ad 1 0)), (1, .ref (g.ad 8 (c9))), (2, .int (e9))]) hx hb dX6_trustLostBy_42 hl (k := 0) rfl rfl (by decide) rfl (fun ls hl => ?_)
      refine lv_iload hx hb dX6_trustLostBy_45 (lv_at hl 1 rfl) ?_
      refine lv_iload_n hx hb dX6_trustLostBy_47 rfl (lv_at hl 5 rfl) ?_
      refine lv_icmp_gt (tgt := 54) hx hb dX6_trustLostBy_48 (by decide) (fun c_48 => ?_) (fun c_48 => ?_)
      ·
        refine lv_iload hx hb dX6_trustLostBy_54 (lv_at hl 0 rfl) ?_
        exact rr_i hx hb hr hlocks (by unfold lostA; rw [if_neg c_34, if_neg c_39, if_pos c_48]) dX6_trustLostBy_56
      ·
        refine lv_iinc (v := 0 + 1 + 1) (lv' := [(5, .int (0 + 1 + 1)), (4, .int (maxI ((nI (S.cd (c9))) + (15)) ((nI S.td) + (1)))), (3, .int ((nI (S.cd (c9))) + (8))), (0, .ref (g.ad 1 0)), (1, .ref (g.ad 8 (c9))), (2, .int (e9))]) hx hb dX6_trustLostBy_51 hl (k := 0) rfl rfl (by decide) rfl (fun ls hl => ?_)
        refine lv_iload hx hb dX6_trustLostBy_54 (lv_at hl 0 rfl) ?_
        exact rr_i hx hb hr hlocks (by unfold lostA; rw [if_neg c_34, if_neg c_39, if_neg c_48]) dX6_trustLostBy_56

