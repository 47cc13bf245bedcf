set_option maxRecDepth 100000 in
set_option maxHeartbeats 4000000 in
theorem c_X2_isAwayOn (l : Launch) (E : EE) {S : St} {g : Gh} (hI : Inv S) {i : Nat} (hi : i < S.np) (d : Int32) : RM l E yX2_isAwayOn cX2_isAwayOn 2 .boolean (rD 0) [.ref (g.ad 6 (i)), .int (d)] (RA E S g) (.int (awayA S i d)) := by
  refine rm_of rfl (Nat.le_of_ble_eq_true rfl) (fun p e s m below meth c ls hx hb hr hml (hown : s.vm.findClass RX2 = some m.cls) hC hlocks hR hl => ?_)
  have hl : lv_has ls 2 [(0, .ref (g.ad 6 (i))), (1, .int (d))] := hl
  refine lv_aload_n hx hb dX2_isAwayOn_0 rfl (lv_at hl 0 rfl) ?_
  refine gf_X2_4 hx hb hown hC (RA.pe hR hi) (zf_X2_18 hC.1) dX2_isAwayOn_1 ?_
  refine lv_iload_n hx hb dX2_isAwayOn_4 rfl (lv_at hl 1 rfl) ?_
  refine lv_icmp_lt (tgt := 12) hx hb dX2_isAwayOn_5 (by decide) (fun c_5 => ?_) (fun c_5 => ?_)
  ·
    refine lv_iconst (v := 0) hx hb dX2_isAwayOn_12 (by decide) ?_
    exact rr_z hx hb hr hlocks (by decide) (by unfold awayA; rw [if_pos c_5]) dX2_isAwayOn_13
  ·
    refine lv_iconst (v := 1) hx hb dX2_isAwayOn_8 (by decide) ?_
    refine lv_goto (tgt := 13) hx hb dX2_isAwayOn_9 (by decide) ?_
    exact rr_z hx hb hr hlocks (by decide) (by unfold awayA; rw [if_neg c_5]) dX2_isAwayOn_13
set_option maxRecDepth 100000 in
set_option maxHeartbeats 4000000 in
theorem c_X6_countOpenOf (l : Launch) (E : EE) {S : St} {g : Gh} (hI : Inv S) {p9 : Nat} (hp : p9 < S.np) : RM l E yX6_countOpenOf cX6_countOpenOf 5 .int (rD 3) [.ref (g.ad 1 0), .ref (g.ad 6 (p9))] (RA E S g) (.int (openA S p9)) := by
  refine rm_of rfl (Nat.le_of_ble_eq_true rfl) (fun p e s m below meth c ls hx hb hr hml (hown : s.vm.findClass RX6 = some m.cls) hC hlocks hR hl => ?_)
  have hl : lv_has ls 5 [(0, .ref (g.ad 1 0)), (1, .ref (g.ad 6 (p9)))] := hl
  refine lv_iconst (v := 0) hx hb dX6_countOpenOf_0 (by decide) ?_
  refine lv_istore_n (lv' := [(2, .int (0)), (0, .ref (g.ad 1 0)), (1, .ref (g.ad 6 (p9)))]) hx hb dX6_countOpenOf_1 rfl hl (by decide) rfl (fun ls hl => ?_)
  refine lv_iconst (v := 0) hx hb dX6_countOpenOf_2 (by decide) ?_
  refine lv_istore_n (lv' := [(3, .int (0)), (2, .int (0)), (0, .ref (g.ad 1 0)), (1, .ref (g.ad 6 (p9)))]) hx hb dX6_countOpenOf_3 rfl hl (by decide) rfl (fun ls hl => ?_)
  have loop4 : ∀ (n i : Nat), i ≤ S.nc → S.nc < i + n → ∀ ls, lv_has ls 5 [(3, .int (nI i)), (2, .int (sm (openQ S p9) i)), (0, .ref (g.ad 1 0)), (1, .ref (g.ad 6 (p9)))] → W p l e (rD 3) s m ([.ref (g.ad 1 0), .ref (g.ad 6 (p9))] : List Value).toArray below meth c s.heap [] 0 0 (MQ below (RQ (.int (openA S p9))) ([.ref (g.ad 1 0), .ref (g.ad 6 (p9))] : List Value).toArray s 0 0 (fun _ => False)) (F0 m 4 ls []) := by
    intro n
    induction n with
    | zero => intro i h1 h2; exact absurd h2 (by omega)
    | succ n ih =>
      intro i hi hin ls hl
      refine lv_iload_n hx hb dX6_countOpenOf_4 rfl (lv_at hl 0 rfl) ?_
      refine lv_aload_n hx hb dX6_countOpenOf_5 rfl (lv_at hl 2 rfl) ?_
      refine gf_X6_2 hx hb hown hC (RA.x hR) (zf_X6_19 hC.1) dX6_countOpenOf_6 ?_
      refine rc_V (As := []) hx hb hml hown hC hl (c_size l E _ _ _ _) (rec_of hC (RA.ls hR (by decide : 2 < 4)) rfl) (zm_X6_51 hC.1) kv_Jx4a65c_size_8abf5 (RA.ls hR (by decide : 2 < 4)) rfl rfl (rD_le (by decide) (by decide)) ⟨rfl, rfl⟩ (Nat.le_of_ble_eq_true rfl) ⟨Nat.zero_le _, Nat.zero_le _⟩ dX6_countOpenOf_9 ?_
      refine lv_icmp_ge (tgt := 54) hx hb dX6_countOpenOf_12 (by decide) (fun c_12 => ?_) (fun c_12 => ?_)
      ·
        have hi := ge_in c_12 hi hI.nc31
        subst hi
        refine lv_iload_n hx hb dX6_countOpenOf_54 rfl (lv_at hl 1 rfl) ?_
        exact rr_i hx hb hr hlocks rfl dX6_countOpenOf_55
      ·
        have hlt := ge_out c_12 hi hI.nc31
        refine lv_aload_n hx hb dX6_countOpenOf_15 rfl (lv_at hl 2 rfl) ?_
        refine gf_X6_2 hx hb hown hC (RA.x hR) (zf_X6_19 hC.1) dX6_countOpenOf_16 ?_
        refine lv_iload_n hx hb dX6_countOpenOf_19 rfl (lv_at hl 0 rfl) ?_
        refine rc_V (As := [.int (nI i)]) hx hb hml hown hC hl (c_getL l E 2 rfl hR (by decide) hlt) (rec_of hC (RA.ls hR (by decide : 2 < 4)) rfl) (zm_X6_253 hC.1) kv_Jx4a65c_get_915e3 (RA.gp hR 2 (by decide) hlt) rfl rfl (rD_le (by decide) (by decide)) ⟨rfl, rfl⟩ (Nat.le_of_ble_eq_true rfl) ⟨Nat.zero_le _, Nat.zero_le _⟩ dX6_countOpenOf_20 ?_
        refine g_cast hx hb hown hC (RA.ch hR hlt) rfl (zc_X6_155 hC.1) dX6_countOpenOf_23 ?_
        refine lv_astore (lv' := [(4, .ref (g.ad 8 (i))), (3, .int (nI i)), (2, .int (sm (openQ S p9) i)), (0, .ref (g.ad 1 0)), (1, .ref (g.ad 6 (p9)))]) hx hb dX6_countOpenOf_26 hl (by decide) rfl (fun ls hl => ?_)
        refine lv_aload hx hb dX6_countOpenOf_28 (lv_at hl 0 rfl) ?_
        refine gf_X0_1 hx hb hown hC (RA.ch hR hlt) (zf_X6_211 hC.1) dX6_countOpenOf_30 ?_
        refine lv_aload_n hx hb dX6_countOpenOf_33 rfl (lv_at hl 4 rfl) ?_
        refine lw_acmp_ne (i := S.cp (i)) (j := p9) (tgt := 48) hx hb (RA.iff hR 6 (hI.cp hlt) hp) dX6_countOpenOf_34 (by decide) (fun c_34 => ?_) (fun c_34 => ?_)
        ·
          refine lv_iinc (v := nI i + 1) (lv' := [(3, .int (nI i + 1)), (4, .ref (g.ad 8 (i))), (2, .int (sm (openQ S p9) i)), (0, .ref (g.ad 1 0)), (1, .ref (g.ad 6 (p9)))]) hx hb dX6_countOpenOf_48 hl (k := 1) rfl rfl (by decide) rfl (fun ls hl => ?_)
          refine lv_goto (tgt := 4) hx hb dX6_countOpenOf_51 (by decide) ?_
          refine ih (i + 1) hlt (by omega) ls ?_
          rw [nI_succ i, sm_z (f := openQ S p9) (by unfold openQ; rw [if_neg c_34])]
          exact lv_sub hl [0, 2, 3, 4] rfl
        ·
          refine lv_aload hx hb dX6_countOpenOf_37 (lv_at hl 0 rfl) ?_
          refine gf_X0_8 hx hb hown hC (RA.ch hR hlt) (zf_X6_197 hC.1) dX6_countOpenOf_39 ?_
          refine lv_if_ne (tgt := 48) hx hb dX6_countOpenOf_42 (by decide) (fun c_42 => ?_) (fun c_42 => ?_)
          ·
            refine lv_iinc (v := nI i + 1) (lv' := [(3, .int (nI i + 1)), (4, .ref (g.ad 8 (i))), (2, .int (sm (openQ S p9) i)), (0, .ref (g.ad 1 0)), (1, .ref (g.ad 6 (p9)))]) hx hb dX6_countOpenOf_48 hl (k := 1) rfl rfl (by decide) rfl (fun ls hl => ?_)
            refine lv_goto (tgt := 4) hx hb dX6_countOpenOf_51 (by decide) ?_
            refine ih (i + 1) hlt (by omega) ls ?_
            rw [nI_succ i, sm_z (f := openQ S p9) (by unfold openQ; rw [if_pos c_34, if_neg c_42])]
            exact lv_sub hl [0, 2, 3, 4] rfl
          ·
            refine lv_iinc (v := sm (openQ S p9) i + 1) (lv' := [(2, .int (sm (openQ S p9) i + 1)), (4, .ref (g.ad 8 (i))), (3, .int (nI i)), (0, .ref (g.ad 1 0)), (1, .ref (g.ad 6 (p9)))]) hx hb dX6_countOpenOf_45 hl (k := 2) rfl rfl (by decide) rfl (fun ls hl => ?_)
            refine lv_iinc (v := nI i + 1) (lv' := [(3, .int (nI i + 1)), (2, .int (sm (openQ S p9) i + 1)), (4, .ref (g.ad 8 (i))), (0, .ref (g.ad 1 0)), (1, .ref (g.ad 6 (p9)))]) hx hb dX6_countOpenOf_48 hl (k := 2) rfl rfl (by decide) rfl (fun ls hl => ?_)
            refine lv_goto (tgt := 4) hx hb dX6_countOpenOf_51 (by decide) ?_
            refine ih (i + 1) hlt (by omega) ls ?_
            rw [nI_succ i, sm_t (f := openQ S p9) (by unfold openQ; rw [if_pos c_34, if_pos c_42])]
            exact lv_sub hl [0, 1, 3, 4] rfl
  refine loop4 (S.nc + 1) 0 (Nat.zero_le _) (by omega) ls ?_
  exact lv_sub hl [0, 1, 2, 3] rfl
set_option maxRecDepth 100000 in
set_option maxHeartbeats 4000000 in
theorem c_X6_repaidAmountOf (l : Launch) (E : EE) {S : St} {g : Gh} (hI : Inv S) {p9 : Nat} (hp : p9 < S.np) : RM l E yX6_repaidAmountOf cX6_repaidAmountOf 5 .int (rD 3) [.ref (g.ad 1 0), .ref (g.ad 6 (p9))] (RA E S g) (.int (repA S p9)) := by
  refine rm_of rfl (Nat.le_of_ble_eq_true rfl) (fun p e s m below meth c ls hx hb hr hml (hown : s.vm.findClass RX6 = some m.cls) hC hlocks hR hl => ?_)
  have hl : lv_has ls 5 [(0, .ref (g.ad 1 0)), (1, .ref (g.ad 6 (p9)))] := hl
  refine lv_iconst (v := 0) hx hb dX6_repaidAmountOf_0 (by decide) ?_
  refine lv_istore_n (lv' := [(2, .int (0)), (0, .ref (g.ad 1 0)), (1, .ref (g.ad 6 (p9)))]) hx hb dX6_repaidAmountOf_1 rfl hl (by decide) rfl (fun ls hl => ?_)
  refine lv_iconst (v := 0) hx hb dX6_repaidAmountOf_2 (by decide) ?_
  refine lv_istore_n (lv' := [(3, .int (0)), (2, .int (0)), (0, .ref (g.ad 1 0)), (1, .ref (g.ad 6 (p9)))]) hx hb dX6_repaidAmountOf_3 rfl hl (by decide) rfl (fun ls hl => ?_)
  have loop4 : ∀ (n i : Nat), i ≤ S.nc → S.nc < i + n → ∀ ls, lv_has ls 5 [(3, .int (nI i)), (2, .int (sm (repQ S p9) i)), (0, .ref (g.ad 1 0)), (1, .ref (g.ad 6 (p9)))] → W p l e (rD 3) s m ([.ref (g.ad 1 0), .ref (g.ad 6 (p9))] : List Value).toArray below meth c s.heap [] 0 0 (MQ below (RQ (.int (repA S p9))) ([.ref (g.ad 1 0), .ref (g.ad 6 (p9))] : List Value).toArray s 0 0 (fun _ => False)) (F0 m 4 ls []) := by
    intro n
    induction n with
    | zero => intro i h1 h2; exact absurd h2 (by omega)
    | succ n ih =>
      intro i hi hin ls hl
      refine lv_iload_n hx hb dX6_repaidAmountOf_4 rfl (lv_at hl 0 rfl) ?_
      refine lv_aload_n hx hb dX6_repaidAmountOf_5 rfl (lv_at hl 2 rfl) ?_
      refine gf_X6_2 hx hb hown hC (RA.x hR) (zf_X6_19 hC.1) dX6_repaidAmountOf_6 ?_
      refine rc_V (As := []) hx hb hml hown hC hl (c_size l E _ _ _ _) (rec_of hC (RA.ls hR (by decide : 2 < 4)) rfl) (zm_X6_51 hC.1) kv_Jx4a65c_size_8abf5 (RA.ls hR (by decide : 2 < 4)) rfl rfl (rD_le (by decide) (by decide)) ⟨rfl, rfl⟩ (Nat.le_of_ble_eq_true rfl) ⟨Nat.zero_le _, Nat.zero_le _⟩ dX6_repaidAmountOf_9 ?_
      refine lv_icmp_ge (tgt := 60) hx hb dX6_repaidAmountOf_12 (by decide) (fun c_12 => ?_) (fun c_12 => ?_)
      ·
        have hi := ge_in c_12 hi hI.nc31
        subst hi
        refine lv_iload_n hx hb dX6_repaidAmountOf_60 rfl (lv_at hl 1 rfl) ?_
        exact rr_i hx hb hr hlocks rfl dX6_repaidAmountOf_61
      ·
        have hlt := ge_out c_12 hi hI.nc31
        refine lv_aload_n hx hb dX6_repaidAmountOf_15 rfl (lv_at hl 2 rfl) ?_
        refine gf_X6_2 hx hb hown hC (RA.x hR) (zf_X6_19 hC.1) dX6_repaidAmountOf_16 ?_
        refine lv_iload_n hx hb dX6_repaidAmountOf_19 rfl (lv_at hl 0 rfl) ?_
        refine rc_V (As := [.int (nI i)]) hx hb hml hown hC hl (c_getL l E 2 rfl hR (by decide) hlt) (rec_of hC (RA.ls hR (by decide : 2 < 4)) rfl) (zm_X6_253 hC.1) kv_Jx4a65c_get_915e3 (RA.gp hR 2 (by decide) hlt) rfl rfl (rD_le (by decide) (by decide)) ⟨rfl, rfl⟩ (Nat.le_of_ble_eq_true rfl) ⟨Nat.zero_le _, Nat.zero_le _⟩ dX6_repaidAmountOf_20 ?_
        refine g_cast hx hb hown hC (RA.ch hR hlt) rfl (zc_X6_155 hC.1) dX6_repaidAmountOf_23 ?_
        refine lv_astore (lv' := [(4, .ref (g.ad 8 (i))), (3, .int (nI i)), (2, .int (sm (repQ S p9) i)), (0, .ref (g.ad 1 0)), (1, .ref (g.ad 6 (p9)))]) hx hb dX6_repaidAmountOf_26 hl (by decide) rfl (fun ls hl => ?_)
        refine lv_aload hx hb dX6_repaidAmountOf_28 (lv_at hl 0 rfl) ?_
        refine gf_X0_1 hx hb hown hC (RA.ch hR hlt) (zf_X6_211 hC.1) dX6_repaidAmountOf_30 ?_
        refine lv_aload_n hx hb dX6_repaidAmountOf_33 rfl (lv_at hl 4 rfl) ?_
        refine lw_acmp_ne (i := S.cp (i)) (j := p9) (tgt := 54) hx hb (RA.iff hR 6 (hI.cp hlt) hp) dX6_repaidAmountOf_34 (by decide) (fun c_34 => ?_) (fun c_34 => ?_)
        ·
          refine lv_iinc (v := nI i + 1) (lv' := [(3, .int (nI i + 1)), (4, .ref (g.ad 8 (i))), (2, .int (sm (repQ S p9) i)), (0, .ref (g.ad 1 0)), (1, .ref (g.ad 6 (p9)))]) hx hb dX6_repaidAmountOf_54 hl (k := 1) rfl rfl (by decide) rfl (fun ls hl => ?_)
          refine lv_goto (tgt := 4) hx hb dX6_repaidAmountOf_57 (by decide) ?_
          refine ih (i + 1) hlt (by omega) ls ?_
          rw [nI_succ i, sm_z (f := repQ S p9) (by unfold repQ; rw [if_neg c_34])]
          exact lv_sub hl [0, 2, 3, 4] rfl
        ·
          refine lv_aload hx hb dX6_repaidAmountOf_37 (lv_at hl 0 rfl) ?_
          refine gf_X0_8 hx hb hown hC (RA.ch hR hlt) (zf_X6_197 hC.1) dX6_repaidAmountOf_39 ?_
          refine lv_iconst (v := 3) hx hb dX6_repaidAmountOf_42 (by decide) ?_
          refine lv_icmp_ne (tgt := 54) hx hb dX6_repaidAmountOf_43 (by decide) (fun c_43 => ?_) (fun c_43 => ?_)
          ·
            refine lv_iinc (v := nI i + 1) (lv' := [(3, .int (nI i + 1)), (4, .ref (g.ad 8 (i))), (2, .int (sm (repQ S p9) i)), (0, .ref (g.ad 1 0)), (1, .ref (g.ad 6 (p9)))]) hx hb dX6_repaidAmountOf_54 hl (k := 1) rfl rfl (by decide) rfl (fun ls hl => ?_)
            refine lv_goto (tgt := 4) hx hb dX6_repaidAmountOf_57 (by decide) ?_
            refine ih (i + 1) hlt (by omega) ls ?_
            rw [nI_succ i, sm_z (f := repQ S p9) (by unfold repQ; rw [if_pos c_34, if_neg c_43])]
            exact lv_sub hl [0, 2, 3, 4] rfl
          ·
            refine lv_iload_n hx hb dX6_repaidAmountOf_46 rfl (lv_at hl 2 rfl) ?_
            refine lv_aload hx hb dX6_repaidAmountOf_47 (lv_at hl 0 rfl) ?_
            refine gf_X0_4 hx hb hown hC (RA.ch hR hlt) (zf_X6_217 hC.1) dX6_repaidAmountOf_49 ?_
            refine lv_iadd hx hb dX6_repaidAmountOf_52 ?_
            refine lv_istore_n (lv' := [(2, .int ((sm (repQ S p9) i) + (S.ca (i)))), (4, .ref (g.ad 8 (i))), (3, .int (nI i)), (0, .ref (g.ad 1 0)), (1, .ref (g.ad 6 (p9)))]) hx hb dX6_repaidAmountOf_53 rfl hl (by decide) rfl (fun ls hl => ?_)
            refine lv_iinc (v := nI i + 1) (lv' := [(3, .int (nI i + 1)), (2, .int ((sm (repQ S p9) i) + (S.ca (i)))), (4, .ref (g.ad 8 (i))), (0, .ref (g.ad 1 0)), (1, .ref (g.ad 6 (p9)))]) hx hb dX6_repaidAmountOf_54 hl (k := 2) rfl rfl (by decide) rfl (fun ls hl => ?_)
            refine lv_goto (tgt := 4) hx hb dX6_repaidAmountOf_57 (by decide) ?_
            refine ih (i + 1) hlt (by omega) ls ?_
            rw [nI_succ i, sm_t (f := repQ S p9) (by unfold repQ; rw [if_pos c_34, if_pos c_43])]
            exact lv_sub hl [0, 1, 3, 4] rfl
  refine loop4 (S.nc + 1) 0 (Nat.zero_le _) (by omega) ls ?_
  exact lv_sub hl [0, 1, 2, 3] rfl
set_option maxRecDepth 100000 in
set_option maxHeartbeats 4000000 in
theorem c_X6_countInState (l : Launch) (E : EE) {S : St} {g : Gh} (hI : Inv S) (st : Int32) : RM l E yX6_countInState cX6_countInState 4 .int (rD 3) [.ref (g.ad 1 0), .int (st)] (RA E S g) (.int (inA S st)) := by
  refine rm_of rfl (Nat.le_of_ble_eq_true rfl) (fun p e s m below meth c ls hx hb hr hml (hown : s.vm.findClass RX6 = some m.cls) hC hlocks hR hl => ?_)
  have hl : lv_has ls 4 [(0, .ref (g.ad 1 0)), (1, .int (st))] := hl
  refine lv_iconst (v := 0) hx hb dX6_countInState_0 (by decide) ?_
  refine lv_istore_n (lv' := [(2, .int (0)), (0, .ref (g.ad 1 0)), (1, .int (st))]) hx hb dX6_countInState_1 rfl hl (by decide) rfl (fun ls hl => ?_)
  refine lv_iconst (v := 0) hx hb dX6_countInState_2 (by decide) ?_
  refine lv_istore_n (lv' := [(3, .int (0)), (2, .int (0)), (0, .ref (g.ad 1 0)), (1, .int (st))]) hx hb dX6_countInState_3 rfl hl (by decide) rfl (fun ls hl => ?_)
  have loop4 : ∀ (n i : Nat), i ≤ S.nc → S.nc < i + n → ∀ ls, lv_has ls 4 [(3, .int (nI i)), (2, .int (sm (inQ S st) i)), (0, .ref (g.ad 1 0)), (1, .int (st))] → W p l e (rD 3) s m ([.ref (g.ad 1 0), .int (st)] : List Value).toArray below meth c s.heap [] 0 0 (MQ below (RQ (.int (inA S st))) ([.ref (g.ad 1 0), .int (st)] : List Value).toArray s 0 0 (fun _ => False)) (F0 m 4 ls []) := by
    intro n
    induction n with
    | zero => intro i h1 h2; exact absurd h2 (by omega)
    | succ n ih =>
      intro i hi hin ls hl
      refine lv_iload_n hx hb dX6_countInState_4 rfl (lv_at hl 0 rfl) ?_
      refine lv_aload_n hx hb dX6_countInState_5 rfl (lv_at hl 2 rfl) ?_
      refine gf_X6_2 hx hb hown hC (RA.x hR) (zf_X6_19 hC.1) dX6_countInState_6 ?_
      refine rc_V (As := []) hx hb hml hown hC hl (c_size l E _ _ _ _) (rec_of hC (RA.ls hR (by decide : 2 < 4)) rfl) (zm_X6_51 hC.1) kv_Jx4a65c_size_8abf5 (RA.ls hR (by decide : 2 < 4)) rfl rfl (rD_le (by decide) (by decide)) ⟨rfl, rfl⟩ (Nat.le_of_ble_eq_true rfl) ⟨Nat.zero_le _, Nat.zero_le _⟩ dX6_countInState_9 ?_
      refine lv_icmp_ge (tgt := 42) hx hb dX6_countInState_12 (by decide) (fun c_12 => ?_) (fun c_12 => ?_)
      ·
        have hi := ge_in c_12 hi hI.nc31
        subst hi
        refine lv_iload_n hx hb dX6_countInState_42 rfl (lv_at hl 1 rfl) ?_
        exact rr_i hx hb hr hlocks rfl dX6_countInState_43
      ·
        have hlt := ge_out c_12 hi hI.nc31
        refine lv_aload_n hx hb dX6_countInState_15 rfl (lv_at hl 2 rfl) ?_
        refine gf_X6_2 hx hb hown hC (RA.x hR) (zf_X6_19 hC.1) dX6_countInState_16 ?_
        refine lv_iload_n hx hb dX6_countInState_19 rfl (lv_at hl 0 rfl) ?_
        refine rc_V (As := [.int (nI i)]) hx hb hml hown hC hl (c_getL l E 2 rfl hR (by decide) hlt) (rec_of hC (RA.ls hR (by decide : 2 < 4)) rfl) (zm_X6_253 hC.1) kv_Jx4a65c_get_915e3 (RA.gp hR 2 (by decide) hlt) rfl rfl (rD_le (by decide) (by decide)) ⟨rfl, rfl⟩ (Nat.le_of_ble_eq_true rfl) ⟨Nat.zero_le _, Nat.zero_le _⟩ dX6_countInState_20 ?_
        refine g_cast hx hb hown hC (RA.ch hR hlt) rfl (zc_X6_155 hC.1) dX6_countInState_23 ?_
        refine gf_X0_8 hx hb hown hC (RA.ch hR hlt) (zf_X6_197 hC.1) dX6_countInState_26 ?_
        refine lv_iload_n hx hb dX6_countInState_29 rfl (lv_at hl 3 rfl) ?_
        refine lv_icmp_ne (tgt := 36) hx hb dX6_countInState_30 (by decide) (fun c_30 => ?_) (fun c_30 => ?_)
        ·
          refine lv_iinc (v := nI i + 1) (lv' := [(3, .int (nI i + 1)), (2, .int (sm (inQ S st) i)), (0, .ref (g.ad 1 0)), (1, .int (st))]) hx hb dX6_countInState_36 hl (k := 0) rfl rfl (by decide) rfl (fun ls hl => ?_)
          refine lv_goto (tgt := 4) hx hb dX6_countInState_39 (by decide) ?_
          refine ih (i + 1) hlt (by omega) ls ?_
          rw [nI_succ i, sm_z (f := inQ S st) (by unfold inQ; rw [if_neg c_30])]
          exact lv_sub hl [0, 1, 2, 3] rfl
        ·
          refine lv_iinc (v := sm (inQ S st) i + 1) (lv' := [(2, .int (sm (inQ S st) i + 1)), (3, .int (nI i)), (0, .ref (g.ad 1 0)), (1, .int (st))]) hx hb dX6_countInState_33 hl (k := 1) rfl rfl (by decide) rfl (fun ls hl => ?_)
          refine lv_iinc (v := nI i + 1) (lv' := [(3, .int (nI i + 1)), (2, .int (sm (inQ S st) i + 1)), (0, .ref (g.ad 1 0)), (1, .int (st))]) hx hb dX6_countInState_36 hl (k := 1) rfl rfl (by decide) rfl (fun ls hl => ?_)
          refine lv_goto (tgt := 4) hx hb dX6_countInState_39 (by decide) ?_
          refine ih (i + 1) hlt (by omega) ls ?_
          rw [nI_succ i, sm_t (f := inQ S st) (by unfold inQ; rw [if_pos c_30])]
          exact lv_sub hl [0, 1, 2, 3] rfl
  refine loop4 (S.nc + 1) 0 (Nat.zero_le _) (by omega) ls ?_
  exact lv_sub hl [0, 1, 2, 3] rfl
