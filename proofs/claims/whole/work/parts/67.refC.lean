set_option maxRecDepth 100000 in
set_option maxHeartbeats 4000000 in
theorem c_X8_in (l : Launch) (E : EE) {S : St} {th : Int32} {g : Gh} (hI : Inv S) (st : Int32) : RM l E yX8_in cX8_in 4 .int (rD 3) [.ref (g.ad 12 0), .int (st)] (RB E S th g) (.int (inA S st)) := by
  refine rm_of rfl (Nat.le_of_ble_eq_true rfl) (fun p e s m below meth c ls hx hb hr hml (hown : s.vm.findClass RX8 = some m.cls) hC hlocks hR hl => ?_)
  have hl : lv_has ls 4 [(0, .ref (g.ad 12 0)), (1, .int (st))] := hl
  refine lv_iconst (v := 0) hx hb dX8_in_0 (by decide) ?_
  refine lv_istore_n (lv' := [(2, .int (0)), (0, .ref (g.ad 12 0)), (1, .int (st))]) hx hb dX8_in_1 rfl hl (by decide) rfl (fun ls hl => ?_)
  refine lv_iconst (v := 0) hx hb dX8_in_2 (by decide) ?_
  refine lv_istore_n (lv' := [(3, .int (0)), (2, .int (0)), (0, .ref (g.ad 12 0)), (1, .int (st))]) hx hb dX8_in_3 rfl hl (by decide) rfl (fun ls hl => ?_)
  have loop4 : ∀ (r4 i : Nat), i + r4 = S.nc → ∀ ls, lv_has ls 4 [(3, .int (nI (i))), (2, .int (sm (inQ S st) i)), (0, .ref (g.ad 12 0)), (1, .int (st))] → W p l e (rD 3) s m ([.ref (g.ad 12 0), .int (st)] : List Value).toArray below meth c s.heap [] 0 0 (MQ below (RQ (.int (inA S st))) ([.ref (g.ad 12 0), .int (st)] : List Value).toArray s 0 0 (fun _ => False)) (F0 m 4 ls []) := by
    intro r4
    induction r4 with
    | zero =>
      intro i hE4 ls hl
      have hN4 : i = S.nc := by omega
      subst hN4
      refine lv_iload_n hx hb dX8_in_4 rfl (lv_at hl 0 rfl) ?_
      refine lv_aload_n hx hb dX8_in_5 rfl (lv_at hl 2 rfl) ?_
      refine gf_X8_2 hx hb hown hC (RB.dk hR) (zf_X8_21 hC.1) dX8_in_6 ?_
      refine rc_V (As := []) hx hb hml hown hC hl (c_size l E _ _ _ _) (rec_of hC (RB.ls hR (by decide : 2 < 4)) rfl) (zm_X8_52 hC.1) kv_Jx4a65c_size_8abf5 (RB.ls hR (by decide : 2 < 4)) rfl rfl (rD_le (by decide) (by decide)) ⟨rfl, rfl⟩ (Nat.le_of_ble_eq_true rfl) ⟨Nat.zero_le _, Nat.zero_le _⟩ dX8_in_9 ?_
      refine lv_icmp_ge (tgt := 47) hx hb dX8_in_12 (by decide) (fun c_12 => ?_) (fun c_12 => ?_)
      ·
        refine lv_iload_n hx hb dX8_in_47 rfl (lv_at hl 1 rfl) ?_
        exact rr_i hx hb hr hlocks rfl dX8_in_48
      · exact absurd (Int32.le_refl _) c_12
    | succ r4 ih4 =>
      intro i hE4 ls hl
      have hlt4 : i < S.nc := by omega
      refine lv_iload_n hx hb dX8_in_4 rfl (lv_at hl 0 rfl) ?_
      refine lv_aload_n hx hb dX8_in_5 rfl (lv_at hl 2 rfl) ?_
      refine gf_X8_2 hx hb hown hC (RB.dk hR) (zf_X8_21 hC.1) dX8_in_6 ?_
      refine rc_V (As := []) hx hb hml hown hC hl (c_size l E _ _ _ _) (rec_of hC (RB.ls hR (by decide : 2 < 4)) rfl) (zm_X8_52 hC.1) kv_Jx4a65c_size_8abf5 (RB.ls hR (by decide : 2 < 4)) rfl rfl (rD_le (by decide) (by decide)) ⟨rfl, rfl⟩ (Nat.le_of_ble_eq_true rfl) ⟨Nat.zero_le _, Nat.zero_le _⟩ dX8_in_9 ?_
      refine lv_icmp_ge (tgt := 47) hx hb dX8_in_12 (by decide) (fun c_12 => ?_) (fun c_12 => ?_)
      · exact absurd c_12 (nI_ge hlt4 hI.nc31)
      ·
        refine lv_iload_n hx hb dX8_in_15 rfl (lv_at hl 1 rfl) ?_
        refine lv_aload_n hx hb dX8_in_16 rfl (lv_at hl 2 rfl) ?_
        refine gf_X8_2 hx hb hown hC (RB.dk hR) (zf_X8_21 hC.1) dX8_in_17 ?_
        refine lv_iload_n hx hb dX8_in_20 rfl (lv_at hl 0 rfl) ?_
        refine rc_V (As := [.int (nI (i))]) hx hb hml hown hC hl (c_getLB l E 2 rfl hR (by decide) hlt4) (rec_of hC (RB.ls hR (by decide : 2 < 4)) rfl) (zm_X8_39 hC.1) kv_Jx4a65c_get_915e3 (RB.gp hR 2 (by decide) hlt4) rfl rfl (rD_le (by decide) (by decide)) ⟨rfl, rfl⟩ (Nat.le_of_ble_eq_true rfl) ⟨Nat.zero_le _, Nat.zero_le _⟩ dX8_in_21 ?_
        refine g_cast hx hb hown hC (RB.ch hR hlt4) rfl (zc_X8_83 hC.1) dX8_in_24 ?_
        refine gf_X7_8 hx hb hown hC (RB.ch hR hlt4) (zf_X8_101 hC.1) dX8_in_27 ?_
        refine lv_iload_n hx hb dX8_in_30 rfl (lv_at hl 3 rfl) ?_
        refine lv_icmp_ne (tgt := 38) hx hb dX8_in_31 (by decide) (fun c_31 => ?_) (fun c_31 => ?_)
        ·
          refine lv_iconst (v := 0) hx hb dX8_in_38 (by decide) ?_
          refine lv_iadd hx hb dX8_in_39 ?_
          refine lv_istore_n (lv' := [(2, .int ((sm (inQ S st) i) + (0))), (3, .int (nI (i))), (0, .ref (g.ad 12 0)), (1, .int (st))]) hx hb dX8_in_40 rfl hl (by decide) rfl (fun ls hl => ?_)
          refine lv_iinc (v := nI (i) + 1) (lv' := [(3, .int (nI (i) + 1)), (2, .int ((sm (inQ S st) i) + (0))), (0, .ref (g.ad 12 0)), (1, .int (st))]) hx hb dX8_in_41 hl (k := 1) rfl rfl (by decide) rfl (fun ls hl => ?_)
          refine lv_goto (tgt := 4) hx hb dX8_in_44 (by decide) ?_
          refine ih4 (i + 1) (by omega) ls ?_
          rw [nI_succ i, sm_t (f := inQ S st) (by unfold inQ; rw [if_neg c_31])]
          exact lv_sub hl [0, 1, 2, 3] rfl
        ·
          refine lv_iconst (v := 1) hx hb dX8_in_34 (by decide) ?_
          refine lv_goto (tgt := 39) hx hb dX8_in_35 (by decide) ?_
          refine lv_iadd hx hb dX8_in_39 ?_
          refine lv_istore_n (lv' := [(2, .int ((sm (inQ S st) i) + (1))), (3, .int (nI (i))), (0, .ref (g.ad 12 0)), (1, .int (st))]) hx hb dX8_in_40 rfl hl (by decide) rfl (fun ls hl => ?_)
          refine lv_iinc (v := nI (i) + 1) (lv' := [(3, .int (nI (i) + 1)), (2, .int ((sm (inQ S st) i) + (1))), (0, .ref (g.ad 12 0)), (1, .int (st))]) hx hb dX8_in_41 hl (k := 1) rfl rfl (by decide) rfl (fun ls hl => ?_)
          refine lv_goto (tgt := 4) hx hb dX8_in_44 (by decide) ?_
          refine ih4 (i + 1) (by omega) ls ?_
          rw [nI_succ i, sm_t (f := inQ S st) (by unfold inQ; rw [if_pos c_31])]
          exact lv_sub hl [0, 1, 2, 3] rfl
  exact loop4 (S.nc) 0 (by omega) ls (lv_sub hl [0, 1, 2, 3] rfl)
set_option maxRecDepth 100000 in
set_option maxHeartbeats 4000000 in
theorem c_X12_openOf (l : Launch) (E : EE) {S : St} {th : Int32} {g : Gh} (hI : Inv S) {p9 : Nat} (hp : p9 < S.np) : RM l E yX12_openOf cX12_openOf 4 .int (rD 3) [.ref (g.ad 1 0), .int (nI p9)] (RB E S th g) (.int (openA S p9)) := by
  refine rm_of rfl (Nat.le_of_ble_eq_true rfl) (fun p e s m below meth c ls hx hb hr hml (hown : s.vm.findClass RX12 = some m.cls) hC hlocks hR hl => ?_)
  have hl : lv_has ls 4 [(0, .ref (g.ad 1 0)), (1, .int (nI p9))] := hl
  refine lv_iconst (v := 0) hx hb dX12_openOf_0 (by decide) ?_
  refine lv_istore_n (lv' := [(2, .int (0)), (0, .ref (g.ad 1 0)), (1, .int (nI p9))]) hx hb dX12_openOf_1 rfl hl (by decide) rfl (fun ls hl => ?_)
  refine lv_iconst (v := 0) hx hb dX12_openOf_2 (by decide) ?_
  refine lv_istore_n (lv' := [(3, .int (0)), (2, .int (0)), (0, .ref (g.ad 1 0)), (1, .int (nI p9))]) hx hb dX12_openOf_3 rfl hl (by decide) rfl (fun ls hl => ?_)
  have loop4 : ∀ (r4 i : Nat), i + r4 = S.nc → ∀ ls, lv_has ls 4 [(3, .int (nI (i))), (2, .int (sm (openQ S p9) i)), (0, .ref (g.ad 1 0)), (1, .int (nI p9))] → W p l e (rD 3) s m ([.ref (g.ad 1 0), .int (nI p9)] : List Value).toArray below meth c s.heap [] 0 0 (MQ below (RQ (.int (openA S p9))) ([.ref (g.ad 1 0), .int (nI p9)] : List Value).toArray s 0 0 (fun _ => False)) (F0 m 4 ls []) := by
    intro r4
    induction r4 with
    | zero =>
      intro i hE4 ls hl
      have hN4 : i = S.nc := by omega
      subst hN4
      refine lv_iload_n hx hb dX12_openOf_4 rfl (lv_at hl 0 rfl) ?_
      refine lv_aload_n hx hb dX12_openOf_5 rfl (lv_at hl 2 rfl) ?_
      refine gf_X12_1 hx hb hown hC (RB.x hR) (zf_X12_10 hC.1) dX12_openOf_6 ?_
      refine gf_X8_2 hx hb hown hC (RB.dk hR) (zf_X12_95 hC.1) dX12_openOf_9 ?_
      refine rc_V (As := []) hx hb hml hown hC hl (c_size l E _ _ _ _) (rec_of hC (RB.ls hR (by decide : 2 < 4)) rfl) (zm_X12_28 hC.1) kv_Jx4a65c_size_8abf5 (RB.ls hR (by decide : 2 < 4)) rfl rfl (rD_le (by decide) (by decide)) ⟨rfl, rfl⟩ (Nat.le_of_ble_eq_true rfl) ⟨Nat.zero_le _, Nat.zero_le _⟩ dX12_openOf_12 ?_
      refine lv_icmp_ge (tgt := 73) hx hb dX12_openOf_15 (by decide) (fun c_15 => ?_) (fun c_15 => ?_)
      ·
        refine lv_iload_n hx hb dX12_openOf_73 rfl (lv_at hl 1 rfl) ?_
        exact rr_i hx hb hr hlocks rfl dX12_openOf_74
      · exact absurd (Int32.le_refl _) c_15
    | succ r4 ih4 =>
      intro i hE4 ls hl
      have hlt4 : i < S.nc := by omega
      refine lv_iload_n hx hb dX12_openOf_4 rfl (lv_at hl 0 rfl) ?_
      refine lv_aload_n hx hb dX12_openOf_5 rfl (lv_at hl 2 rfl) ?_
      refine gf_X12_1 hx hb hown hC (RB.x hR) (zf_X12_10 hC.1) dX12_openOf_6 ?_
      refine gf_X8_2 hx hb hown hC (RB.dk hR) (zf_X12_95 hC.1) dX12_openOf_9 ?_
      refine rc_V (As := []) hx hb hml hown hC hl (c_size l E _ _ _ _) (rec_of hC (RB.ls hR (by decide : 2 < 4)) rfl) (zm_X12_28 hC.1) kv_Jx4a65c_size_8abf5 (RB.ls hR (by decide : 2 < 4)) rfl rfl (rD_le (by decide) (by decide)) ⟨rfl, rfl⟩ (Nat.le_of_ble_eq_true rfl) ⟨Nat.zero_le _, Nat.zero_le _⟩ dX12_openOf_12 ?_
      refine lv_icmp_ge (tgt := 73) hx hb dX12_openOf_15 (by decide) (fun c_15 => ?_) (fun c_15 => ?_)
      · exact absurd c_15 (nI_ge hlt4 hI.nc31)
      ·
        refine lv_iload_n hx hb dX12_openOf_18 rfl (lv_at hl 1 rfl) ?_
        refine lv_aload_n hx hb dX12_openOf_19 rfl (lv_at hl 2 rfl) ?_
        refine gf_X12_1 hx hb hown hC (RB.x hR) (zf_X12_10 hC.1) dX12_openOf_20 ?_
        refine gf_X8_2 hx hb hown hC (RB.dk hR) (zf_X12_95 hC.1) dX12_openOf_23 ?_
        refine lv_iload_n hx hb dX12_openOf_26 rfl (lv_at hl 0 rfl) ?_
        refine rc_V (As := [.int (nI (i))]) hx hb hml hown hC hl (c_getLB l E 2 rfl hR (by decide) hlt4) (rec_of hC (RB.ls hR (by decide : 2 < 4)) rfl) (zm_X12_38 hC.1) kv_Jx4a65c_get_915e3 (RB.gp hR 2 (by decide) hlt4) rfl rfl (rD_le (by decide) (by decide)) ⟨rfl, rfl⟩ (Nat.le_of_ble_eq_true rfl) ⟨Nat.zero_le _, Nat.zero_le _⟩ dX12_openOf_27 ?_
        refine g_cast hx hb hown hC (RB.ch hR hlt4) rfl (zc_X12_98 hC.1) dX12_openOf_30 ?_
        refine gf_X7_0 hx hb hown hC (RB.ch hR hlt4) (zf_X12_100 hC.1) dX12_openOf_33 ?_
        refine lv_iload_n hx hb dX12_openOf_36 rfl (lv_at hl 3 rfl) ?_
        refine lv_icmp_ne (tgt := 64) hx hb dX12_openOf_37 (by decide) (fun c_37 => ?_) (fun c_37 => ?_)
        ·
          have c_37 : ¬ S.cp i = p9 := fun h => c_37 (congrArg nI h)
          refine lv_iconst (v := 0) hx hb dX12_openOf_64 (by decide) ?_
          refine lv_iadd hx hb dX12_openOf_65 ?_
          refine lv_istore_n (lv' := [(2, .int ((sm (openQ S p9) i) + (0))), (3, .int (nI (i))), (0, .ref (g.ad 1 0)), (1, .int (nI p9))]) hx hb dX12_openOf_66 rfl hl (by decide) rfl (fun ls hl => ?_)
          refine lv_iinc (v := nI (i) + 1) (lv' := [(3, .int (nI (i) + 1)), (2, .int ((sm (openQ S p9) i) + (0))), (0, .ref (g.ad 1 0)), (1, .int (nI p9))]) hx hb dX12_openOf_67 hl (k := 1) rfl rfl (by decide) rfl (fun ls hl => ?_)
          refine lv_goto (tgt := 4) hx hb dX12_openOf_70 (by decide) ?_
          refine ih4 (i + 1) (by omega) ls ?_
          rw [nI_succ i, sm_t (f := openQ S p9) (by unfold openQ; rw [if_neg c_37])]
          exact lv_sub hl [0, 1, 2, 3] rfl
        ·
          have c_37 : S.cp i = p9 := (nI_eq (Nat.lt_trans (hI.cp hlt4) hI.np31) (Nat.lt_trans hp hI.np31)).mp c_37
          refine lv_aload_n hx hb dX12_openOf_40 rfl (lv_at hl 2 rfl) ?_
          refine gf_X12_1 hx hb hown hC (RB.x hR) (zf_X12_10 hC.1) dX12_openOf_41 ?_
          refine gf_X8_2 hx hb hown hC (RB.dk hR) (zf_X12_95 hC.1) dX12_openOf_44 ?_
          refine lv_iload_n hx hb dX12_openOf_47 rfl (lv_at hl 0 rfl) ?_
          refine rc_V (As := [.int (nI (i))]) hx hb hml hown hC hl (c_getLB l E 2 rfl hR (by decide) hlt4) (rec_of hC (RB.ls hR (by decide : 2 < 4)) rfl) (zm_X12_38 hC.1) kv_Jx4a65c_get_915e3 (RB.gp hR 2 (by decide) hlt4) rfl rfl (rD_le (by decide) (by decide)) ⟨rfl, rfl⟩ (Nat.le_of_ble_eq_true rfl) ⟨Nat.zero_le _, Nat.zero_le _⟩ dX12_openOf_48 ?_
          refine g_cast hx hb hown hC (RB.ch hR hlt4) rfl (zc_X12_98 hC.1) dX12_openOf_51 ?_
          refine gf_X7_8 hx hb hown hC (RB.ch hR hlt4) (zf_X12_103 hC.1) dX12_openOf_54 ?_
          refine lv_if_ne (tgt := 64) hx hb dX12_openOf_57 (by decide) (fun c_57 => ?_) (fun c_57 => ?_)
          ·
            refine lv_iconst (v := 0) hx hb dX12_openOf_64 (by decide) ?_
            refine lv_iadd hx hb dX12_openOf_65 ?_
            refine lv_istore_n (lv' := [(2, .int ((sm (openQ S p9) i) + (0))), (3, .int (nI (i))), (0, .ref (g.ad 1 0)), (1, .int (nI p9))]) hx hb dX12_openOf_66 rfl hl (by decide) rfl (fun ls hl => ?_)
            refine lv_iinc (v := nI (i) + 1) (lv' := [(3, .int (nI (i) + 1)), (2, .int ((sm (openQ S p9) i) + (0))), (0, .ref (g.ad 1 0)), (1, .int (nI p9))]) hx hb dX12_openOf_67 hl (k := 1) rfl rfl (by decide) rfl (fun ls hl => ?_)
            refine lv_goto (tgt := 4) hx hb dX12_openOf_70 (by decide) ?_
            refine ih4 (i + 1) (by omega) ls ?_
            rw [nI_succ i, sm_t (f := openQ S p9) (by unfold openQ; rw [if_pos c_37, if_neg c_57])]
            exact lv_sub hl [0, 1, 2, 3] rfl
          ·
            refine lv_iconst (v := 1) hx hb dX12_openOf_60 (by decide) ?_
            refine lv_goto (tgt := 65) hx hb dX12_openOf_61 (by decide) ?_
            refine lv_iadd hx hb dX12_openOf_65 ?_
            refine lv_istore_n (lv' := [(2, .int ((sm (openQ S p9) i) + (1))), (3, .int (nI (i))), (0, .ref (g.ad 1 0)), (1, .int (nI p9))]) hx hb dX12_openOf_66 rfl hl (by decide) rfl (fun ls hl => ?_)
            refine lv_iinc (v := nI (i) + 1) (lv' := [(3, .int (nI (i) + 1)), (2, .int ((sm (openQ S p9) i) + (1))), (0, .ref (g.ad 1 0)), (1, .int (nI p9))]) hx hb dX12_openOf_67 hl (k := 1) rfl rfl (by decide) rfl (fun ls hl => ?_)
            refine lv_goto (tgt := 4) hx hb dX12_openOf_70 (by decide) ?_
            refine ih4 (i + 1) (by omega) ls ?_
            rw [nI_succ i, sm_t (f := openQ S p9) (by unfold openQ; rw [if_pos c_37, if_pos c_57])]
            exact lv_sub hl [0, 1, 2, 3] rfl
  exact loop4 (S.nc) 0 (by omega) ls (lv_sub hl [0, 1, 2, 3] rfl)
set_option maxRecDepth 100000 in
set_option maxHeartbeats 4000000 in
theorem c_X12_repaidOf (l : Launch) (E : EE) {S : St} {th : Int32} {g : Gh} (hI : Inv S) {p9 : Nat} (hp : p9 < S.np) : RM l E yX12_repaidOf cX12_repaidOf 4 .int (rD 3) [.ref (g.ad 1 0), .int (nI p9)] (RB E S th g) (.int (repA S p9)) := by
  refine rm_of rfl (Nat.le_of_ble_eq_true rfl) (fun p e s m below meth c ls hx hb hr hml (hown : s.vm.findClass RX12 = some m.cls) hC hlocks hR hl => ?_)
  have hl : lv_has ls 4 [(0, .ref (g.ad 1 0)), (1, .int (nI p9))] := hl
  refine lv_iconst (v := 0) hx hb dX12_repaidOf_0 (by decide) ?_
  refine lv_istore_n (lv' := [(2, .int (0)), (0, .ref (g.ad 1 0)), (1, .int (nI p9))]) hx hb dX12_repaidOf_1 rfl hl (by decide) rfl (fun ls hl => ?_)
  refine lv_iconst (v := 0) hx hb dX12_repaidOf_2 (by decide) ?_
  refine lv_istore_n (lv' := [(3, .int (0)), (2, .int (0)), (0, .ref (g.ad 1 0)), (1, .int (nI p9))]) hx hb dX12_repaidOf_3 rfl hl (by decide) rfl (fun ls hl => ?_)
  have loop4 : ∀ (r4 i : Nat), i + r4 = S.nc → ∀ ls, lv_has ls 4 [(3, .int (nI (i))), (2, .int (sm (repQ S p9) i)), (0, .ref (g.ad 1 0)), (1, .int (nI p9))] → W p l e (rD 3) s m ([.ref (g.ad 1 0), .int (nI p9)] : List Value).toArray below meth c s.heap [] 0 0 (MQ below (RQ (.int (repA S p9))) ([.ref (g.ad 1 0), .int (nI p9)] : List Value).toArray s 0 0 (fun _ => False)) (F0 m 4 ls []) := by
    intro r4
    induction r4 with
    | zero =>
      intro i hE4 ls hl
      have hN4 : i = S.nc := by omega
      subst hN4
      refine lv_iload_n hx hb dX12_repaidOf_4 rfl (lv_at hl 0 rfl) ?_
      refine lv_aload_n hx hb dX12_repaidOf_5 rfl (lv_at hl 2 rfl) ?_
      refine gf_X12_1 hx hb hown hC (RB.x hR) (zf_X12_10 hC.1) dX12_repaidOf_6 ?_
      refine gf_X8_2 hx hb hown hC (RB.dk hR) (zf_X12_95 hC.1) dX12_repaidOf_9 ?_
      refine rc_V (As := []) hx hb hml hown hC hl (c_size l E _ _ _ _) (rec_of hC (RB.ls hR (by decide : 2 < 4)) rfl) (zm_X12_28 hC.1) kv_Jx4a65c_size_8abf5 (RB.ls hR (by decide : 2 < 4)) rfl rfl (rD_le (by decide) (by decide)) ⟨rfl, rfl⟩ (Nat.le_of_ble_eq_true rfl) ⟨Nat.zero_le _, Nat.zero_le _⟩ dX12_repaidOf_12 ?_
      refine lv_icmp_ge (tgt := 89) hx hb dX12_repaidOf_15 (by decide) (fun c_15 => ?_) (fun c_15 => ?_)
      ·
        refine lv_iload_n hx hb dX12_repaidOf_89 rfl (lv_at hl 1 rfl) ?_
        exact rr_i hx hb hr hlocks rfl dX12_repaidOf_90
      · exact absurd (Int32.le_refl _) c_15
    | succ r4 ih4 =>
      intro i hE4 ls hl
      have hlt4 : i < S.nc := by omega
      refine lv_iload_n hx hb dX12_repaidOf_4 rfl (lv_at hl 0 rfl) ?_
      refine lv_aload_n hx hb dX12_repaidOf_5 rfl (lv_at hl 2 rfl) ?_
      refine gf_X12_1 hx hb hown hC (RB.x hR) (zf_X12_10 hC.1) dX12_repaidOf_6 ?_
      refine gf_X8_2 hx hb hown hC (RB.dk hR) (zf_X12_95 hC.1) dX12_repaidOf_9 ?_
      refine rc_V (As := []) hx hb hml hown hC hl (c_size l E _ _ _ _) (rec_of hC (RB.ls hR (by decide : 2 < 4)) rfl) (zm_X12_28 hC.1) kv_Jx4a65c_size_8abf5 (RB.ls hR (by decide : 2 < 4)) rfl rfl (rD_le (by decide) (by decide)) ⟨rfl, rfl⟩ (Nat.le_of_ble_eq_true rfl) ⟨Nat.zero_le _, Nat.zero_le _⟩ dX12_repaidOf_12 ?_
      refine lv_icmp_ge (tgt := 89) hx hb dX12_repaidOf_15 (by decide) (fun c_15 => ?_) (fun c_15 => ?_)
      · exact absurd c_15 (nI_ge hlt4 hI.nc31)
      ·
        refine lv_iload_n hx hb dX12_repaidOf_18 rfl (lv_at hl 1 rfl) ?_
        refine lv_aload_n hx hb dX12_repaidOf_19 rfl (lv_at hl 2 rfl) ?_
        refine gf_X12_1 hx hb hown hC (RB.x hR) (zf_X12_10 hC.1) dX12_repaidOf_20 ?_
        refine gf_X8_2 hx hb hown hC (RB.dk hR) (zf_X12_95 hC.1) dX12_repaidOf_23 ?_
        refine lv_iload_n hx hb dX12_repaidOf_26 rfl (lv_at hl 0 rfl) ?_
        refine rc_V (As := [.int (nI (i))]) hx hb hml hown hC hl (c_getLB l E 2 rfl hR (by decide) hlt4) (rec_of hC (RB.ls hR (by decide : 2 < 4)) rfl) (zm_X12_38 hC.1) kv_Jx4a65c_get_915e3 (RB.gp hR 2 (by decide) hlt4) rfl rfl (rD_le (by decide) (by decide)) ⟨rfl, rfl⟩ (Nat.le_of_ble_eq_true rfl) ⟨Nat.zero_le _, Nat.zero_le _⟩ dX12_repaidOf_27 ?_
        refine g_cast hx hb hown hC (RB.ch hR hlt4) rfl (zc_X12_98 hC.1) dX12_repaidOf_30 ?_
        refine gf_X7_0 hx hb hown hC (RB.ch hR hlt4) (zf_X12_100 hC.1) dX12_repaidOf_33 ?_
        refine lv_iload_n hx hb dX12_repaidOf_36 rfl (lv_at hl 3 rfl) ?_
        refine lv_icmp_ne (tgt := 80) hx hb dX12_repaidOf_37 (by decide) (fun c_37 => ?_) (fun c_37 => ?_)
        ·
          have c_37 : ¬ S.cp i = p9 := fun h => c_37 (congrArg nI h)
          refine lv_iconst (v := 0) hx hb dX12_repaidOf_80 (by decide) ?_
          refine lv_iadd hx hb dX12_repaidOf_81 ?_
          refine lv_istore_n (lv' := [(2, .int ((sm (repQ S p9) i) + (0))), (3, .int (nI (i))), (0, .ref (g.ad 1 0)), (1, .int (nI p9))]) hx hb dX12_repaidOf_82 rfl hl (by decide) rfl (fun ls hl => ?_)
          refine lv_iinc (v := nI (i) + 1) (lv' := [(3, .int (nI (i) + 1)), (2, .int ((sm (repQ S p9) i) + (0))), (0, .ref (g.ad 1 0)), (1, .int (nI p9))]) hx hb dX12_repaidOf_83 hl (k := 1) rfl rfl (by decide) rfl (fun ls hl => ?_)
          refine lv_goto (tgt := 4) hx hb dX12_repaidOf_86 (by decide) ?_
          refine ih4 (i + 1) (by omega) ls ?_
          rw [nI_succ i, sm_t (f := repQ S p9) (by unfold repQ; rw [if_neg c_37])]
          exact lv_sub hl [0, 1, 2, 3] rfl
        ·
          have c_37 : S.cp i = p9 := (nI_eq (Nat.lt_trans (hI.cp hlt4) hI.np31) (Nat.lt_trans hp hI.np31)).mp c_37
          refine lv_aload_n hx hb dX12_repaidOf_40 rfl (lv_at hl 2 rfl) ?_
          refine gf_X12_1 hx hb hown hC (RB.x hR) (zf_X12_10 hC.1) dX12_repaidOf_41 ?_
          refine gf_X8_2 hx hb hown hC (RB.dk hR) (zf_X12_95 hC.1) dX12_repaidOf_44 ?_
          refine lv_iload_n hx hb dX12_repaidOf_47 rfl (lv_at hl 0 rfl) ?_
          refine rc_V (As := [.int (nI (i))]) hx hb hml hown hC hl (c_getLB l E 2 rfl hR (by decide) hlt4) (rec_of hC (RB.ls hR (by decide : 2 < 4)) rfl) (zm_X12_38 hC.1) kv_Jx4a65c_get_915e3 (RB.gp hR 2 (by decide) hlt4) rfl rfl (rD_le (by decide) (by decide)) ⟨rfl, rfl⟩ (Nat.le_of_ble_eq_true rfl) ⟨Nat.zero_le _, Nat.zero_le _⟩ dX12_repaidOf_48 ?_
          refine g_cast hx hb hown hC (RB.ch hR hlt4) rfl (zc_X12_98 hC.1) dX12_repaidOf_51 ?_
          refine rc_V (As := []) hx hb hml hown hC hl (c_X7_isRepaid l E hI hlt4) (rec_of hC (RB.ch hR hlt4) rfl) (zm_X12_106 hC.1) kv_X7_isRepaid hR rfl rfl (rD_le (by decide) (by decide)) ⟨rfl, rfl⟩ (Nat.le_of_ble_eq_true rfl) ⟨Nat.zero_le _, Nat.zero_le _⟩ dX12_repaidOf_54 ?_
          refine lv_if_eq (tgt := 80) hx hb dX12_repaidOf_57 (by decide) (fun c_57 => ?_) (fun c_57 => ?_)
          ·
            have c_57 := isRep_0 c_57
            refine lv_iconst (v := 0) hx hb dX12_repaidOf_80 (by decide) ?_
            refine lv_iadd hx hb dX12_repaidOf_81 ?_
            refine lv_istore_n (lv' := [(2, .int ((sm (repQ S p9) i) + (0))), (3, .int (nI (i))), (0, .ref (g.ad 1 0)), (1, .int (nI p9))]) hx hb dX12_repaidOf_82 rfl hl (by decide) rfl (fun ls hl => ?_)
            refine lv_iinc (v := nI (i) + 1) (lv' := [(3, .int (nI (i) + 1)), (2, .int ((sm (repQ S p9) i) + (0))), (0, .ref (g.ad 1 0)), (1, .int (nI p9))]) hx hb dX12_repaidOf_83 hl (k := 1) rfl rfl (by decide) rfl (fun ls hl => ?_)
            refine lv_goto (tgt := 4) hx hb dX12_repaidOf_86 (by decide) ?_
            refine ih4 (i + 1) (by omega) ls ?_
            rw [nI_succ i, sm_t (f := repQ S p9) (by unfold repQ; rw [if_pos c_37, if_neg c_57])]
            exact lv_sub hl [0, 1, 2, 3] rfl
          ·
            have c_57 := isRep_1 c_57
            refine lv_aload_n hx hb dX12_repaidOf_60 rfl (lv_at hl 2 rfl) ?_
            refine gf_X12_1 hx hb hown hC (RB.x hR) (zf_X12_10 hC.1) dX12_repaidOf_61 ?_
            refine gf_X8_2 hx hb hown hC (RB.dk hR) (zf_X12_95 hC.1) dX12_repaidOf_64 ?_
            refine lv_iload_n hx hb dX12_repaidOf_67 rfl (lv_at hl 0 rfl) ?_
            refine rc_V (As := [.int (nI (i))]) hx hb hml hown hC hl (c_getLB l E 2 rfl hR (by decide) hlt4) (rec_of hC (RB.ls hR (by decide : 2 < 4)) rfl) (zm_X12_38 hC.1) kv_Jx4a65c_get_915e3 (RB.gp hR 2 (by decide) hlt4) rfl rfl (rD_le (by decide) (by decide)) ⟨rfl, rfl⟩ (Nat.le_of_ble_eq_true rfl) ⟨Nat.zero_le _, Nat.zero_le _⟩ dX12_repaidOf_68 ?_
            refine g_cast hx hb hown hC (RB.ch hR hlt4) rfl (zc_X12_98 hC.1) dX12_repaidOf_71 ?_
            refine gf_X7_3 hx hb hown hC (RB.ch hR hlt4) (zf_X12_110 hC.1) dX12_repaidOf_74 ?_
            refine lv_goto (tgt := 81) hx hb dX12_repaidOf_77 (by decide) ?_
            refine lv_iadd hx hb dX12_repaidOf_81 ?_
            refine lv_istore_n (lv' := [(2, .int ((sm (repQ S p9) i) + (S.ca (i)))), (3, .int (nI (i))), (0, .ref (g.ad 1 0)), (1, .int (nI p9))]) hx hb dX12_repaidOf_82 rfl hl (by decide) rfl (fun ls hl => ?_)
            refine lv_iinc (v := nI (i) + 1) (lv' := [(3, .int (nI (i) + 1)), (2, .int ((sm (repQ S p9) i) + (S.ca (i)))), (0, .ref (g.ad 1 0)), (1, .int (nI p9))]) hx hb dX12_repaidOf_83 hl (k := 1) rfl rfl (by decide) rfl (fun ls hl => ?_)
            refine lv_goto (tgt := 4) hx hb dX12_repaidOf_86 (by decide) ?_
            refine ih4 (i + 1) (by omega) ls ?_
            rw [nI_succ i, sm_t (f := repQ S p9) (by unfold repQ; rw [if_pos c_37, if_pos c_57])]
            exact lv_sub hl [0, 1, 2, 3] rfl
  exact loop4 (S.nc) 0 (by omega) ls (lv_sub hl [0, 1, 2, 3] rfl)
set_option maxRecDepth 100000 in
set_option maxHeartbeats 4000000 in
theorem c_X12_free (l : Launch) (E : EE) {S : St} {th : Int32} {g : Gh} (hI : Inv S)  : RM l E yX12_free cX12_free 3 .int (rD 3) [.ref (g.ad 1 0)] (RB E S th g) (.int (freeA S)) := by
  refine rm_of rfl (Nat.le_of_ble_eq_true rfl) (fun p e s m below meth c ls hx hb hr hml (hown : s.vm.findClass RX12 = some m.cls) hC hlocks hR hl => ?_)
  have hl : lv_has ls 3 [(0, .ref (g.ad 1 0))] := hl
  refine lv_iconst (v := 0) hx hb dX12_free_0 (by decide) ?_
  refine lv_istore_n (lv' := [(1, .int (0)), (0, .ref (g.ad 1 0))]) hx hb dX12_free_1 rfl hl (by decide) rfl (fun ls hl => ?_)
  refine lv_iconst (v := 0) hx hb dX12_free_2 (by decide) ?_
  refine lv_istore_n (lv' := [(2, .int (0)), (1, .int (0)), (0, .ref (g.ad 1 0))]) hx hb dX12_free_3 rfl hl (by decide) rfl (fun ls hl => ?_)
  have loop4 : ∀ (r4 i : Nat), i + r4 = S.nr → ∀ ls, lv_has ls 3 [(2, .int (nI (i))), (1, .int (sm (freeQ S) i)), (0, .ref (g.ad 1 0))] → W p l e (rD 3) s m ([.ref (g.ad 1 0)] : List Value).toArray below meth c s.heap [] 0 0 (MQ below (RQ (.int (freeA S))) ([.ref (g.ad 1 0)] : List Value).toArray s 0 0 (fun _ => False)) (F0 m 4 ls []) := by
    intro r4
    induction r4 with
    | zero =>
      intro i hE4 ls hl
      have hN4 : i = S.nr := by omega
      subst hN4
      refine lv_iload_n hx hb dX12_free_4 rfl (lv_at hl 0 rfl) ?_
      refine lv_aload_n hx hb dX12_free_5 rfl (lv_at hl 2 rfl) ?_
      refine gf_X12_1 hx hb hown hC (RB.x hR) (zf_X12_10 hC.1) dX12_free_6 ?_
      refine gf_X8_3 hx hb hown hC (RB.dk hR) (zf_X12_185 hC.1) dX12_free_9 ?_
      refine rc_V (As := []) hx hb hml hown hC hl (c_size l E _ _ _ _) (rec_of hC (RB.ls hR (by decide : 3 < 4)) rfl) (zm_X12_28 hC.1) kv_Jx4a65c_size_8abf5 (RB.ls hR (by decide : 3 < 4)) rfl rfl (rD_le (by decide) (by decide)) ⟨rfl, rfl⟩ (Nat.le_of_ble_eq_true rfl) ⟨Nat.zero_le _, Nat.zero_le _⟩ dX12_free_12 ?_
      refine lv_icmp_ge (tgt := 53) hx hb dX12_free_15 (by decide) (fun c_15 => ?_) (fun c_15 => ?_)
      ·
        refine lv_iload_n hx hb dX12_free_53 rfl (lv_at hl 1 rfl) ?_
        exact rr_i hx hb hr hlocks rfl dX12_free_54
      · exact absurd (Int32.le_refl _) c_15
    | succ r4 ih4 =>
      intro i hE4 ls hl
      have hlt4 : i < S.nr := by omega
      refine lv_iload_n hx hb dX12_free_4 rfl (lv_at hl 0 rfl) ?_
      refine lv_aload_n hx hb dX12_free_5 rfl (lv_at hl 2 rfl) ?_
      refine gf_X12_1 hx hb hown hC (RB.x hR) (zf_X12_10 hC.1) dX12_free_6 ?_
      refine gf_X8_3 hx hb hown hC (RB.dk hR) (zf_X12_185 hC.1) dX12_free_9 ?_
      refine rc_V (As := []) hx hb hml hown hC hl (c_size l E _ _ _ _) (rec_of hC (RB.ls hR (by decide : 3 < 4)) rfl) (zm_X12_28 hC.1) kv_Jx4a65c_size_8abf5 (RB.ls hR (by decide : 3 < 4)) rfl rfl (rD_le (by decide) (by decide)) ⟨rfl, rfl⟩ (Nat.le_of_ble_eq_true rfl) ⟨Nat.zero_le _, Nat.zero_le _⟩ dX12_free_12 ?_
      refine lv_icmp_ge (tgt := 53) hx hb dX12_free_15 (by decide) (fun c_15 => ?_) (fun c_15 => ?_)
      · exact absurd c_15 (nI_ge hlt4 hI.nr31)
      ·
        refine lv_iload_n hx hb dX12_free_18 rfl (lv_at hl 1 rfl) ?_
        refine lv_aload_n hx hb dX12_free_19 rfl (lv_at hl 2 rfl) ?_
        refine gf_X12_1 hx hb hown hC (RB.x hR) (zf_X12_10 hC.1) dX12_free_20 ?_
        refine gf_X8_3 hx hb hown hC (RB.dk hR) (zf_X12_185 hC.1) dX12_free_23 ?_
        refine lv_iload_n hx hb dX12_free_26 rfl (lv_at hl 0 rfl) ?_
        refine rc_V (As := [.int (nI (i))]) hx hb hml hown hC hl (c_getLB l E 3 rfl hR (by decide) hlt4) (rec_of hC (RB.ls hR (by decide : 3 < 4)) rfl) (zm_X12_38 hC.1) kv_Jx4a65c_get_915e3 (RB.gp hR 3 (by decide) hlt4) rfl rfl (rD_le (by decide) (by decide)) ⟨rfl, rfl⟩ (Nat.le_of_ble_eq_true rfl) ⟨Nat.zero_le _, Nat.zero_le _⟩ dX12_free_27 ?_
        refine g_cast hx hb hown hC (RB.re hR hlt4) rfl (zc_X12_188 hC.1) dX12_free_30 ?_
        refine gf_X10_3 hx hb hown hC (RB.re hR hlt4) (zf_X12_193 hC.1) dX12_free_33 ?_
        refine lv_iconst (v := (-1)) hx hb dX12_free_36 (by decide) ?_
        refine lv_icmp_ne (tgt := 44) hx hb dX12_free_37 (by decide) (fun c_37 => ?_) (fun c_37 => ?_)
        ·
          have c_37 : ¬ S.ro i = none := fun h => c_37 ((irI_m (fun j hj => Nat.lt_trans (hI.ro hlt4 hj) hI.nc31)).mpr h)
          refine lv_iconst (v := 0) hx hb dX12_free_44 (by decide) ?_
          refine lv_iadd hx hb dX12_free_45 ?_
          refine lv_istore_n (lv' := [(1, .int ((sm (freeQ S) i) + (0))), (2, .int (nI (i))), (0, .ref (g.ad 1 0))]) hx hb dX12_free_46 rfl hl (by decide) rfl (fun ls hl => ?_)
          refine lv_iinc (v := nI (i) + 1) (lv' := [(2, .int (nI (i) + 1)), (1, .int ((sm (freeQ S) i) + (0))), (0, .ref (g.ad 1 0))]) hx hb dX12_free_47 hl (k := 1) rfl rfl (by decide) rfl (fun ls hl => ?_)
          refine lv_goto (tgt := 4) hx hb dX12_free_50 (by decide) ?_
          refine ih4 (i + 1) (by omega) ls ?_
          rw [nI_succ i, sm_t (f := freeQ S) (by unfold freeQ; rw [if_neg c_37])]
          exact lv_sub hl [0, 1, 2] rfl
        ·
          have c_37 : S.ro i = none := (irI_m (fun j hj => Nat.lt_trans (hI.ro hlt4 hj) hI.nc31)).mp c_37
          refine lv_iconst (v := 1) hx hb dX12_free_40 (by decide) ?_
          refine lv_goto (tgt := 45) hx hb dX12_free_41 (by decide) ?_
          refine lv_iadd hx hb dX12_free_45 ?_
          refine lv_istore_n (lv' := [(1, .int ((sm (freeQ S) i) + (1))), (2, .int (nI (i))), (0, .ref (g.ad 1 0))]) hx hb dX12_free_46 rfl hl (by decide) rfl (fun ls hl => ?_)
          refine lv_iinc (v := nI (i) + 1) (lv' := [(2, .int (nI (i) + 1)), (1, .int ((sm (freeQ S) i) + (1))), (0, .ref (g.ad 1 0))]) hx hb dX12_free_47 hl (k := 1) rfl rfl (by decide) rfl (fun ls hl => ?_)
          refine lv_goto (tgt := 4) hx hb dX12_free_50 (by decide) ?_
          refine ih4 (i + 1) (by omega) ls ?_
          rw [nI_succ i, sm_t (f := freeQ S) (by unfold freeQ; rw [if_pos c_37])]
          exact lv_sub hl [0, 1, 2] rfl
  exact loop4 (S.nr) 0 (by omega) ls (lv_sub hl [0, 1, 2] rfl)
set_option maxRecDepth 100000 in
set_option maxHeartbeats 4000000 in
theorem c_X12_sum1 (l : Launch) (E : EE) {S : St} {th : Int32} {g : Gh} (hI : Inv S)  : RM l E yX12_sum cX12_sum 5 .int (rD 5) [.ref (g.ad 1 0), .int (1)] (RB E S th g) (.int (costsA S)) := by
  refine rm_of rfl (Nat.le_of_ble_eq_true rfl) (fun p e s m below meth c ls hx hb hr hml (hown : s.vm.findClass RX12 = some m.cls) hC hlocks hR hl => ?_)
  have hl : lv_has ls 5 [(0, .ref (g.ad 1 0)), (1, .int (1))] := hl
  refine lv_iconst (v := 0) hx hb dX12_sum_0 (by decide) ?_
  refine lv_istore_n (lv' := [(2, .int (0)), (0, .ref (g.ad 1 0)), (1, .int (1))]) hx hb dX12_sum_1 rfl hl (by decide) rfl (fun ls hl => ?_)
  refine lv_iconst (v := 0) hx hb dX12_sum_2 (by decide) ?_
  refine lv_istore_n (lv' := [(3, .int (0)), (2, .int (0)), (0, .ref (g.ad 1 0)), (1, .int (1))]) hx hb dX12_sum_3 rfl hl (by decide) rfl (fun ls hl => ?_)
  have loop4 : ∀ (r4 i : Nat), i + r4 = S.nc → ∀ ls, lv_has ls 5 [(3, .int (nI (i))), (2, .int (sm (costQ S) i)), (0, .ref (g.ad 1 0)), (1, .int (1))] → W p l e (rD 5) s m ([.ref (g.ad 1 0), .int (1)] : List Value).toArray below meth c s.heap [] 0 0 (MQ below (RQ (.int (costsA S))) ([.ref (g.ad 1 0), .int (1)] : List Value).toArray s 0 0 (fun _ => False)) (F0 m 4 ls []) := by
    intro r4
    induction r4 with
    | zero =>
      intro i hE4 ls hl
      have hN4 : i = S.nc := by omega
      subst hN4
      refine lv_iload_n hx hb dX12_sum_4 rfl (lv_at hl 0 rfl) ?_
      refine lv_aload_n hx hb dX12_sum_5 rfl (lv_at hl 2 rfl) ?_
      refine gf_X12_1 hx hb hown hC (RB.x hR) (zf_X12_10 hC.1) dX12_sum_6 ?_
      refine gf_X8_2 hx hb hown hC (RB.dk hR) (zf_X12_95 hC.1) dX12_sum_9 ?_
      refine rc_V (As := []) hx hb hml hown hC hl (c_size l E _ _ _ _) (rec_of hC (RB.ls hR (by decide : 2 < 4)) rfl) (zm_X12_28 hC.1) kv_Jx4a65c_size_8abf5 (RB.ls hR (by decide : 2 < 4)) rfl rfl (rD_le (by decide) (by decide)) ⟨rfl, rfl⟩ (Nat.le_of_ble_eq_true rfl) ⟨Nat.zero_le _, Nat.zero_le _⟩ dX12_sum_12 ?_
      refine lv_icmp_ge (tgt := 68) hx hb dX12_sum_15 (by decide) (fun c_15 => ?_) (fun c_15 => ?_)
      ·
        refine lv_iload_n hx hb dX12_sum_68 rfl (lv_at hl 1 rfl) ?_
        exact rr_i hx hb hr hlocks rfl dX12_sum_69
      · exact absurd (Int32.le_refl _) c_15
    | succ r4 ih4 =>
      intro i hE4 ls hl
      have hlt4 : i < S.nc := by omega
      refine lv_iload_n hx hb dX12_sum_4 rfl (lv_at hl 0 rfl) ?_
      refine lv_aload_n hx hb dX12_sum_5 rfl (lv_at hl 2 rfl) ?_
      refine gf_X12_1 hx hb hown hC (RB.x hR) (zf_X12_10 hC.1) dX12_sum_6 ?_
      refine gf_X8_2 hx hb hown hC (RB.dk hR) (zf_X12_95 hC.1) dX12_sum_9 ?_
      refine rc_V (As := []) hx hb hml hown hC hl (c_size l E _ _ _ _) (rec_of hC (RB.ls hR (by decide : 2 < 4)) rfl) (zm_X12_28 hC.1) kv_Jx4a65c_size_8abf5 (RB.ls hR (by decide : 2 < 4)) rfl rfl (rD_le (by decide) (by decide)) ⟨rfl, rfl⟩ (Nat.le_of_ble_eq_true rfl) ⟨Nat.zero_le _, Nat.zero_le _⟩ dX12_sum_12 ?_
      refine lv_icmp_ge (tgt := 68) hx hb dX12_sum_15 (by decide) (fun c_15 => ?_) (fun c_15 => ?_)
      · exact absurd c_15 (nI_ge hlt4 hI.nc31)
      ·
        refine lv_aload_n hx hb dX12_sum_18 rfl (lv_at hl 2 rfl) ?_
        refine lv_iload_n hx hb dX12_sum_19 rfl (lv_at hl 0 rfl) ?_
        refine rc_V (As := [.int (nI (i))]) hx hb hml hown hC hl (c_X12_charge_ l E hI hlt4) (rec_of hC (RB.x hR) rfl) (zm_X12_198 hC.1) kv_X12_charge_ hR rfl rfl (rD_le (by decide) (by decide)) ⟨rfl, rfl⟩ (Nat.le_of_ble_eq_true rfl) ⟨Nat.zero_le _, Nat.zero_le _⟩ dX12_sum_20 ?_
        refine lv_astore (lv' := [(4, .ref (g.ad 8 (i))), (3, .int (nI (i))), (2, .int (sm (costQ S) i)), (0, .ref (g.ad 1 0)), (1, .int (1))]) hx hb dX12_sum_23 hl (by decide) rfl (fun ls hl => ?_)
        refine lv_iload_n hx hb dX12_sum_25 rfl (lv_at hl 2 rfl) ?_
        refine lv_iload_n hx hb dX12_sum_26 rfl (lv_at hl 4 rfl) ?_
        refine lv_if_eq (tgt := 43) hx hb dX12_sum_27 (by decide) (fun c_27 => ?_) (fun c_27 => ?_)
        · exact absurd c_27 (by decide)
        ·
          refine lv_aload_n hx hb dX12_sum_30 rfl (lv_at hl 3 rfl) ?_
          refine gf_X12_1 hx hb hown hC (RB.x hR) (zf_X12_10 hC.1) dX12_sum_31 ?_
          refine lv_aload hx hb dX12_sum_34 (lv_at hl 0 rfl) ?_
          refine lv_iconst (v := 0) hx hb dX12_sum_36 (by decide) ?_
          refine rc_V (As := [.ref (g.ad 8 (i)), .int (0)]) hx hb hml hown hC hl (c_X8_cost l E hI hlt4 (0)) (rec_of hC (RB.dk hR) rfl) (zm_X12_228 hC.1) kv_X8_cost hR rfl rfl (rD_le (by decide) (by decide)) ⟨rfl, rfl⟩ (Nat.le_of_ble_eq_true rfl) ⟨Nat.zero_le _, Nat.zero_le _⟩ dX12_sum_37 ?_
          refine lv_goto (tgt := 60) hx hb dX12_sum_40 (by decide) ?_
          refine lv_iadd hx hb dX12_sum_60 ?_
          refine lv_istore_n (lv' := [(2, .int ((sm (costQ S) i) + (costA S (i) (0)))), (4, .ref (g.ad 8 (i))), (3, .int (nI (i))), (0, .ref (g.ad 1 0)), (1, .int (1))]) hx hb dX12_sum_61 rfl hl (by decide) rfl (fun ls hl => ?_)
          refine lv_iinc (v := nI (i) + 1) (lv' := [(3, .int (nI (i) + 1)), (2, .int ((sm (costQ S) i) + (costA S (i) (0)))), (4, .ref (g.ad 8 (i))), (0, .ref (g.ad 1 0)), (1, .int (1))]) hx hb dX12_sum_62 hl (k := 2) rfl rfl (by decide) rfl (fun ls hl => ?_)
          refine lv_goto (tgt := 4) hx hb dX12_sum_65 (by decide) ?_
          refine ih4 (i + 1) (by omega) ls ?_
          rw [nI_succ i, sm_t (f := costQ S) (rfl)]
          exact lv_sub hl [0, 1, 3, 4] rfl
  exact loop4 (S.nc) 0 (by omega) ls (lv_sub hl [0, 1, 2, 3] rfl)
set_option maxRecDepth 100000 in
set_option maxHeartbeats 4000000 in
theorem c_X12_sum0 (l : Launch) (E : EE) {S : St} {th : Int32} {g : Gh} (hI : Inv S)  : RM l E yX12_sum cX12_sum 5 .int (rD 5) [.ref (g.ad 1 0), .int (0)] (RB E S th g) (.int (amtA S)) := by
  refine rm_of rfl (Nat.le_of_ble_eq_true rfl) (fun p e s m below meth c ls hx hb hr hml (hown : s.vm.findClass RX12 = some m.cls) hC hlocks hR hl => ?_)
  have hl : lv_has ls 5 [(0, .ref (g.ad 1 0)), (1, .int (0))] := hl
  refine lv_iconst (v := 0) hx hb dX12_sum_0 (by decide) ?_
  refine lv_istore_n (lv' := [(2, .int (0)), (0, .ref (g.ad 1 0)), (1, .int (0))]) hx hb dX12_sum_1 rfl hl (by decide) rfl (fun ls hl => ?_)
  refine lv_iconst (v := 0) hx hb dX12_sum_2 (by decide) ?_
  refine lv_istore_n (lv' := [(3, .int (0)), (2, .int (0)), (0, .ref (g.ad 1 0)), (1, .int (0))]) hx hb dX12_sum_3 rfl hl (by decide) rfl (fun ls hl => ?_)
  have loop4 : ∀ (r4 i : Nat), i + r4 = S.nc → ∀ ls, lv_has ls 5 [(3, .int (nI (i))), (2, .int (sm (amtQ S) i)), (0, .ref (g.ad 1 0)), (1, .int (0))] → W p l e (rD 5) s m ([.ref (g.ad 1 0), .int (0)] : List Value).toArray below meth c s.heap [] 0 0 (MQ below (RQ (.int (amtA S))) ([.ref (g.ad 1 0), .int (0)] : List Value).toArray s 0 0 (fun _ => False)) (F0 m 4 ls []) := by
    intro r4
    induction r4 with
    | zero =>
      intro i hE4 ls hl
      have hN4 : i = S.nc := by omega
      subst hN4
      refine lv_iload_n hx hb dX12_sum_4 rfl (lv_at hl 0 rfl) ?_
      refine lv_aload_n hx hb dX12_sum_5 rfl (lv_at hl 2 rfl) ?_
      refine gf_X12_1 hx hb hown hC (RB.x hR) (zf_X12_10 hC.1) dX12_sum_6 ?_
      refine gf_X8_2 hx hb hown hC (RB.dk hR) (zf_X12_95 hC.1) dX12_sum_9 ?_
      refine rc_V (As := []) hx hb hml hown hC hl (c_size l E _ _ _ _) (rec_of hC (RB.ls hR (by decide : 2 < 4)) rfl) (zm_X12_28 hC.1) kv_Jx4a65c_size_8abf5 (RB.ls hR (by decide : 2 < 4)) rfl rfl (rD_le (by decide) (by decide)) ⟨rfl, rfl⟩ (Nat.le_of_ble_eq_true rfl) ⟨Nat.zero_le _, Nat.zero_le _⟩ dX12_sum_12 ?_
      refine lv_icmp_ge (tgt := 68) hx hb dX12_sum_15 (by decide) (fun c_15 => ?_) (fun c_15 => ?_)
      ·
        refine lv_iload_n hx hb dX12_sum_68 rfl (lv_at hl 1 rfl) ?_
        exact rr_i hx hb hr hlocks rfl dX12_sum_69
      · exact absurd (Int32.le_refl _) c_15
    | succ r4 ih4 =>
      intro i hE4 ls hl
      have hlt4 : i < S.nc := by omega
      refine lv_iload_n hx hb dX12_sum_4 rfl (lv_at hl 0 rfl) ?_
      refine lv_aload_n hx hb dX12_sum_5 rfl (lv_at hl 2 rfl) ?_
      refine gf_X12_1 hx hb hown hC (RB.x hR) (zf_X12_10 hC.1) dX12_sum_6 ?_
      refine gf_X8_2 hx hb hown hC (RB.dk hR) (zf_X12_95 hC.1) dX12_sum_9 ?_
      refine rc_V (As := []) hx hb hml hown hC hl (c_size l E _ _ _ _) (rec_of hC (RB.ls hR (by decide : 2 < 4)) rfl) (zm_X12_28 hC.1) kv_Jx4a65c_size_8abf5 (RB.ls hR (by decide : 2 < 4)) rfl rfl (rD_le (by decide) (by decide)) ⟨rfl, rfl⟩ (Nat.le_of_ble_eq_true rfl) ⟨Nat.zero_le _, Nat.zero_le _⟩ dX12_sum_12 ?_
      refine lv_icmp_ge (tgt := 68) hx hb dX12_sum_15 (by decide) (fun c_15 => ?_) (fun c_15 => ?_)
      · exact absurd c_15 (nI_ge hlt4 hI.nc31)
      ·
        refine lv_aload_n hx hb dX12_sum_18 rfl (lv_at hl 2 rfl) ?_
        refine lv_iload_n hx hb dX12_sum_19 rfl (lv_at hl 0 rfl) ?_
        refine rc_V (As := [.int (nI (i))]) hx hb hml hown hC hl (c_X12_charge_ l E hI hlt4) (rec_of hC (RB.x hR) rfl) (zm_X12_198 hC.1) kv_X12_charge_ hR rfl rfl (rD_le (by decide) (by decide)) ⟨rfl, rfl⟩ (Nat.le_of_ble_eq_true rfl) ⟨Nat.zero_le _, Nat.zero_le _⟩ dX12_sum_20 ?_
        refine lv_astore (lv' := [(4, .ref (g.ad 8 (i))), (3, .int (nI (i))), (2, .int (sm (amtQ S) i)), (0, .ref (g.ad 1 0)), (1, .int (0))]) hx hb dX12_sum_23 hl (by decide) rfl (fun ls hl => ?_)
        refine lv_iload_n hx hb dX12_sum_25 rfl (lv_at hl 2 rfl) ?_
        refine lv_iload_n hx hb dX12_sum_26 rfl (lv_at hl 4 rfl) ?_
        refine lv_if_eq (tgt := 43) hx hb dX12_sum_27 (by decide) (fun c_27 => ?_) (fun c_27 => ?_)
        ·
          refine lv_aload hx hb dX12_sum_43 (lv_at hl 0 rfl) ?_
          refine rc_V (As := []) hx hb hml hown hC hl (c_X7_isRepaid l E hI hlt4) (rec_of hC (RB.ch hR hlt4) rfl) (zm_X12_106 hC.1) kv_X7_isRepaid hR rfl rfl (rD_le (by decide) (by decide)) ⟨rfl, rfl⟩ (Nat.le_of_ble_eq_true rfl) ⟨Nat.zero_le _, Nat.zero_le _⟩ dX12_sum_45 ?_
          refine lv_if_eq (tgt := 55) hx hb dX12_sum_48 (by decide) (fun c_48 => ?_) (fun c_48 => ?_)
          ·
            have c_48 := isRep_0 c_48
            refine lv_aload hx hb dX12_sum_55 (lv_at hl 0 rfl) ?_
            refine gf_X7_3 hx hb hown hC (RB.ch hR hlt4) (zf_X12_110 hC.1) dX12_sum_57 ?_
            refine lv_iadd hx hb dX12_sum_60 ?_
            refine lv_istore_n (lv' := [(2, .int ((sm (amtQ S) i) + (S.ca (i)))), (4, .ref (g.ad 8 (i))), (3, .int (nI (i))), (0, .ref (g.ad 1 0)), (1, .int (0))]) hx hb dX12_sum_61 rfl hl (by decide) rfl (fun ls hl => ?_)
            refine lv_iinc (v := nI (i) + 1) (lv' := [(3, .int (nI (i) + 1)), (2, .int ((sm (amtQ S) i) + (S.ca (i)))), (4, .ref (g.ad 8 (i))), (0, .ref (g.ad 1 0)), (1, .int (0))]) hx hb dX12_sum_62 hl (k := 2) rfl rfl (by decide) rfl (fun ls hl => ?_)
            refine lv_goto (tgt := 4) hx hb dX12_sum_65 (by decide) ?_
            refine ih4 (i + 1) (by omega) ls ?_
            rw [nI_succ i, sm_t (f := amtQ S) (by unfold amtQ; rw [if_neg c_48])]
            exact lv_sub hl [0, 1, 3, 4] rfl
          ·
            have c_48 := isRep_1 c_48
            refine lv_iconst (v := 0) hx hb dX12_sum_51 (by decide) ?_
            refine lv_goto (tgt := 60) hx hb dX12_sum_52 (by decide) ?_
            refine lv_iadd hx hb dX12_sum_60 ?_
            refine lv_istore_n (lv' := [(2, .int ((sm (amtQ S) i) + (0))), (4, .ref (g.ad 8 (i))), (3, .int (nI (i))), (0, .ref (g.ad 1 0)), (1, .int (0))]) hx hb dX12_sum_61 rfl hl (by decide) rfl (fun ls hl => ?_)
            refine lv_iinc (v := nI (i) + 1) (lv' := [(3, .int (nI (i) + 1)), (2, .int ((sm (amtQ S) i) + (0))), (4, .ref (g.ad 8 (i))), (0, .ref (g.ad 1 0)), (1, .int (0))]) hx hb dX12_sum_62 hl (k := 2) rfl rfl (by decide) rfl (fun ls hl => ?_)
            refine lv_goto (tgt := 4) hx hb dX12_sum_65 (by decide) ?_
            refine ih4 (i + 1) (by omega) ls ?_
            rw [nI_succ i, sm_t (f := amtQ S) (by unfold amtQ; rw [if_pos c_48])]
            exact lv_sub hl [0, 1, 3, 4] rfl
        · exact absurd (by decide) c_27
  exact loop4 (S.nc) 0 (by omega) ls (lv_sub hl [0, 1, 2, 3] rfl)
set_option maxRecDepth 100000 in
set_option maxHeartbeats 4000000 in
theorem c_X8_goTogether (l : Launch) (E : EE) {S : St} {th : Int32} {g : Gh} (hI : Inv S) {c9 : Nat} (hc : c9 < S.nc) {r9 : Nat} (hr9 : r9 < S.nr) : RM l E yX8_goTogether cX8_goTogether 4 .boolean (rD 3) [.ref (g.ad 12 0), .int (nI c9), .int (nI r9)] (RB E S th g) (.int (goA S c9 (nI r9) (S.ra r9) (S.rd r9) (S.rx r9) (S.ro r9))) := by
  refine rm_of rfl (Nat.le_of_ble_eq_true rfl) (fun p e s m below meth c ls hx hb hr hml (hown : s.vm.findClass RX8 = some m.cls) hC hlocks hR hl => ?_)
  have hl : lv_has ls 4 [(0, .ref (g.ad 12 0)), (1, .int (nI c9)), (2, .int (nI r9))] := hl
  refine lv_aload_n hx hb dX8_goTogether_0 rfl (lv_at hl 0 rfl) ?_
  refine gf_X8_2 hx hb hown hC (RB.dk hR) (zf_X8_21 hC.1) dX8_goTogether_1 ?_
  refine lv_iload_n hx hb dX8_goTogether_4 rfl (lv_at hl 1 rfl) ?_
  refine rc_V (As := [.int (nI c9)]) hx hb hml hown hC hl (c_getLB l E 2 rfl hR (by decide) hc) (rec_of hC (RB.ls hR (by decide : 2 < 4)) rfl) (zm_X8_39 hC.1) kv_Jx4a65c_get_915e3 (RB.gp hR 2 (by decide) hc) rfl rfl (rD_le (by decide) (by decide)) ⟨rfl, rfl⟩ (Nat.le_of_ble_eq_true rfl) ⟨Nat.zero_le _, Nat.zero_le _⟩ dX8_goTogether_5 ?_
  refine g_cast hx hb hown hC (RB.ch hR hc) rfl (zc_X8_83 hC.1) dX8_goTogether_8 ?_
  refine lv_astore_n (lv' := [(3, .ref (g.ad 8 (c9))), (0, .ref (g.ad 12 0)), (1, .int (nI c9)), (2, .int (nI r9))]) hx hb dX8_goTogether_11 rfl hl (by decide) rfl (fun ls hl => ?_)
  refine lv_aload_n hx hb dX8_goTogether_12 rfl (lv_at hl 0 rfl) ?_
  refine gf_X7_8 hx hb hown hC (RB.ch hR hc) (zf_X8_101 hC.1) dX8_goTogether_13 ?_
  refine lv_if_ne (tgt := 69) hx hb dX8_goTogether_16 (by decide) (fun c_16 => ?_) (fun c_16 => ?_)
  ·
    refine lv_iconst (v := 0) hx hb dX8_goTogether_69 (by decide) ?_
    exact rr_z hx hb hr hlocks (by decide) (by unfold goA; rw [if_neg c_16]) dX8_goTogether_70
  ·
    refine lv_aload_n hx hb dX8_goTogether_19 rfl (lv_at hl 1 rfl) ?_
    refine gf_X8_3 hx hb hown hC (RB.dk hR) (zf_X8_24 hC.1) dX8_goTogether_20 ?_
    refine lv_iload_n hx hb dX8_goTogether_23 rfl (lv_at hl 3 rfl) ?_
    refine rc_V (As := [.int (nI r9)]) hx hb hml hown hC hl (c_getLB l E 3 rfl hR (by decide) hr9) (rec_of hC (RB.ls hR (by decide : 3 < 4)) rfl) (zm_X8_39 hC.1) kv_Jx4a65c_get_915e3 (RB.gp hR 3 (by decide) hr9) rfl rfl (rD_le (by decide) (by decide)) ⟨rfl, rfl⟩ (Nat.le_of_ble_eq_true rfl) ⟨Nat.zero_le _, Nat.zero_le _⟩ dX8_goTogether_24 ?_
    refine g_cast hx hb hown hC (RB.re hR hr9) rfl (zc_X8_121 hC.1) dX8_goTogether_27 ?_
    refine gf_X10_3 hx hb hown hC (RB.re hR hr9) (zf_X8_123 hC.1) dX8_goTogether_30 ?_
    refine lv_iconst (v := (-1)) hx hb dX8_goTogether_33 (by decide) ?_
    refine lv_icmp_ne (tgt := 69) hx hb dX8_goTogether_34 (by decide) (fun c_34 => ?_) (fun c_34 => ?_)
    ·
      have c_34 : ¬ S.ro r9 = none := fun h => c_34 ((irI_m (fun j hj => Nat.lt_trans (hI.ro hr9 hj) hI.nc31)).mpr h)
      refine lv_iconst (v := 0) hx hb dX8_goTogether_69 (by decide) ?_
      exact rr_z hx hb hr hlocks (by decide) (by unfold goA; rw [if_pos c_16, if_neg c_34]) dX8_goTogether_70
    ·
      have c_34 : S.ro r9 = none := (irI_m (fun j hj => Nat.lt_trans (hI.ro hr9 hj) hI.nc31)).mp c_34
      refine lv_aload_n hx hb dX8_goTogether_37 rfl (lv_at hl 0 rfl) ?_
      refine gf_X7_7 hx hb hown hC (RB.ch hR hc) (zf_X8_126 hC.1) dX8_goTogether_38 ?_
      refine lv_iload_n hx hb dX8_goTogether_41 rfl (lv_at hl 3 rfl) ?_
      refine g_zald hx hb hC (RB.sp hR hc) ⟨rfl, (by have := hI.nr; omega), by decide⟩ dX8_goTogether_42 ?_
      rw [spB_e (by have := hI.nr; omega)]
      refine lv_if_ne (tgt := 69) hx hb dX8_goTogether_43 (by decide) (fun c_43 => ?_) (fun c_43 => ?_)
      ·
        refine lv_iconst (v := 0) hx hb dX8_goTogether_69 (by decide) ?_
        exact rr_z hx hb hr hlocks (by decide) (by unfold goA; rw [if_pos c_16, if_pos c_34, if_neg c_43]) dX8_goTogether_70
      ·
        refine lv_aload_n hx hb dX8_goTogether_46 rfl (lv_at hl 0 rfl) ?_
        refine lv_aload_n hx hb dX8_goTogether_47 rfl (lv_at hl 1 rfl) ?_
        refine gf_X8_3 hx hb hown hC (RB.dk hR) (zf_X8_24 hC.1) dX8_goTogether_48 ?_
        refine lv_iload_n hx hb dX8_goTogether_51 rfl (lv_at hl 3 rfl) ?_
        refine rc_V (As := [.int (nI r9)]) hx hb hml hown hC hl (c_getLB l E 3 rfl hR (by decide) hr9) (rec_of hC (RB.ls hR (by decide : 3 < 4)) rfl) (zm_X8_39 hC.1) kv_Jx4a65c_get_915e3 (RB.gp hR 3 (by decide) hr9) rfl rfl (rD_le (by decide) (by decide)) ⟨rfl, rfl⟩ (Nat.le_of_ble_eq_true rfl) ⟨Nat.zero_le _, Nat.zero_le _⟩ dX8_goTogether_52 ?_
        refine g_cast hx hb hown hC (RB.re hR hr9) rfl (zc_X8_121 hC.1) dX8_goTogether_55 ?_
        refine rc_V (As := [.ref (g.ad 9 (r9))]) hx hb hml hown hC hl (c_X7_score l E hI hc (g.ad 9 (r9)) (S.ra (r9)) (S.rd (r9)) (S.rx (r9)) (irI (S.ro (r9)))) (rec_of hC (RB.ch hR hc) rfl) (zm_X8_130 hC.1) kv_X7_score ⟨hR, (RB.re hR hr9)⟩ rfl rfl (rD_le (by decide) (by decide)) ⟨rfl, rfl⟩ (Nat.le_of_ble_eq_true rfl) ⟨Nat.zero_le _, Nat.zero_le _⟩ dX8_goTogether_58 ?_
        refine lv_iconst (v := (-1)) hx hb dX8_goTogether_61 (by decide) ?_
        refine lv_icmp_eq (tgt := 69) hx hb dX8_goTogether_62 (by decide) (fun c_62 => ?_) (fun c_62 => ?_)
        ·
          refine lv_iconst (v := 0) hx hb dX8_goTogether_69 (by decide) ?_
          exact rr_z hx hb hr hlocks (by decide) (by unfold goA; rw [if_pos c_16, if_pos c_34, if_pos c_43, if_pos c_62]) dX8_goTogether_70
        ·
          refine lv_iconst (v := 1) hx hb dX8_goTogether_65 (by decide) ?_
          refine lv_goto (tgt := 70) hx hb dX8_goTogether_66 (by decide) ?_
          exact rr_z hx hb hr hlocks (by decide) (by unfold goA; rw [if_pos c_16, if_pos c_34, if_pos c_43, if_neg c_62]) dX8_goTogether_70
