set_option maxRecDepth 100000 in
set_option maxHeartbeats 4000000 in
theorem c_X12_waitingFor (l : Launch) (E : EE) {S : St} {th : Int32} {g : Gh} (hI : Inv S) {p9 : Nat} (hp : p9 < S.np) : RM l E yX12_waitingFor cX12_waitingFor 4 .int (rD 5) [.ref (g.ad 1 0), .int (nI p9)] (RB E S th g) (.int (toApA S p9)) := by
  refine rm_of rfl (Nat.le_of_ble_eq_true rfl) (fun p e s m below meth c ls hx hb hr hml (hown : s.vm.findClass RX12 = some m.cls) hC hlocks hR hl => ?_)
  have hl : lv_has ls 4 [(0, .ref (g.ad 1 0)), (1, .int (nI p9))] := hl
  refine lv_iconst (v := 0) hx hb dX12_waitingFor_0 (by decide) ?_
  refine lv_istore_n (lv' := [(2, .int (0)), (0, .ref (g.ad 1 0)), (1, .int (nI p9))]) hx hb dX12_waitingFor_1 rfl hl (by decide) rfl (fun ls hl => ?_)
  refine lv_iconst (v := 0) hx hb dX12_waitingFor_2 (by decide) ?_
  refine lv_istore_n (lv' := [(3, .int (0)), (2, .int (0)), (0, .ref (g.ad 1 0)), (1, .int (nI p9))]) hx hb dX12_waitingFor_3 rfl hl (by decide) rfl (fun ls hl => ?_)
  have loop4 : ∀ (r4 i : Nat), i + r4 = S.nc → ∀ ls, lv_has ls 4 [(3, .int (nI (i))), (2, .int (sm (toApQ S p9) i)), (0, .ref (g.ad 1 0)), (1, .int (nI p9))] → W p l e (rD 5) s m ([.ref (g.ad 1 0), .int (nI p9)] : List Value).toArray below meth c s.heap [] 0 0 (MQ below (RQ (.int (toApA S p9))) ([.ref (g.ad 1 0), .int (nI p9)] : List Value).toArray s 0 0 (fun _ => False)) (F0 m 4 ls []) := by
    intro r4
    induction r4 with
    | zero =>
      intro i hE4 ls hl
      have hN4 : i = S.nc := by omega
      subst hN4
      refine lv_iload_n hx hb dX12_waitingFor_4 rfl (lv_at hl 0 rfl) ?_
      refine lv_aload_n hx hb dX12_waitingFor_5 rfl (lv_at hl 2 rfl) ?_
      refine gf_X12_1 hx hb hown hC (RB.x hR) (zf_X12_10 hC.1) dX12_waitingFor_6 ?_
      refine gf_X8_2 hx hb hown hC (RB.dk hR) (zf_X12_95 hC.1) dX12_waitingFor_9 ?_
      refine rc_V (As := []) hx hb hml hown hC hl (c_size l E _ _ _ _) (rec_of hC (RB.ls hR (by decide : 2 < 4)) rfl) (zm_X12_28 hC.1) kv_Jx4a65c_size_8abf5 (RB.ls hR (by decide : 2 < 4)) rfl rfl (rD_le (by decide) (by decide)) ⟨rfl, rfl⟩ (Nat.le_of_ble_eq_true rfl) ⟨Nat.zero_le _, Nat.zero_le _⟩ dX12_waitingFor_12 ?_
      refine lv_icmp_ge (tgt := 57) hx hb dX12_waitingFor_15 (by decide) (fun c_15 => ?_) (fun c_15 => ?_)
      ·
        refine lv_iload_n hx hb dX12_waitingFor_57 rfl (lv_at hl 1 rfl) ?_
        exact rr_i hx hb hr hlocks rfl dX12_waitingFor_58
      · exact absurd (Int32.le_refl _) c_15
    | succ r4 ih4 =>
      intro i hE4 ls hl
      have hlt4 : i < S.nc := by omega
      refine lv_iload_n hx hb dX12_waitingFor_4 rfl (lv_at hl 0 rfl) ?_
      refine lv_aload_n hx hb dX12_waitingFor_5 rfl (lv_at hl 2 rfl) ?_
      refine gf_X12_1 hx hb hown hC (RB.x hR) (zf_X12_10 hC.1) dX12_waitingFor_6 ?_
      refine gf_X8_2 hx hb hown hC (RB.dk hR) (zf_X12_95 hC.1) dX12_waitingFor_9 ?_
      refine rc_V (As := []) hx hb hml hown hC hl (c_size l E _ _ _ _) (rec_of hC (RB.ls hR (by decide : 2 < 4)) rfl) (zm_X12_28 hC.1) kv_Jx4a65c_size_8abf5 (RB.ls hR (by decide : 2 < 4)) rfl rfl (rD_le (by decide) (by decide)) ⟨rfl, rfl⟩ (Nat.le_of_ble_eq_true rfl) ⟨Nat.zero_le _, Nat.zero_le _⟩ dX12_waitingFor_12 ?_
      refine lv_icmp_ge (tgt := 57) hx hb dX12_waitingFor_15 (by decide) (fun c_15 => ?_) (fun c_15 => ?_)
      · exact absurd c_15 (nI_ge hlt4 hI.nc31)
      ·
        refine lv_iload_n hx hb dX12_waitingFor_18 rfl (lv_at hl 1 rfl) ?_
        refine lv_aload_n hx hb dX12_waitingFor_19 rfl (lv_at hl 2 rfl) ?_
        refine gf_X12_1 hx hb hown hC (RB.x hR) (zf_X12_10 hC.1) dX12_waitingFor_20 ?_
        refine lv_aload_n hx hb dX12_waitingFor_23 rfl (lv_at hl 2 rfl) ?_
        refine gf_X12_1 hx hb hown hC (RB.x hR) (zf_X12_10 hC.1) dX12_waitingFor_24 ?_
        refine gf_X8_2 hx hb hown hC (RB.dk hR) (zf_X12_95 hC.1) dX12_waitingFor_27 ?_
        refine lv_iload_n hx hb dX12_waitingFor_30 rfl (lv_at hl 0 rfl) ?_
        refine rc_V (As := [.int (nI (i))]) hx hb hml hown hC hl (c_getLB l E 2 rfl hR (by decide) hlt4) (rec_of hC (RB.ls hR (by decide : 2 < 4)) rfl) (zm_X12_38 hC.1) kv_Jx4a65c_get_915e3 (RB.gp hR 2 (by decide) hlt4) rfl rfl (rD_le (by decide) (by decide)) ⟨rfl, rfl⟩ (Nat.le_of_ble_eq_true rfl) ⟨Nat.zero_le _, Nat.zero_le _⟩ dX12_waitingFor_31 ?_
        refine g_cast hx hb hown hC (RB.ch hR hlt4) rfl (zc_X12_98 hC.1) dX12_waitingFor_34 ?_
        refine rc_V (As := [.ref (g.ad 8 (i))]) hx hb hml hown hC hl (c_X8_approver l E hI hlt4) (rec_of hC (RB.dk hR) rfl) (zm_X12_113 hC.1) kv_X8_approver hR rfl rfl (rD_le (by decide) (by decide)) ⟨rfl, rfl⟩ (Nat.le_of_ble_eq_true rfl) ⟨Nat.zero_le _, Nat.zero_le _⟩ dX12_waitingFor_37 ?_
        refine lv_iload_n hx hb dX12_waitingFor_40 rfl (lv_at hl 3 rfl) ?_
        refine lv_icmp_ne (tgt := 48) hx hb dX12_waitingFor_41 (by decide) (fun c_41 => ?_) (fun c_41 => ?_)
        ·
          have c_41 : ¬ apprA S i = some p9 := fun h => c_41 ((irI_s (fun j hj => Nat.lt_trans (apprA_lt hI hlt4 hj) hI.np31) (Nat.lt_trans hp hI.np31)).mpr h)
          refine lv_iconst (v := 0) hx hb dX12_waitingFor_48 (by decide) ?_
          refine lv_iadd hx hb dX12_waitingFor_49 ?_
          refine lv_istore_n (lv' := [(2, .int ((sm (toApQ S p9) i) + (0))), (3, .int (nI (i))), (0, .ref (g.ad 1 0)), (1, .int (nI p9))]) hx hb dX12_waitingFor_50 rfl hl (by decide) rfl (fun ls hl => ?_)
          refine lv_iinc (v := nI (i) + 1) (lv' := [(3, .int (nI (i) + 1)), (2, .int ((sm (toApQ S p9) i) + (0))), (0, .ref (g.ad 1 0)), (1, .int (nI p9))]) hx hb dX12_waitingFor_51 hl (k := 1) rfl rfl (by decide) rfl (fun ls hl => ?_)
          refine lv_goto (tgt := 4) hx hb dX12_waitingFor_54 (by decide) ?_
          refine ih4 (i + 1) (by omega) ls ?_
          rw [nI_succ i, sm_t (f := toApQ S p9) (by unfold toApQ; rw [if_neg c_41])]
          exact lv_sub hl [0, 1, 2, 3] rfl
        ·
          have c_41 : apprA S i = some p9 := (irI_s (fun j hj => Nat.lt_trans (apprA_lt hI hlt4 hj) hI.np31) (Nat.lt_trans hp hI.np31)).mp c_41
          refine lv_iconst (v := 1) hx hb dX12_waitingFor_44 (by decide) ?_
          refine lv_goto (tgt := 49) hx hb dX12_waitingFor_45 (by decide) ?_
          refine lv_iadd hx hb dX12_waitingFor_49 ?_
          refine lv_istore_n (lv' := [(2, .int ((sm (toApQ S p9) i) + (1))), (3, .int (nI (i))), (0, .ref (g.ad 1 0)), (1, .int (nI p9))]) hx hb dX12_waitingFor_50 rfl hl (by decide) rfl (fun ls hl => ?_)
          refine lv_iinc (v := nI (i) + 1) (lv' := [(3, .int (nI (i) + 1)), (2, .int ((sm (toApQ S p9) i) + (1))), (0, .ref (g.ad 1 0)), (1, .int (nI p9))]) hx hb dX12_waitingFor_51 hl (k := 1) rfl rfl (by decide) rfl (fun ls hl => ?_)
          refine lv_goto (tgt := 4) hx hb dX12_waitingFor_54 (by decide) ?_
          refine ih4 (i + 1) (by omega) ls ?_
          rw [nI_succ i, sm_t (f := toApQ S p9) (by unfold toApQ; rw [if_pos c_41])]
          exact lv_sub hl [0, 1, 2, 3] rfl
  exact loop4 (S.nc) 0 (by omega) ls (lv_sub hl [0, 1, 2, 3] rfl)
set_option maxRecDepth 100000 in
set_option maxHeartbeats 4000000 in
theorem c_X12_thrown (l : Launch) (E : EE) {S : St} {th : Int32} {g : Gh} (hI : Inv S)  : RM l E yX12_thrown cX12_thrown 1 .int (rD 0) [.ref (g.ad 1 0)] (RB E S th g) (.int th) := by
  refine rm_of rfl (Nat.le_of_ble_eq_true rfl) (fun p e s m below meth c ls hx hb hr hml (hown : s.vm.findClass RX12 = some m.cls) hC hlocks hR hl => ?_)
  have hl : lv_has ls 1 [(0, .ref (g.ad 1 0))] := hl
  refine lv_aload_n hx hb dX12_thrown_0 rfl (lv_at hl 0 rfl) ?_
  refine gf_X12_0 hx hb hown hC (RB.x hR) (zf_X12_16 hC.1) dX12_thrown_1 ?_
  exact rr_i hx hb hr hlocks rfl dX12_thrown_4
