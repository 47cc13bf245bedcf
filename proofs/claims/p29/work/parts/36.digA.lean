theorem fl_s (f : Nat → Int64 → Int64) (n : Nat) (d : Int64) : fl f (n + 1) d = f n (fl f n d) := rfl
theorem fl_0 (f : Nat → Int64 → Int64) (d : Int64) : fl f 0 d = d := rfl
set_option maxRecDepth 100000 in
set_option maxHeartbeats 4000000 in
theorem c_X6_withPeople (l : Launch) (E : EE) {S : St} {g : Gh} (hI : Inv S) (a : Int64) : RM l E yX6_withPeople cX6_withPeople 7 .long (rD 6) [.ref (g.ad 1 0), .long (a)] (RA E S g) (.long (pplA S a)) := by
  refine rm_of rfl (Nat.le_of_ble_eq_true rfl) (fun p e s m below meth c ls hx hb hr hml (hown : s.vm.findClass RX6 = some m.cls) hC hlocks hR hl => ?_)
  have hl : lv_has ls 7 [(0, .ref (g.ad 1 0)), (1, .long (a))] := hl
  refine lv_lload_n hx hb dX6_withPeople_0 rfl (lv_at hl 1 rfl) ?_
  refine lv_lstore_n (lv' := [(3, .long (a)), (0, .ref (g.ad 1 0)), (1, .long (a))]) hx hb dX6_withPeople_1 rfl hl (by decide) rfl (fun ls hl => ?_)
  refine lv_iconst (v := 0) hx hb dX6_withPeople_2 (by decide) ?_
  refine lv_istore (lv' := [(5, .int (0)), (3, .long (a)), (0, .ref (g.ad 1 0)), (1, .long (a))]) hx hb dX6_withPeople_3 hl (by decide) rfl (fun ls hl => ?_)
  have loop5 : ∀ (r5 i : Nat), i + r5 = S.np → ∀ ls, lv_has ls 7 [(5, .int (nI (i))), (3, .long (fl (fun p d => fl (fun k d => mixL (mixL d (spendA S p k (nI 0))) (spendA S p k (nI 1))) 4 (fl (fun w d => mixL d (ofPersonA S p w)) 7 d)) i a)), (0, .ref (g.ad 1 0)), (1, .long (a))] → W p l e (rD 6) s m ([.ref (g.ad 1 0), .long (a)] : List Value).toArray below meth c s.heap [] 0 0 (MQ below (RQ (.long (pplA S a))) ([.ref (g.ad 1 0), .long (a)] : List Value).toArray s 0 0 (fun _ => False)) (F0 m 5 ls []) := by
    intro r5
    induction r5 with
    | zero =>
      intro i hE5 ls hl
      have hN5 : i = S.np := by omega
      subst hN5
      refine lv_iload hx hb dX6_withPeople_5 (lv_at hl 0 rfl) ?_
      refine lv_aload_n hx hb dX6_withPeople_7 rfl (lv_at hl 2 rfl) ?_
      refine gf_X6_0 hx hb hown hC (RA.x hR) (zf_X6_10 hC.1) dX6_withPeople_8 ?_
      refine rc_V (As := []) hx hb hml hown hC hl (c_size l E _ _ _ _) (rec_of hC (RA.ls hR (by decide : 0 < 4)) rfl) (zm_X6_51 hC.1) kv_Jx4a65c_size_8abf5 (RA.ls hR (by decide : 0 < 4)) rfl rfl (rD_le (by decide) (by decide)) ⟨rfl, rfl⟩ (Nat.le_of_ble_eq_true rfl) ⟨Nat.zero_le _, Nat.zero_le _⟩ dX6_withPeople_11 ?_
      refine lv_icmp_ge (tgt := 95) hx hb dX6_withPeople_14 (by decide) (fun c_14 => ?_) (fun c_14 => ?_)
      ·
        refine lv_lload_n hx hb dX6_withPeople_95 rfl (lv_at hl 1 rfl) ?_
        exact rr_l hx hb hr hlocks rfl dX6_withPeople_96
      · exact absurd (Int32.le_refl _) c_14
    | succ r5 ih5 =>
      intro i hE5 ls hl
      have hlt5 : i < S.np := by omega
      refine lv_iload hx hb dX6_withPeople_5 (lv_at hl 0 rfl) ?_
      refine lv_aload_n hx hb dX6_withPeople_7 rfl (lv_at hl 2 rfl) ?_
      refine gf_X6_0 hx hb hown hC (RA.x hR) (zf_X6_10 hC.1) dX6_withPeople_8 ?_
      refine rc_V (As := []) hx hb hml hown hC hl (c_size l E _ _ _ _) (rec_of hC (RA.ls hR (by decide : 0 < 4)) rfl) (zm_X6_51 hC.1) kv_Jx4a65c_size_8abf5 (RA.ls hR (by decide : 0 < 4)) rfl rfl (rD_le (by decide) (by decide)) ⟨rfl, rfl⟩ (Nat.le_of_ble_eq_true rfl) ⟨Nat.zero_le _, Nat.zero_le _⟩ dX6_withPeople_11 ?_
      refine lv_icmp_ge (tgt := 95) hx hb dX6_withPeople_14 (by decide) (fun c_14 => ?_) (fun c_14 => ?_)
      · exact absurd c_14 (nI_ge hlt5 hI.np31)
      ·
        refine lv_iconst (v := 0) hx hb dX6_withPeople_17 (by decide) ?_
        refine lv_istore (lv' := [(6, .int (0)), (5, .int (nI (i))), (3, .long (fl (fun p d => fl (fun k d => mixL (mixL d (spendA S p k (nI 0))) (spendA S p k (nI 1))) 4 (fl (fun w d => mixL d (ofPersonA S p w)) 7 d)) i a)), (0, .ref (g.ad 1 0)), (1, .long (a))]) hx hb dX6_withPeople_18 hl (by decide) rfl (fun ls hl => ?_)
        have loop20 : ∀ (r20 j : Nat), j + r20 = 7 → ∀ ls, lv_has ls 7 [(6, .int (nI (j))), (5, .int (nI (i))), (3, .long (fl (fun w d => mixL d (ofPersonA S i w)) j (fl (fun p d => fl (fun k d => mixL (mixL d (spendA S p k (nI 0))) (spendA S p k (nI 1))) 4 (fl (fun w d => mixL d (ofPersonA S p w)) 7 d)) i a))), (0, .ref (g.ad 1 0)), (1, .long (a))] → W p l e (rD 6) s m ([.ref (g.ad 1 0), .long (a)] : List Value).toArray below meth c s.heap [] 0 0 (MQ below (RQ (.long (pplA S a))) ([.ref (g.ad 1 0), .long (a)] : List Value).toArray s 0 0 (fun _ => False)) (F0 m 20 ls []) := by
          intro r20
          induction r20 with
          | zero =>
            intro j hE20 ls hl
            have hN20 : j = 7 := by omega
            subst hN20
            refine lv_iload hx hb dX6_withPeople_20 (lv_at hl 0 rfl) ?_
            refine lv_bipush (v := 6) hx hb dX6_withPeople_22 (by decide) ?_
            refine lv_icmp_gt (tgt := 46) hx hb dX6_withPeople_24 (by decide) (fun c_24 => ?_) (fun c_24 => ?_)
            ·
              refine lv_iconst (v := 0) hx hb dX6_withPeople_46 (by decide) ?_
              refine lv_istore (lv' := [(6, .int (0)), (5, .int (nI (i))), (3, .long (fl (fun w d => mixL d (ofPersonA S i w)) 7 (fl (fun p d => fl (fun k d => mixL (mixL d (spendA S p k (nI 0))) (spendA S p k (nI 1))) 4 (fl (fun w d => mixL d (ofPersonA S p w)) 7 d)) i a))), (0, .ref (g.ad 1 0)), (1, .long (a))]) hx hb dX6_withPeople_47 hl (by decide) rfl (fun ls hl => ?_)
              have loop49 : ∀ (r49 k : Nat), k + r49 = 4 → ∀ ls, lv_has ls 7 [(6, .int (nI (k))), (5, .int (nI (i))), (3, .long (fl (fun k d => mixL (mixL d (spendA S i k (nI 0))) (spendA S i k (nI 1))) k (fl (fun w d => mixL d (ofPersonA S i w)) 7 (fl (fun p d => fl (fun k d => mixL (mixL d (spendA S p k (nI 0))) (spendA S p k (nI 1))) 4 (fl (fun w d => mixL d (ofPersonA S p w)) 7 d)) i a)))), (0, .ref (g.ad 1 0)), (1, .long (a))] → W p l e (rD 6) s m ([.ref (g.ad 1 0), .long (a)] : List Value).toArray below meth c s.heap [] 0 0 (MQ below (RQ (.long (pplA S a))) ([.ref (g.ad 1 0), .long (a)] : List Value).toArray s 0 0 (fun _ => False)) (F0 m 49 ls []) := by
                intro r49
                induction r49 with
                | zero =>
                  intro k hE49 ls hl
                  have hN49 : k = 4 := by omega
                  subst hN49
                  refine lv_iload hx hb dX6_withPeople_49 (lv_at hl 0 rfl) ?_
                  refine lv_iconst (v := 4) hx hb dX6_withPeople_51 (by decide) ?_
                  refine lv_icmp_ge (tgt := 89) hx hb dX6_withPeople_52 (by decide) (fun c_52 => ?_) (fun c_52 => ?_)
                  ·
                    refine lv_iinc (v := nI (i) + 1) (lv' := [(5, .int (nI (i) + 1)), (6, .int (nI (4))), (3, .long (fl (fun k d => mixL (mixL d (spendA S i k (nI 0))) (spendA S i k (nI 1))) 4 (fl (fun w d => mixL d (ofPersonA S i w)) 7 (fl (fun p d => fl (fun k d => mixL (mixL d (spendA S p k (nI 0))) (spendA S p k (nI 1))) 4 (fl (fun w d => mixL d (ofPersonA S p w)) 7 d)) i a)))), (0, .ref (g.ad 1 0)), (1, .long (a))]) hx hb dX6_withPeople_89 hl (k := 1) rfl rfl (by decide) rfl (fun ls hl => ?_)
                    refine lv_goto (tgt := 5) hx hb dX6_withPeople_92 (by decide) ?_
                    refine ih5 (i + 1) (by omega) ls ?_
                    rw [nI_succ i, fl_s _ i _]
                    exact lv_sub hl [0, 2, 3, 4] rfl
                  · exact absurd (by decide) c_52
                | succ r49 ih49 =>
                  intro k hE49 ls hl
                  have hlt49 : k < 4 := by omega
                  refine lv_iload hx hb dX6_withPeople_49 (lv_at hl 0 rfl) ?_
                  refine lv_iconst (v := 4) hx hb dX6_withPeople_51 (by decide) ?_
                  refine lv_icmp_ge (tgt := 89) hx hb dX6_withPeople_52 (by decide) (fun c_52 => ?_) (fun c_52 => ?_)
                  · exact absurd c_52 (show ¬ (4 : Int32) ≤ nI k from nI_ge (b := 4) hlt49 (by decide))
                  ·
                    refine lv_lload_n hx hb dX6_withPeople_55 rfl (lv_at hl 2 rfl) ?_
                    refine lv_aload_n hx hb dX6_withPeople_56 rfl (lv_at hl 3 rfl) ?_
                    refine lv_iload hx hb dX6_withPeople_57 (lv_at hl 1 rfl) ?_
                    refine lv_iload hx hb dX6_withPeople_59 (lv_at hl 0 rfl) ?_
                    refine lv_iconst (v := 0) hx hb dX6_withPeople_61 (by decide) ?_
                    refine rc_V (As := [.int (nI (i)), .int (nI (k)), .int (0)]) hx hb hml hown hC hl (c_X6_maySpend l E hI (p9 := i) hlt5 (k9 := k) hlt49 (l9 := 0) (by decide)) (rec_of hC (RA.x hR) rfl) (zm_X6_417 hC.1) kv_X6_maySpend hR rfl rfl (rD_le (by decide) (by decide)) ⟨rfl, rfl⟩ (Nat.le_of_ble_eq_true rfl) ⟨Nat.zero_le _, Nat.zero_le _⟩ dX6_withPeople_62 ?_
                    refine rc_S (As := [.long (fl (fun k d => mixL (mixL d (spendA S i k (nI 0))) (spendA S i k (nI 1))) k (fl (fun w d => mixL d (ofPersonA S i w)) 7 (fl (fun p d => fl (fun k d => mixL (mixL d (spendA S p k (nI 0))) (spendA S p k (nI 1))) 4 (fl (fun w d => mixL d (ofPersonA S p w)) 7 d)) i a))), .int (spendA S (i) (k) (nI 0))]) hx hb hml hown hC hl (c_X6_mixed l E hI (fl (fun k d => mixL (mixL d (spendA S i k (nI 0))) (spendA S i k (nI 1))) k (fl (fun w d => mixL d (ofPersonA S i w)) 7 (fl (fun p d => fl (fun k d => mixL (mixL d (spendA S p k (nI 0))) (spendA S p k (nI 1))) 4 (fl (fun w d => mixL d (ofPersonA S p w)) 7 d)) i a))) (spendA S (i) (k) (nI 0))) (zm_X6_300 hC.1) kv_X6_mixed hR rfl rfl (rD_le (by decide) (by decide)) ⟨rfl, rfl⟩ (Nat.le_of_ble_eq_true rfl) ⟨Nat.zero_le _, Nat.zero_le _⟩ dX6_withPeople_65 ?_
                    refine lv_lstore_n (lv' := [(3, .long (mixL (fl (fun k d => mixL (mixL d (spendA S i k (nI 0))) (spendA S i k (nI 1))) k (fl (fun w d => mixL d (ofPersonA S i w)) 7 (fl (fun p d => fl (fun k d => mixL (mixL d (spendA S p k (nI 0))) (spendA S p k (nI 1))) 4 (fl (fun w d => mixL d (ofPersonA S p w)) 7 d)) i a))) (spendA S (i) (k) (nI 0)))), (6, .int (nI (k))), (5, .int (nI (i))), (0, .ref (g.ad 1 0)), (1, .long (a))]) hx hb dX6_withPeople_68 rfl hl (by decide) rfl (fun ls hl => ?_)
                    refine lv_lload_n hx hb dX6_withPeople_69 rfl (lv_at hl 0 rfl) ?_
                    refine lv_aload_n hx hb dX6_withPeople_70 rfl (lv_at hl 3 rfl) ?_
                    refine lv_iload hx hb dX6_withPeople_71 (lv_at hl 2 rfl) ?_
                    refine lv_iload hx hb dX6_withPeople_73 (lv_at hl 1 rfl) ?_
                    refine lv_iconst (v := 1) hx hb dX6_withPeople_75 (by decide) ?_
                    refine rc_V (As := [.int (nI (i)), .int (nI (k)), .int (1)]) hx hb hml hown hC hl (c_X6_maySpend l E hI (p9 := i) hlt5 (k9 := k) hlt49 (l9 := 1) (by decide)) (rec_of hC (RA.x hR) rfl) (zm_X6_417 hC.1) kv_X6_maySpend hR rfl rfl (rD_le (by decide) (by decide)) ⟨rfl, rfl⟩ (Nat.le_of_ble_eq_true rfl) ⟨Nat.zero_le _, Nat.zero_le _⟩ dX6_withPeople_76 ?_
                    refine rc_S (As := [.long (mixL (fl (fun k d => mixL (mixL d (spendA S i k (nI 0))) (spendA S i k (nI 1))) k (fl (fun w d => mixL d (ofPersonA S i w)) 7 (fl (fun p d => fl (fun k d => mixL (mixL d (spendA S p k (nI 0))) (spendA S p k (nI 1))) 4 (fl (fun w d => mixL d (ofPersonA S p w)) 7 d)) i a))) (spendA S (i) (k) (nI 0))), .int (spendA S (i) (k) (nI 1))]) hx hb hml hown hC hl (c_X6_mixed l E hI (mixL (fl (fun k d => mixL (mixL d (spendA S i k (nI 0))) (spendA S i k (nI 1))) k (fl (fun w d => mixL d (ofPersonA S i w)) 7 (fl (fun p d => fl (fun k d => mixL (mixL d (spendA S p k (nI 0))) (spendA S p k (nI 1))) 4 (fl (fun w d => mixL d (ofPersonA S p w)) 7 d)) i a))) (spendA S (i) (k) (nI 0))) (spendA S (i) (k) (nI 1))) (zm_X6_300 hC.1) kv_X6_mixed hR rfl rfl (rD_le (by decide) (by decide)) ⟨rfl, rfl⟩ (Nat.le_of_ble_eq_true rfl) ⟨Nat.zero_le _, Nat.zero_le _⟩ dX6_withPeople_79 ?_
                    refine lv_lstore_n (lv' := [(3, .long (mixL (mixL (fl (fun k d => mixL (mixL d (spendA S i k (nI 0))) (spendA S i k (nI 1))) k (fl (fun w d => mixL d (ofPersonA S i w)) 7 (fl (fun p d => fl (fun k d => mixL (mixL d (spendA S p k (nI 0))) (spendA S p k (nI 1))) 4 (fl (fun w d => mixL d (ofPersonA S p w)) 7 d)) i a))) (spendA S (i) (k) (nI 0))) (spendA S (i) (k) (nI 1)))), (6, .int (nI (k))), (5, .int (nI (i))), (0, .ref (g.ad 1 0)), (1, .long (a))]) hx hb dX6_withPeople_82 rfl hl (by decide) rfl (fun ls hl => ?_)
                    refine lv_iinc (v := nI (k) + 1) (lv' := [(6, .int (nI (k) + 1)), (3, .long (mixL (mixL (fl (fun k d => mixL (mixL d (spendA S i k (nI 0))) (spendA S i k (nI 1))) k (fl (fun w d => mixL d (ofPersonA S i w)) 7 (fl (fun p d => fl (fun k d => mixL (mixL d (spendA S p k (nI 0))) (spendA S p k (nI 1))) 4 (fl (fun w d => mixL d (ofPersonA S p w)) 7 d)) i a))) (spendA S (i) (k) (nI 0))) (spendA S (i) (k) (nI 1)))), (5, .int (nI (i))), (0, .ref (g.ad 1 0)), (1, .long (a))]) hx hb dX6_withPeople_83 hl (k := 1) rfl rfl (by decide) rfl (fun ls hl => ?_)
                    refine lv_goto (tgt := 49) hx hb dX6_withPeople_86 (by decide) ?_
                    refine ih49 (k + 1) (by omega) ls ?_
                    rw [nI_succ k, fl_s _ k _]
                    exact lv_sub hl [0, 2, 1, 3, 4] rfl
              refine loop49 (4) 0 (by omega) ls ?_
              rw [fl_0]
              exact lv_sub hl [0, 1, 2, 3, 4] rfl
            · exact absurd (by decide) c_24
          | succ r20 ih20 =>
            intro j hE20 ls hl
            have hlt20 : j < 7 := by omega
            refine lv_iload hx hb dX6_withPeople_20 (lv_at hl 0 rfl) ?_
            refine lv_bipush (v := 6) hx hb dX6_withPeople_22 (by decide) ?_
            refine lv_icmp_gt (tgt := 46) hx hb dX6_withPeople_24 (by decide) (fun c_24 => ?_) (fun c_24 => ?_)
            · exact absurd c_24 (show ¬ (6 : Int32) < nI j from nI_nlt (a := 6) (by omega) (by decide))
            ·
              refine lv_lload_n hx hb dX6_withPeople_27 rfl (lv_at hl 2 rfl) ?_
              refine lv_aload_n hx hb dX6_withPeople_28 rfl (lv_at hl 3 rfl) ?_
              refine lv_iload hx hb dX6_withPeople_29 (lv_at hl 1 rfl) ?_
              refine lv_iload hx hb dX6_withPeople_31 (lv_at hl 0 rfl) ?_
              refine rc_V (As := [.int (nI (i)), .int (nI (j))]) hx hb hml hown hC hl (c_X6_ofPerson l E hI (p9 := i) hlt5 (w9 := j) (by omega)) (rec_of hC (RA.x hR) rfl) (zm_X6_414 hC.1) kv_X6_ofPerson hR rfl rfl (rD_le (by decide) (by decide)) ⟨rfl, rfl⟩ (Nat.le_of_ble_eq_true rfl) ⟨Nat.zero_le _, Nat.zero_le _⟩ dX6_withPeople_33 ?_
              refine rc_S (As := [.long (fl (fun w d => mixL d (ofPersonA S i w)) j (fl (fun p d => fl (fun k d => mixL (mixL d (spendA S p k (nI 0))) (spendA S p k (nI 1))) 4 (fl (fun w d => mixL d (ofPersonA S p w)) 7 d)) i a)), .int (ofPersonA S (i) (j))]) hx hb hml hown hC hl (c_X6_mixed l E hI (fl (fun w d => mixL d (ofPersonA S i w)) j (fl (fun p d => fl (fun k d => mixL (mixL d (spendA S p k (nI 0))) (spendA S p k (nI 1))) 4 (fl (fun w d => mixL d (ofPersonA S p w)) 7 d)) i a)) (ofPersonA S (i) (j))) (zm_X6_300 hC.1) kv_X6_mixed hR rfl rfl (rD_le (by decide) (by decide)) ⟨rfl, rfl⟩ (Nat.le_of_ble_eq_true rfl) ⟨Nat.zero_le _, Nat.zero_le _⟩ dX6_withPeople_36 ?_
              refine lv_lstore_n (lv' := [(3, .long (mixL (fl (fun w d => mixL d (ofPersonA S i w)) j (fl (fun p d => fl (fun k d => mixL (mixL d (spendA S p k (nI 0))) (spendA S p k (nI 1))) 4 (fl (fun w d => mixL d (ofPersonA S p w)) 7 d)) i a)) (ofPersonA S (i) (j)))), (6, .int (nI (j))), (5, .int (nI (i))), (0, .ref (g.ad 1 0)), (1, .long (a))]) hx hb dX6_withPeople_39 rfl hl (by decide) rfl (fun ls hl => ?_)
              refine lv_iinc (v := nI (j) + 1) (lv' := [(6, .int (nI (j) + 1)), (3, .long (mixL (fl (fun w d => mixL d (ofPersonA S i w)) j (fl (fun p d => fl (fun k d => mixL (mixL d (spendA S p k (nI 0))) (spendA S p k (nI 1))) 4 (fl (fun w d => mixL d (ofPersonA S p w)) 7 d)) i a)) (ofPersonA S (i) (j)))), (5, .int (nI (i))), (0, .ref (g.ad 1 0)), (1, .long (a))]) hx hb dX6_withPeople_40 hl (k := 1) rfl rfl (by decide) rfl (fun ls hl => ?_)
              refine lv_goto (tgt := 20) hx hb dX6_withPeople_43 (by decide) ?_
              refine ih20 (j + 1) (by omega) ls ?_
              rw [nI_succ j, fl_s _ j _]
              exact lv_sub hl [0, 2, 1, 3, 4] rfl
        refine loop20 (7) 0 (by omega) ls ?_
        rw [fl_0]
        exact lv_sub hl [0, 1, 2, 3, 4] rfl
  refine loop5 (S.np) 0 (by omega) ls ?_
  rw [fl_0]
  exact lv_sub hl [0, 1, 2, 3] rfl
set_option maxRecDepth 100000 in
set_option maxHeartbeats 4000000 in
theorem c_X6_withBudgets (l : Launch) (E : EE) {S : St} {g : Gh} (hI : Inv S) (a : Int64) : RM l E yX6_withBudgets cX6_withBudgets 7 .long (rD 6) [.ref (g.ad 1 0), .long (a)] (RA E S g) (.long (budA S a)) := by
  refine rm_of rfl (Nat.le_of_ble_eq_true rfl) (fun p e s m below meth c ls hx hb hr hml (hown : s.vm.findClass RX6 = some m.cls) hC hlocks hR hl => ?_)
  have hl : lv_has ls 7 [(0, .ref (g.ad 1 0)), (1, .long (a))] := hl
  refine lv_lload_n hx hb dX6_withBudgets_0 rfl (lv_at hl 1 rfl) ?_
  refine lv_lstore_n (lv' := [(3, .long (a)), (0, .ref (g.ad 1 0)), (1, .long (a))]) hx hb dX6_withBudgets_1 rfl hl (by decide) rfl (fun ls hl => ?_)
  refine lv_iconst (v := 0) hx hb dX6_withBudgets_2 (by decide) ?_
  refine lv_istore (lv' := [(5, .int (0)), (3, .long (a)), (0, .ref (g.ad 1 0)), (1, .long (a))]) hx hb dX6_withBudgets_3 hl (by decide) rfl (fun ls hl => ?_)
  have loop5 : ∀ (r5 i : Nat), i + r5 = 4 → ∀ ls, lv_has ls 7 [(5, .int (nI (i))), (3, .long (fl (fun k d => fl (fun per d => mixL (mixL d (leftL S k 0 (per + 1))) (leftL S k 1 (per + 1))) 4 d) i a)), (0, .ref (g.ad 1 0)), (1, .long (a))] → W p l e (rD 6) s m ([.ref (g.ad 1 0), .long (a)] : List Value).toArray below meth c s.heap [] 0 0 (MQ below (RQ (.long (budA S a))) ([.ref (g.ad 1 0), .long (a)] : List Value).toArray s 0 0 (fun _ => False)) (F0 m 5 ls []) := by
    intro r5
    induction r5 with
    | zero =>
      intro i hE5 ls hl
      have hN5 : i = 4 := by omega
      subst hN5
      refine lv_iload hx hb dX6_withBudgets_5 (lv_at hl 0 rfl) ?_
      refine lv_iconst (v := 4) hx hb dX6_withBudgets_7 (by decide) ?_
      refine lv_icmp_ge (tgt := 60) hx hb dX6_withBudgets_8 (by decide) (fun c_8 => ?_) (fun c_8 => ?_)
      ·
        refine lv_lload_n hx hb dX6_withBudgets_60 rfl (lv_at hl 1 rfl) ?_
        exact rr_l hx hb hr hlocks rfl dX6_withBudgets_61
      · exact absurd (by decide) c_8
    | succ r5 ih5 =>
      intro i hE5 ls hl
      have hlt5 : i < 4 := by omega
      refine lv_iload hx hb dX6_withBudgets_5 (lv_at hl 0 rfl) ?_
      refine lv_iconst (v := 4) hx hb dX6_withBudgets_7 (by decide) ?_
      refine lv_icmp_ge (tgt := 60) hx hb dX6_withBudgets_8 (by decide) (fun c_8 => ?_) (fun c_8 => ?_)
      · exact absurd c_8 (show ¬ (4 : Int32) ≤ nI i from nI_ge (b := 4) hlt5 (by decide))
      ·
        refine lv_iconst (v := 0) hx hb dX6_withBudgets_11 (by decide) ?_
        refine lv_istore (lv' := [(6, .int (0)), (5, .int (nI (i))), (3, .long (fl (fun k d => fl (fun per d => mixL (mixL d (leftL S k 0 (per + 1))) (leftL S k 1 (per + 1))) 4 d) i a)), (0, .ref (g.ad 1 0)), (1, .long (a))]) hx hb dX6_withBudgets_12 hl (by decide) rfl (fun ls hl => ?_)
        have loop14 : ∀ (r14 j : Nat), j + r14 = 4 → ∀ ls, lv_has ls 7 [(6, .int (nI (j))), (5, .int (nI (i))), (3, .long (fl (fun per d => mixL (mixL d (leftL S i 0 (per + 1))) (leftL S i 1 (per + 1))) j (fl (fun k d => fl (fun per d => mixL (mixL d (leftL S k 0 (per + 1))) (leftL S k 1 (per + 1))) 4 d) i a))), (0, .ref (g.ad 1 0)), (1, .long (a))] → W p l e (rD 6) s m ([.ref (g.ad 1 0), .long (a)] : List Value).toArray below meth c s.heap [] 0 0 (MQ below (RQ (.long (budA S a))) ([.ref (g.ad 1 0), .long (a)] : List Value).toArray s 0 0 (fun _ => False)) (F0 m 14 ls []) := by
          intro r14
          induction r14 with
          | zero =>
            intro j hE14 ls hl
            have hN14 : j = 4 := by omega
            subst hN14
            refine lv_iload hx hb dX6_withBudgets_14 (lv_at hl 0 rfl) ?_
            refine lv_iconst (v := 4) hx hb dX6_withBudgets_16 (by decide) ?_
            refine lv_icmp_ge (tgt := 54) hx hb dX6_withBudgets_17 (by decide) (fun c_17 => ?_) (fun c_17 => ?_)
            ·
              refine lv_iinc (v := nI (i) + 1) (lv' := [(5, .int (nI (i) + 1)), (6, .int (nI (4))), (3, .long (fl (fun per d => mixL (mixL d (leftL S i 0 (per + 1))) (leftL S i 1 (per + 1))) 4 (fl (fun k d => fl (fun per d => mixL (mixL d (leftL S k 0 (per + 1))) (leftL S k 1 (per + 1))) 4 d) i a))), (0, .ref (g.ad 1 0)), (1, .long (a))]) hx hb dX6_withBudgets_54 hl (k := 1) rfl rfl (by decide) rfl (fun ls hl => ?_)
              refine lv_goto (tgt := 5) hx hb dX6_withBudgets_57 (by decide) ?_
              refine ih5 (i + 1) (by omega) ls ?_
              rw [nI_succ i, fl_s _ i _]
              exact lv_sub hl [0, 2, 3, 4] rfl
            · exact absurd (by decide) c_17
          | succ r14 ih14 =>
            intro j hE14 ls hl
            have hlt14 : j < 4 := by omega
            refine lv_iload hx hb dX6_withBudgets_14 (lv_at hl 0 rfl) ?_
            refine lv_iconst (v := 4) hx hb dX6_withBudgets_16 (by decide) ?_
            refine lv_icmp_ge (tgt := 54) hx hb dX6_withBudgets_17 (by decide) (fun c_17 => ?_) (fun c_17 => ?_)
            · exact absurd c_17 (show ¬ (4 : Int32) ≤ nI j from nI_ge (b := 4) hlt14 (by decide))
            ·
              refine lv_lload_n hx hb dX6_withBudgets_20 rfl (lv_at hl 2 rfl) ?_
              refine lv_aload_n hx hb dX6_withBudgets_21 rfl (lv_at hl 3 rfl) ?_
              refine lv_iload hx hb dX6_withBudgets_22 (lv_at hl 1 rfl) ?_
              refine lv_iload hx hb dX6_withBudgets_24 (lv_at hl 0 rfl) ?_
              refine lv_iconst (v := 0) hx hb dX6_withBudgets_26 (by decide) ?_
              refine rc_V (As := [.int (nI (i)), .int (nI (j)), .int (0)]) hx hb hml hown hC hl (c_X6_leftOf l E hI hlt5 hlt14 (0)) (rec_of hC (RA.x hR) rfl) (zm_X6_147 hC.1) kv_X6_leftOf hR rfl rfl (rD_le (by decide) (by decide)) ⟨rfl, rfl⟩ (Nat.le_of_ble_eq_true rfl) ⟨Nat.zero_le _, Nat.zero_le _⟩ dX6_withBudgets_27 ?_
              refine rc_S (As := [.long (fl (fun per d => mixL (mixL d (leftL S i 0 (per + 1))) (leftL S i 1 (per + 1))) j (fl (fun k d => fl (fun per d => mixL (mixL d (leftL S k 0 (per + 1))) (leftL S k 1 (per + 1))) 4 d) i a)), .int (leftL S (i) (0) (j + 1))]) hx hb hml hown hC hl (c_X6_mixed l E hI (fl (fun per d => mixL (mixL d (leftL S i 0 (per + 1))) (leftL S i 1 (per + 1))) j (fl (fun k d => fl (fun per d => mixL (mixL d (leftL S k 0 (per + 1))) (leftL S k 1 (per + 1))) 4 d) i a)) (leftL S (i) (0) (j + 1))) (zm_X6_300 hC.1) kv_X6_mixed hR rfl rfl (rD_le (by decide) (by decide)) ⟨rfl, rfl⟩ (Nat.le_of_ble_eq_true rfl) ⟨Nat.zero_le _, Nat.zero_le _⟩ dX6_withBudgets_30 ?_
              refine lv_lstore_n (lv' := [(3, .long (mixL (fl (fun per d => mixL (mixL d (leftL S i 0 (per + 1))) (leftL S i 1 (per + 1))) j (fl (fun k d => fl (fun per d => mixL (mixL d (leftL S k 0 (per + 1))) (leftL S k 1 (per + 1))) 4 d) i a)) (leftL S (i) (0) (j + 1)))), (6, .int (nI (j))), (5, .int (nI (i))), (0, .ref (g.ad 1 0)), (1, .long (a))]) hx hb dX6_withBudgets_33 rfl hl (by decide) rfl (fun ls hl => ?_)
              refine lv_lload_n hx hb dX6_withBudgets_34 rfl (lv_at hl 0 rfl) ?_
              refine lv_aload_n hx hb dX6_withBudgets_35 rfl (lv_at hl 3 rfl) ?_
              refine lv_iload hx hb dX6_withBudgets_36 (lv_at hl 2 rfl) ?_
              refine lv_iload hx hb dX6_withBudgets_38 (lv_at hl 1 rfl) ?_
              refine lv_iconst (v := 1) hx hb dX6_withBudgets_40 (by decide) ?_
              refine rc_V (As := [.int (nI (i)), .int (nI (j)), .int (1)]) hx hb hml hown hC hl (c_X6_leftOf l E hI hlt5 hlt14 (1)) (rec_of hC (RA.x hR) rfl) (zm_X6_147 hC.1) kv_X6_leftOf hR rfl rfl (rD_le (by decide) (by decide)) ⟨rfl, rfl⟩ (Nat.le_of_ble_eq_true rfl) ⟨Nat.zero_le _, Nat.zero_le _⟩ dX6_withBudgets_41 ?_
              refine rc_S (As := [.long (mixL (fl (fun per d => mixL (mixL d (leftL S i 0 (per + 1))) (leftL S i 1 (per + 1))) j (fl (fun k d => fl (fun per d => mixL (mixL d (leftL S k 0 (per + 1))) (leftL S k 1 (per + 1))) 4 d) i a)) (leftL S (i) (0) (j + 1))), .int (leftL S (i) (1) (j + 1))]) hx hb hml hown hC hl (c_X6_mixed l E hI (mixL (fl (fun per d => mixL (mixL d (leftL S i 0 (per + 1))) (leftL S i 1 (per + 1))) j (fl (fun k d => fl (fun per d => mixL (mixL d (leftL S k 0 (per + 1))) (leftL S k 1 (per + 1))) 4 d) i a)) (leftL S (i) (0) (j + 1))) (leftL S (i) (1) (j + 1))) (zm_X6_300 hC.1) kv_X6_mixed hR rfl rfl (rD_le (by decide) (by decide)) ⟨rfl, rfl⟩ (Nat.le_of_ble_eq_true rfl) ⟨Nat.zero_le _, Nat.zero_le _⟩ dX6_withBudgets_44 ?_
              refine lv_lstore_n (lv' := [(3, .long (mixL (mixL (fl (fun per d => mixL (mixL d (leftL S i 0 (per + 1))) (leftL S i 1 (per + 1))) j (fl (fun k d => fl (fun per d => mixL (mixL d (leftL S k 0 (per + 1))) (leftL S k 1 (per + 1))) 4 d) i a)) (leftL S (i) (0) (j + 1))) (leftL S (i) (1) (j + 1)))), (6, .int (nI (j))), (5, .int (nI (i))), (0, .ref (g.ad 1 0)), (1, .long (a))]) hx hb dX6_withBudgets_47 rfl hl (by decide) rfl (fun ls hl => ?_)
              refine lv_iinc (v := nI (j) + 1) (lv' := [(6, .int (nI (j) + 1)), (3, .long (mixL (mixL (fl (fun per d => mixL (mixL d (leftL S i 0 (per + 1))) (leftL S i 1 (per + 1))) j (fl (fun k d => fl (fun per d => mixL (mixL d (leftL S k 0 (per + 1))) (leftL S k 1 (per + 1))) 4 d) i a)) (leftL S (i) (0) (j + 1))) (leftL S (i) (1) (j + 1)))), (5, .int (nI (i))), (0, .ref (g.ad 1 0)), (1, .long (a))]) hx hb dX6_withBudgets_48 hl (k := 1) rfl rfl (by decide) rfl (fun ls hl => ?_)
              refine lv_goto (tgt := 14) hx hb dX6_withBudgets_51 (by decide) ?_
              refine ih14 (j + 1) (by omega) ls ?_
              rw [nI_succ j, fl_s _ j _]
              exact lv_sub hl [0, 2, 1, 3, 4] rfl
        refine loop14 (4) 0 (by omega) ls ?_
        rw [fl_0]
        exact lv_sub hl [0, 1, 2, 3, 4] rfl
  refine loop5 (4) 0 (by omega) ls ?_
  rw [fl_0]
  exact lv_sub hl [0, 1, 2, 3] rfl
set_option maxRecDepth 100000 in
set_option maxHeartbeats 4000000 in
theorem c_X6_withCharges (l : Launch) (E : EE) {S : St} {g : Gh} (hI : Inv S) (a : Int64) : RM l E yX6_withCharges cX6_withCharges 7 .long (rD 5) [.ref (g.ad 1 0), .long (a)] (RA E S g) (.long (chgA S a)) := by
  refine rm_of rfl (Nat.le_of_ble_eq_true rfl) (fun p e s m below meth c ls hx hb hr hml (hown : s.vm.findClass RX6 = some m.cls) hC hlocks hR hl => ?_)
  have hl : lv_has ls 7 [(0, .ref (g.ad 1 0)), (1, .long (a))] := hl
  refine lv_lload_n hx hb dX6_withCharges_0 rfl (lv_at hl 1 rfl) ?_
  refine lv_lstore_n (lv' := [(3, .long (a)), (0, .ref (g.ad 1 0)), (1, .long (a))]) hx hb dX6_withCharges_1 rfl hl (by decide) rfl (fun ls hl => ?_)
  refine lv_iconst (v := 0) hx hb dX6_withCharges_2 (by decide) ?_
  refine lv_istore (lv' := [(5, .int (0)), (3, .long (a)), (0, .ref (g.ad 1 0)), (1, .long (a))]) hx hb dX6_withCharges_3 hl (by decide) rfl (fun ls hl => ?_)
  have loop5 : ∀ (r5 i : Nat), i + r5 = S.nc → ∀ ls, lv_has ls 7 [(5, .int (nI (i))), (3, .long (fl (fun c d => fl (fun w d => mixL d (ofChargeA S c w)) 12 d) i a)), (0, .ref (g.ad 1 0)), (1, .long (a))] → W p l e (rD 5) s m ([.ref (g.ad 1 0), .long (a)] : List Value).toArray below meth c s.heap [] 0 0 (MQ below (RQ (.long (chgA S a))) ([.ref (g.ad 1 0), .long (a)] : List Value).toArray s 0 0 (fun _ => False)) (F0 m 5 ls []) := by
    intro r5
    induction r5 with
    | zero =>
      intro i hE5 ls hl
      have hN5 : i = S.nc := by omega
      subst hN5
      refine lv_iload hx hb dX6_withCharges_5 (lv_at hl 0 rfl) ?_
      refine lv_aload_n hx hb dX6_withCharges_7 rfl (lv_at hl 2 rfl) ?_
      refine gf_X6_2 hx hb hown hC (RA.x hR) (zf_X6_19 hC.1) dX6_withCharges_8 ?_
      refine rc_V (As := []) hx hb hml hown hC hl (c_size l E _ _ _ _) (rec_of hC (RA.ls hR (by decide : 2 < 4)) rfl) (zm_X6_51 hC.1) kv_Jx4a65c_size_8abf5 (RA.ls hR (by decide : 2 < 4)) rfl rfl (rD_le (by decide) (by decide)) ⟨rfl, rfl⟩ (Nat.le_of_ble_eq_true rfl) ⟨Nat.zero_le _, Nat.zero_le _⟩ dX6_withCharges_11 ?_
      refine lv_icmp_ge (tgt := 52) hx hb dX6_withCharges_14 (by decide) (fun c_14 => ?_) (fun c_14 => ?_)
      ·
        refine lv_lload_n hx hb dX6_withCharges_52 rfl (lv_at hl 1 rfl) ?_
        exact rr_l hx hb hr hlocks rfl dX6_withCharges_53
      · exact absurd (Int32.le_refl _) c_14
    | succ r5 ih5 =>
      intro i hE5 ls hl
      have hlt5 : i < S.nc := by omega
      refine lv_iload hx hb dX6_withCharges_5 (lv_at hl 0 rfl) ?_
      refine lv_aload_n hx hb dX6_withCharges_7 rfl (lv_at hl 2 rfl) ?_
      refine gf_X6_2 hx hb hown hC (RA.x hR) (zf_X6_19 hC.1) dX6_withCharges_8 ?_
      refine rc_V (As := []) hx hb hml hown hC hl (c_size l E _ _ _ _) (rec_of hC (RA.ls hR (by decide : 2 < 4)) rfl) (zm_X6_51 hC.1) kv_Jx4a65c_size_8abf5 (RA.ls hR (by decide : 2 < 4)) rfl rfl (rD_le (by decide) (by decide)) ⟨rfl, rfl⟩ (Nat.le_of_ble_eq_true rfl) ⟨Nat.zero_le _, Nat.zero_le _⟩ dX6_withCharges_11 ?_
      refine lv_icmp_ge (tgt := 52) hx hb dX6_withCharges_14 (by decide) (fun c_14 => ?_) (fun c_14 => ?_)
      · exact absurd c_14 (nI_ge hlt5 hI.nc31)
      ·
        refine lv_iconst (v := 0) hx hb dX6_withCharges_17 (by decide) ?_
        refine lv_istore (lv' := [(6, .int (0)), (5, .int (nI (i))), (3, .long (fl (fun c d => fl (fun w d => mixL d (ofChargeA S c w)) 12 d) i a)), (0, .ref (g.ad 1 0)), (1, .long (a))]) hx hb dX6_withCharges_18 hl (by decide) rfl (fun ls hl => ?_)
        have loop20 : ∀ (r20 j : Nat), j + r20 = 12 → ∀ ls, lv_has ls 7 [(6, .int (nI (j))), (5, .int (nI (i))), (3, .long (fl (fun w d => mixL d (ofChargeA S i w)) j (fl (fun c d => fl (fun w d => mixL d (ofChargeA S c w)) 12 d) i a))), (0, .ref (g.ad 1 0)), (1, .long (a))] → W p l e (rD 5) s m ([.ref (g.ad 1 0), .long (a)] : List Value).toArray below meth c s.heap [] 0 0 (MQ below (RQ (.long (chgA S a))) ([.ref (g.ad 1 0), .long (a)] : List Value).toArray s 0 0 (fun _ => False)) (F0 m 20 ls []) := by
          intro r20
          induction r20 with
          | zero =>
            intro j hE20 ls hl
            have hN20 : j = 12 := by omega
            subst hN20
            refine lv_iload hx hb dX6_withCharges_20 (lv_at hl 0 rfl) ?_
            refine lv_bipush (v := 11) hx hb dX6_withCharges_22 (by decide) ?_
            refine lv_icmp_gt (tgt := 46) hx hb dX6_withCharges_24 (by decide) (fun c_24 => ?_) (fun c_24 => ?_)
            ·
              refine lv_iinc (v := nI (i) + 1) (lv' := [(5, .int (nI (i) + 1)), (6, .int (nI (12))), (3, .long (fl (fun w d => mixL d (ofChargeA S i w)) 12 (fl (fun c d => fl (fun w d => mixL d (ofChargeA S c w)) 12 d) i a))), (0, .ref (g.ad 1 0)), (1, .long (a))]) hx hb dX6_withCharges_46 hl (k := 1) rfl rfl (by decide) rfl (fun ls hl => ?_)
              refine lv_goto (tgt := 5) hx hb dX6_withCharges_49 (by decide) ?_
              refine ih5 (i + 1) (by omega) ls ?_
              rw [nI_succ i, fl_s _ i _]
              exact lv_sub hl [0, 2, 3, 4] rfl
            · exact absurd (by decide) c_24
          | succ r20 ih20 =>
            intro j hE20 ls hl
            have hlt20 : j < 12 := by omega
            refine lv_iload hx hb dX6_withCharges_20 (lv_at hl 0 rfl) ?_
            refine lv_bipush (v := 11) hx hb dX6_withCharges_22 (by decide) ?_
            refine lv_icmp_gt (tgt := 46) hx hb dX6_withCharges_24 (by decide) (fun c_24 => ?_) (fun c_24 => ?_)
            · exact absurd c_24 (show ¬ (11 : Int32) < nI j from nI_nlt (a := 11) (by omega) (by decide))
            ·
              refine lv_lload_n hx hb dX6_withCharges_27 rfl (lv_at hl 2 rfl) ?_
              refine lv_aload_n hx hb dX6_withCharges_28 rfl (lv_at hl 3 rfl) ?_
              refine lv_iload hx hb dX6_withCharges_29 (lv_at hl 1 rfl) ?_
              refine lv_iload hx hb dX6_withCharges_31 (lv_at hl 0 rfl) ?_
              refine rc_V (As := [.int (nI (i)), .int (nI (j))]) hx hb hml hown hC hl (c_X6_ofCharge l E hI (c9 := i) hlt5 (w9 := j) (by omega)) (rec_of hC (RA.x hR) rfl) (zm_X6_420 hC.1) kv_X6_ofCharge hR rfl rfl (rD_le (by decide) (by decide)) ⟨rfl, rfl⟩ (Nat.le_of_ble_eq_true rfl) ⟨Nat.zero_le _, Nat.zero_le _⟩ dX6_withCharges_33 ?_
              refine rc_S (As := [.long (fl (fun w d => mixL d (ofChargeA S i w)) j (fl (fun c d => fl (fun w d => mixL d (ofChargeA S c w)) 12 d) i a)), .int (ofChargeA S (i) (j))]) hx hb hml hown hC hl (c_X6_mixed l E hI (fl (fun w d => mixL d (ofChargeA S i w)) j (fl (fun c d => fl (fun w d => mixL d (ofChargeA S c w)) 12 d) i a)) (ofChargeA S (i) (j))) (zm_X6_300 hC.1) kv_X6_mixed hR rfl rfl (rD_le (by decide) (by decide)) ⟨rfl, rfl⟩ (Nat.le_of_ble_eq_true rfl) ⟨Nat.zero_le _, Nat.zero_le _⟩ dX6_withCharges_36 ?_
              refine lv_lstore_n (lv' := [(3, .long (mixL (fl (fun w d => mixL d (ofChargeA S i w)) j (fl (fun c d => fl (fun w d => mixL d (ofChargeA S c w)) 12 d) i a)) (ofChargeA S (i) (j)))), (6, .int (nI (j))), (5, .int (nI (i))), (0, .ref (g.ad 1 0)), (1, .long (a))]) hx hb dX6_withCharges_39 rfl hl (by decide) rfl (fun ls hl => ?_)
              refine lv_iinc (v := nI (j) + 1) (lv' := [(6, .int (nI (j) + 1)), (3, .long (mixL (fl (fun w d => mixL d (ofChargeA S i w)) j (fl (fun c d => fl (fun w d => mixL d (ofChargeA S c w)) 12 d) i a)) (ofChargeA S (i) (j)))), (5, .int (nI (i))), (0, .ref (g.ad 1 0)), (1, .long (a))]) hx hb dX6_withCharges_40 hl (k := 1) rfl rfl (by decide) rfl (fun ls hl => ?_)
              refine lv_goto (tgt := 20) hx hb dX6_withCharges_43 (by decide) ?_
              refine ih20 (j + 1) (by omega) ls ?_
              rw [nI_succ j, fl_s _ j _]
              exact lv_sub hl [0, 2, 1, 3, 4] rfl
        refine loop20 (12) 0 (by omega) ls ?_
        rw [fl_0]
        exact lv_sub hl [0, 1, 2, 3, 4] rfl
  refine loop5 (S.nc) 0 (by omega) ls ?_
  rw [fl_0]
  exact lv_sub hl [0, 1, 2, 3] rfl
set_option maxRecDepth 100000 in
set_option maxHeartbeats 4000000 in
theorem c_X6_digest (l : Launch) (E : EE) {S : St} {g : Gh} (hI : Inv S)  : RM l E yX6_digest cX6_digest 4 .long (rD 7) [.ref (g.ad 1 0)] (RA E S g) (.long (digA S)) := by
  refine rm_of rfl (Nat.le_of_ble_eq_true rfl) (fun p e s m below meth c ls hx hb hr hml (hown : s.vm.findClass RX6 = some m.cls) hC hlocks hR hl => ?_)
  have hl : lv_has ls 4 [(0, .ref (g.ad 1 0))] := hl
  refine lv_ldc2 hx hb hown (zl_X6_295 hC.1) dX6_digest_0 ?_
  refine lv_lstore_n (lv' := [(1, .long (58110)), (0, .ref (g.ad 1 0))]) hx hb dX6_digest_3 rfl hl (by decide) rfl (fun ls hl => ?_)
  refine lv_iconst (v := 0) hx hb dX6_digest_4 (by decide) ?_
  refine lv_istore_n (lv' := [(3, .int (0)), (1, .long (58110)), (0, .ref (g.ad 1 0))]) hx hb dX6_digest_5 rfl hl (by decide) rfl (fun ls hl => ?_)
  have loop6 : ∀ (r6 i : Nat), i + r6 = 13 → ∀ ls, lv_has ls 4 [(3, .int (nI (i))), (1, .long (fl (fun w d => mixL d (manyA S w)) i (58110))), (0, .ref (g.ad 1 0))] → W p l e (rD 7) s m ([.ref (g.ad 1 0)] : List Value).toArray below meth c s.heap [] 0 0 (MQ below (RQ (.long (digA S))) ([.ref (g.ad 1 0)] : List Value).toArray s 0 0 (fun _ => False)) (F0 m 6 ls []) := by
    intro r6
    induction r6 with
    | zero =>
      intro i hE6 ls hl
      have hN6 : i = 13 := by omega
      subst hN6
      refine lv_iload_n hx hb dX6_digest_6 rfl (lv_at hl 0 rfl) ?_
      refine lv_bipush (v := 12) hx hb dX6_digest_7 (by decide) ?_
      refine lv_icmp_gt (tgt := 28) hx hb dX6_digest_9 (by decide) (fun c_9 => ?_) (fun c_9 => ?_)
      ·
        refine lv_aload_n hx hb dX6_digest_28 rfl (lv_at hl 2 rfl) ?_
        refine lv_lload_n hx hb dX6_digest_29 rfl (lv_at hl 1 rfl) ?_
        refine rc_V (As := [.long (fl (fun w d => mixL d (manyA S w)) 13 (58110))]) hx hb hml hown hC hl (c_X6_withPeople l E hI (fl (fun w d => mixL d (manyA S w)) 13 (58110))) (rec_of hC (RA.x hR) rfl) (zm_X6_304 hC.1) kv_X6_withPeople hR rfl rfl (rD_le (by decide) (by decide)) ⟨rfl, rfl⟩ (Nat.le_of_ble_eq_true rfl) ⟨Nat.zero_le _, Nat.zero_le _⟩ dX6_digest_30 ?_
        refine lv_lstore_n (lv' := [(1, .long (pplA S (fl (fun w d => mixL d (manyA S w)) 13 (58110)))), (3, .int (nI (13))), (0, .ref (g.ad 1 0))]) hx hb dX6_digest_33 rfl hl (by decide) rfl (fun ls hl => ?_)
        refine lv_aload_n hx hb dX6_digest_34 rfl (lv_at hl 2 rfl) ?_
        refine lv_lload_n hx hb dX6_digest_35 rfl (lv_at hl 0 rfl) ?_
        refine rc_V (As := [.long (pplA S (fl (fun w d => mixL d (manyA S w)) 13 (58110)))]) hx hb hml hown hC hl (c_X6_withBudgets l E hI (pplA S (fl (fun w d => mixL d (manyA S w)) 13 (58110)))) (rec_of hC (RA.x hR) rfl) (zm_X6_308 hC.1) kv_X6_withBudgets hR rfl rfl (rD_le (by decide) (by decide)) ⟨rfl, rfl⟩ (Nat.le_of_ble_eq_true rfl) ⟨Nat.zero_le _, Nat.zero_le _⟩ dX6_digest_36 ?_
        refine lv_lstore_n (lv' := [(1, .long (budA S (pplA S (fl (fun w d => mixL d (manyA S w)) 13 (58110))))), (3, .int (nI (13))), (0, .ref (g.ad 1 0))]) hx hb dX6_digest_39 rfl hl (by decide) rfl (fun ls hl => ?_)
        refine lv_aload_n hx hb dX6_digest_40 rfl (lv_at hl 2 rfl) ?_
        refine lv_lload_n hx hb dX6_digest_41 rfl (lv_at hl 0 rfl) ?_
        refine rc_V (As := [.long (budA S (pplA S (fl (fun w d => mixL d (manyA S w)) 13 (58110))))]) hx hb hml hown hC hl (c_X6_withCharges l E hI (budA S (pplA S (fl (fun w d => mixL d (manyA S w)) 13 (58110))))) (rec_of hC (RA.x hR) rfl) (zm_X6_311 hC.1) kv_X6_withCharges hR rfl rfl (rD_le (by decide) (by decide)) ⟨rfl, rfl⟩ (Nat.le_of_ble_eq_true rfl) ⟨Nat.zero_le _, Nat.zero_le _⟩ dX6_digest_42 ?_
        refine lv_lstore_n (lv' := [(1, .long (chgA S (budA S (pplA S (fl (fun w d => mixL d (manyA S w)) 13 (58110)))))), (3, .int (nI (13))), (0, .ref (g.ad 1 0))]) hx hb dX6_digest_45 rfl hl (by decide) rfl (fun ls hl => ?_)
        refine lv_iconst (v := 0) hx hb dX6_digest_46 (by decide) ?_
        refine lv_istore_n (lv' := [(3, .int (0)), (1, .long (chgA S (budA S (pplA S (fl (fun w d => mixL d (manyA S w)) 13 (58110)))))), (0, .ref (g.ad 1 0))]) hx hb dX6_digest_47 rfl hl (by decide) rfl (fun ls hl => ?_)
        have loop48 : ∀ (r48 j : Nat), j + r48 = S.nr → ∀ ls, lv_has ls 4 [(3, .int (nI (j))), (1, .long (fl (fun r d => mixL d (irI (S.ro r))) j (chgA S (budA S (pplA S (fl (fun w d => mixL d (manyA S w)) 13 (58110))))))), (0, .ref (g.ad 1 0))] → W p l e (rD 7) s m ([.ref (g.ad 1 0)] : List Value).toArray below meth c s.heap [] 0 0 (MQ below (RQ (.long (digA S))) ([.ref (g.ad 1 0)] : List Value).toArray s 0 0 (fun _ => False)) (F0 m 48 ls []) := by
          intro r48
          induction r48 with
          | zero =>
            intro j hE48 ls hl
            have hN48 : j = S.nr := by omega
            subst hN48
            refine lv_iload_n hx hb dX6_digest_48 rfl (lv_at hl 0 rfl) ?_
            refine lv_aload_n hx hb dX6_digest_49 rfl (lv_at hl 2 rfl) ?_
            refine gf_X6_3 hx hb hown hC (RA.x hR) (zf_X6_22 hC.1) dX6_digest_50 ?_
            refine rc_V (As := []) hx hb hml hown hC hl (c_size l E _ _ _ _) (rec_of hC (RA.ls hR (by decide : 3 < 4)) rfl) (zm_X6_51 hC.1) kv_Jx4a65c_size_8abf5 (RA.ls hR (by decide : 3 < 4)) rfl rfl (rD_le (by decide) (by decide)) ⟨rfl, rfl⟩ (Nat.le_of_ble_eq_true rfl) ⟨Nat.zero_le _, Nat.zero_le _⟩ dX6_digest_53 ?_
            refine lv_icmp_ge (tgt := 75) hx hb dX6_digest_56 (by decide) (fun c_56 => ?_) (fun c_56 => ?_)
            ·
              refine lv_iconst (v := 0) hx hb dX6_digest_75 (by decide) ?_
              refine lv_istore_n (lv' := [(3, .int (0)), (1, .long (fl (fun r d => mixL d (irI (S.ro r))) (S.nr) (chgA S (budA S (pplA S (fl (fun w d => mixL d (manyA S w)) 13 (58110))))))), (0, .ref (g.ad 1 0))]) hx hb dX6_digest_76 rfl hl (by decide) rfl (fun ls hl => ?_)
              have loop77 : ∀ (r77 k : Nat), k + r77 = S.np → ∀ ls, lv_has ls 4 [(3, .int (nI (k))), (1, .long (fl (fun p d => mixL d (trustA S p 20)) k (fl (fun r d => mixL d (irI (S.ro r))) (S.nr) (chgA S (budA S (pplA S (fl (fun w d => mixL d (manyA S w)) 13 (58110)))))))), (0, .ref (g.ad 1 0))] → W p l e (rD 7) s m ([.ref (g.ad 1 0)] : List Value).toArray below meth c s.heap [] 0 0 (MQ below (RQ (.long (digA S))) ([.ref (g.ad 1 0)] : List Value).toArray s 0 0 (fun _ => False)) (F0 m 77 ls []) := by
                intro r77
                induction r77 with
                | zero =>
                  intro k hE77 ls hl
                  have hN77 : k = S.np := by omega
                  subst hN77
                  refine lv_iload_n hx hb dX6_digest_77 rfl (lv_at hl 0 rfl) ?_
                  refine lv_aload_n hx hb dX6_digest_78 rfl (lv_at hl 2 rfl) ?_
                  refine gf_X6_0 hx hb hown hC (RA.x hR) (zf_X6_10 hC.1) dX6_digest_79 ?_
                  refine rc_V (As := []) hx hb hml hown hC hl (c_size l E _ _ _ _) (rec_of hC (RA.ls hR (by decide : 0 < 4)) rfl) (zm_X6_51 hC.1) kv_Jx4a65c_size_8abf5 (RA.ls hR (by decide : 0 < 4)) rfl rfl (rD_le (by decide) (by decide)) ⟨rfl, rfl⟩ (Nat.le_of_ble_eq_true rfl) ⟨Nat.zero_le _, Nat.zero_le _⟩ dX6_digest_82 ?_
                  refine lv_icmp_ge (tgt := 106) hx hb dX6_digest_85 (by decide) (fun c_85 => ?_) (fun c_85 => ?_)
                  ·
                    refine lv_lload_n hx hb dX6_digest_106 rfl (lv_at hl 1 rfl) ?_
                    exact rr_l hx hb hr hlocks rfl dX6_digest_107
                  · exact absurd (Int32.le_refl _) c_85
                | succ r77 ih77 =>
                  intro k hE77 ls hl
                  have hlt77 : k < S.np := by omega
                  refine lv_iload_n hx hb dX6_digest_77 rfl (lv_at hl 0 rfl) ?_
                  refine lv_aload_n hx hb dX6_digest_78 rfl (lv_at hl 2 rfl) ?_
                  refine gf_X6_0 hx hb hown hC (RA.x hR) (zf_X6_10 hC.1) dX6_digest_79 ?_
                  refine rc_V (As := []) hx hb hml hown hC hl (c_size l E _ _ _ _) (rec_of hC (RA.ls hR (by decide : 0 < 4)) rfl) (zm_X6_51 hC.1) kv_Jx4a65c_size_8abf5 (RA.ls hR (by decide : 0 < 4)) rfl rfl (rD_le (by decide) (by decide)) ⟨rfl, rfl⟩ (Nat.le_of_ble_eq_true rfl) ⟨Nat.zero_le _, Nat.zero_le _⟩ dX6_digest_82 ?_
                  refine lv_icmp_ge (tgt := 106) hx hb dX6_digest_85 (by decide) (fun c_85 => ?_) (fun c_85 => ?_)
                  · exact absurd c_85 (nI_ge hlt77 hI.np31)
                  ·
                    refine lv_lload_n hx hb dX6_digest_88 rfl (lv_at hl 1 rfl) ?_
                    refine lv_aload_n hx hb dX6_digest_89 rfl (lv_at hl 2 rfl) ?_
                    refine lv_iload_n hx hb dX6_digest_90 rfl (lv_at hl 0 rfl) ?_
                    refine lv_bipush (v := 20) hx hb dX6_digest_91 (by decide) ?_
                    refine rc_V (As := [.int (nI (k)), .int (20)]) hx hb hml hown hC hl (c_X6_trustBehind l E hI (p9 := k) hlt77 (dy9 := 20) (by decide) (by decide)) (rec_of hC (RA.x hR) rfl) (zm_X6_317 hC.1) kv_X6_trustBehind hR rfl rfl (rD_le (by decide) (by decide)) ⟨rfl, rfl⟩ (Nat.le_of_ble_eq_true rfl) ⟨Nat.zero_le _, Nat.zero_le _⟩ dX6_digest_93 ?_
                    refine rc_S (As := [.long (fl (fun p d => mixL d (trustA S p 20)) k (fl (fun r d => mixL d (irI (S.ro r))) (S.nr) (chgA S (budA S (pplA S (fl (fun w d => mixL d (manyA S w)) 13 (58110))))))), .int (trustA S (k) (20))]) hx hb hml hown hC hl (c_X6_mixed l E hI (fl (fun p d => mixL d (trustA S p 20)) k (fl (fun r d => mixL d (irI (S.ro r))) (S.nr) (chgA S (budA S (pplA S (fl (fun w d => mixL d (manyA S w)) 13 (58110))))))) (trustA S (k) (20))) (zm_X6_300 hC.1) kv_X6_mixed hR rfl rfl (rD_le (by decide) (by decide)) ⟨rfl, rfl⟩ (Nat.le_of_ble_eq_true rfl) ⟨Nat.zero_le _, Nat.zero_le _⟩ dX6_digest_96 ?_
                    refine lv_lstore_n (lv' := [(1, .long (mixL (fl (fun p d => mixL d (trustA S p 20)) k (fl (fun r d => mixL d (irI (S.ro r))) (S.nr) (chgA S (budA S (pplA S (fl (fun w d => mixL d (manyA S w)) 13 (58110))))))) (trustA S (k) (20)))), (3, .int (nI (k))), (0, .ref (g.ad 1 0))]) hx hb dX6_digest_99 rfl hl (by decide) rfl (fun ls hl => ?_)
                    refine lv_iinc (v := nI (k) + 1) (lv' := [(3, .int (nI (k) + 1)), (1, .long (mixL (fl (fun p d => mixL d (trustA S p 20)) k (fl (fun r d => mixL d (irI (S.ro r))) (S.nr) (chgA S (budA S (pplA S (fl (fun w d => mixL d (manyA S w)) 13 (58110))))))) (trustA S (k) (20)))), (0, .ref (g.ad 1 0))]) hx hb dX6_digest_100 hl (k := 1) rfl rfl (by decide) rfl (fun ls hl => ?_)
                    refine lv_goto (tgt := 77) hx hb dX6_digest_103 (by decide) ?_
                    refine ih77 (k + 1) (by omega) ls ?_
                    rw [nI_succ k, fl_s _ k _]
                    exact lv_sub hl [0, 1, 2] rfl
              refine loop77 (S.np) 0 (by omega) ls ?_
              rw [fl_0]
              exact lv_sub hl [0, 1, 2] rfl
            · exact absurd (Int32.le_refl _) c_56
          | succ r48 ih48 =>
            intro j hE48 ls hl
            have hlt48 : j < S.nr := by omega
            refine lv_iload_n hx hb dX6_digest_48 rfl (lv_at hl 0 rfl) ?_
            refine lv_aload_n hx hb dX6_digest_49 rfl (lv_at hl 2 rfl) ?_
            refine gf_X6_3 hx hb hown hC (RA.x hR) (zf_X6_22 hC.1) dX6_digest_50 ?_
            refine rc_V (As := []) hx hb hml hown hC hl (c_size l E _ _ _ _) (rec_of hC (RA.ls hR (by decide : 3 < 4)) rfl) (zm_X6_51 hC.1) kv_Jx4a65c_size_8abf5 (RA.ls hR (by decide : 3 < 4)) rfl rfl (rD_le (by decide) (by decide)) ⟨rfl, rfl⟩ (Nat.le_of_ble_eq_true rfl) ⟨Nat.zero_le _, Nat.zero_le _⟩ dX6_digest_53 ?_
            refine lv_icmp_ge (tgt := 75) hx hb dX6_digest_56 (by decide) (fun c_56 => ?_) (fun c_56 => ?_)
            · exact absurd c_56 (nI_ge hlt48 hI.nr31)
            ·
              refine lv_lload_n hx hb dX6_digest_59 rfl (lv_at hl 1 rfl) ?_
              refine lv_aload_n hx hb dX6_digest_60 rfl (lv_at hl 2 rfl) ?_
              refine lv_iload_n hx hb dX6_digest_61 rfl (lv_at hl 0 rfl) ?_
              refine rc_V (As := [.int (nI (j))]) hx hb hml hown hC hl (c_X6_ofReceipt l E hI (r9 := j) hlt48) (rec_of hC (RA.x hR) rfl) (zm_X6_314 hC.1) kv_X6_ofReceipt hR rfl rfl (rD_le (by decide) (by decide)) ⟨rfl, rfl⟩ (Nat.le_of_ble_eq_true rfl) ⟨Nat.zero_le _, Nat.zero_le _⟩ dX6_digest_62 ?_
              refine rc_S (As := [.long (fl (fun r d => mixL d (irI (S.ro r))) j (chgA S (budA S (pplA S (fl (fun w d => mixL d (manyA S w)) 13 (58110)))))), .int (irI (S.ro (j)))]) hx hb hml hown hC hl (c_X6_mixed l E hI (fl (fun r d => mixL d (irI (S.ro r))) j (chgA S (budA S (pplA S (fl (fun w d => mixL d (manyA S w)) 13 (58110)))))) (irI (S.ro (j)))) (zm_X6_300 hC.1) kv_X6_mixed hR rfl rfl (rD_le (by decide) (by decide)) ⟨rfl, rfl⟩ (Nat.le_of_ble_eq_true rfl) ⟨Nat.zero_le _, Nat.zero_le _⟩ dX6_digest_65 ?_
              refine lv_lstore_n (lv' := [(1, .long (mixL (fl (fun r d => mixL d (irI (S.ro r))) j (chgA S (budA S (pplA S (fl (fun w d => mixL d (manyA S w)) 13 (58110)))))) (irI (S.ro (j))))), (3, .int (nI (j))), (0, .ref (g.ad 1 0))]) hx hb dX6_digest_68 rfl hl (by decide) rfl (fun ls hl => ?_)
              refine lv_iinc (v := nI (j) + 1) (lv' := [(3, .int (nI (j) + 1)), (1, .long (mixL (fl (fun r d => mixL d (irI (S.ro r))) j (chgA S (budA S (pplA S (fl (fun w d => mixL d (manyA S w)) 13 (58110)))))) (irI (S.ro (j))))), (0, .ref (g.ad 1 0))]) hx hb dX6_digest_69 hl (k := 1) rfl rfl (by decide) rfl (fun ls hl => ?_)
              refine lv_goto (tgt := 48) hx hb dX6_digest_72 (by decide) ?_
              refine ih48 (j + 1) (by omega) ls ?_
              rw [nI_succ j, fl_s _ j _]
              exact lv_sub hl [0, 1, 2] rfl
        refine loop48 (S.nr) 0 (by omega) ls ?_
        rw [fl_0]
        exact lv_sub hl [0, 1, 2] rfl
      · exact absurd (by decide) c_9
    | succ r6 ih6 =>
      intro i hE6 ls hl
      have hlt6 : i < 13 := by omega
      refine lv_iload_n hx hb dX6_digest_6 rfl (lv_at hl 0 rfl) ?_
      refine lv_bipush (v := 12) hx hb dX6_digest_7 (by decide) ?_
      refine lv_icmp_gt (tgt := 28) hx hb dX6_digest_9 (by decide) (fun c_9 => ?_) (fun c_9 => ?_)
      · exact absurd c_9 (show ¬ (12 : Int32) < nI i from nI_nlt (a := 12) (by omega) (by decide))
      ·
        refine lv_lload_n hx hb dX6_digest_12 rfl (lv_at hl 1 rfl) ?_
        refine lv_aload_n hx hb dX6_digest_13 rfl (lv_at hl 2 rfl) ?_
        refine lv_iload_n hx hb dX6_digest_14 rfl (lv_at hl 0 rfl) ?_
        refine rc_V (As := [.int (nI (i))]) hx hb hml hown hC hl (c_X6_many l E hI (w9 := i) (by omega)) (rec_of hC (RA.x hR) rfl) (zm_X6_297 hC.1) kv_X6_many hR rfl rfl (rD_le (by decide) (by decide)) ⟨rfl, rfl⟩ (Nat.le_of_ble_eq_true rfl) ⟨Nat.zero_le _, Nat.zero_le _⟩ dX6_digest_15 ?_
        refine rc_S (As := [.long (fl (fun w d => mixL d (manyA S w)) i (58110)), .int (manyA S (i))]) hx hb hml hown hC hl (c_X6_mixed l E hI (fl (fun w d => mixL d (manyA S w)) i (58110)) (manyA S (i))) (zm_X6_300 hC.1) kv_X6_mixed hR rfl rfl (rD_le (by decide) (by decide)) ⟨rfl, rfl⟩ (Nat.le_of_ble_eq_true rfl) ⟨Nat.zero_le _, Nat.zero_le _⟩ dX6_digest_18 ?_
        refine lv_lstore_n (lv' := [(1, .long (mixL (fl (fun w d => mixL d (manyA S w)) i (58110)) (manyA S (i)))), (3, .int (nI (i))), (0, .ref (g.ad 1 0))]) hx hb dX6_digest_21 rfl hl (by decide) rfl (fun ls hl => ?_)
        refine lv_iinc (v := nI (i) + 1) (lv' := [(3, .int (nI (i) + 1)), (1, .long (mixL (fl (fun w d => mixL d (manyA S w)) i (58110)) (manyA S (i)))), (0, .ref (g.ad 1 0))]) hx hb dX6_digest_22 hl (k := 1) rfl rfl (by decide) rfl (fun ls hl => ?_)
        refine lv_goto (tgt := 6) hx hb dX6_digest_25 (by decide) ?_
        refine ih6 (i + 1) (by omega) ls ?_
        rw [nI_succ i, fl_s _ i _]
        exact lv_sub hl [0, 1, 2] rfl
  refine loop6 (13) 0 (by omega) ls ?_
  rw [fl_0]
  exact lv_sub hl [0, 1, 2] rfl
theorem trs {S : St} (hI : Inv S) : ∀ {n : Nat}, n ≤ S.np → ∃ k, k ≤ 10 * n ∧ sm S.tr n = nI k := by
  intro n
  induction n with
  | zero => intro _; exact ⟨0, Nat.le_refl _, rfl⟩
  | succ n ih =>
    intro h
    obtain ⟨k, h1, h2⟩ := ih (by omega)
    have h3 := (hI.2.1 n h).2.2.1
    obtain ⟨j, hj1, hj2⟩ : ∃ j : Nat, j ≤ 10 ∧ S.tr n = nI j := by
      refine ⟨(S.tr n).toInt.toNat, by omega, ?_⟩
      apply Int32.toInt.inj
      rw [nI_toInt (by omega)]
      omega
    refine ⟨k + j, by omega, ?_⟩
    show sm S.tr n + S.tr n = _
    rw [h2, hj2, nI_add]
theorem mean_fin : ∀ n, n < 9 → ∀ k, k < 81 → 0 < n → (FP.ddiv (FP.i2d (nI k)) (FP.i2d (nI n)) &&& 0x7fffffffffffffff ≤ 0x7ff0000000000000) := by decide +kernel
theorem mean_n {S : St} (hI : Inv S) (h : 0 < S.np) : vf_n64 (FP.ddiv (FP.i2d (sm S.tr S.np)) (FP.i2d (nI S.np))) := by
  obtain ⟨k, h1, h2⟩ := trs hI (Nat.le_refl _)
  have := hI.np
  rw [h2]
  exact mean_fin _ (by omega) _ (by omega) h
