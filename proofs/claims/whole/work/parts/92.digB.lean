set_option maxRecDepth 100000 in
set_option maxHeartbeats 4000000 in
theorem c_X12_digest (l : Launch) (E : EE) {S : St} {th : Int32} {g : Gh} (hI : Inv S)  : WM l E yX12_digest cX12_digest 5 (some .long) (wD 8 424 4952) [.ref (g.ad 1 0)] (RB E S th g) (ow g) (fun _ v H => RB E (S) (0) g H ∧ v = some (.long (digA S))) := by
  refine wm_of rfl (Nat.le_of_ble_eq_true rfl) (fun p e s m below meth c ls hx hb hr hml (hown : s.vm.findClass RX12 = some m.cls) hC hlocks hR hl hini => ?_)
  have hS : va_S (fun q => ow g q ∨ s.heap.size ≤ q) s.heap s.heap [] := va_S.rf
  have hl : lv_has ls 5 [(0, .ref (g.ad 1 0))] := hl
  have hnp8 := hI.np
  have hnc30 := hI.nc
  refine lv_aload_n hx hb dX12_digest_0 rfl (lv_at hl 0 rfl) ?_
  refine lv_iconst (v := 0) hx hb dX12_digest_1 (by decide) ?_
  refine pf_X12_0 hx hb hown hC (RB.x hR) hS (Or.inl (RB.ow hR (k := 1) (i := 0) rfl)) (zf_X12_16 hC.1) rfl rfl dX12_digest_2 (fun H1 locs1 hat hz hq hS => ?_)
  have hR : RB E (S) (0) g H1 := RB.s_th (v := 0) hR hat hq
  refine lv_ldc2 hx hb hown (zl_X12_268 hC.1) dX12_digest_5 ?_
  refine lv_lstore_n (lv' := [(1, .long (58110)), (0, .ref (g.ad 1 0))]) hx hb dX12_digest_8 rfl hl (by decide) rfl (fun ls hl => ?_)
  refine lv_iconst (v := 0) hx hb dX12_digest_9 (by decide) ?_
  refine lv_istore_n (lv' := [(3, .int (0)), (1, .long (58110)), (0, .ref (g.ad 1 0))]) hx hb dX12_digest_10 rfl hl (by decide) rfl (fun ls hl => ?_)
  have loop11 : ∀ (r11 i0 : Nat), i0 + r11 = 13 → ∀ ls, lv_has ls 5 [(3, .int (nI (i0))), (1, .long (fl (fun w d => mixL d (manyA S w)) i0 (58110))), (0, .ref (g.ad 1 0))] → W p l e (wD 8 424 4952) s m ([.ref (g.ad 1 0)] : List Value).toArray below meth c H1 locs1 (0) (0) (MQ below (WQ (ow g) s.heap.size (fun v H => RB E (S) (0) g H ∧ v = some (.long (digA S)))) ([.ref (g.ad 1 0)] : List Value).toArray s (wD 8 424 4952).cells (wD 8 424 4952).slots (fun q => ow g q ∨ s.heap.size ≤ q)) (F0 m 11 ls []) := by
    intro r11
    induction r11 with
    | zero =>
      intro i0 hE11 ls hl
      have hN11 : i0 = 13 := by omega
      subst hN11
      refine lv_iload_n hx hb dX12_digest_11 rfl (lv_at hl 0 rfl) ?_
      refine lv_bipush (v := 13) hx hb dX12_digest_12 (by decide) ?_
      refine lv_icmp_ge (tgt := 34) hx hb dX12_digest_14 (by decide) (fun c_14 => ?_) (fun c_14 => ?_)
      ·
        refine lv_iconst (v := 0) hx hb dX12_digest_34 (by decide) ?_
        refine lv_istore_n (lv' := [(3, .int (0)), (1, .long (fl (fun w d => mixL d (manyA S w)) 13 (58110))), (0, .ref (g.ad 1 0))]) hx hb dX12_digest_35 rfl hl (by decide) rfl (fun ls hl => ?_)
        have loop36 : ∀ (r36 i : Nat) (H1 : Heap) (locs1 : List Loc), i + r36 = S.np → RB E S 0 g H1 → va_S (fun q => ow g q ∨ s.heap.size ≤ q) s.heap H1 locs1 → ∀ ls, lv_has ls 5 [(3, .int (nI (i))), (1, .long (fl (fun p d => fl (fun k d => mixL (mixL d (spendA S p k (nI 0))) (spendA S p k (nI 1))) 4 (fl (fun w d => mixL d (ofPersonA S p w)) 7 d)) i (fl (fun w d => mixL d (manyA S w)) 13 (58110)))), (0, .ref (g.ad 1 0))] → W p l e (wD 8 424 4952) s m ([.ref (g.ad 1 0)] : List Value).toArray below meth c H1 locs1 (0 + 7 * i) (0 + 49 * i) (MQ below (WQ (ow g) s.heap.size (fun v H => RB E (S) (0) g H ∧ v = some (.long (digA S)))) ([.ref (g.ad 1 0)] : List Value).toArray s (wD 8 424 4952).cells (wD 8 424 4952).slots (fun q => ow g q ∨ s.heap.size ≤ q)) (F0 m 36 ls []) := by
          intro r36
          induction r36 with
          | zero =>
            intro i H1 locs1 hE36 hR hS ls hl
            have hN36 : i = S.np := by omega
            subst hN36
            refine lv_iload_n hx hb dX12_digest_36 rfl (lv_at hl 0 rfl) ?_
            refine lv_aload_n hx hb dX12_digest_37 rfl (lv_at hl 2 rfl) ?_
            refine gf_X12_1 hx hb hown hC (RB.x hR) (zf_X12_10 hC.1) dX12_digest_38 ?_
            refine gf_X8_0 hx hb hown hC (RB.dk hR) (zf_X12_24 hC.1) dX12_digest_41 ?_
            refine rc_V (As := []) hx hb hml hown hC hl (c_size l E _ _ _ _) (rec_of hC (RB.ls hR (by decide : 0 < 4)) rfl) (zm_X12_28 hC.1) kv_Jx4a65c_size_8abf5 (RB.ls hR (by decide : 0 < 4)) rfl rfl (rwD_le (by decide) (by decide)) ⟨rfl, rfl⟩ (Nat.le_of_ble_eq_true rfl) ⟨(by show 0 + 7 * S.np ≤ 424; omega), (by show 0 + 49 * S.np ≤ 4952; omega)⟩ dX12_digest_44 ?_
            refine lv_icmp_ge (tgt := 132) hx hb dX12_digest_47 (by decide) (fun c_47 => ?_) (fun c_47 => ?_)
            ·
              refine W.widen (show 0 + 7 * S.np ≤ 56 by omega) (show 0 + 49 * S.np ≤ 392 by omega) ?_
              refine lv_iconst (v := 0) hx hb dX12_digest_132 (by decide) ?_
              refine lv_istore_n (lv' := [(3, .int (0)), (1, .long (fl (fun p d => fl (fun k d => mixL (mixL d (spendA S p k (nI 0))) (spendA S p k (nI 1))) 4 (fl (fun w d => mixL d (ofPersonA S p w)) 7 d)) S.np (fl (fun w d => mixL d (manyA S w)) 13 (58110)))), (0, .ref (g.ad 1 0))]) hx hb dX12_digest_133 rfl hl (by decide) rfl (fun ls hl => ?_)
              have loop134 : ∀ (r134 i1 : Nat), i1 + r134 = 4 → ∀ ls, lv_has ls 5 [(3, .int (nI (i1))), (1, .long (fl (fun k d => fl (fun per d => mixL (mixL d (leftL S k 0 (per + 1))) (leftL S k 1 (per + 1))) 4 d) i1 (fl (fun p d => fl (fun k d => mixL (mixL d (spendA S p k (nI 0))) (spendA S p k (nI 1))) 4 (fl (fun w d => mixL d (ofPersonA S p w)) 7 d)) S.np (fl (fun w d => mixL d (manyA S w)) 13 (58110))))), (0, .ref (g.ad 1 0))] → W p l e (wD 8 424 4952) s m ([.ref (g.ad 1 0)] : List Value).toArray below meth c H1 locs1 (56) (392) (MQ below (WQ (ow g) s.heap.size (fun v H => RB E (S) (0) g H ∧ v = some (.long (digA S)))) ([.ref (g.ad 1 0)] : List Value).toArray s (wD 8 424 4952).cells (wD 8 424 4952).slots (fun q => ow g q ∨ s.heap.size ≤ q)) (F0 m 134 ls []) := by
                intro r134
                induction r134 with
                | zero =>
                  intro i1 hE134 ls hl
                  have hN134 : i1 = 4 := by omega
                  subst hN134
                  refine lv_iload_n hx hb dX12_digest_134 rfl (lv_at hl 0 rfl) ?_
                  refine lv_iconst (v := 4) hx hb dX12_digest_135 (by decide) ?_
                  refine lv_icmp_ge (tgt := 192) hx hb dX12_digest_136 (by decide) (fun c_136 => ?_) (fun c_136 => ?_)
                  ·
                    refine lv_iconst (v := 0) hx hb dX12_digest_192 (by decide) ?_
                    refine lv_istore_n (lv' := [(3, .int (0)), (1, .long (fl (fun k d => fl (fun per d => mixL (mixL d (leftL S k 0 (per + 1))) (leftL S k 1 (per + 1))) 4 d) 4 (fl (fun p d => fl (fun k d => mixL (mixL d (spendA S p k (nI 0))) (spendA S p k (nI 1))) 4 (fl (fun w d => mixL d (ofPersonA S p w)) 7 d)) S.np (fl (fun w d => mixL d (manyA S w)) 13 (58110))))), (0, .ref (g.ad 1 0))]) hx hb dX12_digest_193 rfl hl (by decide) rfl (fun ls hl => ?_)
                    have loop194 : ∀ (r194 i2 : Nat) (H1 : Heap) (locs1 : List Loc), i2 + r194 = S.nc → RB E S 0 g H1 → va_S (fun q => ow g q ∨ s.heap.size ≤ q) s.heap H1 locs1 → ∀ ls, lv_has ls 5 [(3, .int (nI (i2))), (1, .long (fl (fun c d => fl (fun w d => mixL d (ofChargeA S c w)) 12 d) i2 (fl (fun k d => fl (fun per d => mixL (mixL d (leftL S k 0 (per + 1))) (leftL S k 1 (per + 1))) 4 d) 4 (fl (fun p d => fl (fun k d => mixL (mixL d (spendA S p k (nI 0))) (spendA S p k (nI 1))) 4 (fl (fun w d => mixL d (ofPersonA S p w)) 7 d)) S.np (fl (fun w d => mixL d (manyA S w)) 13 (58110)))))), (0, .ref (g.ad 1 0))] → W p l e (wD 8 424 4952) s m ([.ref (g.ad 1 0)] : List Value).toArray below meth c H1 locs1 (56 + 12 * i2) (392 + 144 * i2) (MQ below (WQ (ow g) s.heap.size (fun v H => RB E (S) (0) g H ∧ v = some (.long (digA S)))) ([.ref (g.ad 1 0)] : List Value).toArray s (wD 8 424 4952).cells (wD 8 424 4952).slots (fun q => ow g q ∨ s.heap.size ≤ q)) (F0 m 194 ls []) := by
                      intro r194
                      induction r194 with
                      | zero =>
                        intro i2 H1 locs1 hE194 hR hS ls hl
                        have hN194 : i2 = S.nc := by omega
                        subst hN194
                        refine lv_iload_n hx hb dX12_digest_194 rfl (lv_at hl 0 rfl) ?_
                        refine lv_aload_n hx hb dX12_digest_195 rfl (lv_at hl 2 rfl) ?_
                        refine gf_X12_1 hx hb hown hC (RB.x hR) (zf_X12_10 hC.1) dX12_digest_196 ?_
                        refine gf_X8_2 hx hb hown hC (RB.dk hR) (zf_X12_95 hC.1) dX12_digest_199 ?_
                        refine rc_V (As := []) hx hb hml hown hC hl (c_size l E _ _ _ _) (rec_of hC (RB.ls hR (by decide : 2 < 4)) rfl) (zm_X12_28 hC.1) kv_Jx4a65c_size_8abf5 (RB.ls hR (by decide : 2 < 4)) rfl rfl (rwD_le (by decide) (by decide)) ⟨rfl, rfl⟩ (Nat.le_of_ble_eq_true rfl) ⟨(by show 56 + 12 * S.nc ≤ 424; omega), (by show 392 + 144 * S.nc ≤ 4952; omega)⟩ dX12_digest_202 ?_
                        refine lv_icmp_ge (tgt := 247) hx hb dX12_digest_205 (by decide) (fun c_205 => ?_) (fun c_205 => ?_)
                        ·
                          refine W.widen (show 56 + 12 * S.nc ≤ 416 by omega) (show 392 + 144 * S.nc ≤ 4712 by omega) ?_
                          refine lv_iconst (v := 0) hx hb dX12_digest_247 (by decide) ?_
                          refine lv_istore_n (lv' := [(3, .int (0)), (1, .long (fl (fun c d => fl (fun w d => mixL d (ofChargeA S c w)) 12 d) S.nc (fl (fun k d => fl (fun per d => mixL (mixL d (leftL S k 0 (per + 1))) (leftL S k 1 (per + 1))) 4 d) 4 (fl (fun p d => fl (fun k d => mixL (mixL d (spendA S p k (nI 0))) (spendA S p k (nI 1))) 4 (fl (fun w d => mixL d (ofPersonA S p w)) 7 d)) S.np (fl (fun w d => mixL d (manyA S w)) 13 (58110)))))), (0, .ref (g.ad 1 0))]) hx hb dX12_digest_248 rfl hl (by decide) rfl (fun ls hl => ?_)
                          have loop249 : ∀ (r249 i3 : Nat), i3 + r249 = S.nr → ∀ ls, lv_has ls 5 [(3, .int (nI (i3))), (1, .long (fl (fun r d => mixL d (irI (S.ro r))) i3 (fl (fun c d => fl (fun w d => mixL d (ofChargeA S c w)) 12 d) S.nc (fl (fun k d => fl (fun per d => mixL (mixL d (leftL S k 0 (per + 1))) (leftL S k 1 (per + 1))) 4 d) 4 (fl (fun p d => fl (fun k d => mixL (mixL d (spendA S p k (nI 0))) (spendA S p k (nI 1))) 4 (fl (fun w d => mixL d (ofPersonA S p w)) 7 d)) S.np (fl (fun w d => mixL d (manyA S w)) 13 (58110))))))), (0, .ref (g.ad 1 0))] → W p l e (wD 8 424 4952) s m ([.ref (g.ad 1 0)] : List Value).toArray below meth c H1 locs1 (416) (4712) (MQ below (WQ (ow g) s.heap.size (fun v H => RB E (S) (0) g H ∧ v = some (.long (digA S)))) ([.ref (g.ad 1 0)] : List Value).toArray s (wD 8 424 4952).cells (wD 8 424 4952).slots (fun q => ow g q ∨ s.heap.size ≤ q)) (F0 m 249 ls []) := by
                            intro r249
                            induction r249 with
                            | zero =>
                              intro i3 hE249 ls hl
                              have hN249 : i3 = S.nr := by omega
                              subst hN249
                              refine lv_iload_n hx hb dX12_digest_249 rfl (lv_at hl 0 rfl) ?_
                              refine lv_aload_n hx hb dX12_digest_250 rfl (lv_at hl 2 rfl) ?_
                              refine gf_X12_1 hx hb hown hC (RB.x hR) (zf_X12_10 hC.1) dX12_digest_251 ?_
                              refine gf_X8_3 hx hb hown hC (RB.dk hR) (zf_X12_185 hC.1) dX12_digest_254 ?_
                              refine rc_V (As := []) hx hb hml hown hC hl (c_size l E _ _ _ _) (rec_of hC (RB.ls hR (by decide : 3 < 4)) rfl) (zm_X12_28 hC.1) kv_Jx4a65c_size_8abf5 (RB.ls hR (by decide : 3 < 4)) rfl rfl (rwD_le (by decide) (by decide)) ⟨rfl, rfl⟩ (Nat.le_of_ble_eq_true rfl) ⟨(by show 416 ≤ 424; omega), (by show 4712 ≤ 4952; omega)⟩ dX12_digest_257 ?_
                              refine lv_icmp_ge (tgt := 292) hx hb dX12_digest_260 (by decide) (fun c_260 => ?_) (fun c_260 => ?_)
                              ·
                                refine lv_iconst (v := 0) hx hb dX12_digest_292 (by decide) ?_
                                refine lv_istore_n (lv' := [(3, .int (0)), (1, .long (fl (fun r d => mixL d (irI (S.ro r))) S.nr (fl (fun c d => fl (fun w d => mixL d (ofChargeA S c w)) 12 d) S.nc (fl (fun k d => fl (fun per d => mixL (mixL d (leftL S k 0 (per + 1))) (leftL S k 1 (per + 1))) 4 d) 4 (fl (fun p d => fl (fun k d => mixL (mixL d (spendA S p k (nI 0))) (spendA S p k (nI 1))) 4 (fl (fun w d => mixL d (ofPersonA S p w)) 7 d)) S.np (fl (fun w d => mixL d (manyA S w)) 13 (58110))))))), (0, .ref (g.ad 1 0))]) hx hb dX12_digest_293 rfl hl (by decide) rfl (fun ls hl => ?_)
                                have loop294 : ∀ (r294 i4 : Nat) (H1 : Heap) (locs1 : List Loc), i4 + r294 = S.np → RB E S 0 g H1 → va_S (fun q => ow g q ∨ s.heap.size ≤ q) s.heap H1 locs1 → ∀ ls, lv_has ls 5 [(3, .int (nI (i4))), (1, .long (fl (fun p d => mixL d (trustA S p 20)) i4 (fl (fun r d => mixL d (irI (S.ro r))) S.nr (fl (fun c d => fl (fun w d => mixL d (ofChargeA S c w)) 12 d) S.nc (fl (fun k d => fl (fun per d => mixL (mixL d (leftL S k 0 (per + 1))) (leftL S k 1 (per + 1))) 4 d) 4 (fl (fun p d => fl (fun k d => mixL (mixL d (spendA S p k (nI 0))) (spendA S p k (nI 1))) 4 (fl (fun w d => mixL d (ofPersonA S p w)) 7 d)) S.np (fl (fun w d => mixL d (manyA S w)) 13 (58110)))))))), (0, .ref (g.ad 1 0))] → W p l e (wD 8 424 4952) s m ([.ref (g.ad 1 0)] : List Value).toArray below meth c H1 locs1 (416 + 1 * i4) (4712 + 30 * i4) (MQ below (WQ (ow g) s.heap.size (fun v H => RB E (S) (0) g H ∧ v = some (.long (digA S)))) ([.ref (g.ad 1 0)] : List Value).toArray s (wD 8 424 4952).cells (wD 8 424 4952).slots (fun q => ow g q ∨ s.heap.size ≤ q)) (F0 m 294 ls []) := by
                                  intro r294
                                  induction r294 with
                                  | zero =>
                                    intro i4 H1 locs1 hE294 hR hS ls hl
                                    have hN294 : i4 = S.np := by omega
                                    subst hN294
                                    refine lv_iload_n hx hb dX12_digest_294 rfl (lv_at hl 0 rfl) ?_
                                    refine lv_aload_n hx hb dX12_digest_295 rfl (lv_at hl 2 rfl) ?_
                                    refine gf_X12_1 hx hb hown hC (RB.x hR) (zf_X12_10 hC.1) dX12_digest_296 ?_
                                    refine gf_X8_0 hx hb hown hC (RB.dk hR) (zf_X12_24 hC.1) dX12_digest_299 ?_
                                    refine rc_V (As := []) hx hb hml hown hC hl (c_size l E _ _ _ _) (rec_of hC (RB.ls hR (by decide : 0 < 4)) rfl) (zm_X12_28 hC.1) kv_Jx4a65c_size_8abf5 (RB.ls hR (by decide : 0 < 4)) rfl rfl (rwD_le (by decide) (by decide)) ⟨rfl, rfl⟩ (Nat.le_of_ble_eq_true rfl) ⟨(by show 416 + 1 * S.np ≤ 424; omega), (by show 4712 + 30 * S.np ≤ 4952; omega)⟩ dX12_digest_302 ?_
                                    refine lv_icmp_ge (tgt := 330) hx hb dX12_digest_305 (by decide) (fun c_305 => ?_) (fun c_305 => ?_)
                                    ·
                                      refine lv_lload_n hx hb dX12_digest_330 rfl (lv_at hl 1 rfl) ?_
                                      exact wr_l hx hb hr hlocks hS ⟨hR, rfl⟩ (show 416 + 1 * S.np ≤ 424 by omega) (show 4712 + 30 * S.np ≤ 4952 by omega) dX12_digest_331
                                    · exact absurd (Int32.le_refl _) c_305
                                  | succ r294 ih294 =>
                                    intro i4 H1 locs1 hE294 hR hS ls hl
                                    have hlt294 : i4 < S.np := by omega
                                    refine lv_iload_n hx hb dX12_digest_294 rfl (lv_at hl 0 rfl) ?_
                                    refine lv_aload_n hx hb dX12_digest_295 rfl (lv_at hl 2 rfl) ?_
                                    refine gf_X12_1 hx hb hown hC (RB.x hR) (zf_X12_10 hC.1) dX12_digest_296 ?_
                                    refine gf_X8_0 hx hb hown hC (RB.dk hR) (zf_X12_24 hC.1) dX12_digest_299 ?_
                                    refine rc_V (As := []) hx hb hml hown hC hl (c_size l E _ _ _ _) (rec_of hC (RB.ls hR (by decide : 0 < 4)) rfl) (zm_X12_28 hC.1) kv_Jx4a65c_size_8abf5 (RB.ls hR (by decide : 0 < 4)) rfl rfl (rwD_le (by decide) (by decide)) ⟨rfl, rfl⟩ (Nat.le_of_ble_eq_true rfl) ⟨(by show 416 + 1 * i4 ≤ 424; omega), (by show 4712 + 30 * i4 ≤ 4952; omega)⟩ dX12_digest_302 ?_
                                    refine lv_icmp_ge (tgt := 330) hx hb dX12_digest_305 (by decide) (fun c_305 => ?_) (fun c_305 => ?_)
                                    · exact absurd c_305 (nI_ge hlt294 hI.np31)
                                    ·
                                      refine lv_lload_n hx hb dX12_digest_308 rfl (lv_at hl 1 rfl) ?_
                                      refine lv_aload_n hx hb dX12_digest_309 rfl (lv_at hl 2 rfl) ?_
                                      refine gf_X12_1 hx hb hown hC (RB.x hR) (zf_X12_10 hC.1) dX12_digest_310 ?_
                                      refine lv_iload_n hx hb dX12_digest_313 rfl (lv_at hl 0 rfl) ?_
                                      refine lv_bipush (v := 20) hx hb dX12_digest_314 (by decide) ?_
                                      refine wcw_V (As := [.int (nI (i4)), .int (20)]) hx hb hml hown hC hl (c_X8_trustBehind l E hI hlt294 (D9 := 20) (by omega)) (rec_of hC (RB.dk hR) rfl) (zm_X12_263 hC.1) kv_X8_trustBehind hR hS (fun q h => h.imp id (Nat.le_trans hS.1)) rfl rfl (wD_le (by decide) (by decide)) (Nat.le_of_ble_eq_true rfl) ⟨(by show 416 + 1 * i4 + 1 ≤ 424; omega), (by show 4712 + 30 * i4 + 30 ≤ 4952; omega)⟩ dX12_digest_316 (fun H1 locs1 hR hz hq hS => ?_)
                                      refine lv_i2l hx hb dX12_digest_319 rfl ?_
                                      refine rc_S (As := [.long (fl (fun p d => mixL d (trustA S p 20)) i4 (fl (fun r d => mixL d (irI (S.ro r))) S.nr (fl (fun c d => fl (fun w d => mixL d (ofChargeA S c w)) 12 d) S.nc (fl (fun k d => fl (fun per d => mixL (mixL d (leftL S k 0 (per + 1))) (leftL S k 1 (per + 1))) 4 d) 4 (fl (fun p d => fl (fun k d => mixL (mixL d (spendA S p k (nI 0))) (spendA S p k (nI 1))) 4 (fl (fun w d => mixL d (ofPersonA S p w)) 7 d)) S.np (fl (fun w d => mixL d (manyA S w)) 13 (58110))))))), .long ((trustA S (i4) (nI (20))).toInt64)]) hx hb hml hown hC hl (c_X12_add l E (fl (fun p d => mixL d (trustA S p 20)) i4 (fl (fun r d => mixL d (irI (S.ro r))) S.nr (fl (fun c d => fl (fun w d => mixL d (ofChargeA S c w)) 12 d) S.nc (fl (fun k d => fl (fun per d => mixL (mixL d (leftL S k 0 (per + 1))) (leftL S k 1 (per + 1))) 4 d) 4 (fl (fun p d => fl (fun k d => mixL (mixL d (spendA S p k (nI 0))) (spendA S p k (nI 1))) 4 (fl (fun w d => mixL d (ofPersonA S p w)) 7 d)) S.np (fl (fun w d => mixL d (manyA S w)) 13 (58110))))))) ((trustA S (i4) (nI (20))).toInt64)) (zm_X12_270 hC.1) kv_X12_add True.intro rfl rfl (rwD_le (by decide) (by decide)) ⟨rfl, rfl⟩ (Nat.le_of_ble_eq_true rfl) ⟨(by show 416 + 1 * i4 + 1 ≤ 424; omega), (by show 4712 + 30 * i4 + 30 ≤ 4952; omega)⟩ dX12_digest_320 ?_
                                      refine lv_lstore_n (lv' := [(1, .long ((fl (fun p d => mixL d (trustA S p 20)) i4 (fl (fun r d => mixL d (irI (S.ro r))) S.nr (fl (fun c d => fl (fun w d => mixL d (ofChargeA S c w)) 12 d) S.nc (fl (fun k d => fl (fun per d => mixL (mixL d (leftL S k 0 (per + 1))) (leftL S k 1 (per + 1))) 4 d) 4 (fl (fun p d => fl (fun k d => mixL (mixL d (spendA S p k (nI 0))) (spendA S p k (nI 1))) 4 (fl (fun w d => mixL d (ofPersonA S p w)) 7 d)) S.np (fl (fun w d => mixL d (manyA S w)) 13 (58110))))))) * 31 + ((trustA S (i4) (nI (20))).toInt64))), (3, .int (nI (i4))), (0, .ref (g.ad 1 0))]) hx hb dX12_digest_323 rfl hl (by decide) rfl (fun ls hl => ?_)
                                      refine lv_iinc (v := nI (i4) + 1) (lv' := [(3, .int (nI (i4) + 1)), (1, .long ((fl (fun p d => mixL d (trustA S p 20)) i4 (fl (fun r d => mixL d (irI (S.ro r))) S.nr (fl (fun c d => fl (fun w d => mixL d (ofChargeA S c w)) 12 d) S.nc (fl (fun k d => fl (fun per d => mixL (mixL d (leftL S k 0 (per + 1))) (leftL S k 1 (per + 1))) 4 d) 4 (fl (fun p d => fl (fun k d => mixL (mixL d (spendA S p k (nI 0))) (spendA S p k (nI 1))) 4 (fl (fun w d => mixL d (ofPersonA S p w)) 7 d)) S.np (fl (fun w d => mixL d (manyA S w)) 13 (58110))))))) * 31 + ((trustA S (i4) (nI (20))).toInt64))), (0, .ref (g.ad 1 0))]) hx hb dX12_digest_324 hl (k := 1) rfl rfl (by decide) rfl (fun ls hl => ?_)
                                      refine lv_goto (tgt := 294) hx hb dX12_digest_327 (by decide) ?_
                                      refine W.widen (show 416 + 1 * i4 + 1 ≤ 416 + 1 * (i4 + 1) by omega) (show 4712 + 30 * i4 + 30 ≤ 4712 + 30 * (i4 + 1) by omega) ?_
                                      refine ih294 (i4 + 1) H1 locs1 (by omega) hR hS ls ?_
                                      rw [nI_succ i4, fl_s _ i4 _]
                                      exact lv_sub hl [0, 1, 2] rfl
                                refine loop294 (S.np) 0 H1 locs1 (by omega) hR hS ls ?_
                                rw [fl_0]
                                exact lv_sub hl [0, 1, 2] rfl
                              · exact absurd (Int32.le_refl _) c_260
                            | succ r249 ih249 =>
                              intro i3 hE249 ls hl
                              have hlt249 : i3 < S.nr := by omega
                              refine lv_iload_n hx hb dX12_digest_249 rfl (lv_at hl 0 rfl) ?_
                              refine lv_aload_n hx hb dX12_digest_250 rfl (lv_at hl 2 rfl) ?_
                              refine gf_X12_1 hx hb hown hC (RB.x hR) (zf_X12_10 hC.1) dX12_digest_251 ?_
                              refine gf_X8_3 hx hb hown hC (RB.dk hR) (zf_X12_185 hC.1) dX12_digest_254 ?_
                              refine rc_V (As := []) hx hb hml hown hC hl (c_size l E _ _ _ _) (rec_of hC (RB.ls hR (by decide : 3 < 4)) rfl) (zm_X12_28 hC.1) kv_Jx4a65c_size_8abf5 (RB.ls hR (by decide : 3 < 4)) rfl rfl (rwD_le (by decide) (by decide)) ⟨rfl, rfl⟩ (Nat.le_of_ble_eq_true rfl) ⟨(by show 416 ≤ 424; omega), (by show 4712 ≤ 4952; omega)⟩ dX12_digest_257 ?_
                              refine lv_icmp_ge (tgt := 292) hx hb dX12_digest_260 (by decide) (fun c_260 => ?_) (fun c_260 => ?_)
                              · exact absurd c_260 (nI_ge hlt249 hI.nr31)
                              ·
                                refine lv_lload_n hx hb dX12_digest_263 rfl (lv_at hl 1 rfl) ?_
                                refine lv_aload_n hx hb dX12_digest_264 rfl (lv_at hl 2 rfl) ?_
                                refine gf_X12_1 hx hb hown hC (RB.x hR) (zf_X12_10 hC.1) dX12_digest_265 ?_
                                refine gf_X8_3 hx hb hown hC (RB.dk hR) (zf_X12_185 hC.1) dX12_digest_268 ?_
                                refine lv_iload_n hx hb dX12_digest_271 rfl (lv_at hl 0 rfl) ?_
                                refine rc_V (As := [.int (nI (i3))]) hx hb hml hown hC hl (c_getLB l E 3 rfl hR (by decide) hlt249) (rec_of hC (RB.ls hR (by decide : 3 < 4)) rfl) (zm_X12_38 hC.1) kv_Jx4a65c_get_915e3 (RB.gp hR 3 (by decide) hlt249) rfl rfl (rwD_le (by decide) (by decide)) ⟨rfl, rfl⟩ (Nat.le_of_ble_eq_true rfl) ⟨(by show 416 ≤ 424; omega), (by show 4712 ≤ 4952; omega)⟩ dX12_digest_272 ?_
                                refine g_cast hx hb hown hC (RB.re hR hlt249) rfl (zc_X12_188 hC.1) dX12_digest_275 ?_
                                refine gf_X10_3 hx hb hown hC (RB.re hR hlt249) (zf_X12_193 hC.1) dX12_digest_278 ?_
                                refine lv_i2l hx hb dX12_digest_281 rfl ?_
                                refine rc_S (As := [.long (fl (fun r d => mixL d (irI (S.ro r))) i3 (fl (fun c d => fl (fun w d => mixL d (ofChargeA S c w)) 12 d) S.nc (fl (fun k d => fl (fun per d => mixL (mixL d (leftL S k 0 (per + 1))) (leftL S k 1 (per + 1))) 4 d) 4 (fl (fun p d => fl (fun k d => mixL (mixL d (spendA S p k (nI 0))) (spendA S p k (nI 1))) 4 (fl (fun w d => mixL d (ofPersonA S p w)) 7 d)) S.np (fl (fun w d => mixL d (manyA S w)) 13 (58110)))))), .long ((irI (S.ro (i3))).toInt64)]) hx hb hml hown hC hl (c_X12_add l E (fl (fun r d => mixL d (irI (S.ro r))) i3 (fl (fun c d => fl (fun w d => mixL d (ofChargeA S c w)) 12 d) S.nc (fl (fun k d => fl (fun per d => mixL (mixL d (leftL S k 0 (per + 1))) (leftL S k 1 (per + 1))) 4 d) 4 (fl (fun p d => fl (fun k d => mixL (mixL d (spendA S p k (nI 0))) (spendA S p k (nI 1))) 4 (fl (fun w d => mixL d (ofPersonA S p w)) 7 d)) S.np (fl (fun w d => mixL d (manyA S w)) 13 (58110)))))) ((irI (S.ro (i3))).toInt64)) (zm_X12_270 hC.1) kv_X12_add True.intro rfl rfl (rwD_le (by decide) (by decide)) ⟨rfl, rfl⟩ (Nat.le_of_ble_eq_true rfl) ⟨(by show 416 ≤ 424; omega), (by show 4712 ≤ 4952; omega)⟩ dX12_digest_282 ?_
                                refine lv_lstore_n (lv' := [(1, .long ((fl (fun r d => mixL d (irI (S.ro r))) i3 (fl (fun c d => fl (fun w d => mixL d (ofChargeA S c w)) 12 d) S.nc (fl (fun k d => fl (fun per d => mixL (mixL d (leftL S k 0 (per + 1))) (leftL S k 1 (per + 1))) 4 d) 4 (fl (fun p d => fl (fun k d => mixL (mixL d (spendA S p k (nI 0))) (spendA S p k (nI 1))) 4 (fl (fun w d => mixL d (ofPersonA S p w)) 7 d)) S.np (fl (fun w d => mixL d (manyA S w)) 13 (58110)))))) * 31 + ((irI (S.ro (i3))).toInt64))), (3, .int (nI (i3))), (0, .ref (g.ad 1 0))]) hx hb dX12_digest_285 rfl hl (by decide) rfl (fun ls hl => ?_)
                                refine lv_iinc (v := nI (i3) + 1) (lv' := [(3, .int (nI (i3) + 1)), (1, .long ((fl (fun r d => mixL d (irI (S.ro r))) i3 (fl (fun c d => fl (fun w d => mixL d (ofChargeA S c w)) 12 d) S.nc (fl (fun k d => fl (fun per d => mixL (mixL d (leftL S k 0 (per + 1))) (leftL S k 1 (per + 1))) 4 d) 4 (fl (fun p d => fl (fun k d => mixL (mixL d (spendA S p k (nI 0))) (spendA S p k (nI 1))) 4 (fl (fun w d => mixL d (ofPersonA S p w)) 7 d)) S.np (fl (fun w d => mixL d (manyA S w)) 13 (58110)))))) * 31 + ((irI (S.ro (i3))).toInt64))), (0, .ref (g.ad 1 0))]) hx hb dX12_digest_286 hl (k := 1) rfl rfl (by decide) rfl (fun ls hl => ?_)
                                refine lv_goto (tgt := 249) hx hb dX12_digest_289 (by decide) ?_
                                refine ih249 (i3 + 1) (by omega) ls ?_
                                rw [nI_succ i3, fl_s _ i3 _]
                                exact lv_sub hl [0, 1, 2] rfl
                          refine loop249 (S.nr) 0 (by omega) ls ?_
                          rw [fl_0]
                          exact lv_sub hl [0, 1, 2] rfl
                        · exact absurd (Int32.le_refl _) c_205
                      | succ r194 ih194 =>
                        intro i2 H1 locs1 hE194 hR hS ls hl
                        have hlt194 : i2 < S.nc := by omega
                        refine lv_iload_n hx hb dX12_digest_194 rfl (lv_at hl 0 rfl) ?_
                        refine lv_aload_n hx hb dX12_digest_195 rfl (lv_at hl 2 rfl) ?_
                        refine gf_X12_1 hx hb hown hC (RB.x hR) (zf_X12_10 hC.1) dX12_digest_196 ?_
                        refine gf_X8_2 hx hb hown hC (RB.dk hR) (zf_X12_95 hC.1) dX12_digest_199 ?_
                        refine rc_V (As := []) hx hb hml hown hC hl (c_size l E _ _ _ _) (rec_of hC (RB.ls hR (by decide : 2 < 4)) rfl) (zm_X12_28 hC.1) kv_Jx4a65c_size_8abf5 (RB.ls hR (by decide : 2 < 4)) rfl rfl (rwD_le (by decide) (by decide)) ⟨rfl, rfl⟩ (Nat.le_of_ble_eq_true rfl) ⟨(by show 56 + 12 * i2 ≤ 424; omega), (by show 392 + 144 * i2 ≤ 4952; omega)⟩ dX12_digest_202 ?_
                        refine lv_icmp_ge (tgt := 247) hx hb dX12_digest_205 (by decide) (fun c_205 => ?_) (fun c_205 => ?_)
                        · exact absurd c_205 (nI_ge hlt194 hI.nc31)
                        ·
                          refine lv_iconst (v := 0) hx hb dX12_digest_208 (by decide) ?_
                          refine lv_istore (lv' := [(4, .int (0)), (3, .int (nI (i2))), (1, .long (fl (fun c d => fl (fun w d => mixL d (ofChargeA S c w)) 12 d) i2 (fl (fun k d => fl (fun per d => mixL (mixL d (leftL S k 0 (per + 1))) (leftL S k 1 (per + 1))) 4 d) 4 (fl (fun p d => fl (fun k d => mixL (mixL d (spendA S p k (nI 0))) (spendA S p k (nI 1))) 4 (fl (fun w d => mixL d (ofPersonA S p w)) 7 d)) S.np (fl (fun w d => mixL d (manyA S w)) 13 (58110)))))), (0, .ref (g.ad 1 0))]) hx hb dX12_digest_209 hl (by decide) rfl (fun ls hl => ?_)
                          have loop211 : ∀ (r211 j2 : Nat) (H1 : Heap) (locs1 : List Loc), j2 + r211 = 12 → RB E S 0 g H1 → va_S (fun q => ow g q ∨ s.heap.size ≤ q) s.heap H1 locs1 → ∀ ls, lv_has ls 5 [(4, .int (nI (j2))), (3, .int (nI (i2))), (1, .long (fl (fun w d => mixL d (ofChargeA S i2 w)) j2 (fl (fun c d => fl (fun w d => mixL d (ofChargeA S c w)) 12 d) i2 (fl (fun k d => fl (fun per d => mixL (mixL d (leftL S k 0 (per + 1))) (leftL S k 1 (per + 1))) 4 d) 4 (fl (fun p d => fl (fun k d => mixL (mixL d (spendA S p k (nI 0))) (spendA S p k (nI 1))) 4 (fl (fun w d => mixL d (ofPersonA S p w)) 7 d)) S.np (fl (fun w d => mixL d (manyA S w)) 13 (58110))))))), (0, .ref (g.ad 1 0))] → W p l e (wD 8 424 4952) s m ([.ref (g.ad 1 0)] : List Value).toArray below meth c H1 locs1 (56 + 12 * i2 + 1 * j2) (392 + 144 * i2 + 12 * j2) (MQ below (WQ (ow g) s.heap.size (fun v H => RB E (S) (0) g H ∧ v = some (.long (digA S)))) ([.ref (g.ad 1 0)] : List Value).toArray s (wD 8 424 4952).cells (wD 8 424 4952).slots (fun q => ow g q ∨ s.heap.size ≤ q)) (F0 m 211 ls []) := by
                            intro r211
                            induction r211 with
                            | zero =>
                              intro j2 H1 locs1 hE211 hR hS ls hl
                              have hN211 : j2 = 12 := by omega
                              subst hN211
                              refine lv_iload hx hb dX12_digest_211 (lv_at hl 0 rfl) ?_
                              refine lv_bipush (v := 12) hx hb dX12_digest_213 (by decide) ?_
                              refine lv_icmp_ge (tgt := 241) hx hb dX12_digest_215 (by decide) (fun c_215 => ?_) (fun c_215 => ?_)
                              ·
                                refine lv_iinc (v := nI (i2) + 1) (lv' := [(3, .int (nI (i2) + 1)), (4, .int (nI (12))), (1, .long (fl (fun w d => mixL d (ofChargeA S i2 w)) 12 (fl (fun c d => fl (fun w d => mixL d (ofChargeA S c w)) 12 d) i2 (fl (fun k d => fl (fun per d => mixL (mixL d (leftL S k 0 (per + 1))) (leftL S k 1 (per + 1))) 4 d) 4 (fl (fun p d => fl (fun k d => mixL (mixL d (spendA S p k (nI 0))) (spendA S p k (nI 1))) 4 (fl (fun w d => mixL d (ofPersonA S p w)) 7 d)) S.np (fl (fun w d => mixL d (manyA S w)) 13 (58110))))))), (0, .ref (g.ad 1 0))]) hx hb dX12_digest_241 hl (k := 1) rfl rfl (by decide) rfl (fun ls hl => ?_)
                                refine lv_goto (tgt := 194) hx hb dX12_digest_244 (by decide) ?_
                                refine W.widen (show 56 + 12 * i2 + 1 * 12 ≤ 56 + 12 * (i2 + 1) by omega) (show 392 + 144 * i2 + 12 * 12 ≤ 392 + 144 * (i2 + 1) by omega) ?_
                                refine ih194 (i2 + 1) H1 locs1 (by omega) hR hS ls ?_
                                rw [nI_succ i2, fl_s _ i2 _]
                                exact lv_sub hl [0, 2, 3] rfl
                              · exact absurd (by decide) c_215
                            | succ r211 ih211 =>
                              intro j2 H1 locs1 hE211 hR hS ls hl
                              have hlt211 : j2 < 12 := by omega
                              refine lv_iload hx hb dX12_digest_211 (lv_at hl 0 rfl) ?_
                              refine lv_bipush (v := 12) hx hb dX12_digest_213 (by decide) ?_
                              refine lv_icmp_ge (tgt := 241) hx hb dX12_digest_215 (by decide) (fun c_215 => ?_) (fun c_215 => ?_)
                              · exact absurd c_215 (show ¬ (12 : Int32) ≤ nI j2 from nI_ge (b := 12) hlt211 (by decide))
                              ·
                                refine lv_lload_n hx hb dX12_digest_218 rfl (lv_at hl 2 rfl) ?_
                                refine lv_aload_n hx hb dX12_digest_219 rfl (lv_at hl 3 rfl) ?_
                                refine lv_aload_n hx hb dX12_digest_220 rfl (lv_at hl 3 rfl) ?_
                                refine lv_iload_n hx hb dX12_digest_221 rfl (lv_at hl 1 rfl) ?_
                                refine rc_V (As := [.int (nI (i2))]) hx hb hml hown hC hl (c_X12_charge_n l E (S := S) hlt194) (rec_of hC (RB.x hR) rfl) (zm_X12_198 hC.1) kv_X12_charge_ hR rfl rfl (rwD_le (by decide) (by decide)) ⟨rfl, rfl⟩ (Nat.le_of_ble_eq_true rfl) ⟨(by show 56 + 12 * i2 + 1 * j2 ≤ 424; omega), (by show 392 + 144 * i2 + 12 * j2 ≤ 4952; omega)⟩ dX12_digest_222 ?_
                                refine lv_iload hx hb dX12_digest_225 (lv_at hl 0 rfl) ?_
                                refine wcw_V (As := [.ref (g.ad 8 (i2)), .int (nI (j2))]) hx hb hml hown hC hl (c_X12_ofChargeNow l E hI hlt194 (w9 := j2) (by omega)) (rec_of hC (RB.x hR) rfl) (zm_X12_236 hC.1) kv_X12_ofChargeNow hR hS (fun q h => h.imp id (Nat.le_trans hS.1)) rfl rfl (wD_le (by decide) (by decide)) (Nat.le_of_ble_eq_true rfl) ⟨(by show 56 + 12 * i2 + 1 * j2 + 1 ≤ 424; omega), (by show 392 + 144 * i2 + 12 * j2 + 12 ≤ 4952; omega)⟩ dX12_digest_227 (fun H1 locs1 hR hz hq hS => ?_)
                                refine lv_i2l hx hb dX12_digest_230 rfl ?_
                                refine rc_S (As := [.long (fl (fun w d => mixL d (ofChargeA S i2 w)) j2 (fl (fun c d => fl (fun w d => mixL d (ofChargeA S c w)) 12 d) i2 (fl (fun k d => fl (fun per d => mixL (mixL d (leftL S k 0 (per + 1))) (leftL S k 1 (per + 1))) 4 d) 4 (fl (fun p d => fl (fun k d => mixL (mixL d (spendA S p k (nI 0))) (spendA S p k (nI 1))) 4 (fl (fun w d => mixL d (ofPersonA S p w)) 7 d)) S.np (fl (fun w d => mixL d (manyA S w)) 13 (58110)))))), .long ((ofChargeA S (i2) (j2)).toInt64)]) hx hb hml hown hC hl (c_X12_add l E (fl (fun w d => mixL d (ofChargeA S i2 w)) j2 (fl (fun c d => fl (fun w d => mixL d (ofChargeA S c w)) 12 d) i2 (fl (fun k d => fl (fun per d => mixL (mixL d (leftL S k 0 (per + 1))) (leftL S k 1 (per + 1))) 4 d) 4 (fl (fun p d => fl (fun k d => mixL (mixL d (spendA S p k (nI 0))) (spendA S p k (nI 1))) 4 (fl (fun w d => mixL d (ofPersonA S p w)) 7 d)) S.np (fl (fun w d => mixL d (manyA S w)) 13 (58110)))))) ((ofChargeA S (i2) (j2)).toInt64)) (zm_X12_270 hC.1) kv_X12_add True.intro rfl rfl (rwD_le (by decide) (by decide)) ⟨rfl, rfl⟩ (Nat.le_of_ble_eq_true rfl) ⟨(by show 56 + 12 * i2 + 1 * j2 + 1 ≤ 424; omega), (by show 392 + 144 * i2 + 12 * j2 + 12 ≤ 4952; omega)⟩ dX12_digest_231 ?_
                                refine lv_lstore_n (lv' := [(1, .long ((fl (fun w d => mixL d (ofChargeA S i2 w)) j2 (fl (fun c d => fl (fun w d => mixL d (ofChargeA S c w)) 12 d) i2 (fl (fun k d => fl (fun per d => mixL (mixL d (leftL S k 0 (per + 1))) (leftL S k 1 (per + 1))) 4 d) 4 (fl (fun p d => fl (fun k d => mixL (mixL d (spendA S p k (nI 0))) (spendA S p k (nI 1))) 4 (fl (fun w d => mixL d (ofPersonA S p w)) 7 d)) S.np (fl (fun w d => mixL d (manyA S w)) 13 (58110)))))) * 31 + ((ofChargeA S (i2) (j2)).toInt64))), (4, .int (nI (j2))), (3, .int (nI (i2))), (0, .ref (g.ad 1 0))]) hx hb dX12_digest_234 rfl hl (by decide) rfl (fun ls hl => ?_)
                                refine lv_iinc (v := nI (j2) + 1) (lv' := [(4, .int (nI (j2) + 1)), (1, .long ((fl (fun w d => mixL d (ofChargeA S i2 w)) j2 (fl (fun c d => fl (fun w d => mixL d (ofChargeA S c w)) 12 d) i2 (fl (fun k d => fl (fun per d => mixL (mixL d (leftL S k 0 (per + 1))) (leftL S k 1 (per + 1))) 4 d) 4 (fl (fun p d => fl (fun k d => mixL (mixL d (spendA S p k (nI 0))) (spendA S p k (nI 1))) 4 (fl (fun w d => mixL d (ofPersonA S p w)) 7 d)) S.np (fl (fun w d => mixL d (manyA S w)) 13 (58110)))))) * 31 + ((ofChargeA S (i2) (j2)).toInt64))), (3, .int (nI (i2))), (0, .ref (g.ad 1 0))]) hx hb dX12_digest_235 hl (k := 1) rfl rfl (by decide) rfl (fun ls hl => ?_)
                                refine lv_goto (tgt := 211) hx hb dX12_digest_238 (by decide) ?_
                                refine W.widen (show 56 + 12 * i2 + 1 * j2 + 1 ≤ 56 + 12 * i2 + 1 * (j2 + 1) by omega) (show 392 + 144 * i2 + 12 * j2 + 12 ≤ 392 + 144 * i2 + 12 * (j2 + 1) by omega) ?_
                                refine ih211 (j2 + 1) H1 locs1 (by omega) hR hS ls ?_
                                rw [nI_succ j2, fl_s _ j2 _]
                                exact lv_sub hl [0, 2, 1, 3] rfl
                          refine loop211 (12) 0 H1 locs1 (by omega) hR hS ls ?_
                          rw [fl_0]
                          exact lv_sub hl [0, 1, 2, 3] rfl
                    refine loop194 (S.nc) 0 H1 locs1 (by omega) hR hS ls ?_
                    rw [fl_0]
                    exact lv_sub hl [0, 1, 2] rfl
                  · exact absurd (by decide) c_136
                | succ r134 ih134 =>
                  intro i1 hE134 ls hl
                  have hlt134 : i1 < 4 := by omega
                  refine lv_iload_n hx hb dX12_digest_134 rfl (lv_at hl 0 rfl) ?_
                  refine lv_iconst (v := 4) hx hb dX12_digest_135 (by decide) ?_
                  refine lv_icmp_ge (tgt := 192) hx hb dX12_digest_136 (by decide) (fun c_136 => ?_) (fun c_136 => ?_)
                  · exact absurd c_136 (show ¬ (4 : Int32) ≤ nI i1 from nI_ge (b := 4) hlt134 (by decide))
                  ·
                    refine lv_iconst (v := 0) hx hb dX12_digest_139 (by decide) ?_
                    refine lv_istore (lv' := [(4, .int (0)), (3, .int (nI (i1))), (1, .long (fl (fun k d => fl (fun per d => mixL (mixL d (leftL S k 0 (per + 1))) (leftL S k 1 (per + 1))) 4 d) i1 (fl (fun p d => fl (fun k d => mixL (mixL d (spendA S p k (nI 0))) (spendA S p k (nI 1))) 4 (fl (fun w d => mixL d (ofPersonA S p w)) 7 d)) S.np (fl (fun w d => mixL d (manyA S w)) 13 (58110))))), (0, .ref (g.ad 1 0))]) hx hb dX12_digest_140 hl (by decide) rfl (fun ls hl => ?_)
                    have loop142 : ∀ (r142 j1 : Nat), j1 + r142 = 4 → ∀ ls, lv_has ls 5 [(4, .int (nI (j1))), (3, .int (nI (i1))), (1, .long (fl (fun per d => mixL (mixL d (leftL S i1 0 (per + 1))) (leftL S i1 1 (per + 1))) j1 (fl (fun k d => fl (fun per d => mixL (mixL d (leftL S k 0 (per + 1))) (leftL S k 1 (per + 1))) 4 d) i1 (fl (fun p d => fl (fun k d => mixL (mixL d (spendA S p k (nI 0))) (spendA S p k (nI 1))) 4 (fl (fun w d => mixL d (ofPersonA S p w)) 7 d)) S.np (fl (fun w d => mixL d (manyA S w)) 13 (58110)))))), (0, .ref (g.ad 1 0))] → W p l e (wD 8 424 4952) s m ([.ref (g.ad 1 0)] : List Value).toArray below meth c H1 locs1 (56) (392) (MQ below (WQ (ow g) s.heap.size (fun v H => RB E (S) (0) g H ∧ v = some (.long (digA S)))) ([.ref (g.ad 1 0)] : List Value).toArray s (wD 8 424 4952).cells (wD 8 424 4952).slots (fun q => ow g q ∨ s.heap.size ≤ q)) (F0 m 142 ls []) := by
                      intro r142
                      induction r142 with
                      | zero =>
                        intro j1 hE142 ls hl
                        have hN142 : j1 = 4 := by omega
                        subst hN142
                        refine lv_iload hx hb dX12_digest_142 (lv_at hl 0 rfl) ?_
                        refine lv_iconst (v := 4) hx hb dX12_digest_144 (by decide) ?_
                        refine lv_icmp_ge (tgt := 186) hx hb dX12_digest_145 (by decide) (fun c_145 => ?_) (fun c_145 => ?_)
                        ·
                          refine lv_iinc (v := nI (i1) + 1) (lv' := [(3, .int (nI (i1) + 1)), (4, .int (nI (4))), (1, .long (fl (fun per d => mixL (mixL d (leftL S i1 0 (per + 1))) (leftL S i1 1 (per + 1))) 4 (fl (fun k d => fl (fun per d => mixL (mixL d (leftL S k 0 (per + 1))) (leftL S k 1 (per + 1))) 4 d) i1 (fl (fun p d => fl (fun k d => mixL (mixL d (spendA S p k (nI 0))) (spendA S p k (nI 1))) 4 (fl (fun w d => mixL d (ofPersonA S p w)) 7 d)) S.np (fl (fun w d => mixL d (manyA S w)) 13 (58110)))))), (0, .ref (g.ad 1 0))]) hx hb dX12_digest_186 hl (k := 1) rfl rfl (by decide) rfl (fun ls hl => ?_)
                          refine lv_goto (tgt := 134) hx hb dX12_digest_189 (by decide) ?_
                          refine ih134 (i1 + 1) (by omega) ls ?_
                          rw [nI_succ i1, fl_s _ i1 _]
                          exact lv_sub hl [0, 2, 3] rfl
                        · exact absurd (by decide) c_145
                      | succ r142 ih142 =>
                        intro j1 hE142 ls hl
                        have hlt142 : j1 < 4 := by omega
                        refine lv_iload hx hb dX12_digest_142 (lv_at hl 0 rfl) ?_
                        refine lv_iconst (v := 4) hx hb dX12_digest_144 (by decide) ?_
                        refine lv_icmp_ge (tgt := 186) hx hb dX12_digest_145 (by decide) (fun c_145 => ?_) (fun c_145 => ?_)
                        · exact absurd c_145 (show ¬ (4 : Int32) ≤ nI j1 from nI_ge (b := 4) hlt142 (by decide))
                        ·
                          refine lv_lload_n hx hb dX12_digest_148 rfl (lv_at hl 2 rfl) ?_
                          refine lv_aload_n hx hb dX12_digest_149 rfl (lv_at hl 3 rfl) ?_
                          refine gf_X12_1 hx hb hown hC (RB.x hR) (zf_X12_10 hC.1) dX12_digest_150 ?_
                          refine lv_iload_n hx hb dX12_digest_153 rfl (lv_at hl 1 rfl) ?_
                          refine lv_iload hx hb dX12_digest_154 (lv_at hl 0 rfl) ?_
                          refine lv_iconst (v := 0) hx hb dX12_digest_156 (by decide) ?_
                          refine rc_V (As := [.int (nI (i1)), .int (nI (j1)), .int (0)]) hx hb hml hown hC hl (c_X8_left l E hI hlt134 (0) _ hlt142) (rec_of hC (RB.dk hR) rfl) (zm_X12_163 hC.1) kv_X8_left hR rfl rfl (rwD_le (by omega) (by decide)) ⟨rfl, rfl⟩ (Nat.le_of_ble_eq_true rfl) ⟨(by show 56 ≤ 424; omega), (by show 392 ≤ 4952; omega)⟩ dX12_digest_157 ?_
                          refine lv_i2l hx hb dX12_digest_160 rfl ?_
                          refine rc_S (As := [.long (fl (fun per d => mixL (mixL d (leftL S i1 0 (per + 1))) (leftL S i1 1 (per + 1))) j1 (fl (fun k d => fl (fun per d => mixL (mixL d (leftL S k 0 (per + 1))) (leftL S k 1 (per + 1))) 4 d) i1 (fl (fun p d => fl (fun k d => mixL (mixL d (spendA S p k (nI 0))) (spendA S p k (nI 1))) 4 (fl (fun w d => mixL d (ofPersonA S p w)) 7 d)) S.np (fl (fun w d => mixL d (manyA S w)) 13 (58110))))), .long ((leftL S (i1) (0) (j1 + 1)).toInt64)]) hx hb hml hown hC hl (c_X12_add l E (fl (fun per d => mixL (mixL d (leftL S i1 0 (per + 1))) (leftL S i1 1 (per + 1))) j1 (fl (fun k d => fl (fun per d => mixL (mixL d (leftL S k 0 (per + 1))) (leftL S k 1 (per + 1))) 4 d) i1 (fl (fun p d => fl (fun k d => mixL (mixL d (spendA S p k (nI 0))) (spendA S p k (nI 1))) 4 (fl (fun w d => mixL d (ofPersonA S p w)) 7 d)) S.np (fl (fun w d => mixL d (manyA S w)) 13 (58110))))) ((leftL S (i1) (0) (j1 + 1)).toInt64)) (zm_X12_270 hC.1) kv_X12_add True.intro rfl rfl (rwD_le (by decide) (by decide)) ⟨rfl, rfl⟩ (Nat.le_of_ble_eq_true rfl) ⟨(by show 56 ≤ 424; omega), (by show 392 ≤ 4952; omega)⟩ dX12_digest_161 ?_
                          refine lv_aload_n hx hb dX12_digest_164 rfl (lv_at hl 3 rfl) ?_
                          refine gf_X12_1 hx hb hown hC (RB.x hR) (zf_X12_10 hC.1) dX12_digest_165 ?_
                          refine lv_iload_n hx hb dX12_digest_168 rfl (lv_at hl 1 rfl) ?_
                          refine lv_iload hx hb dX12_digest_169 (lv_at hl 0 rfl) ?_
                          refine lv_iconst (v := 1) hx hb dX12_digest_171 (by decide) ?_
                          refine rc_V (As := [.int (nI (i1)), .int (nI (j1)), .int (1)]) hx hb hml hown hC hl (c_X8_left l E hI hlt134 (1) _ hlt142) (rec_of hC (RB.dk hR) rfl) (zm_X12_163 hC.1) kv_X8_left hR rfl rfl (rwD_le (by omega) (by decide)) ⟨rfl, rfl⟩ (Nat.le_of_ble_eq_true rfl) ⟨(by show 56 ≤ 424; omega), (by show 392 ≤ 4952; omega)⟩ dX12_digest_172 ?_
                          refine lv_i2l hx hb dX12_digest_175 rfl ?_
                          refine rc_S (As := [.long ((fl (fun per d => mixL (mixL d (leftL S i1 0 (per + 1))) (leftL S i1 1 (per + 1))) j1 (fl (fun k d => fl (fun per d => mixL (mixL d (leftL S k 0 (per + 1))) (leftL S k 1 (per + 1))) 4 d) i1 (fl (fun p d => fl (fun k d => mixL (mixL d (spendA S p k (nI 0))) (spendA S p k (nI 1))) 4 (fl (fun w d => mixL d (ofPersonA S p w)) 7 d)) S.np (fl (fun w d => mixL d (manyA S w)) 13 (58110))))) * 31 + ((leftL S (i1) (0) (j1 + 1)).toInt64)), .long ((leftL S (i1) (1) (j1 + 1)).toInt64)]) hx hb hml hown hC hl (c_X12_add l E ((fl (fun per d => mixL (mixL d (leftL S i1 0 (per + 1))) (leftL S i1 1 (per + 1))) j1 (fl (fun k d => fl (fun per d => mixL (mixL d (leftL S k 0 (per + 1))) (leftL S k 1 (per + 1))) 4 d) i1 (fl (fun p d => fl (fun k d => mixL (mixL d (spendA S p k (nI 0))) (spendA S p k (nI 1))) 4 (fl (fun w d => mixL d (ofPersonA S p w)) 7 d)) S.np (fl (fun w d => mixL d (manyA S w)) 13 (58110))))) * 31 + ((leftL S (i1) (0) (j1 + 1)).toInt64)) ((leftL S (i1) (1) (j1 + 1)).toInt64)) (zm_X12_270 hC.1) kv_X12_add True.intro rfl rfl (rwD_le (by decide) (by decide)) ⟨rfl, rfl⟩ (Nat.le_of_ble_eq_true rfl) ⟨(by show 56 ≤ 424; omega), (by show 392 ≤ 4952; omega)⟩ dX12_digest_176 ?_
                          refine lv_lstore_n (lv' := [(1, .long (((fl (fun per d => mixL (mixL d (leftL S i1 0 (per + 1))) (leftL S i1 1 (per + 1))) j1 (fl (fun k d => fl (fun per d => mixL (mixL d (leftL S k 0 (per + 1))) (leftL S k 1 (per + 1))) 4 d) i1 (fl (fun p d => fl (fun k d => mixL (mixL d (spendA S p k (nI 0))) (spendA S p k (nI 1))) 4 (fl (fun w d => mixL d (ofPersonA S p w)) 7 d)) S.np (fl (fun w d => mixL d (manyA S w)) 13 (58110))))) * 31 + ((leftL S (i1) (0) (j1 + 1)).toInt64)) * 31 + ((leftL S (i1) (1) (j1 + 1)).toInt64))), (4, .int (nI (j1))), (3, .int (nI (i1))), (0, .ref (g.ad 1 0))]) hx hb dX12_digest_179 rfl hl (by decide) rfl (fun ls hl => ?_)
                          refine lv_iinc (v := nI (j1) + 1) (lv' := [(4, .int (nI (j1) + 1)), (1, .long (((fl (fun per d => mixL (mixL d (leftL S i1 0 (per + 1))) (leftL S i1 1 (per + 1))) j1 (fl (fun k d => fl (fun per d => mixL (mixL d (leftL S k 0 (per + 1))) (leftL S k 1 (per + 1))) 4 d) i1 (fl (fun p d => fl (fun k d => mixL (mixL d (spendA S p k (nI 0))) (spendA S p k (nI 1))) 4 (fl (fun w d => mixL d (ofPersonA S p w)) 7 d)) S.np (fl (fun w d => mixL d (manyA S w)) 13 (58110))))) * 31 + ((leftL S (i1) (0) (j1 + 1)).toInt64)) * 31 + ((leftL S (i1) (1) (j1 + 1)).toInt64))), (3, .int (nI (i1))), (0, .ref (g.ad 1 0))]) hx hb dX12_digest_180 hl (k := 1) rfl rfl (by decide) rfl (fun ls hl => ?_)
                          refine lv_goto (tgt := 142) hx hb dX12_digest_183 (by decide) ?_
                          refine ih142 (j1 + 1) (by omega) ls ?_
                          rw [nI_succ j1, fl_s _ j1 _]
                          exact lv_sub hl [0, 2, 1, 3] rfl
                    refine loop142 (4) 0 (by omega) ls ?_
                    rw [fl_0]
                    exact lv_sub hl [0, 1, 2, 3] rfl
              refine loop134 (4) 0 (by omega) ls ?_
              rw [fl_0]
              exact lv_sub hl [0, 1, 2] rfl
            · exact absurd (Int32.le_refl _) c_47
          | succ r36 ih36 =>
            intro i H1 locs1 hE36 hR hS ls hl
            have hlt36 : i < S.np := by omega
            refine lv_iload_n hx hb dX12_digest_36 rfl (lv_at hl 0 rfl) ?_
            refine lv_aload_n hx hb dX12_digest_37 rfl (lv_at hl 2 rfl) ?_
            refine gf_X12_1 hx hb hown hC (RB.x hR) (zf_X12_10 hC.1) dX12_digest_38 ?_
            refine gf_X8_0 hx hb hown hC (RB.dk hR) (zf_X12_24 hC.1) dX12_digest_41 ?_
            refine rc_V (As := []) hx hb hml hown hC hl (c_size l E _ _ _ _) (rec_of hC (RB.ls hR (by decide : 0 < 4)) rfl) (zm_X12_28 hC.1) kv_Jx4a65c_size_8abf5 (RB.ls hR (by decide : 0 < 4)) rfl rfl (rwD_le (by decide) (by decide)) ⟨rfl, rfl⟩ (Nat.le_of_ble_eq_true rfl) ⟨(by show 0 + 7 * i ≤ 424; omega), (by show 0 + 49 * i ≤ 4952; omega)⟩ dX12_digest_44 ?_
            refine lv_icmp_ge (tgt := 132) hx hb dX12_digest_47 (by decide) (fun c_47 => ?_) (fun c_47 => ?_)
            · exact absurd c_47 (nI_ge hlt36 hI.np31)
            ·
              refine lv_iconst (v := 0) hx hb dX12_digest_50 (by decide) ?_
              refine lv_istore (lv' := [(4, .int (0)), (3, .int (nI (i))), (1, .long (fl (fun p d => fl (fun k d => mixL (mixL d (spendA S p k (nI 0))) (spendA S p k (nI 1))) 4 (fl (fun w d => mixL d (ofPersonA S p w)) 7 d)) i (fl (fun w d => mixL d (manyA S w)) 13 (58110)))), (0, .ref (g.ad 1 0))]) hx hb dX12_digest_51 hl (by decide) rfl (fun ls hl => ?_)
              have loop53 : ∀ (r53 j : Nat) (H1 : Heap) (locs1 : List Loc), j + r53 = 7 → RB E S 0 g H1 → va_S (fun q => ow g q ∨ s.heap.size ≤ q) s.heap H1 locs1 → ∀ ls, lv_has ls 5 [(4, .int (nI (j))), (3, .int (nI (i))), (1, .long (fl (fun w d => mixL d (ofPersonA S i w)) j (fl (fun p d => fl (fun k d => mixL (mixL d (spendA S p k (nI 0))) (spendA S p k (nI 1))) 4 (fl (fun w d => mixL d (ofPersonA S p w)) 7 d)) i (fl (fun w d => mixL d (manyA S w)) 13 (58110))))), (0, .ref (g.ad 1 0))] → W p l e (wD 8 424 4952) s m ([.ref (g.ad 1 0)] : List Value).toArray below meth c H1 locs1 (0 + 7 * i + 1 * j) (0 + 49 * i + 7 * j) (MQ below (WQ (ow g) s.heap.size (fun v H => RB E (S) (0) g H ∧ v = some (.long (digA S)))) ([.ref (g.ad 1 0)] : List Value).toArray s (wD 8 424 4952).cells (wD 8 424 4952).slots (fun q => ow g q ∨ s.heap.size ≤ q)) (F0 m 53 ls []) := by
                intro r53
                induction r53 with
                | zero =>
                  intro j H1 locs1 hE53 hR hS ls hl
                  have hN53 : j = 7 := by omega
                  subst hN53
                  refine lv_iload hx hb dX12_digest_53 (lv_at hl 0 rfl) ?_
                  refine lv_bipush (v := 7) hx hb dX12_digest_55 (by decide) ?_
                  refine lv_icmp_ge (tgt := 79) hx hb dX12_digest_57 (by decide) (fun c_57 => ?_) (fun c_57 => ?_)
                  ·
                    refine lv_iconst (v := 0) hx hb dX12_digest_79 (by decide) ?_
                    refine lv_istore (lv' := [(4, .int (0)), (3, .int (nI (i))), (1, .long (fl (fun w d => mixL d (ofPersonA S i w)) 7 (fl (fun p d => fl (fun k d => mixL (mixL d (spendA S p k (nI 0))) (spendA S p k (nI 1))) 4 (fl (fun w d => mixL d (ofPersonA S p w)) 7 d)) i (fl (fun w d => mixL d (manyA S w)) 13 (58110))))), (0, .ref (g.ad 1 0))]) hx hb dX12_digest_80 hl (by decide) rfl (fun ls hl => ?_)
                    have loop82 : ∀ (r82 k : Nat), k + r82 = 4 → ∀ ls, lv_has ls 5 [(4, .int (nI (k))), (3, .int (nI (i))), (1, .long (fl (fun k d => mixL (mixL d (spendA S i k (nI 0))) (spendA S i k (nI 1))) k (fl (fun w d => mixL d (ofPersonA S i w)) 7 (fl (fun p d => fl (fun k d => mixL (mixL d (spendA S p k (nI 0))) (spendA S p k (nI 1))) 4 (fl (fun w d => mixL d (ofPersonA S p w)) 7 d)) i (fl (fun w d => mixL d (manyA S w)) 13 (58110)))))), (0, .ref (g.ad 1 0))] → W p l e (wD 8 424 4952) s m ([.ref (g.ad 1 0)] : List Value).toArray below meth c H1 locs1 (0 + 7 * i + 1 * 7) (0 + 49 * i + 7 * 7) (MQ below (WQ (ow g) s.heap.size (fun v H => RB E (S) (0) g H ∧ v = some (.long (digA S)))) ([.ref (g.ad 1 0)] : List Value).toArray s (wD 8 424 4952).cells (wD 8 424 4952).slots (fun q => ow g q ∨ s.heap.size ≤ q)) (F0 m 82 ls []) := by
                      intro r82
                      induction r82 with
                      | zero =>
                        intro k hE82 ls hl
                        have hN82 : k = 4 := by omega
                        subst hN82
                        refine lv_iload hx hb dX12_digest_82 (lv_at hl 0 rfl) ?_
                        refine lv_iconst (v := 4) hx hb dX12_digest_84 (by decide) ?_
                        refine lv_icmp_ge (tgt := 126) hx hb dX12_digest_85 (by decide) (fun c_85 => ?_) (fun c_85 => ?_)
                        ·
                          refine lv_iinc (v := nI (i) + 1) (lv' := [(3, .int (nI (i) + 1)), (4, .int (nI (4))), (1, .long (fl (fun k d => mixL (mixL d (spendA S i k (nI 0))) (spendA S i k (nI 1))) 4 (fl (fun w d => mixL d (ofPersonA S i w)) 7 (fl (fun p d => fl (fun k d => mixL (mixL d (spendA S p k (nI 0))) (spendA S p k (nI 1))) 4 (fl (fun w d => mixL d (ofPersonA S p w)) 7 d)) i (fl (fun w d => mixL d (manyA S w)) 13 (58110)))))), (0, .ref (g.ad 1 0))]) hx hb dX12_digest_126 hl (k := 1) rfl rfl (by decide) rfl (fun ls hl => ?_)
                          refine lv_goto (tgt := 36) hx hb dX12_digest_129 (by decide) ?_
                          refine W.widen (show 0 + 7 * i + 1 * 7 ≤ 0 + 7 * (i + 1) by omega) (show 0 + 49 * i + 7 * 7 ≤ 0 + 49 * (i + 1) by omega) ?_
                          refine ih36 (i + 1) H1 locs1 (by omega) hR hS ls ?_
                          rw [nI_succ i, fl_s _ i _]
                          exact lv_sub hl [0, 2, 3] rfl
                        · exact absurd (by decide) c_85
                      | succ r82 ih82 =>
                        intro k hE82 ls hl
                        have hlt82 : k < 4 := by omega
                        refine lv_iload hx hb dX12_digest_82 (lv_at hl 0 rfl) ?_
                        refine lv_iconst (v := 4) hx hb dX12_digest_84 (by decide) ?_
                        refine lv_icmp_ge (tgt := 126) hx hb dX12_digest_85 (by decide) (fun c_85 => ?_) (fun c_85 => ?_)
                        · exact absurd c_85 (show ¬ (4 : Int32) ≤ nI k from nI_ge (b := 4) hlt82 (by decide))
                        ·
                          refine lv_lload_n hx hb dX12_digest_88 rfl (lv_at hl 2 rfl) ?_
                          refine lv_aload_n hx hb dX12_digest_89 rfl (lv_at hl 3 rfl) ?_
                          refine gf_X12_1 hx hb hown hC (RB.x hR) (zf_X12_10 hC.1) dX12_digest_90 ?_
                          refine lv_iload_n hx hb dX12_digest_93 rfl (lv_at hl 1 rfl) ?_
                          refine lv_iload hx hb dX12_digest_94 (lv_at hl 0 rfl) ?_
                          refine lv_iconst (v := 0) hx hb dX12_digest_96 (by decide) ?_
                          refine rc_V (As := [.int (nI (i)), .int (nI (k)), .int (0)]) hx hb hml hown hC hl (c_X8_maySpend l E hI hlt36 hlt82 (0)) (rec_of hC (RB.dk hR) rfl) (zm_X12_144 hC.1) kv_X8_maySpend hR rfl rfl (rwD_le (by decide) (by decide)) ⟨rfl, rfl⟩ (Nat.le_of_ble_eq_true rfl) ⟨(by show 0 + 7 * i + 1 * 7 ≤ 424; omega), (by show 0 + 49 * i + 7 * 7 ≤ 4952; omega)⟩ dX12_digest_97 ?_
                          refine lv_i2l hx hb dX12_digest_100 rfl ?_
                          refine rc_S (As := [.long (fl (fun k d => mixL (mixL d (spendA S i k (nI 0))) (spendA S i k (nI 1))) k (fl (fun w d => mixL d (ofPersonA S i w)) 7 (fl (fun p d => fl (fun k d => mixL (mixL d (spendA S p k (nI 0))) (spendA S p k (nI 1))) 4 (fl (fun w d => mixL d (ofPersonA S p w)) 7 d)) i (fl (fun w d => mixL d (manyA S w)) 13 (58110))))), .long ((spendA S (i) (k) (0)).toInt64)]) hx hb hml hown hC hl (c_X12_add l E (fl (fun k d => mixL (mixL d (spendA S i k (nI 0))) (spendA S i k (nI 1))) k (fl (fun w d => mixL d (ofPersonA S i w)) 7 (fl (fun p d => fl (fun k d => mixL (mixL d (spendA S p k (nI 0))) (spendA S p k (nI 1))) 4 (fl (fun w d => mixL d (ofPersonA S p w)) 7 d)) i (fl (fun w d => mixL d (manyA S w)) 13 (58110))))) ((spendA S (i) (k) (0)).toInt64)) (zm_X12_270 hC.1) kv_X12_add True.intro rfl rfl (rwD_le (by decide) (by decide)) ⟨rfl, rfl⟩ (Nat.le_of_ble_eq_true rfl) ⟨(by show 0 + 7 * i + 1 * 7 ≤ 424; omega), (by show 0 + 49 * i + 7 * 7 ≤ 4952; omega)⟩ dX12_digest_101 ?_
                          refine lv_aload_n hx hb dX12_digest_104 rfl (lv_at hl 3 rfl) ?_
                          refine gf_X12_1 hx hb hown hC (RB.x hR) (zf_X12_10 hC.1) dX12_digest_105 ?_
                          refine lv_iload_n hx hb dX12_digest_108 rfl (lv_at hl 1 rfl) ?_
                          refine lv_iload hx hb dX12_digest_109 (lv_at hl 0 rfl) ?_
                          refine lv_iconst (v := 1) hx hb dX12_digest_111 (by decide) ?_
                          refine rc_V (As := [.int (nI (i)), .int (nI (k)), .int (1)]) hx hb hml hown hC hl (c_X8_maySpend l E hI hlt36 hlt82 (1)) (rec_of hC (RB.dk hR) rfl) (zm_X12_144 hC.1) kv_X8_maySpend hR rfl rfl (rwD_le (by decide) (by decide)) ⟨rfl, rfl⟩ (Nat.le_of_ble_eq_true rfl) ⟨(by show 0 + 7 * i + 1 * 7 ≤ 424; omega), (by show 0 + 49 * i + 7 * 7 ≤ 4952; omega)⟩ dX12_digest_112 ?_
                          refine lv_i2l hx hb dX12_digest_115 rfl ?_
                          refine rc_S (As := [.long ((fl (fun k d => mixL (mixL d (spendA S i k (nI 0))) (spendA S i k (nI 1))) k (fl (fun w d => mixL d (ofPersonA S i w)) 7 (fl (fun p d => fl (fun k d => mixL (mixL d (spendA S p k (nI 0))) (spendA S p k (nI 1))) 4 (fl (fun w d => mixL d (ofPersonA S p w)) 7 d)) i (fl (fun w d => mixL d (manyA S w)) 13 (58110))))) * 31 + ((spendA S (i) (k) (0)).toInt64)), .long ((spendA S (i) (k) (1)).toInt64)]) hx hb hml hown hC hl (c_X12_add l E ((fl (fun k d => mixL (mixL d (spendA S i k (nI 0))) (spendA S i k (nI 1))) k (fl (fun w d => mixL d (ofPersonA S i w)) 7 (fl (fun p d => fl (fun k d => mixL (mixL d (spendA S p k (nI 0))) (spendA S p k (nI 1))) 4 (fl (fun w d => mixL d (ofPersonA S p w)) 7 d)) i (fl (fun w d => mixL d (manyA S w)) 13 (58110))))) * 31 + ((spendA S (i) (k) (0)).toInt64)) ((spendA S (i) (k) (1)).toInt64)) (zm_X12_270 hC.1) kv_X12_add True.intro rfl rfl (rwD_le (by decide) (by decide)) ⟨rfl, rfl⟩ (Nat.le_of_ble_eq_true rfl) ⟨(by show 0 + 7 * i + 1 * 7 ≤ 424; omega), (by show 0 + 49 * i + 7 * 7 ≤ 4952; omega)⟩ dX12_digest_116 ?_
                          refine lv_lstore_n (lv' := [(1, .long (((fl (fun k d => mixL (mixL d (spendA S i k (nI 0))) (spendA S i k (nI 1))) k (fl (fun w d => mixL d (ofPersonA S i w)) 7 (fl (fun p d => fl (fun k d => mixL (mixL d (spendA S p k (nI 0))) (spendA S p k (nI 1))) 4 (fl (fun w d => mixL d (ofPersonA S p w)) 7 d)) i (fl (fun w d => mixL d (manyA S w)) 13 (58110))))) * 31 + ((spendA S (i) (k) (0)).toInt64)) * 31 + ((spendA S (i) (k) (1)).toInt64))), (4, .int (nI (k))), (3, .int (nI (i))), (0, .ref (g.ad 1 0))]) hx hb dX12_digest_119 rfl hl (by decide) rfl (fun ls hl => ?_)
                          refine lv_iinc (v := nI (k) + 1) (lv' := [(4, .int (nI (k) + 1)), (1, .long (((fl (fun k d => mixL (mixL d (spendA S i k (nI 0))) (spendA S i k (nI 1))) k (fl (fun w d => mixL d (ofPersonA S i w)) 7 (fl (fun p d => fl (fun k d => mixL (mixL d (spendA S p k (nI 0))) (spendA S p k (nI 1))) 4 (fl (fun w d => mixL d (ofPersonA S p w)) 7 d)) i (fl (fun w d => mixL d (manyA S w)) 13 (58110))))) * 31 + ((spendA S (i) (k) (0)).toInt64)) * 31 + ((spendA S (i) (k) (1)).toInt64))), (3, .int (nI (i))), (0, .ref (g.ad 1 0))]) hx hb dX12_digest_120 hl (k := 1) rfl rfl (by decide) rfl (fun ls hl => ?_)
                          refine lv_goto (tgt := 82) hx hb dX12_digest_123 (by decide) ?_
                          refine ih82 (k + 1) (by omega) ls ?_
                          rw [nI_succ k, fl_s _ k _]
                          exact lv_sub hl [0, 2, 1, 3] rfl
                    refine loop82 (4) 0 (by omega) ls ?_
                    rw [fl_0]
                    exact lv_sub hl [0, 1, 2, 3] rfl
                  · exact absurd (by decide) c_57
                | succ r53 ih53 =>
                  intro j H1 locs1 hE53 hR hS ls hl
                  have hlt53 : j < 7 := by omega
                  refine lv_iload hx hb dX12_digest_53 (lv_at hl 0 rfl) ?_
                  refine lv_bipush (v := 7) hx hb dX12_digest_55 (by decide) ?_
                  refine lv_icmp_ge (tgt := 79) hx hb dX12_digest_57 (by decide) (fun c_57 => ?_) (fun c_57 => ?_)
                  · exact absurd c_57 (show ¬ (7 : Int32) ≤ nI j from nI_ge (b := 7) hlt53 (by decide))
                  ·
                    refine lv_lload_n hx hb dX12_digest_60 rfl (lv_at hl 2 rfl) ?_
                    refine lv_aload_n hx hb dX12_digest_61 rfl (lv_at hl 3 rfl) ?_
                    refine lv_iload_n hx hb dX12_digest_62 rfl (lv_at hl 1 rfl) ?_
                    refine lv_iload hx hb dX12_digest_63 (lv_at hl 0 rfl) ?_
                    refine wcw_V (As := [.int (nI (i)), .int (nI (j))]) hx hb hml hown hC hl (c_X12_ofPersonNow l E hI hlt36 (w9 := j) (by omega)) (rec_of hC (RB.x hR) rfl) (zm_X12_140 hC.1) kv_X12_ofPersonNow hR hS (fun q h => h.imp id (Nat.le_trans hS.1)) rfl rfl (wD_le (by decide) (by decide)) (Nat.le_of_ble_eq_true rfl) ⟨(by show 0 + 7 * i + 1 * j + 1 ≤ 424; omega), (by show 0 + 49 * i + 7 * j + 7 ≤ 4952; omega)⟩ dX12_digest_65 (fun H1 locs1 hR hz hq hS => ?_)
                    refine lv_i2l hx hb dX12_digest_68 rfl ?_
                    refine rc_S (As := [.long (fl (fun w d => mixL d (ofPersonA S i w)) j (fl (fun p d => fl (fun k d => mixL (mixL d (spendA S p k (nI 0))) (spendA S p k (nI 1))) 4 (fl (fun w d => mixL d (ofPersonA S p w)) 7 d)) i (fl (fun w d => mixL d (manyA S w)) 13 (58110)))), .long ((ofPersonA S (i) (j)).toInt64)]) hx hb hml hown hC hl (c_X12_add l E (fl (fun w d => mixL d (ofPersonA S i w)) j (fl (fun p d => fl (fun k d => mixL (mixL d (spendA S p k (nI 0))) (spendA S p k (nI 1))) 4 (fl (fun w d => mixL d (ofPersonA S p w)) 7 d)) i (fl (fun w d => mixL d (manyA S w)) 13 (58110)))) ((ofPersonA S (i) (j)).toInt64)) (zm_X12_270 hC.1) kv_X12_add True.intro rfl rfl (rwD_le (by decide) (by decide)) ⟨rfl, rfl⟩ (Nat.le_of_ble_eq_true rfl) ⟨(by show 0 + 7 * i + 1 * j + 1 ≤ 424; omega), (by show 0 + 49 * i + 7 * j + 7 ≤ 4952; omega)⟩ dX12_digest_69 ?_
                    refine lv_lstore_n (lv' := [(1, .long ((fl (fun w d => mixL d (ofPersonA S i w)) j (fl (fun p d => fl (fun k d => mixL (mixL d (spendA S p k (nI 0))) (spendA S p k (nI 1))) 4 (fl (fun w d => mixL d (ofPersonA S p w)) 7 d)) i (fl (fun w d => mixL d (manyA S w)) 13 (58110)))) * 31 + ((ofPersonA S (i) (j)).toInt64))), (4, .int (nI (j))), (3, .int (nI (i))), (0, .ref (g.ad 1 0))]) hx hb dX12_digest_72 rfl hl (by decide) rfl (fun ls hl => ?_)
                    refine lv_iinc (v := nI (j) + 1) (lv' := [(4, .int (nI (j) + 1)), (1, .long ((fl (fun w d => mixL d (ofPersonA S i w)) j (fl (fun p d => fl (fun k d => mixL (mixL d (spendA S p k (nI 0))) (spendA S p k (nI 1))) 4 (fl (fun w d => mixL d (ofPersonA S p w)) 7 d)) i (fl (fun w d => mixL d (manyA S w)) 13 (58110)))) * 31 + ((ofPersonA S (i) (j)).toInt64))), (3, .int (nI (i))), (0, .ref (g.ad 1 0))]) hx hb dX12_digest_73 hl (k := 1) rfl rfl (by decide) rfl (fun ls hl => ?_)
                    refine lv_goto (tgt := 53) hx hb dX12_digest_76 (by decide) ?_
                    refine W.widen (show 0 + 7 * i + 1 * j + 1 ≤ 0 + 7 * i + 1 * (j + 1) by omega) (show 0 + 49 * i + 7 * j + 7 ≤ 0 + 49 * i + 7 * (j + 1) by omega) ?_
                    refine ih53 (j + 1) H1 locs1 (by omega) hR hS ls ?_
                    rw [nI_succ j, fl_s _ j _]
                    exact lv_sub hl [0, 2, 1, 3] rfl
              refine loop53 (7) 0 H1 locs1 (by omega) hR hS ls ?_
              rw [fl_0]
              exact lv_sub hl [0, 1, 2, 3] rfl
        refine loop36 (S.np) 0 H1 locs1 (by omega) hR hS ls ?_
        rw [fl_0]
        exact lv_sub hl [0, 1, 2] rfl
      · exact absurd (by decide) c_14
    | succ r11 ih11 =>
      intro i0 hE11 ls hl
      have hlt11 : i0 < 13 := by omega
      refine lv_iload_n hx hb dX12_digest_11 rfl (lv_at hl 0 rfl) ?_
      refine lv_bipush (v := 13) hx hb dX12_digest_12 (by decide) ?_
      refine lv_icmp_ge (tgt := 34) hx hb dX12_digest_14 (by decide) (fun c_14 => ?_) (fun c_14 => ?_)
      · exact absurd c_14 (show ¬ (13 : Int32) ≤ nI i0 from nI_ge (b := 13) hlt11 (by decide))
      ·
        refine lv_lload_n hx hb dX12_digest_17 rfl (lv_at hl 1 rfl) ?_
        refine lv_aload_n hx hb dX12_digest_18 rfl (lv_at hl 2 rfl) ?_
        refine lv_iload_n hx hb dX12_digest_19 rfl (lv_at hl 0 rfl) ?_
        refine rc_V (As := [.int (nI (i0))]) hx hb hml hown hC hl (c_X12_count l E hI (w9 := i0) (by omega)) (rec_of hC (RB.x hR) rfl) (zm_X12_257 hC.1) kv_X12_count hR rfl rfl (rwD_le (by decide) (by decide)) ⟨rfl, rfl⟩ (Nat.le_of_ble_eq_true rfl) ⟨(by show 0 ≤ 424; omega), (by show 0 ≤ 4952; omega)⟩ dX12_digest_20 ?_
        refine lv_i2l hx hb dX12_digest_23 rfl ?_
        refine rc_S (As := [.long (fl (fun w d => mixL d (manyA S w)) i0 (58110)), .long ((manyA S (i0)).toInt64)]) hx hb hml hown hC hl (c_X12_add l E (fl (fun w d => mixL d (manyA S w)) i0 (58110)) ((manyA S (i0)).toInt64)) (zm_X12_270 hC.1) kv_X12_add True.intro rfl rfl (rwD_le (by decide) (by decide)) ⟨rfl, rfl⟩ (Nat.le_of_ble_eq_true rfl) ⟨(by show 0 ≤ 424; omega), (by show 0 ≤ 4952; omega)⟩ dX12_digest_24 ?_
        refine lv_lstore_n (lv' := [(1, .long ((fl (fun w d => mixL d (manyA S w)) i0 (58110)) * 31 + ((manyA S (i0)).toInt64))), (3, .int (nI (i0))), (0, .ref (g.ad 1 0))]) hx hb dX12_digest_27 rfl hl (by decide) rfl (fun ls hl => ?_)
        refine lv_iinc (v := nI (i0) + 1) (lv' := [(3, .int (nI (i0) + 1)), (1, .long ((fl (fun w d => mixL d (manyA S w)) i0 (58110)) * 31 + ((manyA S (i0)).toInt64))), (0, .ref (g.ad 1 0))]) hx hb dX12_digest_28 hl (k := 1) rfl rfl (by decide) rfl (fun ls hl => ?_)
        refine lv_goto (tgt := 11) hx hb dX12_digest_31 (by decide) ?_
        refine ih11 (i0 + 1) (by omega) ls ?_
        rw [nI_succ i0, fl_s _ i0 _]
        exact lv_sub hl [0, 1, 2] rfl
  refine loop11 (13) 0 (by omega) ls ?_
  rw [fl_0]
  exact lv_sub hl [0, 1, 2] rfl
