theorem gtN {a b d : Nat} (h1 : a + b < 2 ^ 31) (h2 : d < 2 ^ 31) : nI a + nI b < nI d ↔ a + b < d := by rw [nI_add]; exact nlt h1 h2
set_option maxRecDepth 100000 in
set_option maxHeartbeats 4000000 in
theorem c_X8_trustBehind (l : Launch) (E : EE) {S : St} {th : Int32} {g : Gh} (hI : Inv S) {p9 : Nat} (hp : p9 < S.np) {D9 : Nat} (hD : D9 ≤ 30) : WM l E yX8_trustBehind cX8_trustBehind 9 (some .int) (wD 4 1 30) [.ref (g.ad 12 0), .int (nI p9), .int (nI D9)] (RB E S th g) (ow g) (fun _ v H => RB E (S) (th) g H ∧ v = some (.int (trustA S p9 (nI D9)))) := by
  refine wm_of rfl (Nat.le_of_ble_eq_true rfl) (fun p e s m below meth c ls hx hb hr hml (hown : s.vm.findClass RX8 = some m.cls) hC hlocks hR hl hini => ?_)
  have hS : va_S (fun q => ow g q ∨ s.heap.size ≤ q) s.heap s.heap [] := va_S.rf
  have hl : lv_has ls 9 [(0, .ref (g.ad 12 0)), (1, .int (nI p9)), (2, .int (nI D9))] := hl
  obtain ⟨t0, ht0, htr⟩ := tr_n hI hp
  have htd := hI.td
  have hnc := hI.nc
  refine lv_aload_n hx hb dX8_trustBehind_0 rfl (lv_at hl 0 rfl) ?_
  refine gf_X8_0 hx hb hown hC (RB.dk hR) (zf_X8_12 hC.1) dX8_trustBehind_1 ?_
  refine lv_iload_n hx hb dX8_trustBehind_4 rfl (lv_at hl 1 rfl) ?_
  refine rc_V (As := [.int (nI p9)]) hx hb hml hown hC hl (c_getLB l E 0 rfl hR (by decide) hp) (rec_of hC (RB.ls hR (by decide : 0 < 4)) rfl) (zm_X8_39 hC.1) kv_Jx4a65c_get_915e3 (RB.gp hR 0 (by decide) hp) rfl rfl (rwD_le (by decide) (by decide)) ⟨rfl, rfl⟩ (Nat.le_of_ble_eq_true rfl) ⟨Nat.zero_le _, Nat.zero_le _⟩ dX8_trustBehind_5 ?_
  refine g_cast hx hb hown hC (RB.pe hR hp) rfl (zc_X8_43 hC.1) dX8_trustBehind_8 ?_
  refine gf_X9_2 hx hb hown hC (RB.pe hR hp) (zf_X8_77 hC.1) dX8_trustBehind_11 ?_
  rw [htr]
  refine lv_istore_n (lv' := [(3, .int (nI t0)), (0, .ref (g.ad 12 0)), (1, .int (nI p9)), (2, .int (nI D9))]) hx hb dX8_trustBehind_14 rfl hl (by decide) rfl (fun ls hl => ?_)
  refine lv_aload_n hx hb dX8_trustBehind_15 rfl (lv_at hl 1 rfl) ?_
  refine gf_X8_2 hx hb hown hC (RB.dk hR) (zf_X8_21 hC.1) dX8_trustBehind_16 ?_
  refine rc_V (As := []) hx hb hml hown hC hl (c_size l E _ _ _ _) (rec_of hC (RB.ls hR (by decide : 2 < 4)) rfl) (zm_X8_52 hC.1) kv_Jx4a65c_size_8abf5 (RB.ls hR (by decide : 2 < 4)) rfl rfl (rwD_le (by decide) (by decide)) ⟨rfl, rfl⟩ (Nat.le_of_ble_eq_true rfl) ⟨Nat.zero_le _, Nat.zero_le _⟩ dX8_trustBehind_19 ?_
  have hfr := hR.fresh
  have haN := hR.eN_le
  refine g_newz (N := S.nc) hx hb hC hS (by omega) (Nat.le_of_ble_eq_true rfl) (by show 0 + S.nc ≤ 30; omega) dX8_trustBehind_22 (fun H1 hA hz hq hS => ?_)
  have hR := hR.kept (fun q h => hq q h)
  refine lv_astore (lv' := [(4, .ref (s.heap.size)), (3, .int (nI t0)), (0, .ref (g.ad 12 0)), (1, .int (nI p9)), (2, .int (nI D9))]) hx hb dX8_trustBehind_24 hl (by decide) rfl (fun ls hl => ?_)
  refine lv_aload_n hx hb dX8_trustBehind_26 rfl (lv_at hl 2 rfl) ?_
  refine gf_X8_7 hx hb hown hC (RB.dk hR) (zf_X8_49 hC.1) dX8_trustBehind_27 ?_
  refine lv_iconst (v := 1) hx hb dX8_trustBehind_30 (by decide) ?_
  refine lv_iadd hx hb dX8_trustBehind_31 ?_
  refine lv_istore (lv' := [(5, .int ((nI S.td) + (1))), (4, .ref (s.heap.size)), (3, .int (nI t0)), (0, .ref (g.ad 12 0)), (1, .int (nI p9)), (2, .int (nI D9))]) hx hb dX8_trustBehind_32 hl (by decide) rfl (fun ls hl => ?_)
  have loop34 : ∀ (r d : Nat) (H1 : Heap) (locs1 : List Loc), d + r = min (S.td + D9) 119 + 1 → S.td < d → RB E S th g H1 → va_at E.1 vwCl (s.heap.size, .inl (eZ E, S.nc, .inl (gnT S p9 (d) (0)))) H1 → va_S (fun q => ow g q ∨ s.heap.size ≤ q) s.heap H1 locs1 → ∀ ls, lv_has ls 9 [(5, .int (nI (d))), (3, .int (nI (t0 - toT S p9 (d) 0))), (4, .ref (s.heap.size)), (0, .ref (g.ad 12 0)), (1, .int (nI p9)), (2, .int (nI D9))] → W p l e (wD 4 1 30) s m ([.ref (g.ad 12 0), .int (nI p9), .int (nI D9)] : List Value).toArray below meth c H1 locs1 (0 + 1) (0 + S.nc) (MQ below (WQ (ow g) s.heap.size (fun v H => RB E (S) (th) g H ∧ v = some (.int (trustA S p9 (nI D9))))) ([.ref (g.ad 12 0), .int (nI p9), .int (nI D9)] : List Value).toArray s (wD 4 1 30).cells (wD 4 1 30).slots (fun q => ow g q ∨ s.heap.size ≤ q)) (F0 m 34 ls []) := by
    intro r
    induction r with
    | zero =>
      intro d H1 locs1 hE hd hR hA hS ls hl
      refine lv_iload hx hb dX8_trustBehind_34 (lv_at hl 0 rfl) ?_
      refine lv_aload_n hx hb dX8_trustBehind_36 rfl (lv_at hl 3 rfl) ?_
      refine gf_X8_7 hx hb hown hC (RB.dk hR) (zf_X8_49 hC.1) dX8_trustBehind_37 ?_
      refine lv_iload_n hx hb dX8_trustBehind_40 rfl (lv_at hl 5 rfl) ?_
      refine lv_iadd hx hb dX8_trustBehind_41 ?_
      refine lv_icmp_gt (tgt := 170) hx hb dX8_trustBehind_42 (by decide) (fun c_42 => ?_) (fun c_42 => ?_)
      ·
        refine lv_iload_n hx hb dX8_trustBehind_170 rfl (lv_at hl 1 rfl) ?_
        exact wr_i hx hb hr hlocks hS ⟨hR, by rw [trust_n hI hD htr ht0, show d = min (S.td + D9) 119 + 1 by omega]⟩ (Nat.le_of_ble_eq_true rfl) (by show 0 + S.nc ≤ 30; omega) dX8_trustBehind_171
      ·
        refine lv_iload hx hb dX8_trustBehind_45 (lv_at hl 0 rfl) ?_
        refine lv_bipush (v := 120) hx hb dX8_trustBehind_47 (by decide) ?_
        refine lv_icmp_ge (tgt := 170) hx hb dX8_trustBehind_49 (by decide) (fun c_49 => ?_) (fun c_49 => ?_)
        ·
          refine lv_iload_n hx hb dX8_trustBehind_170 rfl (lv_at hl 1 rfl) ?_
          exact wr_i hx hb hr hlocks hS ⟨hR, by rw [trust_n hI hD htr ht0, show d = min (S.td + D9) 119 + 1 by omega]⟩ (Nat.le_of_ble_eq_true rfl) (by show 0 + S.nc ≤ 30; omega) dX8_trustBehind_171
        · exact absurd ((nle (a := 120) (by decide) (by omega)).mpr (by have h9 : ¬ S.td + D9 < d := fun q => c_42 ((gtN (by omega) (by omega)).mpr q); omega)) c_49
    | succ r ih34 =>
      intro d H1 locs1 hE hd hR hA hS ls hl
      refine lv_iload hx hb dX8_trustBehind_34 (lv_at hl 0 rfl) ?_
      refine lv_aload_n hx hb dX8_trustBehind_36 rfl (lv_at hl 3 rfl) ?_
      refine gf_X8_7 hx hb hown hC (RB.dk hR) (zf_X8_49 hC.1) dX8_trustBehind_37 ?_
      refine lv_iload_n hx hb dX8_trustBehind_40 rfl (lv_at hl 5 rfl) ?_
      refine lv_iadd hx hb dX8_trustBehind_41 ?_
      refine lv_icmp_gt (tgt := 170) hx hb dX8_trustBehind_42 (by decide) (fun c_42 => ?_) (fun c_42 => ?_)
      · exact absurd ((gtN (by omega) (by omega)).mp c_42) (by omega)
      ·
        refine lv_iload hx hb dX8_trustBehind_45 (lv_at hl 0 rfl) ?_
        refine lv_bipush (v := 120) hx hb dX8_trustBehind_47 (by decide) ?_
        refine lv_icmp_ge (tgt := 170) hx hb dX8_trustBehind_49 (by decide) (fun c_49 => ?_) (fun c_49 => ?_)
        · exact absurd ((nle (a := 120) (by decide) (by omega)).mp c_49) (by omega)
        ·
          refine lv_iconst (v := 0) hx hb dX8_trustBehind_52 (by decide) ?_
          refine lv_istore (lv' := [(6, .int (0)), (5, .int (nI (d))), (3, .int (nI (t0 - toT S p9 (d) 0))), (4, .ref (s.heap.size)), (0, .ref (g.ad 12 0)), (1, .int (nI p9)), (2, .int (nI D9))]) hx hb dX8_trustBehind_53 hl (by decide) rfl (fun ls hl => ?_)
          have loop55 : ∀ (q k : Nat) (H1 : Heap) (locs1 : List Loc), k + q = S.nc → RB E S th g H1 → va_at E.1 vwCl (s.heap.size, .inl (eZ E, S.nc, .inl (gnT S p9 (d) (k)))) H1 → va_S (fun q => ow g q ∨ s.heap.size ≤ q) s.heap H1 locs1 → ∀ ls, lv_has ls 9 [(6, .int (nI (k))), (5, .int (nI (d))), (3, .int (nI (t0 - toT S p9 (d) (k)))), (4, .ref (s.heap.size)), (0, .ref (g.ad 12 0)), (1, .int (nI p9)), (2, .int (nI D9))] → W p l e (wD 4 1 30) s m ([.ref (g.ad 12 0), .int (nI p9), .int (nI D9)] : List Value).toArray below meth c H1 locs1 (0 + 1) (0 + S.nc) (MQ below (WQ (ow g) s.heap.size (fun v H => RB E (S) (th) g H ∧ v = some (.int (trustA S p9 (nI D9))))) ([.ref (g.ad 12 0), .int (nI p9), .int (nI D9)] : List Value).toArray s (wD 4 1 30).cells (wD 4 1 30).slots (fun q => ow g q ∨ s.heap.size ≤ q)) (F0 m 55 ls []) := by
            intro q
            induction q with
            | zero =>
              intro k H1 locs1 hE2 hR hA hS ls hl
              have hkn : k = S.nc := by omega
              subst hkn
              refine lv_iload hx hb dX8_trustBehind_55 (lv_at hl 0 rfl) ?_
              refine lv_aload_n hx hb dX8_trustBehind_57 rfl (lv_at hl 4 rfl) ?_
              refine gf_X8_2 hx hb hown hC (RB.dk hR) (zf_X8_21 hC.1) dX8_trustBehind_58 ?_
              refine rc_V (As := []) hx hb hml hown hC hl (c_size l E _ _ _ _) (rec_of hC (RB.ls hR (by decide : 2 < 4)) rfl) (zm_X8_52 hC.1) kv_Jx4a65c_size_8abf5 (RB.ls hR (by decide : 2 < 4)) rfl rfl (rwD_le (by decide) (by decide)) ⟨rfl, rfl⟩ (Nat.le_of_ble_eq_true rfl) ⟨(Nat.le_of_ble_eq_true rfl), (by show 0 + S.nc + 0 ≤ 30; omega)⟩ dX8_trustBehind_61 ?_
              refine lv_icmp_ge (tgt := 164) hx hb dX8_trustBehind_64 (by decide) (fun c_64 => ?_) (fun c_64 => ?_)
              ·
                refine lv_iinc (v := nI (d) + 1) (lv' := [(5, .int (nI (d) + 1)), (6, .int (nI (S.nc))), (3, .int (nI (t0 - toT S p9 (d) (S.nc)))), (4, .ref (s.heap.size)), (0, .ref (g.ad 12 0)), (1, .int (nI p9)), (2, .int (nI D9))]) hx hb dX8_trustBehind_164 hl (k := 1) rfl rfl (by decide) rfl (fun ls hl => ?_)
                refine lv_goto (tgt := 34) hx hb dX8_trustBehind_167 (by decide) ?_
                refine ih34 (d + 1) H1 locs1 (by omega) (by omega) hR (by rw [← t_day.2]; exact hA) hS ls ?_
                rw [nI_succ d, ← t_day.1]
                exact lv_sub hl [0, 2, 3, 4, 5, 6] rfl
              · exact absurd (Int32.le_refl _) c_64
            | succ q ih55 =>
              intro k H1 locs1 hE2 hR hA hS ls hl
              have hk : k < S.nc := by omega
              have hcd := hI.cd hk
              refine lv_iload hx hb dX8_trustBehind_55 (lv_at hl 0 rfl) ?_
              refine lv_aload_n hx hb dX8_trustBehind_57 rfl (lv_at hl 4 rfl) ?_
              refine gf_X8_2 hx hb hown hC (RB.dk hR) (zf_X8_21 hC.1) dX8_trustBehind_58 ?_
              refine rc_V (As := []) hx hb hml hown hC hl (c_size l E _ _ _ _) (rec_of hC (RB.ls hR (by decide : 2 < 4)) rfl) (zm_X8_52 hC.1) kv_Jx4a65c_size_8abf5 (RB.ls hR (by decide : 2 < 4)) rfl rfl (rwD_le (by decide) (by decide)) ⟨rfl, rfl⟩ (Nat.le_of_ble_eq_true rfl) ⟨(Nat.le_of_ble_eq_true rfl), (by show 0 + S.nc + 0 ≤ 30; omega)⟩ dX8_trustBehind_61 ?_
              refine lv_icmp_ge (tgt := 164) hx hb dX8_trustBehind_64 (by decide) (fun c_64 => ?_) (fun c_64 => ?_)
              · exact absurd c_64 (nI_ge hk hI.nc31)
              ·
                refine lv_aload_n hx hb dX8_trustBehind_67 rfl (lv_at hl 4 rfl) ?_
                refine gf_X8_2 hx hb hown hC (RB.dk hR) (zf_X8_21 hC.1) dX8_trustBehind_68 ?_
                refine lv_iload hx hb dX8_trustBehind_71 (lv_at hl 0 rfl) ?_
                refine rc_V (As := [.int (nI (k))]) hx hb hml hown hC hl (c_getLB l E 2 rfl hR (by decide) hk) (rec_of hC (RB.ls hR (by decide : 2 < 4)) rfl) (zm_X8_39 hC.1) kv_Jx4a65c_get_915e3 (RB.gp hR 2 (by decide) hk) rfl rfl (rwD_le (by decide) (by decide)) ⟨rfl, rfl⟩ (Nat.le_of_ble_eq_true rfl) ⟨(Nat.le_of_ble_eq_true rfl), (by show 0 + S.nc + 0 ≤ 30; omega)⟩ dX8_trustBehind_73 ?_
                refine g_cast hx hb hown hC (RB.ch hR hk) rfl (zc_X8_83 hC.1) dX8_trustBehind_76 ?_
                refine lv_astore (lv' := [(7, .ref (g.ad 8 (k))), (6, .int (nI (k))), (5, .int (nI (d))), (3, .int (nI (t0 - toT S p9 (d) (k)))), (4, .ref (s.heap.size)), (0, .ref (g.ad 12 0)), (1, .int (nI p9)), (2, .int (nI D9))]) hx hb dX8_trustBehind_79 hl (by decide) rfl (fun ls hl => ?_)
                refine lv_iload hx hb dX8_trustBehind_81 (lv_at hl 2 rfl) ?_
                refine lv_aload hx hb dX8_trustBehind_83 (lv_at hl 0 rfl) ?_
                refine gf_X7_5 hx hb hown hC (RB.ch hR hk) (zf_X8_96 hC.1) dX8_trustBehind_85 ?_
                refine lv_isub hx hb dX8_trustBehind_88 ?_
                rw [ago_n (by omega) (by omega)]
                refine lv_istore (lv' := [(8, .int (nI (d - S.cd k))), (7, .ref (g.ad 8 (k))), (6, .int (nI (k))), (5, .int (nI (d))), (3, .int (nI (t0 - toT S p9 (d) (k)))), (4, .ref (s.heap.size)), (0, .ref (g.ad 12 0)), (1, .int (nI p9)), (2, .int (nI D9))]) hx hb dX8_trustBehind_89 hl (by decide) rfl (fun ls hl => ?_)
                refine lv_aload hx hb dX8_trustBehind_91 (lv_at hl 1 rfl) ?_
                refine gf_X7_0 hx hb hown hC (RB.ch hR hk) (zf_X8_92 hC.1) dX8_trustBehind_93 ?_
                refine lv_iload_n hx hb dX8_trustBehind_96 rfl (lv_at hl 7 rfl) ?_
                refine lv_icmp_ne (tgt := 158) hx hb dX8_trustBehind_97 (by decide) (fun c_97 => ?_) (fun c_97 => ?_)
                ·
                  have c_97 : ¬ S.cp k = p9 := fun h => c_97 (congrArg nI h)
                  refine lv_iinc (v := nI (k) + 1) (lv' := [(6, .int (nI (k) + 1)), (8, .int (nI (d - S.cd k))), (7, .ref (g.ad 8 (k))), (5, .int (nI (d))), (3, .int (nI (t0 - toT S p9 (d) (k)))), (4, .ref (s.heap.size)), (0, .ref (g.ad 12 0)), (1, .int (nI p9)), (2, .int (nI D9))]) hx hb dX8_trustBehind_158 hl (k := 2) rfl rfl (by decide) rfl (fun ls hl => ?_)
                  refine lv_goto (tgt := 55) hx hb dX8_trustBehind_161 (by decide) ?_
                  have hT := t_no (p := p9) (d := d) hk (fun h => c_97 h.1)
                  refine ih55 (k + 1) H1 locs1 (by omega) hR (by rw [hT.2]; exact hA) hS ls ?_
                  rw [nI_succ k, hT.1]
                  exact lv_sub hl [0, 3, 4, 5, 6, 7, 8] rfl
                ·
                  have c_97 : S.cp k = p9 := (nI_eq (Nat.lt_trans (hI.cp hk) hI.np31) (Nat.lt_trans hp hI.np31)).mp c_97
                  refine lv_aload hx hb dX8_trustBehind_100 (lv_at hl 1 rfl) ?_
                  refine gf_X7_8 hx hb hown hC (RB.ch hR hk) (zf_X8_101 hC.1) dX8_trustBehind_102 ?_
                  refine lv_if_ne (tgt := 158) hx hb dX8_trustBehind_105 (by decide) (fun c_105 => ?_) (fun c_105 => ?_)
                  ·
                    refine lv_iinc (v := nI (k) + 1) (lv' := [(6, .int (nI (k) + 1)), (8, .int (nI (d - S.cd k))), (7, .ref (g.ad 8 (k))), (5, .int (nI (d))), (3, .int (nI (t0 - toT S p9 (d) (k)))), (4, .ref (s.heap.size)), (0, .ref (g.ad 12 0)), (1, .int (nI p9)), (2, .int (nI D9))]) hx hb dX8_trustBehind_158 hl (k := 2) rfl rfl (by decide) rfl (fun ls hl => ?_)
                    refine lv_goto (tgt := 55) hx hb dX8_trustBehind_161 (by decide) ?_
                    have hT := t_no (p := p9) (d := d) hk (fun h => c_105 h.2)
                    refine ih55 (k + 1) H1 locs1 (by omega) hR (by rw [hT.2]; exact hA) hS ls ?_
                    rw [nI_succ k, hT.1]
                    exact lv_sub hl [0, 3, 4, 5, 6, 7, 8] rfl
                  ·
                    refine lv_aload hx hb dX8_trustBehind_108 (lv_at hl 5 rfl) ?_
                    refine lv_iload hx hb dX8_trustBehind_110 (lv_at hl 2 rfl) ?_
                    refine g_zald (j := k) hx hb hC hA ⟨rfl, hk, by omega⟩ dX8_trustBehind_112 ?_
                    refine lv_if_ne (tgt := 158) hx hb dX8_trustBehind_113 (by decide) (fun c_113 => ?_) (fun c_113 => ?_)
                    ·
                      refine lv_iinc (v := nI (k) + 1) (lv' := [(6, .int (nI (k) + 1)), (8, .int (nI (d - S.cd k))), (7, .ref (g.ad 8 (k))), (5, .int (nI (d))), (3, .int (nI (t0 - toT S p9 (d) (k)))), (4, .ref (s.heap.size)), (0, .ref (g.ad 12 0)), (1, .int (nI p9)), (2, .int (nI D9))]) hx hb dX8_trustBehind_158 hl (k := 2) rfl rfl (by decide) rfl (fun ls hl => ?_)
                      refine lv_goto (tgt := 55) hx hb dX8_trustBehind_161 (by decide) ?_
                      have hT := t_gone hk hd ⟨c_97, c_105⟩ c_113
                      refine ih55 (k + 1) H1 locs1 (by omega) hR (by rw [hT.2]; exact hA) hS ls ?_
                      rw [nI_succ k, hT.1]
                      exact lv_sub hl [0, 3, 4, 5, 6, 7, 8] rfl
                    ·
                      refine lv_iload hx hb dX8_trustBehind_116 (lv_at hl 0 rfl) ?_
                      refine lv_bipush (v := 8) hx hb dX8_trustBehind_118 (by decide) ?_
                      refine lv_icmp_eq (tgt := 133) hx hb dX8_trustBehind_120 (by decide) (fun c_120 => ?_) (fun c_120 => ?_)
                      ·
                        have c_120 : d - S.cd k = 8 := (nI_eq (b := 8) (by omega) (by decide)).mp c_120
                        refine lv_aload hx hb dX8_trustBehind_133 (lv_at hl 5 rfl) ?_
                        refine lv_iload hx hb dX8_trustBehind_135 (lv_at hl 2 rfl) ?_
                        refine lv_iload hx hb dX8_trustBehind_137 (lv_at hl 0 rfl) ?_
                        refine lv_bipush (v := 15) hx hb dX8_trustBehind_139 (by decide) ?_
                        refine lv_icmp_lt (tgt := 148) hx hb dX8_trustBehind_141 (by decide) (fun c_141 => ?_) (fun c_141 => ?_)
                        ·
                          refine lv_iconst (v := 0) hx hb dX8_trustBehind_148 (by decide) ?_
                          refine g_zast (j := k) hx hb hC hA hS (Or.inr (Nat.le_refl _)) ⟨rfl, hk, by omega⟩ (by decide) dX8_trustBehind_149 (fun H1 locs1 hA hz hq hS => ?_)
                          have hR := hR.kept1 hfr haN (fun q _ h2 => hq q h2)
                          refine lv_iconst (v := 0) hx hb dX8_trustBehind_150 (by decide) ?_
                          refine lv_iload_n hx hb dX8_trustBehind_151 rfl (lv_at hl 4 rfl) ?_
                          refine lv_iconst (v := 1) hx hb dX8_trustBehind_152 (by decide) ?_
                          refine lv_isub hx hb dX8_trustBehind_153 ?_
                          refine va_mmax hx hb (hml.trans hl.1.symm) hown (zm_X8_112 hC.1) (ztm_max hC.1) (znm hC.1) (zkm_max hC.1) (Nat.le_of_ble_eq_true rfl) (Nat.le_of_ble_eq_true rfl) (Nat.le_of_ble_eq_true rfl) (by show 0 + S.nc + 0 ≤ 30; omega) dX8_trustBehind_154 ?_
                          refine lv_istore_n (lv' := [(3, .int (maxI (0) ((nI (t0 - toT S p9 (d) (k))) - (1)))), (8, .int (nI (d - S.cd k))), (7, .ref (g.ad 8 (k))), (6, .int (nI (k))), (5, .int (nI (d))), (4, .ref (s.heap.size)), (0, .ref (g.ad 12 0)), (1, .int (nI p9)), (2, .int (nI D9))]) hx hb dX8_trustBehind_157 rfl hl (by decide) rfl (fun ls hl => ?_)
                          refine lv_iinc (v := nI (k) + 1) (lv' := [(6, .int (nI (k) + 1)), (3, .int (maxI (0) ((nI (t0 - toT S p9 (d) (k))) - (1)))), (8, .int (nI (d - S.cd k))), (7, .ref (g.ad 8 (k))), (5, .int (nI (d))), (4, .ref (s.heap.size)), (0, .ref (g.ad 12 0)), (1, .int (nI p9)), (2, .int (nI D9))]) hx hb dX8_trustBehind_158 hl (k := 3) rfl rfl (by decide) rfl (fun ls hl => ?_)
                          refine lv_goto (tgt := 55) hx hb dX8_trustBehind_161 (by decide) ?_
                          have hT := t_hit8 hk hd ⟨c_97, c_105⟩ (by omega)
                          refine ih55 (k + 1) H1 locs1 (by omega) hR (by rw [hT.2]; exact hA) hS ls ?_
                          rw [nI_succ k, hT.1, ← Nat.sub_sub, ← mx1 _ (by omega)]
                          exact lv_sub hl [0, 4, 1, 5, 6, 7, 8] rfl
                        · exact absurd ((nlt (b := 15) (by omega) (by decide)).mpr (by omega)) c_141
                      ·
                        have c_120 : ¬ d - S.cd k = 8 := fun h => c_120 ((nI_eq (b := 8) (by omega) (by decide)).mpr h)
                        refine lv_iload hx hb dX8_trustBehind_123 (lv_at hl 0 rfl) ?_
                        refine lv_bipush (v := 15) hx hb dX8_trustBehind_125 (by decide) ?_
                        refine lv_icmp_ge (tgt := 133) hx hb dX8_trustBehind_127 (by decide) (fun c_127 => ?_) (fun c_127 => ?_)
                        ·
                          have c_127 : 15 ≤ d - S.cd k := (nle (a := 15) (by decide) (by omega)).mp c_127
                          refine lv_aload hx hb dX8_trustBehind_133 (lv_at hl 5 rfl) ?_
                          refine lv_iload hx hb dX8_trustBehind_135 (lv_at hl 2 rfl) ?_
                          refine lv_iload hx hb dX8_trustBehind_137 (lv_at hl 0 rfl) ?_
                          refine lv_bipush (v := 15) hx hb dX8_trustBehind_139 (by decide) ?_
                          refine lv_icmp_lt (tgt := 148) hx hb dX8_trustBehind_141 (by decide) (fun c_141 => ?_) (fun c_141 => ?_)
                          · exact absurd ((nlt (b := 15) (by omega) (by decide)).mp c_141) (by omega)
                          ·
                            refine lv_iconst (v := 1) hx hb dX8_trustBehind_144 (by decide) ?_
                            refine lv_goto (tgt := 149) hx hb dX8_trustBehind_145 (by decide) ?_
                            refine g_zast (j := k) hx hb hC hA hS (Or.inr (Nat.le_refl _)) ⟨rfl, hk, by omega⟩ (by decide) dX8_trustBehind_149 (fun H1 locs1 hA hz hq hS => ?_)
                            have hR := hR.kept1 hfr haN (fun q _ h2 => hq q h2)
                            refine lv_iconst (v := 0) hx hb dX8_trustBehind_150 (by decide) ?_
                            refine lv_iload_n hx hb dX8_trustBehind_151 rfl (lv_at hl 4 rfl) ?_
                            refine lv_iconst (v := 1) hx hb dX8_trustBehind_152 (by decide) ?_
                            refine lv_isub hx hb dX8_trustBehind_153 ?_
                            refine va_mmax hx hb (hml.trans hl.1.symm) hown (zm_X8_112 hC.1) (ztm_max hC.1) (znm hC.1) (zkm_max hC.1) (Nat.le_of_ble_eq_true rfl) (Nat.le_of_ble_eq_true rfl) (Nat.le_of_ble_eq_true rfl) (by show 0 + S.nc + 0 ≤ 30; omega) dX8_trustBehind_154 ?_
                            refine lv_istore_n (lv' := [(3, .int (maxI (0) ((nI (t0 - toT S p9 (d) (k))) - (1)))), (8, .int (nI (d - S.cd k))), (7, .ref (g.ad 8 (k))), (6, .int (nI (k))), (5, .int (nI (d))), (4, .ref (s.heap.size)), (0, .ref (g.ad 12 0)), (1, .int (nI p9)), (2, .int (nI D9))]) hx hb dX8_trustBehind_157 rfl hl (by decide) rfl (fun ls hl => ?_)
                            refine lv_iinc (v := nI (k) + 1) (lv' := [(6, .int (nI (k) + 1)), (3, .int (maxI (0) ((nI (t0 - toT S p9 (d) (k))) - (1)))), (8, .int (nI (d - S.cd k))), (7, .ref (g.ad 8 (k))), (5, .int (nI (d))), (4, .ref (s.heap.size)), (0, .ref (g.ad 12 0)), (1, .int (nI p9)), (2, .int (nI D9))]) hx hb dX8_trustBehind_158 hl (k := 3) rfl rfl (by decide) rfl (fun ls hl => ?_)
                            refine lv_goto (tgt := 55) hx hb dX8_trustBehind_161 (by decide) ?_
                            have hT := t_hit15 hk hd ⟨c_97, c_105⟩ c_113 (by omega)
                            refine ih55 (k + 1) H1 locs1 (by omega) hR (by rw [hT.2]; exact hA) hS ls ?_
                            rw [nI_succ k, hT.1, ← Nat.sub_sub, ← mx1 _ (by omega)]
                            exact lv_sub hl [0, 4, 1, 5, 6, 7, 8] rfl
                        ·
                          have c_127 : ¬ 15 ≤ d - S.cd k := fun h => c_127 ((nle (a := 15) (by decide) (by omega)).mpr h)
                          refine lv_goto (tgt := 158) hx hb dX8_trustBehind_130 (by decide) ?_
                          refine lv_iinc (v := nI (k) + 1) (lv' := [(6, .int (nI (k) + 1)), (8, .int (nI (d - S.cd k))), (7, .ref (g.ad 8 (k))), (5, .int (nI (d))), (3, .int (nI (t0 - toT S p9 (d) (k)))), (4, .ref (s.heap.size)), (0, .ref (g.ad 12 0)), (1, .int (nI p9)), (2, .int (nI D9))]) hx hb dX8_trustBehind_158 hl (k := 2) rfl rfl (by decide) rfl (fun ls hl => ?_)
                          refine lv_goto (tgt := 55) hx hb dX8_trustBehind_161 (by decide) ?_
                          have hT := t_wait hk hd ⟨c_97, c_105⟩ (by omega) (by omega)
                          refine ih55 (k + 1) H1 locs1 (by omega) hR (by rw [hT.2]; exact hA) hS ls ?_
                          rw [nI_succ k, hT.1]
                          exact lv_sub hl [0, 3, 4, 5, 6, 7, 8] rfl
          exact loop55 S.nc 0 H1 locs1 (Nat.zero_add _) hR hA hS ls (lv_sub hl [0, 1, 2, 3, 4, 5, 6] rfl)
  refine loop34 (min (S.td + D9) 119 + 1 - (S.td + 1)) (S.td + 1) H1 [] (by omega) (Nat.lt_succ_self _) hR (by rw [t_init.2]; exact hA) hS ls ?_
  rw [t_init.1, nI_succ S.td]
  exact lv_sub hl [0, 2, 1, 3, 4, 5] rfl
