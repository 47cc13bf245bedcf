set_option maxRecDepth 100000 in
set_option maxHeartbeats 4000000 in
theorem c_X6_person0 (l : Launch) (E : EE) {S : St} {g : Gh} (hI : Inv S) (h8 : S.np < 8) : WM l E yX6_person cX6_person 4 (some .int) (wD 8 2 60) [.ref (g.ad 1 0), .int ((-1))] (RA E S g) (ow g) (fun sz v H => (∃ g1, RA E (addP S none) g1 H ∧ gX g g1 sz H.size) ∧ v = some (.int (nI S.np))) := by
  refine wm_of rfl (Nat.le_of_ble_eq_true rfl) (fun p e s m below meth c ls hx hb hr hml (hown : s.vm.findClass RX6 = some m.cls) hC hlocks hR hl hini => ?_)
  have hS : va_S (fun q => ow g q ∨ s.heap.size ≤ q) s.heap s.heap [] := va_S.rf
  have hl : lv_has ls 4 [(0, .ref (g.ad 1 0)), (1, .int ((-1)))] := hl
  refine lv_iload_n hx hb dX6_person_0 rfl (lv_at hl 1 rfl) ?_
  refine lv_iconst (v := (-1)) hx hb dX6_person_1 (by decide) ?_
  refine lv_icmp_ne (tgt := 9) hx hb dX6_person_2 (by decide) (fun c_2 => ?_) (fun c_2 => ?_)
  · exact absurd c_2 (by decide)
  ·
    refine lv_null hx hb dX6_person_5 ?_
    refine lv_goto (tgt := 14) hx hb dX6_person_6 (by decide) ?_
    refine lv_astore_nN (lv' := [(2, .null), (0, .ref (g.ad 1 0)), (1, .int ((-1)))]) hx hb dX6_person_14 rfl hl (by decide) rfl (fun ls hl => ?_)
    refine lv_aload_n hx hb dX6_person_15 rfl (lv_at hl 1 rfl) ?_
    refine gf_X6_0 hx hb hown hC (RA.x hR) (zf_X6_10 hC.1) dX6_person_16 ?_
    refine rc_V (As := []) hx hb hml hown hC hl (c_size l E _ _ _ _) (rec_of hC (RA.ls hR (by decide : 0 < 4)) rfl) (zm_X6_51 hC.1) kv_Jx4a65c_size_8abf5 (RA.ls hR (by decide : 0 < 4)) rfl rfl (rwD_le (by decide) (by decide)) ⟨rfl, rfl⟩ (Nat.le_of_ble_eq_true rfl) ⟨Nat.zero_le _, Nat.zero_le _⟩ dX6_person_19 ?_
    refine lv_bipush (v := 8) hx hb dX6_person_22 (by decide) ?_
    refine lv_icmp_lt (tgt := 37) hx hb dX6_person_24 (by decide) (fun c_24 => ?_) (fun c_24 => ?_)
    ·
      have hfr := hR.fresh
      have haN := hR.eN_le
      have hlt3 := hR.a3lt (i := 0) (by decide)
      refine nw_X2 hx hb hown hC (zc_X6_62 hC.1) hS (Nat.le_of_ble_eq_true rfl) (Nat.le_of_ble_eq_true rfl) dX6_person_37 (fun H1 hN hz hq hS => ?_)
      have hR := hR.kept (fun q h => hq q h)
      refine lv_dup hx hb dX6_person_40 rfl ?_
      refine lv_aload_n hx hb dX6_person_41 rfl (lv_at hl 1 rfl) ?_
      refine gf_X6_0 hx hb hown hC (RA.x hR) (zf_X6_10 hC.1) dX6_person_42 ?_
      refine rc_V (As := []) hx hb hml hown hC hl (c_size l E _ _ _ _) (rec_of hC (RA.ls hR (by decide : 0 < 4)) rfl) (zm_X6_51 hC.1) kv_Jx4a65c_size_8abf5 (RA.ls hR (by decide : 0 < 4)) rfl rfl (rwD_le (by decide) (by decide)) ⟨rfl, rfl⟩ (Nat.le_of_ble_eq_true rfl) ⟨Nat.le_of_ble_eq_true rfl, Nat.le_of_ble_eq_true rfl⟩ dX6_person_45 ?_
      refine lv_aload_nN hx hb dX6_person_48 rfl (lv_at hl 0 rfl) ?_
      refine wcv_I (As := [.int (nI (S.np)), .null]) hx hb hml hown hC hl (c_X2_init l E (q9 := s.heap.size) (g := g) (n9 := nI S.np) (bo := none)) (zm_X6_64 hC.1) kv_X2_init hN hS (fun q h => h.elim (fun e => e ▸ (Or.inr (Nat.le_refl _))) (fun e => Or.inr (Nat.le_trans hS.1 e))) rfl rfl (wD_le (by decide) (by decide)) (Nat.le_of_ble_eq_true rfl) ⟨Nat.le_of_ble_eq_true rfl, Nat.le_of_ble_eq_true rfl⟩ dX6_person_49 (fun H1 locs1 hO9 hz hq hS => ?_)
      have hN := hO9
      have hR := hR.kept1 hfr haN (fun q h1 h2 => hq q h1 h2)
      refine lv_astore_n (lv' := [(3, .ref (s.heap.size)), (2, .null), (0, .ref (g.ad 1 0)), (1, .int ((-1)))]) hx hb dX6_person_52 rfl hl (by decide) rfl (fun ls hl => ?_)
      refine lv_aload_n hx hb dX6_person_53 rfl (lv_at hl 2 rfl) ?_
      refine gf_X6_0 hx hb hown hC (RA.x hR) (zf_X6_10 hC.1) dX6_person_54 ?_
      refine lv_aload_n hx hb dX6_person_57 rfl (lv_at hl 0 rfl) ?_
      obtain ⟨n2, hn2⟩ : ∃ n, n = H1.size := ⟨_, rfl⟩
      have hN0 : s.heap.size < n2 := by rw [hn2]; exact hN.lt
      have h23 := hR.ne23 (i := 0) (by decide)
      have hvq : ¬ s.heap.size = g.ad 2 0 := fun e => hfr 2 0 (show 0 < 4 by decide) e.symm
      have hva : ¬ s.heap.size = g.ad 3 0 := fun e => by omega
      have hqN := hR.2.2.1.1 _ (hR.ow (k := 2) (i := 0) (show 0 < 4 by decide))
      refine wc_V (As := [.ref (s.heap.size)]) hx hb hml hown hC hl (c_add l E (q9 := g.ad 2 0) (a9 := g.ad 3 0) (v9 := s.heap.size) (n9 := S.np) (c9 := g.cap 0) (md := g.md 0) (ad9 := g.ad 6) (ci := 2) rfl (by simp [cObj]) (hR.2.1 0 (by decide)).1 (hR.2.1 0 (by decide)).2 (Nat.le_trans hI.np (by decide)) h23 hvq hva hqN (fun j hj e => hR.neK (i := 0) (by decide) (k := 6) hj (by decide) e)) (rec_of hC (hR.ls (i := 0) (by decide)) rfl) (zm_X6_67 hC.1) kv_Jx4a65c_add_9ea2d ⟨hR.ls (i := 0) (by decide), hR.lstA (i := 0) (by decide), fun j hj => ⟨_, hR.pe hj⟩, hN, hR.2.2.2⟩ hS (fun q h => h.elim (fun e => e.elim (fun e => Or.inl (e ▸ hR.ow (k := 2) (i := 0) (show 0 < 4 by decide))) (fun e => Or.inl (e.1 ▸ hR.ow (k := 3) (i := 0) ⟨by decide, e.2⟩))) (fun e => Or.inr (Nat.le_trans hS.1 e))) rfl rfl (wD_le (by decide) (by decide)) (Nat.le_of_ble_eq_true rfl) ⟨Nat.le_of_ble_eq_true rfl, Nat.le_of_ble_eq_true rfl⟩ dX6_person_58 (fun v H1 locs1 hP hz hq hS => ?_)
      obtain ⟨⟨ea, cp, hL, hcp1, hcp2, hAr, hcs⟩, rfl⟩ := hP
      have hN := hN.kept (hq _ hN.lt (fun e => e.elim hvq (fun e => hva e.1)))
      have hcs : (ea = g.ad 3 0 ∧ 0 < g.cap 0) ∨ ea = n2 := by rw [hn2]; exact hcs
      have hz2 : n2 ≤ H1.size := by rw [hn2]; exact hz
      have hae : ¬ s.heap.size = ea := by
        intro e9
        rcases hcs with hc1 | hc1
        · exact hva (e9.trans hc1.1)
        · omega
      have heN : eN E ≤ ea := by
        rcases hcs with hc1 | hc1
        · rw [hc1.1]; exact hR.2.2.1.1 _ (hR.ow (k := 3) (i := 0) ⟨by decide, hc1.2⟩)
        · omega
      have he : (ea = g.ad 3 0 ∧ 0 < g.cap 0) ∨ ∀ k' i', valA S g k' i' → ¬ g.ad k' i' = ea := by
        rcases hcs with hc1 | hc1
        · exact Or.inl hc1
        · refine Or.inr (fun k' i' hv e9 => ?_)
          have h9 : g.ad k' i' < n2 := by rw [hn2]; exact (hR.1 k' i' hv).2.lt
          omega
      have hArl : ea < H1.size := hAr.lt
      have hNl : s.heap.size < H1.size := hN.lt
      have hgx : gX g (gAdd g 6 0 S.np s.heap.size ea cp) s.heap.size H1.size := by
        refine gX_add (by decide) ⟨Nat.le_refl _, hNl⟩ ?_
        rcases hcs with hc1 | hc1
        · exact Or.inl ⟨hc1.1, hR.ow (k := 3) (i := 0) ⟨by decide, hc1.2⟩⟩
        · exact Or.inr ⟨by omega, hArl⟩
      have hR : RA E (addP S none) (gAdd g 6 0 S.np s.heap.size ea cp) H1 := RA.appP hR hI hfr he hae haN heN ⟨hcp1, hcp2⟩ (fun q h1 h2 h3 => hq q h1 (fun e => e.elim h2 h3)) hL hAr hN (fun j hj => by cases hj)
      have hI : Inv (addP S none) := hI.adP h8 (fun j hj => by cases hj)
      refine lv_pop hx hb dX6_person_61 rfl ?_
      refine lv_aload_n hx hb dX6_person_62 rfl (lv_at hl 0 rfl) ?_
      refine gf_X2_0_s hx hb hown hC hN (zf_X6_71 hC.1) dX6_person_63 ?_
      exact wr_i hx hb hr hlocks hS ⟨⟨_, hR, hgx⟩, rfl⟩ (Nat.le_of_ble_eq_true rfl) (Nat.le_of_ble_eq_true rfl) dX6_person_66
    · exact absurd (nI_lt (b := 8) h8 (by decide)) c_24
set_option maxRecDepth 100000 in
set_option maxHeartbeats 4000000 in
theorem c_X6_person1 (l : Launch) (E : EE) {S : St} {g : Gh} (hI : Inv S) {p9 : Nat} (hp : p9 < S.np) (h8 : S.np < 8) : WM l E yX6_person cX6_person 4 (some .int) (wD 8 2 60) [.ref (g.ad 1 0), .int (nI p9)] (RA E S g) (ow g) (fun sz v H => (∃ g1, RA E (addP S (some p9)) g1 H ∧ gX g g1 sz H.size) ∧ v = some (.int (nI S.np))) := by
  refine wm_of rfl (Nat.le_of_ble_eq_true rfl) (fun p e s m below meth c ls hx hb hr hml (hown : s.vm.findClass RX6 = some m.cls) hC hlocks hR hl hini => ?_)
  have hS : va_S (fun q => ow g q ∨ s.heap.size ≤ q) s.heap s.heap [] := va_S.rf
  have hl : lv_has ls 4 [(0, .ref (g.ad 1 0)), (1, .int (nI p9))] := hl
  refine lv_iload_n hx hb dX6_person_0 rfl (lv_at hl 1 rfl) ?_
  refine lv_iconst (v := (-1)) hx hb dX6_person_1 (by decide) ?_
  refine lv_icmp_ne (tgt := 9) hx hb dX6_person_2 (by decide) (fun c_2 => ?_) (fun c_2 => ?_)
  ·
    refine lv_aload_n hx hb dX6_person_9 rfl (lv_at hl 0 rfl) ?_
    refine lv_iload_n hx hb dX6_person_10 rfl (lv_at hl 1 rfl) ?_
    refine rc_V (As := [.int (nI p9)]) hx hb hml hown hC hl (c_X6_personAt l E hI hp) (rec_of hC (RA.x hR) rfl) (zm_X6_47 hC.1) kv_X6_personAt hR rfl rfl (rwD_le (by decide) (by decide)) ⟨rfl, rfl⟩ (Nat.le_of_ble_eq_true rfl) ⟨Nat.zero_le _, Nat.zero_le _⟩ dX6_person_11 ?_
    refine lv_astore_n (lv' := [(2, .ref (g.ad 6 (p9))), (0, .ref (g.ad 1 0)), (1, .int (nI p9))]) hx hb dX6_person_14 rfl hl (by decide) rfl (fun ls hl => ?_)
    refine lv_aload_n hx hb dX6_person_15 rfl (lv_at hl 1 rfl) ?_
    refine gf_X6_0 hx hb hown hC (RA.x hR) (zf_X6_10 hC.1) dX6_person_16 ?_
    refine rc_V (As := []) hx hb hml hown hC hl (c_size l E _ _ _ _) (rec_of hC (RA.ls hR (by decide : 0 < 4)) rfl) (zm_X6_51 hC.1) kv_Jx4a65c_size_8abf5 (RA.ls hR (by decide : 0 < 4)) rfl rfl (rwD_le (by decide) (by decide)) ⟨rfl, rfl⟩ (Nat.le_of_ble_eq_true rfl) ⟨Nat.zero_le _, Nat.zero_le _⟩ dX6_person_19 ?_
    refine lv_bipush (v := 8) hx hb dX6_person_22 (by decide) ?_
    refine lv_icmp_lt (tgt := 37) hx hb dX6_person_24 (by decide) (fun c_24 => ?_) (fun c_24 => ?_)
    ·
      have hfr := hR.fresh
      have haN := hR.eN_le
      have hlt3 := hR.a3lt (i := 0) (by decide)
      refine nw_X2 hx hb hown hC (zc_X6_62 hC.1) hS (Nat.le_of_ble_eq_true rfl) (Nat.le_of_ble_eq_true rfl) dX6_person_37 (fun H1 hN hz hq hS => ?_)
      have hR := hR.kept (fun q h => hq q h)
      refine lv_dup hx hb dX6_person_40 rfl ?_
      refine lv_aload_n hx hb dX6_person_41 rfl (lv_at hl 1 rfl) ?_
      refine gf_X6_0 hx hb hown hC (RA.x hR) (zf_X6_10 hC.1) dX6_person_42 ?_
      refine rc_V (As := []) hx hb hml hown hC hl (c_size l E _ _ _ _) (rec_of hC (RA.ls hR (by decide : 0 < 4)) rfl) (zm_X6_51 hC.1) kv_Jx4a65c_size_8abf5 (RA.ls hR (by decide : 0 < 4)) rfl rfl (rwD_le (by decide) (by decide)) ⟨rfl, rfl⟩ (Nat.le_of_ble_eq_true rfl) ⟨Nat.le_of_ble_eq_true rfl, Nat.le_of_ble_eq_true rfl⟩ dX6_person_45 ?_
      refine lv_aload_n hx hb dX6_person_48 rfl (lv_at hl 0 rfl) ?_
      refine wcv_I (As := [.int (nI (S.np)), .ref (g.ad 6 (p9))]) hx hb hml hown hC hl (c_X2_init l E (q9 := s.heap.size) (g := g) (n9 := nI S.np) (bo := (some p9))) (zm_X6_64 hC.1) kv_X2_init hN hS (fun q h => h.elim (fun e => e ▸ (Or.inr (Nat.le_refl _))) (fun e => Or.inr (Nat.le_trans hS.1 e))) rfl rfl (wD_le (by decide) (by decide)) (Nat.le_of_ble_eq_true rfl) ⟨Nat.le_of_ble_eq_true rfl, Nat.le_of_ble_eq_true rfl⟩ dX6_person_49 (fun H1 locs1 hO9 hz hq hS => ?_)
      have hN := hO9
      have hR := hR.kept1 hfr haN (fun q h1 h2 => hq q h1 h2)
      refine lv_astore_n (lv' := [(3, .ref (s.heap.size)), (2, .ref (g.ad 6 (p9))), (0, .ref (g.ad 1 0)), (1, .int (nI p9))]) hx hb dX6_person_52 rfl hl (by decide) rfl (fun ls hl => ?_)
      refine lv_aload_n hx hb dX6_person_53 rfl (lv_at hl 2 rfl) ?_
      refine gf_X6_0 hx hb hown hC (RA.x hR) (zf_X6_10 hC.1) dX6_person_54 ?_
      refine lv_aload_n hx hb dX6_person_57 rfl (lv_at hl 0 rfl) ?_
      obtain ⟨n2, hn2⟩ : ∃ n, n = H1.size := ⟨_, rfl⟩
      have hN0 : s.heap.size < n2 := by rw [hn2]; exact hN.lt
      have h23 := hR.ne23 (i := 0) (by decide)
      have hvq : ¬ s.heap.size = g.ad 2 0 := fun e => hfr 2 0 (show 0 < 4 by decide) e.symm
      have hva : ¬ s.heap.size = g.ad 3 0 := fun e => by omega
      have hqN := hR.2.2.1.1 _ (hR.ow (k := 2) (i := 0) (show 0 < 4 by decide))
      refine wc_V (As := [.ref (s.heap.size)]) hx hb hml hown hC hl (c_add l E (q9 := g.ad 2 0) (a9 := g.ad 3 0) (v9 := s.heap.size) (n9 := S.np) (c9 := g.cap 0) (md := g.md 0) (ad9 := g.ad 6) (ci := 2) rfl (by simp [cObj]) (hR.2.1 0 (by decide)).1 (hR.2.1 0 (by decide)).2 (Nat.le_trans hI.np (by decide)) h23 hvq hva hqN (fun j hj e => hR.neK (i := 0) (by decide) (k := 6) hj (by decide) e)) (rec_of hC (hR.ls (i := 0) (by decide)) rfl) (zm_X6_67 hC.1) kv_Jx4a65c_add_9ea2d ⟨hR.ls (i := 0) (by decide), hR.lstA (i := 0) (by decide), fun j hj => ⟨_, hR.pe hj⟩, hN, hR.2.2.2⟩ hS (fun q h => h.elim (fun e => e.elim (fun e => Or.inl (e ▸ hR.ow (k := 2) (i := 0) (show 0 < 4 by decide))) (fun e => Or.inl (e.1 ▸ hR.ow (k := 3) (i := 0) ⟨by decide, e.2⟩))) (fun e => Or.inr (Nat.le_trans hS.1 e))) rfl rfl (wD_le (by decide) (by decide)) (Nat.le_of_ble_eq_true rfl) ⟨Nat.le_of_ble_eq_true rfl, Nat.le_of_ble_eq_true rfl⟩ dX6_person_58 (fun v H1 locs1 hP hz hq hS => ?_)
      obtain ⟨⟨ea, cp, hL, hcp1, hcp2, hAr, hcs⟩, rfl⟩ := hP
      have hN := hN.kept (hq _ hN.lt (fun e => e.elim hvq (fun e => hva e.1)))
      have hcs : (ea = g.ad 3 0 ∧ 0 < g.cap 0) ∨ ea = n2 := by rw [hn2]; exact hcs
      have hz2 : n2 ≤ H1.size := by rw [hn2]; exact hz
      have hae : ¬ s.heap.size = ea := by
        intro e9
        rcases hcs with hc1 | hc1
        · exact hva (e9.trans hc1.1)
        · omega
      have heN : eN E ≤ ea := by
        rcases hcs with hc1 | hc1
        · rw [hc1.1]; exact hR.2.2.1.1 _ (hR.ow (k := 3) (i := 0) ⟨by decide, hc1.2⟩)
        · omega
      have he : (ea = g.ad 3 0 ∧ 0 < g.cap 0) ∨ ∀ k' i', valA S g k' i' → ¬ g.ad k' i' = ea := by
        rcases hcs with hc1 | hc1
        · exact Or.inl hc1
        · refine Or.inr (fun k' i' hv e9 => ?_)
          have h9 : g.ad k' i' < n2 := by rw [hn2]; exact (hR.1 k' i' hv).2.lt
          omega
      have hArl : ea < H1.size := hAr.lt
      have hNl : s.heap.size < H1.size := hN.lt
      have hgx : gX g (gAdd g 6 0 S.np s.heap.size ea cp) s.heap.size H1.size := by
        refine gX_add (by decide) ⟨Nat.le_refl _, hNl⟩ ?_
        rcases hcs with hc1 | hc1
        · exact Or.inl ⟨hc1.1, hR.ow (k := 3) (i := 0) ⟨by decide, hc1.2⟩⟩
        · exact Or.inr ⟨by omega, hArl⟩
      have hR : RA E (addP S (some p9)) (gAdd g 6 0 S.np s.heap.size ea cp) H1 := RA.appP hR hI hfr he hae haN heN ⟨hcp1, hcp2⟩ (fun q h1 h2 h3 => hq q h1 (fun e => e.elim h2 h3)) hL hAr hN (fun j hj => by cases hj; exact hp)
      have hI : Inv (addP S (some p9)) := hI.adP h8 (fun j hj => by cases hj; exact hp)
      refine lv_pop hx hb dX6_person_61 rfl ?_
      refine lv_aload_n hx hb dX6_person_62 rfl (lv_at hl 0 rfl) ?_
      refine gf_X2_0_s hx hb hown hC hN (zf_X6_71 hC.1) dX6_person_63 ?_
      exact wr_i hx hb hr hlocks hS ⟨⟨_, hR, hgx⟩, rfl⟩ (Nat.le_of_ble_eq_true rfl) (Nat.le_of_ble_eq_true rfl) dX6_person_66
    · exact absurd (nI_lt (b := 8) h8 (by decide)) c_24
  · exact absurd c_2 (nI_neg1 (Nat.lt_trans hp hI.np31))
