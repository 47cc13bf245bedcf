set_option maxRecDepth 100000 in
set_option maxHeartbeats 4000000 in
theorem c_X6_person0 (l : Launch) (E : EE) {S : St} {g : Gh} (hI : Inv S) (h8 : S.np < 8) : WM l E yX6_person cX6_person 4 (some .int) (wD 8 2 60) [.ref (g.ad 1 0), .int ((-1))] (RA E S g) (ow g) (fun sz v H => (∃ g1, RA E (addP S none) g1 H ∧ gX g g1 sz H.size) ∧ v = some (.int (nI S.np))) := by
  refine wm_of rfl (Nat.le_of_ble_eq_true rfl) (fun p e s m below meth c ls hx hb hr hml (hown : s.vm.findClass RX6 = some m.cls) hC hlocks hR hl hini => ?_)
  have hS : va_S (fun q => ow g q ∨ s.heap.size ≤ q) s.heap s.heap [] := va_S.rf
  have hl : lv_has ls 4 [(0, .ref (g.ad 1 0)), (1, .int ((-1)))] := hl
  refine lv_iload_n hx hb dX6_person_0 rfl (lv_at hl 1 rfl) ?_
  refine lv_iconst (v := (-1)) hx hb dX6_person_1 (by decide) ?_
  refine lv_icmp_ne (tgt := 9) hx hb dX6_person_2 (by decide) (fun c_2 => ?_) (fun c_2 => ?_)
  · exact absurd c_2 (by decide)
  ·
    refine lv_null hx hb dX6_person_5 ?_
    refine lv_goto (tgt := 14) hx hb dX6_person_6 (by decide) ?_
    refine lv_astore_nN (lv' := [(2, .null), (0, .ref (g.ad 1 0)), (1, .int ((-1)))]) hx hb dX6_person_14 rfl hl (by decide) rfl (fun ls hl => ?_)
    refine lv_aload_n hx hb dX6_person_15 rfl (lv_at hl 1 rfl) ?_
    refine gf_X6_0 hx hb hown hC (RA.x hR) (zf_X6_10 hC.1) dX6_person_16 ?_
    refine rc_V (As := []) hx hb hml hown hC hl (c_size l E _ _ _ _) (rec_of hC (RA.ls hR (by decide : 0 < 4)) rfl) (zm_X6_51 hC.1) kv_Jx4a65c_size_8abf5 (RA.ls hR (by decide : 0 < 4)) rfl rfl (rwD_le (by decide) (by decide)) ⟨rfl, rfl⟩ (Nat.le_of_ble_eq_true rfl) ⟨Nat.zero_le _, Nat.zero_le _⟩ dX6_person_19 ?_
    refine lv_bipush (v := 8) hx hb dX6_person_22 (by decide) ?_
    refine lv_icmp_lt (tgt := 37) hx hb dX6_person_24 (by decide) (fun c_24 => ?_) (fun c_24 => ?_)
    ·
      have hfr := hR.fresh
      have haN := hR.eN_le
      have hlt3 := hR.a3lt (i := 0) (by decide)
      refine nw_X2 hx hb hown hC (zc_X6_62 hC.1) hS (Nat.le_of_ble_eq_true rfl) (Nat.le_of_ble_eq_true rfl) dX6_person_37 (fun H1 hN hz hq hS => ?_)
      have hR := hR.kept (fun q h => hq q h)
      refine lv_dup hx hb dX6_person_40 rfl ?_
      refine lv_aload_n hx hb dX6_person_41 rfl (lv_at hl 1 rfl) ?_
      refine gf_X6_0 hx hb hown hC (RA.x hR) (zf_X6_10 hC.1) dX6_person_42 ?_
      refine rc_V (As := []) hx hb hml hown hC hl (c_size l E _ _ _ _) (rec_of hC (RA.ls hR (by decide : 0 < 4)) rfl) (zm_X6_51 hC.1) kv_Jx4a65c_size_8abf5 (RA.ls hR (by decide : 0 < 4)) rfl rfl (rwD_le (by decide) (by decide)) ⟨rfl, rfl⟩ (Nat.le_of_ble_eq_true rfl) ⟨Nat.le_of_ble_eq_true rfl, Nat.le_of_ble_eq_true rfl⟩ dX6_person_45 ?_
      refine lv_aload_nN hx hb dX6_person_48 rfl (lv_at hl 0 rfl) ?_
      refine wcv_I (As := [.int (nI (S.np)), .null]) hx hb hml hown hC hl (c_X2_init l E (q9 := s.heap.size) (g := g) (n9 := nI S.np) (bo := none)) (zm_X6_64 hC.1) kv_X2_init hN hS (fun q h => h.elim (fun e => e ▸ (Or.inr (Nat.le_refl _))) (fun e => Or.inr (Nat.le_trans hS.1 e))) rfl rfl (wD_le (by decide) (by decide)) (Nat.le_of_ble_eq_true rfl) ⟨Nat.le_of_ble_eq_true rfl, Nat.le_of_ble_eq_true rfl⟩ dX6_person_49 (fun H1 locs1 hO9 hz hq hS => ?_)
      have hN := hO9
      have hR := hR.kept1 hfr haN (fun q h1 h2 => hq q h1 h2)
      refine lv_astore_n (lv' := [(3, .ref (s.heap.size)), (2, .null), (0, .ref (g.ad 1 0)), (1, .int ((-1)))]) hx hb dX6_person_52 rfl hl (by decide) rfl (fun ls hl => ?_)
      refine lv_aload_n hx hb dX6_person_53 rfl (lv_at hl 2 rfl) ?_
      refine gf_X6_0 hx hb hown hC (RA.x hR) (zf_X6_10 hC.1) dX6_person_54 ?_
      refine lv_aload_n hx hb dX6_person_57 rfl (lv_at hl 0 rfl) ?_
      obtain ⟨n2, hn2⟩ : ∃ n, n = H1.size := ⟨_, rfl⟩
      have hN0 : s.heap.size < n2 := by rw [hn2]; exact hN.lt
      have h23 := hR.ne23 (i := 0) (by decide)
      have hvq : ¬ s.heap.size = g.ad 2 0 := fun e => hfr 2 0 (show 0 < 4 by decide) e.symm
      have hva : ¬ s.heap.size = g.ad 3 0 := fun e => by omega
      have hqN := hR.2.2.1.1 _ (hR.ow (k := 2) (i := 0) (show 0 < 4 by decide))
      refine wc_V (As := [.ref (s.heap.size)]) hx hb hml hown hC hl (c_add l E (q9 := g.ad 2 0) (a9 := g.ad 3 0) (v9 := s.heap.size) (n9 := S.np) (c9 := g.cap 0) (md := g.md 0) (ad9 := g.ad 6) (ci := 2) rfl (by simp [cObj]) (hR.2.1 0 (by decide)).1 (hR.2.1 0 (by decide)).2 (Nat.le_trans hI.np (by decide)) h23 hvq hva hqN (fun j hj e => hR.neK (i := 0) (by decide) (k := 6) hj (by decide) e)) (rec_of hC (hR.ls (i := 0) (by decide)) rfl) (zm_X6_67 hC.1) kv_Jx4a65c_add_9ea2d ⟨hR.ls (i := 0) (by decide), hR.lstA (i := 0) (by decide), fun j hj => ⟨_, hR.pe hj⟩, hN, hR.2.2.2⟩ hS (fun q h => h.elim (fun e => e.elim (fun e => Or.inl (e ▸ hR.ow (k := 2) (i := 0) (show 0 < 4 by decide))) (fun e => Or.inl (e.1 ▸ hR.ow (k := 3) (i := 0) ⟨by decide, e.2⟩))) (fun e => Or.inr (Nat.le_trans hS.1 e))) rfl rfl (wD_le (by decide) (by decide)) (Nat.le_of_ble_eq_true rfl) ⟨Nat.le_of_ble_eq_true rfl, Nat.le_of_ble_eq_true rfl⟩ dX6_person_58 (fun v H1 locs1 hP hz hq hS => ?_)
      obtain ⟨⟨ea, cp, hL, hcp1, hcp2, hAr, hcs⟩, rfl⟩ := hP
      have hN := hN.kept (hq _ hN.lt (fun e => e.elim hvq (fun e => hva e.1)))
      have hcs : (ea = g.ad 3 0 ∧ 0 < g.cap 0) ∨ ea = n2 := by rw [hn2]; exact hcs
      have hz2 : n2 ≤ H1.size := by rw [hn2]; exact hz
      have hae : ¬ s.heap.size = ea := by
        intro e9
        rcases hcs with hc1 | hc1
        · exact hva (e9.trans hc1.1)
        · omega
      have heN : eN E ≤ ea := by
        rcases hcs with hc1 | hc1
        · rw [hc1.1]; exact hR.2.2.1.1 _ (hR.ow (k := 3) (i := 0) ⟨by decide, hc1.2⟩)
        · omega
      have he : (ea = g.ad 3 0 ∧ 0 < g.cap 0) ∨ ∀ k' i', valA S g k' i' → ¬ g.ad k' i' = ea := by
        rcases hcs with hc1 | hc1
        · exact Or.inl hc1
        · refine Or.inr (fun k' i' hv e9 => ?_)
          have h9 : g.ad k' i' < n2 := by rw [hn2]; exact (hR.1 k' i' hv).2.lt
          omega
      have hArl : ea < H1.size := hAr.lt
      have hNl : s.heap.size < H1.size := hN.lt
      have hgx : gX g (gAdd g 6 0 S.np s.heap.size ea cp) s.heap.size H1.size := by
        refine gX_add (by decide) ⟨Nat.le_refl _, hNl⟩ ?_
        rcases hcs with hc1 | hc1
        · exact Or.inl ⟨hc1.1, hR.ow (k := 3) (i := 0) ⟨by decide, hc1.2⟩⟩
        · exact Or.inr ⟨by omega, hArl⟩
      have hR : RA E (addP S none) (gAdd g 6 0 S.np s.heap.size ea cp) H1 := RA.appP hR hI hfr he hae haN heN ⟨hcp1, hcp2⟩ (fun q h1 h2 h3 => hq q h1 (fun e => e.elim h2 h3)) hL hAr hN (fun j hj => by cases hj)
      have hI : Inv (addP S none) := hI.adP h8 (fun j hj => by cases hj)
      refine lv_pop hx hb dX6_person_61 rfl ?_
      refine lv_aload_n hx hb dX6_person_62 rfl (lv_at hl 0 rfl) ?_
      refine gf_X2_0_s hx hb hown hC hN (zf_X6_71 hC.1) dX6_person_63 ?_
      exact wr_i hx hb hr hlocks hS ⟨⟨_, hR, hgx⟩, rfl⟩ (Nat.le_of_ble_eq_true rfl) (Nat.le_of_ble_eq_true rfl) dX6_person_66
    · exact absurd (nI_lt (b := 8) h8 (by decide)) c_24
set_option maxRecDepth 100000 in
set_option maxHeartbeats 4000000 in
theorem c_X6_person1 (l : Launch) (E : EE) {S : St} {g : Gh} (hI : Inv S) {p9 : Nat} (hp : p9 < S.np) (h8 : S.np < 8) : WM l E yX6_person cX6_person 4 (some .int) (wD 8 2 60) [.ref (g.ad 1 0), .int (nI p9)] (RA E S g) (ow g) (fun sz v H => (∃ g1, RA E (addP S (some p9)) g1 H ∧ gX g g1 sz H.size) ∧ v = some (.int (nI S.np))) := by
  refine wm_of rfl (Nat.le_of_ble_eq_true rfl) (fun p e s m below meth c ls hx hb hr hml (hown : s.vm.findClass RX6 = some m.cls) hC hlocks hR hl hini => ?_)
  have hS : va_S (fun q => ow g q ∨ s.heap.size ≤ q) s.heap s.heap [] := va_S.rf
  have hl : lv_has ls 4 [(0, .ref (g.ad 1 0)), (1, .int (nI p9))] := hl
  refine lv_iload_n hx hb dX6_person_0 rfl (lv_at hl 1 rfl) ?_
  refine lv_iconst (v := (-1)) hx hb dX6_person_1 (by decide) ?_
  refine lv_icmp_ne (tgt := 9) hx hb dX6_person_2 (by decide) (fun c_2 => ?_) (fun c_2 => ?_)
  ·
    refine lv_aload_n hx hb dX6_person_9 rfl (lv_at hl 0 rfl) ?_
    refine lv_iload_n hx hb dX6_person_10 rfl (lv_at hl 1 rfl) ?_
    refine rc_V (As := [.int (nI p9)]) hx hb hml hown hC hl (c_X6_personAt l E hI hp) (rec_of hC (RA.x hR) rfl) (zm_X6_47 hC.1) kv_X6_personAt hR rfl rfl (rwD_le (by decide) (by decide)) ⟨rfl, rfl⟩ (Nat.le_of_ble_eq_true rfl) ⟨Nat.zero_le _, Nat.zero_le _⟩ dX6_person_11 ?_
    refine lv_astore_n (lv' := [(2, .ref (g.ad 6 (p9))), (0, .ref (g.ad 1 0)), (1, .int (nI p9))]) hx hb dX6_person_14 rfl hl (by decide) rfl (fun ls hl => ?_)
    refine lv_aload_n hx hb dX6_person_15 rfl (lv_at hl 1 rfl) ?_
    refine gf_X6_0 hx hb hown hC (RA.x hR) (zf_X6_10 hC.1) dX6_person_16 ?_
    refine rc_V (As := []) hx hb hml hown hC hl (c_size l E _ _ _ _) (rec_of hC (RA.ls hR (by decide : 0 < 4)) rfl) (zm_X6_51 hC.1) kv_Jx4a65c_size_8abf5 (RA.ls hR (by decide : 0 < 4)) rfl rfl (rwD_le (by decide) (by decide)) ⟨rfl, rfl⟩ (Nat.le_of_ble_eq_true rfl) ⟨Nat.zero_le _, Nat.zero_le _⟩ dX6_person_19 ?_
    refine lv_bipush (v := 8) hx hb dX6_person_22 (by decide) ?_
    refine lv_icmp_lt (tgt := 37) hx hb dX6_person_24 (by decide) (fun c_24 => ?_) (fun c_24 => ?_)
    ·
      have hfr := hR.fresh
      have haN := hR.eN_le
      have hlt3 := hR.a3lt (i := 0) (by decide)
      refine nw_X2 hx hb hown hC (zc_X6_62 hC.1) hS (Nat.le_of_ble_eq_true rfl) (Nat.le_of_ble_eq_true rfl) dX6_person_37 (fun H1 hN hz hq hS => ?_)
      have hR := hR.kept (fun q h => hq q h)
      refine lv_dup hx hb dX6_person_40 rfl ?_
      refine lv_aload_n hx hb dX6_person_41 rfl (lv_at hl 1 rfl) ?_
      refine gf_X6_0 hx hb hown hC (RA.x hR) (zf_X6_10 hC.1) dX6_person_42 ?_
      refine rc_V (As := []) hx hb hml hown hC hl (c_size l E _ _ _ _) (rec_of hC (RA.ls hR (by decide : 0 < 4)) rfl) (zm_X6_51 hC.1) kv_Jx4a65c_size_8abf5 (RA.ls hR (by decide : 0 < 4)) rfl rfl (rwD_le (by decide) (by decide)) ⟨rfl, rfl⟩ (Nat.le_of_ble_eq_true rfl) ⟨Nat.le_of_ble_eq_true rfl, Nat.le_of_ble_eq_true rfl⟩ dX6_person_45 ?_
      refine lv_aload_n hx hb dX6_person_48 rfl (lv_at hl 0 rfl) ?_
      refine wcv_I (As := [.int (nI (S.np)), .ref (g.ad 6 (p9))]) hx hb hml hown hC hl (c_X2_init l E (q9 := s.heap.size) (g := g) (n9 := nI S.np) (bo := (some p9))) (zm_X6_64 hC.1) kv_X2_init hN hS (fun q h => h.elim (fun e => e ▸ (Or.inr (Nat.le_refl _))) (fun e => Or.inr (Nat.le_trans hS.1 e))) rfl rfl (wD_le (by decide) (by decide)) (Nat.le_of_ble_eq_true rfl) ⟨Nat.le_of_ble_eq_true rfl, Nat.le_of_ble_eq_true rfl⟩ dX6_person_49 (fun H1 locs1 hO9 hz hq hS => ?_)
      have hN := hO9
      have hR := hR.kept1 hfr haN (fun q h1 h2 => hq q h1 h2)
      refine lv_astore_n (lv' := [(3, .ref (s.heap.size)), (2, .ref (g.ad 6 (p9))), (0, .ref (g.ad 1 0)), (1, .int (nI p9))]) hx hb dX6_person_52 rfl hl (by decide) rfl (fun ls hl => ?_)
      refine lv_aload_n hx hb dX6_person_53 rfl (lv_at hl 2 rfl) ?_
      refine gf_X6_0 hx hb hown hC (RA.x hR) (zf_X6_10 hC.1) dX6_person_54 ?_
      refine lv_aload_n hx hb dX6_person_57 rfl (lv_at hl 0 rfl) ?_
      obtain ⟨n2, hn2⟩ : ∃ n, n = H1.size := ⟨_, rfl⟩
      have hN0 : s.heap.size < n2 := by rw [hn2]; exact hN.lt
      have h23 := hR.ne23 (i := 0) (by decide)
      have hvq : ¬ s.heap.size = g.ad 2 0 := fun e => hfr 2 0 (show 0 < 4 by decide) e.symm
      have hva : ¬ s.heap.size = g.ad 3 0 := fun e => by omega
      have hqN := hR.2.2.1.1 _ (hR.ow (k := 2) (i := 0) (show 0 < 4 by decide))
      refine wc_V (As := [.ref (s.heap.size)]) hx hb hml hown hC hl (c_add l E (q9 := g.ad 2 0) (a9 := g.ad 3 0) (v9 := s.heap.size) (n9 := S.np) (c9 := g.cap 0) (md := g.md 0) (ad9 := g.ad 6) (ci := 2) rfl (by simp [cObj]) (hR.2.1 0 (by decide)).1 (hR.2.1 0 (by decide)).2 (Nat.le_trans hI.np (by decide)) h23 hvq hva hqN (fun j hj e => hR.neK (i := 0) (by decide) (k := 6) hj (by decide) e)) (rec_of hC (hR.ls (i := 0) (by decide)) rfl) (zm_X6_67 hC.1) kv_Jx4a65c_add_9ea2d ⟨hR.ls (i := 0) (by decide), hR.lstA (i := 0) (by decide), fun j hj => ⟨_, hR.pe hj⟩, hN, hR.2.2.2⟩ hS (fun q h => h.elim (fun e => e.elim (fun e => Or.inl (e ▸ hR.ow (k := 2) (i := 0) (show 0 < 4 by decide))) (fun e => Or.inl (e.1 ▸ hR.ow (k := 3) (i := 0) ⟨by decide, e.2⟩))) (fun e => Or.inr (Nat.le_trans hS.1 e))) rfl rfl (wD_le (by decide) (by decide)) (Nat.le_of_ble_eq_true rfl) ⟨Nat.le_of_ble_eq_true rfl, Nat.le_of_ble_eq_true rfl⟩ dX6_person_58 (fun v H1 locs1 hP hz hq hS => ?_)
      obtain ⟨⟨ea, cp, hL, hcp1, hcp2, hAr, hcs⟩, rfl⟩ := hP
      have hN := hN.kept (hq _ hN.lt (fun e => e.elim hvq (fun e => hva e.1)))
      have hcs : (ea = g.ad 3 0 ∧ 0 < g.cap 0) ∨ ea = n2 := by rw [hn2]; exact hcs
      have hz2 : n2 ≤ H1.size := by rw [hn2]; exact hz
      have hae : ¬ s.heap.size = ea := by
        intro e9
        rcases hcs with hc1 | hc1
        · exact hva (e9.trans hc1.1)
        · omega
      have heN : eN E ≤ ea := by
        rcases hcs with hc1 | hc1
        · rw [hc1.1]; exact hR.2.2.1.1 _ (hR.ow (k := 3) (i := 0) ⟨by decide, hc1.2⟩)
        · omega
      have he : (ea = g.ad 3 0 ∧ 0 < g.cap 0) ∨ ∀ k' i', valA S g k' i' → ¬ g.ad k' i' = ea := by
        rcases hcs with hc1 | hc1
        · exact Or.inl hc1
        · refine Or.inr (fun k' i' hv e9 => ?_)
          have h9 : g.ad k' i' < n2 := by rw [hn2]; exact (hR.1 k' i' hv).2.lt
          omega
      have hArl : ea < H1.size := hAr.lt
      have hNl : s.heap.size < H1.size := hN.lt
      have hgx : gX g (gAdd g 6 0 S.np s.heap.size ea cp) s.heap.size H1.size := by
        refine gX_add (by decide) ⟨Nat.le_refl _, hNl⟩ ?_
        rcases hcs with hc1 | hc1
        · exact Or.inl ⟨hc1.1, hR.ow (k := 3) (i := 0) ⟨by decide, hc1.2⟩⟩
        · exact Or.inr ⟨by omega, hArl⟩
      have hR : RA E (addP S (some p9)) (gAdd g 6 0 S.np s.heap.size ea cp) H1 := RA.appP hR hI hfr he hae haN heN ⟨hcp1, hcp2⟩ (fun q h1 h2 h3 => hq q h1 (fun e => e.elim h2 h3)) hL hAr hN (fun j hj => by cases hj; exact hp)
      have hI : Inv (addP S (some p9)) := hI.adP h8 (fun j hj => by cases hj; exact hp)
      refine lv_pop hx hb dX6_person_61 rfl ?_
      refine lv_aload_n hx hb dX6_person_62 rfl (lv_at hl 0 rfl) ?_
      refine gf_X2_0_s hx hb hown hC hN (zf_X6_71 hC.1) dX6_person_63 ?_
      exact wr_i hx hb hr hlocks hS ⟨⟨_, hR, hgx⟩, rfl⟩ (Nat.le_of_ble_eq_true rfl) (Nat.le_of_ble_eq_true rfl) dX6_person_66
    · exact absurd (nI_lt (b := 8) h8 (by decide)) c_24
  · exact absurd c_2 (nI_neg1 (Nat.lt_trans hp hI.np31))
set_option maxRecDepth 100000 in
set_option maxHeartbeats 4000000 in
theorem c_X6_receipt (l : Launch) (E : EE) {S : St} {g : Gh} (hI : Inv S) {am dy tx : Int32} (h1 : ¬ am < 1) (h2 : ¬ 9999 < am) (h3 : ¬ dy < 0) (h4 : ¬ 119 < dy) (h5 : ¬ tx < 0) (h6 : ¬ 9 < tx) (h30 : S.nr < 30) : WM l E yX6_receipt cX6_receipt 5 (some .int) (wD 8 2 60) [.ref (g.ad 1 0), .int (am), .int (dy), .int (tx)] (RA E S g) (ow g) (fun sz v H => (∃ g1, RA E (passS (mpS (addR S am dy tx))) g1 H ∧ gX g g1 sz H.size) ∧ v = some (.int (irI ((passS (mpS (addR S am dy tx))).ro S.nr)))) := by
  refine wm_of rfl (Nat.le_of_ble_eq_true rfl) (fun p e s m below meth c ls hx hb hr hml (hown : s.vm.findClass RX6 = some m.cls) hC hlocks hR hl hini => ?_)
  have hS : va_S (fun q => ow g q ∨ s.heap.size ≤ q) s.heap s.heap [] := va_S.rf
  have hl : lv_has ls 5 [(0, .ref (g.ad 1 0)), (1, .int (am)), (2, .int (dy)), (3, .int (tx))] := hl
  refine lv_iload_n hx hb dX6_receipt_0 rfl (lv_at hl 1 rfl) ?_
  refine lv_iload_n hx hb dX6_receipt_1 rfl (lv_at hl 2 rfl) ?_
  refine lv_iload_n hx hb dX6_receipt_2 rfl (lv_at hl 3 rfl) ?_
  refine rc_S0 (As := [.int (am), .int (dy), .int (tx)]) hx hb hml hown hC hl (c_X6_checkReceipt l E hI h1 h2 h3 h4 h5 h6) (zm_X6_172 hC.1) kv_X6_checkReceipt hR rfl rfl (rwD_le (by decide) (by decide)) ⟨rfl, rfl⟩ (Nat.le_of_ble_eq_true rfl) ⟨Nat.zero_le _, Nat.zero_le _⟩ dX6_receipt_3 ?_
  refine lv_aload_n hx hb dX6_receipt_6 rfl (lv_at hl 0 rfl) ?_
  refine gf_X6_3 hx hb hown hC (RA.x hR) (zf_X6_22 hC.1) dX6_receipt_7 ?_
  refine rc_V (As := []) hx hb hml hown hC hl (c_size l E _ _ _ _) (rec_of hC (RA.ls hR (by decide : 3 < 4)) rfl) (zm_X6_51 hC.1) kv_Jx4a65c_size_8abf5 (RA.ls hR (by decide : 3 < 4)) rfl rfl (rwD_le (by decide) (by decide)) ⟨rfl, rfl⟩ (Nat.le_of_ble_eq_true rfl) ⟨Nat.zero_le _, Nat.zero_le _⟩ dX6_receipt_10 ?_
  refine lv_bipush (v := 30) hx hb dX6_receipt_13 (by decide) ?_
  refine lv_icmp_lt (tgt := 28) hx hb dX6_receipt_15 (by decide) (fun c_15 => ?_) (fun c_15 => ?_)
  ·
    have hfr := hR.fresh
    have haN := hR.eN_le
    have hlt3 := hR.a3lt (i := 3) (by decide)
    refine nw_X3 hx hb hown hC (zc_X6_177 hC.1) hS (Nat.le_of_ble_eq_true rfl) (Nat.le_of_ble_eq_true rfl) dX6_receipt_28 (fun H1 hN hz hq hS => ?_)
    have hR := hR.kept (fun q h => hq q h)
    refine lv_dup hx hb dX6_receipt_31 rfl ?_
    refine lv_aload_n hx hb dX6_receipt_32 rfl (lv_at hl 0 rfl) ?_
    refine gf_X6_3 hx hb hown hC (RA.x hR) (zf_X6_22 hC.1) dX6_receipt_33 ?_
    refine rc_V (As := []) hx hb hml hown hC hl (c_size l E _ _ _ _) (rec_of hC (RA.ls hR (by decide : 3 < 4)) rfl) (zm_X6_51 hC.1) kv_Jx4a65c_size_8abf5 (RA.ls hR (by decide : 3 < 4)) rfl rfl (rwD_le (by decide) (by decide)) ⟨rfl, rfl⟩ (Nat.le_of_ble_eq_true rfl) ⟨Nat.le_of_ble_eq_true rfl, Nat.le_of_ble_eq_true rfl⟩ dX6_receipt_36 ?_
    refine lv_iload_n hx hb dX6_receipt_39 rfl (lv_at hl 1 rfl) ?_
    refine lv_iload_n hx hb dX6_receipt_40 rfl (lv_at hl 2 rfl) ?_
    refine lv_iload_n hx hb dX6_receipt_41 rfl (lv_at hl 3 rfl) ?_
    refine wcv_I (As := [.int (nI (S.nr)), .int (am), .int (dy), .int (tx)]) hx hb hml hown hC hl (c_X3_init l E (q9 := s.heap.size) (n9 := nI (S.nr)) (a9 := am) (b9 := dy) (c9 := tx)) (zm_X6_179 hC.1) kv_X3_init hN hS (fun q h => h.elim (fun e => e ▸ (Or.inr (Nat.le_refl _))) (fun e => Or.inr (Nat.le_trans hS.1 e))) rfl rfl (wD_le (by decide) (by decide)) (Nat.le_of_ble_eq_true rfl) ⟨Nat.le_of_ble_eq_true rfl, Nat.le_of_ble_eq_true rfl⟩ dX6_receipt_42 (fun H1 locs1 hO9 hz hq hS => ?_)
    have hN := hO9
    have hR := hR.kept1 hfr haN (fun q h1 h2 => hq q h1 h2)
    refine lv_astore (lv' := [(4, .ref (s.heap.size)), (0, .ref (g.ad 1 0)), (1, .int (am)), (2, .int (dy)), (3, .int (tx))]) hx hb dX6_receipt_45 hl (by decide) rfl (fun ls hl => ?_)
    refine lv_aload_n hx hb dX6_receipt_47 rfl (lv_at hl 1 rfl) ?_
    refine gf_X6_3 hx hb hown hC (RA.x hR) (zf_X6_22 hC.1) dX6_receipt_48 ?_
    refine lv_aload hx hb dX6_receipt_51 (lv_at hl 0 rfl) ?_
    obtain ⟨n2, hn2⟩ : ∃ n, n = H1.size := ⟨_, rfl⟩
    have hN0 : s.heap.size < n2 := by rw [hn2]; exact hN.lt
    have h23 := hR.ne23 (i := 3) (by decide)
    have hvq : ¬ s.heap.size = g.ad 2 3 := fun e => hfr 2 3 (show 3 < 4 by decide) e.symm
    have hva : ¬ s.heap.size = g.ad 3 3 := fun e => by omega
    have hqN := hR.2.2.1.1 _ (hR.ow (k := 2) (i := 3) (show 3 < 4 by decide))
    refine wc_V (As := [.ref (s.heap.size)]) hx hb hml hown hC hl (c_add l E (q9 := g.ad 2 3) (a9 := g.ad 3 3) (v9 := s.heap.size) (n9 := S.nr) (c9 := g.cap 3) (md := g.md 3) (ad9 := g.ad 9) (ci := 3) rfl (by simp [cObj]) (hR.2.1 3 (by decide)).1 (hR.2.1 3 (by decide)).2 (Nat.le_trans hI.nr (by decide)) h23 hvq hva hqN (fun j hj e => hR.neK (i := 3) (by decide) (k := 9) hj (by decide) e)) (rec_of hC (hR.ls (i := 3) (by decide)) rfl) (zm_X6_67 hC.1) kv_Jx4a65c_add_9ea2d ⟨hR.ls (i := 3) (by decide), hR.lstA (i := 3) (by decide), fun j hj => ⟨_, hR.re hj⟩, hN, hR.2.2.2⟩ hS (fun q h => h.elim (fun e => e.elim (fun e => Or.inl (e ▸ hR.ow (k := 2) (i := 3) (show 3 < 4 by decide))) (fun e => Or.inl (e.1 ▸ hR.ow (k := 3) (i := 3) ⟨by decide, e.2⟩))) (fun e => Or.inr (Nat.le_trans hS.1 e))) rfl rfl (wD_le (by decide) (by decide)) (Nat.le_of_ble_eq_true rfl) ⟨Nat.le_of_ble_eq_true rfl, Nat.le_of_ble_eq_true rfl⟩ dX6_receipt_53 (fun v H1 locs1 hP hz hq hS => ?_)
    obtain ⟨⟨ea, cp, hL, hcp1, hcp2, hAr, hcs⟩, rfl⟩ := hP
    have hN := hN.kept (hq _ hN.lt (fun e => e.elim hvq (fun e => hva e.1)))
    have hcs : (ea = g.ad 3 3 ∧ 0 < g.cap 3) ∨ ea = n2 := by rw [hn2]; exact hcs
    have hz2 : n2 ≤ H1.size := by rw [hn2]; exact hz
    have hae : ¬ s.heap.size = ea := by
      intro e9
      rcases hcs with hc1 | hc1
      · exact hva (e9.trans hc1.1)
      · omega
    have heN : eN E ≤ ea := by
      rcases hcs with hc1 | hc1
      · rw [hc1.1]; exact hR.2.2.1.1 _ (hR.ow (k := 3) (i := 3) ⟨by decide, hc1.2⟩)
      · omega
    have he : (ea = g.ad 3 3 ∧ 0 < g.cap 3) ∨ ∀ k' i', valA S g k' i' → ¬ g.ad k' i' = ea := by
      rcases hcs with hc1 | hc1
      · exact Or.inl hc1
      · refine Or.inr (fun k' i' hv e9 => ?_)
        have h9 : g.ad k' i' < n2 := by rw [hn2]; exact (hR.1 k' i' hv).2.lt
        omega
    have hArl : ea < H1.size := hAr.lt
    have hNl : s.heap.size < H1.size := hN.lt
    have hgx : gX g (gAdd g 9 3 S.nr s.heap.size ea cp) s.heap.size H1.size := by
      refine gX_add (by decide) ⟨Nat.le_refl _, hNl⟩ ?_
      rcases hcs with hc1 | hc1
      · exact Or.inl ⟨hc1.1, hR.ow (k := 3) (i := 3) ⟨by decide, hc1.2⟩⟩
      · exact Or.inr ⟨by omega, hArl⟩
    have hR : RA E (addR S am dy tx) (gAdd g 9 3 S.nr s.heap.size ea cp) H1 := RA.appR hR hI hfr he hae haN heN ⟨hcp1, hcp2⟩ (fun q h1 h2 h3 => hq q h1 (fun e => e.elim h2 h3)) hL hAr hN
    have hI : Inv (addR S am dy tx) := hI.adR h30
    refine lv_pop hx hb dX6_receipt_56 rfl ?_
    refine lv_aload_n hx hb dX6_receipt_57 rfl (lv_at hl 1 rfl) ?_
    refine wcv_V (As := []) hx hb hml hown hC hl (c_X6_matchPairs l E hI) (rec_of hC (RA.x hR) rfl) (zm_X6_168 hC.1) kv_X6_matchPairs hR hS (fun q h => h.elim (fun w => (hgx.1 q w).imp id And.left) (fun w => Or.inr (Nat.le_trans hS.1 w))) rfl rfl (wD_le (by decide) (by decide)) (Nat.le_of_ble_eq_true rfl) ⟨Nat.le_of_ble_eq_true rfl, Nat.le_of_ble_eq_true rfl⟩ dX6_receipt_58 (fun H1 locs1 hR hz hq hS => ?_)
    have hI : Inv (mpS (addR S am dy tx)) := hI.mp
    have hgx := hgx.mono hz
    refine lv_aload_n hx hb dX6_receipt_61 rfl (lv_at hl 1 rfl) ?_
    refine wcv_V (As := []) hx hb hml hown hC hl (c_X6_passSteps l E hI) (rec_of hC (RA.x hR) rfl) (zm_X6_102 hC.1) kv_X6_passSteps hR hS (fun q h => h.elim (fun w => (hgx.1 q w).imp id And.left) (fun w => Or.inr (Nat.le_trans hS.1 w))) rfl rfl (wD_le (by decide) (by decide)) (Nat.le_of_ble_eq_true rfl) ⟨Nat.le_of_ble_eq_true rfl, Nat.le_of_ble_eq_true rfl⟩ dX6_receipt_62 (fun H1 locs1 hR hz hq hS => ?_)
    have hI : Inv (passS (mpS (addR S am dy tx))) := hI.pS
    have hgx := hgx.mono hz
    refine lv_aload hx hb dX6_receipt_65 (lv_at hl 0 rfl) ?_
    have hcN : S.nr < ((passS (mpS (addR S am dy tx)))).nr := by rw [passS_nr, mpS_nr]; exact Nat.lt_succ_self _
    have hN : va_at E.1 vwCl (s.heap.size, .inr (3, [.int (nI (S.nr)), .int ((passS (mpS (addR S am dy tx))).ra (S.nr)), .int ((passS (mpS (addR S am dy tx))).rd (S.nr)), .int ((passS (mpS (addR S am dy tx))).rx (S.nr)), va_rf (((passS (mpS (addR S am dy tx))).ro (S.nr)).map ((gAdd g 9 3 S.nr s.heap.size ea cp).ad 8))])) H1 := by
      have h9 := RA.re hR hcN
      rw [show (gAdd g 9 3 S.nr s.heap.size ea cp).ad 9 S.nr = s.heap.size from gAdd_new] at h9
      exact h9
    refine gf_X3_4 hx hb hown hC hN (zf_X6_182 hC.1) dX6_receipt_67 ?_
    refine rc_S (As := [va_rf (((passS (mpS (addR S am dy tx))).ro (S.nr)).map ((gAdd g 9 3 S.nr s.heap.size ea cp).ad 8))]) hx hb hml hown hC hl (c_X6_numberOf8 l E hI ((passS (mpS (addR S am dy tx))).ro (S.nr)) (fun j h => (hI.ro hcN h))) (zm_X6_119 hC.1) kv_X6_numberOf hR rfl rfl (rwD_le (by decide) (by decide)) ⟨rfl, rfl⟩ (Nat.le_of_ble_eq_true rfl) ⟨Nat.le_of_ble_eq_true rfl, Nat.le_of_ble_eq_true rfl⟩ dX6_receipt_70 ?_
    exact wr_i hx hb hr hlocks hS ⟨⟨_, hR, hgx⟩, rfl⟩ (Nat.le_of_ble_eq_true rfl) (Nat.le_of_ble_eq_true rfl) dX6_receipt_73
  · exact absurd (nI_lt (b := 30) h30 (by decide)) c_15
set_option maxRecDepth 100000 in
set_option maxHeartbeats 4000000 in
theorem c_X6_charge (l : Launch) (E : EE) {S : St} {g : Gh} (hI : Inv S) {p9 : Nat} (hp : p9 < S.np) {k9 : Nat} (hk : k9 < 4) {l9 : Nat} (hl9 : l9 < 3) {a9 x9 : Int32} (h1 : ¬ a9 < 1) (h2 : ¬ 9999 < a9) (h3 : ¬ x9 < 0) (h4 : ¬ 9 < x9) (h30 : S.nc < 30) (hs1 : ¬ spendA S p9 k9 (nI l9) < a9) (hs2 : a9 ≤ leftL S k9 0 (S.td / 30 + 1)) : WM l E yX6_charge cX6_charge 8 (some .int) (wD 8 2 60) [.ref (g.ad 1 0), .int (nI p9), .int (nI k9), .int (nI l9), .int (a9), .int (x9)] (RA E S g) (ow g) (fun sz v H => (∃ g1, RA E (passS (mpS (addC S p9 k9 l9 a9 x9 (tripA S p9 (nI l9))))) g1 H ∧ gX g g1 sz H.size) ∧ v = some (.int (nI S.nc))) := by
  refine wm_of rfl (Nat.le_of_ble_eq_true rfl) (fun p e s m below meth c ls hx hb hr hml (hown : s.vm.findClass RX6 = some m.cls) hC hlocks hR hl hini => ?_)
  have hS : va_S (fun q => ow g q ∨ s.heap.size ≤ q) s.heap s.heap [] := va_S.rf
  have hl : lv_has ls 8 [(0, .ref (g.ad 1 0)), (1, .int (nI p9)), (2, .int (nI k9)), (3, .int (nI l9)), (4, .int (a9)), (5, .int (x9))] := hl
  have htd : S.td / 30 < 4 := by have := hI.td; omega
  refine lv_aload_n hx hb dX6_charge_0 rfl (lv_at hl 0 rfl) ?_
  refine lv_iload_n hx hb dX6_charge_1 rfl (lv_at hl 1 rfl) ?_
  refine rc_V (As := [.int (nI p9)]) hx hb hml hown hC hl (c_X6_personAt l E hI hp) (rec_of hC (RA.x hR) rfl) (zm_X6_47 hC.1) kv_X6_personAt hR rfl rfl (rwD_le (by decide) (by decide)) ⟨rfl, rfl⟩ (Nat.le_of_ble_eq_true rfl) ⟨Nat.zero_le _, Nat.zero_le _⟩ dX6_charge_2 ?_
  refine lv_astore (lv' := [(6, .ref (g.ad 6 (p9))), (0, .ref (g.ad 1 0)), (1, .int (nI p9)), (2, .int (nI k9)), (3, .int (nI l9)), (4, .int (a9)), (5, .int (x9))]) hx hb dX6_charge_5 hl (by decide) rfl (fun ls hl => ?_)
  refine lv_iload_n hx hb dX6_charge_7 rfl (lv_at hl 3 rfl) ?_
  refine rc_S0 (As := [.int (nI k9)]) hx hb hml hown hC hl (c_X6_checkKind l E hI (k9 := k9) hk) (zm_X6_74 hC.1) kv_X6_checkKind hR rfl rfl (rwD_le (by decide) (by decide)) ⟨rfl, rfl⟩ (Nat.le_of_ble_eq_true rfl) ⟨Nat.zero_le _, Nat.zero_le _⟩ dX6_charge_8 ?_
  refine lv_iload_n hx hb dX6_charge_11 rfl (lv_at hl 4 rfl) ?_
  refine rc_S0 (As := [.int (nI l9)]) hx hb hml hown hC hl (c_X6_checkLand l E hI (k9 := l9) hl9) (zm_X6_105 hC.1) kv_X6_checkLand hR rfl rfl (rwD_le (by decide) (by decide)) ⟨rfl, rfl⟩ (Nat.le_of_ble_eq_true rfl) ⟨Nat.zero_le _, Nat.zero_le _⟩ dX6_charge_12 ?_
  refine lv_iload hx hb dX6_charge_15 (lv_at hl 5 rfl) ?_
  refine lv_iconst (v := 1) hx hb dX6_charge_17 (by decide) ?_
  refine lv_sipush (v := 9999) hx hb dX6_charge_18 (by decide) ?_
  refine rc_S0 (As := [.int (a9), .int (1), .int (9999)]) hx hb hml hown hC hl (c_X6_checkRange l E hI h1 h2) (zm_X6_78 hC.1) kv_X6_checkRange hR rfl rfl (rwD_le (by decide) (by decide)) ⟨rfl, rfl⟩ (Nat.le_of_ble_eq_true rfl) ⟨Nat.zero_le _, Nat.zero_le _⟩ dX6_charge_21 ?_
  refine lv_iload hx hb dX6_charge_24 (lv_at hl 6 rfl) ?_
  refine lv_iconst (v := 0) hx hb dX6_charge_26 (by decide) ?_
  refine lv_bipush (v := 9) hx hb dX6_charge_27 (by decide) ?_
  refine rc_S0 (As := [.int (x9), .int (0), .int (9)]) hx hb hml hown hC hl (c_X6_checkRange l E hI h3 h4) (zm_X6_78 hC.1) kv_X6_checkRange hR rfl rfl (rwD_le (by decide) (by decide)) ⟨rfl, rfl⟩ (Nat.le_of_ble_eq_true rfl) ⟨Nat.zero_le _, Nat.zero_le _⟩ dX6_charge_29 ?_
  refine lv_aload_n hx hb dX6_charge_32 rfl (lv_at hl 1 rfl) ?_
  refine gf_X6_2 hx hb hown hC (RA.x hR) (zf_X6_19 hC.1) dX6_charge_33 ?_
  refine rc_V (As := []) hx hb hml hown hC hl (c_size l E _ _ _ _) (rec_of hC (RA.ls hR (by decide : 2 < 4)) rfl) (zm_X6_51 hC.1) kv_Jx4a65c_size_8abf5 (RA.ls hR (by decide : 2 < 4)) rfl rfl (rwD_le (by decide) (by decide)) ⟨rfl, rfl⟩ (Nat.le_of_ble_eq_true rfl) ⟨Nat.zero_le _, Nat.zero_le _⟩ dX6_charge_36 ?_
  refine lv_bipush (v := 30) hx hb dX6_charge_39 (by decide) ?_
  refine lv_icmp_lt (tgt := 54) hx hb dX6_charge_41 (by decide) (fun c_41 => ?_) (fun c_41 => ?_)
  ·
    refine lv_iload hx hb dX6_charge_54 (lv_at hl 5 rfl) ?_
    refine lv_aload_n hx hb dX6_charge_56 rfl (lv_at hl 1 rfl) ?_
    refine lv_aload hx hb dX6_charge_57 (lv_at hl 0 rfl) ?_
    refine lv_iload_n hx hb dX6_charge_59 rfl (lv_at hl 3 rfl) ?_
    refine lv_iload_n hx hb dX6_charge_60 rfl (lv_at hl 4 rfl) ?_
    refine rc_V (As := [.ref (g.ad 6 (p9)), .int (nI k9), .int (nI l9)]) hx hb hml hown hC hl (c_X6_spendableBy l E hI hp hk (nI l9)) (rec_of hC (RA.x hR) rfl) (zm_X6_139 hC.1) kv_X6_spendableBy hR rfl rfl (rwD_le (by decide) (by decide)) ⟨rfl, rfl⟩ (Nat.le_of_ble_eq_true rfl) ⟨Nat.zero_le _, Nat.zero_le _⟩ dX6_charge_61 ?_
    refine lv_icmp_gt (tgt := 85) hx hb dX6_charge_64 (by decide) (fun c_64 => ?_) (fun c_64 => ?_)
    · exact absurd c_64 hs1
    ·
      refine lv_iload hx hb dX6_charge_67 (lv_at hl 5 rfl) ?_
      refine lv_aload_n hx hb dX6_charge_69 rfl (lv_at hl 1 rfl) ?_
      refine lv_iload_n hx hb dX6_charge_70 rfl (lv_at hl 3 rfl) ?_
      refine lv_aload_n hx hb dX6_charge_71 rfl (lv_at hl 1 rfl) ?_
      refine gf_X6_8 hx hb hown hC (RA.x hR) (zf_X6_43 hC.1) dX6_charge_72 ?_
      refine lv_bipush (v := 30) hx hb dX6_charge_75 (by decide) ?_
      refine lv_idiv hx hb dX6_charge_77 (by decide) ?_
      rw [div30 S.td (Nat.lt_succ_of_le hI.td)]
      refine lv_iconst (v := 0) hx hb dX6_charge_78 (by decide) ?_
      refine rc_V (As := [.int (nI k9), .int (nI (S.td / 30)), .int (0)]) hx hb hml hown hC hl (c_X6_leftOf l E hI hk htd (0)) (rec_of hC (RA.x hR) rfl) (zm_X6_147 hC.1) kv_X6_leftOf hR rfl rfl (rwD_le (by decide) (by decide)) ⟨rfl, rfl⟩ (Nat.le_of_ble_eq_true rfl) ⟨Nat.zero_le _, Nat.zero_le _⟩ dX6_charge_79 ?_
      refine lv_icmp_le (tgt := 95) hx hb dX6_charge_82 (by decide) (fun c_82 => ?_) (fun c_82 => ?_)
      ·
        have hfr := hR.fresh
        have haN := hR.eN_le
        have hlt3 := hR.a3lt (i := 2) (by decide)
        refine nw_X0 hx hb hown hC (zc_X6_155 hC.1) hS (Nat.le_of_ble_eq_true rfl) (Nat.le_of_ble_eq_true rfl) dX6_charge_95 (fun H1 hN hz hq hS => ?_)
        have hR := hR.kept (fun q h => hq q h)
        refine lv_dup hx hb dX6_charge_98 rfl ?_
        refine lv_aload_n hx hb dX6_charge_99 rfl (lv_at hl 1 rfl) ?_
        refine gf_X6_2 hx hb hown hC (RA.x hR) (zf_X6_19 hC.1) dX6_charge_100 ?_
        refine rc_V (As := []) hx hb hml hown hC hl (c_size l E _ _ _ _) (rec_of hC (RA.ls hR (by decide : 2 < 4)) rfl) (zm_X6_51 hC.1) kv_Jx4a65c_size_8abf5 (RA.ls hR (by decide : 2 < 4)) rfl rfl (rwD_le (by decide) (by decide)) ⟨rfl, rfl⟩ (Nat.le_of_ble_eq_true rfl) ⟨Nat.le_of_ble_eq_true rfl, Nat.le_of_ble_eq_true rfl⟩ dX6_charge_103 ?_
        refine lv_aload hx hb dX6_charge_106 (lv_at hl 0 rfl) ?_
        refine lv_iload_n hx hb dX6_charge_108 rfl (lv_at hl 3 rfl) ?_
        refine lv_iload_n hx hb dX6_charge_109 rfl (lv_at hl 4 rfl) ?_
        refine lv_iload hx hb dX6_charge_110 (lv_at hl 5 rfl) ?_
        refine lv_iload hx hb dX6_charge_112 (lv_at hl 6 rfl) ?_
        refine lv_aload_n hx hb dX6_charge_114 rfl (lv_at hl 1 rfl) ?_
        refine gf_X6_8 hx hb hown hC (RA.x hR) (zf_X6_43 hC.1) dX6_charge_115 ?_
        refine wcv_I (As := [.int (nI (S.nc)), .ref (g.ad 6 (p9)), .int (nI k9), .int (nI l9), .int (a9), .int (x9), .int (nI S.td)]) hx hb hml hown hC hl (c_X0_init l E (q9 := s.heap.size) (n9 := nI (S.nc)) (p9 := g.ad 6 (p9)) (a9 := nI k9) (b9 := nI l9) (c9 := a9) (d9 := x9) (e9 := nI S.td)) (zm_X6_157 hC.1) kv_X0_init hN hS (fun q h => h.elim (fun e => e ▸ (Or.inr (Nat.le_refl _))) (fun e => Or.inr (Nat.le_trans hS.1 e))) rfl rfl (wD_le (by decide) (by decide)) (Nat.le_of_ble_eq_true rfl) ⟨Nat.le_of_ble_eq_true rfl, Nat.le_of_ble_eq_true rfl⟩ dX6_charge_118 (fun H1 locs1 hO9 hz hq hS => ?_)
        have hN := hO9
        have hR := hR.kept1 hfr haN (fun q h1 h2 => hq q h1 h2)
        refine lv_astore (lv' := [(7, .ref (s.heap.size)), (6, .ref (g.ad 6 (p9))), (0, .ref (g.ad 1 0)), (1, .int (nI p9)), (2, .int (nI k9)), (3, .int (nI l9)), (4, .int (a9)), (5, .int (x9))]) hx hb dX6_charge_121 hl (by decide) rfl (fun ls hl => ?_)
        refine lv_aload hx hb dX6_charge_123 (lv_at hl 0 rfl) ?_
        refine lv_aload_n hx hb dX6_charge_125 rfl (lv_at hl 2 rfl) ?_
        refine lv_aload hx hb dX6_charge_126 (lv_at hl 1 rfl) ?_
        refine lv_iload_n hx hb dX6_charge_128 rfl (lv_at hl 5 rfl) ?_
        refine rc_V (As := [.ref (g.ad 6 (p9)), .int (nI l9)]) hx hb hml hown hC hl (c_X6_tripToday l E hI hp (nI l9)) (rec_of hC (RA.x hR) rfl) (zm_X6_160 hC.1) kv_X6_tripToday hR rfl rfl (rwD_le (by decide) (by decide)) ⟨rfl, rfl⟩ (Nat.le_of_ble_eq_true rfl) ⟨Nat.le_of_ble_eq_true rfl, Nat.le_of_ble_eq_true rfl⟩ dX6_charge_129 ?_
        refine pf_X0_7 hx hb hown hC hN hS (Or.inr (Nat.le_refl _)) (zf_X6_164 hC.1) (va_rf_nar _) (va_rf_fit _) dX6_charge_132 (fun H1 locs1 hN hz hq hS => ?_)
        have hR := hR.kept1 hfr haN (fun q _ h2 => hq q h2)
        refine lv_aload_n hx hb dX6_charge_135 rfl (lv_at hl 2 rfl) ?_
        refine gf_X6_2 hx hb hown hC (RA.x hR) (zf_X6_19 hC.1) dX6_charge_136 ?_
        refine lv_aload hx hb dX6_charge_139 (lv_at hl 0 rfl) ?_
        obtain ⟨n2, hn2⟩ : ∃ n, n = H1.size := ⟨_, rfl⟩
        have hN0 : s.heap.size < n2 := by rw [hn2]; exact hN.lt
        have h23 := hR.ne23 (i := 2) (by decide)
        have hvq : ¬ s.heap.size = g.ad 2 2 := fun e => hfr 2 2 (show 2 < 4 by decide) e.symm
        have hva : ¬ s.heap.size = g.ad 3 2 := fun e => by omega
        have hqN := hR.2.2.1.1 _ (hR.ow (k := 2) (i := 2) (show 2 < 4 by decide))
        refine wc_V (As := [.ref (s.heap.size)]) hx hb hml hown hC hl (c_add l E (q9 := g.ad 2 2) (a9 := g.ad 3 2) (v9 := s.heap.size) (n9 := S.nc) (c9 := g.cap 2) (md := g.md 2) (ad9 := g.ad 8) (ci := 1) rfl (by simp [cObj]) (hR.2.1 2 (by decide)).1 (hR.2.1 2 (by decide)).2 (Nat.le_trans hI.nc (by decide)) h23 hvq hva hqN (fun j hj e => hR.neK (i := 2) (by decide) (k := 8) hj (by decide) e)) (rec_of hC (hR.ls (i := 2) (by decide)) rfl) (zm_X6_67 hC.1) kv_Jx4a65c_add_9ea2d ⟨hR.ls (i := 2) (by decide), hR.lstA (i := 2) (by decide), fun j hj => ⟨_, hR.ch hj⟩, hN, hR.2.2.2⟩ hS (fun q h => h.elim (fun e => e.elim (fun e => Or.inl (e ▸ hR.ow (k := 2) (i := 2) (show 2 < 4 by decide))) (fun e => Or.inl (e.1 ▸ hR.ow (k := 3) (i := 2) ⟨by decide, e.2⟩))) (fun e => Or.inr (Nat.le_trans hS.1 e))) rfl rfl (wD_le (by decide) (by decide)) (Nat.le_of_ble_eq_true rfl) ⟨Nat.le_of_ble_eq_true rfl, Nat.le_of_ble_eq_true rfl⟩ dX6_charge_141 (fun v H1 locs1 hP hz hq hS => ?_)
        obtain ⟨⟨ea, cp, hL, hcp1, hcp2, hAr, hcs⟩, rfl⟩ := hP
        have hN := hN.kept (hq _ hN.lt (fun e => e.elim hvq (fun e => hva e.1)))
        have hcs : (ea = g.ad 3 2 ∧ 0 < g.cap 2) ∨ ea = n2 := by rw [hn2]; exact hcs
        have hz2 : n2 ≤ H1.size := by rw [hn2]; exact hz
        have hae : ¬ s.heap.size = ea := by
          intro e9
          rcases hcs with hc1 | hc1
          · exact hva (e9.trans hc1.1)
          · omega
        have heN : eN E ≤ ea := by
          rcases hcs with hc1 | hc1
          · rw [hc1.1]; exact hR.2.2.1.1 _ (hR.ow (k := 3) (i := 2) ⟨by decide, hc1.2⟩)
          · omega
        have he : (ea = g.ad 3 2 ∧ 0 < g.cap 2) ∨ ∀ k' i', valA S g k' i' → ¬ g.ad k' i' = ea := by
          rcases hcs with hc1 | hc1
          · exact Or.inl hc1
          · refine Or.inr (fun k' i' hv e9 => ?_)
            have h9 : g.ad k' i' < n2 := by rw [hn2]; exact (hR.1 k' i' hv).2.lt
            omega
        have hArl : ea < H1.size := hAr.lt
        have hNl : s.heap.size < H1.size := hN.lt
        have hgx : gX g (gAdd g 8 2 S.nc s.heap.size ea cp) s.heap.size H1.size := by
          refine gX_add (by decide) ⟨Nat.le_refl _, hNl⟩ ?_
          rcases hcs with hc1 | hc1
          · exact Or.inl ⟨hc1.1, hR.ow (k := 3) (i := 2) ⟨by decide, hc1.2⟩⟩
          · exact Or.inr ⟨by omega, hArl⟩
        have hR : RA E (addC S p9 k9 l9 a9 x9 (tripA S p9 (nI l9))) (gAdd g 8 2 S.nc s.heap.size ea cp) H1 := RA.appC hR hI hfr he hae haN heN ⟨hcp1, hcp2⟩ (fun q h1 h2 h3 => hq q h1 (fun e => e.elim h2 h3)) hL hAr hN hp (fun j hj => fstB_lt hj)
        have hI : Inv (addC S p9 k9 l9 a9 x9 (tripA S p9 (nI l9))) := hI.adC h30 hp hk hl9 (rng1 h1 h2) (fun j hj => fstB_lt hj)
        refine lv_pop hx hb dX6_charge_144 rfl ?_
        refine lv_aload_n hx hb dX6_charge_145 rfl (lv_at hl 2 rfl) ?_
        refine wcv_V (As := []) hx hb hml hown hC hl (c_X6_matchPairs l E hI) (rec_of hC (RA.x hR) rfl) (zm_X6_168 hC.1) kv_X6_matchPairs hR hS (fun q h => h.elim (fun w => (hgx.1 q w).imp id And.left) (fun w => Or.inr (Nat.le_trans hS.1 w))) rfl rfl (wD_le (by decide) (by decide)) (Nat.le_of_ble_eq_true rfl) ⟨Nat.le_of_ble_eq_true rfl, Nat.le_of_ble_eq_true rfl⟩ dX6_charge_146 (fun H1 locs1 hR hz hq hS => ?_)
        have hI : Inv (mpS (addC S p9 k9 l9 a9 x9 (tripA S p9 (nI l9)))) := hI.mp
        have hgx := hgx.mono hz
        refine lv_aload_n hx hb dX6_charge_149 rfl (lv_at hl 2 rfl) ?_
        refine wcv_V (As := []) hx hb hml hown hC hl (c_X6_passSteps l E hI) (rec_of hC (RA.x hR) rfl) (zm_X6_102 hC.1) kv_X6_passSteps hR hS (fun q h => h.elim (fun w => (hgx.1 q w).imp id And.left) (fun w => Or.inr (Nat.le_trans hS.1 w))) rfl rfl (wD_le (by decide) (by decide)) (Nat.le_of_ble_eq_true rfl) ⟨Nat.le_of_ble_eq_true rfl, Nat.le_of_ble_eq_true rfl⟩ dX6_charge_150 (fun H1 locs1 hR hz hq hS => ?_)
        have hI : Inv (passS (mpS (addC S p9 k9 l9 a9 x9 (tripA S p9 (nI l9))))) := hI.pS
        have hgx := hgx.mono hz
        refine lv_aload hx hb dX6_charge_153 (lv_at hl 0 rfl) ?_
        have hcN : S.nc < ((passS (mpS (addC S p9 k9 l9 a9 x9 (tripA S p9 (nI l9)))))).nc := by rw [passS_nc, mpS_nc]; exact Nat.lt_succ_self _
        have hN : va_at E.1 vwCl (s.heap.size, .inr (1, [.int (nI (S.nc)), .ref ((gAdd g 8 2 S.nc s.heap.size ea cp).ad 6 ((passS (mpS (addC S p9 k9 l9 a9 x9 (tripA S p9 (nI l9))))).cp (S.nc))), .int (nI ((passS (mpS (addC S p9 k9 l9 a9 x9 (tripA S p9 (nI l9))))).ck (S.nc))), .int (nI ((passS (mpS (addC S p9 k9 l9 a9 x9 (tripA S p9 (nI l9))))).cl (S.nc))), .int ((passS (mpS (addC S p9 k9 l9 a9 x9 (tripA S p9 (nI l9))))).ca (S.nc)), .int ((passS (mpS (addC S p9 k9 l9 a9 x9 (tripA S p9 (nI l9))))).cx (S.nc)), .int (nI ((passS (mpS (addC S p9 k9 l9 a9 x9 (tripA S p9 (nI l9))))).cd (S.nc))), va_rf (((passS (mpS (addC S p9 k9 l9 a9 x9 (tripA S p9 (nI l9))))).ct (S.nc)).map ((gAdd g 8 2 S.nc s.heap.size ea cp).ad 7)), .int ((passS (mpS (addC S p9 k9 l9 a9 x9 (tripA S p9 (nI l9))))).cs (S.nc)), va_rf (((passS (mpS (addC S p9 k9 l9 a9 x9 (tripA S p9 (nI l9))))).cr (S.nc)).map ((gAdd g 8 2 S.nc s.heap.size ea cp).ad 9)), .int (nI ((passS (mpS (addC S p9 k9 l9 a9 x9 (tripA S p9 (nI l9))))).ce (S.nc))), .int ((passS (mpS (addC S p9 k9 l9 a9 x9 (tripA S p9 (nI l9))))).cm (S.nc)), .int ((passS (mpS (addC S p9 k9 l9 a9 x9 (tripA S p9 (nI l9))))).sp (S.nc))])) H1 := by
          have h9 := RA.ch hR hcN
          rw [show (gAdd g 8 2 S.nc s.heap.size ea cp).ad 8 S.nc = s.heap.size from gAdd_new] at h9
          exact h9
        refine gf_X0_0_s hx hb hown hC hN (zf_X6_171 hC.1) dX6_charge_155 ?_
        exact wr_i hx hb hr hlocks hS ⟨⟨_, hR, hgx⟩, rfl⟩ (Nat.le_of_ble_eq_true rfl) (Nat.le_of_ble_eq_true rfl) dX6_charge_158
      · exact absurd hs2 c_82
  · exact absurd (nI_lt (b := 30) h30 (by decide)) c_41
set_option maxRecDepth 100000 in
set_option maxHeartbeats 4000000 in
theorem c_X6_wouldMatch (l : Launch) (E : EE) {S : St} {g : Gh} (hI : Inv S) {am dy tx : Int32} (h1 : ¬ am < 1) (h2 : ¬ 9999 < am) (h3 : ¬ dy < 0) (h4 : ¬ 119 < dy) (h5 : ¬ tx < 0) (h6 : ¬ 9 < tx) : WM l E yX6_wouldMatch cX6_wouldMatch 9 (some .int) (wD 6 1 5) [.ref (g.ad 1 0), .int (am), .int (dy), .int (tx)] (RA E S g) (ow g) (fun _ v H => RA E (S) g H ∧ v = some (.int (irI (wB S am dy tx S.nc).1))) := by
  refine wm_of rfl (Nat.le_of_ble_eq_true rfl) (fun p e s m below meth c ls hx hb hr hml (hown : s.vm.findClass RX6 = some m.cls) hC hlocks hR hl hini => ?_)
  have hS : va_S (fun q => ow g q ∨ s.heap.size ≤ q) s.heap s.heap [] := va_S.rf
  have hl : lv_has ls 9 [(0, .ref (g.ad 1 0)), (1, .int (am)), (2, .int (dy)), (3, .int (tx))] := hl
  refine lv_iload_n hx hb dX6_wouldMatch_0 rfl (lv_at hl 1 rfl) ?_
  refine lv_iload_n hx hb dX6_wouldMatch_1 rfl (lv_at hl 2 rfl) ?_
  refine lv_iload_n hx hb dX6_wouldMatch_2 rfl (lv_at hl 3 rfl) ?_
  refine rc_S0 (As := [.int (am), .int (dy), .int (tx)]) hx hb hml hown hC hl (c_X6_checkReceipt l E hI h1 h2 h3 h4 h5 h6) (zm_X6_172 hC.1) kv_X6_checkReceipt hR rfl rfl (rwD_le (by decide) (by decide)) ⟨rfl, rfl⟩ (Nat.le_of_ble_eq_true rfl) ⟨Nat.zero_le _, Nat.zero_le _⟩ dX6_wouldMatch_3 ?_
  have hfr := hR.fresh
  have haN := hR.eN_le
  have hlt3 := hR.a3lt (i := 3) (by decide)
  refine nw_X3 hx hb hown hC (zc_X6_177 hC.1) hS (Nat.le_of_ble_eq_true rfl) (Nat.le_of_ble_eq_true rfl) dX6_wouldMatch_6 (fun H1 hN hz hq hS => ?_)
  have hR := hR.kept (fun q h => hq q h)
  refine lv_dup hx hb dX6_wouldMatch_9 rfl ?_
  refine lv_aload_n hx hb dX6_wouldMatch_10 rfl (lv_at hl 0 rfl) ?_
  refine gf_X6_3 hx hb hown hC (RA.x hR) (zf_X6_22 hC.1) dX6_wouldMatch_11 ?_
  refine rc_V (As := []) hx hb hml hown hC hl (c_size l E _ _ _ _) (rec_of hC (RA.ls hR (by decide : 3 < 4)) rfl) (zm_X6_51 hC.1) kv_Jx4a65c_size_8abf5 (RA.ls hR (by decide : 3 < 4)) rfl rfl (rwD_le (by decide) (by decide)) ⟨rfl, rfl⟩ (Nat.le_of_ble_eq_true rfl) ⟨Nat.le_of_ble_eq_true rfl, Nat.le_of_ble_eq_true rfl⟩ dX6_wouldMatch_14 ?_
  refine lv_iload_n hx hb dX6_wouldMatch_17 rfl (lv_at hl 1 rfl) ?_
  refine lv_iload_n hx hb dX6_wouldMatch_18 rfl (lv_at hl 2 rfl) ?_
  refine lv_iload_n hx hb dX6_wouldMatch_19 rfl (lv_at hl 3 rfl) ?_
  refine wcv_I (As := [.int (nI (S.nr)), .int (am), .int (dy), .int (tx)]) hx hb hml hown hC hl (c_X3_init l E (q9 := s.heap.size) (n9 := nI (S.nr)) (a9 := am) (b9 := dy) (c9 := tx)) (zm_X6_179 hC.1) kv_X3_init hN hS (fun q h => h.elim (fun e => e ▸ (Or.inr (Nat.le_refl _))) (fun e => Or.inr (Nat.le_trans hS.1 e))) rfl rfl (wD_le (by decide) (by decide)) (Nat.le_of_ble_eq_true rfl) ⟨Nat.le_of_ble_eq_true rfl, Nat.le_of_ble_eq_true rfl⟩ dX6_wouldMatch_20 (fun H1 locs1 hO9 hz hq hS => ?_)
  have hN := hO9
  have hR := hR.kept1 hfr haN (fun q h1 h2 => hq q h1 h2)
  refine lv_astore (lv' := [(4, .ref (s.heap.size)), (0, .ref (g.ad 1 0)), (1, .int (am)), (2, .int (dy)), (3, .int (tx))]) hx hb dX6_wouldMatch_23 hl (by decide) rfl (fun ls hl => ?_)
  refine lv_null hx hb dX6_wouldMatch_25 ?_
  refine lv_astoreN (lv' := [(5, .null), (4, .ref (s.heap.size)), (0, .ref (g.ad 1 0)), (1, .int (am)), (2, .int (dy)), (3, .int (tx))]) hx hb dX6_wouldMatch_26 hl (by decide) rfl (fun ls hl => ?_)
  refine lv_iconst (v := (-1)) hx hb dX6_wouldMatch_28 (by decide) ?_
  refine lv_istore (lv' := [(6, .int ((-1))), (5, .null), (4, .ref (s.heap.size)), (0, .ref (g.ad 1 0)), (1, .int (am)), (2, .int (dy)), (3, .int (tx))]) hx hb dX6_wouldMatch_29 hl (by decide) rfl (fun ls hl => ?_)
  refine lv_iconst (v := 0) hx hb dX6_wouldMatch_31 (by decide) ?_
  refine lv_istore (lv' := [(7, .int (0)), (6, .int ((-1))), (5, .null), (4, .ref (s.heap.size)), (0, .ref (g.ad 1 0)), (1, .int (am)), (2, .int (dy)), (3, .int (tx))]) hx hb dX6_wouldMatch_32 hl (by decide) rfl (fun ls hl => ?_)
  have loop34 : ∀ (r34 i : Nat), i + r34 = S.nc → ∀ ls, lv_has ls 9 [(7, .int (nI (i))), (6, .int ((wB S am dy tx i).2)), (5, va_rf (((wB S am dy tx i).1).map (g.ad 8))), (4, .ref (s.heap.size)), (0, .ref (g.ad 1 0)), (1, .int (am)), (2, .int (dy)), (3, .int (tx))] → W p l e (wD 6 1 5) s m ([.ref (g.ad 1 0), .int (am), .int (dy), .int (tx)] : List Value).toArray below meth c H1 locs1 1 5 (MQ below (WQ (ow g) s.heap.size (fun v H => RA E (S) g H ∧ v = some (.int (irI (wB S am dy tx S.nc).1)))) ([.ref (g.ad 1 0), .int (am), .int (dy), .int (tx)] : List Value).toArray s (wD 6 1 5).cells (wD 6 1 5).slots (fun q => ow g q ∨ s.heap.size ≤ q)) (F0 m 34 ls []) := by
    intro r34
    induction r34 with
    | zero =>
      intro i hE34 ls hl
      have hN34 : i = S.nc := by omega
      subst hN34
      refine lv_iload hx hb dX6_wouldMatch_34 (lv_at hl 0 rfl) ?_
      refine lv_aload_n hx hb dX6_wouldMatch_36 rfl (lv_at hl 4 rfl) ?_
      refine gf_X6_2 hx hb hown hC (RA.x hR) (zf_X6_19 hC.1) dX6_wouldMatch_37 ?_
      refine rc_V (As := []) hx hb hml hown hC hl (c_size l E _ _ _ _) (rec_of hC (RA.ls hR (by decide : 2 < 4)) rfl) (zm_X6_51 hC.1) kv_Jx4a65c_size_8abf5 (RA.ls hR (by decide : 2 < 4)) rfl rfl (rwD_le (by decide) (by decide)) ⟨rfl, rfl⟩ (Nat.le_of_ble_eq_true rfl) ⟨Nat.le_of_ble_eq_true rfl, Nat.le_of_ble_eq_true rfl⟩ dX6_wouldMatch_40 ?_
      refine lv_icmp_ge (tgt := 101) hx hb dX6_wouldMatch_43 (by decide) (fun c_43 => ?_) (fun c_43 => ?_)
      ·
        refine lw_aload hx hb dX6_wouldMatch_101 (lv_at hl 2 rfl) ?_
        refine rc_S (As := [va_rf (((wB S am dy tx S.nc).1).map (g.ad 8))]) hx hb hml hown hC hl (c_X6_numberOf8 l E hI ((wB S am dy tx S.nc).1) (fun j h => (wB_lt h))) (zm_X6_119 hC.1) kv_X6_numberOf hR rfl rfl (rwD_le (by decide) (by decide)) ⟨rfl, rfl⟩ (Nat.le_of_ble_eq_true rfl) ⟨Nat.le_of_ble_eq_true rfl, Nat.le_of_ble_eq_true rfl⟩ dX6_wouldMatch_103 ?_
        exact wr_i hx hb hr hlocks hS ⟨hR, rfl⟩ (Nat.le_of_ble_eq_true rfl) (Nat.le_of_ble_eq_true rfl) dX6_wouldMatch_106
      · exact absurd (Int32.le_refl _) c_43
    | succ r34 ih34 =>
      intro i hE34 ls hl
      have hlt34 : i < S.nc := by omega
      refine lv_iload hx hb dX6_wouldMatch_34 (lv_at hl 0 rfl) ?_
      refine lv_aload_n hx hb dX6_wouldMatch_36 rfl (lv_at hl 4 rfl) ?_
      refine gf_X6_2 hx hb hown hC (RA.x hR) (zf_X6_19 hC.1) dX6_wouldMatch_37 ?_
      refine rc_V (As := []) hx hb hml hown hC hl (c_size l E _ _ _ _) (rec_of hC (RA.ls hR (by decide : 2 < 4)) rfl) (zm_X6_51 hC.1) kv_Jx4a65c_size_8abf5 (RA.ls hR (by decide : 2 < 4)) rfl rfl (rwD_le (by decide) (by decide)) ⟨rfl, rfl⟩ (Nat.le_of_ble_eq_true rfl) ⟨Nat.le_of_ble_eq_true rfl, Nat.le_of_ble_eq_true rfl⟩ dX6_wouldMatch_40 ?_
      refine lv_icmp_ge (tgt := 101) hx hb dX6_wouldMatch_43 (by decide) (fun c_43 => ?_) (fun c_43 => ?_)
      · exact absurd c_43 (nI_ge hlt34 hI.nc31)
      ·
        refine lv_aload_n hx hb dX6_wouldMatch_46 rfl (lv_at hl 4 rfl) ?_
        refine gf_X6_2 hx hb hown hC (RA.x hR) (zf_X6_19 hC.1) dX6_wouldMatch_47 ?_
        refine lv_iload hx hb dX6_wouldMatch_50 (lv_at hl 0 rfl) ?_
        refine rc_V (As := [.int (nI (i))]) hx hb hml hown hC hl (c_getL l E 2 rfl hR (by decide) hlt34) (rec_of hC (RA.ls hR (by decide : 2 < 4)) rfl) (zm_X6_253 hC.1) kv_Jx4a65c_get_915e3 (RA.gp hR 2 (by decide) hlt34) rfl rfl (rwD_le (by decide) (by decide)) ⟨rfl, rfl⟩ (Nat.le_of_ble_eq_true rfl) ⟨Nat.le_of_ble_eq_true rfl, Nat.le_of_ble_eq_true rfl⟩ dX6_wouldMatch_52 ?_
        refine g_cast hx hb hown hC (RA.ch hR hlt34) rfl (zc_X6_155 hC.1) dX6_wouldMatch_55 ?_
        refine lv_astore (lv' := [(8, .ref (g.ad 8 (i))), (7, .int (nI (i))), (6, .int ((wB S am dy tx i).2)), (5, va_rf (((wB S am dy tx i).1).map (g.ad 8))), (4, .ref (s.heap.size)), (0, .ref (g.ad 1 0)), (1, .int (am)), (2, .int (dy)), (3, .int (tx))]) hx hb dX6_wouldMatch_58 hl (by decide) rfl (fun ls hl => ?_)
        refine lv_aload hx hb dX6_wouldMatch_60 (lv_at hl 0 rfl) ?_
        refine lv_aload hx hb dX6_wouldMatch_62 (lv_at hl 4 rfl) ?_
        refine rc_S (As := [.ref (g.ad 8 (i)), .ref (s.heap.size)]) hx hb hml hown hC hl (c_X6_goTogether l E hI hlt34 (s.heap.size) (nI S.nr) (am) (dy) (tx) (none)) (zm_X6_278 hC.1) kv_X6_goTogether ⟨hR, hN⟩ rfl rfl (rwD_le (by decide) (by decide)) ⟨rfl, rfl⟩ (Nat.le_of_ble_eq_true rfl) ⟨Nat.le_of_ble_eq_true rfl, Nat.le_of_ble_eq_true rfl⟩ dX6_wouldMatch_64 ?_
        refine lv_if_eq (tgt := 95) hx hb dX6_wouldMatch_67 (by decide) (fun c_67 => ?_) (fun c_67 => ?_)
        ·
          refine lv_iinc (v := nI (i) + 1) (lv' := [(7, .int (nI (i) + 1)), (8, .ref (g.ad 8 (i))), (6, .int ((wB S am dy tx i).2)), (5, va_rf (((wB S am dy tx i).1).map (g.ad 8))), (4, .ref (s.heap.size)), (0, .ref (g.ad 1 0)), (1, .int (am)), (2, .int (dy)), (3, .int (tx))]) hx hb dX6_wouldMatch_95 hl (k := 1) rfl rfl (by decide) rfl (fun ls hl => ?_)
          refine lv_goto (tgt := 34) hx hb dX6_wouldMatch_98 (by decide) ?_
          refine ih34 (i + 1) (by omega) ls ?_
          rw [nI_succ i, wB_a c_67]
          exact lv_sub hl [0, 2, 3, 4, 5, 6, 7, 8] rfl
        ·
          refine lv_aload hx hb dX6_wouldMatch_70 (lv_at hl 0 rfl) ?_
          refine lv_aload hx hb dX6_wouldMatch_72 (lv_at hl 4 rfl) ?_
          refine rc_S (As := [.ref (g.ad 8 (i)), .ref (s.heap.size)]) hx hb hml hown hC hl (c_X6_scoreOf l E hI hlt34 (s.heap.size) (nI S.nr) (am) (dy) (tx) (none)) (zm_X6_247 hC.1) kv_X6_scoreOf ⟨hR, hN⟩ rfl rfl (rwD_le (by decide) (by decide)) ⟨rfl, rfl⟩ (Nat.le_of_ble_eq_true rfl) ⟨Nat.le_of_ble_eq_true rfl, Nat.le_of_ble_eq_true rfl⟩ dX6_wouldMatch_74 ?_
          refine lv_iload hx hb dX6_wouldMatch_77 (lv_at hl 2 rfl) ?_
          refine lv_icmp_le (tgt := 95) hx hb dX6_wouldMatch_79 (by decide) (fun c_79 => ?_) (fun c_79 => ?_)
          ·
            refine lv_iinc (v := nI (i) + 1) (lv' := [(7, .int (nI (i) + 1)), (8, .ref (g.ad 8 (i))), (6, .int ((wB S am dy tx i).2)), (5, va_rf (((wB S am dy tx i).1).map (g.ad 8))), (4, .ref (s.heap.size)), (0, .ref (g.ad 1 0)), (1, .int (am)), (2, .int (dy)), (3, .int (tx))]) hx hb dX6_wouldMatch_95 hl (k := 1) rfl rfl (by decide) rfl (fun ls hl => ?_)
            refine lv_goto (tgt := 34) hx hb dX6_wouldMatch_98 (by decide) ?_
            refine ih34 (i + 1) (by omega) ls ?_
            rw [nI_succ i, wB_b c_67 c_79]
            exact lv_sub hl [0, 2, 3, 4, 5, 6, 7, 8] rfl
          ·
            refine lv_aload hx hb dX6_wouldMatch_82 (lv_at hl 0 rfl) ?_
            refine lv_astore (lv' := [(5, .ref (g.ad 8 (i))), (8, .ref (g.ad 8 (i))), (7, .int (nI (i))), (6, .int ((wB S am dy tx i).2)), (4, .ref (s.heap.size)), (0, .ref (g.ad 1 0)), (1, .int (am)), (2, .int (dy)), (3, .int (tx))]) hx hb dX6_wouldMatch_84 hl (by decide) rfl (fun ls hl => ?_)
            refine lv_aload hx hb dX6_wouldMatch_86 (lv_at hl 1 rfl) ?_
            refine lv_aload hx hb dX6_wouldMatch_88 (lv_at hl 4 rfl) ?_
            refine rc_S (As := [.ref (g.ad 8 (i)), .ref (s.heap.size)]) hx hb hml hown hC hl (c_X6_scoreOf l E hI hlt34 (s.heap.size) (nI S.nr) (am) (dy) (tx) (none)) (zm_X6_247 hC.1) kv_X6_scoreOf ⟨hR, hN⟩ rfl rfl (rwD_le (by decide) (by decide)) ⟨rfl, rfl⟩ (Nat.le_of_ble_eq_true rfl) ⟨Nat.le_of_ble_eq_true rfl, Nat.le_of_ble_eq_true rfl⟩ dX6_wouldMatch_90 ?_
            refine lv_istore (lv' := [(6, .int (scA S (i) (am) (dy) (tx))), (5, .ref (g.ad 8 (i))), (8, .ref (g.ad 8 (i))), (7, .int (nI (i))), (4, .ref (s.heap.size)), (0, .ref (g.ad 1 0)), (1, .int (am)), (2, .int (dy)), (3, .int (tx))]) hx hb dX6_wouldMatch_93 hl (by decide) rfl (fun ls hl => ?_)
            refine lv_iinc (v := nI (i) + 1) (lv' := [(7, .int (nI (i) + 1)), (6, .int (scA S (i) (am) (dy) (tx))), (5, .ref (g.ad 8 (i))), (8, .ref (g.ad 8 (i))), (4, .ref (s.heap.size)), (0, .ref (g.ad 1 0)), (1, .int (am)), (2, .int (dy)), (3, .int (tx))]) hx hb dX6_wouldMatch_95 hl (k := 3) rfl rfl (by decide) rfl (fun ls hl => ?_)
            refine lv_goto (tgt := 34) hx hb dX6_wouldMatch_98 (by decide) ?_
            refine ih34 (i + 1) (by omega) ls ?_
            rw [nI_succ i, wB_c c_67 c_79]
            exact lv_sub hl [0, 1, 2, 4, 5, 6, 7, 8] rfl
  exact loop34 (S.nc) 0 (by omega) ls (lv_sub hl [0, 1, 2, 3, 4, 5, 6, 7] rfl)

