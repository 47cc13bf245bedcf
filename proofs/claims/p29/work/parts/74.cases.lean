section LAWs
variable {p : Program} {l : Launch} {e : Env} {s : State} {m : MethodId} {args : Array Value} {below : List Frame} {meth : Method} {c : Code} {H : Heap} {locs : List Loc} {cells slots : Nat} {Q : State → Prop}
variable {ls : Array Slot} {E : EE} {b L : Nat} {xs : Nat → Int32} {S : St} {g : Gh} {x1 sa : Nat} {f : Nat → Int32} {P i pe ki : Nat} {x ch : Int32}
set_option maxRecDepth 100000 in
set_option maxHeartbeats 4000000 in
theorem law_c5 (hLC : LC p s m c E b L xs) (hF : Fine S) (hFR : FR S f) (hP : S.np = P) (hP0 : 0 < P) (hPs : P < 2 ^ 20) (hPn : P < 2 ^ 20) (hpe : pe < P) (hki : ki < 2) (hLI : LI E S g x1 [(sa, 30, f)] H) (hS : va_S (LA s) s.heap H locs) (hl : lv_has ls 24 ((10, .int (nI S.td)) :: (9, .int (nI ki)) :: (8, .int (nI pe)) :: (7, .int ch) :: (6, .int (nI S.nc)) :: (5, .int x) :: LV b x1 P sa i)) (hcs : cells + 10 ≤ 682005 ∧ slots + 300 ≤ 7055682) (kk : KT p l e s m args below meth c Q E b x1 P sa i cells slots) : W p l e room_1 s m args below meth c H locs cells slots Q (F0 m 776 ls []) := by
  obtain ⟨hx, hb, hml, hown, hY, hX0, hX, hbl, hN, hL⟩ := id hLC
  have hC : CX E s := hY.1
  refine lv_iload hx hb dL_law_776 (lv_at hl 5 rfl) ?_
  refine lv_iconst (v := 2) hx hb dL_law_778 (by decide) ?_
  refine lv_ishr hx hb dL_law_779 ?_
  refine lv_iload_n hx hb dL_law_780 rfl (lv_at hl 8 rfl) ?_
  refine wl_below (n := P) hLC hl hP0 hPs (Nat.le_of_ble_eq_true rfl) ⟨by omega, by omega⟩ dL_law_781 ?_
  refine lv_istore (lv' := [(20, .int (nI (belN ((x) >>> ((2) &&& 31)) P))), (10, .int (nI S.td)), (9, .int (nI ki)), (8, .int (nI pe)), (7, .int (ch)), (6, .int (nI S.nc)), (5, .int (x)), (4, .int (nI i)), (3, .ref (sa)), (2, .int (nI P)), (1, .ref (x1)), (0, .ref (b))]) hx hb dL_law_784 hl (by decide) rfl (fun ls hl => ?_)
  refine lv_aload_n hx hb dL_law_786 rfl (lv_at hl 10 rfl) ?_
  refine lv_iload hx hb dL_law_787 (lv_at hl 3 rfl) ?_
  refine lv_iconst (v := 3) hx hb dL_law_789 (by decide) ?_
  refine wl_rd (As := [.int (nI pe), .int (3)]) hLC hLI hl (c_X6_ofPerson l E hF.1.1 (p9 := pe) (by omega) (w9 := 3) (by decide)) (zm_L_87 hC.1) kv_X6_ofPerson rfl rfl ⟨Nat.le_of_ble_eq_true rfl, Nat.le_of_ble_eq_true rfl⟩ ⟨rfl, rfl⟩ (Nat.le_of_ble_eq_true rfl) ⟨by omega, by omega⟩ dL_law_790 ?_
  rcases away_01 (S := S) (p := pe) (d := nI S.td) with haw | haw
  ·
    rw [show ofPersonA S pe 3 = 0 from if_pos haw]
    refine lv_iconst (v := 1) hx hb dL_law_793 (by decide) ?_
    refine lv_icmp_ne (tgt := 801) hx hb dL_law_794 (by decide) (fun c_794 => ?_) (fun c_794 => ?_)
    ·
      refine lv_iconst (v := 0) hx hb dL_law_801 (by decide) ?_
      refine lv_istore (lv' := [(21, .int (0)), (20, .int (nI (belN ((x) >>> ((2) &&& 31)) P))), (10, .int (nI S.td)), (9, .int (nI ki)), (8, .int (nI pe)), (7, .int (ch)), (6, .int (nI S.nc)), (5, .int (x)), (4, .int (nI i)), (3, .ref (sa)), (2, .int (nI P)), (1, .ref (x1)), (0, .ref (b))]) hx hb dL_law_802 hl (by decide) rfl (fun ls hl => ?_)
      refine lv_iload hx hb dL_law_804 (lv_at hl 1 rfl) ?_
      refine lv_iload hx hb dL_law_806 (lv_at hl 4 rfl) ?_
      refine lv_icmp_eq (tgt := 970) hx hb dL_law_808 (by decide) (fun c_808 => ?_) (fun c_808 => ?_)
      ·
        exact kk S _ _ _ _ ls _ _ hF hFR hP hLI hS (lv_sub hl [8, 9, 10, 11, 12] rfl) ⟨by omega, by omega⟩
      ·
        refine lv_aload_n hx hb dL_law_811 rfl (lv_at hl 11 rfl) ?_
        refine lv_iload hx hb dL_law_812 (lv_at hl 4 rfl) ?_
        refine lv_bipush (v := 119) hx hb dL_law_814 (by decide) ?_
        refine lv_iload hx hb dL_law_816 (lv_at hl 2 rfl) ?_
        refine lv_iload hx hb dL_law_818 (lv_at hl 7 rfl) ?_
        refine lv_iconst (v := 5) hx hb dL_law_820 (by decide) ?_
        refine lv_ishr hx hb dL_law_821 ?_
        refine lv_bipush (v := 6) hx hb dL_law_822 (by decide) ?_
        refine wl_below (n := 6) hLC hl (by decide) (by decide) (Nat.le_of_ble_eq_true rfl) ⟨by omega, by omega⟩ dL_law_824 ?_
        refine lv_iadd hx hb dL_law_827 ?_
        refine va_mmin hx hb (hml.trans hl.1.symm) hown (zm_L_49 hC.1) (ztm_min hC.1) (znm hC.1) (zkm_min hC.1) (Nat.le_of_ble_eq_true rfl) (Nat.le_of_ble_eq_true rfl) (by show _ ≤ 682005; omega) (by show _ ≤ 7055682; omega) dL_law_828 ?_
        obtain ⟨dy, ⟨hd1, hd2⟩, -, ed⟩ := of_dy (d := S.td) (j := belN ((x) >>> ((5) &&& 31)) 6) hF.1.1.td (belN_lt (by decide) (by decide))
        have ed2 : (if nI S.td + nI (belN ((x) >>> ((5) &&& 31)) 6) < 119 then nI S.td + nI (belN ((x) >>> ((5) &&& 31)) 6) else 119) = dy := ed
        rw [ed2]
        refine lv_iload hx hb dL_law_831 (lv_at hl 1 rfl) ?_
        refine wl_wr (S' := awayS S pe dy (belN ((x) >>> ((2) &&& 31)) P)) (As := [.int (nI pe), .int (dy), .int (nI (belN ((x) >>> ((2) &&& 31)) P))]) hLC hLI hS hl (wm_A (c_X6_away l E hF.1.1 (p9 := pe) (by omega) (o9 := belN ((x) >>> ((2) &&& 31)) P) (by rw [hP]; exact (belN_lt hP0 hPs)) (fun q => c_808 (by rw [q])) (v9 := dy) hd1 hd2)) (zm_L_90 hC.1) kv_X6_away rfl rfl ⟨Nat.le_of_ble_eq_true rfl, Nat.le_of_ble_eq_true rfl⟩ ⟨Nat.le_of_ble_eq_true rfl, Nat.le_of_ble_eq_true rfl⟩ (Nat.le_of_ble_eq_true rfl) ⟨by omega, by omega⟩ dL_law_833 (fun g H locs hLI hS => ?_)
        rw [haw]
        have hFR := fr_away hFR (p := pe) (o := belN ((x) >>> ((2) &&& 31)) P) (v := dy)
        have hP9 := hP
        have hP : (awayS S pe dy (belN ((x) >>> ((2) &&& 31)) P)).np = P := (show (awayS S pe dy (belN ((x) >>> ((2) &&& 31)) P)).np = S.np from nb_pass.1).trans hP
        have hF := fine_away hF (p := pe) (o := belN ((x) >>> ((2) &&& 31)) P) (v := dy) (by rw [hP9]; exact (belN_lt hP0 hPs)) hd1 hd2
        refine lv_iload hx hb dL_law_836 (lv_at hl 0 rfl) ?_
        refine lv_icmp_eq (tgt := 970) hx hb dL_law_838 (by decide) (fun c_838 => ?_) (fun c_838 => ?_)
        ·
          exact kk (awayS S pe dy (belN ((x) >>> ((2) &&& 31)) P)) _ _ _ _ ls _ _ hF hFR hP hLI hS (lv_sub hl [8, 9, 10, 11, 12] rfl) ⟨by omega, by omega⟩
        · exact absurd (by decide) c_838
    · exact absurd c_794 (by decide)
  ·
    rw [show ofPersonA S pe 3 = 1 from if_neg (by rw [haw]; decide)]
    refine lv_iconst (v := 1) hx hb dL_law_793 (by decide) ?_
    refine lv_icmp_ne (tgt := 801) hx hb dL_law_794 (by decide) (fun c_794 => ?_) (fun c_794 => ?_)
    · exact absurd (by decide) c_794
    ·
      refine lv_iconst (v := 1) hx hb dL_law_797 (by decide) ?_
      refine lv_goto (tgt := 802) hx hb dL_law_798 (by decide) ?_
      refine lv_istore (lv' := [(21, .int (1)), (20, .int (nI (belN ((x) >>> ((2) &&& 31)) P))), (10, .int (nI S.td)), (9, .int (nI ki)), (8, .int (nI pe)), (7, .int (ch)), (6, .int (nI S.nc)), (5, .int (x)), (4, .int (nI i)), (3, .ref (sa)), (2, .int (nI P)), (1, .ref (x1)), (0, .ref (b))]) hx hb dL_law_802 hl (by decide) rfl (fun ls hl => ?_)
      refine lv_iload hx hb dL_law_804 (lv_at hl 1 rfl) ?_
      refine lv_iload hx hb dL_law_806 (lv_at hl 4 rfl) ?_
      refine lv_icmp_eq (tgt := 970) hx hb dL_law_808 (by decide) (fun c_808 => ?_) (fun c_808 => ?_)
      ·
        exact kk S _ _ _ _ ls _ _ hF hFR hP hLI hS (lv_sub hl [8, 9, 10, 11, 12] rfl) ⟨by omega, by omega⟩
      ·
        refine lv_aload_n hx hb dL_law_811 rfl (lv_at hl 11 rfl) ?_
        refine lv_iload hx hb dL_law_812 (lv_at hl 4 rfl) ?_
        refine lv_bipush (v := 119) hx hb dL_law_814 (by decide) ?_
        refine lv_iload hx hb dL_law_816 (lv_at hl 2 rfl) ?_
        refine lv_iload hx hb dL_law_818 (lv_at hl 7 rfl) ?_
        refine lv_iconst (v := 5) hx hb dL_law_820 (by decide) ?_
        refine lv_ishr hx hb dL_law_821 ?_
        refine lv_bipush (v := 6) hx hb dL_law_822 (by decide) ?_
        refine wl_below (n := 6) hLC hl (by decide) (by decide) (Nat.le_of_ble_eq_true rfl) ⟨by omega, by omega⟩ dL_law_824 ?_
        refine lv_iadd hx hb dL_law_827 ?_
        refine va_mmin hx hb (hml.trans hl.1.symm) hown (zm_L_49 hC.1) (ztm_min hC.1) (znm hC.1) (zkm_min hC.1) (Nat.le_of_ble_eq_true rfl) (Nat.le_of_ble_eq_true rfl) (by show _ ≤ 682005; omega) (by show _ ≤ 7055682; omega) dL_law_828 ?_
        obtain ⟨dy, ⟨hd1, hd2⟩, -, ed⟩ := of_dy (d := S.td) (j := belN ((x) >>> ((5) &&& 31)) 6) hF.1.1.td (belN_lt (by decide) (by decide))
        have ed2 : (if nI S.td + nI (belN ((x) >>> ((5) &&& 31)) 6) < 119 then nI S.td + nI (belN ((x) >>> ((5) &&& 31)) 6) else 119) = dy := ed
        rw [ed2]
        refine lv_iload hx hb dL_law_831 (lv_at hl 1 rfl) ?_
        refine wl_wr (S' := awayS S pe dy (belN ((x) >>> ((2) &&& 31)) P)) (As := [.int (nI pe), .int (dy), .int (nI (belN ((x) >>> ((2) &&& 31)) P))]) hLC hLI hS hl (wm_A (c_X6_away l E hF.1.1 (p9 := pe) (by omega) (o9 := belN ((x) >>> ((2) &&& 31)) P) (by rw [hP]; exact (belN_lt hP0 hPs)) (fun q => c_808 (by rw [q])) (v9 := dy) hd1 hd2)) (zm_L_90 hC.1) kv_X6_away rfl rfl ⟨Nat.le_of_ble_eq_true rfl, Nat.le_of_ble_eq_true rfl⟩ ⟨Nat.le_of_ble_eq_true rfl, Nat.le_of_ble_eq_true rfl⟩ (Nat.le_of_ble_eq_true rfl) ⟨by omega, by omega⟩ dL_law_833 (fun g H locs hLI hS => ?_)
        rw [haw]
        have hFR := fr_away hFR (p := pe) (o := belN ((x) >>> ((2) &&& 31)) P) (v := dy)
        have hP9 := hP
        have hP : (awayS S pe dy (belN ((x) >>> ((2) &&& 31)) P)).np = P := (show (awayS S pe dy (belN ((x) >>> ((2) &&& 31)) P)).np = S.np from nb_pass.1).trans hP
        have hF := fine_away hF (p := pe) (o := belN ((x) >>> ((2) &&& 31)) P) (v := dy) (by rw [hP9]; exact (belN_lt hP0 hPs)) hd1 hd2
        refine lv_iload hx hb dL_law_836 (lv_at hl 0 rfl) ?_
        refine lv_icmp_eq (tgt := 970) hx hb dL_law_838 (by decide) (fun c_838 => ?_) (fun c_838 => ?_)
        ·
          exact kk (awayS S pe dy (belN ((x) >>> ((2) &&& 31)) P)) _ _ _ _ ls _ _ hF hFR hP hLI hS (lv_sub hl [8, 9, 10, 11, 12] rfl) ⟨by omega, by omega⟩
        · exact absurd (by decide) c_838
theorem set_np {S : St} {c : Nat} {b : Int32} : (settleS S c b).np = S.np := by
  unfold settleS
  split <;> exact nb_pass.1
set_option maxRecDepth 100000 in
set_option maxHeartbeats 4000000 in
theorem law_cd (hLC : LC p s m c E b L xs) (hF : Fine S) (hFR : FR S f) (hP : S.np = P) (hP0 : 0 < P) (hPs : P < 2 ^ 20) (hPn : P < 2 ^ 20) (hpe : pe < P) (hki : ki < 2) (hLI : LI E S g x1 [(sa, 30, f)] H) (hS : va_S (LA s) s.heap H locs) (hch : ch = -1 ∨ ∃ k, k < S.nc ∧ ch = nI k) (hl : lv_has ls 24 ((10, .int (nI S.td)) :: (9, .int (nI ki)) :: (8, .int (nI pe)) :: (7, .int ch) :: (6, .int (nI S.nc)) :: (5, .int x) :: LV b x1 P sa i)) (hcs : cells + 10 ≤ 682005 ∧ slots + 300 ≤ 7055682) (kk : KT p l e s m args below meth c Q E b x1 P sa i cells slots) : W p l e room_1 s m args below meth c H locs cells slots Q (F0 m 843 ls []) := by
  obtain ⟨hx, hb, hml, hown, hY, hX0, hX, hbl, hN, hL⟩ := id hLC
  have hC : CX E s := hY.1
  rcases hch with rfl | ⟨k, hk, rfl⟩
  ·
    refine lv_iload hx hb dL_law_843 (lv_at hl 3 rfl) ?_
    refine lv_if_ge (tgt := 852) hx hb dL_law_845 (by decide) (fun c_845 => ?_) (fun c_845 => ?_)
    · exact absurd c_845 (by decide)
    ·
      refine lv_iconst (v := (-1)) hx hb dL_law_848 (by decide) ?_
      refine lv_goto (tgt := 860) hx hb dL_law_849 (by decide) ?_
      refine lv_istore (lv' := [(22, .int ((-1))), (10, .int (nI S.td)), (9, .int (nI ki)), (8, .int (nI pe)), (7, .int ((-1))), (6, .int (nI S.nc)), (5, .int (x)), (4, .int (nI i)), (3, .ref (sa)), (2, .int (nI P)), (1, .ref (x1)), (0, .ref (b))]) hx hb dL_law_860 hl (by decide) rfl (fun ls hl => ?_)
      refine lv_iload hx hb dL_law_862 (lv_at hl 0 rfl) ?_
      refine lv_if_ge (tgt := 870) hx hb dL_law_864 (by decide) (fun c_864 => ?_) (fun c_864 => ?_)
      · exact absurd c_864 (by decide)
      ·
        refine lv_goto (tgt := 970) hx hb dL_law_867 (by decide) ?_
        exact kk S _ _ _ _ ls _ _ hF hFR hP hLI hS (lv_sub hl [7, 8, 9, 10, 11] rfl) ⟨by omega, by omega⟩
  ·
    refine lv_iload hx hb dL_law_843 (lv_at hl 3 rfl) ?_
    refine lv_if_ge (tgt := 852) hx hb dL_law_845 (by decide) (fun c_845 => ?_) (fun c_845 => ?_)
    ·
      refine lv_aload_n hx hb dL_law_852 rfl (lv_at hl 9 rfl) ?_
      refine lv_iload hx hb dL_law_853 (lv_at hl 3 rfl) ?_
      refine lv_bipush (v := 10) hx hb dL_law_855 (by decide) ?_
      refine wl_rd (As := [.int (nI k), .int (10)]) hLC hLI hl (c_X6_ofCharge l E hF.1.1 (c9 := k) hk (w9 := 10) (by decide)) (zm_L_62 hC.1) kv_X6_ofCharge rfl rfl ⟨Nat.le_of_ble_eq_true rfl, Nat.le_of_ble_eq_true rfl⟩ ⟨rfl, rfl⟩ (Nat.le_of_ble_eq_true rfl) ⟨by omega, by omega⟩ dL_law_857 ?_
      rcases hap : apprA S k with _ | b9
      ·
        rw [show ofChargeA S k 10 = (-1 : Int32) from congrArg irI hap]
        refine lv_istore (lv' := [(22, .int ((-1))), (10, .int (nI S.td)), (9, .int (nI ki)), (8, .int (nI pe)), (7, .int (nI k)), (6, .int (nI S.nc)), (5, .int (x)), (4, .int (nI i)), (3, .ref (sa)), (2, .int (nI P)), (1, .ref (x1)), (0, .ref (b))]) hx hb dL_law_860 hl (by decide) rfl (fun ls hl => ?_)
        refine lv_iload hx hb dL_law_862 (lv_at hl 0 rfl) ?_
        refine lv_if_ge (tgt := 870) hx hb dL_law_864 (by decide) (fun c_864 => ?_) (fun c_864 => ?_)
        · exact absurd c_864 (by decide)
        ·
          refine lv_goto (tgt := 970) hx hb dL_law_867 (by decide) ?_
          exact kk S _ _ _ _ ls _ _ hF hFR hP hLI hS (lv_sub hl [7, 8, 9, 10, 11] rfl) ⟨by omega, by omega⟩
      ·
        rw [show ofChargeA S k 10 = nI b9 from congrArg irI hap]
        refine lv_istore (lv' := [(22, .int (nI b9)), (10, .int (nI S.td)), (9, .int (nI ki)), (8, .int (nI pe)), (7, .int (nI k)), (6, .int (nI S.nc)), (5, .int (x)), (4, .int (nI i)), (3, .ref (sa)), (2, .int (nI P)), (1, .ref (x1)), (0, .ref (b))]) hx hb dL_law_860 hl (by decide) rfl (fun ls hl => ?_)
        refine lv_iload hx hb dL_law_862 (lv_at hl 0 rfl) ?_
        refine lv_if_ge (tgt := 870) hx hb dL_law_864 (by decide) (fun c_864 => ?_) (fun c_864 => ?_)
        ·
          refine lv_iload hx hb dL_law_870 (lv_at hl 6 rfl) ?_
          refine lv_iconst (v := 2) hx hb dL_law_872 (by decide) ?_
          refine lv_ishr hx hb dL_law_873 ?_
          refine lv_bipush (v := 6) hx hb dL_law_874 (by decide) ?_
          refine wl_below (n := 6) hLC hl (by decide) (by decide) (Nat.le_of_ble_eq_true rfl) ⟨by omega, by omega⟩ dL_law_876 ?_
          refine lv_if_ne (tgt := 927) hx hb dL_law_879 (by decide) (fun c_879 => ?_) (fun c_879 => ?_)
          ·
            refine lv_aload_n hx hb dL_law_927 rfl (lv_at hl 10 rfl) ?_
            refine lv_iload hx hb dL_law_928 (lv_at hl 4 rfl) ?_
            refine lv_bipush (v := 9) hx hb dL_law_930 (by decide) ?_
            refine wl_rd (As := [.int (nI k), .int (9)]) hLC hLI hl (c_X6_ofCharge l E hF.1.1 (c9 := k) hk (w9 := 9) (by decide)) (zm_L_62 hC.1) kv_X6_ofCharge rfl rfl ⟨Nat.le_of_ble_eq_true rfl, Nat.le_of_ble_eq_true rfl⟩ ⟨rfl, rfl⟩ (Nat.le_of_ble_eq_true rfl) ⟨by omega, by omega⟩ dL_law_932 ?_
            refine lv_istore (lv' := [(23, .int (nI (S.ce k))), (22, .int (nI b9)), (10, .int (nI S.td)), (9, .int (nI ki)), (8, .int (nI pe)), (7, .int (nI k)), (6, .int (nI S.nc)), (5, .int (x)), (4, .int (nI i)), (3, .ref (sa)), (2, .int (nI P)), (1, .ref (x1)), (0, .ref (b))]) hx hb dL_law_935 hl (by decide) rfl (fun ls hl => ?_)
            refine lv_aload_n hx hb dL_law_937 rfl (lv_at hl 11 rfl) ?_
            refine lv_iload hx hb dL_law_938 (lv_at hl 5 rfl) ?_
            refine lv_iload hx hb dL_law_940 (lv_at hl 1 rfl) ?_
            refine wl_wr (S' := approveS S k) (As := [.int (nI k), .int (nI b9)]) hLC hLI hS hl (wm_A (c_X6_approve l E hF.1.1 hk (apprA_lt hF.1.1 hk hap) hap)) (zm_L_101 hC.1) kv_X6_approve rfl rfl ⟨Nat.le_of_ble_eq_true rfl, Nat.le_of_ble_eq_true rfl⟩ ⟨Nat.le_of_ble_eq_true rfl, Nat.le_of_ble_eq_true rfl⟩ (Nat.le_of_ble_eq_true rfl) ⟨by omega, by omega⟩ dL_law_942 (fun g H locs hLI hS => ?_)
            have hFR := fr_approve hFR (c := k)
            have hP : (approveS S k).np = P := nb_pass.1.trans hP
            have hF := fine_approve hF hap
            have hk0 := hk
            have hk : k < (approveS S k).nc := by unfold approveS; rw [passS_nc]; exact hk
            refine lv_aload_n hx hb dL_law_945 rfl (lv_at hl 11 rfl) ?_
            refine lv_iload hx hb dL_law_946 (lv_at hl 5 rfl) ?_
            refine lv_iconst (v := 4) hx hb dL_law_948 (by decide) ?_
            refine wl_rd (As := [.int (nI k), .int (4)]) hLC hLI hl (c_X6_ofCharge l E hF.1.1 (c9 := k) hk (w9 := 4) (by decide)) (zm_L_62 hC.1) kv_X6_ofCharge rfl rfl ⟨Nat.le_of_ble_eq_true rfl, Nat.le_of_ble_eq_true rfl⟩ ⟨rfl, rfl⟩ (Nat.le_of_ble_eq_true rfl) ⟨by omega, by omega⟩ dL_law_949 ?_
            refine lv_icmp_ne (tgt := 968) hx hb dL_law_952 (by decide) (fun c_952 => ?_) (fun c_952 => ?_)
            · exact absurd (show (approveS S k).cs k = (approveS S k).cs k from rfl) c_952
            ·
              refine lv_aload_n hx hb dL_law_955 rfl (lv_at hl 11 rfl) ?_
              refine lv_iload hx hb dL_law_956 (lv_at hl 5 rfl) ?_
              refine lv_bipush (v := 9) hx hb dL_law_958 (by decide) ?_
              refine wl_rd (As := [.int (nI k), .int (9)]) hLC hLI hl (c_X6_ofCharge l E hF.1.1 (c9 := k) hk (w9 := 9) (by decide)) (zm_L_62 hC.1) kv_X6_ofCharge rfl rfl ⟨Nat.le_of_ble_eq_true rfl, Nat.le_of_ble_eq_true rfl⟩ ⟨rfl, rfl⟩ (Nat.le_of_ble_eq_true rfl) ⟨by omega, by omega⟩ dL_law_960 ?_
              refine lv_iload hx hb dL_law_963 (lv_at hl 0 rfl) ?_
              refine lv_icmp_gt (tgt := 970) hx hb dL_law_965 (by decide) (fun c_965 => ?_) (fun c_965 => ?_)
              ·
                exact kk (approveS S k) _ _ _ _ ls _ _ hF hFR hP hLI hS (lv_sub hl [8, 9, 10, 11, 12] rfl) ⟨by omega, by omega⟩
              · exact absurd (nI_lt approve_ce (Nat.lt_of_le_of_lt (hF.1.1.ce hk) (by decide))) c_965
          ·
            refine lv_aload_n hx hb dL_law_882 rfl (lv_at hl 10 rfl) ?_
            refine lv_iload hx hb dL_law_883 (lv_at hl 4 rfl) ?_
            refine lv_iload hx hb dL_law_885 (lv_at hl 0 rfl) ?_
            refine wl_wr (S' := refuseS S k) (As := [.int (nI k), .int (nI b9)]) hLC hLI hS hl (wm_A (c_X6_refuse l E hF.1.1 hk (apprA_lt hF.1.1 hk hap) hap)) (zm_L_94 hC.1) kv_X6_refuse rfl rfl ⟨Nat.le_of_ble_eq_true rfl, Nat.le_of_ble_eq_true rfl⟩ ⟨Nat.le_of_ble_eq_true rfl, Nat.le_of_ble_eq_true rfl⟩ (Nat.le_of_ble_eq_true rfl) ⟨by omega, by omega⟩ dL_law_887 (fun g H locs hLI hS => ?_)
            have hFR := fr_refuse hFR (apprA_1 hap).1
            have hP : (refuseS S k).np = P := nb_pass.1.trans hP
            have hF := fine_refuse hF hk hap
            have hk : k < (refuseS S k).nc := by unfold refuseS; rw [passS_nc]; exact hk
            refine lv_aload_n hx hb dL_law_890 rfl (lv_at hl 10 rfl) ?_
            refine lv_bipush (v := 7) hx hb dL_law_891 (by decide) ?_
            refine wl_rd (As := [.int (7)]) hLC hLI hl (c_X6_many l E hF.1.1 (w9 := 7) (by decide)) (zm_L_40 hC.1) kv_X6_many rfl rfl ⟨Nat.le_of_ble_eq_true rfl, Nat.le_of_ble_eq_true rfl⟩ ⟨rfl, rfl⟩ (Nat.le_of_ble_eq_true rfl) ⟨by omega, by omega⟩ dL_law_893 ?_
            refine lv_icmp_ne (tgt := 925) hx hb dL_law_896 (by decide) (fun c_896 => ?_) (fun c_896 => ?_)
            · exact absurd (show inA (refuseS S k) 4 = inA (refuseS S k) 4 from rfl) c_896
            ·
              refine lv_aload_n hx hb dL_law_899 rfl (lv_at hl 10 rfl) ?_
              refine lv_iload hx hb dL_law_900 (lv_at hl 4 rfl) ?_
              refine lv_iload hx hb dL_law_902 (lv_at hl 6 rfl) ?_
              refine lv_iconst (v := 5) hx hb dL_law_904 (by decide) ?_
              refine lv_ishr hx hb dL_law_905 ?_
              refine lv_iconst (v := 2) hx hb dL_law_906 (by decide) ?_
              refine wl_below (n := 2) hLC hl (by decide) (by decide) (Nat.le_of_ble_eq_true rfl) ⟨by omega, by omega⟩ dL_law_907 ?_
              refine lv_if_ne (tgt := 917) hx hb dL_law_910 (by decide) (fun c_910 => ?_) (fun c_910 => ?_)
              ·
                refine lv_iconst (v := 0) hx hb dL_law_917 (by decide) ?_
                refine wl_wr (S' := settleS (refuseS S k) k 0) (As := [.int (nI k), .int (0)]) hLC hLI hS hl (wm_A (c_X6_settle l E hF.1.1 hk refuse_4 (b9 := 0))) (zm_L_97 hC.1) kv_X6_settle rfl rfl ⟨Nat.le_of_ble_eq_true rfl, Nat.le_of_ble_eq_true rfl⟩ ⟨Nat.le_of_ble_eq_true rfl, Nat.le_of_ble_eq_true rfl⟩ (Nat.le_of_ble_eq_true rfl) ⟨by omega, by omega⟩ dL_law_918 (fun g H locs hLI hS => ?_)
                have hFR := fr_settle hFR (c := k) (b := 0) refuse_4
                have hP : (settleS (refuseS S k) k 0).np = P := (set_np).trans hP
                have hF := fine_settle hF (b := 0) hk refuse_4
                refine lv_iconst (v := 4) hx hb dL_law_921 (by decide) ?_
                refine lv_icmp_ne (tgt := 970) hx hb dL_law_922 (by decide) (fun c_922 => ?_) (fun c_922 => ?_)
                ·
                  exact kk (settleS (refuseS S k) k 0) _ _ _ _ ls _ _ hF hFR hP hLI hS (lv_sub hl [7, 8, 9, 10, 11] rfl) ⟨by omega, by omega⟩
                · exact absurd c_922 settle_n4
              ·
                refine lv_iconst (v := 1) hx hb dL_law_913 (by decide) ?_
                refine lv_goto (tgt := 918) hx hb dL_law_914 (by decide) ?_
                refine wl_wr (S' := settleS (refuseS S k) k 1) (As := [.int (nI k), .int (1)]) hLC hLI hS hl (wm_A (c_X6_settle l E hF.1.1 hk refuse_4 (b9 := 1))) (zm_L_97 hC.1) kv_X6_settle rfl rfl ⟨Nat.le_of_ble_eq_true rfl, Nat.le_of_ble_eq_true rfl⟩ ⟨Nat.le_of_ble_eq_true rfl, Nat.le_of_ble_eq_true rfl⟩ (Nat.le_of_ble_eq_true rfl) ⟨by omega, by omega⟩ dL_law_918 (fun g H locs hLI hS => ?_)
                have hFR := fr_settle hFR (c := k) (b := 1) refuse_4
                have hP : (settleS (refuseS S k) k 1).np = P := (set_np).trans hP
                have hF := fine_settle hF (b := 1) hk refuse_4
                refine lv_iconst (v := 4) hx hb dL_law_921 (by decide) ?_
                refine lv_icmp_ne (tgt := 970) hx hb dL_law_922 (by decide) (fun c_922 => ?_) (fun c_922 => ?_)
                ·
                  exact kk (settleS (refuseS S k) k 1) _ _ _ _ ls _ _ hF hFR hP hLI hS (lv_sub hl [7, 8, 9, 10, 11] rfl) ⟨by omega, by omega⟩
                · exact absurd c_922 settle_n4
        · exact absurd (nI_pos' (Nat.lt_of_lt_of_le (apprA_lt hF.1.1 hk hap) (Nat.le_trans hF.1.1.np (by decide)))) c_864
    · exact absurd (nI_pos' (Nat.lt_of_lt_of_le hk (Nat.le_trans hF.1.1.nc (by decide)))) c_845
set_option maxRecDepth 100000 in
set_option maxHeartbeats 4000000 in
theorem law_c23 (hLC : LC p s m c E b L xs) (hF : Fine S) (hFR : FR S f) (hP : S.np = P) (hP0 : 0 < P) (hPs : P < 2 ^ 20) (hPn : P < 2 ^ 20) (hpe : pe < P) (hki : ki < 2) (hLI : LI E S g x1 [(sa, 30, f)] H) (hS : va_S (LA s) s.heap H locs) (hch : ch = -1 ∨ ∃ k, k < S.nc ∧ ch = nI k) (hl : lv_has ls 24 ((10, .int (nI S.td)) :: (9, .int (nI ki)) :: (8, .int (nI pe)) :: (7, .int ch) :: (6, .int (nI S.nc)) :: (5, .int x) :: LV b x1 P sa i)) (hcs : cells + 10 ≤ 682005 ∧ slots + 300 ≤ 7055682) (kk : KT p l e s m args below meth c Q E b x1 P sa i cells slots) : W p l e room_1 s m args below meth c H locs cells slots Q (F0 m 506 ls []) := by
  obtain ⟨hx, hb, hml, hown, hY, hX0, hX, hbl, hN, hL⟩ := id hLC
  have hC : CX E s := hY.1
  rcases hch with rfl | ⟨k, hk, rfl⟩
  ·
    refine lv_iload hx hb dL_law_506 (lv_at hl 3 rfl) ?_
    refine lv_if_lt (tgt := 970) hx hb dL_law_508 (by decide) (fun c_508 => ?_) (fun c_508 => ?_)
    ·
      exact kk S _ _ _ _ ls _ _ hF hFR hP hLI hS (lv_sub hl [6, 7, 8, 9, 10] rfl) ⟨by omega, by omega⟩
    · exact absurd (by decide) c_508
  ·
    refine lv_iload hx hb dL_law_506 (lv_at hl 3 rfl) ?_
    refine lv_if_lt (tgt := 970) hx hb dL_law_508 (by decide) (fun c_508 => ?_) (fun c_508 => ?_)
    · exact absurd c_508 (nI_pos (Nat.lt_of_lt_of_le hk (Nat.le_trans hF.1.1.nc (by decide))))
    ·
      refine lv_aload_n hx hb dL_law_511 rfl (lv_at hl 9 rfl) ?_
      refine lv_bipush (v := 8) hx hb dL_law_512 (by decide) ?_
      refine wl_rd (As := [.int (8)]) hLC hLI hl (c_X6_many l E hF.1.1 (w9 := 8) (by decide)) (zm_L_40 hC.1) kv_X6_many rfl rfl ⟨Nat.le_of_ble_eq_true rfl, Nat.le_of_ble_eq_true rfl⟩ ⟨rfl, rfl⟩ (Nat.le_of_ble_eq_true rfl) ⟨by omega, by omega⟩ dL_law_514 ?_
      refine lv_bipush (v := 30) hx hb dL_law_517 (by decide) ?_
      refine lv_icmp_ne (tgt := 525) hx hb dL_law_519 (by decide) (fun c_519 => ?_) (fun c_519 => ?_)
      ·
        refine lv_iconst (v := 1) hx hb dL_law_525 (by decide) ?_
        refine lv_aload_n hx hb dL_law_526 rfl (lv_at hl 9 rfl) ?_
        refine lv_iload hx hb dL_law_527 (lv_at hl 3 rfl) ?_
        refine lv_iconst (v := 2) hx hb dL_law_529 (by decide) ?_
        refine wl_rd (As := [.int (nI k), .int (2)]) hLC hLI hl (c_X6_ofCharge l E hF.1.1 (c9 := k) hk (w9 := 2) (by decide)) (zm_L_62 hC.1) kv_X6_ofCharge rfl rfl ⟨Nat.le_of_ble_eq_true rfl, Nat.le_of_ble_eq_true rfl⟩ ⟨rfl, rfl⟩ (Nat.le_of_ble_eq_true rfl) ⟨by omega, by omega⟩ dL_law_530 ?_
        refine lv_iconst (v := 4) hx hb dL_law_533 (by decide) ?_
        refine lv_isub hx hb dL_law_534 ?_
        refine lv_iload hx hb dL_law_535 (lv_at hl 5 rfl) ?_
        refine lv_iconst (v := 2) hx hb dL_law_537 (by decide) ?_
        refine lv_ishr hx hb dL_law_538 ?_
        refine lv_bipush (v := 9) hx hb dL_law_539 (by decide) ?_
        refine wl_below (n := 9) hLC hl (by decide) (by decide) (Nat.le_of_ble_eq_true rfl) ⟨by omega, by omega⟩ dL_law_541 ?_
        refine lv_iadd hx hb dL_law_544 ?_
        refine va_mmax hx hb (hml.trans hl.1.symm) hown (zm_L_65 hC.1) (ztm_max hC.1) (znm hC.1) (zkm_max hC.1) (Nat.le_of_ble_eq_true rfl) (Nat.le_of_ble_eq_true rfl) (by show _ ≤ 682005; omega) (by show _ ≤ 7055682; omega) dL_law_545 ?_
        obtain ⟨am, ⟨ha1, ha2⟩, ha3, ea⟩ := of_am (ca := S.ca k) (j := belN ((x) >>> ((2) &&& 31)) 9) ⟨(hF.1.1.ca hk).1, hF.2.2.2.1 k hk⟩ (belN_lt (by decide) (by decide))
        have ea2 : (if (1 : Int32) < ofChargeA S k 2 - (4 : Int32) + nI (belN ((x) >>> ((2) &&& 31)) 9) then ofChargeA S k 2 - (4 : Int32) + nI (belN ((x) >>> ((2) &&& 31)) 9) else (1 : Int32)) = am := ea
        rw [ea2]
        refine lv_istore (lv' := [(15, .int (am)), (10, .int (nI S.td)), (9, .int (nI ki)), (8, .int (nI pe)), (7, .int (nI k)), (6, .int (nI S.nc)), (5, .int (x)), (4, .int (nI i)), (3, .ref (sa)), (2, .int (nI P)), (1, .ref (x1)), (0, .ref (b))]) hx hb dL_law_548 hl (by decide) rfl (fun ls hl => ?_)
        refine lv_bipush (v := 119) hx hb dL_law_550 (by decide) ?_
        refine lv_aload_n hx hb dL_law_552 rfl (lv_at hl 10 rfl) ?_
        refine lv_iload hx hb dL_law_553 (lv_at hl 4 rfl) ?_
        refine lv_iconst (v := 3) hx hb dL_law_555 (by decide) ?_
        refine wl_rd (As := [.int (nI k), .int (3)]) hLC hLI hl (c_X6_ofCharge l E hF.1.1 (c9 := k) hk (w9 := 3) (by decide)) (zm_L_62 hC.1) kv_X6_ofCharge rfl rfl ⟨Nat.le_of_ble_eq_true rfl, Nat.le_of_ble_eq_true rfl⟩ ⟨rfl, rfl⟩ (Nat.le_of_ble_eq_true rfl) ⟨by omega, by omega⟩ dL_law_556 ?_
        refine lv_iload hx hb dL_law_559 (lv_at hl 6 rfl) ?_
        refine lv_iconst (v := 5) hx hb dL_law_561 (by decide) ?_
        refine lv_ishr hx hb dL_law_562 ?_
        refine lv_iconst (v := 4) hx hb dL_law_563 (by decide) ?_
        refine wl_below (n := 4) hLC hl (by decide) (by decide) (Nat.le_of_ble_eq_true rfl) ⟨by omega, by omega⟩ dL_law_564 ?_
        refine lv_iadd hx hb dL_law_567 ?_
        refine va_mmin hx hb (hml.trans hl.1.symm) hown (zm_L_49 hC.1) (ztm_min hC.1) (znm hC.1) (zkm_min hC.1) (Nat.le_of_ble_eq_true rfl) (Nat.le_of_ble_eq_true rfl) (by show _ ≤ 682005; omega) (by show _ ≤ 7055682; omega) dL_law_568 ?_
        obtain ⟨dy, ⟨hd1, hd2⟩, hd3, ed⟩ := of_dy (d := S.cd k) (j := belN ((x) >>> ((5) &&& 31)) 4) (Nat.le_trans (hF.1.1.cd hk) hF.1.1.td) (Nat.lt_trans (belN_lt (by decide) (by decide)) (by decide))
        have ed2 : (if ofChargeA S k 3 + nI (belN ((x) >>> ((5) &&& 31)) 4) < (119 : Int32) then ofChargeA S k 3 + nI (belN ((x) >>> ((5) &&& 31)) 4) else (119 : Int32)) = dy := ed
        rw [ed2]
        refine lv_istore (lv' := [(16, .int (dy)), (15, .int (am)), (10, .int (nI S.td)), (9, .int (nI ki)), (8, .int (nI pe)), (7, .int (nI k)), (6, .int (nI S.nc)), (5, .int (x)), (4, .int (nI i)), (3, .ref (sa)), (2, .int (nI P)), (1, .ref (x1)), (0, .ref (b))]) hx hb dL_law_571 hl (by decide) rfl (fun ls hl => ?_)
        obtain ⟨tx, htx, etx⟩ : ∃ t, t < 4 ∧ belN ((x) >>> ((7) &&& 31)) 4 = t := ⟨_, belN_lt (by decide) (by decide), rfl⟩
        refine lv_aload_n hx hb dL_law_573 rfl (lv_at hl 11 rfl) ?_
        refine lv_iload hx hb dL_law_574 (lv_at hl 1 rfl) ?_
        refine lv_iload hx hb dL_law_576 (lv_at hl 0 rfl) ?_
        refine lv_iload hx hb dL_law_578 (lv_at hl 7 rfl) ?_
        refine lv_bipush (v := 7) hx hb dL_law_580 (by decide) ?_
        refine lv_ishr hx hb dL_law_582 ?_
        refine lv_iconst (v := 4) hx hb dL_law_583 (by decide) ?_
        refine wl_below (n := 4) hLC hl (by decide) (by decide) (Nat.le_of_ble_eq_true rfl) ⟨by omega, by omega⟩ dL_law_584 ?_
        rw [etx]
        refine wl_wr (S' := S) (As := [.int (am), .int (dy), .int (nI tx)]) hLC hLI hS hl (wm_A (c_X6_wouldMatch l E hF.1.1 ha1 ha2 hd1 hd2 (n_t1 htx) (n_t2 htx))) (zm_L_68 hC.1) kv_X6_wouldMatch rfl rfl ⟨Nat.le_of_ble_eq_true rfl, Nat.le_of_ble_eq_true rfl⟩ ⟨Nat.le_of_ble_eq_true rfl, Nat.le_of_ble_eq_true rfl⟩ (Nat.le_of_ble_eq_true rfl) ⟨by omega, by omega⟩ dL_law_587 (fun g H locs hLI hS => ?_)
        refine lv_istore (lv' := [(17, .int (irI (wB S am dy (nI tx) S.nc).1)), (16, .int (dy)), (15, .int (am)), (10, .int (nI S.td)), (9, .int (nI ki)), (8, .int (nI pe)), (7, .int (nI k)), (6, .int (nI S.nc)), (5, .int (x)), (4, .int (nI i)), (3, .ref (sa)), (2, .int (nI P)), (1, .ref (x1)), (0, .ref (b))]) hx hb dL_law_590 hl (by decide) rfl (fun ls hl => ?_)
        refine lv_aload_n hx hb dL_law_592 rfl (lv_at hl 12 rfl) ?_
        refine lv_iload hx hb dL_law_593 (lv_at hl 2 rfl) ?_
        refine lv_iload hx hb dL_law_595 (lv_at hl 1 rfl) ?_
        refine lv_iload hx hb dL_law_597 (lv_at hl 8 rfl) ?_
        refine lv_bipush (v := 7) hx hb dL_law_599 (by decide) ?_
        refine lv_ishr hx hb dL_law_601 ?_
        refine lv_iconst (v := 4) hx hb dL_law_602 (by decide) ?_
        refine wl_below (n := 4) hLC hl (by decide) (by decide) (Nat.le_of_ble_eq_true rfl) ⟨by omega, by omega⟩ dL_law_603 ?_
        rw [etx]
        refine wl_wr (S' := recS S am dy (nI tx)) (As := [.int (am), .int (dy), .int (nI tx)]) hLC hLI hS hl (c_X6_receipt l E hF.1.1 ha1 ha2 hd1 hd2 (n_t1 htx) (n_t2 htx) (ne30 hF.1.1.nr c_519)) (zm_L_71 hC.1) kv_X6_receipt rfl rfl ⟨Nat.le_of_ble_eq_true rfl, Nat.le_of_ble_eq_true rfl⟩ ⟨Nat.le_of_ble_eq_true rfl, Nat.le_of_ble_eq_true rfl⟩ (Nat.le_of_ble_eq_true rfl) ⟨by omega, by omega⟩ dL_law_606 (fun g H locs hLI hS => ?_)
        have fr := fine_rec hF (am := am) (dy := dy) (tx := nI tx) (ne30 hF.1.1.nr c_519) ha3 hd3
        have hFR : FR (recS S am dy (nI tx)) f := hFR.go (fun d hd => (fr.2.2.2.2.2 d hd).imp id (fun q => q.imp id Or.inl)) (Nat.le_of_eq fr.2.2.2.1.symm)
        have hP : (recS S am dy (nI tx)).np = P := rec_np.trans hP
        have hI0 := hF.1.1
        have hF : Fine (recS S am dy (nI tx)) := fr.1
        have mr8 : manyA (recS S am dy (nI tx)) 8 - 1 = nI S.nr := by show nI (recS S am dy (nI tx)).nr - 1 = _; rw [show (recS S am dy (nI tx)).nr = S.nr + 1 from fr.2.2.1]; exact nI_pred _
        refine lv_iload hx hb dL_law_609 (lv_at hl 0 rfl) ?_
        refine lv_icmp_ne (tgt := 671) hx hb dL_law_611 (by decide) (fun c_611 => ?_) (fun c_611 => ?_)
        · exact absurd (show irI ((recS S am dy (nI tx)).ro S.nr) = irI (wB S am dy (nI tx) S.nc).1 by rw [fr.2.1]) c_611
        ·
          refine lv_aload_n hx hb dL_law_614 rfl (lv_at hl 12 rfl) ?_
          refine lv_aload_n hx hb dL_law_615 rfl (lv_at hl 12 rfl) ?_
          refine lv_bipush (v := 8) hx hb dL_law_616 (by decide) ?_
          refine wl_rd (As := [.int (8)]) hLC hLI hl (c_X6_many l E hF.1.1 (w9 := 8) (by decide)) (zm_L_40 hC.1) kv_X6_many rfl rfl ⟨Nat.le_of_ble_eq_true rfl, Nat.le_of_ble_eq_true rfl⟩ ⟨rfl, rfl⟩ (Nat.le_of_ble_eq_true rfl) ⟨by omega, by omega⟩ dL_law_618 ?_
          refine lv_iconst (v := 1) hx hb dL_law_621 (by decide) ?_
          refine lv_isub hx hb dL_law_622 ?_
          rw [mr8]
          refine wl_rd (As := [.int (nI S.nr)]) hLC hLI hl (c_X6_ofReceipt l E hF.1.1 (r9 := S.nr) (by rw [fr.2.2.1]; exact Nat.lt_succ_self _)) (zm_L_74 hC.1) kv_X6_ofReceipt rfl rfl ⟨Nat.le_of_ble_eq_true rfl, Nat.le_of_ble_eq_true rfl⟩ ⟨rfl, rfl⟩ (Nat.le_of_ble_eq_true rfl) ⟨by omega, by omega⟩ dL_law_623 ?_
          refine lv_iload hx hb dL_law_626 (lv_at hl 0 rfl) ?_
          refine lv_icmp_ne (tgt := 671) hx hb dL_law_628 (by decide) (fun c_628 => ?_) (fun c_628 => ?_)
          · exact absurd (show irI ((recS S am dy (nI tx)).ro S.nr) = irI (wB S am dy (nI tx) S.nc).1 by rw [fr.2.1]) c_628
          ·
            rcases hw : (wB S am dy (nI tx) S.nc).1 with _ | c9
            ·
              have hl : lv_has ls 24 [(17, .int ((-1))), (16, .int (dy)), (15, .int (am)), (10, .int (nI S.td)), (9, .int (nI ki)), (8, .int (nI pe)), (7, .int (nI k)), (6, .int (nI S.nc)), (5, .int (x)), (4, .int (nI i)), (3, .ref (sa)), (2, .int (nI P)), (1, .ref (x1)), (0, .ref (b))] := by rw [hw] at hl; exact hl
              refine lv_iload hx hb dL_law_631 (lv_at hl 0 rfl) ?_
              refine lv_if_lt (tgt := 970) hx hb dL_law_633 (by decide) (fun c_633 => ?_) (fun c_633 => ?_)
              ·
                exact kk (recS S am dy (nI tx)) _ _ _ _ ls _ _ hF hFR hP hLI hS (lv_sub hl [9, 10, 11, 12, 13] rfl) ⟨by omega, by omega⟩
              · exact absurd (by decide) c_633
            ·
              have fc := fr.2.2.2.2.1 c9 hw
              have hl : lv_has ls 24 [(17, .int (nI c9)), (16, .int (dy)), (15, .int (am)), (10, .int (nI S.td)), (9, .int (nI ki)), (8, .int (nI pe)), (7, .int (nI k)), (6, .int (nI S.nc)), (5, .int (x)), (4, .int (nI i)), (3, .ref (sa)), (2, .int (nI P)), (1, .ref (x1)), (0, .ref (b))] := by rw [hw] at hl; exact hl
              refine lv_iload hx hb dL_law_631 (lv_at hl 0 rfl) ?_
              refine lv_if_lt (tgt := 970) hx hb dL_law_633 (by decide) (fun c_633 => ?_) (fun c_633 => ?_)
              · exact absurd c_633 (nI_pos (Nat.lt_of_lt_of_le fc.1 (Nat.le_trans hI0.nc (by decide))))
              ·
                refine lv_aload_n hx hb dL_law_636 rfl (lv_at hl 12 rfl) ?_
                refine lv_iload hx hb dL_law_637 (lv_at hl 0 rfl) ?_
                refine lv_iconst (v := 5) hx hb dL_law_639 (by decide) ?_
                refine wl_rd (As := [.int (nI c9), .int (5)]) hLC hLI hl (c_X6_ofCharge l E hF.1.1 (c9 := c9) (by rw [fr.2.2.2.1]; exact fc.1) (w9 := 5) (by decide)) (zm_L_62 hC.1) kv_X6_ofCharge rfl rfl ⟨Nat.le_of_ble_eq_true rfl, Nat.le_of_ble_eq_true rfl⟩ ⟨rfl, rfl⟩ (Nat.le_of_ble_eq_true rfl) ⟨by omega, by omega⟩ dL_law_640 ?_
                refine lv_aload_n hx hb dL_law_643 rfl (lv_at hl 12 rfl) ?_
                refine lv_bipush (v := 8) hx hb dL_law_644 (by decide) ?_
                refine wl_rd (As := [.int (8)]) hLC hLI hl (c_X6_many l E hF.1.1 (w9 := 8) (by decide)) (zm_L_40 hC.1) kv_X6_many rfl rfl ⟨Nat.le_of_ble_eq_true rfl, Nat.le_of_ble_eq_true rfl⟩ ⟨rfl, rfl⟩ (Nat.le_of_ble_eq_true rfl) ⟨by omega, by omega⟩ dL_law_646 ?_
                refine lv_iconst (v := 1) hx hb dL_law_649 (by decide) ?_
                refine lv_isub hx hb dL_law_650 ?_
                rw [mr8]
                refine lv_icmp_ne (tgt := 671) hx hb dL_law_651 (by decide) (fun c_651 => ?_) (fun c_651 => ?_)
                · exact absurd (show irI ((recS S am dy (nI tx)).cr c9) = nI S.nr by rw [fc.2.1]; rfl) c_651
                ·
                  refine lv_aload_n hx hb dL_law_654 rfl (lv_at hl 12 rfl) ?_
                  refine lv_iload hx hb dL_law_655 (lv_at hl 0 rfl) ?_
                  refine lv_aload_n hx hb dL_law_657 rfl (lv_at hl 12 rfl) ?_
                  refine lv_bipush (v := 8) hx hb dL_law_658 (by decide) ?_
                  refine wl_rd (As := [.int (8)]) hLC hLI hl (c_X6_many l E hF.1.1 (w9 := 8) (by decide)) (zm_L_40 hC.1) kv_X6_many rfl rfl ⟨Nat.le_of_ble_eq_true rfl, Nat.le_of_ble_eq_true rfl⟩ ⟨rfl, rfl⟩ (Nat.le_of_ble_eq_true rfl) ⟨by omega, by omega⟩ dL_law_660 ?_
                  refine lv_iconst (v := 1) hx hb dL_law_663 (by decide) ?_
                  refine lv_isub hx hb dL_law_664 ?_
                  rw [mr8]
                  refine wl_rd (As := [.int (nI c9), .int (nI S.nr)]) hLC hLI hl (c_X6_score l E hF.1.1 (c9 := c9) (by rw [fr.2.2.2.1]; exact fc.1) (r9 := S.nr) (by rw [fr.2.2.1]; exact Nat.lt_succ_self _)) (zm_L_77 hC.1) kv_X6_score rfl rfl ⟨Nat.le_of_ble_eq_true rfl, Nat.le_of_ble_eq_true rfl⟩ ⟨rfl, rfl⟩ (Nat.le_of_ble_eq_true rfl) ⟨by omega, by omega⟩ dL_law_665 ?_
                  refine lv_if_ge (tgt := 970) hx hb dL_law_668 (by decide) (fun c_668 => ?_) (fun c_668 => ?_)
                  ·
                    exact kk (recS S am dy (nI tx)) _ _ _ _ ls _ _ hF hFR hP hLI hS (lv_sub hl [9, 10, 11, 12, 13] rfl) ⟨by omega, by omega⟩
                  · exact absurd (Int32.not_lt.mp fc.2.2) c_668
      ·
        refine lv_goto (tgt := 970) hx hb dL_law_522 (by decide) ?_
        exact kk S _ _ _ _ ls _ _ hF hFR hP hLI hS (lv_sub hl [6, 7, 8, 9, 10] rfl) ⟨by omega, by omega⟩
set_option maxRecDepth 100000 in
set_option maxHeartbeats 4000000 in
theorem law_c01 (hLC : LC p s m c E b L xs) (hst : l.stackTraces = false) (hF : Fine S) (hFR : FR S f) (hP : S.np = P) (hP0 : 0 < P) (hPs : P < 2 ^ 20) (hPn : P < 2 ^ 20) (hpe : pe < P) (hki : ki < 2) (hLI : LI E S g x1 [(sa, 30, f)] H) (hS : va_S (LA s) s.heap H locs) (hl : lv_has ls 24 ((10, .int (nI S.td)) :: (9, .int (nI ki)) :: (8, .int (nI pe)) :: (7, .int ch) :: (6, .int (nI S.nc)) :: (5, .int x) :: LV b x1 P sa i)) (hcs : cells + 10 ≤ 682005 ∧ slots + 300 ≤ 7055682) (kk : KT p l e s m args below meth c Q E b x1 P sa i cells slots) : W p l e room_1 s m args below meth c H locs cells slots Q (F0 m 352 ls []) := by
  obtain ⟨hx, hb, hml, hown, hY, hX0, hX, hbl, hN, hL⟩ := id hLC
  have hC : CX E s := hY.1
  obtain ⟨ld, hld, eld⟩ : ∃ t, t < 2 ∧ belN ((x) >>> ((5) &&& 31)) 2 = t := ⟨_, belN_lt (by decide) (by decide), rfl⟩
  obtain ⟨aj, haj, eaj⟩ : ∃ t, t < 2600 ∧ belN ((x) >>> ((2) &&& 31)) 2600 = t := ⟨_, belN_lt (by decide) (by decide), rfl⟩
  obtain ⟨tx, htx, etx⟩ : ∃ t, t < 4 ∧ belN ((x) >>> ((7) &&& 31)) 4 = t := ⟨_, belN_lt (by decide) (by decide), rfl⟩
  refine lv_iload hx hb dL_law_352 (lv_at hl 5 rfl) ?_
  refine lv_iconst (v := 5) hx hb dL_law_354 (by decide) ?_
  refine lv_ishr hx hb dL_law_355 ?_
  refine lv_iconst (v := 2) hx hb dL_law_356 (by decide) ?_
  refine wl_below (n := 2) hLC hl (by decide) (by decide) (Nat.le_of_ble_eq_true rfl) ⟨by omega, by omega⟩ dL_law_357 ?_
  rw [eld]
  refine lv_istore (lv' := [(11, .int (nI ld)), (10, .int (nI S.td)), (9, .int (nI ki)), (8, .int (nI pe)), (7, .int (ch)), (6, .int (nI S.nc)), (5, .int (x)), (4, .int (nI i)), (3, .ref (sa)), (2, .int (nI P)), (1, .ref (x1)), (0, .ref (b))]) hx hb dL_law_360 hl (by decide) rfl (fun ls hl => ?_)
  refine lv_aload_n hx hb dL_law_362 rfl (lv_at hl 10 rfl) ?_
  refine lv_iload hx hb dL_law_363 (lv_at hl 3 rfl) ?_
  refine lv_iload hx hb dL_law_365 (lv_at hl 2 rfl) ?_
  refine lv_iload hx hb dL_law_367 (lv_at hl 0 rfl) ?_
  refine wl_rd (As := [.int (nI pe), .int (nI ki), .int (nI ld)]) hLC hLI hl (c_X6_maySpend l E hF.1.1 (p9 := pe) (by omega) (k9 := ki) (Nat.lt_trans hki (by decide)) (l9 := ld) (Nat.lt_trans hld (by decide))) (zm_L_43 hC.1) kv_X6_maySpend rfl rfl ⟨Nat.le_of_ble_eq_true rfl, Nat.le_of_ble_eq_true rfl⟩ ⟨rfl, rfl⟩ (Nat.le_of_ble_eq_true rfl) ⟨by omega, by omega⟩ dL_law_369 ?_
  refine lv_aload_n hx hb dL_law_372 rfl (lv_at hl 10 rfl) ?_
  refine lv_iload hx hb dL_law_373 (lv_at hl 2 rfl) ?_
  refine lv_iload hx hb dL_law_375 (lv_at hl 1 rfl) ?_
  refine lv_bipush (v := 30) hx hb dL_law_377 (by decide) ?_
  refine lv_idiv hx hb dL_law_379 (by decide) ?_
  rw [div30 S.td (Nat.lt_of_le_of_lt hF.1.1.td (by decide))]
  refine wl_rd (As := [.int (nI ki), .int (nI (S.td / 30))]) hLC hLI hl (c_X6_left l E hF.1.1 (k9 := ki) (Nat.lt_trans hki (by decide)) (per9 := S.td / 30) (by have := hF.1.1.td; omega)) (zm_L_46 hC.1) kv_X6_left rfl rfl ⟨Nat.le_of_ble_eq_true rfl, Nat.le_of_ble_eq_true rfl⟩ ⟨rfl, rfl⟩ (Nat.le_of_ble_eq_true rfl) ⟨by omega, by omega⟩ dL_law_380 ?_
  refine va_mmin hx hb (hml.trans hl.1.symm) hown (zm_L_49 hC.1) (ztm_min hC.1) (znm hC.1) (zkm_min hC.1) (Nat.le_of_ble_eq_true rfl) (Nat.le_of_ble_eq_true rfl) (by show _ ≤ 682005; omega) (by show _ ≤ 7055682; omega) dL_law_383 ?_
  refine lv_istore (lv' := [(12, .int (minI (spendA S pe ki (nI ld)) (leftL S ki 0 (S.td / 30 + 1)))), (11, .int (nI ld)), (10, .int (nI S.td)), (9, .int (nI ki)), (8, .int (nI pe)), (7, .int (ch)), (6, .int (nI S.nc)), (5, .int (x)), (4, .int (nI i)), (3, .ref (sa)), (2, .int (nI P)), (1, .ref (x1)), (0, .ref (b))]) hx hb dL_law_386 hl (by decide) rfl (fun ls hl => ?_)
  refine lv_iconst (v := 1) hx hb dL_law_388 (by decide) ?_
  refine lv_iload hx hb dL_law_389 (lv_at hl 7 rfl) ?_
  refine lv_iconst (v := 2) hx hb dL_law_391 (by decide) ?_
  refine lv_ishr hx hb dL_law_392 ?_
  refine lv_sipush (v := 2600) hx hb dL_law_393 (by decide) ?_
  refine wl_below (n := 2600) hLC hl (by decide) (by decide) (Nat.le_of_ble_eq_true rfl) ⟨by omega, by omega⟩ dL_law_396 ?_
  rw [eaj]
  refine lv_iadd hx hb dL_law_399 ?_
  rw [show (1 : Int32) + nI aj = nI (1 + aj) from nI_add 1 aj]
  refine lv_istore (lv' := [(13, .int (nI (1 + aj))), (12, .int (minI (spendA S pe ki (nI ld)) (leftL S ki 0 (S.td / 30 + 1)))), (11, .int (nI ld)), (10, .int (nI S.td)), (9, .int (nI ki)), (8, .int (nI pe)), (7, .int (ch)), (6, .int (nI S.nc)), (5, .int (x)), (4, .int (nI i)), (3, .ref (sa)), (2, .int (nI P)), (1, .ref (x1)), (0, .ref (b))]) hx hb dL_law_400 hl (by decide) rfl (fun ls hl => ?_)
  refine lv_iload hx hb dL_law_402 (lv_at hl 0 rfl) ?_
  refine lv_iload hx hb dL_law_404 (lv_at hl 1 rfl) ?_
  refine lv_icmp_le (tgt := 426) hx hb dL_law_406 (by decide) (fun c_406 => ?_) (fun c_406 => ?_)
  ·
    refine lv_iload hx hb dL_law_426 (lv_at hl 7 rfl) ?_
    refine lv_bipush (v := 30) hx hb dL_law_428 (by decide) ?_
    refine lv_icmp_ne (tgt := 436) hx hb dL_law_430 (by decide) (fun c_430 => ?_) (fun c_430 => ?_)
    ·
      refine lv_aload_n hx hb dL_law_436 rfl (lv_at hl 12 rfl) ?_
      refine lv_bipush (v := 9) hx hb dL_law_437 (by decide) ?_
      refine wl_rd (As := [.int (9)]) hLC hLI hl (c_X6_many l E hF.1.1 (w9 := 9) (by decide)) (zm_L_40 hC.1) kv_X6_many rfl rfl ⟨Nat.le_of_ble_eq_true rfl, Nat.le_of_ble_eq_true rfl⟩ ⟨rfl, rfl⟩ (Nat.le_of_ble_eq_true rfl) ⟨by omega, by omega⟩ dL_law_439 ?_
      refine lv_istore (lv' := [(14, .int (freeA S)), (13, .int (nI (1 + aj))), (12, .int (minI (spendA S pe ki (nI ld)) (leftL S ki 0 (S.td / 30 + 1)))), (11, .int (nI ld)), (10, .int (nI S.td)), (9, .int (nI ki)), (8, .int (nI pe)), (7, .int (ch)), (6, .int (nI S.nc)), (5, .int (x)), (4, .int (nI i)), (3, .ref (sa)), (2, .int (nI P)), (1, .ref (x1)), (0, .ref (b))]) hx hb dL_law_442 hl (by decide) rfl (fun ls hl => ?_)
      refine lv_aload_n hx hb dL_law_444 rfl (lv_at hl 13 rfl) ?_
      refine lv_iload hx hb dL_law_445 (lv_at hl 6 rfl) ?_
      refine lv_iload hx hb dL_law_447 (lv_at hl 5 rfl) ?_
      refine lv_iload hx hb dL_law_449 (lv_at hl 3 rfl) ?_
      refine lv_iload hx hb dL_law_451 (lv_at hl 1 rfl) ?_
      refine lv_iload hx hb dL_law_453 (lv_at hl 9 rfl) ?_
      refine lv_bipush (v := 7) hx hb dL_law_455 (by decide) ?_
      refine lv_ishr hx hb dL_law_457 ?_
      refine lv_iconst (v := 4) hx hb dL_law_458 (by decide) ?_
      refine wl_below (n := 4) hLC hl (by decide) (by decide) (Nat.le_of_ble_eq_true rfl) ⟨by omega, by omega⟩ dL_law_459 ?_
      rw [etx]
      refine wl_wr (S' := chgS S pe ki ld (nI (1 + aj)) (nI tx)) (As := [.int (nI pe), .int (nI ki), .int (nI ld), .int (nI (1 + aj)), .int (nI tx)]) hLC hLI hS hl (c_X6_charge l E hF.1.1 (p9 := pe) (by omega) (k9 := ki) (by omega) (l9 := ld) (by omega) (n_am1 haj) (n_am2 haj) (n_t1 htx) (n_t2 htx) (ne30 hF.1.1.nc c_430) (min_le c_406).1 (min_le c_406).2) (zm_L_58 hC.1) kv_X6_charge rfl rfl ⟨Nat.le_of_ble_eq_true rfl, Nat.le_of_ble_eq_true rfl⟩ ⟨Nat.le_of_ble_eq_true rfl, Nat.le_of_ble_eq_true rfl⟩ (Nat.le_of_ble_eq_true rfl) ⟨by omega, by omega⟩ dL_law_462 (fun g H locs hLI hS => ?_)
      have fc := fine_charge hF (p := pe) (k := ki) (l := ld) (a := nI (1 + aj)) (x := nI tx) (t := tripA S pe (nI ld)) (ne30 hF.1.1.nc c_430) (by omega) (by omega) (by omega) (n_am haj) (fun j hj => fstB_lt hj)
      have hFR : FR (chgS S pe ki ld (nI (1 + aj)) (nI tx)) f := hFR.go (fun d hd => (fc.2.2.1 d hd).imp id Or.inl) (by rw [chg_nc]; omega)
      have hP : (chgS S pe ki ld (nI (1 + aj)) (nI tx)).np = P := chg_np.trans hP
      have hI0 := hF.1.1
      have hF : Fine (chgS S pe ki ld (nI (1 + aj)) (nI tx)) := fc.1
      have hN9 : S.nc < (chgS S pe ki ld (nI (1 + aj)) (nI tx)).nc := by rw [chg_nc]; exact Nat.lt_succ_self _
      refine lv_iload hx hb dL_law_465 (lv_at hl 8 rfl) ?_
      refine lv_icmp_ne (tgt := 504) hx hb dL_law_467 (by decide) (fun c_467 => ?_) (fun c_467 => ?_)
      · exact absurd rfl c_467
      ·
        refine lv_aload_n hx hb dL_law_470 rfl (lv_at hl 13 rfl) ?_
        refine lv_iload hx hb dL_law_471 (lv_at hl 8 rfl) ?_
        refine lv_iconst (v := 4) hx hb dL_law_473 (by decide) ?_
        refine wl_rd (As := [.int (nI S.nc), .int (4)]) hLC hLI hl (c_X6_ofCharge l E hF.1.1 (c9 := S.nc) hN9 (w9 := 4) (by decide)) (zm_L_62 hC.1) kv_X6_ofCharge rfl rfl ⟨Nat.le_of_ble_eq_true rfl, Nat.le_of_ble_eq_true rfl⟩ ⟨rfl, rfl⟩ (Nat.le_of_ble_eq_true rfl) ⟨by omega, by omega⟩ dL_law_474 ?_
        refine lv_if_ne (tgt := 484) hx hb dL_law_477 (by decide) (fun c_477 => ?_) (fun c_477 => ?_)
        ·
          refine lv_iconst (v := 0) hx hb dL_law_484 (by decide) ?_
          refine lv_aload_n hx hb dL_law_485 rfl (lv_at hl 13 rfl) ?_
          refine lv_bipush (v := 9) hx hb dL_law_486 (by decide) ?_
          refine wl_rd (As := [.int (9)]) hLC hLI hl (c_X6_many l E hF.1.1 (w9 := 9) (by decide)) (zm_L_40 hC.1) kv_X6_many rfl rfl ⟨Nat.le_of_ble_eq_true rfl, Nat.le_of_ble_eq_true rfl⟩ ⟨rfl, rfl⟩ (Nat.le_of_ble_eq_true rfl) ⟨by omega, by omega⟩ dL_law_488 ?_
          refine lv_iload hx hb dL_law_491 (lv_at hl 0 rfl) ?_
          refine lv_icmp_ne (tgt := 500) hx hb dL_law_493 (by decide) (fun c_493 => ?_) (fun c_493 => ?_)
          ·
            refine lv_iconst (v := 0) hx hb dL_law_500 (by decide) ?_
            refine lv_icmp_eq (tgt := 970) hx hb dL_law_501 (by decide) (fun c_501 => ?_) (fun c_501 => ?_)
            ·
              exact kk (chgS S pe ki ld (nI (1 + aj)) (nI tx)) _ _ _ _ ls _ _ hF hFR hP hLI hS (lv_sub hl [10, 11, 12, 13, 14] rfl) ⟨by omega, by omega⟩
            · exact absurd (by decide) c_501
          · exact absurd (fc.2.1.mpr c_493) c_477
        ·
          refine lv_iconst (v := 1) hx hb dL_law_480 (by decide) ?_
          refine lv_goto (tgt := 485) hx hb dL_law_481 (by decide) ?_
          refine lv_aload_n hx hb dL_law_485 rfl (lv_at hl 13 rfl) ?_
          refine lv_bipush (v := 9) hx hb dL_law_486 (by decide) ?_
          refine wl_rd (As := [.int (9)]) hLC hLI hl (c_X6_many l E hF.1.1 (w9 := 9) (by decide)) (zm_L_40 hC.1) kv_X6_many rfl rfl ⟨Nat.le_of_ble_eq_true rfl, Nat.le_of_ble_eq_true rfl⟩ ⟨rfl, rfl⟩ (Nat.le_of_ble_eq_true rfl) ⟨by omega, by omega⟩ dL_law_488 ?_
          refine lv_iload hx hb dL_law_491 (lv_at hl 0 rfl) ?_
          refine lv_icmp_ne (tgt := 500) hx hb dL_law_493 (by decide) (fun c_493 => ?_) (fun c_493 => ?_)
          · exact absurd (show freeA (chgS S pe ki ld (nI (1 + aj)) (nI tx)) = freeA S from fc.2.1.mp c_477) c_493
          ·
            refine lv_iconst (v := 1) hx hb dL_law_496 (by decide) ?_
            refine lv_goto (tgt := 501) hx hb dL_law_497 (by decide) ?_
            refine lv_icmp_eq (tgt := 970) hx hb dL_law_501 (by decide) (fun c_501 => ?_) (fun c_501 => ?_)
            ·
              exact kk (chgS S pe ki ld (nI (1 + aj)) (nI tx)) _ _ _ _ ls _ _ hF hFR hP hLI hS (lv_sub hl [10, 11, 12, 13, 14] rfl) ⟨by omega, by omega⟩
            · exact absurd (by decide) c_501
    ·
      refine lv_goto (tgt := 970) hx hb dL_law_433 (by decide) ?_
      exact kk S _ _ _ _ ls _ _ hF hFR hP hLI hS (lv_sub hl [9, 10, 11, 12, 13] rfl) ⟨by omega, by omega⟩
  ·
    refine lv_aload_n hx hb dL_law_409 rfl (lv_at hl 12 rfl) ?_
    refine lv_iload hx hb dL_law_410 (lv_at hl 5 rfl) ?_
    refine lv_iload hx hb dL_law_412 (lv_at hl 4 rfl) ?_
    refine lv_iload hx hb dL_law_414 (lv_at hl 2 rfl) ?_
    refine lv_iload hx hb dL_law_416 (lv_at hl 0 rfl) ?_
    refine wl_refused hLC hLI hS hl (c_isRefused (refuse_tm hst hF.1.1 (p9 := pe) (by omega) (k9 := ki) (by omega) (l9 := ld) (by omega) haj c_406)) (Nat.le_of_ble_eq_true rfl) ⟨by omega, by omega⟩ dL_law_418 (fun H locs hLI hS => ?_)
    refine lv_if_ne (tgt := 970) hx hb dL_law_421 (by decide) (fun c_421 => ?_) (fun c_421 => ?_)
    ·
      exact kk S _ _ _ _ ls _ _ hF hFR hP hLI hS (lv_sub hl [9, 10, 11, 12, 13] rfl) ⟨by omega, by omega⟩
    · exact absurd c_421 (by decide)
set_option maxRecDepth 100000 in
set_option maxHeartbeats 4000000 in
theorem law_c4 (hLC : LC p s m c E b L xs) (hF : Fine S) (hFR : FR S f) (hP : S.np = P) (hP0 : 0 < P) (hPs : P < 2 ^ 20) (hPn : P < 2 ^ 20) (hpe : pe < P) (hki : ki < 2) (hLI : LI E S g x1 [(sa, 30, f)] H) (hS : va_S (LA s) s.heap H locs) (hl : lv_has ls 24 ((10, .int (nI S.td)) :: (9, .int (nI ki)) :: (8, .int (nI pe)) :: (7, .int ch) :: (6, .int (nI S.nc)) :: (5, .int x) :: LV b x1 P sa i)) (hcs : cells + 10 ≤ 682005 ∧ slots + 300 ≤ 7055682) (kk : KT p l e s m args below meth c Q E b x1 P sa i cells slots) : W p l e room_1 s m args below meth c H locs cells slots Q (F0 m 673 ls []) := by
  obtain ⟨hx, hb, hml, hown, hY, hX0, hX, hbl, hN, hL⟩ := id hLC
  have hC : CX E s := hY.1
  have hP8 : P ≤ 8 := by have := hF.1.1.np; omega
  refine lv_iload_n hx hb dL_law_673 rfl (lv_at hl 8 rfl) ?_
  refine wl_new (N := P) hLC hLI hS hPs ⟨by omega, by omega⟩ dL_law_674 (fun w4 H hw4 hLI hS => ?_)
  have hw5 : ∀ t ∈ ([(sa, 30, f)] : AR), t.1 ≠ w4 := hw4
  rw [← trI_0 (S := S)] at hLI
  refine lv_astore (lv' := [(18, .ref (w4)), (10, .int (nI S.td)), (9, .int (nI ki)), (8, .int (nI pe)), (7, .int (ch)), (6, .int (nI S.nc)), (5, .int (x)), (4, .int (nI i)), (3, .ref (sa)), (2, .int (nI P)), (1, .ref (x1)), (0, .ref (b))]) hx hb dL_law_676 hl (by decide) rfl (fun ls hl => ?_)
  refine lv_iconst (v := 0) hx hb dL_law_678 (by decide) ?_
  refine lv_istore (lv' := [(19, .int (0)), (18, .ref (w4)), (10, .int (nI S.td)), (9, .int (nI ki)), (8, .int (nI pe)), (7, .int (ch)), (6, .int (nI S.nc)), (5, .int (x)), (4, .int (nI i)), (3, .ref (sa)), (2, .int (nI P)), (1, .ref (x1)), (0, .ref (b))]) hx hb dL_law_679 hl (by decide) rfl (fun ls hl => ?_)
  have loop681 : ∀ (r j : Nat) (H : Heap) (locs : List Loc), j + r = P → LI E S g x1 [(w4, P, trI S j), (sa, 30, f)] H → va_S (LA s) s.heap H locs → ∀ ls, lv_has ls 24 [(19, .int (nI (j))), (18, .ref (w4)), (10, .int (nI S.td)), (9, .int (nI ki)), (8, .int (nI pe)), (7, .int (ch)), (6, .int (nI S.nc)), (5, .int (x)), (4, .int (nI i)), (3, .ref (sa)), (2, .int (nI P)), (1, .ref (x1)), (0, .ref (b))] → W p l e room_1 s m args below meth c H locs (cells + 1) (slots + P) Q (F0 m 681 ls []) := by
    intro r
    induction r with
    | zero =>
      intro j H locs hE hLI hS ls hl
      have hN : P = j := by omega
      subst hN
      refine lv_iload hx hb dL_law_681 (lv_at hl 0 rfl) ?_
      refine lv_iload_n hx hb dL_law_683 rfl (lv_at hl 10 rfl) ?_
      refine lv_icmp_ge (tgt := 705) hx hb dL_law_684 (by decide) (fun c_684 => ?_) (fun c_684 => ?_)
      ·
        refine lv_iload hx hb dL_law_705 (lv_at hl 2 rfl) ?_
        refine lv_bipush (v := 119) hx hb dL_law_707 (by decide) ?_
        refine lv_icmp_ne (tgt := 715) hx hb dL_law_709 (by decide) (fun c_709 => ?_) (fun c_709 => ?_)
        ·
          refine lv_aload_n hx hb dL_law_715 rfl (lv_at hl 11 rfl) ?_
          refine lv_bipush (v := 6) hx hb dL_law_716 (by decide) ?_
          refine wl_rd (As := [.int (6)]) hLC hLI hl (c_X6_many l E hF.1.1 (w9 := 6) (by decide)) (zm_L_40 hC.1) kv_X6_many rfl rfl ⟨Nat.le_of_ble_eq_true rfl, Nat.le_of_ble_eq_true rfl⟩ ⟨rfl, rfl⟩ (Nat.le_of_ble_eq_true rfl) ⟨by omega, by omega⟩ dL_law_718 ?_
          refine lv_istore (lv' := [(19, .int (inA S 3)), (18, .ref (w4)), (10, .int (nI S.td)), (9, .int (nI ki)), (8, .int (nI pe)), (7, .int (ch)), (6, .int (nI S.nc)), (5, .int (x)), (4, .int (nI i)), (3, .ref (sa)), (2, .int (nI P)), (1, .ref (x1)), (0, .ref (b))]) hx hb dL_law_721 hl (by decide) rfl (fun ls hl => ?_)
          refine lv_aload_n hx hb dL_law_723 rfl (lv_at hl 11 rfl) ?_
          refine wl_wr (S' := dayS S) (As := []) hLC hLI hS hl (wm_A (c_X6_day l E hF.1.1 (ne119 hF.1.1.td c_709))) (zm_L_83 hC.1) kv_X6_day rfl rfl ⟨Nat.le_of_ble_eq_true rfl, Nat.le_of_ble_eq_true rfl⟩ ⟨Nat.le_of_ble_eq_true rfl, Nat.le_of_ble_eq_true rfl⟩ (Nat.le_of_ble_eq_true rfl) ⟨by omega, by omega⟩ dL_law_724 (fun g H locs hLI hS => ?_)
          have hFR := fr_day hFR
          have hP0 := hP
          have hP : (dayS S).np = P := day_np.trans hP
          have hI0 := hF.1.1
          have hF := fine_day hF (ne119 hF.1.1.td c_709)
          refine lv_aload_n hx hb dL_law_727 rfl (lv_at hl 11 rfl) ?_
          refine lv_bipush (v := 6) hx hb dL_law_728 (by decide) ?_
          refine wl_rd (As := [.int (6)]) hLC hLI hl (c_X6_many l E hF.1.1 (w9 := 6) (by decide)) (zm_L_40 hC.1) kv_X6_many rfl rfl ⟨Nat.le_of_ble_eq_true rfl, Nat.le_of_ble_eq_true rfl⟩ ⟨rfl, rfl⟩ (Nat.le_of_ble_eq_true rfl) ⟨by omega, by omega⟩ dL_law_730 ?_
          refine lv_iload hx hb dL_law_733 (lv_at hl 0 rfl) ?_
          refine lv_isub hx hb dL_law_735 ?_
          refine lv_icmp_ge (tgt := 741) hx hb dL_law_736 (by decide) (fun c_736 => ?_) (fun c_736 => ?_)
          ·
            refine lv_iconst (v := 0) hx hb dL_law_741 (by decide) ?_
            refine lv_istore (lv' := [(20, .int (0)), (19, .int (inA S 3)), (18, .ref (w4)), (10, .int (nI S.td)), (9, .int (nI ki)), (8, .int (nI pe)), (7, .int (ch)), (6, .int (nI S.nc)), (5, .int (x)), (4, .int (nI i)), (3, .ref (sa)), (2, .int (nI P)), (1, .ref (x1)), (0, .ref (b))]) hx hb dL_law_742 hl (by decide) rfl (fun ls hl => ?_)
            have loop744 : ∀ (r q : Nat), q + r = P → ∀ ls, lv_has ls 24 [(20, .int (nI (q))), (19, .int (inA S 3)), (18, .ref (w4)), (10, .int (nI S.td)), (9, .int (nI ki)), (8, .int (nI pe)), (7, .int (ch)), (6, .int (nI S.nc)), (5, .int (x)), (4, .int (nI i)), (3, .ref (sa)), (2, .int (nI P)), (1, .ref (x1)), (0, .ref (b))] → W p l e room_1 s m args below meth c H locs ((cells + 1) + 2) ((slots + P) + 60) Q (F0 m 744 ls []) := by
              intro r
              induction r with
              | zero =>
                intro q hE ls hl
                have hN : P = q := by omega
                subst hN
                refine lv_iload hx hb dL_law_744 (lv_at hl 0 rfl) ?_
                refine lv_iload_n hx hb dL_law_746 rfl (lv_at hl 11 rfl) ?_
                refine lv_icmp_ge (tgt := 773) hx hb dL_law_747 (by decide) (fun c_747 => ?_) (fun c_747 => ?_)
                ·
                  refine lv_goto (tgt := 970) hx hb dL_law_773 (by decide) ?_
                  exact kk (dayS S) _ _ _ _ ls _ _ hF hFR hP (li_tail hLI) hS (lv_sub hl [9, 10, 11, 12, 13] rfl) ⟨by omega, by omega⟩
                · exact absurd (Int32.le_refl _) c_747
              | succ r ih =>
                intro q hE ls hl
                have hlt : q < P := by omega
                refine lv_iload hx hb dL_law_744 (lv_at hl 0 rfl) ?_
                refine lv_iload_n hx hb dL_law_746 rfl (lv_at hl 11 rfl) ?_
                refine lv_icmp_ge (tgt := 773) hx hb dL_law_747 (by decide) (fun c_747 => ?_) (fun c_747 => ?_)
                · exact absurd c_747 (nI_ge hlt (by omega))
                ·
                  refine lv_aload_n hx hb dL_law_750 rfl (lv_at hl 12 rfl) ?_
                  refine lv_iload hx hb dL_law_751 (lv_at hl 0 rfl) ?_
                  refine lv_iconst (v := 1) hx hb dL_law_753 (by decide) ?_
                  refine wl_rd (As := [.int (nI (q)), .int (1)]) hLC hLI hl (c_X6_ofPerson l E hF.1.1 (p9 := q) (by omega) (w9 := 1) (by decide)) (zm_L_87 hC.1) kv_X6_ofPerson rfl rfl ⟨Nat.le_of_ble_eq_true rfl, Nat.le_of_ble_eq_true rfl⟩ ⟨rfl, rfl⟩ (Nat.le_of_ble_eq_true rfl) ⟨by omega, by omega⟩ dL_law_754 ?_
                  refine lv_aload hx hb dL_law_757 (lv_at hl 2 rfl) ?_
                  refine lv_iload hx hb dL_law_759 (lv_at hl 0 rfl) ?_
                  refine wl_ald hLC hLI List.mem_cons_self ⟨hlt, by omega⟩ dL_law_761 ?_
                  rw [trI_at hlt]
                  refine lv_icmp_eq (tgt := 767) hx hb dL_law_762 (by decide) (fun c_762 => ?_) (fun c_762 => ?_)
                  ·
                    refine lv_iinc (v := nI (q) + 1) (lv' := [(20, .int (nI (q) + 1)), (19, .int (inA S 3)), (18, .ref (w4)), (10, .int (nI S.td)), (9, .int (nI ki)), (8, .int (nI pe)), (7, .int (ch)), (6, .int (nI S.nc)), (5, .int (x)), (4, .int (nI i)), (3, .ref (sa)), (2, .int (nI P)), (1, .ref (x1)), (0, .ref (b))]) hx hb dL_law_767 hl (k := 0) rfl rfl (by decide) rfl (fun ls hl => ?_)
                    refine lv_goto (tgt := 744) hx hb dL_law_770 (by decide) ?_
                    refine ih (q + 1) (by omega) ls ?_
                    rw [nI_succ q]
                    exact lv_sub hl [0, 1, 2, 3, 4, 5, 6, 7, 8, 9, 10, 11, 12, 13] rfl
                  · exact absurd (day_trust hI0 (ne119 hI0.td c_709) (p := q) (by omega)) c_762
            exact loop744 P 0 (Nat.zero_add _) ls (lv_sub hl [0, 1, 2, 3, 4, 5, 6, 7, 8, 9, 10, 11, 12, 13] rfl)
          · exact absurd (Int32.not_lt.mp (day_n hI0)) c_736
        ·
          refine lv_goto (tgt := 970) hx hb dL_law_712 (by decide) ?_
          exact kk S _ _ _ _ ls _ _ hF hFR hP (li_tail hLI) hS (lv_sub hl [8, 9, 10, 11, 12] rfl) ⟨by omega, by omega⟩
      · exact absurd (Int32.le_refl _) c_684
    | succ r ih =>
      intro j H locs hE hLI hS ls hl
      have hlt : j < P := by omega
      refine lv_iload hx hb dL_law_681 (lv_at hl 0 rfl) ?_
      refine lv_iload_n hx hb dL_law_683 rfl (lv_at hl 10 rfl) ?_
      refine lv_icmp_ge (tgt := 705) hx hb dL_law_684 (by decide) (fun c_684 => ?_) (fun c_684 => ?_)
      · exact absurd c_684 (nI_ge hlt (by omega))
      ·
        refine lv_aload hx hb dL_law_687 (lv_at hl 1 rfl) ?_
        refine lv_iload hx hb dL_law_689 (lv_at hl 0 rfl) ?_
        refine lv_aload_n hx hb dL_law_691 rfl (lv_at hl 11 rfl) ?_
        refine lv_iload hx hb dL_law_692 (lv_at hl 0 rfl) ?_
        refine lv_iconst (v := 1) hx hb dL_law_694 (by decide) ?_
        refine wl_rd (As := [.int (nI (j)), .int (1)]) hLC hLI hl (c_X6_trustBehind l E hF.1.1 (p9 := j) (by omega) (dy9 := 1) (by decide) (by decide)) (zm_L_80 hC.1) kv_X6_trustBehind rfl rfl ⟨Nat.le_of_ble_eq_true rfl, Nat.le_of_ble_eq_true rfl⟩ ⟨rfl, rfl⟩ (Nat.le_of_ble_eq_true rfl) ⟨by omega, by omega⟩ dL_law_695 ?_
        refine wl_ast hLC hLI hS hw5 ⟨hlt, by omega⟩ dL_law_698 (fun H locs hLI hS => ?_)
        rw [trI_s] at hLI
        refine lv_iinc (v := nI (j) + 1) (lv' := [(19, .int (nI (j) + 1)), (18, .ref (w4)), (10, .int (nI S.td)), (9, .int (nI ki)), (8, .int (nI pe)), (7, .int (ch)), (6, .int (nI S.nc)), (5, .int (x)), (4, .int (nI i)), (3, .ref (sa)), (2, .int (nI P)), (1, .ref (x1)), (0, .ref (b))]) hx hb dL_law_699 hl (k := 0) rfl rfl (by decide) rfl (fun ls hl => ?_)
        refine lv_goto (tgt := 681) hx hb dL_law_702 (by decide) ?_
        refine ih (j + 1) _ _ (by omega) hLI hS ls ?_
        rw [nI_succ j]
        exact lv_sub hl [0, 1, 2, 3, 4, 5, 6, 7, 8, 9, 10, 11, 12] rfl
  exact loop681 P 0 H locs (Nat.zero_add _) hLI hS ls (lv_sub hl [0, 1, 2, 3, 4, 5, 6, 7, 8, 9, 10, 11, 12] rfl)
end LAWs
