theorem irI_e {o : Option Nat} (h : ¬ o = none) : ∃ j, o = some j := by
  cases o with
  | none => exact absurd rfl h
  | some j => exact ⟨j, rfl⟩
theorem goA_n1 {S : St} {c : Nat} {n am dy tx : Int32} {ro : Option Nat} (h : ¬ S.cs c = 0) : goA S c n am dy tx ro = 0 := if_neg h
theorem goA_n2 {S : St} {c : Nat} {n am dy tx : Int32} {ro : Option Nat} (h : scA S c am dy tx = -1) : goA S c n am dy tx ro = 0 := by
  unfold goA
  rw [if_pos h]
  repeat' split
  all_goals rfl
theorem spl_new {S : St} (hI : Inv S) {c : Nat} (hc : c < S.nc) : splA S c (nI S.nr) = 0 := by
  unfold splA
  rw [if_pos ((hI.2.2.2.1 c hc).2.2.2.2.2.2.2.2.2.2.2.2 S.nr (Nat.le_refl _) (Nat.lt_succ_of_le hI.nr))]
theorem goA_y {S : St} (hI : Inv S) {c : Nat} (hc : c < S.nc) {am dy tx : Int32} (h : S.cs c = 0) (h2 : ¬ scA S c am dy tx = -1) : ¬ goA S c (nI S.nr) am dy tx none = 0 := by
  unfold goA
  rw [if_pos h, if_pos rfl, if_pos (spl_new hI hc), if_neg h2]
  decide
theorem abs_bd {x : Int32} (h1 : -100000 ≤ x.toInt) (h2 : x.toInt ≤ 100000) : 0 ≤ (absI x).toInt ∧ (absI x).toInt ≤ 100000 := by
  have z : (0 : Int32).toInt = 0 := rfl
  unfold absI
  by_cases h : 0 ≤ x
  · rw [if_pos h]
    rw [Int32.le_iff_toInt_le, z] at h
    omega
  · rw [if_neg h]
    rw [Int32.le_iff_toInt_le, z] at h
    rw [sub_bd (by rw [z]; omega) (by rw [z]; omega), z]
    omega
theorem scA_w {S : St} (hI : Inv S) {c : Nat} (hc : c < S.nc) {am dy tx : Int32} (h1 : ¬ am < 1) (h2 : ¬ 9999 < am) (h3 : ¬ dy < 0) (h4 : ¬ 119 < dy) : scA S c am dy tx = -1 ∨ 0 ≤ (scA S c am dy tx).toInt := by
  have ha := hI.ca hc
  have hd := hI.cd hc
  have ht := hI.td
  have b1 := rng1 h1 h2
  have b2 := rng1 h3 h4
  rw [show (1 : Int32).toInt = 1 from rfl, show (9999 : Int32).toInt = 9999 from rfl] at b1
  rw [show (0 : Int32).toInt = 0 from rfl, show (119 : Int32).toInt = 119 from rfl] at b2
  have e1 : (S.ca c - am).toInt = (S.ca c).toInt - am.toInt := sub_bd (by omega) (by omega)
  have e2 : (nI (S.cd c) - dy).toInt = (S.cd c : Int) - dy.toInt := by
    rw [sub_bd (by rw [nI_toInt (by omega)]; omega) (by rw [nI_toInt (by omega)]; omega), nI_toInt (by omega)]
  have q1 := abs_bd (x := S.ca c - am) (by omega) (by omega)
  have q2 := abs_bd (x := nI (S.cd c) - dy) (by omega) (by omega)
  unfold scA scoreA
  by_cases g1 : 10 < absI (S.ca c - am)
  · rw [if_pos g1]; exact Or.inl rfl
  · rw [if_neg g1]
    by_cases g2 : absI (nI (S.cd c) - dy) ≤ 3
    · rw [if_pos g2]
      refine Or.inr ?_
      rw [Int32.lt_iff_toInt_lt, show (10 : Int32).toInt = 10 from rfl] at g1
      rw [Int32.le_iff_toInt_le, show (3 : Int32).toInt = 3 from rfl] at g2
      have m1 : (2 * absI (S.ca c - am)).toInt = 2 * (absI (S.ca c - am)).toInt := mul_bd (by rw [show (2 : Int32).toInt = 2 from rfl]; omega) (by rw [show (2 : Int32).toInt = 2 from rfl]; omega)
      have m2 : (5 * absI (nI (S.cd c) - dy)).toInt = 5 * (absI (nI (S.cd c) - dy)).toInt := mul_bd (by rw [show (5 : Int32).toInt = 5 from rfl]; omega) (by rw [show (5 : Int32).toInt = 5 from rfl]; omega)
      have y : (40 : Int32).toInt = 40 := rfl
      have y2 : (20 : Int32).toInt = 20 := rfl
      have m3 : (40 - 2 * absI (S.ca c - am)).toInt = 40 - 2 * (absI (S.ca c - am)).toInt := by rw [sub_bd (by omega) (by omega), y, m1]
      have m4 : (40 - 2 * absI (S.ca c - am) - 5 * absI (nI (S.cd c) - dy)).toInt = 40 - 2 * (absI (S.ca c - am)).toInt - 5 * (absI (nI (S.cd c) - dy)).toInt := by rw [sub_bd (by omega) (by omega), m3, m2]
      by_cases g3 : S.cx c = tx
      · rw [if_pos g3, add_bd (by omega) (by omega), m4, y2]; omega
      · rw [if_neg g3, m4]; omega
    · rw [if_neg g2]; exact Or.inl rfl
theorem wB_m {S : St} {am dy tx : Int32} : ∀ {n : Nat}, ((wB S am dy tx n).1 = none → (wB S am dy tx n).2 = -1) ∧ ∀ j, (wB S am dy tx n).1 = some j → (wB S am dy tx n).2 = scA S j am dy tx := by
  intro n
  induction n with
  | zero => exact ⟨fun _ => rfl, fun j h => by cases h⟩
  | succ n ih =>
    by_cases h1 : goA S n (nI S.nr) am dy tx none = 0
    · rw [wB_a h1]; exact ih
    · by_cases h2 : scA S n am dy tx ≤ (wB S am dy tx n).2
      · rw [wB_b h1 h2]; exact ih
      · rw [wB_c h1 h2]; exact ⟨(fun h => by cases h), (fun j h => by cases h; rfl)⟩
theorem wB_sc {S : St} {am dy tx : Int32} {n j : Nat} (h : (wB S am dy tx n).1 = some j) : (wB S am dy tx n).2 = scA S j am dy tx := wB_m.2 j h
theorem wB_lt0 {S : St} (hI : Inv S) {c : Nat} (hc : c < S.nc) {am dy tx : Int32} (h1 : ¬ am < 1) (h2 : ¬ 9999 < am) (h3 : ¬ dy < 0) (h4 : ¬ 119 < dy) (hs : ¬ scA S c am dy tx = -1) {n : Nat} (h : (wB S am dy tx n).1 = none) : ¬ scA S c am dy tx ≤ (wB S am dy tx n).2 := by
  rw [wB_m.1 h, Int32.le_iff_toInt_le]
  rcases scA_w hI hc (tx := tx) h1 h2 h3 h4 with e | e
  · exact absurd e hs
  · have : (-1 : Int32).toInt = -1 := rfl
    omega
set_option maxRecDepth 100000 in
set_option maxHeartbeats 4000000 in
theorem c_X12_ofPersonNow (l : Launch) (E : EE) {S : St} {th : Int32} {g : Gh} (hI : Inv S) {p9 : Nat} (hp : p9 < S.np) {w9 : Nat} (hw : w9 ≤ 6) : WM l E yX12_ofPersonNow cX12_ofPersonNow 5 (some .int) (wD 6 1 7) [.ref (g.ad 1 0), .int (nI p9), .int (nI w9)] (RB E S th g) (ow g) (fun _ v H => RB E (S) (th) g H ∧ v = some (.int (ofPersonA S p9 w9))) := by
  refine wm_of rfl (Nat.le_of_ble_eq_true rfl) (fun p e s m below meth c ls hx hb hr hml (hown : s.vm.findClass RX12 = some m.cls) hC hlocks hR hl hini => ?_)
  have hS : va_S (fun q => ow g q ∨ s.heap.size ≤ q) s.heap s.heap [] := va_S.rf
  have hl : lv_has ls 5 [(0, .ref (g.ad 1 0)), (1, .int (nI p9)), (2, .int (nI w9))] := hl
  refine lv_aload_n hx hb dX12_ofPersonNow_0 rfl (lv_at hl 0 rfl) ?_
  refine lv_iload_n hx hb dX12_ofPersonNow_1 rfl (lv_at hl 1 rfl) ?_
  refine rc_V (As := [.int (nI p9)]) hx hb hml hown hC hl (c_X12_of l E hI hp) (rec_of hC (RB.x hR) rfl) (zm_X12_51 hC.1) kv_X12_of hR rfl rfl (rwD_le (by decide) (by decide)) ⟨rfl, rfl⟩ (Nat.le_of_ble_eq_true rfl) ⟨Nat.zero_le _, Nat.zero_le _⟩ dX12_ofPersonNow_2 ?_
  refine lv_astore_n (lv' := [(3, .ref (g.ad 6 (p9))), (0, .ref (g.ad 1 0)), (1, .int (nI p9)), (2, .int (nI w9))]) hx hb dX12_ofPersonNow_5 rfl hl (by decide) rfl (fun ls hl => ?_)
  refine lv_bipush (v := 7) hx hb dX12_ofPersonNow_6 (by decide) ?_
  have hfr := hR.fresh
  have haN := hR.eN_le
  refine g_newi (N := 7) hx hb hC hS (by decide) (Nat.le_of_ble_eq_true rfl) (Nat.le_of_ble_eq_true rfl) dX12_ofPersonNow_8 (fun H1 hA hz hq hS => ?_)
  have hR := hR.kept (fun q h => hq q h)
  refine lv_dup hx hb dX12_ofPersonNow_10 rfl ?_
  refine lv_iconst (v := 0) hx hb dX12_ofPersonNow_11 (by decide) ?_
  refine lv_aload_n hx hb dX12_ofPersonNow_12 rfl (lv_at hl 0 rfl) ?_
  refine gf_X9_1 hx hb hown hC (RB.pe hR hp) (zf_X12_117 hC.1) dX12_ofPersonNow_13 ?_
  refine lw_ifnonnull (tgt := 23) hx hb dX12_ofPersonNow_16 (by decide) (fun j_16 o_16 => ?_) (fun o_16 => ?_)
  ·
    refine lv_aload_n hx hb dX12_ofPersonNow_23 rfl (lv_at hl 0 rfl) ?_
    refine gf_X9_1 hx hb hown hC (RB.pe hR hp) (zf_X12_117 hC.1) dX12_ofPersonNow_24 ?_
    refine lw_some o_16 ?_
    refine gf_X9_0 hx hb hown hC (RB.pe hR (hI.bo hp o_16)) (zf_X12_121 hC.1) dX12_ofPersonNow_27 ?_
    refine g_iast (j := 0) hx hb hC hA hS (Or.inr (Nat.le_refl _)) ⟨rfl, by decide, by decide⟩ dX12_ofPersonNow_30 (fun H1 locs1 hA hz hq hS => ?_)
    have hR := hR.kept1 hfr haN (fun q _ h2 => hq q h2)
    refine lv_dup hx hb dX12_ofPersonNow_31 rfl ?_
    refine lv_iconst (v := 1) hx hb dX12_ofPersonNow_32 (by decide) ?_
    refine lv_aload_n hx hb dX12_ofPersonNow_33 rfl (lv_at hl 0 rfl) ?_
    refine gf_X9_2 hx hb hown hC (RB.pe hR hp) (zf_X12_124 hC.1) dX12_ofPersonNow_34 ?_
    refine g_iast (j := 1) hx hb hC hA hS (Or.inr (Nat.le_refl _)) ⟨rfl, by decide, by decide⟩ dX12_ofPersonNow_37 (fun H1 locs1 hA hz hq hS => ?_)
    have hR := hR.kept1 hfr haN (fun q _ h2 => hq q h2)
    refine lv_dup hx hb dX12_ofPersonNow_38 rfl ?_
    refine lv_iconst (v := 2) hx hb dX12_ofPersonNow_39 (by decide) ?_
    refine lv_aload_n hx hb dX12_ofPersonNow_40 rfl (lv_at hl 0 rfl) ?_
    refine gf_X9_3 hx hb hown hC (RB.pe hR hp) (zf_X12_127 hC.1) dX12_ofPersonNow_41 ?_
    refine g_iast (j := 2) hx hb hC hA hS (Or.inr (Nat.le_refl _)) ⟨rfl, by decide, by decide⟩ dX12_ofPersonNow_44 (fun H1 locs1 hA hz hq hS => ?_)
    have hR := hR.kept1 hfr haN (fun q _ h2 => hq q h2)
    refine lv_dup hx hb dX12_ofPersonNow_45 rfl ?_
    refine lv_iconst (v := 3) hx hb dX12_ofPersonNow_46 (by decide) ?_
    refine lv_aload_n hx hb dX12_ofPersonNow_47 rfl (lv_at hl 1 rfl) ?_
    refine gf_X12_1 hx hb hown hC (RB.x hR) (zf_X12_10 hC.1) dX12_ofPersonNow_48 ?_
    refine lv_iload_n hx hb dX12_ofPersonNow_51 rfl (lv_at hl 2 rfl) ?_
    refine rc_V (As := [.int (nI p9)]) hx hb hml hown hC hl (c_X8_isAway l E hI hp) (rec_of hC (RB.dk hR) rfl) (zm_X12_72 hC.1) kv_X8_isAway hR rfl rfl (rwD_le (by decide) (by decide)) ⟨rfl, rfl⟩ (Nat.le_of_ble_eq_true rfl) ⟨(Nat.le_of_ble_eq_true rfl), (Nat.le_of_ble_eq_true rfl)⟩ dX12_ofPersonNow_52 ?_
    refine lv_if_eq (tgt := 62) hx hb dX12_ofPersonNow_55 (by decide) (fun c_55 => ?_) (fun c_55 => ?_)
    ·
      refine lv_iconst (v := 0) hx hb dX12_ofPersonNow_62 (by decide) ?_
      refine g_iast (j := 3) hx hb hC hA hS (Or.inr (Nat.le_refl _)) ⟨rfl, by decide, by decide⟩ dX12_ofPersonNow_63 (fun H1 locs1 hA hz hq hS => ?_)
      have hR := hR.kept1 hfr haN (fun q _ h2 => hq q h2)
      refine lv_dup hx hb dX12_ofPersonNow_64 rfl ?_
      refine lv_iconst (v := 4) hx hb dX12_ofPersonNow_65 (by decide) ?_
      refine lv_aload_n hx hb dX12_ofPersonNow_66 rfl (lv_at hl 1 rfl) ?_
      refine lv_iload_n hx hb dX12_ofPersonNow_67 rfl (lv_at hl 2 rfl) ?_
      refine rc_V (As := [.int (nI p9)]) hx hb hml hown hC hl (c_X12_openOf l E hI hp) (rec_of hC (RB.x hR) rfl) (zm_X12_130 hC.1) kv_X12_openOf hR rfl rfl (rwD_le (by decide) (by decide)) ⟨rfl, rfl⟩ (Nat.le_of_ble_eq_true rfl) ⟨(Nat.le_of_ble_eq_true rfl), (Nat.le_of_ble_eq_true rfl)⟩ dX12_ofPersonNow_68 ?_
      refine g_iast (j := 4) hx hb hC hA hS (Or.inr (Nat.le_refl _)) ⟨rfl, by decide, by decide⟩ dX12_ofPersonNow_71 (fun H1 locs1 hA hz hq hS => ?_)
      have hR := hR.kept1 hfr haN (fun q _ h2 => hq q h2)
      refine lv_dup hx hb dX12_ofPersonNow_72 rfl ?_
      refine lv_iconst (v := 5) hx hb dX12_ofPersonNow_73 (by decide) ?_
      refine lv_aload_n hx hb dX12_ofPersonNow_74 rfl (lv_at hl 1 rfl) ?_
      refine lv_iload_n hx hb dX12_ofPersonNow_75 rfl (lv_at hl 2 rfl) ?_
      refine rc_V (As := [.int (nI p9)]) hx hb hml hown hC hl (c_X12_repaidOf l E hI hp) (rec_of hC (RB.x hR) rfl) (zm_X12_134 hC.1) kv_X12_repaidOf hR rfl rfl (rwD_le (by decide) (by decide)) ⟨rfl, rfl⟩ (Nat.le_of_ble_eq_true rfl) ⟨(Nat.le_of_ble_eq_true rfl), (Nat.le_of_ble_eq_true rfl)⟩ dX12_ofPersonNow_76 ?_
      refine g_iast (j := 5) hx hb hC hA hS (Or.inr (Nat.le_refl _)) ⟨rfl, by decide, by decide⟩ dX12_ofPersonNow_79 (fun H1 locs1 hA hz hq hS => ?_)
      have hR := hR.kept1 hfr haN (fun q _ h2 => hq q h2)
      refine lv_dup hx hb dX12_ofPersonNow_80 rfl ?_
      refine lv_bipush (v := 6) hx hb dX12_ofPersonNow_81 (by decide) ?_
      refine lv_aload_n hx hb dX12_ofPersonNow_83 rfl (lv_at hl 1 rfl) ?_
      refine lv_iload_n hx hb dX12_ofPersonNow_84 rfl (lv_at hl 2 rfl) ?_
      refine rc_V (As := [.int (nI p9)]) hx hb hml hown hC hl (c_X12_waitingFor l E hI hp) (rec_of hC (RB.x hR) rfl) (zm_X12_137 hC.1) kv_X12_waitingFor hR rfl rfl (rwD_le (by decide) (by decide)) ⟨rfl, rfl⟩ (Nat.le_of_ble_eq_true rfl) ⟨(Nat.le_of_ble_eq_true rfl), (Nat.le_of_ble_eq_true rfl)⟩ dX12_ofPersonNow_85 ?_
      refine g_iast (j := 6) hx hb hC hA hS (Or.inr (Nat.le_refl _)) ⟨rfl, by decide, by decide⟩ dX12_ofPersonNow_88 (fun H1 locs1 hA hz hq hS => ?_)
      have hR := hR.kept1 hfr haN (fun q _ h2 => hq q h2)
      refine lv_astore (lv' := [(4, .ref (s.heap.size)), (3, .ref (g.ad 6 (p9))), (0, .ref (g.ad 1 0)), (1, .int (nI p9)), (2, .int (nI w9))]) hx hb dX12_ofPersonNow_89 hl (by decide) rfl (fun ls hl => ?_)
      refine lv_aload hx hb dX12_ofPersonNow_91 (lv_at hl 0 rfl) ?_
      refine lv_iload_n hx hb dX12_ofPersonNow_93 rfl (lv_at hl 4 rfl) ?_
      refine g_iald (j := w9) hx hb hC hA ⟨rfl, by omega, by decide⟩ dX12_ofPersonNow_94 ?_
      exact wr_i hx hb hr hlocks hS ⟨hR, (by rcases (by omega : w9 = 0 ∨ w9 = 1 ∨ w9 = 2 ∨ w9 = 3 ∨ w9 = 4 ∨ w9 = 5 ∨ w9 = 6) with rfl | rfl | rfl | rfl | rfl | rfl | rfl <;> first | rfl | (simp [va_up, ofPersonA, irI, o_16, c_55]; done))⟩ (Nat.le_of_ble_eq_true rfl) (Nat.le_of_ble_eq_true rfl) dX12_ofPersonNow_95
    ·
      refine lv_iconst (v := 1) hx hb dX12_ofPersonNow_58 (by decide) ?_
      refine lv_goto (tgt := 63) hx hb dX12_ofPersonNow_59 (by decide) ?_
      refine g_iast (j := 3) hx hb hC hA hS (Or.inr (Nat.le_refl _)) ⟨rfl, by decide, by decide⟩ dX12_ofPersonNow_63 (fun H1 locs1 hA hz hq hS => ?_)
      have hR := hR.kept1 hfr haN (fun q _ h2 => hq q h2)
      refine lv_dup hx hb dX12_ofPersonNow_64 rfl ?_
      refine lv_iconst (v := 4) hx hb dX12_ofPersonNow_65 (by decide) ?_
      refine lv_aload_n hx hb dX12_ofPersonNow_66 rfl (lv_at hl 1 rfl) ?_
      refine lv_iload_n hx hb dX12_ofPersonNow_67 rfl (lv_at hl 2 rfl) ?_
      refine rc_V (As := [.int (nI p9)]) hx hb hml hown hC hl (c_X12_openOf l E hI hp) (rec_of hC (RB.x hR) rfl) (zm_X12_130 hC.1) kv_X12_openOf hR rfl rfl (rwD_le (by decide) (by decide)) ⟨rfl, rfl⟩ (Nat.le_of_ble_eq_true rfl) ⟨(Nat.le_of_ble_eq_true rfl), (Nat.le_of_ble_eq_true rfl)⟩ dX12_ofPersonNow_68 ?_
      refine g_iast (j := 4) hx hb hC hA hS (Or.inr (Nat.le_refl _)) ⟨rfl, by decide, by decide⟩ dX12_ofPersonNow_71 (fun H1 locs1 hA hz hq hS => ?_)
      have hR := hR.kept1 hfr haN (fun q _ h2 => hq q h2)
      refine lv_dup hx hb dX12_ofPersonNow_72 rfl ?_
      refine lv_iconst (v := 5) hx hb dX12_ofPersonNow_73 (by decide) ?_
      refine lv_aload_n hx hb dX12_ofPersonNow_74 rfl (lv_at hl 1 rfl) ?_
      refine lv_iload_n hx hb dX12_ofPersonNow_75 rfl (lv_at hl 2 rfl) ?_
      refine rc_V (As := [.int (nI p9)]) hx hb hml hown hC hl (c_X12_repaidOf l E hI hp) (rec_of hC (RB.x hR) rfl) (zm_X12_134 hC.1) kv_X12_repaidOf hR rfl rfl (rwD_le (by decide) (by decide)) ⟨rfl, rfl⟩ (Nat.le_of_ble_eq_true rfl) ⟨(Nat.le_of_ble_eq_true rfl), (Nat.le_of_ble_eq_true rfl)⟩ dX12_ofPersonNow_76 ?_
      refine g_iast (j := 5) hx hb hC hA hS (Or.inr (Nat.le_refl _)) ⟨rfl, by decide, by decide⟩ dX12_ofPersonNow_79 (fun H1 locs1 hA hz hq hS => ?_)
      have hR := hR.kept1 hfr haN (fun q _ h2 => hq q h2)
      refine lv_dup hx hb dX12_ofPersonNow_80 rfl ?_
      refine lv_bipush (v := 6) hx hb dX12_ofPersonNow_81 (by decide) ?_
      refine lv_aload_n hx hb dX12_ofPersonNow_83 rfl (lv_at hl 1 rfl) ?_
      refine lv_iload_n hx hb dX12_ofPersonNow_84 rfl (lv_at hl 2 rfl) ?_
      refine rc_V (As := [.int (nI p9)]) hx hb hml hown hC hl (c_X12_waitingFor l E hI hp) (rec_of hC (RB.x hR) rfl) (zm_X12_137 hC.1) kv_X12_waitingFor hR rfl rfl (rwD_le (by decide) (by decide)) ⟨rfl, rfl⟩ (Nat.le_of_ble_eq_true rfl) ⟨(Nat.le_of_ble_eq_true rfl), (Nat.le_of_ble_eq_true rfl)⟩ dX12_ofPersonNow_85 ?_
      refine g_iast (j := 6) hx hb hC hA hS (Or.inr (Nat.le_refl _)) ⟨rfl, by decide, by decide⟩ dX12_ofPersonNow_88 (fun H1 locs1 hA hz hq hS => ?_)
      have hR := hR.kept1 hfr haN (fun q _ h2 => hq q h2)
      refine lv_astore (lv' := [(4, .ref (s.heap.size)), (3, .ref (g.ad 6 (p9))), (0, .ref (g.ad 1 0)), (1, .int (nI p9)), (2, .int (nI w9))]) hx hb dX12_ofPersonNow_89 hl (by decide) rfl (fun ls hl => ?_)
      refine lv_aload hx hb dX12_ofPersonNow_91 (lv_at hl 0 rfl) ?_
      refine lv_iload_n hx hb dX12_ofPersonNow_93 rfl (lv_at hl 4 rfl) ?_
      refine g_iald (j := w9) hx hb hC hA ⟨rfl, by omega, by decide⟩ dX12_ofPersonNow_94 ?_
      exact wr_i hx hb hr hlocks hS ⟨hR, (by rcases (by omega : w9 = 0 ∨ w9 = 1 ∨ w9 = 2 ∨ w9 = 3 ∨ w9 = 4 ∨ w9 = 5 ∨ w9 = 6) with rfl | rfl | rfl | rfl | rfl | rfl | rfl <;> first | rfl | (simp [va_up, ofPersonA, irI, o_16, c_55]; done))⟩ (Nat.le_of_ble_eq_true rfl) (Nat.le_of_ble_eq_true rfl) dX12_ofPersonNow_95
  ·
    refine lv_iconst (v := (-1)) hx hb dX12_ofPersonNow_19 (by decide) ?_
    refine lv_goto (tgt := 30) hx hb dX12_ofPersonNow_20 (by decide) ?_
    refine g_iast (j := 0) hx hb hC hA hS (Or.inr (Nat.le_refl _)) ⟨rfl, by decide, by decide⟩ dX12_ofPersonNow_30 (fun H1 locs1 hA hz hq hS => ?_)
    have hR := hR.kept1 hfr haN (fun q _ h2 => hq q h2)
    refine lv_dup hx hb dX12_ofPersonNow_31 rfl ?_
    refine lv_iconst (v := 1) hx hb dX12_ofPersonNow_32 (by decide) ?_
    refine lv_aload_n hx hb dX12_ofPersonNow_33 rfl (lv_at hl 0 rfl) ?_
    refine gf_X9_2 hx hb hown hC (RB.pe hR hp) (zf_X12_124 hC.1) dX12_ofPersonNow_34 ?_
    refine g_iast (j := 1) hx hb hC hA hS (Or.inr (Nat.le_refl _)) ⟨rfl, by decide, by decide⟩ dX12_ofPersonNow_37 (fun H1 locs1 hA hz hq hS => ?_)
    have hR := hR.kept1 hfr haN (fun q _ h2 => hq q h2)
    refine lv_dup hx hb dX12_ofPersonNow_38 rfl ?_
    refine lv_iconst (v := 2) hx hb dX12_ofPersonNow_39 (by decide) ?_
    refine lv_aload_n hx hb dX12_ofPersonNow_40 rfl (lv_at hl 0 rfl) ?_
    refine gf_X9_3 hx hb hown hC (RB.pe hR hp) (zf_X12_127 hC.1) dX12_ofPersonNow_41 ?_
    refine g_iast (j := 2) hx hb hC hA hS (Or.inr (Nat.le_refl _)) ⟨rfl, by decide, by decide⟩ dX12_ofPersonNow_44 (fun H1 locs1 hA hz hq hS => ?_)
    have hR := hR.kept1 hfr haN (fun q _ h2 => hq q h2)
    refine lv_dup hx hb dX12_ofPersonNow_45 rfl ?_
    refine lv_iconst (v := 3) hx hb dX12_ofPersonNow_46 (by decide) ?_
    refine lv_aload_n hx hb dX12_ofPersonNow_47 rfl (lv_at hl 1 rfl) ?_
    refine gf_X12_1 hx hb hown hC (RB.x hR) (zf_X12_10 hC.1) dX12_ofPersonNow_48 ?_
    refine lv_iload_n hx hb dX12_ofPersonNow_51 rfl (lv_at hl 2 rfl) ?_
    refine rc_V (As := [.int (nI p9)]) hx hb hml hown hC hl (c_X8_isAway l E hI hp) (rec_of hC (RB.dk hR) rfl) (zm_X12_72 hC.1) kv_X8_isAway hR rfl rfl (rwD_le (by decide) (by decide)) ⟨rfl, rfl⟩ (Nat.le_of_ble_eq_true rfl) ⟨(Nat.le_of_ble_eq_true rfl), (Nat.le_of_ble_eq_true rfl)⟩ dX12_ofPersonNow_52 ?_
    refine lv_if_eq (tgt := 62) hx hb dX12_ofPersonNow_55 (by decide) (fun c_55 => ?_) (fun c_55 => ?_)
    ·
      refine lv_iconst (v := 0) hx hb dX12_ofPersonNow_62 (by decide) ?_
      refine g_iast (j := 3) hx hb hC hA hS (Or.inr (Nat.le_refl _)) ⟨rfl, by decide, by decide⟩ dX12_ofPersonNow_63 (fun H1 locs1 hA hz hq hS => ?_)
      have hR := hR.kept1 hfr haN (fun q _ h2 => hq q h2)
      refine lv_dup hx hb dX12_ofPersonNow_64 rfl ?_
      refine lv_iconst (v := 4) hx hb dX12_ofPersonNow_65 (by decide) ?_
      refine lv_aload_n hx hb dX12_ofPersonNow_66 rfl (lv_at hl 1 rfl) ?_
      refine lv_iload_n hx hb dX12_ofPersonNow_67 rfl (lv_at hl 2 rfl) ?_
      refine rc_V (As := [.int (nI p9)]) hx hb hml hown hC hl (c_X12_openOf l E hI hp) (rec_of hC (RB.x hR) rfl) (zm_X12_130 hC.1) kv_X12_openOf hR rfl rfl (rwD_le (by decide) (by decide)) ⟨rfl, rfl⟩ (Nat.le_of_ble_eq_true rfl) ⟨(Nat.le_of_ble_eq_true rfl), (Nat.le_of_ble_eq_true rfl)⟩ dX12_ofPersonNow_68 ?_
      refine g_iast (j := 4) hx hb hC hA hS (Or.inr (Nat.le_refl _)) ⟨rfl, by decide, by decide⟩ dX12_ofPersonNow_71 (fun H1 locs1 hA hz hq hS => ?_)
      have hR := hR.kept1 hfr haN (fun q _ h2 => hq q h2)
      refine lv_dup hx hb dX12_ofPersonNow_72 rfl ?_
      refine lv_iconst (v := 5) hx hb dX12_ofPersonNow_73 (by decide) ?_
      refine lv_aload_n hx hb dX12_ofPersonNow_74 rfl (lv_at hl 1 rfl) ?_
      refine lv_iload_n hx hb dX12_ofPersonNow_75 rfl (lv_at hl 2 rfl) ?_
      refine rc_V (As := [.int (nI p9)]) hx hb hml hown hC hl (c_X12_repaidOf l E hI hp) (rec_of hC (RB.x hR) rfl) (zm_X12_134 hC.1) kv_X12_repaidOf hR rfl rfl (rwD_le (by decide) (by decide)) ⟨rfl, rfl⟩ (Nat.le_of_ble_eq_true rfl) ⟨(Nat.le_of_ble_eq_true rfl), (Nat.le_of_ble_eq_true rfl)⟩ dX12_ofPersonNow_76 ?_
      refine g_iast (j := 5) hx hb hC hA hS (Or.inr (Nat.le_refl _)) ⟨rfl, by decide, by decide⟩ dX12_ofPersonNow_79 (fun H1 locs1 hA hz hq hS => ?_)
      have hR := hR.kept1 hfr haN (fun q _ h2 => hq q h2)
      refine lv_dup hx hb dX12_ofPersonNow_80 rfl ?_
      refine lv_bipush (v := 6) hx hb dX12_ofPersonNow_81 (by decide) ?_
      refine lv_aload_n hx hb dX12_ofPersonNow_83 rfl (lv_at hl 1 rfl) ?_
      refine lv_iload_n hx hb dX12_ofPersonNow_84 rfl (lv_at hl 2 rfl) ?_
      refine rc_V (As := [.int (nI p9)]) hx hb hml hown hC hl (c_X12_waitingFor l E hI hp) (rec_of hC (RB.x hR) rfl) (zm_X12_137 hC.1) kv_X12_waitingFor hR rfl rfl (rwD_le (by decide) (by decide)) ⟨rfl, rfl⟩ (Nat.le_of_ble_eq_true rfl) ⟨(Nat.le_of_ble_eq_true rfl), (Nat.le_of_ble_eq_true rfl)⟩ dX12_ofPersonNow_85 ?_
      refine g_iast (j := 6) hx hb hC hA hS (Or.inr (Nat.le_refl _)) ⟨rfl, by decide, by decide⟩ dX12_ofPersonNow_88 (fun H1 locs1 hA hz hq hS => ?_)
      have hR := hR.kept1 hfr haN (fun q _ h2 => hq q h2)
      refine lv_astore (lv' := [(4, .ref (s.heap.size)), (3, .ref (g.ad 6 (p9))), (0, .ref (g.ad 1 0)), (1, .int (nI p9)), (2, .int (nI w9))]) hx hb dX12_ofPersonNow_89 hl (by decide) rfl (fun ls hl => ?_)
      refine lv_aload hx hb dX12_ofPersonNow_91 (lv_at hl 0 rfl) ?_
      refine lv_iload_n hx hb dX12_ofPersonNow_93 rfl (lv_at hl 4 rfl) ?_
      refine g_iald (j := w9) hx hb hC hA ⟨rfl, by omega, by decide⟩ dX12_ofPersonNow_94 ?_
      exact wr_i hx hb hr hlocks hS ⟨hR, (by rcases (by omega : w9 = 0 ∨ w9 = 1 ∨ w9 = 2 ∨ w9 = 3 ∨ w9 = 4 ∨ w9 = 5 ∨ w9 = 6) with rfl | rfl | rfl | rfl | rfl | rfl | rfl <;> first | rfl | (simp [va_up, ofPersonA, irI, o_16, c_55]; done))⟩ (Nat.le_of_ble_eq_true rfl) (Nat.le_of_ble_eq_true rfl) dX12_ofPersonNow_95
    ·
      refine lv_iconst (v := 1) hx hb dX12_ofPersonNow_58 (by decide) ?_
      refine lv_goto (tgt := 63) hx hb dX12_ofPersonNow_59 (by decide) ?_
      refine g_iast (j := 3) hx hb hC hA hS (Or.inr (Nat.le_refl _)) ⟨rfl, by decide, by decide⟩ dX12_ofPersonNow_63 (fun H1 locs1 hA hz hq hS => ?_)
      have hR := hR.kept1 hfr haN (fun q _ h2 => hq q h2)
      refine lv_dup hx hb dX12_ofPersonNow_64 rfl ?_
      refine lv_iconst (v := 4) hx hb dX12_ofPersonNow_65 (by decide) ?_
      refine lv_aload_n hx hb dX12_ofPersonNow_66 rfl (lv_at hl 1 rfl) ?_
      refine lv_iload_n hx hb dX12_ofPersonNow_67 rfl (lv_at hl 2 rfl) ?_
      refine rc_V (As := [.int (nI p9)]) hx hb hml hown hC hl (c_X12_openOf l E hI hp) (rec_of hC (RB.x hR) rfl) (zm_X12_130 hC.1) kv_X12_openOf hR rfl rfl (rwD_le (by decide) (by decide)) ⟨rfl, rfl⟩ (Nat.le_of_ble_eq_true rfl) ⟨(Nat.le_of_ble_eq_true rfl), (Nat.le_of_ble_eq_true rfl)⟩ dX12_ofPersonNow_68 ?_
      refine g_iast (j := 4) hx hb hC hA hS (Or.inr (Nat.le_refl _)) ⟨rfl, by decide, by decide⟩ dX12_ofPersonNow_71 (fun H1 locs1 hA hz hq hS => ?_)
      have hR := hR.kept1 hfr haN (fun q _ h2 => hq q h2)
      refine lv_dup hx hb dX12_ofPersonNow_72 rfl ?_
      refine lv_iconst (v := 5) hx hb dX12_ofPersonNow_73 (by decide) ?_
      refine lv_aload_n hx hb dX12_ofPersonNow_74 rfl (lv_at hl 1 rfl) ?_
      refine lv_iload_n hx hb dX12_ofPersonNow_75 rfl (lv_at hl 2 rfl) ?_
      refine rc_V (As := [.int (nI p9)]) hx hb hml hown hC hl (c_X12_repaidOf l E hI hp) (rec_of hC (RB.x hR) rfl) (zm_X12_134 hC.1) kv_X12_repaidOf hR rfl rfl (rwD_le (by decide) (by decide)) ⟨rfl, rfl⟩ (Nat.le_of_ble_eq_true rfl) ⟨(Nat.le_of_ble_eq_true rfl), (Nat.le_of_ble_eq_true rfl)⟩ dX12_ofPersonNow_76 ?_
      refine g_iast (j := 5) hx hb hC hA hS (Or.inr (Nat.le_refl _)) ⟨rfl, by decide, by decide⟩ dX12_ofPersonNow_79 (fun H1 locs1 hA hz hq hS => ?_)
      have hR := hR.kept1 hfr haN (fun q _ h2 => hq q h2)
      refine lv_dup hx hb dX12_ofPersonNow_80 rfl ?_
      refine lv_bipush (v := 6) hx hb dX12_ofPersonNow_81 (by decide) ?_
      refine lv_aload_n hx hb dX12_ofPersonNow_83 rfl (lv_at hl 1 rfl) ?_
      refine lv_iload_n hx hb dX12_ofPersonNow_84 rfl (lv_at hl 2 rfl) ?_
      refine rc_V (As := [.int (nI p9)]) hx hb hml hown hC hl (c_X12_waitingFor l E hI hp) (rec_of hC (RB.x hR) rfl) (zm_X12_137 hC.1) kv_X12_waitingFor hR rfl rfl (rwD_le (by decide) (by decide)) ⟨rfl, rfl⟩ (Nat.le_of_ble_eq_true rfl) ⟨(Nat.le_of_ble_eq_true rfl), (Nat.le_of_ble_eq_true rfl)⟩ dX12_ofPersonNow_85 ?_
      refine g_iast (j := 6) hx hb hC hA hS (Or.inr (Nat.le_refl _)) ⟨rfl, by decide, by decide⟩ dX12_ofPersonNow_88 (fun H1 locs1 hA hz hq hS => ?_)
      have hR := hR.kept1 hfr haN (fun q _ h2 => hq q h2)
      refine lv_astore (lv' := [(4, .ref (s.heap.size)), (3, .ref (g.ad 6 (p9))), (0, .ref (g.ad 1 0)), (1, .int (nI p9)), (2, .int (nI w9))]) hx hb dX12_ofPersonNow_89 hl (by decide) rfl (fun ls hl => ?_)
      refine lv_aload hx hb dX12_ofPersonNow_91 (lv_at hl 0 rfl) ?_
      refine lv_iload_n hx hb dX12_ofPersonNow_93 rfl (lv_at hl 4 rfl) ?_
      refine g_iald (j := w9) hx hb hC hA ⟨rfl, by omega, by decide⟩ dX12_ofPersonNow_94 ?_
      exact wr_i hx hb hr hlocks hS ⟨hR, (by rcases (by omega : w9 = 0 ∨ w9 = 1 ∨ w9 = 2 ∨ w9 = 3 ∨ w9 = 4 ∨ w9 = 5 ∨ w9 = 6) with rfl | rfl | rfl | rfl | rfl | rfl | rfl <;> first | rfl | (simp [va_up, ofPersonA, irI, o_16, c_55]; done))⟩ (Nat.le_of_ble_eq_true rfl) (Nat.le_of_ble_eq_true rfl) dX12_ofPersonNow_95
set_option maxRecDepth 100000 in
set_option maxHeartbeats 4000000 in
theorem c_X12_ofChargeNow (l : Launch) (E : EE) {S : St} {th : Int32} {g : Gh} (hI : Inv S) {c9 : Nat} (hc : c9 < S.nc) {w9 : Nat} (hw : w9 ≤ 11) : WM l E yX12_ofChargeNow cX12_ofChargeNow 4 (some .int) (wD 6 1 12) [.ref (g.ad 1 0), .ref (g.ad 8 (c9)), .int (nI w9)] (RB E S th g) (ow g) (fun _ v H => RB E (S) (th) g H ∧ v = some (.int (ofChargeA S c9 w9))) := by
  refine wm_of rfl (Nat.le_of_ble_eq_true rfl) (fun p e s m below meth c ls hx hb hr hml (hown : s.vm.findClass RX12 = some m.cls) hC hlocks hR hl hini => ?_)
  have hS : va_S (fun q => ow g q ∨ s.heap.size ≤ q) s.heap s.heap [] := va_S.rf
  have hl : lv_has ls 4 [(0, .ref (g.ad 1 0)), (1, .ref (g.ad 8 (c9))), (2, .int (nI w9))] := hl
  refine lv_bipush (v := 12) hx hb dX12_ofChargeNow_0 (by decide) ?_
  have hfr := hR.fresh
  have haN := hR.eN_le
  refine g_newi (N := 12) hx hb hC hS (by decide) (Nat.le_of_ble_eq_true rfl) (Nat.le_of_ble_eq_true rfl) dX12_ofChargeNow_2 (fun H1 hA hz hq hS => ?_)
  have hR := hR.kept (fun q h => hq q h)
  refine lv_dup hx hb dX12_ofChargeNow_4 rfl ?_
  refine lv_iconst (v := 0) hx hb dX12_ofChargeNow_5 (by decide) ?_
  refine lv_aload_n hx hb dX12_ofChargeNow_6 rfl (lv_at hl 1 rfl) ?_
  refine gf_X7_0 hx hb hown hC (RB.ch hR hc) (zf_X12_100 hC.1) dX12_ofChargeNow_7 ?_
  refine g_iast (j := 0) hx hb hC hA hS (Or.inr (Nat.le_refl _)) ⟨rfl, by decide, by decide⟩ dX12_ofChargeNow_10 (fun H1 locs1 hA hz hq hS => ?_)
  have hR := hR.kept1 hfr haN (fun q _ h2 => hq q h2)
  refine lv_dup hx hb dX12_ofChargeNow_11 rfl ?_
  refine lv_iconst (v := 1) hx hb dX12_ofChargeNow_12 (by decide) ?_
  refine lv_aload_n hx hb dX12_ofChargeNow_13 rfl (lv_at hl 1 rfl) ?_
  refine gf_X7_1 hx hb hown hC (RB.ch hR hc) (zf_X12_218 hC.1) dX12_ofChargeNow_14 ?_
  refine g_iast (j := 1) hx hb hC hA hS (Or.inr (Nat.le_refl _)) ⟨rfl, by decide, by decide⟩ dX12_ofChargeNow_17 (fun H1 locs1 hA hz hq hS => ?_)
  have hR := hR.kept1 hfr haN (fun q _ h2 => hq q h2)
  refine lv_dup hx hb dX12_ofChargeNow_18 rfl ?_
  refine lv_iconst (v := 2) hx hb dX12_ofChargeNow_19 (by decide) ?_
  refine lv_aload_n hx hb dX12_ofChargeNow_20 rfl (lv_at hl 1 rfl) ?_
  refine gf_X7_3 hx hb hown hC (RB.ch hR hc) (zf_X12_110 hC.1) dX12_ofChargeNow_21 ?_
  refine g_iast (j := 2) hx hb hC hA hS (Or.inr (Nat.le_refl _)) ⟨rfl, by decide, by decide⟩ dX12_ofChargeNow_24 (fun H1 locs1 hA hz hq hS => ?_)
  have hR := hR.kept1 hfr haN (fun q _ h2 => hq q h2)
  refine lv_dup hx hb dX12_ofChargeNow_25 rfl ?_
  refine lv_iconst (v := 3) hx hb dX12_ofChargeNow_26 (by decide) ?_
  refine lv_aload_n hx hb dX12_ofChargeNow_27 rfl (lv_at hl 1 rfl) ?_
  refine gf_X7_5 hx hb hown hC (RB.ch hR hc) (zf_X12_221 hC.1) dX12_ofChargeNow_28 ?_
  refine g_iast (j := 3) hx hb hC hA hS (Or.inr (Nat.le_refl _)) ⟨rfl, by decide, by decide⟩ dX12_ofChargeNow_31 (fun H1 locs1 hA hz hq hS => ?_)
  have hR := hR.kept1 hfr haN (fun q _ h2 => hq q h2)
  refine lv_dup hx hb dX12_ofChargeNow_32 rfl ?_
  refine lv_iconst (v := 4) hx hb dX12_ofChargeNow_33 (by decide) ?_
  refine lv_aload_n hx hb dX12_ofChargeNow_34 rfl (lv_at hl 1 rfl) ?_
  refine gf_X7_8 hx hb hown hC (RB.ch hR hc) (zf_X12_103 hC.1) dX12_ofChargeNow_35 ?_
  refine g_iast (j := 4) hx hb hC hA hS (Or.inr (Nat.le_refl _)) ⟨rfl, by decide, by decide⟩ dX12_ofChargeNow_38 (fun H1 locs1 hA hz hq hS => ?_)
  have hR := hR.kept1 hfr haN (fun q _ h2 => hq q h2)
  refine lv_dup hx hb dX12_ofChargeNow_39 rfl ?_
  refine lv_iconst (v := 5) hx hb dX12_ofChargeNow_40 (by decide) ?_
  refine lv_aload_n hx hb dX12_ofChargeNow_41 rfl (lv_at hl 1 rfl) ?_
  refine gf_X7_9 hx hb hown hC (RB.ch hR hc) (zf_X12_206 hC.1) dX12_ofChargeNow_42 ?_
  refine g_iast (j := 5) hx hb hC hA hS (Or.inr (Nat.le_refl _)) ⟨rfl, by decide, by decide⟩ dX12_ofChargeNow_45 (fun H1 locs1 hA hz hq hS => ?_)
  have hR := hR.kept1 hfr haN (fun q _ h2 => hq q h2)
  refine lv_dup hx hb dX12_ofChargeNow_46 rfl ?_
  refine lv_bipush (v := 6) hx hb dX12_ofChargeNow_47 (by decide) ?_
  refine lv_aload_n hx hb dX12_ofChargeNow_49 rfl (lv_at hl 1 rfl) ?_
  refine gf_X7_6 hx hb hown hC (RB.ch hR hc) (zf_X12_222 hC.1) dX12_ofChargeNow_50 ?_
  refine g_iast (j := 6) hx hb hC hA hS (Or.inr (Nat.le_refl _)) ⟨rfl, by decide, by decide⟩ dX12_ofChargeNow_53 (fun H1 locs1 hA hz hq hS => ?_)
  have hR := hR.kept1 hfr haN (fun q _ h2 => hq q h2)
  refine lv_dup hx hb dX12_ofChargeNow_54 rfl ?_
  refine lv_bipush (v := 7) hx hb dX12_ofChargeNow_55 (by decide) ?_
  refine lv_aload_n hx hb dX12_ofChargeNow_57 rfl (lv_at hl 0 rfl) ?_
  refine gf_X12_1 hx hb hown hC (RB.x hR) (zf_X12_10 hC.1) dX12_ofChargeNow_58 ?_
  refine lv_aload_n hx hb dX12_ofChargeNow_61 rfl (lv_at hl 1 rfl) ?_
  refine rc_V (As := [.ref (g.ad 8 (c9))]) hx hb hml hown hC hl (c_X8_tax l E hI hc) (rec_of hC (RB.dk hR) rfl) (zm_X12_225 hC.1) kv_X8_tax hR rfl rfl (rwD_le (by decide) (by decide)) ⟨rfl, rfl⟩ (Nat.le_of_ble_eq_true rfl) ⟨(Nat.le_of_ble_eq_true rfl), (Nat.le_of_ble_eq_true rfl)⟩ dX12_ofChargeNow_62 ?_
  refine g_iast (j := 7) hx hb hC hA hS (Or.inr (Nat.le_refl _)) ⟨rfl, by decide, by decide⟩ dX12_ofChargeNow_65 (fun H1 locs1 hA hz hq hS => ?_)
  have hR := hR.kept1 hfr haN (fun q _ h2 => hq q h2)
  refine lv_dup hx hb dX12_ofChargeNow_66 rfl ?_
  refine lv_bipush (v := 8) hx hb dX12_ofChargeNow_67 (by decide) ?_
  refine lv_aload_n hx hb dX12_ofChargeNow_69 rfl (lv_at hl 0 rfl) ?_
  refine gf_X12_1 hx hb hown hC (RB.x hR) (zf_X12_10 hC.1) dX12_ofChargeNow_70 ?_
  refine lv_aload_n hx hb dX12_ofChargeNow_73 rfl (lv_at hl 1 rfl) ?_
  refine lv_iconst (v := 0) hx hb dX12_ofChargeNow_74 (by decide) ?_
  refine rc_V (As := [.ref (g.ad 8 (c9)), .int (0)]) hx hb hml hown hC hl (c_X8_cost l E hI hc (0)) (rec_of hC (RB.dk hR) rfl) (zm_X12_228 hC.1) kv_X8_cost hR rfl rfl (rwD_le (by decide) (by decide)) ⟨rfl, rfl⟩ (Nat.le_of_ble_eq_true rfl) ⟨(Nat.le_of_ble_eq_true rfl), (Nat.le_of_ble_eq_true rfl)⟩ dX12_ofChargeNow_75 ?_
  refine g_iast (j := 8) hx hb hC hA hS (Or.inr (Nat.le_refl _)) ⟨rfl, by decide, by decide⟩ dX12_ofChargeNow_78 (fun H1 locs1 hA hz hq hS => ?_)
  have hR := hR.kept1 hfr haN (fun q _ h2 => hq q h2)
  refine lv_dup hx hb dX12_ofChargeNow_79 rfl ?_
  refine lv_bipush (v := 9) hx hb dX12_ofChargeNow_80 (by decide) ?_
  refine lv_aload_n hx hb dX12_ofChargeNow_82 rfl (lv_at hl 1 rfl) ?_
  refine gf_X7_10 hx hb hown hC (RB.ch hR hc) (zf_X12_209 hC.1) dX12_ofChargeNow_83 ?_
  refine g_iast (j := 9) hx hb hC hA hS (Or.inr (Nat.le_refl _)) ⟨rfl, by decide, by decide⟩ dX12_ofChargeNow_86 (fun H1 locs1 hA hz hq hS => ?_)
  have hR := hR.kept1 hfr haN (fun q _ h2 => hq q h2)
  refine lv_dup hx hb dX12_ofChargeNow_87 rfl ?_
  refine lv_bipush (v := 10) hx hb dX12_ofChargeNow_88 (by decide) ?_
  refine lv_aload_n hx hb dX12_ofChargeNow_90 rfl (lv_at hl 0 rfl) ?_
  refine gf_X12_1 hx hb hown hC (RB.x hR) (zf_X12_10 hC.1) dX12_ofChargeNow_91 ?_
  refine lv_aload_n hx hb dX12_ofChargeNow_94 rfl (lv_at hl 1 rfl) ?_
  refine rc_V (As := [.ref (g.ad 8 (c9))]) hx hb hml hown hC hl (c_X8_approver l E hI hc) (rec_of hC (RB.dk hR) rfl) (zm_X12_113 hC.1) kv_X8_approver hR rfl rfl (rwD_le (by decide) (by decide)) ⟨rfl, rfl⟩ (Nat.le_of_ble_eq_true rfl) ⟨(Nat.le_of_ble_eq_true rfl), (Nat.le_of_ble_eq_true rfl)⟩ dX12_ofChargeNow_95 ?_
  refine g_iast (j := 10) hx hb hC hA hS (Or.inr (Nat.le_refl _)) ⟨rfl, by decide, by decide⟩ dX12_ofChargeNow_98 (fun H1 locs1 hA hz hq hS => ?_)
  have hR := hR.kept1 hfr haN (fun q _ h2 => hq q h2)
  refine lv_dup hx hb dX12_ofChargeNow_99 rfl ?_
  refine lv_bipush (v := 11) hx hb dX12_ofChargeNow_100 (by decide) ?_
  refine lv_aload_n hx hb dX12_ofChargeNow_102 rfl (lv_at hl 1 rfl) ?_
  refine gf_X7_11 hx hb hown hC (RB.ch hR hc) (zf_X12_232 hC.1) dX12_ofChargeNow_103 ?_
  refine lv_if_eq (tgt := 113) hx hb dX12_ofChargeNow_106 (by decide) (fun c_106 => ?_) (fun c_106 => ?_)
  ·
    refine lv_iconst (v := 0) hx hb dX12_ofChargeNow_113 (by decide) ?_
    refine g_iast (j := 11) hx hb hC hA hS (Or.inr (Nat.le_refl _)) ⟨rfl, by decide, by decide⟩ dX12_ofChargeNow_114 (fun H1 locs1 hA hz hq hS => ?_)
    have hR := hR.kept1 hfr haN (fun q _ h2 => hq q h2)
    refine lv_astore_n (lv' := [(3, .ref (s.heap.size)), (0, .ref (g.ad 1 0)), (1, .ref (g.ad 8 (c9))), (2, .int (nI w9))]) hx hb dX12_ofChargeNow_115 rfl hl (by decide) rfl (fun ls hl => ?_)
    refine lv_aload_n hx hb dX12_ofChargeNow_116 rfl (lv_at hl 0 rfl) ?_
    refine lv_iload_n hx hb dX12_ofChargeNow_117 rfl (lv_at hl 3 rfl) ?_
    refine g_iald (j := w9) hx hb hC hA ⟨rfl, by omega, by decide⟩ dX12_ofChargeNow_118 ?_
    exact wr_i hx hb hr hlocks hS ⟨hR, (by rcases (by omega : w9 = 0 ∨ w9 = 1 ∨ w9 = 2 ∨ w9 = 3 ∨ w9 = 4 ∨ w9 = 5 ∨ w9 = 6 ∨ w9 = 7 ∨ w9 = 8 ∨ w9 = 9 ∨ w9 = 10 ∨ w9 = 11) with rfl | rfl | rfl | rfl | rfl | rfl | rfl | rfl | rfl | rfl | rfl | rfl <;> first | rfl | (simp [va_up, ofChargeA, irI, c_106]; done))⟩ (Nat.le_of_ble_eq_true rfl) (Nat.le_of_ble_eq_true rfl) dX12_ofChargeNow_119
  ·
    refine lv_iconst (v := 1) hx hb dX12_ofChargeNow_109 (by decide) ?_
    refine lv_goto (tgt := 114) hx hb dX12_ofChargeNow_110 (by decide) ?_
    refine g_iast (j := 11) hx hb hC hA hS (Or.inr (Nat.le_refl _)) ⟨rfl, by decide, by decide⟩ dX12_ofChargeNow_114 (fun H1 locs1 hA hz hq hS => ?_)
    have hR := hR.kept1 hfr haN (fun q _ h2 => hq q h2)
    refine lv_astore_n (lv' := [(3, .ref (s.heap.size)), (0, .ref (g.ad 1 0)), (1, .ref (g.ad 8 (c9))), (2, .int (nI w9))]) hx hb dX12_ofChargeNow_115 rfl hl (by decide) rfl (fun ls hl => ?_)
    refine lv_aload_n hx hb dX12_ofChargeNow_116 rfl (lv_at hl 0 rfl) ?_
    refine lv_iload_n hx hb dX12_ofChargeNow_117 rfl (lv_at hl 3 rfl) ?_
    refine g_iald (j := w9) hx hb hC hA ⟨rfl, by omega, by decide⟩ dX12_ofChargeNow_118 ?_
    exact wr_i hx hb hr hlocks hS ⟨hR, (by rcases (by omega : w9 = 0 ∨ w9 = 1 ∨ w9 = 2 ∨ w9 = 3 ∨ w9 = 4 ∨ w9 = 5 ∨ w9 = 6 ∨ w9 = 7 ∨ w9 = 8 ∨ w9 = 9 ∨ w9 = 10 ∨ w9 = 11) with rfl | rfl | rfl | rfl | rfl | rfl | rfl | rfl | rfl | rfl | rfl | rfl <;> first | rfl | (simp [va_up, ofChargeA, irI, c_106]; done))⟩ (Nat.le_of_ble_eq_true rfl) (Nat.le_of_ble_eq_true rfl) dX12_ofChargeNow_119
theorem wr_d {p : Program} {l : Launch} {e : Env} {R : Room} {s : State} {m : MethodId} {args : Array Value} {below : List Frame} {meth : Method} {c : Code} {H : Heap} {locs : List Loc} {cells slots : Nat} {cc : ByteArray} {pc : Nat} {ls : Array Slot} {ow : Nat → Prop} {mc ms : Nat} {Post : Option Value → Heap → Prop} {v : UInt64} (hx : p.tables.exec = Jvm.exec) (hb : c.code = cc) (hr : meth.sig.returnType = some .double) (hlocks : meth.locks = false) (hS : va_S (fun q => ow q ∨ s.heap.size ≤ q) s.heap H locs) (hP : Post (some (.double v)) H) (h1 : cells ≤ mc) (h2 : slots ≤ ms) (hdg : decode cc pc = .ok (.dreturn, 1)) : W p l e R s m args below meth c H locs cells slots (MQ below (WQ ow s.heap.size Post) args s mc ms (fun q => ow q ∨ s.heap.size ≤ q)) (F0 m pc ls [.double v]) :=
  W.widen h1 h2 (W.dret hx hb hr (fun t ht _ => ⟨⟨_, rfl, by rw [ht]; exact hP⟩, hS.F ht⟩) hS.2.2 hdg hlocks)
theorem wr_l {p : Program} {l : Launch} {e : Env} {R : Room} {s : State} {m : MethodId} {args : Array Value} {below : List Frame} {meth : Method} {c : Code} {H : Heap} {locs : List Loc} {cells slots : Nat} {cc : ByteArray} {pc : Nat} {ls : Array Slot} {ow : Nat → Prop} {mc ms : Nat} {Post : Option Value → Heap → Prop} {v : Int64} (hx : p.tables.exec = Jvm.exec) (hb : c.code = cc) (hr : meth.sig.returnType = some .long) (hlocks : meth.locks = false) (hS : va_S (fun q => ow q ∨ s.heap.size ≤ q) s.heap H locs) (hP : Post (some (.long v)) H) (h1 : cells ≤ mc) (h2 : slots ≤ ms) (hdg : decode cc pc = .ok (.lreturn, 1)) : W p l e R s m args below meth c H locs cells slots (MQ below (WQ ow s.heap.size Post) args s mc ms (fun q => ow q ∨ s.heap.size ≤ q)) (F0 m pc ls [.long v]) :=
  W.widen h1 h2 (W.lret hx hb hr (fun t ht _ => ⟨⟨_, rfl, by rw [ht]; exact hP⟩, hS.F ht⟩) hS.2.2 hdg hlocks)
set_option maxRecDepth 100000 in
set_option maxHeartbeats 4000000 in
theorem c_X12_meanTrust (l : Launch) (E : EE) {S : St} {th : Int32} {g : Gh} (hI : Inv S)  : WM l E yX12_meanTrust cX12_meanTrust 3 (some .double) (wD 8 0 0) [.ref (g.ad 1 0)] (RB E S th g) (ow g) (fun _ v H => RB E (S) (0) g H ∧ v = some (.double (meanA S))) := by
  refine wm_of rfl (Nat.le_of_ble_eq_true rfl) (fun p e s m below meth c ls hx hb hr hml (hown : s.vm.findClass RX12 = some m.cls) hC hlocks hR hl hini => ?_)
  have hS : va_S (fun q => ow g q ∨ s.heap.size ≤ q) s.heap s.heap [] := va_S.rf
  have hl : lv_has ls 3 [(0, .ref (g.ad 1 0))] := hl
  refine lv_aload_n hx hb dX12_meanTrust_0 rfl (lv_at hl 0 rfl) ?_
  refine lv_iconst (v := 0) hx hb dX12_meanTrust_1 (by decide) ?_
  refine pf_X12_0 hx hb hown hC (RB.x hR) hS (Or.inl (RB.ow hR (k := 1) (i := 0) rfl)) (zf_X12_16 hC.1) rfl rfl dX12_meanTrust_2 (fun H1 locs1 hat hz hq hS => ?_)
  have hR : RB E (S) (0) g H1 := RB.s_th (v := 0) hR hat hq
  refine lv_iconst (v := 0) hx hb dX12_meanTrust_5 (by decide) ?_
  refine lv_istore_n (lv' := [(1, .int (0)), (0, .ref (g.ad 1 0))]) hx hb dX12_meanTrust_6 rfl hl (by decide) rfl (fun ls hl => ?_)
  refine lv_iconst (v := 0) hx hb dX12_meanTrust_7 (by decide) ?_
  refine lv_istore_n (lv' := [(2, .int (0)), (1, .int (0)), (0, .ref (g.ad 1 0))]) hx hb dX12_meanTrust_8 rfl hl (by decide) rfl (fun ls hl => ?_)
  have loop9 : ∀ (r9 i : Nat), i + r9 = S.np → ∀ ls, lv_has ls 3 [(2, .int (nI (i))), (1, .int (sm S.tr i)), (0, .ref (g.ad 1 0))] → W p l e (wD 8 0 0) s m ([.ref (g.ad 1 0)] : List Value).toArray below meth c H1 locs1 0 0 (MQ below (WQ (ow g) s.heap.size (fun v H => RB E (S) (0) g H ∧ v = some (.double (meanA S)))) ([.ref (g.ad 1 0)] : List Value).toArray s (wD 8 0 0).cells (wD 8 0 0).slots (fun q => ow g q ∨ s.heap.size ≤ q)) (F0 m 9 ls []) := by
    intro r9
    induction r9 with
    | zero =>
      intro i hE9 ls hl
      have hN9 : i = S.np := by omega
      subst hN9
      refine lv_iload_n hx hb dX12_meanTrust_9 rfl (lv_at hl 0 rfl) ?_
      refine lv_aload_n hx hb dX12_meanTrust_10 rfl (lv_at hl 2 rfl) ?_
      refine gf_X12_1 hx hb hown hC (RB.x hR) (zf_X12_10 hC.1) dX12_meanTrust_11 ?_
      refine gf_X8_0 hx hb hown hC (RB.dk hR) (zf_X12_24 hC.1) dX12_meanTrust_14 ?_
      refine rc_V (As := []) hx hb hml hown hC hl (c_size l E _ _ _ _) (rec_of hC (RB.ls hR (by decide : 0 < 4)) rfl) (zm_X12_28 hC.1) kv_Jx4a65c_size_8abf5 (RB.ls hR (by decide : 0 < 4)) rfl rfl (rwD_le (by decide) (by decide)) ⟨rfl, rfl⟩ (Nat.le_of_ble_eq_true rfl) ⟨Nat.zero_le _, Nat.zero_le _⟩ dX12_meanTrust_17 ?_
      refine lv_icmp_ge (tgt := 40) hx hb dX12_meanTrust_20 (by decide) (fun c_20 => ?_) (fun c_20 => ?_)
      ·
        refine lv_aload_n hx hb dX12_meanTrust_40 rfl (lv_at hl 2 rfl) ?_
        refine gf_X12_1 hx hb hown hC (RB.x hR) (zf_X12_10 hC.1) dX12_meanTrust_41 ?_
        refine gf_X8_0 hx hb hown hC (RB.dk hR) (zf_X12_24 hC.1) dX12_meanTrust_44 ?_
        refine rc_V (As := []) hx hb hml hown hC hl (c_isEmpty l E _ _ _ _) (rec_of hC (RB.ls hR (by decide : 0 < 4)) rfl) (zm_X12_260 hC.1) kv_Jx4a65c_isEmpty_aae02 (RB.ls hR (by decide : 0 < 4)) rfl rfl (rwD_le (by decide) (by decide)) ⟨rfl, rfl⟩ (Nat.le_of_ble_eq_true rfl) ⟨Nat.zero_le _, Nat.zero_le _⟩ dX12_meanTrust_47 ?_
        refine lv_if_eq (tgt := 57) hx hb dX12_meanTrust_50 (by decide) (fun c_50 => ?_) (fun c_50 => ?_)
        ·
          refine lv_iload_n hx hb dX12_meanTrust_57 rfl (lv_at hl 1 rfl) ?_
          refine lv_i2d hx hb dX12_meanTrust_58 ?_
          refine lv_aload_n hx hb dX12_meanTrust_59 rfl (lv_at hl 2 rfl) ?_
          refine gf_X12_1 hx hb hown hC (RB.x hR) (zf_X12_10 hC.1) dX12_meanTrust_60 ?_
          refine gf_X8_0 hx hb hown hC (RB.dk hR) (zf_X12_24 hC.1) dX12_meanTrust_63 ?_
          refine rc_V (As := []) hx hb hml hown hC hl (c_size l E _ _ _ _) (rec_of hC (RB.ls hR (by decide : 0 < 4)) rfl) (zm_X12_28 hC.1) kv_Jx4a65c_size_8abf5 (RB.ls hR (by decide : 0 < 4)) rfl rfl (rwD_le (by decide) (by decide)) ⟨rfl, rfl⟩ (Nat.le_of_ble_eq_true rfl) ⟨Nat.zero_le _, Nat.zero_le _⟩ dX12_meanTrust_66 ?_
          refine lv_i2d hx hb dX12_meanTrust_69 ?_
          refine lv_ddiv hx hb dX12_meanTrust_70 (mean_n hI (Nat.pos_of_ne_zero (fun h => by have c2 : (if nI S.np = 0 then (1 : Int32) else 0) = 0 := c_50; rw [h] at c2; exact absurd c2 (by decide)))) ?_
          exact wr_d hx hb hr hlocks hS ⟨hR, congrArg (fun v => some (Value.double v)) (if_pos c_50).symm⟩ (Nat.le_of_ble_eq_true rfl) (Nat.le_of_ble_eq_true rfl) dX12_meanTrust_71
        ·
          refine lv_dconst0 hx hb dX12_meanTrust_53 ?_
          refine lv_goto (tgt := 71) hx hb dX12_meanTrust_54 (by decide) ?_
          exact wr_d hx hb hr hlocks hS ⟨hR, congrArg (fun v => some (Value.double v)) (if_neg c_50).symm⟩ (Nat.le_of_ble_eq_true rfl) (Nat.le_of_ble_eq_true rfl) dX12_meanTrust_71
      · exact absurd (Int32.le_refl _) c_20
    | succ r9 ih9 =>
      intro i hE9 ls hl
      have hlt9 : i < S.np := by omega
      refine lv_iload_n hx hb dX12_meanTrust_9 rfl (lv_at hl 0 rfl) ?_
      refine lv_aload_n hx hb dX12_meanTrust_10 rfl (lv_at hl 2 rfl) ?_
      refine gf_X12_1 hx hb hown hC (RB.x hR) (zf_X12_10 hC.1) dX12_meanTrust_11 ?_
      refine gf_X8_0 hx hb hown hC (RB.dk hR) (zf_X12_24 hC.1) dX12_meanTrust_14 ?_
      refine rc_V (As := []) hx hb hml hown hC hl (c_size l E _ _ _ _) (rec_of hC (RB.ls hR (by decide : 0 < 4)) rfl) (zm_X12_28 hC.1) kv_Jx4a65c_size_8abf5 (RB.ls hR (by decide : 0 < 4)) rfl rfl (rwD_le (by decide) (by decide)) ⟨rfl, rfl⟩ (Nat.le_of_ble_eq_true rfl) ⟨Nat.zero_le _, Nat.zero_le _⟩ dX12_meanTrust_17 ?_
      refine lv_icmp_ge (tgt := 40) hx hb dX12_meanTrust_20 (by decide) (fun c_20 => ?_) (fun c_20 => ?_)
      · exact absurd c_20 (nI_ge hlt9 hI.np31)
      ·
        refine lv_iload_n hx hb dX12_meanTrust_23 rfl (lv_at hl 1 rfl) ?_
        refine lv_aload_n hx hb dX12_meanTrust_24 rfl (lv_at hl 2 rfl) ?_
        refine lv_iload_n hx hb dX12_meanTrust_25 rfl (lv_at hl 0 rfl) ?_
        refine rc_V (As := [.int (nI (i))]) hx hb hml hown hC hl (c_X12_of l E hI hlt9) (rec_of hC (RB.x hR) rfl) (zm_X12_51 hC.1) kv_X12_of hR rfl rfl (rwD_le (by decide) (by decide)) ⟨rfl, rfl⟩ (Nat.le_of_ble_eq_true rfl) ⟨Nat.zero_le _, Nat.zero_le _⟩ dX12_meanTrust_26 ?_
        refine gf_X9_2 hx hb hown hC (RB.pe hR hlt9) (zf_X12_124 hC.1) dX12_meanTrust_29 ?_
        refine lv_iadd hx hb dX12_meanTrust_32 ?_
        refine lv_istore_n (lv' := [(1, .int ((sm S.tr i) + (S.tr (i)))), (2, .int (nI (i))), (0, .ref (g.ad 1 0))]) hx hb dX12_meanTrust_33 rfl hl (by decide) rfl (fun ls hl => ?_)
        refine lv_iinc (v := nI (i) + 1) (lv' := [(2, .int (nI (i) + 1)), (1, .int ((sm S.tr i) + (S.tr (i)))), (0, .ref (g.ad 1 0))]) hx hb dX12_meanTrust_34 hl (k := 1) rfl rfl (by decide) rfl (fun ls hl => ?_)
        refine lv_goto (tgt := 9) hx hb dX12_meanTrust_37 (by decide) ?_
        refine ih9 (i + 1) (by omega) ls ?_
        rw [nI_succ i]
        exact lv_sub hl [0, 1, 2] rfl
  exact loop9 (S.np) 0 (by omega) ls (lv_sub hl [0, 1, 2] rfl)
set_option maxRecDepth 100000 in
set_option maxHeartbeats 4000000 in
theorem c_X12_wouldMatch (l : Launch) (E : EE) {S : St} {th : Int32} {g : Gh} (hI : Inv S) {am dy tx : Int32} (h1 : ¬ am < 1) (h2 : ¬ 9999 < am) (h3 : ¬ dy < 0) (h4 : ¬ 119 < dy) (h5 : ¬ tx < 0) (h6 : ¬ 9 < tx) : WM l E yX12_wouldMatch cX12_wouldMatch 7 (some .int) (wD 8 1 4) [.ref (g.ad 1 0), .int (am), .int (dy), .int (tx)] (RB E S th g) (ow g) (fun _ v H => RB E (S) (0) g H ∧ v = some (.int (irI (wB S am dy tx S.nc).1))) := by
  refine wm_of rfl (Nat.le_of_ble_eq_true rfl) (fun p e s m below meth c ls hx hb hr hml (hown : s.vm.findClass RX12 = some m.cls) hC hlocks hR hl hini => ?_)
  have hS : va_S (fun q => ow g q ∨ s.heap.size ≤ q) s.heap s.heap [] := va_S.rf
  have hl : lv_has ls 7 [(0, .ref (g.ad 1 0)), (1, .int (am)), (2, .int (dy)), (3, .int (tx))] := hl
  refine lv_aload_n hx hb dX12_wouldMatch_0 rfl (lv_at hl 0 rfl) ?_
  refine lv_iload_n hx hb dX12_wouldMatch_1 rfl (lv_at hl 1 rfl) ?_
  refine lv_iload_n hx hb dX12_wouldMatch_2 rfl (lv_at hl 2 rfl) ?_
  refine lv_iload_n hx hb dX12_wouldMatch_3 rfl (lv_at hl 3 rfl) ?_
  refine wcw_V (As := [.int (am), .int (dy), .int (tx)]) hx hb hml hown hC hl (c_X12_isNoReceipt_0 l E hI h1 h2 h3 h4 h5 h6) (rec_of hC (RB.x hR) rfl) (zm_X12_182 hC.1) kv_X12_isNoReceipt hR hS (fun q h => h.imp id (Nat.le_trans hS.1)) rfl rfl (wD_le (by decide) (by decide)) (Nat.le_of_ble_eq_true rfl) ⟨Nat.le_of_ble_eq_true rfl, Nat.le_of_ble_eq_true rfl⟩ dX12_wouldMatch_4 (fun H1 locs1 hR hz hq hS => ?_)
  refine lv_if_eq (tgt := 12) hx hb dX12_wouldMatch_7 (by decide) (fun c_7 => ?_) (fun c_7 => ?_)
  ·
    have c_7 : (0 : Int32) = (0) := c_7
    have hfr := hR.fresh
    have haN := hR.eN_le
    have hsz := hS.1
    obtain ⟨n2, hn2⟩ : ∃ n, n = H1.size := ⟨_, rfl⟩
    refine nw_X10 hx hb hown hC (zc_X12_188 hC.1) hS (Nat.le_of_ble_eq_true rfl) (Nat.le_of_ble_eq_true rfl) dX12_wouldMatch_12 (fun H1 hN hz hq hS => ?_)
    rw [← hn2] at hN hfr haN ⊢
    have hR := hR.kept (fun q h => hq q h)
    refine lv_dup hx hb dX12_wouldMatch_15 rfl ?_
    refine lv_iload_n hx hb dX12_wouldMatch_16 rfl (lv_at hl 1 rfl) ?_
    refine lv_iload_n hx hb dX12_wouldMatch_17 rfl (lv_at hl 2 rfl) ?_
    refine lv_iload_n hx hb dX12_wouldMatch_18 rfl (lv_at hl 3 rfl) ?_
    refine wcv_I (As := [.int (am), .int (dy), .int (tx)]) hx hb hml hown hC hl (c_X10_init l E (q9 := n2) (a9 := am) (b9 := dy) (c9 := tx)) (zm_X12_190 hC.1) kv_X10_init hN hS (fun q h => h.elim (fun e => e ▸ (Or.inr (by omega))) (fun e => Or.inr (Nat.le_trans hS.1 e))) rfl rfl (wD_le (by decide) (by decide)) (Nat.le_of_ble_eq_true rfl) ⟨Nat.le_of_ble_eq_true rfl, Nat.le_of_ble_eq_true rfl⟩ dX12_wouldMatch_19 (fun H1 locs1 hO9 hz hq hS => ?_)
    have hN := hO9
    have hR := hR.kept1 hfr haN (fun q h1 h2 => hq q h1 h2)
    refine lv_astore (lv' := [(4, .ref (n2)), (0, .ref (g.ad 1 0)), (1, .int (am)), (2, .int (dy)), (3, .int (tx))]) hx hb dX12_wouldMatch_22 hl (by decide) rfl (fun ls hl => ?_)
    refine lv_iconst (v := (-1)) hx hb dX12_wouldMatch_24 (by decide) ?_
    refine lv_istore (lv' := [(5, .int ((-1))), (4, .ref (n2)), (0, .ref (g.ad 1 0)), (1, .int (am)), (2, .int (dy)), (3, .int (tx))]) hx hb dX12_wouldMatch_25 hl (by decide) rfl (fun ls hl => ?_)
    refine lv_iconst (v := 0) hx hb dX12_wouldMatch_27 (by decide) ?_
    refine lv_istore (lv' := [(6, .int (0)), (5, .int ((-1))), (4, .ref (n2)), (0, .ref (g.ad 1 0)), (1, .int (am)), (2, .int (dy)), (3, .int (tx))]) hx hb dX12_wouldMatch_28 hl (by decide) rfl (fun ls hl => ?_)
    have loop30 : ∀ (r30 i : Nat), i + r30 = S.nc → ∀ ls, lv_has ls 7 [(6, .int (nI (i))), (5, .int (irI (wB S am dy tx i).1)), (4, .ref (n2)), (0, .ref (g.ad 1 0)), (1, .int (am)), (2, .int (dy)), (3, .int (tx))] → W p l e (wD 8 1 4) s m ([.ref (g.ad 1 0), .int (am), .int (dy), .int (tx)] : List Value).toArray below meth c H1 locs1 1 4 (MQ below (WQ (ow g) s.heap.size (fun v H => RB E (S) (0) g H ∧ v = some (.int (irI (wB S am dy tx S.nc).1)))) ([.ref (g.ad 1 0), .int (am), .int (dy), .int (tx)] : List Value).toArray s (wD 8 1 4).cells (wD 8 1 4).slots (fun q => ow g q ∨ s.heap.size ≤ q)) (F0 m 30 ls []) := by
      intro r30
      induction r30 with
      | zero =>
        intro i hE30 ls hl
        have hN30 : i = S.nc := by omega
        subst hN30
        refine lv_iload hx hb dX12_wouldMatch_30 (lv_at hl 0 rfl) ?_
        refine lv_aload_n hx hb dX12_wouldMatch_32 rfl (lv_at hl 3 rfl) ?_
        refine gf_X12_1 hx hb hown hC (RB.x hR) (zf_X12_10 hC.1) dX12_wouldMatch_33 ?_
        refine gf_X8_2 hx hb hown hC (RB.dk hR) (zf_X12_95 hC.1) dX12_wouldMatch_36 ?_
        refine rc_V (As := []) hx hb hml hown hC hl (c_size l E _ _ _ _) (rec_of hC (RB.ls hR (by decide : 2 < 4)) rfl) (zm_X12_28 hC.1) kv_Jx4a65c_size_8abf5 (RB.ls hR (by decide : 2 < 4)) rfl rfl (rwD_le (by decide) (by decide)) ⟨rfl, rfl⟩ (Nat.le_of_ble_eq_true rfl) ⟨(Nat.le_of_ble_eq_true rfl), (Nat.le_of_ble_eq_true rfl)⟩ dX12_wouldMatch_39 ?_
        refine lv_icmp_ge (tgt := 116) hx hb dX12_wouldMatch_42 (by decide) (fun c_42 => ?_) (fun c_42 => ?_)
        ·
          refine lv_iload hx hb dX12_wouldMatch_116 (lv_at hl 1 rfl) ?_
          exact wr_i hx hb hr hlocks hS ⟨hR, rfl⟩ (Nat.le_of_ble_eq_true rfl) (Nat.le_of_ble_eq_true rfl) dX12_wouldMatch_118
        · exact absurd (Int32.le_refl _) c_42
      | succ r30 ih30 =>
        intro i hE30 ls hl
        have hlt30 : i < S.nc := by omega
        refine lv_iload hx hb dX12_wouldMatch_30 (lv_at hl 0 rfl) ?_
        refine lv_aload_n hx hb dX12_wouldMatch_32 rfl (lv_at hl 3 rfl) ?_
        refine gf_X12_1 hx hb hown hC (RB.x hR) (zf_X12_10 hC.1) dX12_wouldMatch_33 ?_
        refine gf_X8_2 hx hb hown hC (RB.dk hR) (zf_X12_95 hC.1) dX12_wouldMatch_36 ?_
        refine rc_V (As := []) hx hb hml hown hC hl (c_size l E _ _ _ _) (rec_of hC (RB.ls hR (by decide : 2 < 4)) rfl) (zm_X12_28 hC.1) kv_Jx4a65c_size_8abf5 (RB.ls hR (by decide : 2 < 4)) rfl rfl (rwD_le (by decide) (by decide)) ⟨rfl, rfl⟩ (Nat.le_of_ble_eq_true rfl) ⟨(Nat.le_of_ble_eq_true rfl), (Nat.le_of_ble_eq_true rfl)⟩ dX12_wouldMatch_39 ?_
        refine lv_icmp_ge (tgt := 116) hx hb dX12_wouldMatch_42 (by decide) (fun c_42 => ?_) (fun c_42 => ?_)
        · exact absurd c_42 (nI_ge hlt30 hI.nc31)
        ·
          refine lv_aload_n hx hb dX12_wouldMatch_45 rfl (lv_at hl 3 rfl) ?_
          refine lv_iload hx hb dX12_wouldMatch_46 (lv_at hl 0 rfl) ?_
          refine rc_V (As := [.int (nI (i))]) hx hb hml hown hC hl (c_X12_charge_ l E hI hlt30) (rec_of hC (RB.x hR) rfl) (zm_X12_198 hC.1) kv_X12_charge_ hR rfl rfl (rwD_le (by decide) (by decide)) ⟨rfl, rfl⟩ (Nat.le_of_ble_eq_true rfl) ⟨(Nat.le_of_ble_eq_true rfl), (Nat.le_of_ble_eq_true rfl)⟩ dX12_wouldMatch_48 ?_
          refine gf_X7_8 hx hb hown hC (RB.ch hR hlt30) (zf_X12_103 hC.1) dX12_wouldMatch_51 ?_
          refine lv_if_ne (tgt := 110) hx hb dX12_wouldMatch_54 (by decide) (fun c_54 => ?_) (fun c_54 => ?_)
          ·
            have c_54 : ¬ (S.cs (i) : Int32) = (0) := c_54
            refine lv_iinc (v := nI (i) + 1) (lv' := [(6, .int (nI (i) + 1)), (5, .int (irI (wB S am dy tx i).1)), (4, .ref (n2)), (0, .ref (g.ad 1 0)), (1, .int (am)), (2, .int (dy)), (3, .int (tx))]) hx hb dX12_wouldMatch_110 hl (k := 0) rfl rfl (by decide) rfl (fun ls hl => ?_)
            refine lv_goto (tgt := 30) hx hb dX12_wouldMatch_113 (by decide) ?_
            refine ih30 (i + 1) (by omega) ls ?_
            rw [nI_succ i, wB_a (goA_n1 c_54)]
            exact lv_sub hl [0, 1, 2, 3, 4, 5, 6] rfl
          ·
            have c_54 : (S.cs (i) : Int32) = (0) := c_54
            refine lv_aload_n hx hb dX12_wouldMatch_57 rfl (lv_at hl 3 rfl) ?_
            refine lv_iload hx hb dX12_wouldMatch_58 (lv_at hl 0 rfl) ?_
            refine rc_V (As := [.int (nI (i))]) hx hb hml hown hC hl (c_X12_charge_ l E hI hlt30) (rec_of hC (RB.x hR) rfl) (zm_X12_198 hC.1) kv_X12_charge_ hR rfl rfl (rwD_le (by decide) (by decide)) ⟨rfl, rfl⟩ (Nat.le_of_ble_eq_true rfl) ⟨(Nat.le_of_ble_eq_true rfl), (Nat.le_of_ble_eq_true rfl)⟩ dX12_wouldMatch_60 ?_
            refine lv_aload hx hb dX12_wouldMatch_63 (lv_at hl 2 rfl) ?_
            refine rc_V (As := [.ref (n2)]) hx hb hml hown hC hl (c_X7_score l E hI hlt30 (n2) (am) (dy) (tx) ((-1))) (rec_of hC (RB.ch hR hlt30) rfl) (zm_X12_243 hC.1) kv_X7_score ⟨hR, hN⟩ rfl rfl (rwD_le (by decide) (by decide)) ⟨rfl, rfl⟩ (Nat.le_of_ble_eq_true rfl) ⟨(Nat.le_of_ble_eq_true rfl), (Nat.le_of_ble_eq_true rfl)⟩ dX12_wouldMatch_65 ?_
            refine lv_iconst (v := (-1)) hx hb dX12_wouldMatch_68 (by decide) ?_
            refine lv_icmp_ne (tgt := 75) hx hb dX12_wouldMatch_69 (by decide) (fun c_69 => ?_) (fun c_69 => ?_)
            ·
              have c_69 : ¬ (scA S (i) (am) (dy) (tx) : Int32) = ((-1)) := c_69
              refine lv_iload hx hb dX12_wouldMatch_75 (lv_at hl 1 rfl) ?_
              refine lv_iconst (v := (-1)) hx hb dX12_wouldMatch_77 (by decide) ?_
              refine lv_icmp_eq (tgt := 106) hx hb dX12_wouldMatch_78 (by decide) (fun c_78 => ?_) (fun c_78 => ?_)
              ·
                have c_78 : (irI (wB S am dy tx i).1 : Int32) = ((-1)) := c_78
                have c_78 : (wB S am dy tx i).1 = none := (irI_m (fun j hj => Nat.lt_trans (Nat.lt_trans (wB_lt hj) hlt30) hI.nc31)).mp c_78
                refine lv_iload hx hb dX12_wouldMatch_106 (lv_at hl 0 rfl) ?_
                refine lv_istore (lv' := [(5, .int (nI (i))), (6, .int (nI (i))), (4, .ref (n2)), (0, .ref (g.ad 1 0)), (1, .int (am)), (2, .int (dy)), (3, .int (tx))]) hx hb dX12_wouldMatch_108 hl (by decide) rfl (fun ls hl => ?_)
                refine lv_iinc (v := nI (i) + 1) (lv' := [(6, .int (nI (i) + 1)), (5, .int (nI (i))), (4, .ref (n2)), (0, .ref (g.ad 1 0)), (1, .int (am)), (2, .int (dy)), (3, .int (tx))]) hx hb dX12_wouldMatch_110 hl (k := 1) rfl rfl (by decide) rfl (fun ls hl => ?_)
                refine lv_goto (tgt := 30) hx hb dX12_wouldMatch_113 (by decide) ?_
                refine ih30 (i + 1) (by omega) ls ?_
                rw [nI_succ i, wB_c (goA_y hI hlt30 c_54 c_69) (wB_lt0 hI hlt30 h1 h2 h3 h4 c_69 c_78)]
                exact lv_sub hl [0, 1, 2, 3, 4, 5, 6] rfl
              ·
                have c_78 : ¬ (irI (wB S am dy tx i).1 : Int32) = ((-1)) := c_78
                have c_78 : ¬ (wB S am dy tx i).1 = none := fun e => c_78 (by rw [e]; rfl)
                obtain ⟨j9, hj⟩ : ∃ j, (wB S am dy tx i).1 = some j := irI_e c_78
                have hl := hl
                rw [show irI (wB S am dy tx i).1 = nI j9 by rw [hj]; rfl] at hl
                refine lv_aload_n hx hb dX12_wouldMatch_81 rfl (lv_at hl 3 rfl) ?_
                refine lv_iload hx hb dX12_wouldMatch_82 (lv_at hl 0 rfl) ?_
                refine rc_V (As := [.int (nI (i))]) hx hb hml hown hC hl (c_X12_charge_ l E hI hlt30) (rec_of hC (RB.x hR) rfl) (zm_X12_198 hC.1) kv_X12_charge_ hR rfl rfl (rwD_le (by decide) (by decide)) ⟨rfl, rfl⟩ (Nat.le_of_ble_eq_true rfl) ⟨(Nat.le_of_ble_eq_true rfl), (Nat.le_of_ble_eq_true rfl)⟩ dX12_wouldMatch_84 ?_
                refine lv_aload hx hb dX12_wouldMatch_87 (lv_at hl 2 rfl) ?_
                refine rc_V (As := [.ref (n2)]) hx hb hml hown hC hl (c_X7_score l E hI hlt30 (n2) (am) (dy) (tx) ((-1))) (rec_of hC (RB.ch hR hlt30) rfl) (zm_X12_243 hC.1) kv_X7_score ⟨hR, hN⟩ rfl rfl (rwD_le (by decide) (by decide)) ⟨rfl, rfl⟩ (Nat.le_of_ble_eq_true rfl) ⟨(Nat.le_of_ble_eq_true rfl), (Nat.le_of_ble_eq_true rfl)⟩ dX12_wouldMatch_89 ?_
                refine lv_aload_n hx hb dX12_wouldMatch_92 rfl (lv_at hl 3 rfl) ?_
                refine lv_iload hx hb dX12_wouldMatch_93 (lv_at hl 1 rfl) ?_
                refine rc_V (As := [.int (nI j9)]) hx hb hml hown hC hl (c_X12_charge_ l E hI (Nat.lt_trans (wB_lt hj) hlt30)) (rec_of hC (RB.x hR) rfl) (zm_X12_198 hC.1) kv_X12_charge_ hR rfl rfl (rwD_le (by decide) (by decide)) ⟨rfl, rfl⟩ (Nat.le_of_ble_eq_true rfl) ⟨(Nat.le_of_ble_eq_true rfl), (Nat.le_of_ble_eq_true rfl)⟩ dX12_wouldMatch_95 ?_
                refine lv_aload hx hb dX12_wouldMatch_98 (lv_at hl 2 rfl) ?_
                refine rc_V (As := [.ref (n2)]) hx hb hml hown hC hl (c_X7_score l E hI (Nat.lt_trans (wB_lt hj) hlt30) (n2) (am) (dy) (tx) ((-1))) (rec_of hC (RB.ch hR (Nat.lt_trans (wB_lt hj) hlt30)) rfl) (zm_X12_243 hC.1) kv_X7_score ⟨hR, hN⟩ rfl rfl (rwD_le (by decide) (by decide)) ⟨rfl, rfl⟩ (Nat.le_of_ble_eq_true rfl) ⟨(Nat.le_of_ble_eq_true rfl), (Nat.le_of_ble_eq_true rfl)⟩ dX12_wouldMatch_100 ?_
                refine lv_icmp_le (tgt := 110) hx hb dX12_wouldMatch_103 (by decide) (fun c_103 => ?_) (fun c_103 => ?_)
                ·
                  have c_103 : (scA S (i) (am) (dy) (tx) : Int32) ≤ (scA S (j9) (am) (dy) (tx)) := c_103
                  refine lv_iinc (v := nI (i) + 1) (lv' := [(6, .int (nI (i) + 1)), (5, .int (nI j9)), (4, .ref (n2)), (0, .ref (g.ad 1 0)), (1, .int (am)), (2, .int (dy)), (3, .int (tx))]) hx hb dX12_wouldMatch_110 hl (k := 0) rfl rfl (by decide) rfl (fun ls hl => ?_)
                  refine lv_goto (tgt := 30) hx hb dX12_wouldMatch_113 (by decide) ?_
                  refine ih30 (i + 1) (by omega) ls ?_
                  rw [nI_succ i, wB_b (goA_y hI hlt30 c_54 c_69) (by rw [wB_sc hj]; exact c_103), hj]
                  exact lv_sub hl [0, 1, 2, 3, 4, 5, 6] rfl
                ·
                  have c_103 : ¬ (scA S (i) (am) (dy) (tx) : Int32) ≤ (scA S (j9) (am) (dy) (tx)) := c_103
                  refine lv_iload hx hb dX12_wouldMatch_106 (lv_at hl 0 rfl) ?_
                  refine lv_istore (lv' := [(5, .int (nI (i))), (6, .int (nI (i))), (4, .ref (n2)), (0, .ref (g.ad 1 0)), (1, .int (am)), (2, .int (dy)), (3, .int (tx))]) hx hb dX12_wouldMatch_108 hl (by decide) rfl (fun ls hl => ?_)
                  refine lv_iinc (v := nI (i) + 1) (lv' := [(6, .int (nI (i) + 1)), (5, .int (nI (i))), (4, .ref (n2)), (0, .ref (g.ad 1 0)), (1, .int (am)), (2, .int (dy)), (3, .int (tx))]) hx hb dX12_wouldMatch_110 hl (k := 1) rfl rfl (by decide) rfl (fun ls hl => ?_)
                  refine lv_goto (tgt := 30) hx hb dX12_wouldMatch_113 (by decide) ?_
                  refine ih30 (i + 1) (by omega) ls ?_
                  rw [nI_succ i, wB_c (goA_y hI hlt30 c_54 c_69) (by rw [wB_sc hj]; exact c_103)]
                  exact lv_sub hl [0, 1, 2, 3, 4, 5, 6] rfl
            ·
              have c_69 : (scA S (i) (am) (dy) (tx) : Int32) = ((-1)) := c_69
              refine lv_goto (tgt := 110) hx hb dX12_wouldMatch_72 (by decide) ?_
              refine lv_iinc (v := nI (i) + 1) (lv' := [(6, .int (nI (i) + 1)), (5, .int (irI (wB S am dy tx i).1)), (4, .ref (n2)), (0, .ref (g.ad 1 0)), (1, .int (am)), (2, .int (dy)), (3, .int (tx))]) hx hb dX12_wouldMatch_110 hl (k := 0) rfl rfl (by decide) rfl (fun ls hl => ?_)
              refine lv_goto (tgt := 30) hx hb dX12_wouldMatch_113 (by decide) ?_
              refine ih30 (i + 1) (by omega) ls ?_
              rw [nI_succ i, wB_a (goA_n2 c_69)]
              exact lv_sub hl [0, 1, 2, 3, 4, 5, 6] rfl
    exact loop30 (S.nc) 0 (by omega) ls (lv_sub hl [0, 1, 2, 3, 4, 5, 6] rfl)
  · exact absurd (by decide) c_7
