/-- a list's content -/
def LF (n : Nat) (ad : Nat → Nat) (j : Nat) : Option Nat := if j < n then some (ad j) else none
theorem LF_up (n : Nat) (ad : Nat → Nat) (v : Nat) : va_up (LF n ad) n (some v) = LF (n + 1) (va_up ad n v) := by
  funext j
  unfold LF
  by_cases h : j = n
  · subst h; rw [va_up_self, va_up_self, if_pos (Nat.lt_succ_self j)]
  · rw [va_up_ne _ _ h, va_up_ne _ _ h]
    by_cases h2 : j < n
    · rw [if_pos h2, if_pos (Nat.lt_succ_of_lt h2)]
    · rw [if_neg h2, if_neg (by omega)]
theorem LF_cpy (n : Nat) (ad : Nat → Nat) : (fun j => if j < n then LF n ad j else none) = LF n ad := by
  funext j
  unfold LF
  by_cases h : j < n
  · rw [if_pos h]
  · rw [if_neg h, if_neg h]
theorem LF_0 (ad : Nat → Nat) : (fun _ => none) = LF 0 ad := by
  funext j
  unfold LF
  rw [if_neg (Nat.not_lt_zero j)]
set_option maxRecDepth 100000 in
set_option maxHeartbeats 4000000 in
theorem c_add3N (l : Launch) (E : EE) {q9 a9 v9 n9 c9 : Nat} {md : Int32} {f9 : Nat → Option Nat} {vs9 : List Value} {ci : Nat} {C : String} {T : u_T} {N : Nat} (hci : vwCl[ci]? = some (C, T, N)) (hco : C ∈ cObj) (hlt : n9 < c9) (hc20 : c9 < 2 ^ 20) (hne : ¬ q9 = a9) : WM l E yJx4a65c_add_72be8 cJx4a65c_add_72be8 4 none (wD 5 0 0) [.ref (q9), .ref (v9), .ref (a9), .int (nI n9)] (fun H => va_at E.1 vwCl (q9, .inr (0, [.int (md), .ref (a9), .int (nI n9)])) H ∧ va_at E.1 vwCl (v9, .inr (ci, vs9)) H ∧ va_at E.1 vwCl (a9, .inl (eO E, c9, .inr (.inr (.inr (.inr (f9)))))) H) (fun x => x = q9 ∨ x = a9) (fun sz v H => (va_at E.1 vwCl (q9, .inr (0, [.int (md), .ref (a9), .int (nI (n9 + 1))])) H ∧ va_at E.1 vwCl (a9, .inl (eO E, c9, .inr (.inr (.inr (.inr (va_up (f9) n9 (some v9))))))) H) ∧ v = none) := by
  refine wm_of rfl (Nat.le_of_ble_eq_true rfl) (fun p e s m below meth c ls hx hb hr hml (hown : s.vm.findClass RJx4a65c = some m.cls) hC hlocks ⟨hO, hV, hR⟩ hl hini => ?_)
  have hS : va_S (fun q => (fun x => x = q9 ∨ x = a9) q ∨ s.heap.size ≤ q) s.heap s.heap [] := va_S.rf
  have hl : lv_has ls 4 [(0, .ref (q9)), (1, .ref (v9)), (2, .ref (a9)), (3, .int (nI n9))] := hl
  have hO0 := hO
  refine lv_iload_n hx hb dJx4a65c_add_72be8_0 rfl (lv_at hl 3 rfl) ?_
  refine lv_aload_n hx hb dJx4a65c_add_72be8_1 rfl (lv_at hl 2 rfl) ?_
  refine g_alenO hx hb hC hR dJx4a65c_add_72be8_2 ?_
  refine lv_icmp_ne (tgt := 11) hx hb dJx4a65c_add_72be8_3 (by decide) (fun c_3 => ?_) (fun c_3 => ?_)
  ·
    refine lv_aload_n hx hb dJx4a65c_add_72be8_11 rfl (lv_at hl 2 rfl) ?_
    refine lv_iload_n hx hb dJx4a65c_add_72be8_12 rfl (lv_at hl 3 rfl) ?_
    refine lv_aload_n hx hb dJx4a65c_add_72be8_13 rfl (lv_at hl 1 rfl) ?_
    have hA := hR
    have hAq : ¬ a9 = q9 := fun e => hne e.symm
    refine g_aast hx hb hC hA hV hci hco hS (Or.inl (Or.inr rfl)) ⟨rfl, by omega, by omega⟩ dJx4a65c_add_72be8_14 (fun H1 locs1 hA hz hq hS => ?_)
    have hO := hO.kept (hq _ (fun e => hAq e.symm))
    refine lv_aload_n hx hb dJx4a65c_add_72be8_15 rfl (lv_at hl 0 rfl) ?_
    refine lv_iload_n hx hb dJx4a65c_add_72be8_16 rfl (lv_at hl 3 rfl) ?_
    refine lv_iconst (v := 1) hx hb dJx4a65c_add_72be8_17 (by decide) ?_
    refine lv_iadd hx hb dJx4a65c_add_72be8_18 ?_
    rw [← nI_succ n9]
    refine pf_Jx4a65c_2 hx hb hown hC hO hS (Or.inl (Or.inl rfl)) (zf_Jx4a65c_48 hC.1) rfl rfl dJx4a65c_add_72be8_19 (fun H1 locs1 hO hz hq hS => ?_)
    have hA := hA.kept (hq _ (fun e => hAq e))
    exact wr_v hx hb hr hlocks hS ⟨⟨hO, hA⟩, rfl⟩ (Nat.le_of_ble_eq_true rfl) (Nat.le_of_ble_eq_true rfl) dJx4a65c_add_72be8_22
  · exact absurd ((nI_eq (by omega) (by omega)).mp c_3) (Nat.ne_of_lt hlt)
set_option maxRecDepth 100000 in
set_option maxHeartbeats 4000000 in
theorem c_add3E (l : Launch) (E : EE) {q9 v9 : Nat} {md : Int32} {vs9 : List Value} {ci : Nat} {C : String} {T : u_T} {N : Nat} (hci : vwCl[ci]? = some (C, T, N)) (hco : C ∈ cObj) (hvq : ¬ v9 = q9) : WM l E yJx4a65c_add_72be8 cJx4a65c_add_72be8 4 none (wD 5 1 10) [.ref (q9), .ref (v9), .ref (eE E), .int (nI 0)] (fun H => va_at E.1 vwCl (q9, .inr (0, [.int (md), .ref (eE E), .int (nI 0)])) H ∧ va_at E.1 vwCl (v9, .inr (ci, vs9)) H ∧ ZE E H) (fun x => x = q9) (fun sz v H => (va_at E.1 vwCl (q9, .inr (0, [.int (md), .ref (sz), .int (nI (0 + 1))])) H ∧ va_at E.1 vwCl (sz, .inl (eO E, 10, .inr (.inr (.inr (.inr (va_up (fun _ => none) 0 (some v9))))))) H) ∧ v = none) := by
  refine wm_of rfl (Nat.le_of_ble_eq_true rfl) (fun p e s m below meth c ls hx hb hr hml (hown : s.vm.findClass RJx4a65c = some m.cls) hC hlocks ⟨hO, hV, hX⟩ hl hini => ?_)
  have hS : va_S (fun q => (fun x => x = q9) q ∨ s.heap.size ≤ q) s.heap s.heap [] := va_S.rf
  have hl : lv_has ls 4 [(0, .ref (q9)), (1, .ref (v9)), (2, .ref (eE E)), (3, .int (nI 0))] := hl
  have hO0 := hO
  refine lv_iload_n hx hb dJx4a65c_add_72be8_0 rfl (lv_at hl 3 rfl) ?_
  refine lv_aload_n hx hb dJx4a65c_add_72be8_1 rfl (lv_at hl 2 rfl) ?_
  refine g_alenZ hx hb hC hX.2.2.2 dJx4a65c_add_72be8_2 ?_
  refine lv_icmp_ne (tgt := 11) hx hb dJx4a65c_add_72be8_3 (by decide) (fun c_3 => ?_) (fun c_3 => ?_)
  · exact absurd rfl c_3
  ·
    refine lv_aload_n hx hb dJx4a65c_add_72be8_6 rfl (lv_at hl 0 rfl) ?_
    refine wc_V (As := []) hx hb hml hown hC hl (c_growE l E) (rec_of hC hO rfl) (zm_Jx4a65c_129 hC.1) kv_Jx4a65c_grow_d5877 ⟨hO, hX⟩ hS (fun q h => h) rfl rfl (wD_le (by decide) (by decide)) (Nat.le_of_ble_eq_true rfl) ⟨Nat.le_of_ble_eq_true rfl, Nat.le_of_ble_eq_true rfl⟩ dJx4a65c_add_72be8_7 (fun v H1 locs1 hP hz hq hS => ?_)
    obtain ⟨rfl, hO, hA⟩ := hP
    have hV := hV.kept (hq _ hV.lt (fun e => hvq e))
    refine lv_astore_n (lv' := [(2, .ref (s.heap.size)), (0, .ref (q9)), (1, .ref (v9)), (3, .int (nI 0))]) hx hb dJx4a65c_add_72be8_10 rfl hl (by decide) rfl (fun ls hl => ?_)
    refine lv_aload_n hx hb dJx4a65c_add_72be8_11 rfl (lv_at hl 0 rfl) ?_
    refine lv_iload_n hx hb dJx4a65c_add_72be8_12 rfl (lv_at hl 3 rfl) ?_
    refine lv_aload_n hx hb dJx4a65c_add_72be8_13 rfl (lv_at hl 2 rfl) ?_
    have hAq : ¬ s.heap.size = q9 := fun e => Nat.ne_of_lt hO0.lt e.symm
    refine g_aast hx hb hC hA hV hci hco hS (Or.inr (Nat.le_refl _)) ⟨rfl, by omega, by omega⟩ dJx4a65c_add_72be8_14 (fun H1 locs1 hA hz hq hS => ?_)
    have hO := hO.kept (hq _ (fun e => hAq e.symm))
    refine lv_aload_n hx hb dJx4a65c_add_72be8_15 rfl (lv_at hl 1 rfl) ?_
    refine lv_iload_n hx hb dJx4a65c_add_72be8_16 rfl (lv_at hl 3 rfl) ?_
    refine lv_iconst (v := 1) hx hb dJx4a65c_add_72be8_17 (by decide) ?_
    refine lv_iadd hx hb dJx4a65c_add_72be8_18 ?_
    rw [← nI_succ 0]
    refine pf_Jx4a65c_2 hx hb hown hC hO hS (Or.inl rfl) (zf_Jx4a65c_48 hC.1) rfl rfl dJx4a65c_add_72be8_19 (fun H1 locs1 hO hz hq hS => ?_)
    have hA := hA.kept (hq _ (fun e => hAq e))
    exact wr_v hx hb hr hlocks hS ⟨⟨hO, hA⟩, rfl⟩ (Nat.le_of_ble_eq_true rfl) (Nat.le_of_ble_eq_true rfl) dJx4a65c_add_72be8_22
set_option maxRecDepth 100000 in
set_option maxHeartbeats 4000000 in
theorem c_add3F (l : Launch) (E : EE) {q9 a9 v9 n9 : Nat} {md : Int32} {f9 : Nat → Option Nat} {vs9 : List Value} {ci : Nat} {C : String} {T : u_T} {N : Nat} (hci : vwCl[ci]? = some (C, T, N)) (hco : C ∈ cObj) (h0 : 0 < n9) (h30 : n9 ≤ 30) (hne : ¬ q9 = a9) (hvq : ¬ v9 = q9) (hva : ¬ v9 = a9) : WM l E yJx4a65c_add_72be8 cJx4a65c_add_72be8 4 none (wD 5 1 (n9 + max 1 (n9 / 2))) [.ref (q9), .ref (v9), .ref (a9), .int (nI n9)] (fun H => va_at E.1 vwCl (q9, .inr (0, [.int (md), .ref (a9), .int (nI n9)])) H ∧ va_at E.1 vwCl (v9, .inr (ci, vs9)) H ∧ va_at E.1 vwCl (a9, .inl (eO E, n9, .inr (.inr (.inr (.inr (f9)))))) H ∧ (∀ j y, j < n9 → f9 j = some y → ∃ vs, va_at E.1 vwCl (y, .inr (ci, vs)) H)) (fun x => x = q9 ∨ x = a9) (fun sz v H => (va_at E.1 vwCl (q9, .inr (0, [.int (md), .ref (sz), .int (nI (n9 + 1))])) H ∧ va_at E.1 vwCl (sz, .inl (eO E, (n9 + max 1 (n9 / 2)), .inr (.inr (.inr (.inr (va_up (fun j => if j < n9 then f9 j else none) n9 (some v9))))))) H) ∧ v = none) := by
  refine wm_of rfl (Nat.le_of_ble_eq_true rfl) (fun p e s m below meth c ls hx hb hr hml (hown : s.vm.findClass RJx4a65c = some m.cls) hC hlocks ⟨hO, hV, hR⟩ hl hini => ?_)
  have hS : va_S (fun q => (fun x => x = q9 ∨ x = a9) q ∨ s.heap.size ≤ q) s.heap s.heap [] := va_S.rf
  have hl : lv_has ls 4 [(0, .ref (q9)), (1, .ref (v9)), (2, .ref (a9)), (3, .int (nI n9))] := hl
  have hO0 := hO
  refine lv_iload_n hx hb dJx4a65c_add_72be8_0 rfl (lv_at hl 3 rfl) ?_
  refine lv_aload_n hx hb dJx4a65c_add_72be8_1 rfl (lv_at hl 2 rfl) ?_
  refine g_alenO hx hb hC hR.1 dJx4a65c_add_72be8_2 ?_
  refine lv_icmp_ne (tgt := 11) hx hb dJx4a65c_add_72be8_3 (by decide) (fun c_3 => ?_) (fun c_3 => ?_)
  · exact absurd rfl c_3
  ·
    refine lv_aload_n hx hb dJx4a65c_add_72be8_6 rfl (lv_at hl 0 rfl) ?_
    refine wc_V (As := []) hx hb hml hown hC hl (c_growF l E hci hco h0 h30 hne) (rec_of hC hO rfl) (zm_Jx4a65c_129 hC.1) kv_Jx4a65c_grow_d5877 ⟨hO, hR⟩ hS (fun q h => h) rfl rfl (wD_le (by decide) (by decide)) (Nat.le_of_ble_eq_true rfl) ⟨Nat.le_of_eq (Nat.zero_add _), Nat.le_of_eq (Nat.zero_add _)⟩ dJx4a65c_add_72be8_7 (fun v H1 locs1 hP hz hq hS => ?_)
    obtain ⟨rfl, hO, hA⟩ := hP
    have hV := hV.kept (hq _ hV.lt (fun e => e.elim hvq hva))
    refine lv_astore_n (lv' := [(2, .ref (s.heap.size)), (0, .ref (q9)), (1, .ref (v9)), (3, .int (nI n9))]) hx hb dJx4a65c_add_72be8_10 rfl hl (by decide) rfl (fun ls hl => ?_)
    refine lv_aload_n hx hb dJx4a65c_add_72be8_11 rfl (lv_at hl 0 rfl) ?_
    refine lv_iload_n hx hb dJx4a65c_add_72be8_12 rfl (lv_at hl 3 rfl) ?_
    refine lv_aload_n hx hb dJx4a65c_add_72be8_13 rfl (lv_at hl 2 rfl) ?_
    have hAq : ¬ s.heap.size = q9 := fun e => Nat.ne_of_lt hO0.lt e.symm
    refine g_aast hx hb hC hA hV hci hco hS (Or.inr (Nat.le_refl _)) ⟨rfl, by omega, by omega⟩ dJx4a65c_add_72be8_14 (fun H1 locs1 hA hz hq hS => ?_)
    have hO := hO.kept (hq _ (fun e => hAq e.symm))
    refine lv_aload_n hx hb dJx4a65c_add_72be8_15 rfl (lv_at hl 1 rfl) ?_
    refine lv_iload_n hx hb dJx4a65c_add_72be8_16 rfl (lv_at hl 3 rfl) ?_
    refine lv_iconst (v := 1) hx hb dJx4a65c_add_72be8_17 (by decide) ?_
    refine lv_iadd hx hb dJx4a65c_add_72be8_18 ?_
    rw [← nI_succ n9]
    refine pf_Jx4a65c_2 hx hb hown hC hO hS (Or.inl (Or.inl rfl)) (zf_Jx4a65c_48 hC.1) rfl rfl dJx4a65c_add_72be8_19 (fun H1 locs1 hO hz hq hS => ?_)
    have hA := hA.kept (hq _ (fun e => hAq e))
    exact wr_v hx hb hr hlocks hS ⟨⟨hO, hA⟩, rfl⟩ (Nat.le_of_eq (Nat.zero_add _)) (Nat.le_of_eq (Nat.zero_add _)) dJx4a65c_add_72be8_22
set_option maxRecDepth 100000 in
set_option maxHeartbeats 4000000 in
theorem c_add (l : Launch) (E : EE) {q9 a9 v9 n9 c9 : Nat} {md : Int32} {ad9 : Nat → Nat} {vs9 : List Value} {ci : Nat} {C : String} {T : u_T} {N : Nat} (hci : vwCl[ci]? = some (C, T, N)) (hco : C ∈ cObj) (hnc : n9 ≤ c9) (hc20 : c9 < 2 ^ 20) (h30 : n9 ≤ 30) (hqe : ¬ q9 = a9) (hvq : ¬ v9 = q9) (hva : ¬ v9 = a9) (hqN : eN E ≤ q9) (hdq : ∀ j, j < n9 → ¬ ad9 j = q9) : WM l E yJx4a65c_add_9ea2d cJx4a65c_add_9ea2d 2 (some .boolean) (wD 6 1 45) [.ref (q9), .ref (v9)] (fun H => va_at E.1 vwCl (q9, .inr (0, [.int (md), .ref (a9), .int (nI n9)])) H ∧ ((c9 = 0 ∧ a9 = eE E) ∨ (0 < c9 ∧ va_at E.1 vwCl (a9, .inl (eO E, c9, .inr (.inr (.inr (.inr (LF n9 ad9)))))) H)) ∧ (∀ j, j < n9 → ∃ vs, va_at E.1 vwCl (ad9 j, .inr (ci, vs)) H) ∧ va_at E.1 vwCl (v9, .inr (ci, vs9)) H ∧ ZE E H) (fun x => x = q9 ∨ (x = a9 ∧ 0 < c9)) (fun sz v H => (∃ ea cp : Nat, va_at E.1 vwCl (q9, .inr (0, [.int (md + 1), .ref (ea), .int (nI (n9 + 1))])) H ∧ n9 + 1 ≤ cp ∧ cp < 2 ^ 20 ∧ va_at E.1 vwCl (ea, .inl (eO E, cp, .inr (.inr (.inr (.inr (LF (n9 + 1) (va_up ad9 n9 v9))))))) H ∧ ((ea = a9 ∧ 0 < c9) ∨ ea = sz)) ∧ v = some (.int 1)) := by
  rcases Nat.lt_or_ge n9 c9 with hlt | hge
  ·
    refine wm_of rfl (Nat.le_of_ble_eq_true rfl) (fun p e s m below meth c ls hx hb hr hml (hown : s.vm.findClass RJx4a65c = some m.cls) hC hlocks ⟨hO, hR, hEl, hV, hX⟩ hl hini => ?_)
    have hS : va_S (fun q => (fun x => x = q9 ∨ (x = a9 ∧ 0 < c9)) q ∨ s.heap.size ≤ q) s.heap s.heap [] := va_S.rf
    have hl : lv_has ls 2 [(0, .ref (q9)), (1, .ref (v9))] := hl
    have hR := hR.elim (fun e => absurd e.1 (by omega)) (fun e => e.2)
    refine lv_aload_n hx hb dJx4a65c_add_9ea2d_0 rfl (lv_at hl 0 rfl) ?_
    refine lv_dup hx hb dJx4a65c_add_9ea2d_1 rfl ?_
    refine gf_Jx4a65c_0_s hx hb hown hC hO (zf_Jx4a65c_63 hC.1) dJx4a65c_add_9ea2d_2 ?_
    refine lv_iconst (v := 1) hx hb dJx4a65c_add_9ea2d_5 (by decide) ?_
    refine lv_iadd hx hb dJx4a65c_add_9ea2d_6 ?_
    refine pf_Jx4a65c_0_s hx hb hown hC hO hS (Or.inl (Or.inl rfl)) (zf_Jx4a65c_63 hC.1) rfl rfl dJx4a65c_add_9ea2d_7 (fun H1 locs1 hO hz hq hS => ?_)
    have hV := hV.kept (hq _ hvq)
    have hX := hX.kept (fun q h => hq q (fun e => by omega))
    have hR := hR.kept (hq _ (fun e => hqe e.symm))
    have hz9 := hz
    refine lv_aload_n hx hb dJx4a65c_add_9ea2d_10 rfl (lv_at hl 0 rfl) ?_
    refine lv_aload_n hx hb dJx4a65c_add_9ea2d_11 rfl (lv_at hl 1 rfl) ?_
    refine lv_aload_n hx hb dJx4a65c_add_9ea2d_12 rfl (lv_at hl 0 rfl) ?_
    refine gf_Jx4a65c_1 hx hb hown hC hO (zf_Jx4a65c_9 hC.1) dJx4a65c_add_9ea2d_13 ?_
    refine lv_aload_n hx hb dJx4a65c_add_9ea2d_16 rfl (lv_at hl 0 rfl) ?_
    refine gf_Jx4a65c_2 hx hb hown hC hO (zf_Jx4a65c_48 hC.1) dJx4a65c_add_9ea2d_17 ?_
    refine wc_V (As := [.ref (v9), .ref (a9), .int (nI n9)]) hx hb hml hown hC hl (c_add3N l E hci hco hlt hc20 hqe) (rec_of hC hO rfl) (zm_Jx4a65c_131 hC.1) kv_Jx4a65c_add_72be8 ⟨hO, hV, hR⟩ hS (fun q h => h.elim (fun e => e.elim (fun e => Or.inl (Or.inl e)) (fun e => Or.inl (Or.inr ⟨e, by omega⟩))) (fun e => Or.inr (hz9 ▸ e))) rfl rfl (wD_le (by decide) (by decide)) (Nat.le_of_ble_eq_true rfl) ⟨Nat.le_of_ble_eq_true rfl, Nat.le_of_ble_eq_true rfl⟩ dJx4a65c_add_9ea2d_20 (fun v H1 locs1 hP hz hq hS => ?_)
    obtain ⟨⟨hO, hA⟩, rfl⟩ := hP
    refine lv_iconst (v := 1) hx hb dJx4a65c_add_9ea2d_23 (by decide) ?_
    exact wr_z hx hb hr hlocks (by decide) hS ⟨⟨a9, c9, hO, hlt, hc20, by rw [← LF_up]; exact hA, Or.inl ⟨rfl, by omega⟩⟩, rfl⟩ (Nat.le_of_ble_eq_true rfl) (Nat.le_of_ble_eq_true rfl) dJx4a65c_add_9ea2d_24
  · have hnc2 : c9 = n9 := Nat.le_antisymm hge hnc
    subst hnc2
    rcases Nat.eq_zero_or_pos c9 with h0 | h0
    · subst h0
      by_cases hae : a9 = eE E
      · subst hae
        refine wm_of rfl (Nat.le_of_ble_eq_true rfl) (fun p e s m below meth c ls hx hb hr hml (hown : s.vm.findClass RJx4a65c = some m.cls) hC hlocks ⟨hO, hR, hEl, hV, hX⟩ hl hini => ?_)
        have hS : va_S (fun q => (fun x => x = q9 ∨ (x = (eE E) ∧ 0 < 0)) q ∨ s.heap.size ≤ q) s.heap s.heap [] := va_S.rf
        have hl : lv_has ls 2 [(0, .ref (q9)), (1, .ref (v9))] := hl
        refine lv_aload_n hx hb dJx4a65c_add_9ea2d_0 rfl (lv_at hl 0 rfl) ?_
        refine lv_dup hx hb dJx4a65c_add_9ea2d_1 rfl ?_
        refine gf_Jx4a65c_0_s hx hb hown hC hO (zf_Jx4a65c_63 hC.1) dJx4a65c_add_9ea2d_2 ?_
        refine lv_iconst (v := 1) hx hb dJx4a65c_add_9ea2d_5 (by decide) ?_
        refine lv_iadd hx hb dJx4a65c_add_9ea2d_6 ?_
        refine pf_Jx4a65c_0_s hx hb hown hC hO hS (Or.inl (Or.inl rfl)) (zf_Jx4a65c_63 hC.1) rfl rfl dJx4a65c_add_9ea2d_7 (fun H1 locs1 hO hz hq hS => ?_)
        have hV := hV.kept (hq _ hvq)
        have hX := hX.kept (fun q h => hq q (fun e => by omega))
        have hz9 := hz
        refine lv_aload_n hx hb dJx4a65c_add_9ea2d_10 rfl (lv_at hl 0 rfl) ?_
        refine lv_aload_n hx hb dJx4a65c_add_9ea2d_11 rfl (lv_at hl 1 rfl) ?_
        refine lv_aload_n hx hb dJx4a65c_add_9ea2d_12 rfl (lv_at hl 0 rfl) ?_
        refine gf_Jx4a65c_1 hx hb hown hC hO (zf_Jx4a65c_9 hC.1) dJx4a65c_add_9ea2d_13 ?_
        refine lv_aload_n hx hb dJx4a65c_add_9ea2d_16 rfl (lv_at hl 0 rfl) ?_
        refine gf_Jx4a65c_2 hx hb hown hC hO (zf_Jx4a65c_48 hC.1) dJx4a65c_add_9ea2d_17 ?_
        refine wc_V (As := [.ref (v9), .ref (eE E), .int (nI 0)]) hx hb hml hown hC hl (c_add3E l E hci hco hvq) (rec_of hC hO rfl) (zm_Jx4a65c_131 hC.1) kv_Jx4a65c_add_72be8 ⟨hO, hV, hX⟩ hS (fun q h => h.elim (fun e => Or.inl (Or.inl e)) (fun e => Or.inr (hz9 ▸ e))) rfl rfl (wD_le (by decide) (by decide)) (Nat.le_of_ble_eq_true rfl) ⟨Nat.le_of_ble_eq_true rfl, Nat.le_of_ble_eq_true rfl⟩ dJx4a65c_add_9ea2d_20 (fun v H1 locs1 hP hz hq hS => ?_)
        obtain ⟨⟨hO, hA⟩, rfl⟩ := hP
        refine lv_iconst (v := 1) hx hb dJx4a65c_add_9ea2d_23 (by decide) ?_
        exact wr_z hx hb hr hlocks (by decide) hS ⟨⟨s.heap.size, 10, hz9 ▸ hO, by decide, by decide, by rw [← LF_up, ← LF_0]; exact hz9 ▸ hA, Or.inr rfl⟩, rfl⟩ (Nat.le_of_ble_eq_true rfl) (Nat.le_of_ble_eq_true rfl) dJx4a65c_add_9ea2d_24
      · refine wm_of rfl (Nat.le_of_ble_eq_true rfl) (fun p e s m below meth c ls hx hb hr hml hown hC hlocks hP hl hini => ?_)
        obtain ⟨-, hR, -⟩ := hP
        exact absurd (hR.elim (fun e => e.2) (fun e => absurd e.1 (by omega))) hae
    ·
      refine wm_of rfl (Nat.le_of_ble_eq_true rfl) (fun p e s m below meth c ls hx hb hr hml (hown : s.vm.findClass RJx4a65c = some m.cls) hC hlocks ⟨hO, hR, hEl, hV, hX⟩ hl hini => ?_)
      have hS : va_S (fun q => (fun x => x = q9 ∨ (x = a9 ∧ 0 < c9)) q ∨ s.heap.size ≤ q) s.heap s.heap [] := va_S.rf
      have hl : lv_has ls 2 [(0, .ref (q9)), (1, .ref (v9))] := hl
      have hR := hR.elim (fun e => absurd e.1 (by omega)) (fun e => e.2)
      refine lv_aload_n hx hb dJx4a65c_add_9ea2d_0 rfl (lv_at hl 0 rfl) ?_
      refine lv_dup hx hb dJx4a65c_add_9ea2d_1 rfl ?_
      refine gf_Jx4a65c_0_s hx hb hown hC hO (zf_Jx4a65c_63 hC.1) dJx4a65c_add_9ea2d_2 ?_
      refine lv_iconst (v := 1) hx hb dJx4a65c_add_9ea2d_5 (by decide) ?_
      refine lv_iadd hx hb dJx4a65c_add_9ea2d_6 ?_
      refine pf_Jx4a65c_0_s hx hb hown hC hO hS (Or.inl (Or.inl rfl)) (zf_Jx4a65c_63 hC.1) rfl rfl dJx4a65c_add_9ea2d_7 (fun H1 locs1 hO hz hq hS => ?_)
      have hV := hV.kept (hq _ hvq)
      have hX := hX.kept (fun q h => hq q (fun e => by omega))
      have hR := hR.kept (hq _ (fun e => hqe e.symm))
      have hEl : ∀ j y, j < c9 → LF c9 ad9 j = some y → ∃ vs, va_at E.1 vwCl (y, .inr (ci, vs)) H1 := fun j y hj hy => by
        have e : LF c9 ad9 j = some (ad9 j) := if_pos hj
        rw [e] at hy
        cases hy
        obtain ⟨vs, hv⟩ := hEl j hj
        exact ⟨vs, hv.kept (hq _ (hdq j hj))⟩
      have hz9 := hz
      refine lv_aload_n hx hb dJx4a65c_add_9ea2d_10 rfl (lv_at hl 0 rfl) ?_
      refine lv_aload_n hx hb dJx4a65c_add_9ea2d_11 rfl (lv_at hl 1 rfl) ?_
      refine lv_aload_n hx hb dJx4a65c_add_9ea2d_12 rfl (lv_at hl 0 rfl) ?_
      refine gf_Jx4a65c_1 hx hb hown hC hO (zf_Jx4a65c_9 hC.1) dJx4a65c_add_9ea2d_13 ?_
      refine lv_aload_n hx hb dJx4a65c_add_9ea2d_16 rfl (lv_at hl 0 rfl) ?_
      refine gf_Jx4a65c_2 hx hb hown hC hO (zf_Jx4a65c_48 hC.1) dJx4a65c_add_9ea2d_17 ?_
      refine wc_V (As := [.ref (v9), .ref (a9), .int (nI c9)]) hx hb hml hown hC hl (c_add3F l E hci hco h0 h30 hqe hvq hva) (rec_of hC hO rfl) (zm_Jx4a65c_131 hC.1) kv_Jx4a65c_add_72be8 ⟨hO, hV, hR, hEl⟩ hS (fun q h => h.elim (fun e => e.elim (fun e => Or.inl (Or.inl e)) (fun e => Or.inl (Or.inr ⟨e, h0⟩))) (fun e => Or.inr (hz9 ▸ e))) rfl rfl (wD_le (by decide) (by decide)) (Nat.le_of_ble_eq_true rfl) ⟨Nat.le_of_ble_eq_true rfl, by show 0 + (c9 + max 1 (c9 / 2)) ≤ 45; omega⟩ dJx4a65c_add_9ea2d_20 (fun v H1 locs1 hP hz hq hS => ?_)
      obtain ⟨⟨hO, hA⟩, rfl⟩ := hP
      refine lv_iconst (v := 1) hx hb dJx4a65c_add_9ea2d_23 (by decide) ?_
      exact wr_z hx hb hr hlocks (by decide) hS ⟨⟨s.heap.size, (c9 + max 1 (c9 / 2)), hz9 ▸ hO, by omega, by omega, by rw [← LF_up, ← LF_cpy]; exact hz9 ▸ hA, Or.inr rfl⟩, rfl⟩ (Nat.le_of_ble_eq_true rfl) (by show 0 + (c9 + max 1 (c9 / 2)) ≤ 45; omega) dJx4a65c_add_9ea2d_24

