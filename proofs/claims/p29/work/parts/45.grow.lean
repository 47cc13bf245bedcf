theorem maxI_nI {a b : Nat} (ha : a < 2 ^ 31) (hb : b < 2 ^ 31) : maxI (nI a) (nI b) = nI (max a b) := by
  unfold maxI
  by_cases h : a < b
  · rw [if_pos (nI_lt h hb), Nat.max_eq_right (Nat.le_of_lt h)]
  · rw [if_neg (nI_nlt (Nat.le_of_not_lt h) ha), Nat.max_eq_left (Nat.le_of_not_lt h)]
theorem minI_nI {a b : Nat} (hb : b < 2 ^ 31) (h : a ≤ b) : minI (nI a) (nI b) = nI a := by
  unfold minI
  rw [if_neg (nI_nlt h hb)]
theorem shr1 : ∀ n, n < 64 → (nI n) >>> ((1 : Int32) &&& 31) = nI (n / 2) := by decide +kernel
theorem nI_sub1 (n : Nat) : nI (n + 1) - nI n = nI 1 := by
  rw [nI_succ, Int32.add_comm, Int32.add_sub_cancel]; decide
theorem P2 {D : va_G} {cl : List vw_C} {q1 q2 : Nat} {e1 e2 : va_E} {H : Heap} (h1 : va_at D cl (q1, e1) H) (h2 : va_at D cl (q2, e2) H) : va_P D cl [(q1, e1), (q2, e2)] H := by
  intro k x hk
  match k, hk with
  | 0, hk => cases hk; exact h1
  | 1, hk => cases hk; exact h2
  | k + 2, hk => simp at hk
theorem D2 {A : Nat → Prop} {q1 q2 : Nat} {e1 e2 : va_E} (hne : ¬ q1 = q2) (h1 : A q1) (h2 : A q2) : va_D A [(q1, e1), (q2, e2)] := by
  refine ⟨fun i j p q hi hj e => ?_, fun k x hk => ?_⟩
  · match i, j, hi, hj with
    | 0, 0, _, _ => rfl
    | 0, 1, hi, hj => cases hi; cases hj; exact absurd e hne
    | 1, 0, hi, hj => cases hi; cases hj; exact absurd e.symm hne
    | 1, 1, _, _ => rfl
    | i + 2, _, hi, _ => simp at hi
    | 0, j + 2, _, hj => simp at hj
    | 1, j + 2, _, hj => simp at hj
  · match k, hk with
    | 0, hk => cases hk; exact h1
    | 1, hk => cases hk; exact h2
    | k + 2, hk => simp at hk
theorem arr_rec {E : EE} {s : State} {H : Heap} {a n : Nat} {f : Nat → Option Nat} (hC : CX E s) (hat : va_at E.1 vwCl (a, .inl (eO E, n, .inr (.inr (.inr (.inr f))))) H) : ∃ cell : Cell, H[a]? = some cell ∧ cell.vm.isStatics = false ∧ s.vm.findClass "[Ljava/lang/Object;" = some cell.cls := by
  obtain ⟨-, kB, comp2, r1, r2, r3, r4⟩ := hC.2.1.2 2 _ rfl
  exact ⟨_, hat, rfl, r4⟩
set_option maxRecDepth 100000 in
set_option maxHeartbeats 4000000 in
theorem c_newLength (l : Launch) (E : EE) {a9 b9 d9 : Nat} (hb9 : 0 < b9) (h9 : a9 + b9 + d9 < 2 ^ 20) : RM l E yJ8_newLength_cabcc cJ8_newLength_cabcc 4 .int (rD 1) [.int (nI a9), .int (nI b9), .int (nI d9)] (fun _ => True) (.int (nI (a9 + max b9 d9))) := by
  refine rm_of rfl (Nat.le_of_ble_eq_true rfl) (fun p e s m below meth c ls hx hb hr hml (hown : s.vm.findClass RJ8 = some m.cls) hC hlocks hR hl => ?_)
  have hl : lv_has ls 4 [(0, .int (nI a9)), (1, .int (nI b9)), (2, .int (nI d9))] := hl
  refine lv_iload_n hx hb dJ8_newLength_cabcc_0 rfl (lv_at hl 0 rfl) ?_
  refine lv_iload_n hx hb dJ8_newLength_cabcc_1 rfl (lv_at hl 1 rfl) ?_
  refine lv_iload_n hx hb dJ8_newLength_cabcc_2 rfl (lv_at hl 2 rfl) ?_
  refine va_mmax hx hb (hml.trans hl.1.symm) hown (zm_J8_194 hC.1) (ztm_max hC.1) (znm hC.1) (zkm_max hC.1) (Nat.le_of_ble_eq_true rfl) (Nat.le_of_ble_eq_true rfl) (Nat.zero_le _) (Nat.zero_le _) dJ8_newLength_cabcc_3 ?_
  rw [show (if nI b9 < nI d9 then nI d9 else nI b9) = nI (max b9 d9) from maxI_nI (by omega) (by omega)]
  refine lv_iadd hx hb dJ8_newLength_cabcc_6 ?_
  rw [nI_add]
  refine lv_istore_n (lv' := [(3, .int (nI (a9 + max b9 d9))), (0, .int (nI a9)), (1, .int (nI b9)), (2, .int (nI d9))]) hx hb dJ8_newLength_cabcc_7 rfl hl (by decide) rfl (fun ls hl => ?_)
  refine lv_iconst (v := 0) hx hb dJ8_newLength_cabcc_8 (by decide) ?_
  refine lv_iload_n hx hb dJ8_newLength_cabcc_9 rfl (lv_at hl 0 rfl) ?_
  refine lv_icmp_ge (tgt := 21) hx hb dJ8_newLength_cabcc_10 (by decide) (fun c_10 => ?_) (fun c_10 => ?_)
  · exact absurd c_10 (nI_nle (by omega) (by omega))
  ·
    refine lv_iload_n hx hb dJ8_newLength_cabcc_13 rfl (lv_at hl 0 rfl) ?_
    refine lv_ldc hx hb hown (zC_J8_200 hC.1) dJ8_newLength_cabcc_14 ?_
    refine lv_icmp_gt (tgt := 21) hx hb dJ8_newLength_cabcc_16 (by decide) (fun c_16 => ?_) (fun c_16 => ?_)
    · exact absurd c_16 (show ¬ (2147483639 : Int32) < nI _ from nI_nlt (a := 2147483639) (by omega) (by decide))
    ·
      refine lv_iload_n hx hb dJ8_newLength_cabcc_19 rfl (lv_at hl 0 rfl) ?_
      exact rr_i hx hb hr hlocks rfl dJ8_newLength_cabcc_20
set_option maxRecDepth 100000 in
set_option maxHeartbeats 4000000 in
theorem c_copyOf6 (l : Launch) (E : EE) {a9 n9 N9 : Nat} {f9 : Nat → Option Nat} {ci : Nat} {C : String} {T : u_T} {N : Nat} (hci : vwCl[ci]? = some (C, T, N)) (hco : C ∈ cObj) (hnN : n9 ≤ N9) (hN : N9 < 2 ^ 20) : WM l E yJ7_copyOf_6403c cJ7_copyOf_6403c 4 (some (.array (.object "java/lang/Object"))) (wD 1 1 N9) [.ref (a9), .int (nI N9), .ref (eK E)] (fun H => va_at E.1 vwCl (a9, .inl (eO E, n9, .inr (.inr (.inr (.inr (f9)))))) H ∧ (∀ j y, j < n9 → f9 j = some y → ∃ vs, va_at E.1 vwCl (y, .inr (ci, vs)) H)) (fun x => x = a9) (fun sz v H => v = some (.ref sz) ∧ va_at E.1 vwCl (sz, .inl (eO E, N9, .inr (.inr (.inr (.inr (fun j => if j < n9 then f9 j else none)))))) H ∧ va_at E.1 vwCl (a9, .inl (eO E, n9, .inr (.inr (.inr (.inr (f9)))))) H) := by
  refine wm_of rfl (Nat.le_of_ble_eq_true rfl) (fun p e s m below meth c ls hx hb hr hml (hown : s.vm.findClass RJ7 = some m.cls) hC hlocks hR hl hini => ?_)
  have hS : va_S (fun q => (fun x => x = a9) q ∨ s.heap.size ≤ q) s.heap s.heap [] := va_S.rf
  have hl : lv_has ls 4 [(0, .ref (a9)), (1, .int (nI N9)), (2, .ref (eK E))] := hl
  refine lv_aload_n hx hb dJ7_copyOf_6403c_0 rfl (lv_at hl 2 rfl) ?_
  refine va_ldcM hx hb hown (zc_J7_110 hC.1) hC.2.2.2.1 dJ7_copyOf_6403c_1 ?_
  refine lv_acmp_ne (rx := some (eK E)) (ry := some (eK E)) (tgt := 13) hx hb dJ7_copyOf_6403c_3 (by decide) (fun h => absurd rfl h) (fun _ => ?_)
  refine lv_iload_n hx hb dJ7_copyOf_6403c_6 rfl (lv_at hl 1 rfl) ?_
  refine g_anew (N := N9) hx hb hown hC (zc_J7_2 hC.1) hS hN (Nat.le_refl _) (Nat.le_of_eq (Nat.zero_add _)) dJ7_copyOf_6403c_7 (fun H1 hA hz hq hS => ?_)
  have hR1 := hR.1.kept (hq _ hR.1.lt)
  have hcl : (nI n9).toNatClampNeg = n9 := nI_clamp (by omega)
  refine lv_goto (tgt := 24) hx hb dJ7_copyOf_6403c_10 (by decide) ?_
  refine lv_astore_n (lv' := [(3, .ref (s.heap.size)), (0, .ref (a9)), (1, .int (nI N9)), (2, .ref (eK E))]) hx hb dJ7_copyOf_6403c_24 rfl hl (by decide) rfl (fun ls hl => ?_)
  refine lv_aload_n hx hb dJ7_copyOf_6403c_25 rfl (lv_at hl 1 rfl) ?_
  refine lv_iconst (v := 0) hx hb dJ7_copyOf_6403c_26 (by decide) ?_
  refine lv_aload_n hx hb dJ7_copyOf_6403c_27 rfl (lv_at hl 0 rfl) ?_
  refine lv_iconst (v := 0) hx hb dJ7_copyOf_6403c_28 (by decide) ?_
  refine lv_aload_n hx hb dJ7_copyOf_6403c_29 rfl (lv_at hl 1 rfl) ?_
  refine g_alenO hx hb hC hR1 dJ7_copyOf_6403c_30 ?_
  refine lv_iload_n hx hb dJ7_copyOf_6403c_31 rfl (lv_at hl 2 rfl) ?_
  refine va_mmin hx hb (hml.trans hl.1.symm) hown (zm_J7_304 hC.1) (ztm_min hC.1) (znm hC.1) (zkm_min hC.1) (Nat.le_of_ble_eq_true rfl) (Nat.le_of_ble_eq_true rfl) (Nat.le_refl _) (Nat.le_of_eq (Nat.zero_add _)) dJ7_copyOf_6403c_32 ?_
  rw [show (if nI N9 < nI (n9) then nI N9 else nI (n9)) = nI n9 from minI_nI (by omega) hnN]
  refine va_copyq (a0 := a9) (a := s.heap.size) (E0 := "java/lang/Object") (E1 := "java/lang/Object") (C := C) (n0 := n9) (n1 := N9) (f := f9) (g := fun _ => none) hx hb (hml.trans hl.1.symm) hown (zm_J7_150 hC.1) (zN_J10_arraycopy hC.1) (zt_J10_arraycopy hC.1) (zn_J10 hC.1) hC.2.1 (P2 hR1 hA) (D2 (Nat.ne_of_lt hR.1.lt) (Or.inl rfl) (Or.inr (Nat.le_refl _))) hS 0 1 2 2 rfl rfl rfl rfl (by decide) (by decide) (nI_pos (by omega)) (by rw [hcl]; exact Nat.le_of_eq (Nat.zero_add _)) (by rw [hcl]; exact Nat.le_trans (Nat.le_of_eq (Nat.zero_add _)) hnN) (fun j hj y hy => ?_) (fun comp c0 g1 g2 => ?_) (Nat.le_of_ble_eq_true rfl) (Nat.le_of_ble_eq_true rfl) dJ7_copyOf_6403c_35 (fun H1 locs1 hP hD hS => ?_)
  · rw [hcl] at hj
    have hy2 : f9 j = some y := by rw [← hy]; exact congrArg f9 (Nat.zero_add j).symm
    obtain ⟨vs, hv⟩ := hR.2 j y hj hy2
    exact rec_of hC (hv.kept (hq _ hv.lt)) hci
  · obtain ⟨x, y, f1, f2, f3⟩ := Cond.castable_spec (va_Nw.use (A := #[]) rfl (hC.2.2.2.2.2.2 C hco))
    cases g2.symm.trans f1
    cases g1.symm.trans f2
    exact f3
  have hA : va_at E.1 vwCl (s.heap.size, .inl (eO E, N9, .inr (.inr (.inr (.inr (fun j => if j < n9 then f9 j else none)))))) H1 := by
    have h1 := hP 1 _ rfl
    rw [hcl] at h1
    have e : va_cpy f9 (fun _ => none) (0 : Int32).toNatClampNeg (0 : Int32).toNatClampNeg n9 = (fun j => if j < n9 then f9 j else none) := by
      funext j
      show (if 0 ≤ j ∧ j < 0 + n9 then f9 (0 + (j - 0)) else none) = _
      simp
    rw [e] at h1
    exact h1
  have hR1 := hP 0 _ rfl
  refine lv_aload_n hx hb dJ7_copyOf_6403c_38 rfl (lv_at hl 0 rfl) ?_
  exact wr_r hx hb hr (Or.inr ⟨_, rfl⟩) hlocks hS ⟨rfl, hA, hR1⟩ (Nat.le_refl _) (Nat.le_of_eq (Nat.zero_add _)) dJ7_copyOf_6403c_39
theorem zo_gC {E : EE} {U : State} {a : Array Value} (h : CX E U) : (Cond.declares ⟨"java/lang/Object", "getClass", "()Ljava/lang/Class;"⟩).before a U = true := va_Dc.use h.2.2.2.2.2.1
set_option maxRecDepth 100000 in
set_option maxHeartbeats 4000000 in
theorem c_copyOf (l : Launch) (E : EE) {a9 n9 N9 : Nat} {f9 : Nat → Option Nat} {ci : Nat} {C : String} {T : u_T} {N : Nat} (hci : vwCl[ci]? = some (C, T, N)) (hco : C ∈ cObj) (hnN : n9 ≤ N9) (hN : N9 < 2 ^ 20) : WM l E yJ7_copyOf_1904c cJ7_copyOf_1904c 2 (some (.array (.object "java/lang/Object"))) (wD 2 1 N9) [.ref (a9), .int (nI N9)] (fun H => va_at E.1 vwCl (a9, .inl (eO E, n9, .inr (.inr (.inr (.inr (f9)))))) H ∧ (∀ j y, j < n9 → f9 j = some y → ∃ vs, va_at E.1 vwCl (y, .inr (ci, vs)) H)) (fun x => x = a9) (fun sz v H => v = some (.ref sz) ∧ va_at E.1 vwCl (sz, .inl (eO E, N9, .inr (.inr (.inr (.inr (fun j => if j < n9 then f9 j else none)))))) H ∧ va_at E.1 vwCl (a9, .inl (eO E, n9, .inr (.inr (.inr (.inr (f9)))))) H) := by
  refine wm_of rfl (Nat.le_of_ble_eq_true rfl) (fun p e s m below meth c ls hx hb hr hml (hown : s.vm.findClass RJ7 = some m.cls) hC hlocks hR hl hini => ?_)
  have hS : va_S (fun q => (fun x => x = a9) q ∨ s.heap.size ≤ q) s.heap s.heap [] := va_S.rf
  have hl : lv_has ls 2 [(0, .ref (a9)), (1, .int (nI N9))] := hl
  refine lv_aload_n hx hb dJ7_copyOf_1904c_0 rfl (lv_at hl 0 rfl) ?_
  refine lv_iload_n hx hb dJ7_copyOf_1904c_1 rfl (lv_at hl 1 rfl) ?_
  refine lv_aload_n hx hb dJ7_copyOf_1904c_2 rfl (lv_at hl 0 rfl) ?_
  refine va_getC hx hb (hml.trans hl.1.symm) hown (zm_J7_86 hC.1) (zo_gC hC) (zs_Object__Object_getClass hC.1) (zi_Object_getClass hC.1) (zN_Object_getClass hC.1) hC.2.2.2.1 (arr_rec hC hR.1) (Nat.le_of_ble_eq_true rfl) (Nat.le_of_ble_eq_true rfl) dJ7_copyOf_1904c_3 ?_
  refine wc_S (As := [.ref (a9), .int (nI N9), .ref (eK E)]) hx hb hml hown hC hl (c_copyOf6 l E hci hco hnN hN) (zm_J7_300 hC.1) kv_J7_copyOf_6403c hR hS (fun q h => h) rfl rfl (wD_le (by decide) (by decide)) (Nat.le_of_ble_eq_true rfl) ⟨Nat.le_of_eq (Nat.zero_add _), Nat.le_of_eq (Nat.zero_add _)⟩ dJ7_copyOf_1904c_6 (fun v H1 locs1 hP hz hq hS => ?_)
  obtain ⟨rfl, hA, hR1⟩ := hP
  exact wr_r hx hb hr (Or.inr ⟨_, rfl⟩) hlocks hS ⟨rfl, hA, hR1⟩ (Nat.le_of_eq (Nat.zero_add _)) (Nat.le_of_eq (Nat.zero_add _)) dJ7_copyOf_1904c_9

