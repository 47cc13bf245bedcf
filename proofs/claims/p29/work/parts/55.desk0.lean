set_option maxRecDepth 100000 in
set_option maxHeartbeats 4000000 in
theorem c_X4_init (l : Launch) (E : EE) {q9 : Nat} {r9 c9 : Nat} (hr9 : r9 < 2 ^ 20) (hc9 : c9 < 2 ^ 20) (hN : r9 * c9 < 2 ^ 20) : WM l E yX4_init cX4_init 3 none (wD 3 1 (r9 * c9)) [.ref (q9), .int (nI r9), .int (nI c9)] (fun H => va_at E.1 vwCl (q9, .inr (4, [.int (0), .int (0), .null])) H) (fun x => x = q9) (fun sz v H => (va_at E.1 vwCl (q9, .inr (4, [.int (nI r9), .int (nI c9), .ref (sz)])) H ∧ va_at E.1 vwCl (sz, .inl (eI E, r9 * c9, .inl (fun _ => 0))) H) ∧ v = none) := by
  refine wm_of rfl (Nat.le_of_ble_eq_true rfl) (fun p e s m below meth c ls hx hb hr hml (hown : s.vm.findClass RX4 = some m.cls) hC hlocks hO hl hini => ?_)
  have hS : va_S (fun q => (fun x => x = q9) q ∨ s.heap.size ≤ q) s.heap s.heap [] := va_S.rf
  have hl : lv_has ls 3 [(0, .ref (q9)), (1, .int (nI r9)), (2, .int (nI c9))] := hl
  have hO0 := hO
  have hz9 : s.heap.size = s.heap.size := rfl
  refine lv_aload_n hx hb dX4_init_0 rfl (lv_at hl 0 rfl) ?_
  refine W.objInit hx hb hown (zm_X4_1 hC.1) (zi_Object_init hC.1) (zk_Object_init hC.1) rfl (hl.1.trans hml.symm) rfl dX4_init_1 (Nat.le_of_ble_eq_true rfl) (Nat.le_of_ble_eq_true rfl) ?_
  refine lv_aload_n hx hb dX4_init_4 rfl (lv_at hl 0 rfl) ?_
  refine lv_iload_n hx hb dX4_init_5 rfl (lv_at hl 1 rfl) ?_
  refine lv_iconst (v := 0) hx hb dX4_init_6 (by decide) ?_
  refine va_mmax hx hb (hml.trans hl.1.symm) hown (zm_X4_7 hC.1) (ztm_max hC.1) (znm hC.1) (zkm_max hC.1) (Nat.le_of_ble_eq_true rfl) (Nat.le_of_ble_eq_true rfl) (Nat.zero_le _) (Nat.zero_le _) dX4_init_7 ?_
  rw [show (if nI r9 < 0 then (0 : Int32) else nI r9) = nI r9 from if_neg (nI_pos (by omega))]
  refine pf_X4_0 hx hb hown hC hO hS (Or.inl rfl) (zf_X4_13 hC.1) (hini rfl) rfl rfl rfl dX4_init_10 (fun H1 locs1 hO hz hq hS => ?_)
  have hz9 := hz.trans hz9
  refine lv_aload_n hx hb dX4_init_13 rfl (lv_at hl 0 rfl) ?_
  refine lv_iload_n hx hb dX4_init_14 rfl (lv_at hl 2 rfl) ?_
  refine lv_iconst (v := 0) hx hb dX4_init_15 (by decide) ?_
  refine va_mmax hx hb (hml.trans hl.1.symm) hown (zm_X4_7 hC.1) (ztm_max hC.1) (znm hC.1) (zkm_max hC.1) (Nat.le_of_ble_eq_true rfl) (Nat.le_of_ble_eq_true rfl) (Nat.zero_le _) (Nat.zero_le _) dX4_init_16 ?_
  rw [show (if nI c9 < 0 then (0 : Int32) else nI c9) = nI c9 from if_neg (nI_pos (by omega))]
  refine pf_X4_1 hx hb hown hC hO hS (Or.inl rfl) (zf_X4_19 hC.1) (hini rfl) rfl rfl rfl dX4_init_19 (fun H1 locs1 hO hz hq hS => ?_)
  have hz9 := hz.trans hz9
  refine lv_aload_n hx hb dX4_init_22 rfl (lv_at hl 0 rfl) ?_
  refine lv_aload_n hx hb dX4_init_23 rfl (lv_at hl 0 rfl) ?_
  refine gf_X4_0 hx hb hown hC hO (zf_X4_13 hC.1) dX4_init_24 ?_
  refine lv_aload_n hx hb dX4_init_27 rfl (lv_at hl 0 rfl) ?_
  refine gf_X4_1 hx hb hown hC hO (zf_X4_19 hC.1) dX4_init_28 ?_
  refine lv_imul hx hb dX4_init_31 ?_
  rw [pk_mul]
  refine g_newi (N := r9 * c9) hx hb hC hS hN (Nat.le_refl _) (Nat.le_of_eq (Nat.zero_add _)) dX4_init_32 (fun H1 hA hz hq hS => ?_)
  have hO := hO.kept (hq _ hO.lt)
  rw [hz9] at hA ⊢
  refine pf_X4_2 hx hb hown hC hO hS (Or.inl rfl) (zf_X4_22 hC.1) (hini rfl) rfl rfl rfl dX4_init_34 (fun H1 locs1 hO hz hq hS => ?_)
  have hA := hA.kept (hq _ (fun e => Nat.ne_of_lt hO0.lt e.symm))
  exact wr_v hx hb hr hlocks hS ⟨⟨hO, hA⟩, rfl⟩ (Nat.le_refl _) (Nat.le_of_eq (Nat.zero_add _)) dX4_init_37
/-! a new desk's picture -/
def S0 : St := (fun _ _ => (0, 0, none), fun _ _ => 0)
def g0 (q9 a0 a1 a2 a3 t0 b0 t1 b1 t2 b2 t3 b3 z : Nat) : Gh := (fun k i => match k with | 1 => q9 | 2 => (match i with | 0 => a0 | 1 => a1 | 2 => a2 | _ => a3) | 3 => z | 4 => (match i with | 0 => t0 | 1 => t1 | 2 => t2 | _ => t3) | 5 => (match i with | 0 => b0 | 1 => b1 | 2 => b2 | _ => b3) | _ => 0, fun x => if x = q9 then (1, 0) else if x = a0 then (2, 0) else if x = a1 then (2, 1) else if x = a2 then (2, 2) else if x = a3 then (2, 3) else if x = t0 then (4, 0) else if x = b0 then (5, 0) else if x = t1 then (4, 1) else if x = b1 then (5, 1) else if x = t2 then (4, 2) else if x = b2 then (5, 2) else if x = t3 then (4, 3) else if x = b3 then (5, 3) else (0, 0), fun _ => 0, fun _ => 0)
theorem RA.init {E : EE} {H : Heap} {q9 a0 a1 a2 a3 t0 b0 t1 b1 t2 b2 t3 b3 : Nat} (o0 : q9 < a0) (o1 : a0 < a1) (o2 : a1 < a2) (o3 : a2 < a3) (o4 : a3 < t0) (o5 : t0 < b0) (o6 : b0 < t1) (o7 : t1 < b1) (o8 : b1 < t2) (o9 : t2 < b2) (o10 : b2 < t3) (o11 : t3 < b3) (hN : eN E ≤ q9) (hX : ZE E H) (hO : va_at E.1 vwCl (q9, .inr (6, [.ref a0, .ref a1, .ref a2, .ref a3, .ref t0, .ref t1, .ref t2, .ref t3, .int 0])) H) (hL0 : va_at E.1 vwCl (a0, .inr (0, [.int 0, .ref (eE E), .int 0])) H) (hL1 : va_at E.1 vwCl (a1, .inr (0, [.int 0, .ref (eE E), .int 0])) H) (hL2 : va_at E.1 vwCl (a2, .inr (0, [.int 0, .ref (eE E), .int 0])) H) (hL3 : va_at E.1 vwCl (a3, .inr (0, [.int 0, .ref (eE E), .int 0])) H) (hT0 : va_at E.1 vwCl (t0, .inr (4, [.int (nI 8), .int (nI 4), .ref b0])) H) (hB0 : va_at E.1 vwCl (b0, .inl (eI E, 8 * 4, .inl (fun _ => 0))) H) (hT1 : va_at E.1 vwCl (t1, .inr (4, [.int (nI 4), .int (nI 4), .ref b1])) H) (hB1 : va_at E.1 vwCl (b1, .inl (eI E, 4 * 4, .inl (fun _ => 0))) H) (hT2 : va_at E.1 vwCl (t2, .inr (4, [.int (nI 4), .int (nI 1), .ref b2])) H) (hB2 : va_at E.1 vwCl (b2, .inl (eI E, 4 * 1, .inl (fun _ => 0))) H) (hT3 : va_at E.1 vwCl (t3, .inr (4, [.int (nI 3), .int (nI 4), .ref b3])) H) (hB3 : va_at E.1 vwCl (b3, .inl (eI E, 3 * 4, .inl (fun _ => 0))) H) : RA E S0 (g0 q9 a0 a1 a2 a3 t0 b0 t1 b1 t2 b2 t3 b3 (eE E)) H := by
  refine ⟨fun k i hv => ?_, fun i _ => ⟨?_, (by decide : (0 : Nat) < 2 ^ 20)⟩, ⟨fun q hw => Nat.le_of_not_lt fun hlt => hw ?_, fun i _ _ => rfl⟩, hX⟩
  · match k, hv with
    | 0, hv => exact hv.elim
    | 1, hv =>
      have hv : i = 0 := hv
      subst hv
      exact ⟨(by show (if q9 = q9 then (1, 0) else if q9 = a0 then (2, 0) else if q9 = a1 then (2, 1) else if q9 = a2 then (2, 2) else if q9 = a3 then (2, 3) else if q9 = t0 then (4, 0) else if q9 = b0 then (5, 0) else if q9 = t1 then (4, 1) else if q9 = b1 then (5, 1) else if q9 = t2 then (4, 2) else if q9 = b2 then (5, 2) else if q9 = t3 then (4, 3) else if q9 = b3 then (5, 3) else (0, 0)) = ((1, 0) : Nat × Nat); rw [if_pos rfl]) , hO⟩
    | 2, hv =>
      have hv : i < 4 := hv
      match i, hv with
      | 0, _ => exact ⟨(by show (if a0 = q9 then (1, 0) else if a0 = a0 then (2, 0) else if a0 = a1 then (2, 1) else if a0 = a2 then (2, 2) else if a0 = a3 then (2, 3) else if a0 = t0 then (4, 0) else if a0 = b0 then (5, 0) else if a0 = t1 then (4, 1) else if a0 = b1 then (5, 1) else if a0 = t2 then (4, 2) else if a0 = b2 then (5, 2) else if a0 = t3 then (4, 3) else if a0 = b3 then (5, 3) else (0, 0)) = ((2, 0) : Nat × Nat); rw [if_neg (show ¬ a0 = q9 by omega), if_pos rfl]) , hL0⟩
      | 1, _ => exact ⟨(by show (if a1 = q9 then (1, 0) else if a1 = a0 then (2, 0) else if a1 = a1 then (2, 1) else if a1 = a2 then (2, 2) else if a1 = a3 then (2, 3) else if a1 = t0 then (4, 0) else if a1 = b0 then (5, 0) else if a1 = t1 then (4, 1) else if a1 = b1 then (5, 1) else if a1 = t2 then (4, 2) else if a1 = b2 then (5, 2) else if a1 = t3 then (4, 3) else if a1 = b3 then (5, 3) else (0, 0)) = ((2, 1) : Nat × Nat); rw [if_neg (show ¬ a1 = q9 by omega), if_neg (show ¬ a1 = a0 by omega), if_pos rfl]) , hL1⟩
      | 2, _ => exact ⟨(by show (if a2 = q9 then (1, 0) else if a2 = a0 then (2, 0) else if a2 = a1 then (2, 1) else if a2 = a2 then (2, 2) else if a2 = a3 then (2, 3) else if a2 = t0 then (4, 0) else if a2 = b0 then (5, 0) else if a2 = t1 then (4, 1) else if a2 = b1 then (5, 1) else if a2 = t2 then (4, 2) else if a2 = b2 then (5, 2) else if a2 = t3 then (4, 3) else if a2 = b3 then (5, 3) else (0, 0)) = ((2, 2) : Nat × Nat); rw [if_neg (show ¬ a2 = q9 by omega), if_neg (show ¬ a2 = a0 by omega), if_neg (show ¬ a2 = a1 by omega), if_pos rfl]) , hL2⟩
      | 3, _ => exact ⟨(by show (if a3 = q9 then (1, 0) else if a3 = a0 then (2, 0) else if a3 = a1 then (2, 1) else if a3 = a2 then (2, 2) else if a3 = a3 then (2, 3) else if a3 = t0 then (4, 0) else if a3 = b0 then (5, 0) else if a3 = t1 then (4, 1) else if a3 = b1 then (5, 1) else if a3 = t2 then (4, 2) else if a3 = b2 then (5, 2) else if a3 = t3 then (4, 3) else if a3 = b3 then (5, 3) else (0, 0)) = ((2, 3) : Nat × Nat); rw [if_neg (show ¬ a3 = q9 by omega), if_neg (show ¬ a3 = a0 by omega), if_neg (show ¬ a3 = a1 by omega), if_neg (show ¬ a3 = a2 by omega), if_pos rfl]) , hL3⟩
    | 3, hv => exact absurd hv.2 (Nat.lt_irrefl 0)
    | 4, hv =>
      have hv : i < 4 := hv
      match i, hv with
      | 0, _ => exact ⟨(by show (if t0 = q9 then (1, 0) else if t0 = a0 then (2, 0) else if t0 = a1 then (2, 1) else if t0 = a2 then (2, 2) else if t0 = a3 then (2, 3) else if t0 = t0 then (4, 0) else if t0 = b0 then (5, 0) else if t0 = t1 then (4, 1) else if t0 = b1 then (5, 1) else if t0 = t2 then (4, 2) else if t0 = b2 then (5, 2) else if t0 = t3 then (4, 3) else if t0 = b3 then (5, 3) else (0, 0)) = ((4, 0) : Nat × Nat); rw [if_neg (show ¬ t0 = q9 by omega), if_neg (show ¬ t0 = a0 by omega), if_neg (show ¬ t0 = a1 by omega), if_neg (show ¬ t0 = a2 by omega), if_neg (show ¬ t0 = a3 by omega), if_pos rfl]) , hT0⟩
      | 1, _ => exact ⟨(by show (if t1 = q9 then (1, 0) else if t1 = a0 then (2, 0) else if t1 = a1 then (2, 1) else if t1 = a2 then (2, 2) else if t1 = a3 then (2, 3) else if t1 = t0 then (4, 0) else if t1 = b0 then (5, 0) else if t1 = t1 then (4, 1) else if t1 = b1 then (5, 1) else if t1 = t2 then (4, 2) else if t1 = b2 then (5, 2) else if t1 = t3 then (4, 3) else if t1 = b3 then (5, 3) else (0, 0)) = ((4, 1) : Nat × Nat); rw [if_neg (show ¬ t1 = q9 by omega), if_neg (show ¬ t1 = a0 by omega), if_neg (show ¬ t1 = a1 by omega), if_neg (show ¬ t1 = a2 by omega), if_neg (show ¬ t1 = a3 by omega), if_neg (show ¬ t1 = t0 by omega), if_neg (show ¬ t1 = b0 by omega), if_pos rfl]) , hT1⟩
      | 2, _ => exact ⟨(by show (if t2 = q9 then (1, 0) else if t2 = a0 then (2, 0) else if t2 = a1 then (2, 1) else if t2 = a2 then (2, 2) else if t2 = a3 then (2, 3) else if t2 = t0 then (4, 0) else if t2 = b0 then (5, 0) else if t2 = t1 then (4, 1) else if t2 = b1 then (5, 1) else if t2 = t2 then (4, 2) else if t2 = b2 then (5, 2) else if t2 = t3 then (4, 3) else if t2 = b3 then (5, 3) else (0, 0)) = ((4, 2) : Nat × Nat); rw [if_neg (show ¬ t2 = q9 by omega), if_neg (show ¬ t2 = a0 by omega), if_neg (show ¬ t2 = a1 by omega), if_neg (show ¬ t2 = a2 by omega), if_neg (show ¬ t2 = a3 by omega), if_neg (show ¬ t2 = t0 by omega), if_neg (show ¬ t2 = b0 by omega), if_neg (show ¬ t2 = t1 by omega), if_neg (show ¬ t2 = b1 by omega), if_pos rfl]) , hT2⟩
      | 3, _ => exact ⟨(by show (if t3 = q9 then (1, 0) else if t3 = a0 then (2, 0) else if t3 = a1 then (2, 1) else if t3 = a2 then (2, 2) else if t3 = a3 then (2, 3) else if t3 = t0 then (4, 0) else if t3 = b0 then (5, 0) else if t3 = t1 then (4, 1) else if t3 = b1 then (5, 1) else if t3 = t2 then (4, 2) else if t3 = b2 then (5, 2) else if t3 = t3 then (4, 3) else if t3 = b3 then (5, 3) else (0, 0)) = ((4, 3) : Nat × Nat); rw [if_neg (show ¬ t3 = q9 by omega), if_neg (show ¬ t3 = a0 by omega), if_neg (show ¬ t3 = a1 by omega), if_neg (show ¬ t3 = a2 by omega), if_neg (show ¬ t3 = a3 by omega), if_neg (show ¬ t3 = t0 by omega), if_neg (show ¬ t3 = b0 by omega), if_neg (show ¬ t3 = t1 by omega), if_neg (show ¬ t3 = b1 by omega), if_neg (show ¬ t3 = t2 by omega), if_neg (show ¬ t3 = b2 by omega), if_pos rfl]) , hT3⟩
    | 5, hv =>
      have hv : i < 4 := hv
      match i, hv with
      | 0, _ => exact ⟨(by show (if b0 = q9 then (1, 0) else if b0 = a0 then (2, 0) else if b0 = a1 then (2, 1) else if b0 = a2 then (2, 2) else if b0 = a3 then (2, 3) else if b0 = t0 then (4, 0) else if b0 = b0 then (5, 0) else if b0 = t1 then (4, 1) else if b0 = b1 then (5, 1) else if b0 = t2 then (4, 2) else if b0 = b2 then (5, 2) else if b0 = t3 then (4, 3) else if b0 = b3 then (5, 3) else (0, 0)) = ((5, 0) : Nat × Nat); rw [if_neg (show ¬ b0 = q9 by omega), if_neg (show ¬ b0 = a0 by omega), if_neg (show ¬ b0 = a1 by omega), if_neg (show ¬ b0 = a2 by omega), if_neg (show ¬ b0 = a3 by omega), if_neg (show ¬ b0 = t0 by omega), if_pos rfl]) , hB0⟩
      | 1, _ => exact ⟨(by show (if b1 = q9 then (1, 0) else if b1 = a0 then (2, 0) else if b1 = a1 then (2, 1) else if b1 = a2 then (2, 2) else if b1 = a3 then (2, 3) else if b1 = t0 then (4, 0) else if b1 = b0 then (5, 0) else if b1 = t1 then (4, 1) else if b1 = b1 then (5, 1) else if b1 = t2 then (4, 2) else if b1 = b2 then (5, 2) else if b1 = t3 then (4, 3) else if b1 = b3 then (5, 3) else (0, 0)) = ((5, 1) : Nat × Nat); rw [if_neg (show ¬ b1 = q9 by omega), if_neg (show ¬ b1 = a0 by omega), if_neg (show ¬ b1 = a1 by omega), if_neg (show ¬ b1 = a2 by omega), if_neg (show ¬ b1 = a3 by omega), if_neg (show ¬ b1 = t0 by omega), if_neg (show ¬ b1 = b0 by omega), if_neg (show ¬ b1 = t1 by omega), if_pos rfl]) , hB1⟩
      | 2, _ => exact ⟨(by show (if b2 = q9 then (1, 0) else if b2 = a0 then (2, 0) else if b2 = a1 then (2, 1) else if b2 = a2 then (2, 2) else if b2 = a3 then (2, 3) else if b2 = t0 then (4, 0) else if b2 = b0 then (5, 0) else if b2 = t1 then (4, 1) else if b2 = b1 then (5, 1) else if b2 = t2 then (4, 2) else if b2 = b2 then (5, 2) else if b2 = t3 then (4, 3) else if b2 = b3 then (5, 3) else (0, 0)) = ((5, 2) : Nat × Nat); rw [if_neg (show ¬ b2 = q9 by omega), if_neg (show ¬ b2 = a0 by omega), if_neg (show ¬ b2 = a1 by omega), if_neg (show ¬ b2 = a2 by omega), if_neg (show ¬ b2 = a3 by omega), if_neg (show ¬ b2 = t0 by omega), if_neg (show ¬ b2 = b0 by omega), if_neg (show ¬ b2 = t1 by omega), if_neg (show ¬ b2 = b1 by omega), if_neg (show ¬ b2 = t2 by omega), if_pos rfl]) , hB2⟩
      | 3, _ => exact ⟨(by show (if b3 = q9 then (1, 0) else if b3 = a0 then (2, 0) else if b3 = a1 then (2, 1) else if b3 = a2 then (2, 2) else if b3 = a3 then (2, 3) else if b3 = t0 then (4, 0) else if b3 = b0 then (5, 0) else if b3 = t1 then (4, 1) else if b3 = b1 then (5, 1) else if b3 = t2 then (4, 2) else if b3 = b2 then (5, 2) else if b3 = t3 then (4, 3) else if b3 = b3 then (5, 3) else (0, 0)) = ((5, 3) : Nat × Nat); rw [if_neg (show ¬ b3 = q9 by omega), if_neg (show ¬ b3 = a0 by omega), if_neg (show ¬ b3 = a1 by omega), if_neg (show ¬ b3 = a2 by omega), if_neg (show ¬ b3 = a3 by omega), if_neg (show ¬ b3 = t0 by omega), if_neg (show ¬ b3 = b0 by omega), if_neg (show ¬ b3 = t1 by omega), if_neg (show ¬ b3 = b1 by omega), if_neg (show ¬ b3 = t2 by omega), if_neg (show ¬ b3 = b2 by omega), if_neg (show ¬ b3 = t3 by omega), if_pos rfl]) , hB3⟩
    | 6, hv => exact absurd hv (Nat.not_lt_zero i)
    | 7, hv => exact absurd hv (Nat.not_lt_zero i)
    | 8, hv => exact absurd hv (Nat.not_lt_zero i)
    | 9, hv => exact absurd hv (Nat.not_lt_zero i)
    | _ + 10, hv => exact hv.elim
  · match i with
    | 0 => exact Nat.le_refl 0
    | 1 => exact Nat.le_refl 0
    | 2 => exact Nat.le_refl 0
    | _ + 3 => exact Nat.le_refl 0
  · show ((if q = q9 then (1, 0) else if q = a0 then (2, 0) else if q = a1 then (2, 1) else if q = a2 then (2, 2) else if q = a3 then (2, 3) else if q = t0 then (4, 0) else if q = b0 then (5, 0) else if q = t1 then (4, 1) else if q = b1 then (5, 1) else if q = t2 then (4, 2) else if q = b2 then (5, 2) else if q = t3 then (4, 3) else if q = b3 then (5, 3) else (0, 0)) : Nat × Nat).1 = 0
    rw [if_neg (show ¬ q = q9 by omega), if_neg (show ¬ q = a0 by omega), if_neg (show ¬ q = a1 by omega), if_neg (show ¬ q = a2 by omega), if_neg (show ¬ q = a3 by omega), if_neg (show ¬ q = t0 by omega), if_neg (show ¬ q = b0 by omega), if_neg (show ¬ q = t1 by omega), if_neg (show ¬ q = b1 by omega), if_neg (show ¬ q = t2 by omega), if_neg (show ¬ q = b2 by omega), if_neg (show ¬ q = t3 by omega), if_neg (show ¬ q = b3 by omega)]
theorem g0_ow {q9 a0 a1 a2 a3 t0 b0 t1 b1 t2 b2 t3 b3 z : Nat} (o0 : q9 < a0) (o1 : a0 < a1) (o2 : a1 < a2) (o3 : a2 < a3) (o4 : a3 < t0) (o5 : t0 < b0) (o6 : b0 < t1) (o7 : t1 < b1) (o8 : b1 < t2) (o9 : t2 < b2) (o10 : b2 < t3) (o11 : t3 < b3) {x : Nat} (h : ow (g0 q9 a0 a1 a2 a3 t0 b0 t1 b1 t2 b2 t3 b3 z) x) : x = q9 ∨ (a0 ≤ x ∧ x ≤ b3) := by
  have hw : ((if x = q9 then (1, 0) else if x = a0 then (2, 0) else if x = a1 then (2, 1) else if x = a2 then (2, 2) else if x = a3 then (2, 3) else if x = t0 then (4, 0) else if x = b0 then (5, 0) else if x = t1 then (4, 1) else if x = b1 then (5, 1) else if x = t2 then (4, 2) else if x = b2 then (5, 2) else if x = t3 then (4, 3) else if x = b3 then (5, 3) else (0, 0)) : Nat × Nat).1 ≠ 0 := h
  by_cases h1 : x = q9
  · exact Or.inl h1
  · refine Or.inr ?_
    rcases Nat.lt_or_ge x a0 with h2 | h2
    · exact absurd (by rw [if_neg (show ¬ x = q9 by omega), if_neg (show ¬ x = a0 by omega), if_neg (show ¬ x = a1 by omega), if_neg (show ¬ x = a2 by omega), if_neg (show ¬ x = a3 by omega), if_neg (show ¬ x = t0 by omega), if_neg (show ¬ x = b0 by omega), if_neg (show ¬ x = t1 by omega), if_neg (show ¬ x = b1 by omega), if_neg (show ¬ x = t2 by omega), if_neg (show ¬ x = b2 by omega), if_neg (show ¬ x = t3 by omega), if_neg (show ¬ x = b3 by omega)]) hw
    · rcases Nat.lt_or_ge b3 x with h3 | h3
      · exact absurd (by rw [if_neg (show ¬ x = q9 by omega), if_neg (show ¬ x = a0 by omega), if_neg (show ¬ x = a1 by omega), if_neg (show ¬ x = a2 by omega), if_neg (show ¬ x = a3 by omega), if_neg (show ¬ x = t0 by omega), if_neg (show ¬ x = b0 by omega), if_neg (show ¬ x = t1 by omega), if_neg (show ¬ x = b1 by omega), if_neg (show ¬ x = t2 by omega), if_neg (show ¬ x = b2 by omega), if_neg (show ¬ x = t3 by omega), if_neg (show ¬ x = b3 by omega)]) hw
      · exact ⟨h2, h3⟩

