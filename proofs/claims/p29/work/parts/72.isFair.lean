/-! what the law looks at behind each call -/
theorem some_of {α : Type} {o : Option α} (h : ¬ o = none) : ∃ j, o = some j := by
  cases o with
  | none => exact absurd rfl h
  | some j => exact ⟨j, rfl⟩
theorem appr_no {S : St} {c : Nat} (h : ¬ S.cs c = 1) : apprA S c = none := by
  cases e : apprA S c with
  | none => rfl
  | some j => exact absurd (apprA_1 e).1 h
theorem n_lt0 {x : Int32} (h : 0 ≤ x.toInt) : ¬ x < 0 := by
  rw [Int32.lt_iff_toInt_lt]
  have z : (0 : Int32).toInt = 0 := rfl
  omega
theorem n_gt {x b : Int32} (h : x.toInt ≤ b.toInt) : ¬ b < x := by
  rw [Int32.lt_iff_toInt_lt]
  omega
theorem i_le {x b : Int32} (h : x.toInt ≤ b.toInt) : x ≤ b := Int32.le_iff_toInt_le.mpr h
/-- the states looked at so far -/
def frI (S : St) (f : Nat → Int32) (i : Nat) : Nat → Int32 := fun c => if c < i then S.cs c else f c
theorem frI_0 {S : St} {f : Nat → Int32} : frI S f 0 = f := by
  funext c
  unfold frI
  exact if_neg (Nat.not_lt_zero _)
theorem frI_at {S : St} {f : Nat → Int32} {i : Nat} : frI S f i i = f i := by
  unfold frI
  exact if_neg (Nat.lt_irrefl _)
theorem frI_s {S : St} {f : Nat → Int32} {i : Nat} : frI S f (i + 1) = va_up (frI S f i) i (S.cs i) := by
  funext c
  by_cases e : c = i
  · subst e
    rw [va_up_self]
    unfold frI
    exact if_pos (Nat.lt_succ_self _)
  · rw [va_up_ne _ _ e]
    unfold frI
    by_cases h : c < i
    · rw [if_pos h, if_pos (Nat.lt_succ_of_lt h)]
    · rw [if_neg h, if_neg (by omega)]
/-- who still waits, person by person -/
def wC (S : St) : Nat → Int32
  | 0 => sm (waitQ S) S.nc
  | n + 1 => wC S n - toApA S n
theorem wC_s (S : St) : ∀ n, wC S n + sm (toApA S) n = sm (waitQ S) S.nc := by
  intro n
  induction n with
  | zero => show sm (waitQ S) S.nc + 0 = _; rw [Int32.add_zero]
  | succ n ih =>
    show wC S n - toApA S n + (sm (toApA S) n + toApA S n) = _
    rw [← ih, Int32.add_comm (sm (toApA S) n), ← Int32.add_assoc, Int32.sub_add_cancel]
theorem wC_z {S : St} (h : Inv S) : wC S S.np = 0 := by
  have e := wC_s S S.np
  rw [wait_sum h] at e
  have e2 : wC S S.np + sm (toApA S) S.np - sm (toApA S) S.np = sm (toApA S) S.np - sm (toApA S) S.np := by rw [e]
  rw [Int32.add_sub_cancel, Int32.sub_self] at e2
  exact e2
set_option maxRecDepth 100000 in
set_option maxHeartbeats 8000000 in
theorem c_L_isFair (l : Launch) (E : EE) {S : St} {g : Gh} (hF : Fine S) {a9 : Nat} {f : Nat → Int32} (hf : FR S f) : WM l E yL_isFair cL_isFair 12 (some .boolean) (wD 5 0 0) [.ref (g.ad 1 0), .int (nI S.np), .ref a9] (fun H => RA E S g H ∧ va_at E.1 vwCl (a9, .inl (eI E, 30, .inl f)) H ∧ (¬ ow g a9 ∧ eN E ≤ a9)) (fun q => q = a9) (fun _ => fun v H => (RA E S g H ∧ va_at E.1 vwCl (a9, .inl (eI E, 30, .inl (frN S f))) H) ∧ v = some (.int 1)) := by
  have hI : Inv S := hF.1.1
  refine wm_of rfl (Nat.le_of_ble_eq_true rfl) (fun p e s m below meth c ls hx hb hr hml (hown : s.vm.findClass RL = some m.cls) hC hlocks hP hl hini => ?_)
  obtain ⟨hR, hA, ha⟩ := hP
  have hl : lv_has ls 12 [(0, .ref (g.ad 1 0)), (1, .int (nI S.np)), (2, .ref (a9))] := hl
  refine lv_aload_n hx hb dL_isFair_0 rfl (lv_at hl 0 rfl) ?_
  refine lv_iconst (v := 2) hx hb dL_isFair_1 (by decide) ?_
  refine rc_V (As := [.int (2)]) hx hb hml hown hC hl (c_X6_many l E hI (w9 := 2) (by decide)) (rec_of hC (RA.x hR) rfl) (zm_L_40 hC.1) kv_X6_many hR rfl rfl (rwD_le (by decide) (by decide)) ⟨rfl, rfl⟩ (Nat.le_of_ble_eq_true rfl) ⟨Nat.zero_le _, Nat.zero_le _⟩ dL_isFair_2 ?_
  refine lv_istore_n (lv' := [(3, .int (nI S.nc)), (0, .ref (g.ad 1 0)), (1, .int (nI S.np)), (2, .ref (a9))]) hx hb dL_isFair_5 rfl hl (by decide) rfl (fun ls hl => ?_)
  refine lv_aload_n hx hb dL_isFair_6 rfl (lv_at hl 1 rfl) ?_
  refine lv_bipush (v := 8) hx hb dL_isFair_7 (by decide) ?_
  refine rc_V (As := [.int (8)]) hx hb hml hown hC hl (c_X6_many l E hI (w9 := 8) (by decide)) (rec_of hC (RA.x hR) rfl) (zm_L_40 hC.1) kv_X6_many hR rfl rfl (rwD_le (by decide) (by decide)) ⟨rfl, rfl⟩ (Nat.le_of_ble_eq_true rfl) ⟨Nat.zero_le _, Nat.zero_le _⟩ dL_isFair_9 ?_
  refine lv_istore (lv' := [(4, .int (nI S.nr)), (3, .int (nI S.nc)), (0, .ref (g.ad 1 0)), (1, .int (nI S.np)), (2, .ref (a9))]) hx hb dL_isFair_12 hl (by decide) rfl (fun ls hl => ?_)
  refine lv_iconst (v := 0) hx hb dL_isFair_14 (by decide) ?_
  refine lv_istore (lv' := [(5, .int (0)), (4, .int (nI S.nr)), (3, .int (nI S.nc)), (0, .ref (g.ad 1 0)), (1, .int (nI S.np)), (2, .ref (a9))]) hx hb dL_isFair_15 hl (by decide) rfl (fun ls hl => ?_)
  refine lv_iconst (v := 0) hx hb dL_isFair_17 (by decide) ?_
  refine lv_istore (lv' := [(6, .int (0)), (5, .int (0)), (4, .int (nI S.nr)), (3, .int (nI S.nc)), (0, .ref (g.ad 1 0)), (1, .int (nI S.np)), (2, .ref (a9))]) hx hb dL_isFair_18 hl (by decide) rfl (fun ls hl => ?_)
  refine lv_iconst (v := 0) hx hb dL_isFair_20 (by decide) ?_
  refine lv_istore (lv' := [(7, .int (0)), (6, .int (0)), (5, .int (0)), (4, .int (nI S.nr)), (3, .int (nI S.nc)), (0, .ref (g.ad 1 0)), (1, .int (nI S.np)), (2, .ref (a9))]) hx hb dL_isFair_21 hl (by decide) rfl (fun ls hl => ?_)
  refine lv_iconst (v := 0) hx hb dL_isFair_23 (by decide) ?_
  refine lv_istore (lv' := [(8, .int (0)), (7, .int (0)), (6, .int (0)), (5, .int (0)), (4, .int (nI S.nr)), (3, .int (nI S.nc)), (0, .ref (g.ad 1 0)), (1, .int (nI S.np)), (2, .ref (a9))]) hx hb dL_isFair_24 hl (by decide) rfl (fun ls hl => ?_)
  have loop26 : ∀ (r26 i : Nat), i + r26 = S.nr → ∀ ls, lv_has ls 12 [(8, .int (nI (i))), (7, .int (0)), (6, .int (0)), (5, .int (sm (freeQ S) i)), (4, .int (nI S.nr)), (3, .int (nI S.nc)), (0, .ref (g.ad 1 0)), (1, .int (nI S.np)), (2, .ref (a9))] → W p l e (wD 5 0 0) s m ([.ref (g.ad 1 0), .int (nI S.np), .ref a9] : List Value).toArray below meth c s.heap [] 0 0 (MQ below (WQ (fun q => q = a9) s.heap.size (fun v H => (RA E S g H ∧ va_at E.1 vwCl (a9, .inl (eI E, 30, .inl (frN S f))) H) ∧ v = some (.int 1))) ([.ref (g.ad 1 0), .int (nI S.np), .ref a9] : List Value).toArray s 0 0 (fun q => (fun q => q = a9) q ∨ s.heap.size ≤ q)) (F0 m 26 ls []) := by
    intro r26
    induction r26 with
    | zero =>
      intro i hE26 ls hl
      have hN26 : i = S.nr := by omega
      subst hN26
      refine lv_iload hx hb dL_isFair_26 (lv_at hl 0 rfl) ?_
      refine lv_iload hx hb dL_isFair_28 (lv_at hl 4 rfl) ?_
      refine lv_icmp_ge (tgt := 81) hx hb dL_isFair_30 (by decide) (fun c_30 => ?_) (fun c_30 => ?_)
      ·
        refine lv_iconst (v := 0) hx hb dL_isFair_81 (by decide) ?_
        refine lv_istore (lv' := [(8, .int (0)), (7, .int (0)), (6, .int (0)), (5, .int (sm (freeQ S) (S.nr))), (4, .int (nI S.nr)), (3, .int (nI S.nc)), (0, .ref (g.ad 1 0)), (1, .int (nI S.np)), (2, .ref (a9))]) hx hb dL_isFair_82 hl (by decide) rfl (fun ls hl => ?_)
        have loop84 : ∀ (r i : Nat) (H1 : Heap) (locs1 : List Loc), i + r = S.nc → RA E S g H1 → va_at E.1 vwCl (a9, .inl (eI E, 30, .inl (frI S f i))) H1 → va_S (fun q => (fun q => q = a9) q ∨ s.heap.size ≤ q) s.heap H1 locs1 → ∀ ls, lv_has ls 12 [(8, .int (nI (i))), (7, .int (sm (costQ S) i)), (6, .int (sm (waitQ S) i)), (5, .int (sm (freeQ S) (S.nr))), (4, .int (nI S.nr)), (3, .int (nI S.nc)), (0, .ref (g.ad 1 0)), (1, .int (nI S.np)), (2, .ref (a9))] → W p l e (wD 5 0 0) s m ([.ref (g.ad 1 0), .int (nI S.np), .ref a9] : List Value).toArray below meth c H1 locs1 0 0 (MQ below (WQ (fun q => q = a9) s.heap.size (fun v H => (RA E S g H ∧ va_at E.1 vwCl (a9, .inl (eI E, 30, .inl (frN S f))) H) ∧ v = some (.int 1))) ([.ref (g.ad 1 0), .int (nI S.np), .ref a9] : List Value).toArray s 0 0 (fun q => (fun q => q = a9) q ∨ s.heap.size ≤ q)) (F0 m 84 ls []) := by
          intro r
          induction r with
          | zero =>
            intro i H1 locs1 hE hR hA hS ls hl
            have hN : i = S.nc := by omega
            subst hN
            refine lv_iload hx hb dL_isFair_84 (lv_at hl 0 rfl) ?_
            refine lv_iload_n hx hb dL_isFair_86 rfl (lv_at hl 5 rfl) ?_
            refine lv_icmp_ge (tgt := 287) hx hb dL_isFair_87 (by decide) (fun c_87 => ?_) (fun c_87 => ?_)
            ·
              have hl : lv_has ls 12 [(8, .int (nI (S.nc))), (7, .int (sm (costQ S) S.nc)), (6, .int (wC S 0)), (5, .int (sm (freeQ S) (S.nr))), (4, .int (nI S.nr)), (3, .int (nI S.nc)), (0, .ref (g.ad 1 0)), (1, .int (nI S.np)), (2, .ref (a9))] := hl
              have hAN : va_at E.1 vwCl (a9, .inl (eI E, 30, .inl (frN S f))) H1 := hA
              refine lv_iconst (v := 0) hx hb dL_isFair_287 (by decide) ?_
              refine lv_istore (lv' := [(8, .int (0)), (7, .int (sm (costQ S) S.nc)), (6, .int (wC S 0)), (5, .int (sm (freeQ S) (S.nr))), (4, .int (nI S.nr)), (3, .int (nI S.nc)), (0, .ref (g.ad 1 0)), (1, .int (nI S.np)), (2, .ref (a9))]) hx hb dL_isFair_288 hl (by decide) rfl (fun ls hl => ?_)
              have loop290 : ∀ (r290 i : Nat), i + r290 = S.np → ∀ ls, lv_has ls 12 [(8, .int (nI (i))), (7, .int (sm (costQ S) S.nc)), (6, .int (wC S i)), (5, .int (sm (freeQ S) (S.nr))), (4, .int (nI S.nr)), (3, .int (nI S.nc)), (0, .ref (g.ad 1 0)), (1, .int (nI S.np)), (2, .ref (a9))] → W p l e (wD 5 0 0) s m ([.ref (g.ad 1 0), .int (nI S.np), .ref a9] : List Value).toArray below meth c H1 locs1 0 0 (MQ below (WQ (fun q => q = a9) s.heap.size (fun v H => (RA E S g H ∧ va_at E.1 vwCl (a9, .inl (eI E, 30, .inl (frN S f))) H) ∧ v = some (.int 1))) ([.ref (g.ad 1 0), .int (nI S.np), .ref a9] : List Value).toArray s 0 0 (fun q => (fun q => q = a9) q ∨ s.heap.size ≤ q)) (F0 m 290 ls []) := by
                intro r290
                induction r290 with
                | zero =>
                  intro i hE290 ls hl
                  have hN290 : i = S.np := by omega
                  subst hN290
                  refine lv_iload hx hb dL_isFair_290 (lv_at hl 0 rfl) ?_
                  refine lv_iload_n hx hb dL_isFair_292 rfl (lv_at hl 7 rfl) ?_
                  refine lv_icmp_ge (tgt := 359) hx hb dL_isFair_293 (by decide) (fun c_293 => ?_) (fun c_293 => ?_)
                  ·
                    refine lv_iload hx hb dL_isFair_359 (lv_at hl 2 rfl) ?_
                    refine lv_if_ne (tgt := 425) hx hb dL_isFair_361 (by decide) (fun c_361 => ?_) (fun c_361 => ?_)
                    · exact absurd (wC_z hI) c_361
                    ·
                      refine lv_aload_n hx hb dL_isFair_364 rfl (lv_at hl 6 rfl) ?_
                      refine lv_bipush (v := 9) hx hb dL_isFair_365 (by decide) ?_
                      refine rc_V (As := [.int (9)]) hx hb hml hown hC hl (c_X6_many l E hI (w9 := 9) (by decide)) (rec_of hC (RA.x hR) rfl) (zm_L_40 hC.1) kv_X6_many hR rfl rfl (rwD_le (by decide) (by decide)) ⟨rfl, rfl⟩ (Nat.le_of_ble_eq_true rfl) ⟨Nat.zero_le _, Nat.zero_le _⟩ dL_isFair_367 ?_
                      refine lv_iload hx hb dL_isFair_370 (lv_at hl 3 rfl) ?_
                      refine lv_icmp_ne (tgt := 425) hx hb dL_isFair_372 (by decide) (fun c_372 => ?_) (fun c_372 => ?_)
                      · exact absurd (show freeA S = sm (freeQ S) S.nr from rfl) c_372
                      ·
                        refine lv_aload_n hx hb dL_isFair_375 rfl (lv_at hl 6 rfl) ?_
                        refine lv_bipush (v := 12) hx hb dL_isFair_376 (by decide) ?_
                        refine rc_V (As := [.int (12)]) hx hb hml hown hC hl (c_X6_many l E hI (w9 := 12) (by decide)) (rec_of hC (RA.x hR) rfl) (zm_L_40 hC.1) kv_X6_many hR rfl rfl (rwD_le (by decide) (by decide)) ⟨rfl, rfl⟩ (Nat.le_of_ble_eq_true rfl) ⟨Nat.zero_le _, Nat.zero_le _⟩ dL_isFair_378 ?_
                        refine lv_iload hx hb dL_isFair_381 (lv_at hl 1 rfl) ?_
                        refine lv_icmp_ne (tgt := 425) hx hb dL_isFair_383 (by decide) (fun c_383 => ?_) (fun c_383 => ?_)
                        · exact absurd (show costsA S = sm (costQ S) S.nc from rfl) c_383
                        ·
                          refine lv_aload_n hx hb dL_isFair_386 rfl (lv_at hl 6 rfl) ?_
                          refine lv_iconst (v := 3) hx hb dL_isFair_387 (by decide) ?_
                          refine rc_V (As := [.int (3)]) hx hb hml hown hC hl (c_X6_many l E hI (w9 := 3) (by decide)) (rec_of hC (RA.x hR) rfl) (zm_L_40 hC.1) kv_X6_many hR rfl rfl (rwD_le (by decide) (by decide)) ⟨rfl, rfl⟩ (Nat.le_of_ble_eq_true rfl) ⟨Nat.zero_le _, Nat.zero_le _⟩ dL_isFair_388 ?_
                          refine lv_aload_n hx hb dL_isFair_391 rfl (lv_at hl 6 rfl) ?_
                          refine lv_iconst (v := 4) hx hb dL_isFair_392 (by decide) ?_
                          refine rc_V (As := [.int (4)]) hx hb hml hown hC hl (c_X6_many l E hI (w9 := 4) (by decide)) (rec_of hC (RA.x hR) rfl) (zm_L_40 hC.1) kv_X6_many hR rfl rfl (rwD_le (by decide) (by decide)) ⟨rfl, rfl⟩ (Nat.le_of_ble_eq_true rfl) ⟨Nat.zero_le _, Nat.zero_le _⟩ dL_isFair_393 ?_
                          refine lv_iadd hx hb dL_isFair_396 ?_
                          refine lv_aload_n hx hb dL_isFair_397 rfl (lv_at hl 6 rfl) ?_
                          refine lv_iconst (v := 5) hx hb dL_isFair_398 (by decide) ?_
                          refine rc_V (As := [.int (5)]) hx hb hml hown hC hl (c_X6_many l E hI (w9 := 5) (by decide)) (rec_of hC (RA.x hR) rfl) (zm_L_40 hC.1) kv_X6_many hR rfl rfl (rwD_le (by decide) (by decide)) ⟨rfl, rfl⟩ (Nat.le_of_ble_eq_true rfl) ⟨Nat.zero_le _, Nat.zero_le _⟩ dL_isFair_399 ?_
                          refine lv_iadd hx hb dL_isFair_402 ?_
                          refine lv_aload_n hx hb dL_isFair_403 rfl (lv_at hl 6 rfl) ?_
                          refine lv_bipush (v := 6) hx hb dL_isFair_404 (by decide) ?_
                          refine rc_V (As := [.int (6)]) hx hb hml hown hC hl (c_X6_many l E hI (w9 := 6) (by decide)) (rec_of hC (RA.x hR) rfl) (zm_L_40 hC.1) kv_X6_many hR rfl rfl (rwD_le (by decide) (by decide)) ⟨rfl, rfl⟩ (Nat.le_of_ble_eq_true rfl) ⟨Nat.zero_le _, Nat.zero_le _⟩ dL_isFair_406 ?_
                          refine lv_iadd hx hb dL_isFair_409 ?_
                          refine lv_aload_n hx hb dL_isFair_410 rfl (lv_at hl 6 rfl) ?_
                          refine lv_bipush (v := 7) hx hb dL_isFair_411 (by decide) ?_
                          refine rc_V (As := [.int (7)]) hx hb hml hown hC hl (c_X6_many l E hI (w9 := 7) (by decide)) (rec_of hC (RA.x hR) rfl) (zm_L_40 hC.1) kv_X6_many hR rfl rfl (rwD_le (by decide) (by decide)) ⟨rfl, rfl⟩ (Nat.le_of_ble_eq_true rfl) ⟨Nat.zero_le _, Nat.zero_le _⟩ dL_isFair_413 ?_
                          refine lv_iadd hx hb dL_isFair_416 ?_
                          refine lv_iload_n hx hb dL_isFair_417 rfl (lv_at hl 5 rfl) ?_
                          refine lv_icmp_ne (tgt := 425) hx hb dL_isFair_418 (by decide) (fun c_418 => ?_) (fun c_418 => ?_)
                          · exact absurd (show _ = nI S.nc from in_sum hI) c_418
                          ·
                            refine lv_iconst (v := 1) hx hb dL_isFair_421 (by decide) ?_
                            refine lv_goto (tgt := 426) hx hb dL_isFair_422 (by decide) ?_
                            exact wr_z hx hb hr hlocks (by decide) hS ⟨⟨hR, hAN⟩, rfl⟩ (Nat.le_of_ble_eq_true rfl) (Nat.le_of_ble_eq_true rfl) dL_isFair_426
                  · exact absurd (Int32.le_refl _) c_293
                | succ r290 ih290 =>
                  intro i hE290 ls hl
                  have hlt290 : i < S.np := by omega
                  refine lv_iload hx hb dL_isFair_290 (lv_at hl 0 rfl) ?_
                  refine lv_iload_n hx hb dL_isFair_292 rfl (lv_at hl 7 rfl) ?_
                  refine lv_icmp_ge (tgt := 359) hx hb dL_isFair_293 (by decide) (fun c_293 => ?_) (fun c_293 => ?_)
                  · exact absurd c_293 (nI_ge hlt290 hI.np31)
                  ·
                    refine lv_aload_n hx hb dL_isFair_296 rfl (lv_at hl 6 rfl) ?_
                    refine lv_iload hx hb dL_isFair_297 (lv_at hl 0 rfl) ?_
                    refine lv_iconst (v := 1) hx hb dL_isFair_299 (by decide) ?_
                    refine rc_V (As := [.int (nI (i)), .int (1)]) hx hb hml hown hC hl (c_X6_ofPerson l E hI (p9 := i) hlt290 (w9 := 1) (by decide)) (rec_of hC (RA.x hR) rfl) (zm_L_87 hC.1) kv_X6_ofPerson hR rfl rfl (rwD_le (by decide) (by decide)) ⟨rfl, rfl⟩ (Nat.le_of_ble_eq_true rfl) ⟨Nat.zero_le _, Nat.zero_le _⟩ dL_isFair_300 ?_
                    refine lv_istore (lv' := [(9, .int (S.tr i)), (8, .int (nI (i))), (7, .int (sm (costQ S) S.nc)), (6, .int (wC S i)), (5, .int (sm (freeQ S) (S.nr))), (4, .int (nI S.nr)), (3, .int (nI S.nc)), (0, .ref (g.ad 1 0)), (1, .int (nI S.np)), (2, .ref (a9))]) hx hb dL_isFair_303 hl (by decide) rfl (fun ls hl => ?_)
                    refine lv_iload hx hb dL_isFair_305 (lv_at hl 0 rfl) ?_
                    refine lv_if_lt (tgt := 338) hx hb dL_isFair_307 (by decide) (fun c_307 => ?_) (fun c_307 => ?_)
                    · exact absurd c_307 (n_lt0 (hI.tr hlt290).1)
                    ·
                      refine lv_iload hx hb dL_isFair_310 (lv_at hl 0 rfl) ?_
                      refine lv_bipush (v := 10) hx hb dL_isFair_312 (by decide) ?_
                      refine lv_icmp_gt (tgt := 338) hx hb dL_isFair_314 (by decide) (fun c_314 => ?_) (fun c_314 => ?_)
                      · exact absurd c_314 (n_gt (b := 10) (hI.tr hlt290).2)
                      ·
                        refine lv_aload_n hx hb dL_isFair_317 rfl (lv_at hl 7 rfl) ?_
                        refine lv_iload hx hb dL_isFair_318 (lv_at hl 1 rfl) ?_
                        refine lv_iconst (v := 2) hx hb dL_isFair_320 (by decide) ?_
                        refine rc_V (As := [.int (nI (i)), .int (2)]) hx hb hml hown hC hl (c_X6_ofPerson l E hI (p9 := i) hlt290 (w9 := 2) (by decide)) (rec_of hC (RA.x hR) rfl) (zm_L_87 hC.1) kv_X6_ofPerson hR rfl rfl (rwD_le (by decide) (by decide)) ⟨rfl, rfl⟩ (Nat.le_of_ble_eq_true rfl) ⟨Nat.zero_le _, Nat.zero_le _⟩ dL_isFair_321 ?_
                        refine lv_if_lt (tgt := 338) hx hb dL_isFair_324 (by decide) (fun c_324 => ?_) (fun c_324 => ?_)
                        · exact absurd c_324 (n_lt0 (hI.po hlt290).1)
                        ·
                          refine lv_aload_n hx hb dL_isFair_327 rfl (lv_at hl 7 rfl) ?_
                          refine lv_iload hx hb dL_isFair_328 (lv_at hl 1 rfl) ?_
                          refine lv_iconst (v := 2) hx hb dL_isFair_330 (by decide) ?_
                          refine rc_V (As := [.int (nI (i)), .int (2)]) hx hb hml hown hC hl (c_X6_ofPerson l E hI (p9 := i) hlt290 (w9 := 2) (by decide)) (rec_of hC (RA.x hR) rfl) (zm_L_87 hC.1) kv_X6_ofPerson hR rfl rfl (rwD_le (by decide) (by decide)) ⟨rfl, rfl⟩ (Nat.le_of_ble_eq_true rfl) ⟨Nat.zero_le _, Nat.zero_le _⟩ dL_isFair_331 ?_
                          refine lv_iconst (v := 2) hx hb dL_isFair_334 (by decide) ?_
                          refine lv_icmp_le (tgt := 340) hx hb dL_isFair_335 (by decide) (fun c_335 => ?_) (fun c_335 => ?_)
                          ·
                            refine lv_iload hx hb dL_isFair_340 (lv_at hl 3 rfl) ?_
                            refine lv_aload_n hx hb dL_isFair_342 rfl (lv_at hl 7 rfl) ?_
                            refine lv_iload hx hb dL_isFair_343 (lv_at hl 1 rfl) ?_
                            refine lv_bipush (v := 6) hx hb dL_isFair_345 (by decide) ?_
                            refine rc_V (As := [.int (nI (i)), .int (6)]) hx hb hml hown hC hl (c_X6_ofPerson l E hI (p9 := i) hlt290 (w9 := 6) (by decide)) (rec_of hC (RA.x hR) rfl) (zm_L_87 hC.1) kv_X6_ofPerson hR rfl rfl (rwD_le (by decide) (by decide)) ⟨rfl, rfl⟩ (Nat.le_of_ble_eq_true rfl) ⟨Nat.zero_le _, Nat.zero_le _⟩ dL_isFair_347 ?_
                            refine lv_isub hx hb dL_isFair_350 ?_
                            refine lv_istore (lv' := [(6, .int ((wC S i) - (toApA S i))), (9, .int (S.tr i)), (8, .int (nI (i))), (7, .int (sm (costQ S) S.nc)), (5, .int (sm (freeQ S) (S.nr))), (4, .int (nI S.nr)), (3, .int (nI S.nc)), (0, .ref (g.ad 1 0)), (1, .int (nI S.np)), (2, .ref (a9))]) hx hb dL_isFair_351 hl (by decide) rfl (fun ls hl => ?_)
                            refine lv_iinc (v := nI (i) + 1) (lv' := [(8, .int (nI (i) + 1)), (6, .int ((wC S i) - (toApA S i))), (9, .int (S.tr i)), (7, .int (sm (costQ S) S.nc)), (5, .int (sm (freeQ S) (S.nr))), (4, .int (nI S.nr)), (3, .int (nI S.nc)), (0, .ref (g.ad 1 0)), (1, .int (nI S.np)), (2, .ref (a9))]) hx hb dL_isFair_353 hl (k := 2) rfl rfl (by decide) rfl (fun ls hl => ?_)
                            refine lv_goto (tgt := 290) hx hb dL_isFair_356 (by decide) ?_
                            refine ih290 (i + 1) (by omega) ls ?_
                            rw [nI_succ i, show wC S (i + 1) = wC S i - toApA S i from rfl]
                            exact lv_sub hl [0, 3, 1, 4, 5, 6, 7, 8, 9] rfl
                          · exact absurd (i_le (b := 2) (hI.po hlt290).2) c_335
              exact loop290 (S.np) 0 (by omega) ls (lv_sub hl [0, 1, 2, 3, 4, 5, 6, 7, 8] rfl)
            · exact absurd (Int32.le_refl _) c_87
          | succ r ih =>
            intro i H1 locs1 hE hR hA hS ls hl
            have hlt : i < S.nc := by omega
            have h30 : i < 30 := Nat.lt_of_lt_of_le hlt hI.nc
            refine lv_iload hx hb dL_isFair_84 (lv_at hl 0 rfl) ?_
            refine lv_iload_n hx hb dL_isFair_86 rfl (lv_at hl 5 rfl) ?_
            refine lv_icmp_ge (tgt := 287) hx hb dL_isFair_87 (by decide) (fun c_87 => ?_) (fun c_87 => ?_)
            · exact absurd c_87 (nI_ge hlt hI.nc31)
            ·
              refine lv_aload_n hx hb dL_isFair_90 rfl (lv_at hl 6 rfl) ?_
              refine lv_iload hx hb dL_isFair_91 (lv_at hl 0 rfl) ?_
              refine lv_iconst (v := 4) hx hb dL_isFair_93 (by decide) ?_
              refine rc_V (As := [.int (nI (i)), .int (4)]) hx hb hml hown hC hl (c_X6_ofCharge l E hI (c9 := i) hlt (w9 := 4) (by decide)) (rec_of hC (RA.x hR) rfl) (zm_L_62 hC.1) kv_X6_ofCharge hR rfl rfl (rwD_le (by decide) (by decide)) ⟨rfl, rfl⟩ (Nat.le_of_ble_eq_true rfl) ⟨Nat.zero_le _, Nat.zero_le _⟩ dL_isFair_94 ?_
              refine lv_istore (lv' := [(9, .int (S.cs i)), (8, .int (nI (i))), (7, .int (sm (costQ S) i)), (6, .int (sm (waitQ S) i)), (5, .int (sm (freeQ S) (S.nr))), (4, .int (nI S.nr)), (3, .int (nI S.nc)), (0, .ref (g.ad 1 0)), (1, .int (nI S.np)), (2, .ref (a9))]) hx hb dL_isFair_97 hl (by decide) rfl (fun ls hl => ?_)
              refine lv_aload_n hx hb dL_isFair_99 rfl (lv_at hl 7 rfl) ?_
              refine lv_iload hx hb dL_isFair_100 (lv_at hl 1 rfl) ?_
              refine lv_bipush (v := 10) hx hb dL_isFair_102 (by decide) ?_
              refine rc_V (As := [.int (nI (i)), .int (10)]) hx hb hml hown hC hl (c_X6_ofCharge l E hI (c9 := i) hlt (w9 := 10) (by decide)) (rec_of hC (RA.x hR) rfl) (zm_L_62 hC.1) kv_X6_ofCharge hR rfl rfl (rwD_le (by decide) (by decide)) ⟨rfl, rfl⟩ (Nat.le_of_ble_eq_true rfl) ⟨Nat.zero_le _, Nat.zero_le _⟩ dL_isFair_104 ?_
              refine lv_istore (lv' := [(10, .int (irI (apprA S i))), (9, .int (S.cs i)), (8, .int (nI (i))), (7, .int (sm (costQ S) i)), (6, .int (sm (waitQ S) i)), (5, .int (sm (freeQ S) (S.nr))), (4, .int (nI S.nr)), (3, .int (nI S.nc)), (0, .ref (g.ad 1 0)), (1, .int (nI S.np)), (2, .ref (a9))]) hx hb dL_isFair_107 hl (by decide) rfl (fun ls hl => ?_)
              refine lv_aload_n hx hb dL_isFair_109 rfl (lv_at hl 8 rfl) ?_
              refine lv_iload hx hb dL_isFair_110 (lv_at hl 2 rfl) ?_
              refine lv_iconst (v := 5) hx hb dL_isFair_112 (by decide) ?_
              refine rc_V (As := [.int (nI (i)), .int (5)]) hx hb hml hown hC hl (c_X6_ofCharge l E hI (c9 := i) hlt (w9 := 5) (by decide)) (rec_of hC (RA.x hR) rfl) (zm_L_62 hC.1) kv_X6_ofCharge hR rfl rfl (rwD_le (by decide) (by decide)) ⟨rfl, rfl⟩ (Nat.le_of_ble_eq_true rfl) ⟨Nat.zero_le _, Nat.zero_le _⟩ dL_isFair_113 ?_
              refine lv_istore (lv' := [(11, .int (irI (S.cr i))), (10, .int (irI (apprA S i))), (9, .int (S.cs i)), (8, .int (nI (i))), (7, .int (sm (costQ S) i)), (6, .int (sm (waitQ S) i)), (5, .int (sm (freeQ S) (S.nr))), (4, .int (nI S.nr)), (3, .int (nI S.nc)), (0, .ref (g.ad 1 0)), (1, .int (nI S.np)), (2, .ref (a9))]) hx hb dL_isFair_116 hl (by decide) rfl (fun ls hl => ?_)
              have j143 : ∀ (_u9 : True), ∀ ls, lv_has ls 12 [(11, .int (irI (S.cr i))), (10, .int (irI (apprA S i))), (9, .int (S.cs i)), (8, .int (nI (i))), (7, .int (sm (costQ S) i)), (6, .int (sm (waitQ S) i)), (5, .int (sm (freeQ S) (S.nr))), (4, .int (nI S.nr)), (3, .int (nI S.nc)), (0, .ref (g.ad 1 0)), (1, .int (nI S.np)), (2, .ref (a9))] → W p l e (wD 5 0 0) s m ([.ref (g.ad 1 0), .int (nI S.np), .ref a9] : List Value).toArray below meth c H1 locs1 0 0 (MQ below (WQ (fun q => q = a9) s.heap.size (fun v H => (RA E S g H ∧ va_at E.1 vwCl (a9, .inl (eI E, 30, .inl (frN S f))) H) ∧ v = some (.int 1))) ([.ref (g.ad 1 0), .int (nI S.np), .ref a9] : List Value).toArray s 0 0 (fun q => (fun q => q = a9) q ∨ s.heap.size ≤ q)) (F0 m 143 ls []) := by
                intro _u9 ls hl
                rcases hI.cs hlt with hcs | hcs | hcs | hcs | hcs
                · have hap : apprA S i = none := appr_no (by rw [hcs]; decide)
                  have hcr : S.cr i = none := hI.c0 hlt hcs
                  have hl : lv_has ls 12 [(11, .int ((-1))), (10, .int ((-1))), (9, .int ((0))), (8, .int (nI (i))), (7, .int (sm (costQ S) i)), (6, .int (sm (waitQ S) i)), (5, .int (sm (freeQ S) (S.nr))), (4, .int (nI S.nr)), (3, .int (nI S.nc)), (0, .ref (g.ad 1 0)), (1, .int (nI S.np)), (2, .ref (a9))] := by rw [hcs, hap, hcr] at hl; exact hl
                  refine lv_iload hx hb dL_isFair_143 (lv_at hl 2 rfl) ?_
                  refine lv_iconst (v := 1) hx hb dL_isFair_145 (by decide) ?_
                  refine lv_icmp_ne (tgt := 153) hx hb dL_isFair_146 (by decide) (fun c_146 => ?_) (fun c_146 => ?_)
                  ·
                    refine lv_iconst (v := 0) hx hb dL_isFair_153 (by decide) ?_
                    refine lv_iload hx hb dL_isFair_154 (lv_at hl 1 rfl) ?_
                    refine lv_if_lt (tgt := 163) hx hb dL_isFair_156 (by decide) (fun c_156 => ?_) (fun c_156 => ?_)
                    ·
                      refine lv_iconst (v := 0) hx hb dL_isFair_163 (by decide) ?_
                      refine lv_icmp_ne (tgt := 227) hx hb dL_isFair_164 (by decide) (fun c_164 => ?_) (fun c_164 => ?_)
                      · exact absurd (by decide) c_164
                      ·
                        refine lv_iload hx hb dL_isFair_167 (lv_at hl 1 rfl) ?_
                        refine lv_aload_n hx hb dL_isFair_169 rfl (lv_at hl 9 rfl) ?_
                        refine lv_iload hx hb dL_isFair_170 (lv_at hl 3 rfl) ?_
                        refine lv_iconst (v := 0) hx hb dL_isFair_172 (by decide) ?_
                        refine rc_V (As := [.int (nI (i)), .int (0)]) hx hb hml hown hC hl (c_X6_ofCharge l E hI (c9 := i) hlt (w9 := 0) (by decide)) (rec_of hC (RA.x hR) rfl) (zm_L_62 hC.1) kv_X6_ofCharge hR rfl rfl (rwD_le (by decide) (by decide)) ⟨rfl, rfl⟩ (Nat.le_of_ble_eq_true rfl) ⟨Nat.zero_le _, Nat.zero_le _⟩ dL_isFair_173 ?_
                        refine lv_icmp_eq (tgt := 227) hx hb dL_isFair_176 (by decide) (fun c_176 => ?_) (fun c_176 => ?_)
                        · exact absurd c_176 (by have k := appr_own2 hI hlt; rw [hap] at k; exact k)
                        ·
                          refine lv_iload hx hb dL_isFair_179 (lv_at hl 2 rfl) ?_
                          refine lv_if_ne (tgt := 189) hx hb dL_isFair_181 (by decide) (fun c_181 => ?_) (fun c_181 => ?_)
                          · exact absurd (by decide) c_181
                          ·
                            refine lv_iload hx hb dL_isFair_184 (lv_at hl 0 rfl) ?_
                            refine lv_if_ge (tgt := 227) hx hb dL_isFair_186 (by decide) (fun c_186 => ?_) (fun c_186 => ?_)
                            · exact absurd c_186 (by decide)
                            ·
                              refine lv_iload hx hb dL_isFair_189 (lv_at hl 2 rfl) ?_
                              refine lv_iconst (v := 1) hx hb dL_isFair_191 (by decide) ?_
                              refine lv_icmp_ne (tgt := 200) hx hb dL_isFair_192 (by decide) (fun c_192 => ?_) (fun c_192 => ?_)
                              ·
                                refine lv_iload hx hb dL_isFair_200 (lv_at hl 2 rfl) ?_
                                refine lv_iconst (v := 2) hx hb dL_isFair_202 (by decide) ?_
                                refine lv_icmp_ne (tgt := 211) hx hb dL_isFair_203 (by decide) (fun c_203 => ?_) (fun c_203 => ?_)
                                ·
                                  refine lv_iload hx hb dL_isFair_211 (lv_at hl 0 rfl) ?_
                                  refine lv_if_lt (tgt := 229) hx hb dL_isFair_213 (by decide) (fun c_213 => ?_) (fun c_213 => ?_)
                                  ·
                                    refine lv_iload hx hb dL_isFair_229 (lv_at hl 1 rfl) ?_
                                    refine lv_if_lt (tgt := 247) hx hb dL_isFair_231 (by decide) (fun c_231 => ?_) (fun c_231 => ?_)
                                    ·
                                      refine lv_aload_n hx hb dL_isFair_247 rfl (lv_at hl 11 rfl) ?_
                                      refine lv_iload hx hb dL_isFair_248 (lv_at hl 3 rfl) ?_
                                      refine lv_iload hx hb dL_isFair_250 (lv_at hl 2 rfl) ?_
                                      refine g_iast hx hb hC hA hS (Or.inl rfl) ⟨rfl, h30, by decide⟩ dL_isFair_252 (fun H2 locs2 hA hz hq hS => ?_)
                                      have hA : va_at E.1 vwCl (a9, .inl (eI E, 30, .inl (frI S f (i + 1)))) H2 := by rw [frI_s, hcs]; exact hA
                                      have hR : RA E S g H2 := hR.kept1 (a := a9) (fun k j hv e => ha.1 (by rw [← e]; exact hR.ow hv)) ha.2 (fun q _ h2 => hq q h2)
                                      refine lv_iload hx hb dL_isFair_253 (lv_at hl 5 rfl) ?_
                                      refine lv_iload hx hb dL_isFair_255 (lv_at hl 1 rfl) ?_
                                      refine lv_if_lt (tgt := 264) hx hb dL_isFair_257 (by decide) (fun c_257 => ?_) (fun c_257 => ?_)
                                      ·
                                        refine lv_iconst (v := 0) hx hb dL_isFair_264 (by decide) ?_
                                        refine lv_iadd hx hb dL_isFair_265 ?_
                                        refine lv_istore (lv' := [(6, .int ((sm (waitQ S) i) + (0))), (11, .int ((-1))), (10, .int ((-1))), (9, .int ((0))), (8, .int (nI (i))), (7, .int (sm (costQ S) i)), (5, .int (sm (freeQ S) (S.nr))), (4, .int (nI S.nr)), (3, .int (nI S.nc)), (0, .ref (g.ad 1 0)), (1, .int (nI S.np)), (2, .ref (a9))]) hx hb dL_isFair_266 hl (by decide) rfl (fun ls hl => ?_)
                                        refine lv_iload hx hb dL_isFair_268 (lv_at hl 5 rfl) ?_
                                        refine lv_aload_n hx hb dL_isFair_270 rfl (lv_at hl 9 rfl) ?_
                                        refine lv_iload hx hb dL_isFair_271 (lv_at hl 4 rfl) ?_
                                        refine lv_bipush (v := 8) hx hb dL_isFair_273 (by decide) ?_
                                        refine rc_V (As := [.int (nI (i)), .int (8)]) hx hb hml hown hC hl (c_X6_ofCharge l E hI (c9 := i) hlt (w9 := 8) (by decide)) (rec_of hC (RA.x hR) rfl) (zm_L_62 hC.1) kv_X6_ofCharge hR rfl rfl (rwD_le (by decide) (by decide)) ⟨rfl, rfl⟩ (Nat.le_of_ble_eq_true rfl) ⟨Nat.zero_le _, Nat.zero_le _⟩ dL_isFair_275 ?_
                                        refine lv_iadd hx hb dL_isFair_278 ?_
                                        refine lv_istore (lv' := [(7, .int ((sm (costQ S) i) + (costQ S i))), (6, .int ((sm (waitQ S) i) + (0))), (11, .int ((-1))), (10, .int ((-1))), (9, .int ((0))), (8, .int (nI (i))), (5, .int (sm (freeQ S) (S.nr))), (4, .int (nI S.nr)), (3, .int (nI S.nc)), (0, .ref (g.ad 1 0)), (1, .int (nI S.np)), (2, .ref (a9))]) hx hb dL_isFair_279 hl (by decide) rfl (fun ls hl => ?_)
                                        refine lv_iinc (v := nI (i) + 1) (lv' := [(8, .int (nI (i) + 1)), (7, .int ((sm (costQ S) i) + (costQ S i))), (6, .int ((sm (waitQ S) i) + (0))), (11, .int ((-1))), (10, .int ((-1))), (9, .int ((0))), (5, .int (sm (freeQ S) (S.nr))), (4, .int (nI S.nr)), (3, .int (nI S.nc)), (0, .ref (g.ad 1 0)), (1, .int (nI S.np)), (2, .ref (a9))]) hx hb dL_isFair_281 hl (k := 5) rfl rfl (by decide) rfl (fun ls hl => ?_)
                                        refine lv_goto (tgt := 84) hx hb dL_isFair_284 (by decide) ?_
                                        refine ih (i + 1) _ _ (by omega) hR hA hS ls ?_
                                        rw [nI_succ i, show sm (waitQ S) (i + 1) = sm (waitQ S) i + (0) from sm_t (by unfold waitQ; rw [if_pos hap]), show sm (costQ S) (i + 1) = sm (costQ S) i + costQ S i from rfl]
                                        exact lv_sub hl [0, 1, 2, 6, 7, 8, 9, 10, 11] rfl
                                      · exact absurd (by decide) c_257
                                    · exact absurd (by decide) c_231
                                  · exact absurd (by decide) c_213
                                · exact absurd c_203 (by decide)
                              · exact absurd c_192 (by decide)
                    · exact absurd (by decide) c_156
                  · exact absurd c_146 (by decide)
                · obtain ⟨b9, hap⟩ := some_of (hF.1.2.2 i hlt hcs)
                  obtain ⟨r9, hcr⟩ := some_of (hI.cr1 hlt (Or.inl hcs))
                  have hl : lv_has ls 12 [(11, .int (nI r9)), (10, .int (nI b9)), (9, .int ((1))), (8, .int (nI (i))), (7, .int (sm (costQ S) i)), (6, .int (sm (waitQ S) i)), (5, .int (sm (freeQ S) (S.nr))), (4, .int (nI S.nr)), (3, .int (nI S.nc)), (0, .ref (g.ad 1 0)), (1, .int (nI S.np)), (2, .ref (a9))] := by rw [hcs, hap, hcr] at hl; exact hl
                  refine lv_iload hx hb dL_isFair_143 (lv_at hl 2 rfl) ?_
                  refine lv_iconst (v := 1) hx hb dL_isFair_145 (by decide) ?_
                  refine lv_icmp_ne (tgt := 153) hx hb dL_isFair_146 (by decide) (fun c_146 => ?_) (fun c_146 => ?_)
                  · exact absurd (by decide) c_146
                  ·
                    refine lv_iconst (v := 1) hx hb dL_isFair_149 (by decide) ?_
                    refine lv_goto (tgt := 154) hx hb dL_isFair_150 (by decide) ?_
                    refine lv_iload hx hb dL_isFair_154 (lv_at hl 1 rfl) ?_
                    refine lv_if_lt (tgt := 163) hx hb dL_isFair_156 (by decide) (fun c_156 => ?_) (fun c_156 => ?_)
                    · exact absurd c_156 (nI_pos (Nat.lt_of_lt_of_le (apprA_lt hI hlt hap) (Nat.le_trans hI.np (by decide))))
                    ·
                      refine lv_iconst (v := 1) hx hb dL_isFair_159 (by decide) ?_
                      refine lv_goto (tgt := 164) hx hb dL_isFair_160 (by decide) ?_
                      refine lv_icmp_ne (tgt := 227) hx hb dL_isFair_164 (by decide) (fun c_164 => ?_) (fun c_164 => ?_)
                      · exact absurd (by decide) c_164
                      ·
                        refine lv_iload hx hb dL_isFair_167 (lv_at hl 1 rfl) ?_
                        refine lv_aload_n hx hb dL_isFair_169 rfl (lv_at hl 9 rfl) ?_
                        refine lv_iload hx hb dL_isFair_170 (lv_at hl 3 rfl) ?_
                        refine lv_iconst (v := 0) hx hb dL_isFair_172 (by decide) ?_
                        refine rc_V (As := [.int (nI (i)), .int (0)]) hx hb hml hown hC hl (c_X6_ofCharge l E hI (c9 := i) hlt (w9 := 0) (by decide)) (rec_of hC (RA.x hR) rfl) (zm_L_62 hC.1) kv_X6_ofCharge hR rfl rfl (rwD_le (by decide) (by decide)) ⟨rfl, rfl⟩ (Nat.le_of_ble_eq_true rfl) ⟨Nat.zero_le _, Nat.zero_le _⟩ dL_isFair_173 ?_
                        refine lv_icmp_eq (tgt := 227) hx hb dL_isFair_176 (by decide) (fun c_176 => ?_) (fun c_176 => ?_)
                        · exact absurd c_176 (by have k := appr_own2 hI hlt; rw [hap] at k; exact k)
                        ·
                          refine lv_iload hx hb dL_isFair_179 (lv_at hl 2 rfl) ?_
                          refine lv_if_ne (tgt := 189) hx hb dL_isFair_181 (by decide) (fun c_181 => ?_) (fun c_181 => ?_)
                          ·
                            refine lv_iload hx hb dL_isFair_189 (lv_at hl 2 rfl) ?_
                            refine lv_iconst (v := 1) hx hb dL_isFair_191 (by decide) ?_
                            refine lv_icmp_ne (tgt := 200) hx hb dL_isFair_192 (by decide) (fun c_192 => ?_) (fun c_192 => ?_)
                            · exact absurd (by decide) c_192
                            ·
                              refine lv_iload hx hb dL_isFair_195 (lv_at hl 0 rfl) ?_
                              refine lv_if_lt (tgt := 227) hx hb dL_isFair_197 (by decide) (fun c_197 => ?_) (fun c_197 => ?_)
                              · exact absurd c_197 (nI_pos (Nat.lt_of_lt_of_le (hI.cr hlt hcr) (Nat.le_trans hI.nr (by decide))))
                              ·
                                refine lv_iload hx hb dL_isFair_200 (lv_at hl 2 rfl) ?_
                                refine lv_iconst (v := 2) hx hb dL_isFair_202 (by decide) ?_
                                refine lv_icmp_ne (tgt := 211) hx hb dL_isFair_203 (by decide) (fun c_203 => ?_) (fun c_203 => ?_)
                                ·
                                  refine lv_iload hx hb dL_isFair_211 (lv_at hl 0 rfl) ?_
                                  refine lv_if_lt (tgt := 229) hx hb dL_isFair_213 (by decide) (fun c_213 => ?_) (fun c_213 => ?_)
                                  · exact absurd c_213 (nI_pos (Nat.lt_of_lt_of_le (hI.cr hlt hcr) (Nat.le_trans hI.nr (by decide))))
                                  ·
                                    refine lv_aload_n hx hb dL_isFair_216 rfl (lv_at hl 9 rfl) ?_
                                    refine lv_iload hx hb dL_isFair_217 (lv_at hl 0 rfl) ?_
                                    refine rc_V (As := [.int (nI r9)]) hx hb hml hown hC hl (c_X6_ofReceipt l E hI (r9 := r9) (hI.cr hlt hcr)) (rec_of hC (RA.x hR) rfl) (zm_L_74 hC.1) kv_X6_ofReceipt hR rfl rfl (rwD_le (by decide) (by decide)) ⟨rfl, rfl⟩ (Nat.le_of_ble_eq_true rfl) ⟨Nat.zero_le _, Nat.zero_le _⟩ dL_isFair_219 ?_
                                    refine lv_iload hx hb dL_isFair_222 (lv_at hl 3 rfl) ?_
                                    refine lv_icmp_eq (tgt := 229) hx hb dL_isFair_224 (by decide) (fun c_224 => ?_) (fun c_224 => ?_)
                                    ·
                                      refine lv_iload hx hb dL_isFair_229 (lv_at hl 1 rfl) ?_
                                      refine lv_if_lt (tgt := 247) hx hb dL_isFair_231 (by decide) (fun c_231 => ?_) (fun c_231 => ?_)
                                      · exact absurd c_231 (nI_pos (Nat.lt_of_lt_of_le (apprA_lt hI hlt hap) (Nat.le_trans hI.np (by decide))))
                                      ·
                                        refine lv_aload_n hx hb dL_isFair_234 rfl (lv_at hl 9 rfl) ?_
                                        refine lv_iload hx hb dL_isFair_235 (lv_at hl 1 rfl) ?_
                                        refine lv_iconst (v := 3) hx hb dL_isFair_237 (by decide) ?_
                                        refine rc_V (As := [.int (nI b9), .int (3)]) hx hb hml hown hC hl (c_X6_ofPerson l E hI (p9 := b9) (apprA_lt hI hlt hap) (w9 := 3) (by decide)) (rec_of hC (RA.x hR) rfl) (zm_L_87 hC.1) kv_X6_ofPerson hR rfl rfl (rwD_le (by decide) (by decide)) ⟨rfl, rfl⟩ (Nat.le_of_ble_eq_true rfl) ⟨Nat.zero_le _, Nat.zero_le _⟩ dL_isFair_238 ?_
                                        refine lv_iconst (v := 1) hx hb dL_isFair_241 (by decide) ?_
                                        refine lv_icmp_ne (tgt := 247) hx hb dL_isFair_242 (by decide) (fun c_242 => ?_) (fun c_242 => ?_)
                                        ·
                                          refine lv_aload_n hx hb dL_isFair_247 rfl (lv_at hl 11 rfl) ?_
                                          refine lv_iload hx hb dL_isFair_248 (lv_at hl 3 rfl) ?_
                                          refine lv_iload hx hb dL_isFair_250 (lv_at hl 2 rfl) ?_
                                          refine g_iast hx hb hC hA hS (Or.inl rfl) ⟨rfl, h30, by decide⟩ dL_isFair_252 (fun H2 locs2 hA hz hq hS => ?_)
                                          have hA : va_at E.1 vwCl (a9, .inl (eI E, 30, .inl (frI S f (i + 1)))) H2 := by rw [frI_s, hcs]; exact hA
                                          have hR : RA E S g H2 := hR.kept1 (a := a9) (fun k j hv e => ha.1 (by rw [← e]; exact hR.ow hv)) ha.2 (fun q _ h2 => hq q h2)
                                          refine lv_iload hx hb dL_isFair_253 (lv_at hl 5 rfl) ?_
                                          refine lv_iload hx hb dL_isFair_255 (lv_at hl 1 rfl) ?_
                                          refine lv_if_lt (tgt := 264) hx hb dL_isFair_257 (by decide) (fun c_257 => ?_) (fun c_257 => ?_)
                                          · exact absurd c_257 (nI_pos (Nat.lt_of_lt_of_le (apprA_lt hI hlt hap) (Nat.le_trans hI.np (by decide))))
                                          ·
                                            refine lv_iconst (v := 1) hx hb dL_isFair_260 (by decide) ?_
                                            refine lv_goto (tgt := 265) hx hb dL_isFair_261 (by decide) ?_
                                            refine lv_iadd hx hb dL_isFair_265 ?_
                                            refine lv_istore (lv' := [(6, .int ((sm (waitQ S) i) + (1))), (11, .int (nI r9)), (10, .int (nI b9)), (9, .int ((1))), (8, .int (nI (i))), (7, .int (sm (costQ S) i)), (5, .int (sm (freeQ S) (S.nr))), (4, .int (nI S.nr)), (3, .int (nI S.nc)), (0, .ref (g.ad 1 0)), (1, .int (nI S.np)), (2, .ref (a9))]) hx hb dL_isFair_266 hl (by decide) rfl (fun ls hl => ?_)
                                            refine lv_iload hx hb dL_isFair_268 (lv_at hl 5 rfl) ?_
                                            refine lv_aload_n hx hb dL_isFair_270 rfl (lv_at hl 9 rfl) ?_
                                            refine lv_iload hx hb dL_isFair_271 (lv_at hl 4 rfl) ?_
                                            refine lv_bipush (v := 8) hx hb dL_isFair_273 (by decide) ?_
                                            refine rc_V (As := [.int (nI (i)), .int (8)]) hx hb hml hown hC hl (c_X6_ofCharge l E hI (c9 := i) hlt (w9 := 8) (by decide)) (rec_of hC (RA.x hR) rfl) (zm_L_62 hC.1) kv_X6_ofCharge hR rfl rfl (rwD_le (by decide) (by decide)) ⟨rfl, rfl⟩ (Nat.le_of_ble_eq_true rfl) ⟨Nat.zero_le _, Nat.zero_le _⟩ dL_isFair_275 ?_
                                            refine lv_iadd hx hb dL_isFair_278 ?_
                                            refine lv_istore (lv' := [(7, .int ((sm (costQ S) i) + (costQ S i))), (6, .int ((sm (waitQ S) i) + (1))), (11, .int (nI r9)), (10, .int (nI b9)), (9, .int ((1))), (8, .int (nI (i))), (5, .int (sm (freeQ S) (S.nr))), (4, .int (nI S.nr)), (3, .int (nI S.nc)), (0, .ref (g.ad 1 0)), (1, .int (nI S.np)), (2, .ref (a9))]) hx hb dL_isFair_279 hl (by decide) rfl (fun ls hl => ?_)
                                            refine lv_iinc (v := nI (i) + 1) (lv' := [(8, .int (nI (i) + 1)), (7, .int ((sm (costQ S) i) + (costQ S i))), (6, .int ((sm (waitQ S) i) + (1))), (11, .int (nI r9)), (10, .int (nI b9)), (9, .int ((1))), (5, .int (sm (freeQ S) (S.nr))), (4, .int (nI S.nr)), (3, .int (nI S.nc)), (0, .ref (g.ad 1 0)), (1, .int (nI S.np)), (2, .ref (a9))]) hx hb dL_isFair_281 hl (k := 5) rfl rfl (by decide) rfl (fun ls hl => ?_)
                                            refine lv_goto (tgt := 84) hx hb dL_isFair_284 (by decide) ?_
                                            refine ih (i + 1) _ _ (by omega) hR hA hS ls ?_
                                            rw [nI_succ i, show sm (waitQ S) (i + 1) = sm (waitQ S) i + (1) from sm_t (by unfold waitQ; rw [if_neg (nsome hap)]), show sm (costQ S) (i + 1) = sm (costQ S) i + costQ S i from rfl]
                                            exact lv_sub hl [0, 1, 2, 6, 7, 8, 9, 10, 11] rfl
                                        · exact absurd c_242 (show ¬ (if awayA S b9 (nI S.td) = 0 then (0 : Int32) else 1) = 1 by rw [if_pos (appr_way hap)]; decide)
                                    · exact absurd (show irI (S.ro r9) = nI i by rw [hF.2.2.1.1 i r9 hlt hcr]; rfl) c_224
                                · exact absurd c_203 (by decide)
                          · exact absurd c_181 (by decide)
                · have hap : apprA S i = none := appr_no (by rw [hcs]; decide)
                  obtain ⟨r9, hcr⟩ := some_of (hF.2.2.2.2.1 i hlt hcs)
                  have hl : lv_has ls 12 [(11, .int (nI r9)), (10, .int ((-1))), (9, .int ((2))), (8, .int (nI (i))), (7, .int (sm (costQ S) i)), (6, .int (sm (waitQ S) i)), (5, .int (sm (freeQ S) (S.nr))), (4, .int (nI S.nr)), (3, .int (nI S.nc)), (0, .ref (g.ad 1 0)), (1, .int (nI S.np)), (2, .ref (a9))] := by rw [hcs, hap, hcr] at hl; exact hl
                  refine lv_iload hx hb dL_isFair_143 (lv_at hl 2 rfl) ?_
                  refine lv_iconst (v := 1) hx hb dL_isFair_145 (by decide) ?_
                  refine lv_icmp_ne (tgt := 153) hx hb dL_isFair_146 (by decide) (fun c_146 => ?_) (fun c_146 => ?_)
                  ·
                    refine lv_iconst (v := 0) hx hb dL_isFair_153 (by decide) ?_
                    refine lv_iload hx hb dL_isFair_154 (lv_at hl 1 rfl) ?_
                    refine lv_if_lt (tgt := 163) hx hb dL_isFair_156 (by decide) (fun c_156 => ?_) (fun c_156 => ?_)
                    ·
                      refine lv_iconst (v := 0) hx hb dL_isFair_163 (by decide) ?_
                      refine lv_icmp_ne (tgt := 227) hx hb dL_isFair_164 (by decide) (fun c_164 => ?_) (fun c_164 => ?_)
                      · exact absurd (by decide) c_164
                      ·
                        refine lv_iload hx hb dL_isFair_167 (lv_at hl 1 rfl) ?_
                        refine lv_aload_n hx hb dL_isFair_169 rfl (lv_at hl 9 rfl) ?_
                        refine lv_iload hx hb dL_isFair_170 (lv_at hl 3 rfl) ?_
                        refine lv_iconst (v := 0) hx hb dL_isFair_172 (by decide) ?_
                        refine rc_V (As := [.int (nI (i)), .int (0)]) hx hb hml hown hC hl (c_X6_ofCharge l E hI (c9 := i) hlt (w9 := 0) (by decide)) (rec_of hC (RA.x hR) rfl) (zm_L_62 hC.1) kv_X6_ofCharge hR rfl rfl (rwD_le (by decide) (by decide)) ⟨rfl, rfl⟩ (Nat.le_of_ble_eq_true rfl) ⟨Nat.zero_le _, Nat.zero_le _⟩ dL_isFair_173 ?_
                        refine lv_icmp_eq (tgt := 227) hx hb dL_isFair_176 (by decide) (fun c_176 => ?_) (fun c_176 => ?_)
                        · exact absurd c_176 (by have k := appr_own2 hI hlt; rw [hap] at k; exact k)
                        ·
                          refine lv_iload hx hb dL_isFair_179 (lv_at hl 2 rfl) ?_
                          refine lv_if_ne (tgt := 189) hx hb dL_isFair_181 (by decide) (fun c_181 => ?_) (fun c_181 => ?_)
                          ·
                            refine lv_iload hx hb dL_isFair_189 (lv_at hl 2 rfl) ?_
                            refine lv_iconst (v := 1) hx hb dL_isFair_191 (by decide) ?_
                            refine lv_icmp_ne (tgt := 200) hx hb dL_isFair_192 (by decide) (fun c_192 => ?_) (fun c_192 => ?_)
                            ·
                              refine lv_iload hx hb dL_isFair_200 (lv_at hl 2 rfl) ?_
                              refine lv_iconst (v := 2) hx hb dL_isFair_202 (by decide) ?_
                              refine lv_icmp_ne (tgt := 211) hx hb dL_isFair_203 (by decide) (fun c_203 => ?_) (fun c_203 => ?_)
                              · exact absurd (by decide) c_203
                              ·
                                refine lv_iload hx hb dL_isFair_206 (lv_at hl 0 rfl) ?_
                                refine lv_if_lt (tgt := 227) hx hb dL_isFair_208 (by decide) (fun c_208 => ?_) (fun c_208 => ?_)
                                · exact absurd c_208 (nI_pos (Nat.lt_of_lt_of_le (hI.cr hlt hcr) (Nat.le_trans hI.nr (by decide))))
                                ·
                                  refine lv_iload hx hb dL_isFair_211 (lv_at hl 0 rfl) ?_
                                  refine lv_if_lt (tgt := 229) hx hb dL_isFair_213 (by decide) (fun c_213 => ?_) (fun c_213 => ?_)
                                  · exact absurd c_213 (nI_pos (Nat.lt_of_lt_of_le (hI.cr hlt hcr) (Nat.le_trans hI.nr (by decide))))
                                  ·
                                    refine lv_aload_n hx hb dL_isFair_216 rfl (lv_at hl 9 rfl) ?_
                                    refine lv_iload hx hb dL_isFair_217 (lv_at hl 0 rfl) ?_
                                    refine rc_V (As := [.int (nI r9)]) hx hb hml hown hC hl (c_X6_ofReceipt l E hI (r9 := r9) (hI.cr hlt hcr)) (rec_of hC (RA.x hR) rfl) (zm_L_74 hC.1) kv_X6_ofReceipt hR rfl rfl (rwD_le (by decide) (by decide)) ⟨rfl, rfl⟩ (Nat.le_of_ble_eq_true rfl) ⟨Nat.zero_le _, Nat.zero_le _⟩ dL_isFair_219 ?_
                                    refine lv_iload hx hb dL_isFair_222 (lv_at hl 3 rfl) ?_
                                    refine lv_icmp_eq (tgt := 229) hx hb dL_isFair_224 (by decide) (fun c_224 => ?_) (fun c_224 => ?_)
                                    ·
                                      refine lv_iload hx hb dL_isFair_229 (lv_at hl 1 rfl) ?_
                                      refine lv_if_lt (tgt := 247) hx hb dL_isFair_231 (by decide) (fun c_231 => ?_) (fun c_231 => ?_)
                                      ·
                                        refine lv_aload_n hx hb dL_isFair_247 rfl (lv_at hl 11 rfl) ?_
                                        refine lv_iload hx hb dL_isFair_248 (lv_at hl 3 rfl) ?_
                                        refine lv_iload hx hb dL_isFair_250 (lv_at hl 2 rfl) ?_
                                        refine g_iast hx hb hC hA hS (Or.inl rfl) ⟨rfl, h30, by decide⟩ dL_isFair_252 (fun H2 locs2 hA hz hq hS => ?_)
                                        have hA : va_at E.1 vwCl (a9, .inl (eI E, 30, .inl (frI S f (i + 1)))) H2 := by rw [frI_s, hcs]; exact hA
                                        have hR : RA E S g H2 := hR.kept1 (a := a9) (fun k j hv e => ha.1 (by rw [← e]; exact hR.ow hv)) ha.2 (fun q _ h2 => hq q h2)
                                        refine lv_iload hx hb dL_isFair_253 (lv_at hl 5 rfl) ?_
                                        refine lv_iload hx hb dL_isFair_255 (lv_at hl 1 rfl) ?_
                                        refine lv_if_lt (tgt := 264) hx hb dL_isFair_257 (by decide) (fun c_257 => ?_) (fun c_257 => ?_)
                                        ·
                                          refine lv_iconst (v := 0) hx hb dL_isFair_264 (by decide) ?_
                                          refine lv_iadd hx hb dL_isFair_265 ?_
                                          refine lv_istore (lv' := [(6, .int ((sm (waitQ S) i) + (0))), (11, .int (nI r9)), (10, .int ((-1))), (9, .int ((2))), (8, .int (nI (i))), (7, .int (sm (costQ S) i)), (5, .int (sm (freeQ S) (S.nr))), (4, .int (nI S.nr)), (3, .int (nI S.nc)), (0, .ref (g.ad 1 0)), (1, .int (nI S.np)), (2, .ref (a9))]) hx hb dL_isFair_266 hl (by decide) rfl (fun ls hl => ?_)
                                          refine lv_iload hx hb dL_isFair_268 (lv_at hl 5 rfl) ?_
                                          refine lv_aload_n hx hb dL_isFair_270 rfl (lv_at hl 9 rfl) ?_
                                          refine lv_iload hx hb dL_isFair_271 (lv_at hl 4 rfl) ?_
                                          refine lv_bipush (v := 8) hx hb dL_isFair_273 (by decide) ?_
                                          refine rc_V (As := [.int (nI (i)), .int (8)]) hx hb hml hown hC hl (c_X6_ofCharge l E hI (c9 := i) hlt (w9 := 8) (by decide)) (rec_of hC (RA.x hR) rfl) (zm_L_62 hC.1) kv_X6_ofCharge hR rfl rfl (rwD_le (by decide) (by decide)) ⟨rfl, rfl⟩ (Nat.le_of_ble_eq_true rfl) ⟨Nat.zero_le _, Nat.zero_le _⟩ dL_isFair_275 ?_
                                          refine lv_iadd hx hb dL_isFair_278 ?_
                                          refine lv_istore (lv' := [(7, .int ((sm (costQ S) i) + (costQ S i))), (6, .int ((sm (waitQ S) i) + (0))), (11, .int (nI r9)), (10, .int ((-1))), (9, .int ((2))), (8, .int (nI (i))), (5, .int (sm (freeQ S) (S.nr))), (4, .int (nI S.nr)), (3, .int (nI S.nc)), (0, .ref (g.ad 1 0)), (1, .int (nI S.np)), (2, .ref (a9))]) hx hb dL_isFair_279 hl (by decide) rfl (fun ls hl => ?_)
                                          refine lv_iinc (v := nI (i) + 1) (lv' := [(8, .int (nI (i) + 1)), (7, .int ((sm (costQ S) i) + (costQ S i))), (6, .int ((sm (waitQ S) i) + (0))), (11, .int (nI r9)), (10, .int ((-1))), (9, .int ((2))), (5, .int (sm (freeQ S) (S.nr))), (4, .int (nI S.nr)), (3, .int (nI S.nc)), (0, .ref (g.ad 1 0)), (1, .int (nI S.np)), (2, .ref (a9))]) hx hb dL_isFair_281 hl (k := 5) rfl rfl (by decide) rfl (fun ls hl => ?_)
                                          refine lv_goto (tgt := 84) hx hb dL_isFair_284 (by decide) ?_
                                          refine ih (i + 1) _ _ (by omega) hR hA hS ls ?_
                                          rw [nI_succ i, show sm (waitQ S) (i + 1) = sm (waitQ S) i + (0) from sm_t (by unfold waitQ; rw [if_pos hap]), show sm (costQ S) (i + 1) = sm (costQ S) i + costQ S i from rfl]
                                          exact lv_sub hl [0, 1, 2, 6, 7, 8, 9, 10, 11] rfl
                                        · exact absurd (by decide) c_257
                                      · exact absurd (by decide) c_231
                                    · exact absurd (show irI (S.ro r9) = nI i by rw [hF.2.2.1.1 i r9 hlt hcr]; rfl) c_224
                            · exact absurd c_192 (by decide)
                          · exact absurd c_181 (by decide)
                    · exact absurd (by decide) c_156
                  · exact absurd c_146 (by decide)
                · have hap : apprA S i = none := appr_no (by rw [hcs]; decide)
                  rcases hcr : S.cr i with _ | r9
                  ·
                    have hl : lv_has ls 12 [(11, .int ((-1))), (10, .int ((-1))), (9, .int ((3))), (8, .int (nI (i))), (7, .int (sm (costQ S) i)), (6, .int (sm (waitQ S) i)), (5, .int (sm (freeQ S) (S.nr))), (4, .int (nI S.nr)), (3, .int (nI S.nc)), (0, .ref (g.ad 1 0)), (1, .int (nI S.np)), (2, .ref (a9))] := by rw [hcs, hap, hcr] at hl; exact hl
                    refine lv_iload hx hb dL_isFair_143 (lv_at hl 2 rfl) ?_
                    refine lv_iconst (v := 1) hx hb dL_isFair_145 (by decide) ?_
                    refine lv_icmp_ne (tgt := 153) hx hb dL_isFair_146 (by decide) (fun c_146 => ?_) (fun c_146 => ?_)
                    ·
                      refine lv_iconst (v := 0) hx hb dL_isFair_153 (by decide) ?_
                      refine lv_iload hx hb dL_isFair_154 (lv_at hl 1 rfl) ?_
                      refine lv_if_lt (tgt := 163) hx hb dL_isFair_156 (by decide) (fun c_156 => ?_) (fun c_156 => ?_)
                      ·
                        refine lv_iconst (v := 0) hx hb dL_isFair_163 (by decide) ?_
                        refine lv_icmp_ne (tgt := 227) hx hb dL_isFair_164 (by decide) (fun c_164 => ?_) (fun c_164 => ?_)
                        · exact absurd (by decide) c_164
                        ·
                          refine lv_iload hx hb dL_isFair_167 (lv_at hl 1 rfl) ?_
                          refine lv_aload_n hx hb dL_isFair_169 rfl (lv_at hl 9 rfl) ?_
                          refine lv_iload hx hb dL_isFair_170 (lv_at hl 3 rfl) ?_
                          refine lv_iconst (v := 0) hx hb dL_isFair_172 (by decide) ?_
                          refine rc_V (As := [.int (nI (i)), .int (0)]) hx hb hml hown hC hl (c_X6_ofCharge l E hI (c9 := i) hlt (w9 := 0) (by decide)) (rec_of hC (RA.x hR) rfl) (zm_L_62 hC.1) kv_X6_ofCharge hR rfl rfl (rwD_le (by decide) (by decide)) ⟨rfl, rfl⟩ (Nat.le_of_ble_eq_true rfl) ⟨Nat.zero_le _, Nat.zero_le _⟩ dL_isFair_173 ?_
                          refine lv_icmp_eq (tgt := 227) hx hb dL_isFair_176 (by decide) (fun c_176 => ?_) (fun c_176 => ?_)
                          · exact absurd c_176 (by have k := appr_own2 hI hlt; rw [hap] at k; exact k)
                          ·
                            refine lv_iload hx hb dL_isFair_179 (lv_at hl 2 rfl) ?_
                            refine lv_if_ne (tgt := 189) hx hb dL_isFair_181 (by decide) (fun c_181 => ?_) (fun c_181 => ?_)
                            ·
                              refine lv_iload hx hb dL_isFair_189 (lv_at hl 2 rfl) ?_
                              refine lv_iconst (v := 1) hx hb dL_isFair_191 (by decide) ?_
                              refine lv_icmp_ne (tgt := 200) hx hb dL_isFair_192 (by decide) (fun c_192 => ?_) (fun c_192 => ?_)
                              ·
                                refine lv_iload hx hb dL_isFair_200 (lv_at hl 2 rfl) ?_
                                refine lv_iconst (v := 2) hx hb dL_isFair_202 (by decide) ?_
                                refine lv_icmp_ne (tgt := 211) hx hb dL_isFair_203 (by decide) (fun c_203 => ?_) (fun c_203 => ?_)
                                ·
                                  refine lv_iload hx hb dL_isFair_211 (lv_at hl 0 rfl) ?_
                                  refine lv_if_lt (tgt := 229) hx hb dL_isFair_213 (by decide) (fun c_213 => ?_) (fun c_213 => ?_)
                                  ·
                                    refine lv_iload hx hb dL_isFair_229 (lv_at hl 1 rfl) ?_
                                    refine lv_if_lt (tgt := 247) hx hb dL_isFair_231 (by decide) (fun c_231 => ?_) (fun c_231 => ?_)
                                    ·
                                      refine lv_aload_n hx hb dL_isFair_247 rfl (lv_at hl 11 rfl) ?_
                                      refine lv_iload hx hb dL_isFair_248 (lv_at hl 3 rfl) ?_
                                      refine lv_iload hx hb dL_isFair_250 (lv_at hl 2 rfl) ?_
                                      refine g_iast hx hb hC hA hS (Or.inl rfl) ⟨rfl, h30, by decide⟩ dL_isFair_252 (fun H2 locs2 hA hz hq hS => ?_)
                                      have hA : va_at E.1 vwCl (a9, .inl (eI E, 30, .inl (frI S f (i + 1)))) H2 := by rw [frI_s, hcs]; exact hA
                                      have hR : RA E S g H2 := hR.kept1 (a := a9) (fun k j hv e => ha.1 (by rw [← e]; exact hR.ow hv)) ha.2 (fun q _ h2 => hq q h2)
                                      refine lv_iload hx hb dL_isFair_253 (lv_at hl 5 rfl) ?_
                                      refine lv_iload hx hb dL_isFair_255 (lv_at hl 1 rfl) ?_
                                      refine lv_if_lt (tgt := 264) hx hb dL_isFair_257 (by decide) (fun c_257 => ?_) (fun c_257 => ?_)
                                      ·
                                        refine lv_iconst (v := 0) hx hb dL_isFair_264 (by decide) ?_
                                        refine lv_iadd hx hb dL_isFair_265 ?_
                                        refine lv_istore (lv' := [(6, .int ((sm (waitQ S) i) + (0))), (11, .int ((-1))), (10, .int ((-1))), (9, .int ((3))), (8, .int (nI (i))), (7, .int (sm (costQ S) i)), (5, .int (sm (freeQ S) (S.nr))), (4, .int (nI S.nr)), (3, .int (nI S.nc)), (0, .ref (g.ad 1 0)), (1, .int (nI S.np)), (2, .ref (a9))]) hx hb dL_isFair_266 hl (by decide) rfl (fun ls hl => ?_)
                                        refine lv_iload hx hb dL_isFair_268 (lv_at hl 5 rfl) ?_
                                        refine lv_aload_n hx hb dL_isFair_270 rfl (lv_at hl 9 rfl) ?_
                                        refine lv_iload hx hb dL_isFair_271 (lv_at hl 4 rfl) ?_
                                        refine lv_bipush (v := 8) hx hb dL_isFair_273 (by decide) ?_
                                        refine rc_V (As := [.int (nI (i)), .int (8)]) hx hb hml hown hC hl (c_X6_ofCharge l E hI (c9 := i) hlt (w9 := 8) (by decide)) (rec_of hC (RA.x hR) rfl) (zm_L_62 hC.1) kv_X6_ofCharge hR rfl rfl (rwD_le (by decide) (by decide)) ⟨rfl, rfl⟩ (Nat.le_of_ble_eq_true rfl) ⟨Nat.zero_le _, Nat.zero_le _⟩ dL_isFair_275 ?_
                                        refine lv_iadd hx hb dL_isFair_278 ?_
                                        refine lv_istore (lv' := [(7, .int ((sm (costQ S) i) + (costQ S i))), (6, .int ((sm (waitQ S) i) + (0))), (11, .int ((-1))), (10, .int ((-1))), (9, .int ((3))), (8, .int (nI (i))), (5, .int (sm (freeQ S) (S.nr))), (4, .int (nI S.nr)), (3, .int (nI S.nc)), (0, .ref (g.ad 1 0)), (1, .int (nI S.np)), (2, .ref (a9))]) hx hb dL_isFair_279 hl (by decide) rfl (fun ls hl => ?_)
                                        refine lv_iinc (v := nI (i) + 1) (lv' := [(8, .int (nI (i) + 1)), (7, .int ((sm (costQ S) i) + (costQ S i))), (6, .int ((sm (waitQ S) i) + (0))), (11, .int ((-1))), (10, .int ((-1))), (9, .int ((3))), (5, .int (sm (freeQ S) (S.nr))), (4, .int (nI S.nr)), (3, .int (nI S.nc)), (0, .ref (g.ad 1 0)), (1, .int (nI S.np)), (2, .ref (a9))]) hx hb dL_isFair_281 hl (k := 5) rfl rfl (by decide) rfl (fun ls hl => ?_)
                                        refine lv_goto (tgt := 84) hx hb dL_isFair_284 (by decide) ?_
                                        refine ih (i + 1) _ _ (by omega) hR hA hS ls ?_
                                        rw [nI_succ i, show sm (waitQ S) (i + 1) = sm (waitQ S) i + (0) from sm_t (by unfold waitQ; rw [if_pos hap]), show sm (costQ S) (i + 1) = sm (costQ S) i + costQ S i from rfl]
                                        exact lv_sub hl [0, 1, 2, 6, 7, 8, 9, 10, 11] rfl
                                      · exact absurd (by decide) c_257
                                    · exact absurd (by decide) c_231
                                  · exact absurd (by decide) c_213
                                · exact absurd c_203 (by decide)
                              · exact absurd c_192 (by decide)
                            · exact absurd c_181 (by decide)
                      · exact absurd (by decide) c_156
                    · exact absurd c_146 (by decide)
                  ·
                    have hl : lv_has ls 12 [(11, .int (nI r9)), (10, .int ((-1))), (9, .int ((3))), (8, .int (nI (i))), (7, .int (sm (costQ S) i)), (6, .int (sm (waitQ S) i)), (5, .int (sm (freeQ S) (S.nr))), (4, .int (nI S.nr)), (3, .int (nI S.nc)), (0, .ref (g.ad 1 0)), (1, .int (nI S.np)), (2, .ref (a9))] := by rw [hcs, hap, hcr] at hl; exact hl
                    refine lv_iload hx hb dL_isFair_143 (lv_at hl 2 rfl) ?_
                    refine lv_iconst (v := 1) hx hb dL_isFair_145 (by decide) ?_
                    refine lv_icmp_ne (tgt := 153) hx hb dL_isFair_146 (by decide) (fun c_146 => ?_) (fun c_146 => ?_)
                    ·
                      refine lv_iconst (v := 0) hx hb dL_isFair_153 (by decide) ?_
                      refine lv_iload hx hb dL_isFair_154 (lv_at hl 1 rfl) ?_
                      refine lv_if_lt (tgt := 163) hx hb dL_isFair_156 (by decide) (fun c_156 => ?_) (fun c_156 => ?_)
                      ·
                        refine lv_iconst (v := 0) hx hb dL_isFair_163 (by decide) ?_
                        refine lv_icmp_ne (tgt := 227) hx hb dL_isFair_164 (by decide) (fun c_164 => ?_) (fun c_164 => ?_)
                        · exact absurd (by decide) c_164
                        ·
                          refine lv_iload hx hb dL_isFair_167 (lv_at hl 1 rfl) ?_
                          refine lv_aload_n hx hb dL_isFair_169 rfl (lv_at hl 9 rfl) ?_
                          refine lv_iload hx hb dL_isFair_170 (lv_at hl 3 rfl) ?_
                          refine lv_iconst (v := 0) hx hb dL_isFair_172 (by decide) ?_
                          refine rc_V (As := [.int (nI (i)), .int (0)]) hx hb hml hown hC hl (c_X6_ofCharge l E hI (c9 := i) hlt (w9 := 0) (by decide)) (rec_of hC (RA.x hR) rfl) (zm_L_62 hC.1) kv_X6_ofCharge hR rfl rfl (rwD_le (by decide) (by decide)) ⟨rfl, rfl⟩ (Nat.le_of_ble_eq_true rfl) ⟨Nat.zero_le _, Nat.zero_le _⟩ dL_isFair_173 ?_
                          refine lv_icmp_eq (tgt := 227) hx hb dL_isFair_176 (by decide) (fun c_176 => ?_) (fun c_176 => ?_)
                          · exact absurd c_176 (by have k := appr_own2 hI hlt; rw [hap] at k; exact k)
                          ·
                            refine lv_iload hx hb dL_isFair_179 (lv_at hl 2 rfl) ?_
                            refine lv_if_ne (tgt := 189) hx hb dL_isFair_181 (by decide) (fun c_181 => ?_) (fun c_181 => ?_)
                            ·
                              refine lv_iload hx hb dL_isFair_189 (lv_at hl 2 rfl) ?_
                              refine lv_iconst (v := 1) hx hb dL_isFair_191 (by decide) ?_
                              refine lv_icmp_ne (tgt := 200) hx hb dL_isFair_192 (by decide) (fun c_192 => ?_) (fun c_192 => ?_)
                              ·
                                refine lv_iload hx hb dL_isFair_200 (lv_at hl 2 rfl) ?_
                                refine lv_iconst (v := 2) hx hb dL_isFair_202 (by decide) ?_
                                refine lv_icmp_ne (tgt := 211) hx hb dL_isFair_203 (by decide) (fun c_203 => ?_) (fun c_203 => ?_)
                                ·
                                  refine lv_iload hx hb dL_isFair_211 (lv_at hl 0 rfl) ?_
                                  refine lv_if_lt (tgt := 229) hx hb dL_isFair_213 (by decide) (fun c_213 => ?_) (fun c_213 => ?_)
                                  · exact absurd c_213 (nI_pos (Nat.lt_of_lt_of_le (hI.cr hlt hcr) (Nat.le_trans hI.nr (by decide))))
                                  ·
                                    refine lv_aload_n hx hb dL_isFair_216 rfl (lv_at hl 9 rfl) ?_
                                    refine lv_iload hx hb dL_isFair_217 (lv_at hl 0 rfl) ?_
                                    refine rc_V (As := [.int (nI r9)]) hx hb hml hown hC hl (c_X6_ofReceipt l E hI (r9 := r9) (hI.cr hlt hcr)) (rec_of hC (RA.x hR) rfl) (zm_L_74 hC.1) kv_X6_ofReceipt hR rfl rfl (rwD_le (by decide) (by decide)) ⟨rfl, rfl⟩ (Nat.le_of_ble_eq_true rfl) ⟨Nat.zero_le _, Nat.zero_le _⟩ dL_isFair_219 ?_
                                    refine lv_iload hx hb dL_isFair_222 (lv_at hl 3 rfl) ?_
                                    refine lv_icmp_eq (tgt := 229) hx hb dL_isFair_224 (by decide) (fun c_224 => ?_) (fun c_224 => ?_)
                                    ·
                                      refine lv_iload hx hb dL_isFair_229 (lv_at hl 1 rfl) ?_
                                      refine lv_if_lt (tgt := 247) hx hb dL_isFair_231 (by decide) (fun c_231 => ?_) (fun c_231 => ?_)
                                      ·
                                        refine lv_aload_n hx hb dL_isFair_247 rfl (lv_at hl 11 rfl) ?_
                                        refine lv_iload hx hb dL_isFair_248 (lv_at hl 3 rfl) ?_
                                        refine lv_iload hx hb dL_isFair_250 (lv_at hl 2 rfl) ?_
                                        refine g_iast hx hb hC hA hS (Or.inl rfl) ⟨rfl, h30, by decide⟩ dL_isFair_252 (fun H2 locs2 hA hz hq hS => ?_)
                                        have hA : va_at E.1 vwCl (a9, .inl (eI E, 30, .inl (frI S f (i + 1)))) H2 := by rw [frI_s, hcs]; exact hA
                                        have hR : RA E S g H2 := hR.kept1 (a := a9) (fun k j hv e => ha.1 (by rw [← e]; exact hR.ow hv)) ha.2 (fun q _ h2 => hq q h2)
                                        refine lv_iload hx hb dL_isFair_253 (lv_at hl 5 rfl) ?_
                                        refine lv_iload hx hb dL_isFair_255 (lv_at hl 1 rfl) ?_
                                        refine lv_if_lt (tgt := 264) hx hb dL_isFair_257 (by decide) (fun c_257 => ?_) (fun c_257 => ?_)
                                        ·
                                          refine lv_iconst (v := 0) hx hb dL_isFair_264 (by decide) ?_
                                          refine lv_iadd hx hb dL_isFair_265 ?_
                                          refine lv_istore (lv' := [(6, .int ((sm (waitQ S) i) + (0))), (11, .int (nI r9)), (10, .int ((-1))), (9, .int ((3))), (8, .int (nI (i))), (7, .int (sm (costQ S) i)), (5, .int (sm (freeQ S) (S.nr))), (4, .int (nI S.nr)), (3, .int (nI S.nc)), (0, .ref (g.ad 1 0)), (1, .int (nI S.np)), (2, .ref (a9))]) hx hb dL_isFair_266 hl (by decide) rfl (fun ls hl => ?_)
                                          refine lv_iload hx hb dL_isFair_268 (lv_at hl 5 rfl) ?_
                                          refine lv_aload_n hx hb dL_isFair_270 rfl (lv_at hl 9 rfl) ?_
                                          refine lv_iload hx hb dL_isFair_271 (lv_at hl 4 rfl) ?_
                                          refine lv_bipush (v := 8) hx hb dL_isFair_273 (by decide) ?_
                                          refine rc_V (As := [.int (nI (i)), .int (8)]) hx hb hml hown hC hl (c_X6_ofCharge l E hI (c9 := i) hlt (w9 := 8) (by decide)) (rec_of hC (RA.x hR) rfl) (zm_L_62 hC.1) kv_X6_ofCharge hR rfl rfl (rwD_le (by decide) (by decide)) ⟨rfl, rfl⟩ (Nat.le_of_ble_eq_true rfl) ⟨Nat.zero_le _, Nat.zero_le _⟩ dL_isFair_275 ?_
                                          refine lv_iadd hx hb dL_isFair_278 ?_
                                          refine lv_istore (lv' := [(7, .int ((sm (costQ S) i) + (costQ S i))), (6, .int ((sm (waitQ S) i) + (0))), (11, .int (nI r9)), (10, .int ((-1))), (9, .int ((3))), (8, .int (nI (i))), (5, .int (sm (freeQ S) (S.nr))), (4, .int (nI S.nr)), (3, .int (nI S.nc)), (0, .ref (g.ad 1 0)), (1, .int (nI S.np)), (2, .ref (a9))]) hx hb dL_isFair_279 hl (by decide) rfl (fun ls hl => ?_)
                                          refine lv_iinc (v := nI (i) + 1) (lv' := [(8, .int (nI (i) + 1)), (7, .int ((sm (costQ S) i) + (costQ S i))), (6, .int ((sm (waitQ S) i) + (0))), (11, .int (nI r9)), (10, .int ((-1))), (9, .int ((3))), (5, .int (sm (freeQ S) (S.nr))), (4, .int (nI S.nr)), (3, .int (nI S.nc)), (0, .ref (g.ad 1 0)), (1, .int (nI S.np)), (2, .ref (a9))]) hx hb dL_isFair_281 hl (k := 5) rfl rfl (by decide) rfl (fun ls hl => ?_)
                                          refine lv_goto (tgt := 84) hx hb dL_isFair_284 (by decide) ?_
                                          refine ih (i + 1) _ _ (by omega) hR hA hS ls ?_
                                          rw [nI_succ i, show sm (waitQ S) (i + 1) = sm (waitQ S) i + (0) from sm_t (by unfold waitQ; rw [if_pos hap]), show sm (costQ S) (i + 1) = sm (costQ S) i + costQ S i from rfl]
                                          exact lv_sub hl [0, 1, 2, 6, 7, 8, 9, 10, 11] rfl
                                        · exact absurd (by decide) c_257
                                      · exact absurd (by decide) c_231
                                    · exact absurd (show irI (S.ro r9) = nI i by rw [hF.2.2.1.1 i r9 hlt hcr]; rfl) c_224
                                · exact absurd c_203 (by decide)
                              · exact absurd c_192 (by decide)
                            · exact absurd c_181 (by decide)
                      · exact absurd (by decide) c_156
                    · exact absurd c_146 (by decide)
                · have hap : apprA S i = none := appr_no (by rw [hcs]; decide)
                  obtain ⟨r9, hcr⟩ := some_of (hI.cr1 hlt (Or.inr hcs))
                  have hl : lv_has ls 12 [(11, .int (nI r9)), (10, .int ((-1))), (9, .int ((4))), (8, .int (nI (i))), (7, .int (sm (costQ S) i)), (6, .int (sm (waitQ S) i)), (5, .int (sm (freeQ S) (S.nr))), (4, .int (nI S.nr)), (3, .int (nI S.nc)), (0, .ref (g.ad 1 0)), (1, .int (nI S.np)), (2, .ref (a9))] := by rw [hcs, hap, hcr] at hl; exact hl
                  refine lv_iload hx hb dL_isFair_143 (lv_at hl 2 rfl) ?_
                  refine lv_iconst (v := 1) hx hb dL_isFair_145 (by decide) ?_
                  refine lv_icmp_ne (tgt := 153) hx hb dL_isFair_146 (by decide) (fun c_146 => ?_) (fun c_146 => ?_)
                  ·
                    refine lv_iconst (v := 0) hx hb dL_isFair_153 (by decide) ?_
                    refine lv_iload hx hb dL_isFair_154 (lv_at hl 1 rfl) ?_
                    refine lv_if_lt (tgt := 163) hx hb dL_isFair_156 (by decide) (fun c_156 => ?_) (fun c_156 => ?_)
                    ·
                      refine lv_iconst (v := 0) hx hb dL_isFair_163 (by decide) ?_
                      refine lv_icmp_ne (tgt := 227) hx hb dL_isFair_164 (by decide) (fun c_164 => ?_) (fun c_164 => ?_)
                      · exact absurd (by decide) c_164
                      ·
                        refine lv_iload hx hb dL_isFair_167 (lv_at hl 1 rfl) ?_
                        refine lv_aload_n hx hb dL_isFair_169 rfl (lv_at hl 9 rfl) ?_
                        refine lv_iload hx hb dL_isFair_170 (lv_at hl 3 rfl) ?_
                        refine lv_iconst (v := 0) hx hb dL_isFair_172 (by decide) ?_
                        refine rc_V (As := [.int (nI (i)), .int (0)]) hx hb hml hown hC hl (c_X6_ofCharge l E hI (c9 := i) hlt (w9 := 0) (by decide)) (rec_of hC (RA.x hR) rfl) (zm_L_62 hC.1) kv_X6_ofCharge hR rfl rfl (rwD_le (by decide) (by decide)) ⟨rfl, rfl⟩ (Nat.le_of_ble_eq_true rfl) ⟨Nat.zero_le _, Nat.zero_le _⟩ dL_isFair_173 ?_
                        refine lv_icmp_eq (tgt := 227) hx hb dL_isFair_176 (by decide) (fun c_176 => ?_) (fun c_176 => ?_)
                        · exact absurd c_176 (by have k := appr_own2 hI hlt; rw [hap] at k; exact k)
                        ·
                          refine lv_iload hx hb dL_isFair_179 (lv_at hl 2 rfl) ?_
                          refine lv_if_ne (tgt := 189) hx hb dL_isFair_181 (by decide) (fun c_181 => ?_) (fun c_181 => ?_)
                          ·
                            refine lv_iload hx hb dL_isFair_189 (lv_at hl 2 rfl) ?_
                            refine lv_iconst (v := 1) hx hb dL_isFair_191 (by decide) ?_
                            refine lv_icmp_ne (tgt := 200) hx hb dL_isFair_192 (by decide) (fun c_192 => ?_) (fun c_192 => ?_)
                            ·
                              refine lv_iload hx hb dL_isFair_200 (lv_at hl 2 rfl) ?_
                              refine lv_iconst (v := 2) hx hb dL_isFair_202 (by decide) ?_
                              refine lv_icmp_ne (tgt := 211) hx hb dL_isFair_203 (by decide) (fun c_203 => ?_) (fun c_203 => ?_)
                              ·
                                refine lv_iload hx hb dL_isFair_211 (lv_at hl 0 rfl) ?_
                                refine lv_if_lt (tgt := 229) hx hb dL_isFair_213 (by decide) (fun c_213 => ?_) (fun c_213 => ?_)
                                · exact absurd c_213 (nI_pos (Nat.lt_of_lt_of_le (hI.cr hlt hcr) (Nat.le_trans hI.nr (by decide))))
                                ·
                                  refine lv_aload_n hx hb dL_isFair_216 rfl (lv_at hl 9 rfl) ?_
                                  refine lv_iload hx hb dL_isFair_217 (lv_at hl 0 rfl) ?_
                                  refine rc_V (As := [.int (nI r9)]) hx hb hml hown hC hl (c_X6_ofReceipt l E hI (r9 := r9) (hI.cr hlt hcr)) (rec_of hC (RA.x hR) rfl) (zm_L_74 hC.1) kv_X6_ofReceipt hR rfl rfl (rwD_le (by decide) (by decide)) ⟨rfl, rfl⟩ (Nat.le_of_ble_eq_true rfl) ⟨Nat.zero_le _, Nat.zero_le _⟩ dL_isFair_219 ?_
                                  refine lv_iload hx hb dL_isFair_222 (lv_at hl 3 rfl) ?_
                                  refine lv_icmp_eq (tgt := 229) hx hb dL_isFair_224 (by decide) (fun c_224 => ?_) (fun c_224 => ?_)
                                  ·
                                    refine lv_iload hx hb dL_isFair_229 (lv_at hl 1 rfl) ?_
                                    refine lv_if_lt (tgt := 247) hx hb dL_isFair_231 (by decide) (fun c_231 => ?_) (fun c_231 => ?_)
                                    ·
                                      refine lv_aload_n hx hb dL_isFair_247 rfl (lv_at hl 11 rfl) ?_
                                      refine lv_iload hx hb dL_isFair_248 (lv_at hl 3 rfl) ?_
                                      refine lv_iload hx hb dL_isFair_250 (lv_at hl 2 rfl) ?_
                                      refine g_iast hx hb hC hA hS (Or.inl rfl) ⟨rfl, h30, by decide⟩ dL_isFair_252 (fun H2 locs2 hA hz hq hS => ?_)
                                      have hA : va_at E.1 vwCl (a9, .inl (eI E, 30, .inl (frI S f (i + 1)))) H2 := by rw [frI_s, hcs]; exact hA
                                      have hR : RA E S g H2 := hR.kept1 (a := a9) (fun k j hv e => ha.1 (by rw [← e]; exact hR.ow hv)) ha.2 (fun q _ h2 => hq q h2)
                                      refine lv_iload hx hb dL_isFair_253 (lv_at hl 5 rfl) ?_
                                      refine lv_iload hx hb dL_isFair_255 (lv_at hl 1 rfl) ?_
                                      refine lv_if_lt (tgt := 264) hx hb dL_isFair_257 (by decide) (fun c_257 => ?_) (fun c_257 => ?_)
                                      ·
                                        refine lv_iconst (v := 0) hx hb dL_isFair_264 (by decide) ?_
                                        refine lv_iadd hx hb dL_isFair_265 ?_
                                        refine lv_istore (lv' := [(6, .int ((sm (waitQ S) i) + (0))), (11, .int (nI r9)), (10, .int ((-1))), (9, .int ((4))), (8, .int (nI (i))), (7, .int (sm (costQ S) i)), (5, .int (sm (freeQ S) (S.nr))), (4, .int (nI S.nr)), (3, .int (nI S.nc)), (0, .ref (g.ad 1 0)), (1, .int (nI S.np)), (2, .ref (a9))]) hx hb dL_isFair_266 hl (by decide) rfl (fun ls hl => ?_)
                                        refine lv_iload hx hb dL_isFair_268 (lv_at hl 5 rfl) ?_
                                        refine lv_aload_n hx hb dL_isFair_270 rfl (lv_at hl 9 rfl) ?_
                                        refine lv_iload hx hb dL_isFair_271 (lv_at hl 4 rfl) ?_
                                        refine lv_bipush (v := 8) hx hb dL_isFair_273 (by decide) ?_
                                        refine rc_V (As := [.int (nI (i)), .int (8)]) hx hb hml hown hC hl (c_X6_ofCharge l E hI (c9 := i) hlt (w9 := 8) (by decide)) (rec_of hC (RA.x hR) rfl) (zm_L_62 hC.1) kv_X6_ofCharge hR rfl rfl (rwD_le (by decide) (by decide)) ⟨rfl, rfl⟩ (Nat.le_of_ble_eq_true rfl) ⟨Nat.zero_le _, Nat.zero_le _⟩ dL_isFair_275 ?_
                                        refine lv_iadd hx hb dL_isFair_278 ?_
                                        refine lv_istore (lv' := [(7, .int ((sm (costQ S) i) + (costQ S i))), (6, .int ((sm (waitQ S) i) + (0))), (11, .int (nI r9)), (10, .int ((-1))), (9, .int ((4))), (8, .int (nI (i))), (5, .int (sm (freeQ S) (S.nr))), (4, .int (nI S.nr)), (3, .int (nI S.nc)), (0, .ref (g.ad 1 0)), (1, .int (nI S.np)), (2, .ref (a9))]) hx hb dL_isFair_279 hl (by decide) rfl (fun ls hl => ?_)
                                        refine lv_iinc (v := nI (i) + 1) (lv' := [(8, .int (nI (i) + 1)), (7, .int ((sm (costQ S) i) + (costQ S i))), (6, .int ((sm (waitQ S) i) + (0))), (11, .int (nI r9)), (10, .int ((-1))), (9, .int ((4))), (5, .int (sm (freeQ S) (S.nr))), (4, .int (nI S.nr)), (3, .int (nI S.nc)), (0, .ref (g.ad 1 0)), (1, .int (nI S.np)), (2, .ref (a9))]) hx hb dL_isFair_281 hl (k := 5) rfl rfl (by decide) rfl (fun ls hl => ?_)
                                        refine lv_goto (tgt := 84) hx hb dL_isFair_284 (by decide) ?_
                                        refine ih (i + 1) _ _ (by omega) hR hA hS ls ?_
                                        rw [nI_succ i, show sm (waitQ S) (i + 1) = sm (waitQ S) i + (0) from sm_t (by unfold waitQ; rw [if_pos hap]), show sm (costQ S) (i + 1) = sm (costQ S) i + costQ S i from rfl]
                                        exact lv_sub hl [0, 1, 2, 6, 7, 8, 9, 10, 11] rfl
                                      · exact absurd (by decide) c_257
                                    · exact absurd (by decide) c_231
                                  · exact absurd (show irI (S.ro r9) = nI i by rw [hF.2.2.1.1 i r9 hlt hcr]; rfl) c_224
                              · exact absurd c_203 (by decide)
                            · exact absurd c_192 (by decide)
                          · exact absurd c_181 (by decide)
                    · exact absurd (by decide) c_156
                  · exact absurd c_146 (by decide)
              refine lv_aload_n hx hb dL_isFair_118 rfl (lv_at hl 11 rfl) ?_
              refine lv_iload hx hb dL_isFair_119 (lv_at hl 3 rfl) ?_
              refine g_iald hx hb hC hA ⟨rfl, h30, by decide⟩ dL_isFair_121 ?_
              rw [frI_at]
              refine lv_iconst (v := 1) hx hb dL_isFair_122 (by decide) ?_
              refine lv_icmp_le (tgt := 143) hx hb dL_isFair_123 (by decide) (fun c_123 => ?_) (fun c_123 => ?_)
              ·
                exact j143 trivial ls hl
              ·
                refine lv_aload_n hx hb dL_isFair_126 rfl (lv_at hl 11 rfl) ?_
                refine lv_iload hx hb dL_isFair_127 (lv_at hl 3 rfl) ?_
                refine g_iald hx hb hC hA ⟨rfl, h30, by decide⟩ dL_isFair_129 ?_
                rw [frI_at]
                refine lv_iconst (v := 4) hx hb dL_isFair_130 (by decide) ?_
                refine lv_icmp_ge (tgt := 143) hx hb dL_isFair_131 (by decide) (fun c_131 => ?_) (fun c_131 => ?_)
                ·
                  exact j143 trivial ls hl
                ·
                  refine lv_iload hx hb dL_isFair_134 (lv_at hl 2 rfl) ?_
                  refine lv_aload_n hx hb dL_isFair_136 rfl (lv_at hl 11 rfl) ?_
                  refine lv_iload hx hb dL_isFair_137 (lv_at hl 3 rfl) ?_
                  refine g_iald hx hb hC hA ⟨rfl, h30, by decide⟩ dL_isFair_139 ?_
                  rw [frI_at]
                  refine lv_icmp_ne (tgt := 227) hx hb dL_isFair_140 (by decide) (fun c_140 => ?_) (fun c_140 => ?_)
                  · exact absurd (hf.1 i hlt (fr_nc c_123 c_131)) c_140
                  ·
                    exact j143 trivial ls hl
        exact loop84 S.nc 0 s.heap [] (Nat.zero_add _) hR (by rw [frI_0]; exact hA) va_S.rf ls (lv_sub hl [0, 1, 2, 3, 4, 5, 6, 7, 8] rfl)
      · exact absurd (Int32.le_refl _) c_30
    | succ r26 ih26 =>
      intro i hE26 ls hl
      have hlt26 : i < S.nr := by omega
      refine lv_iload hx hb dL_isFair_26 (lv_at hl 0 rfl) ?_
      refine lv_iload hx hb dL_isFair_28 (lv_at hl 4 rfl) ?_
      refine lv_icmp_ge (tgt := 81) hx hb dL_isFair_30 (by decide) (fun c_30 => ?_) (fun c_30 => ?_)
      · exact absurd c_30 (nI_ge hlt26 hI.nr31)
      ·
        refine lv_aload_n hx hb dL_isFair_33 rfl (lv_at hl 6 rfl) ?_
        refine lv_iload hx hb dL_isFair_34 (lv_at hl 0 rfl) ?_
        refine rc_V (As := [.int (nI (i))]) hx hb hml hown hC hl (c_X6_ofReceipt l E hI (r9 := i) hlt26) (rec_of hC (RA.x hR) rfl) (zm_L_74 hC.1) kv_X6_ofReceipt hR rfl rfl (rwD_le (by decide) (by decide)) ⟨rfl, rfl⟩ (Nat.le_of_ble_eq_true rfl) ⟨Nat.zero_le _, Nat.zero_le _⟩ dL_isFair_36 ?_
        rcases hro : S.ro i with _ | c9
        ·
          rw [show irI (none : Option Nat) = (-1 : Int32) from rfl]
          refine lv_istore (lv' := [(9, .int ((-1))), (8, .int (nI (i))), (7, .int (0)), (6, .int (0)), (5, .int (sm (freeQ S) i)), (4, .int (nI S.nr)), (3, .int (nI S.nc)), (0, .ref (g.ad 1 0)), (1, .int (nI S.np)), (2, .ref (a9))]) hx hb dL_isFair_39 hl (by decide) rfl (fun ls hl => ?_)
          refine lv_iload hx hb dL_isFair_41 (lv_at hl 4 rfl) ?_
          refine lv_iload hx hb dL_isFair_43 (lv_at hl 0 rfl) ?_
          refine lv_if_ge (tgt := 52) hx hb dL_isFair_45 (by decide) (fun c_45 => ?_) (fun c_45 => ?_)
          · exact absurd c_45 (by decide)
          ·
            refine lv_iconst (v := 1) hx hb dL_isFair_48 (by decide) ?_
            refine lv_goto (tgt := 53) hx hb dL_isFair_49 (by decide) ?_
            refine lv_iadd hx hb dL_isFair_53 ?_
            refine lv_istore (lv' := [(5, .int ((sm (freeQ S) i) + (1))), (9, .int ((-1))), (8, .int (nI (i))), (7, .int (0)), (6, .int (0)), (4, .int (nI S.nr)), (3, .int (nI S.nc)), (0, .ref (g.ad 1 0)), (1, .int (nI S.np)), (2, .ref (a9))]) hx hb dL_isFair_54 hl (by decide) rfl (fun ls hl => ?_)
            refine lv_iload hx hb dL_isFair_56 (lv_at hl 1 rfl) ?_
            refine lv_if_lt (tgt := 75) hx hb dL_isFair_58 (by decide) (fun c_58 => ?_) (fun c_58 => ?_)
            ·
              refine lv_iinc (v := nI (i) + 1) (lv' := [(8, .int (nI (i) + 1)), (5, .int ((sm (freeQ S) i) + (1))), (9, .int ((-1))), (7, .int (0)), (6, .int (0)), (4, .int (nI S.nr)), (3, .int (nI S.nc)), (0, .ref (g.ad 1 0)), (1, .int (nI S.np)), (2, .ref (a9))]) hx hb dL_isFair_75 hl (k := 2) rfl rfl (by decide) rfl (fun ls hl => ?_)
              refine lv_goto (tgt := 26) hx hb dL_isFair_78 (by decide) ?_
              refine ih26 (i + 1) (by omega) ls ?_
              rw [nI_succ i, sm_t (f := freeQ S) (by unfold freeQ; rw [if_pos hro])]
              exact lv_sub hl [0, 3, 4, 1, 5, 6, 7, 8, 9] rfl
            · exact absurd (by decide) c_58
        ·
          rw [show irI (some c9) = nI c9 from rfl]
          refine lv_istore (lv' := [(9, .int (nI c9)), (8, .int (nI (i))), (7, .int (0)), (6, .int (0)), (5, .int (sm (freeQ S) i)), (4, .int (nI S.nr)), (3, .int (nI S.nc)), (0, .ref (g.ad 1 0)), (1, .int (nI S.np)), (2, .ref (a9))]) hx hb dL_isFair_39 hl (by decide) rfl (fun ls hl => ?_)
          refine lv_iload hx hb dL_isFair_41 (lv_at hl 4 rfl) ?_
          refine lv_iload hx hb dL_isFair_43 (lv_at hl 0 rfl) ?_
          refine lv_if_ge (tgt := 52) hx hb dL_isFair_45 (by decide) (fun c_45 => ?_) (fun c_45 => ?_)
          ·
            refine lv_iconst (v := 0) hx hb dL_isFair_52 (by decide) ?_
            refine lv_iadd hx hb dL_isFair_53 ?_
            refine lv_istore (lv' := [(5, .int ((sm (freeQ S) i) + (0))), (9, .int (nI c9)), (8, .int (nI (i))), (7, .int (0)), (6, .int (0)), (4, .int (nI S.nr)), (3, .int (nI S.nc)), (0, .ref (g.ad 1 0)), (1, .int (nI S.np)), (2, .ref (a9))]) hx hb dL_isFair_54 hl (by decide) rfl (fun ls hl => ?_)
            refine lv_iload hx hb dL_isFair_56 (lv_at hl 1 rfl) ?_
            refine lv_if_lt (tgt := 75) hx hb dL_isFair_58 (by decide) (fun c_58 => ?_) (fun c_58 => ?_)
            · exact absurd c_58 (nI_pos (Nat.lt_of_lt_of_le (hI.ro hlt26 hro) (Nat.le_trans hI.nc (by decide))))
            ·
              refine lv_aload_n hx hb dL_isFair_61 rfl (lv_at hl 7 rfl) ?_
              refine lv_iload hx hb dL_isFair_62 (lv_at hl 1 rfl) ?_
              refine lv_iconst (v := 5) hx hb dL_isFair_64 (by decide) ?_
              refine rc_V (As := [.int (nI c9), .int (5)]) hx hb hml hown hC hl (c_X6_ofCharge l E hI (c9 := c9) (hI.ro hlt26 hro) (w9 := 5) (by decide)) (rec_of hC (RA.x hR) rfl) (zm_L_62 hC.1) kv_X6_ofCharge hR rfl rfl (rwD_le (by decide) (by decide)) ⟨rfl, rfl⟩ (Nat.le_of_ble_eq_true rfl) ⟨Nat.zero_le _, Nat.zero_le _⟩ dL_isFair_65 ?_
              refine lv_iload hx hb dL_isFair_68 (lv_at hl 2 rfl) ?_
              refine lv_icmp_eq (tgt := 75) hx hb dL_isFair_70 (by decide) (fun c_70 => ?_) (fun c_70 => ?_)
              ·
                refine lv_iinc (v := nI (i) + 1) (lv' := [(8, .int (nI (i) + 1)), (5, .int ((sm (freeQ S) i) + (0))), (9, .int (nI c9)), (7, .int (0)), (6, .int (0)), (4, .int (nI S.nr)), (3, .int (nI S.nc)), (0, .ref (g.ad 1 0)), (1, .int (nI S.np)), (2, .ref (a9))]) hx hb dL_isFair_75 hl (k := 2) rfl rfl (by decide) rfl (fun ls hl => ?_)
                refine lv_goto (tgt := 26) hx hb dL_isFair_78 (by decide) ?_
                refine ih26 (i + 1) (by omega) ls ?_
                rw [nI_succ i, sm_t (f := freeQ S) (by unfold freeQ; rw [if_neg (nsome hro)])]
                exact lv_sub hl [0, 3, 4, 1, 5, 6, 7, 8, 9] rfl
              · exact absurd (show irI (S.cr c9) = nI i by rw [hF.2.2.1.2 i c9 hlt26 hro]; rfl) c_70
          · exact absurd (nI_pos' (Nat.lt_of_lt_of_le (hI.ro hlt26 hro) (Nat.le_trans hI.nc (by decide)))) c_45
  exact loop26 (S.nr) 0 (by omega) ls (lv_sub hl [0, 1, 2, 3, 4, 5, 6, 7, 8] rfl)
