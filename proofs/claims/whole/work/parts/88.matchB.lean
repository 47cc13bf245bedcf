theorem op_e {α : Type} {o : Option α} (h : ¬ o = none) : ∃ j, o = some j := by
  cases o with
  | none => exact absurd rfl h
  | some j => exact ⟨j, rfl⟩
theorem bR_v {S : St} {c : Nat} : ∀ {n : Nat}, ((bR S c n).1 = none → (bR S c n).2 = -1) ∧ ∀ j, (bR S c n).1 = some j → (bR S c n).2 = scA S c (S.ra j) (S.rd j) (S.rx j) := by
  intro n
  induction n with
  | zero => exact ⟨fun _ => rfl, fun j h => by cases h⟩
  | succ n ih =>
    by_cases h1 : goA S c (nI n) (S.ra n) (S.rd n) (S.rx n) (S.ro n) = 0
    · rw [bR_a h1]; exact ih
    · by_cases h2 : scA S c (S.ra n) (S.rd n) (S.rx n) ≤ (bR S c n).2
      · rw [bR_b h1 h2]; exact ih
      · rw [bR_c h1 h2]; exact ⟨(fun h => by cases h), (fun j h => by cases h; rfl)⟩
theorem i_le3 {x y z : Int32} (h1 : x ≤ y) (h2 : y ≤ z) : x ≤ z := by
  rw [Int32.le_iff_toInt_le] at *
  omega
theorem i_gt3 {x y z : Int32} (h1 : ¬ x ≤ y) (h2 : ¬ y ≤ z) : ¬ x ≤ z := by
  rw [Int32.le_iff_toInt_le] at *
  omega
theorem bP_ge {S : St} : ∀ n, (-1 : Int32) ≤ (bP S n).2 := by
  intro n
  induction n with
  | zero => exact Int32.le_refl _
  | succ n ih =>
    cases h : bRA S n with
    | none => rw [bP_a h]; exact ih
    | some r =>
      by_cases h2 : scA S n (S.ra r) (S.rd r) (S.rx r) ≤ (bP S n).2
      · rw [bP_b h h2]; exact ih
      · rw [bP_c h h2]
        show (-1 : Int32) ≤ scA S n (S.ra r) (S.rd r) (S.rx r)
        rw [Int32.le_iff_toInt_le] at *
        omega
def bI (S : St) (c n : Nat) : Option (Nat × Nat) × Int32 := if (bR S c n).2 ≤ (bP S c).2 then bP S c else ((bR S c n).1.map (fun r => (c, r)), (bR S c n).2)
theorem bI_0 {S : St} {c : Nat} : bI S c 0 = bP S c := if_pos (bP_ge c)
theorem bI_a {S : St} {c n : Nat} (h : goA S c (nI n) (S.ra n) (S.rd n) (S.rx n) (S.ro n) = 0) : bI S c (n + 1) = bI S c n := by unfold bI; rw [bR_a h]
theorem bI_b {S : St} {c n : Nat} (h : ¬ goA S c (nI n) (S.ra n) (S.rd n) (S.rx n) (S.ro n) = 0) (h2 : scA S c (S.ra n) (S.rd n) (S.rx n) ≤ (bI S c n).2) : bI S c (n + 1) = bI S c n := by
  unfold bI at *
  by_cases h3 : (bR S c n).2 ≤ (bP S c).2
  · rw [if_pos h3] at h2 ⊢
    by_cases h4 : scA S c (S.ra n) (S.rd n) (S.rx n) ≤ (bR S c n).2
    · rw [bR_b h h4, if_pos h3]
    · rw [bR_c h h4, if_pos h2]
  · rw [if_neg h3] at h2 ⊢
    rw [bR_b h h2, if_neg h3]
theorem bI_c {S : St} {c n : Nat} (h : ¬ goA S c (nI n) (S.ra n) (S.rd n) (S.rx n) (S.ro n) = 0) (h2 : ¬ scA S c (S.ra n) (S.rd n) (S.rx n) ≤ (bI S c n).2) : bI S c (n + 1) = (some (c, n), scA S c (S.ra n) (S.rd n) (S.rx n)) := by
  unfold bI at *
  by_cases h3 : (bR S c n).2 ≤ (bP S c).2
  · rw [if_pos h3] at h2
    have h4 : ¬ scA S c (S.ra n) (S.rd n) (S.rx n) ≤ (bR S c n).2 := fun q => h2 (i_le3 q h3)
    rw [bR_c h h4, if_neg h2]
    rfl
  · rw [if_neg h3] at h2
    have h2 : ¬ scA S c (S.ra n) (S.rd n) (S.rx n) ≤ (bR S c n).2 := h2
    rw [bR_c h h2, if_neg (i_gt3 h2 h3)]
    rfl
theorem bP_I {S : St} {c : Nat} : bP S (c + 1) = bI S c S.nr := by
  unfold bI
  cases h : bRA S c with
  | none =>
    have h1 : (bR S c S.nr).1 = none := h
    rw [bP_a h, bR_v.1 h1, if_pos (bP_ge c)]
  | some r =>
    have h1 : (bR S c S.nr).1 = some r := h
    have h2 := bR_v.2 r h1
    rw [h2]
    by_cases h3 : scA S c (S.ra r) (S.rd r) (S.rx r) ≤ (bP S c).2
    · rw [bP_b h h3, if_pos h3]
    · rw [bP_c h h3, if_neg h3, h1]
      rfl
/-- how many charges are open -/
def ocF (S : St) (c : Nat) : Nat := if S.cs c = 0 then 1 else 0
def ocN (S : St) : Nat := sN (ocF S) S.nc
theorem sN_le {f : Nat → Nat} (h : ∀ i, f i ≤ 1) : ∀ n, sN f n ≤ n := by
  intro n
  induction n with
  | zero => exact Nat.le_refl _
  | succ n ih =>
    show sN f n + f n ≤ n + 1
    have := h n
    omega
theorem match_cs (S : St) (c r : Nat) : (matchS S c r).cs = va_up S.cs c 1 := by
  unfold matchS
  split
  · rfl
  · unfold gainS
    split <;> rfl
theorem oc_match {S : St} {c r : Nat} (hc : c < S.nc) (hs : S.cs c = 0) : ocN (matchS S c r) + 1 = ocN S := by
  have h := sN_one (f := ocF S) (g := ocF (matchS S c r)) S.nc hc (fun i hi => by unfold ocF; rw [match_cs, va_up_ne _ _ hi])
  have e1 : ocF S c = 1 := if_pos hs
  have e2 : ocF (matchS S c r) c = 0 := by
    unfold ocF
    rw [match_cs, va_up_self]
    rfl
  unfold ocN
  rw [match_nc]
  omega
theorem mp_k {S : St} : ∀ {k : Nat}, ¬ (mpF S k).2 = 0 → ocN (mpF S k).1 + k ≤ ocN S := by
  intro k
  induction k with
  | zero => intro _; exact Nat.le_refl _
  | succ k ih =>
    intro h
    by_cases h0 : (mpF S k).2 = 0
    · rw [mpF_stop h0 (k + 1) (Nat.le_succ k)] at h
      exact absurd h0 h
    · have h1 := ih h0
      rw [mpF_b h0] at h ⊢
      cases hq : (bP (mpF S k).1 (mpF S k).1.nc).1 with
      | none =>
        exact absurd (show mbR (mpF S k).1 = 0 by unfold mbR; rw [hq]) h
      | some q =>
        have e : mbS (mpF S k).1 = matchS (mpF S k).1 q.1 q.2 := by unfold mbS; rw [hq]
        show ocN (mbS (mpF S k).1) + (k + 1) ≤ _
        have hb := bP_ok hq
        have h2 := oc_match (r := q.2) hb.1 (goA_open (bR_ok hb.2.2)).1
        rw [e]
        omega
theorem oc_le (S : St) : ocN S ≤ S.nc := sN_le (fun i => by unfold ocF; split <;> omega) _
theorem mp_done {S : St} {k : Nat} (h : ¬ (mpF S k).2 = 0) (h2 : (bP (mpF S k).1 (mpF S k).1.nc).1 = none) (hk : k ≤ 30) : mpS S = (mpF S k).1 := by
  have e : mpF S (k + 1) = ((mpF S k).1, 0) := by
    rw [mpF_b h]
    have e1 : mbS (mpF S k).1 = (mpF S k).1 := by unfold mbS; rw [h2]
    have e2 : mbR (mpF S k).1 = 0 := by unfold mbR; rw [h2]
    rw [e1, e2]
  rcases Nat.lt_or_ge k 30 with h3 | h3
  · show (mpF S 30).1 = _
    rw [mpF_stop (k := k + 1) (by rw [e]) 30 (by omega), e]
  · have : k = 30 := by omega
    subst this
    rfl
set_option maxRecDepth 100000 in
set_option maxHeartbeats 4000000 in
theorem c_X8_matchAll (l : Launch) (E : EE) {S : St} {th : Int32} {g : Gh} (hI : Inv S)  : WM l E yX8_matchAll cX8_matchAll 7 none (wD 5 0 0) [.ref (g.ad 12 0)] (RB E S th g) (ow g) (fun _ v H => RB E (mpS S) (th) g H ∧ v = none) := by
  refine wm_of rfl (Nat.le_of_ble_eq_true rfl) (fun p e s m below meth c ls hx hb hr hml (hown : s.vm.findClass RX8 = some m.cls) hC hlocks hR hl hini => ?_)
  have hS : va_S (fun q => ow g q ∨ s.heap.size ≤ q) s.heap s.heap [] := va_S.rf
  have hl : lv_has ls 7 [(0, .ref (g.ad 12 0))] := hl
  obtain ⟨M, hM⟩ : ∃ M, M = mpS S := ⟨_, rfl⟩
  obtain ⟨S9, hS9⟩ : ∃ S9, S9 = S := ⟨_, rfl⟩
  rw [← hM]
  rw [← hS9] at hM
  have hn9 : S9.nc ≤ 30 := by rw [hS9]; exact hI.nc
  refine lv_iconst (v := 0) hx hb dX8_matchAll_0 (by decide) ?_
  refine lv_istore_n (lv' := [(1, .int (0)), (0, .ref (g.ad 12 0))]) hx hb dX8_matchAll_1 rfl hl (by decide) rfl (fun ls hl => ?_)
  have loop2 : ∀ (f k : Nat) (S : St) (H1 : Heap) (locs1 : List Loc), k + f = 31 → S = (mpF S9 k).1 → ¬ (mpF S9 k).2 = 0 → Inv S → RB E S th g H1 → va_S (fun q => ow g q ∨ s.heap.size ≤ q) s.heap H1 locs1 → ∀ ls, lv_has ls 7 [(1, .int (0)), (0, .ref (g.ad 12 0))] → W p l e (wD 5 0 0) s m ([.ref (g.ad 12 0)] : List Value).toArray below meth c H1 locs1 0 0 (MQ below (WQ (ow g) s.heap.size (fun v H => RB E M th g H ∧ v = none)) ([.ref (g.ad 12 0)] : List Value).toArray s (wD 5 0 0).cells (wD 5 0 0).slots (fun q => ow g q ∨ s.heap.size ≤ q)) (F0 m 2 ls []) := by
    intro f
    induction f with
    | zero =>
      intro k S H1 locs1 hE hX hk hI hR hS ls hl
      exfalso
      have h9 := mp_k hk
      have h8 := oc_le S9
      omega
    | succ f ih2 =>
      intro k S H1 locs1 hE hX hk hI hR hS ls hl
      refine lv_iload_n hx hb dX8_matchAll_2 rfl (lv_at hl 0 rfl) ?_
      refine lv_if_ne (tgt := 160) hx hb dX8_matchAll_3 (by decide) (fun c_3 => ?_) (fun c_3 => ?_)
      · exact absurd (by decide) c_3
      ·
        refine lv_iconst (v := (-1)) hx hb dX8_matchAll_6 (by decide) ?_
        refine lv_istore_n (lv' := [(2, .int ((-1))), (1, .int (0)), (0, .ref (g.ad 12 0))]) hx hb dX8_matchAll_7 rfl hl (by decide) rfl (fun ls hl => ?_)
        refine lv_iconst (v := (-1)) hx hb dX8_matchAll_8 (by decide) ?_
        refine lv_istore_n (lv' := [(3, .int ((-1))), (2, .int ((-1))), (1, .int (0)), (0, .ref (g.ad 12 0))]) hx hb dX8_matchAll_9 rfl hl (by decide) rfl (fun ls hl => ?_)
        refine lv_iconst (v := (-1)) hx hb dX8_matchAll_10 (by decide) ?_
        refine lv_istore (lv' := [(4, .int ((-1))), (3, .int ((-1))), (2, .int ((-1))), (1, .int (0)), (0, .ref (g.ad 12 0))]) hx hb dX8_matchAll_11 hl (by decide) rfl (fun ls hl => ?_)
        refine lv_iconst (v := 0) hx hb dX8_matchAll_13 (by decide) ?_
        refine lv_istore (lv' := [(5, .int (0)), (4, .int ((-1))), (3, .int ((-1))), (2, .int ((-1))), (1, .int (0)), (0, .ref (g.ad 12 0))]) hx hb dX8_matchAll_14 hl (by decide) rfl (fun ls hl => ?_)
        have loop16 : ∀ (r16 i : Nat), i + r16 = S.nc → ∀ ls, lv_has ls 7 [(5, .int (nI (i))), (4, .int ((bP S i).2)), (3, .int (irI ((bP S i).1.map Prod.snd))), (2, .int (irI ((bP S i).1.map Prod.fst))), (1, .int (0)), (0, .ref (g.ad 12 0))] → W p l e (wD 5 0 0) s m ([.ref (g.ad 12 0)] : List Value).toArray below meth c H1 locs1 0 0 (MQ below (WQ (ow g) s.heap.size (fun v H => RB E M th g H ∧ v = none)) ([.ref (g.ad 12 0)] : List Value).toArray s (wD 5 0 0).cells (wD 5 0 0).slots (fun q => ow g q ∨ s.heap.size ≤ q)) (F0 m 16 ls []) := by
          intro r16
          induction r16 with
          | zero =>
            intro i hE16 ls hl
            have hN16 : i = S.nc := by omega
            subst hN16
            refine lv_iload hx hb dX8_matchAll_16 (lv_at hl 0 rfl) ?_
            refine lv_aload_n hx hb dX8_matchAll_18 rfl (lv_at hl 5 rfl) ?_
            refine gf_X8_2 hx hb hown hC (RB.dk hR) (zf_X8_21 hC.1) dX8_matchAll_19 ?_
            refine rc_V (As := []) hx hb hml hown hC hl (c_size l E _ _ _ _) (rec_of hC (RB.ls hR (by decide : 2 < 4)) rfl) (zm_X8_52 hC.1) kv_Jx4a65c_size_8abf5 (RB.ls hR (by decide : 2 < 4)) rfl rfl (rwD_le (by decide) (by decide)) ⟨rfl, rfl⟩ (Nat.le_of_ble_eq_true rfl) ⟨Nat.zero_le _, Nat.zero_le _⟩ dX8_matchAll_22 ?_
            refine lv_icmp_ge (tgt := 136) hx hb dX8_matchAll_25 (by decide) (fun c_25 => ?_) (fun c_25 => ?_)
            ·
              refine lv_iload_n hx hb dX8_matchAll_136 rfl (lv_at hl 3 rfl) ?_
              refine lv_iconst (v := (-1)) hx hb dX8_matchAll_137 (by decide) ?_
              refine lv_icmp_ne (tgt := 145) hx hb dX8_matchAll_138 (by decide) (fun c_138 => ?_) (fun c_138 => ?_)
              ·
                have c_138 : ¬ (bP S S.nc).1 = none := fun e => c_138 (by rw [e]; rfl)
                obtain ⟨q, hq9⟩ := op_e c_138
                have hqb := bP_ok hq9
                have hqs : S.cs q.1 = 0 := (goA_open (bR_ok hqb.2.2)).1
                rw [show irI ((bP S S.nc).1.map Prod.fst) = nI q.1 by rw [hq9]; rfl, show irI ((bP S S.nc).1.map Prod.snd) = nI q.2 by rw [hq9]; rfl] at hl
                refine lv_iconst (v := 0) hx hb dX8_matchAll_145 (by decide) ?_
                refine lv_istore_n (lv' := [(1, .int (0)), (5, .int (nI (S.nc))), (4, .int ((bP S S.nc).2)), (3, .int (nI q.2)), (2, .int (nI q.1)), (0, .ref (g.ad 12 0))]) hx hb dX8_matchAll_146 rfl hl (by decide) rfl (fun ls hl => ?_)
                refine lv_iload_n hx hb dX8_matchAll_147 rfl (lv_at hl 0 rfl) ?_
                refine lv_if_ne (tgt := 157) hx hb dX8_matchAll_148 (by decide) (fun c_148 => ?_) (fun c_148 => ?_)
                · exact absurd (by decide) c_148
                ·
                  refine lv_aload_n hx hb dX8_matchAll_151 rfl (lv_at hl 5 rfl) ?_
                  refine lv_iload_n hx hb dX8_matchAll_152 rfl (lv_at hl 4 rfl) ?_
                  refine lv_iload_n hx hb dX8_matchAll_153 rfl (lv_at hl 3 rfl) ?_
                  refine wcv_V (As := [.int (nI q.1), .int (nI q.2)]) hx hb hml hown hC hl (c_X8_match l E hI hqb.1 hqb.2.1 hqs) (rec_of hC (RB.dk hR) rfl) (zm_X8_150 hC.1) kv_X8_match hR hS (fun q h => h.imp id (Nat.le_trans hS.1)) rfl rfl (wD_le (by decide) (by decide)) (Nat.le_of_ble_eq_true rfl) ⟨Nat.le_of_ble_eq_true rfl, Nat.le_of_ble_eq_true rfl⟩ dX8_matchAll_154 (fun H1 locs1 hR hz hq hS => ?_)
                  have hI : Inv (matchS S q.1 q.2) := hI.match' hqb.1 hqb.2.1
                  refine lv_goto (tgt := 2) hx hb dX8_matchAll_157 (by decide) ?_
                  exact ih2 (k + 1) (matchS S q.1 q.2) H1 locs1 (by omega) (by rw [mpF_b hk, ← hX]; show _ = mbS S; unfold mbS; rw [hq9]) (by rw [mpF_b hk, ← hX]; show ¬ mbR S = 0; unfold mbR; rw [hq9]; exact (show ¬ (1 : Int32) = 0 by decide)) hI hR hS ls (lv_sub hl [0, 5] rfl)
              ·
                have c_138 : (bP S S.nc).1 = none := bP_n ((irI_m (fun j hj => Nat.lt_trans (bP_f hj) hI.nc31)).mp c_138)
                refine lv_iconst (v := 1) hx hb dX8_matchAll_141 (by decide) ?_
                refine lv_goto (tgt := 146) hx hb dX8_matchAll_142 (by decide) ?_
                refine lv_istore_n (lv' := [(1, .int (1)), (5, .int (nI (S.nc))), (4, .int ((bP S S.nc).2)), (3, .int (irI ((bP S S.nc).1.map Prod.snd))), (2, .int (irI ((bP S S.nc).1.map Prod.fst))), (0, .ref (g.ad 12 0))]) hx hb dX8_matchAll_146 rfl hl (by decide) rfl (fun ls hl => ?_)
                refine lv_iload_n hx hb dX8_matchAll_147 rfl (lv_at hl 0 rfl) ?_
                refine lv_if_ne (tgt := 157) hx hb dX8_matchAll_148 (by decide) (fun c_148 => ?_) (fun c_148 => ?_)
                ·
                  refine lv_goto (tgt := 2) hx hb dX8_matchAll_157 (by decide) ?_
                  refine lv_iload_n hx hb dX8_matchAll_2 rfl (lv_at hl 0 rfl) ?_
                  refine lv_if_ne (tgt := 160) hx hb dX8_matchAll_3 (by decide) (fun c_3_9 => ?_) (fun c_3_9 => ?_)
                  ·
                    exact wr_v hx hb hr hlocks hS ⟨(by rw [hM, mp_done hk (by rw [← hX]; exact c_138) (by omega), ← hX]; exact hR), rfl⟩ (Nat.le_of_ble_eq_true rfl) (Nat.le_of_ble_eq_true rfl) dX8_matchAll_160
                  · exact absurd c_3_9 (by decide)
                · exact absurd c_148 (by decide)
            · exact absurd (Int32.le_refl _) c_25
          | succ r16 ih16 =>
            intro i hE16 ls hl
            have hlt16 : i < S.nc := by omega
            refine lv_iload hx hb dX8_matchAll_16 (lv_at hl 0 rfl) ?_
            refine lv_aload_n hx hb dX8_matchAll_18 rfl (lv_at hl 5 rfl) ?_
            refine gf_X8_2 hx hb hown hC (RB.dk hR) (zf_X8_21 hC.1) dX8_matchAll_19 ?_
            refine rc_V (As := []) hx hb hml hown hC hl (c_size l E _ _ _ _) (rec_of hC (RB.ls hR (by decide : 2 < 4)) rfl) (zm_X8_52 hC.1) kv_Jx4a65c_size_8abf5 (RB.ls hR (by decide : 2 < 4)) rfl rfl (rwD_le (by decide) (by decide)) ⟨rfl, rfl⟩ (Nat.le_of_ble_eq_true rfl) ⟨Nat.zero_le _, Nat.zero_le _⟩ dX8_matchAll_22 ?_
            refine lv_icmp_ge (tgt := 136) hx hb dX8_matchAll_25 (by decide) (fun c_25 => ?_) (fun c_25 => ?_)
            · exact absurd c_25 (nI_ge hlt16 hI.nc31)
            ·
              refine lv_iconst (v := 0) hx hb dX8_matchAll_28 (by decide) ?_
              refine lv_istore (lv' := [(6, .int (0)), (5, .int (nI (i))), (4, .int ((bP S i).2)), (3, .int (irI ((bP S i).1.map Prod.snd))), (2, .int (irI ((bP S i).1.map Prod.fst))), (1, .int (0)), (0, .ref (g.ad 12 0))]) hx hb dX8_matchAll_29 hl (by decide) rfl (fun ls hl => ?_)
              have loop31 : ∀ (r31 j : Nat), j + r31 = S.nr → ∀ ls, lv_has ls 7 [(6, .int (nI (j))), (5, .int (nI (i))), (4, .int ((bI S i j).2)), (3, .int (irI ((bI S i j).1.map Prod.snd))), (2, .int (irI ((bI S i j).1.map Prod.fst))), (1, .int (0)), (0, .ref (g.ad 12 0))] → W p l e (wD 5 0 0) s m ([.ref (g.ad 12 0)] : List Value).toArray below meth c H1 locs1 0 0 (MQ below (WQ (ow g) s.heap.size (fun v H => RB E M th g H ∧ v = none)) ([.ref (g.ad 12 0)] : List Value).toArray s (wD 5 0 0).cells (wD 5 0 0).slots (fun q => ow g q ∨ s.heap.size ≤ q)) (F0 m 31 ls []) := by
                intro r31
                induction r31 with
                | zero =>
                  intro j hE31 ls hl
                  have hN31 : j = S.nr := by omega
                  subst hN31
                  refine lv_iload hx hb dX8_matchAll_31 (lv_at hl 0 rfl) ?_
                  refine lv_aload_n hx hb dX8_matchAll_33 rfl (lv_at hl 6 rfl) ?_
                  refine gf_X8_3 hx hb hown hC (RB.dk hR) (zf_X8_24 hC.1) dX8_matchAll_34 ?_
                  refine rc_V (As := []) hx hb hml hown hC hl (c_size l E _ _ _ _) (rec_of hC (RB.ls hR (by decide : 3 < 4)) rfl) (zm_X8_52 hC.1) kv_Jx4a65c_size_8abf5 (RB.ls hR (by decide : 3 < 4)) rfl rfl (rwD_le (by decide) (by decide)) ⟨rfl, rfl⟩ (Nat.le_of_ble_eq_true rfl) ⟨Nat.zero_le _, Nat.zero_le _⟩ dX8_matchAll_37 ?_
                  refine lv_icmp_ge (tgt := 130) hx hb dX8_matchAll_40 (by decide) (fun c_40 => ?_) (fun c_40 => ?_)
                  ·
                    refine lv_iinc (v := nI (i) + 1) (lv' := [(5, .int (nI (i) + 1)), (6, .int (nI (S.nr))), (4, .int ((bI S i S.nr).2)), (3, .int (irI ((bI S i S.nr).1.map Prod.snd))), (2, .int (irI ((bI S i S.nr).1.map Prod.fst))), (1, .int (0)), (0, .ref (g.ad 12 0))]) hx hb dX8_matchAll_130 hl (k := 1) rfl rfl (by decide) rfl (fun ls hl => ?_)
                    refine lv_goto (tgt := 16) hx hb dX8_matchAll_133 (by decide) ?_
                    refine ih16 (i + 1) (by omega) ls ?_
                    rw [nI_succ i, bP_I]
                    exact lv_sub hl [0, 2, 3, 4, 5, 6] rfl
                  · exact absurd (Int32.le_refl _) c_40
                | succ r31 ih31 =>
                  intro j hE31 ls hl
                  have hlt31 : j < S.nr := by omega
                  refine lv_iload hx hb dX8_matchAll_31 (lv_at hl 0 rfl) ?_
                  refine lv_aload_n hx hb dX8_matchAll_33 rfl (lv_at hl 6 rfl) ?_
                  refine gf_X8_3 hx hb hown hC (RB.dk hR) (zf_X8_24 hC.1) dX8_matchAll_34 ?_
                  refine rc_V (As := []) hx hb hml hown hC hl (c_size l E _ _ _ _) (rec_of hC (RB.ls hR (by decide : 3 < 4)) rfl) (zm_X8_52 hC.1) kv_Jx4a65c_size_8abf5 (RB.ls hR (by decide : 3 < 4)) rfl rfl (rwD_le (by decide) (by decide)) ⟨rfl, rfl⟩ (Nat.le_of_ble_eq_true rfl) ⟨Nat.zero_le _, Nat.zero_le _⟩ dX8_matchAll_37 ?_
                  refine lv_icmp_ge (tgt := 130) hx hb dX8_matchAll_40 (by decide) (fun c_40 => ?_) (fun c_40 => ?_)
                  · exact absurd c_40 (nI_ge hlt31 hI.nr31)
                  ·
                    refine lv_aload_n hx hb dX8_matchAll_43 rfl (lv_at hl 6 rfl) ?_
                    refine lv_iload hx hb dX8_matchAll_44 (lv_at hl 1 rfl) ?_
                    refine lv_iload hx hb dX8_matchAll_46 (lv_at hl 0 rfl) ?_
                    refine rc_V (As := [.int (nI (i)), .int (nI (j))]) hx hb hml hown hC hl (c_X8_goTogether l E hI hlt16 hlt31) (rec_of hC (RB.dk hR) rfl) (zm_X8_146 hC.1) kv_X8_goTogether hR rfl rfl (rwD_le (by decide) (by decide)) ⟨rfl, rfl⟩ (Nat.le_of_ble_eq_true rfl) ⟨Nat.zero_le _, Nat.zero_le _⟩ dX8_matchAll_48 ?_
                    refine lv_if_eq (tgt := 124) hx hb dX8_matchAll_51 (by decide) (fun c_51 => ?_) (fun c_51 => ?_)
                    ·
                      refine lv_iinc (v := nI (j) + 1) (lv' := [(6, .int (nI (j) + 1)), (5, .int (nI (i))), (4, .int ((bI S i j).2)), (3, .int (irI ((bI S i j).1.map Prod.snd))), (2, .int (irI ((bI S i j).1.map Prod.fst))), (1, .int (0)), (0, .ref (g.ad 12 0))]) hx hb dX8_matchAll_124 hl (k := 0) rfl rfl (by decide) rfl (fun ls hl => ?_)
                      refine lv_goto (tgt := 31) hx hb dX8_matchAll_127 (by decide) ?_
                      refine ih31 (j + 1) (by omega) ls ?_
                      rw [nI_succ j, bI_a c_51]
                      exact lv_sub hl [0, 1, 2, 3, 4, 5, 6] rfl
                    ·
                      refine lv_aload_n hx hb dX8_matchAll_54 rfl (lv_at hl 6 rfl) ?_
                      refine gf_X8_2 hx hb hown hC (RB.dk hR) (zf_X8_21 hC.1) dX8_matchAll_55 ?_
                      refine lv_iload hx hb dX8_matchAll_58 (lv_at hl 1 rfl) ?_
                      refine rc_V (As := [.int (nI (i))]) hx hb hml hown hC hl (c_getLB l E 2 rfl hR (by decide) hlt16) (rec_of hC (RB.ls hR (by decide : 2 < 4)) rfl) (zm_X8_39 hC.1) kv_Jx4a65c_get_915e3 (RB.gp hR 2 (by decide) hlt16) rfl rfl (rwD_le (by decide) (by decide)) ⟨rfl, rfl⟩ (Nat.le_of_ble_eq_true rfl) ⟨Nat.zero_le _, Nat.zero_le _⟩ dX8_matchAll_60 ?_
                      refine g_cast hx hb hown hC (RB.ch hR hlt16) rfl (zc_X8_83 hC.1) dX8_matchAll_63 ?_
                      refine lv_aload_n hx hb dX8_matchAll_66 rfl (lv_at hl 6 rfl) ?_
                      refine gf_X8_3 hx hb hown hC (RB.dk hR) (zf_X8_24 hC.1) dX8_matchAll_67 ?_
                      refine lv_iload hx hb dX8_matchAll_70 (lv_at hl 0 rfl) ?_
                      refine rc_V (As := [.int (nI (j))]) hx hb hml hown hC hl (c_getLB l E 3 rfl hR (by decide) hlt31) (rec_of hC (RB.ls hR (by decide : 3 < 4)) rfl) (zm_X8_39 hC.1) kv_Jx4a65c_get_915e3 (RB.gp hR 3 (by decide) hlt31) rfl rfl (rwD_le (by decide) (by decide)) ⟨rfl, rfl⟩ (Nat.le_of_ble_eq_true rfl) ⟨Nat.zero_le _, Nat.zero_le _⟩ dX8_matchAll_72 ?_
                      refine g_cast hx hb hown hC (RB.re hR hlt31) rfl (zc_X8_121 hC.1) dX8_matchAll_75 ?_
                      refine rc_V (As := [.ref (g.ad 9 (j))]) hx hb hml hown hC hl (c_X7_score l E hI hlt16 (g.ad 9 (j)) (S.ra (j)) (S.rd (j)) (S.rx (j)) (irI (S.ro (j)))) (rec_of hC (RB.ch hR hlt16) rfl) (zm_X8_130 hC.1) kv_X7_score ⟨hR, (RB.re hR hlt31)⟩ rfl rfl (rwD_le (by decide) (by decide)) ⟨rfl, rfl⟩ (Nat.le_of_ble_eq_true rfl) ⟨Nat.zero_le _, Nat.zero_le _⟩ dX8_matchAll_78 ?_
                      refine lv_iload hx hb dX8_matchAll_81 (lv_at hl 2 rfl) ?_
                      refine lv_icmp_gt (tgt := 89) hx hb dX8_matchAll_83 (by decide) (fun c_83 => ?_) (fun c_83 => ?_)
                      ·
                        refine lv_iload hx hb dX8_matchAll_89 (lv_at hl 1 rfl) ?_
                        refine lv_istore_n (lv' := [(2, .int (nI (i))), (6, .int (nI (j))), (5, .int (nI (i))), (4, .int ((bI S i j).2)), (3, .int (irI ((bI S i j).1.map Prod.snd))), (1, .int (0)), (0, .ref (g.ad 12 0))]) hx hb dX8_matchAll_91 rfl hl (by decide) rfl (fun ls hl => ?_)
                        refine lv_iload hx hb dX8_matchAll_92 (lv_at hl 1 rfl) ?_
                        refine lv_istore_n (lv' := [(3, .int (nI (j))), (2, .int (nI (i))), (6, .int (nI (j))), (5, .int (nI (i))), (4, .int ((bI S i j).2)), (1, .int (0)), (0, .ref (g.ad 12 0))]) hx hb dX8_matchAll_94 rfl hl (by decide) rfl (fun ls hl => ?_)
                        refine lv_aload_n hx hb dX8_matchAll_95 rfl (lv_at hl 6 rfl) ?_
                        refine gf_X8_2 hx hb hown hC (RB.dk hR) (zf_X8_21 hC.1) dX8_matchAll_96 ?_
                        refine lv_iload hx hb dX8_matchAll_99 (lv_at hl 3 rfl) ?_
                        refine rc_V (As := [.int (nI (i))]) hx hb hml hown hC hl (c_getLB l E 2 rfl hR (by decide) hlt16) (rec_of hC (RB.ls hR (by decide : 2 < 4)) rfl) (zm_X8_39 hC.1) kv_Jx4a65c_get_915e3 (RB.gp hR 2 (by decide) hlt16) rfl rfl (rwD_le (by decide) (by decide)) ⟨rfl, rfl⟩ (Nat.le_of_ble_eq_true rfl) ⟨Nat.zero_le _, Nat.zero_le _⟩ dX8_matchAll_101 ?_
                        refine g_cast hx hb hown hC (RB.ch hR hlt16) rfl (zc_X8_83 hC.1) dX8_matchAll_104 ?_
                        refine lv_aload_n hx hb dX8_matchAll_107 rfl (lv_at hl 6 rfl) ?_
                        refine gf_X8_3 hx hb hown hC (RB.dk hR) (zf_X8_24 hC.1) dX8_matchAll_108 ?_
                        refine lv_iload hx hb dX8_matchAll_111 (lv_at hl 2 rfl) ?_
                        refine rc_V (As := [.int (nI (j))]) hx hb hml hown hC hl (c_getLB l E 3 rfl hR (by decide) hlt31) (rec_of hC (RB.ls hR (by decide : 3 < 4)) rfl) (zm_X8_39 hC.1) kv_Jx4a65c_get_915e3 (RB.gp hR 3 (by decide) hlt31) rfl rfl (rwD_le (by decide) (by decide)) ⟨rfl, rfl⟩ (Nat.le_of_ble_eq_true rfl) ⟨Nat.zero_le _, Nat.zero_le _⟩ dX8_matchAll_113 ?_
                        refine g_cast hx hb hown hC (RB.re hR hlt31) rfl (zc_X8_121 hC.1) dX8_matchAll_116 ?_
                        refine rc_V (As := [.ref (g.ad 9 (j))]) hx hb hml hown hC hl (c_X7_score l E hI hlt16 (g.ad 9 (j)) (S.ra (j)) (S.rd (j)) (S.rx (j)) (irI (S.ro (j)))) (rec_of hC (RB.ch hR hlt16) rfl) (zm_X8_130 hC.1) kv_X7_score ⟨hR, (RB.re hR hlt31)⟩ rfl rfl (rwD_le (by decide) (by decide)) ⟨rfl, rfl⟩ (Nat.le_of_ble_eq_true rfl) ⟨Nat.zero_le _, Nat.zero_le _⟩ dX8_matchAll_119 ?_
                        refine lv_istore (lv' := [(4, .int (scA S (i) (S.ra (j)) (S.rd (j)) (S.rx (j)))), (3, .int (nI (j))), (2, .int (nI (i))), (6, .int (nI (j))), (5, .int (nI (i))), (1, .int (0)), (0, .ref (g.ad 12 0))]) hx hb dX8_matchAll_122 hl (by decide) rfl (fun ls hl => ?_)
                        refine lv_iinc (v := nI (j) + 1) (lv' := [(6, .int (nI (j) + 1)), (4, .int (scA S (i) (S.ra (j)) (S.rd (j)) (S.rx (j)))), (3, .int (nI (j))), (2, .int (nI (i))), (5, .int (nI (i))), (1, .int (0)), (0, .ref (g.ad 12 0))]) hx hb dX8_matchAll_124 hl (k := 3) rfl rfl (by decide) rfl (fun ls hl => ?_)
                        refine lv_goto (tgt := 31) hx hb dX8_matchAll_127 (by decide) ?_
                        refine ih31 (j + 1) (by omega) ls ?_
                        rw [nI_succ j, bI_c c_51 (i_nle2 c_83)]
                        exact lv_sub hl [0, 4, 1, 2, 3, 5, 6] rfl
                      ·
                        refine lv_goto (tgt := 124) hx hb dX8_matchAll_86 (by decide) ?_
                        refine lv_iinc (v := nI (j) + 1) (lv' := [(6, .int (nI (j) + 1)), (5, .int (nI (i))), (4, .int ((bI S i j).2)), (3, .int (irI ((bI S i j).1.map Prod.snd))), (2, .int (irI ((bI S i j).1.map Prod.fst))), (1, .int (0)), (0, .ref (g.ad 12 0))]) hx hb dX8_matchAll_124 hl (k := 0) rfl rfl (by decide) rfl (fun ls hl => ?_)
                        refine lv_goto (tgt := 31) hx hb dX8_matchAll_127 (by decide) ?_
                        refine ih31 (j + 1) (by omega) ls ?_
                        rw [nI_succ j, bI_b c_51 (i_le2 c_83)]
                        exact lv_sub hl [0, 1, 2, 3, 4, 5, 6] rfl
              refine loop31 (S.nr) 0 (by omega) ls ?_
              rw [bI_0]
              exact lv_sub hl [0, 1, 2, 3, 4, 5, 6] rfl
        exact loop16 (S.nc) 0 (by omega) ls (lv_sub hl [0, 1, 2, 3, 4, 5] rfl)
  exact loop2 31 0 S s.heap [] (Nat.zero_add _) (by rw [hS9]; rfl) (show ¬ (1 : Int32) = 0 by decide) hI hR hS ls (lv_sub hl [0, 1] rfl)
