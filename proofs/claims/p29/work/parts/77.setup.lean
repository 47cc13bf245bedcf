section LAWs
variable {p : Program} {l : Launch} {e : Env} {s : State} {m : MethodId} {args : Array Value} {below : List Frame} {meth : Method} {c : Code} {H : Heap} {locs : List Loc} {cells slots : Nat} {Q : State → Prop}
variable {ls : Array Slot} {E : EE} {b L : Nat} {xs : Nat → Int32} {S : St} {g : Gh} {x1 sa : Nat} {f : Nat → Int32} {P i pe ki : Nat} {x ch : Int32}
/-- a desk being set up: k people, nothing else -/
def Set1 (S : St) (k : Nat) : Prop := Good S ∧ S.np = k ∧ S.nc = 0 ∧ S.nr = 0 ∧ ∀ j, S.tb 1 j = 0 ∧ S.tb 2 j = 0 ∧ S.tb 3 j = 0
def Set2 (S : St) (P q : Nat) : Prop := Good S ∧ S.np = P ∧ S.nc = 0 ∧ S.nr = 0 ∧ ∀ j, (q * 4 ≤ j → S.tb 1 j = 0 ∧ S.tb 3 j = 0) ∧ (q ≤ j → S.tb 2 j = 0)
theorem set_t {S : St} {t j t2 j2 : Nat} {v : Int32} : (setT S t j v).tb t2 j2 = if t2 = t ∧ j2 = j then v else S.tb t2 j2 := by
  show va_up S.tb t (va_up (S.tb t) j v) t2 j2 = _
  by_cases h : t2 = t
  · subst h
    rw [va_up_self]
    by_cases h2 : j2 = j
    · rw [h2, va_up_self, if_pos ⟨rfl, rfl⟩]
    · rw [va_up_ne _ _ h2, if_neg (fun q => h2 q.2)]
  · rw [va_up_ne _ _ h, if_neg (fun q => h q.1)]
theorem n_lim {j B : Nat} (h : j < B) (hB : B ≤ 40000) : 0 ≤ (nI j).toInt ∧ (nI j).toInt < B := by
  rw [nI_toInt (by omega)]
  omega
theorem n_in {j B : Nat} {M : Int32} (h : j < B) (hB : B ≤ 40000) (hM : (B : Int) ≤ M.toInt + 1) : ¬ nI j < 0 ∧ ¬ M < nI j := by
  have e := n_lim h hB
  rw [Int32.lt_iff_toInt_lt, Int32.lt_iff_toInt_lt]
  have z : (0 : Int32).toInt = 0 := rfl
  omega
/-- a person with two limits -/
def perS (S : St) (b : Option Nat) (v w : Nat) : St := setT (setT (addP S b) 0 (S.np * 4 + 0) (nI (2000 + v))) 0 (S.np * 4 + 1) (nI (2000 + w))
theorem n_2000 {v : Nat} (h : v < 7000) : ¬ nI (2000 + v) < 0 ∧ ¬ 9999 < nI (2000 + v) := n_in (B := 9000) (by omega) (by decide) (by decide)
theorem inv_lim {S : St} (h : Inv S) {j v : Nat} (hv : v < 7000) : Inv (setT S 0 j (nI (2000 + v))) := by
  have e := n_lim (j := 2000 + v) (B := 9000) (by omega) (by decide)
  exact h.stT (Or.inl ⟨rfl, e.1, by omega⟩)
theorem good_per1 {S : St} {k : Nat} (h : Set1 S k) (h8 : k < 8) {b : Option Nat} (hb : ∀ j, b = some j → j < k) : Good (addP S b) := by
  obtain ⟨hG, hk, -⟩ := h
  exact hG.adP (hG.1.adP (by omega) (fun j e => by have := hb j e; omega))
theorem good_per2 {S : St} {b : Option Nat} (h : Good (addP S b)) {v : Nat} (hv : v < 7000) : Good (setT (addP S b) 0 (S.np * 4 + 0) (nI (2000 + v))) :=
  h.tb (inv_lim h.1 hv) (fun _ => by show S.np * 4 + 0 < (S.np + 1) * 4; omega)
theorem set_per {S : St} {k : Nat} (h : Set1 S k) (h8 : k < 8) {b : Option Nat} (hb : ∀ j, b = some j → j < k) {v w : Nat} (hv : v < 7000) (hw : w < 7000) : Set1 (perS S b v w) (k + 1) := by
  have g2 := good_per2 (good_per1 h h8 hb) hv
  obtain ⟨hG, hk, hc, hr, ht⟩ := h
  refine ⟨g2.tb (inv_lim g2.1 hw) (fun _ => by show S.np * 4 + 1 < (S.np + 1) * 4; omega), by show S.np + 1 = k + 1; omega, hc, hr, fun j => ?_⟩
  unfold perS
  rw [set_t, set_t, set_t, if_neg (by omega), if_neg (by omega), if_neg (by omega), set_t, set_t, set_t, if_neg (by omega), if_neg (by omega), if_neg (by omega)]
  exact ht j
/-- a kind's plans, its carry and its rate -/
def kinS (S : St) (q a b c d : Nat) : St := setT (setT (setT (setT S 1 (q * 4 + 0) (nI a)) 1 (q * 4 + 1) (nI b)) 2 (q * 1 + 0) (nI c)) 3 (q * 4 + q) (nI d)
theorem good_plan {S : St} (h : Good S) {j v : Nat} (hv : v < 40000) : Good (setT S 1 j (nI v)) :=
  h.tb (h.1.stT (Or.inr (Or.inl ⟨rfl, (n_lim hv (by decide)).1, by have := (n_lim hv (by decide)).2; omega⟩))) (fun e => by cases e)
theorem good_carry {S : St} (h : Good S) {j v : Nat} (hv : v < 101) : Good (setT S 2 j (nI v)) :=
  h.tb (h.1.stT (Or.inr (Or.inr (Or.inl ⟨rfl, (n_lim hv (by decide)).1, by have := (n_lim hv (by decide)).2; omega⟩)))) (fun e => by cases e)
theorem good_rate {S : St} (h : Good S) {j v : Nat} (hv : v < 31) : Good (setT S 3 j (nI v)) :=
  h.tb (h.1.stT (Or.inr (Or.inr (Or.inr ⟨rfl, (n_lim hv (by decide)).1, by have := (n_lim hv (by decide)).2; omega⟩)))) (fun e => by cases e)
theorem set_kin {S : St} {P q : Nat} (h : Set2 S P q) (hq : q < 2) {a b c d : Nat} (ha : a < 40000) (hb : b < 40000) (hc9 : c < 101) (hd : d < 31) : Set2 (kinS S q a b c d) P (q + 1) := by
  obtain ⟨hG, hk, hc, hr, ht⟩ := h
  refine ⟨good_rate (good_carry (good_plan (good_plan hG ha) hb) hc9) hd, hk, hc, hr, fun j => ⟨fun hj => ?_, fun hj => ?_⟩⟩
  · have e := (ht j).1 (by omega)
    unfold kinS
    rw [set_t, set_t, set_t, set_t, if_neg (by omega), if_neg (by omega), if_neg (by omega), if_neg (by omega), set_t, set_t, set_t, set_t, if_neg (by omega), if_neg (by omega), if_neg (by omega), if_neg (by omega)]
    exact e
  · have e := (ht j).2 (by omega)
    unfold kinS
    rw [set_t, set_t, set_t, set_t, if_neg (by omega), if_neg (by omega), if_neg (by omega), if_neg (by omega)]
    exact e
theorem fine_set {S : St} {P q : Nat} (h : Set2 S P q) : Fine S := by
  obtain ⟨hG, hk, hc, hr, ht⟩ := h
  refine ⟨hG, fun c r h1 _ => ?_, ⟨fun c r h1 _ => ?_, fun r c h1 _ => ?_⟩, fun c h1 => ?_, fun c h1 _ => ?_, fun r h1 => ?_⟩
  all_goals (first | (rw [hc] at h1; exact absurd h1 (Nat.not_lt_zero _)) | (rw [hr] at h1; exact absurd h1 (Nat.not_lt_zero _)))
theorem set_12 {S : St} {P : Nat} (h : Set1 S P) : Set2 S P 0 := ⟨h.1, h.2.1, h.2.2.1, h.2.2.2.1, fun j => ⟨fun _ => ⟨(h.2.2.2.2 j).1, (h.2.2.2.2 j).2.2⟩, fun _ => (h.2.2.2.2 j).2.1⟩⟩
theorem set_0 : Set1 S0 0 := ⟨good_0, rfl, rfl, rfl, fun j => ⟨rfl, rfl, rfl⟩⟩
set_option maxRecDepth 100000 in
set_option maxHeartbeats 4000000 in
theorem law_per (hLC : LC p s m c E b L xs) {k : Nat} (hT : Set1 S k) (hk : k < 7) (hLI : LI E S g x1 [] H) (hS : va_S (LA s) s.heap H locs) (hl : lv_has ls 24 ((3, .int (nI k)) :: [(2, .int (nI P)), (1, .ref x1), (0, .ref b)])) (hcs : cells + 10 ≤ 682005 ∧ slots + 300 ≤ 7055682) (kk : ∀ (S2 : St) (g2 : Gh) (H2 : Heap) (locs2 : List Loc) (ls2 : Array Slot), Set1 S2 (k + 1) → LI E S2 g2 x1 [] H2 → va_S (LA s) s.heap H2 locs2 → lv_has ls2 24 ((3, .int (nI k)) :: [(2, .int (nI P)), (1, .ref x1), (0, .ref b)]) → W p l e room_1 s m args below meth c H2 locs2 (cells + 2 + 2 + 2) (slots + 60 + 60 + 60) Q (F0 m 103 ls2 [])) : W p l e room_1 s m args below meth c H locs cells slots Q (F0 m 28 ls []) := by
  obtain ⟨hx, hb, hml, hown, hY, hX0, hX, hbl, hN, hL⟩ := id hLC
  have hC : CX E s := hY.1
  have hF : (Inv S ∧ True) ∧ True := ⟨⟨hT.1.1, trivial⟩, trivial⟩
  have hnp : S.np = k := hT.2.1
  refine lv_aload_n hx hb dL_law_28 rfl (lv_at hl 2 rfl) ?_
  refine lv_aload_n hx hb dL_law_29 rfl (lv_at hl 3 rfl) ?_
  refine lv_iload_n hx hb dL_law_30 rfl (lv_at hl 0 rfl) ?_
  refine wl_cell (k := k) hLC hS hl (by omega) (Nat.le_of_ble_eq_true rfl) ⟨by omega, by omega⟩ dL_law_31 (fun v31 => ?_)
  refine lv_iload_n hx hb dL_law_34 rfl (lv_at hl 0 rfl) ?_
  refine lv_iconst (v := 1) hx hb dL_law_35 (by decide) ?_
  refine lv_iadd hx hb dL_law_36 ?_
  rw [show nI k + (1 : Int32) = nI (k + 1) from nI_add k 1]
  refine wl_below (n := k + 1) hLC hl (by omega) (by omega) (Nat.le_of_ble_eq_true rfl) ⟨by omega, by omega⟩ dL_law_37 ?_
  refine lv_iconst (v := 1) hx hb dL_law_40 (by decide) ?_
  obtain ⟨j, hj, ej⟩ : ∃ j, j < k + 1 ∧ belN v31 (k + 1) = j := ⟨_, belN_lt (by omega) (by omega), rfl⟩
  rw [show belN (v31) (k + 1) = j from ej]
  refine lv_isub hx hb dL_law_41 ?_
  have jper : ∀ (bo : Option Nat) (g2 : Gh) (H : Heap) (locs : List Loc), (∀ i, bo = some i → i < k) → LI E (addP S bo) g2 x1 [] H → va_S (LA s) s.heap H locs → W p l e room_1 s m args below meth c H locs (cells + 2) (slots + 60) Q (F0 m 45 ls [.int (nI S.np)]) := by
    intro bo g H locs hbo hLI hS
    have hG1 := good_per1 hT (by omega) hbo
    refine lv_iload_n hx hb dL_law_45 rfl (lv_at hl 0 rfl) ?_
    refine lv_icmp_ne (tgt := 101) hx hb dL_law_46 (by decide) (fun c_46 => ?_) (fun c_46 => ?_)
    · exact absurd (show nI S.np = nI k by rw [hnp]) c_46
    ·
      refine lv_aload_n hx hb dL_law_49 rfl (lv_at hl 2 rfl) ?_
      refine lv_iload_n hx hb dL_law_50 rfl (lv_at hl 0 rfl) ?_
      refine lv_iconst (v := 0) hx hb dL_law_51 (by decide) ?_
      refine lv_sipush (v := 2000) hx hb dL_law_52 (by decide) ?_
      refine lv_aload_n hx hb dL_law_55 rfl (lv_at hl 3 rfl) ?_
      refine lv_iload_n hx hb dL_law_56 rfl (lv_at hl 0 rfl) ?_
      refine lv_iconst (v := 1) hx hb dL_law_57 (by decide) ?_
      refine lv_iadd hx hb dL_law_58 ?_
      rw [show nI k + (1 : Int32) = nI (k + 1) from nI_add k 1]
      refine wl_cell (k := k + 1) hLC hS hl (by omega) (Nat.le_of_ble_eq_true rfl) ⟨by omega, by omega⟩ dL_law_59 (fun v59 => ?_)
      refine lv_sipush (v := 7000) hx hb dL_law_62 (by decide) ?_
      refine wl_below (n := 7000) hLC hl (by decide) (by decide) (Nat.le_of_ble_eq_true rfl) ⟨by omega, by omega⟩ dL_law_65 ?_
      obtain ⟨v, hv, ev⟩ : ∃ j, j < 7000 ∧ belN v59 7000 = j := ⟨_, belN_lt (by decide) (by decide), rfl⟩
      rw [ev]
      refine lv_iadd hx hb dL_law_68 ?_
      rw [show (2000 : Int32) + nI v = nI (2000 + v) from nI_add 2000 v]
      refine wl_wr (S' := setT (addP S bo) 0 (S.np * 4 + 0) (nI (2000 + v))) (a := (addP S bo).tb 0 (S.np * 4 + 0)) (As := [.int (nI k), .int (nI 0), .int (nI (2000 + v))]) hLC hLI hS hl (by rw [← hnp]; exact wm_A (c_X6_limit l E hG1.1 (p9 := S.np) (Nat.lt_succ_self _) (k9 := 0) (by decide) (n_2000 hv).1 (n_2000 hv).2)) (zm_L_26 hC.1) kv_X6_limit rfl rfl ⟨Nat.le_of_ble_eq_true rfl, Nat.le_of_ble_eq_true rfl⟩ ⟨Nat.le_of_ble_eq_true rfl, Nat.le_of_ble_eq_true rfl⟩ (Nat.le_of_ble_eq_true rfl) ⟨by omega, by omega⟩ dL_law_69 (fun g H locs hLI hS => ?_)
      rw [show (addP S bo).tb 0 (S.np * 4 + 0) = 0 from hT.1.2.1 _ (by omega)]
      have hG2 := good_per2 hG1 hv
      refine lv_if_ne (tgt := 101) hx hb dL_law_72 (by decide) (fun c_72 => ?_) (fun c_72 => ?_)
      · exact absurd (by decide) c_72
      ·
        refine lv_aload_n hx hb dL_law_75 rfl (lv_at hl 2 rfl) ?_
        refine lv_iload_n hx hb dL_law_76 rfl (lv_at hl 0 rfl) ?_
        refine lv_iconst (v := 1) hx hb dL_law_77 (by decide) ?_
        refine lv_sipush (v := 2000) hx hb dL_law_78 (by decide) ?_
        refine lv_aload_n hx hb dL_law_81 rfl (lv_at hl 3 rfl) ?_
        refine lv_iload_n hx hb dL_law_82 rfl (lv_at hl 0 rfl) ?_
        refine lv_iconst (v := 2) hx hb dL_law_83 (by decide) ?_
        refine lv_iadd hx hb dL_law_84 ?_
        rw [show nI k + (2 : Int32) = nI (k + 2) from nI_add k 2]
        refine wl_cell (k := k + 2) hLC hS hl (by omega) (Nat.le_of_ble_eq_true rfl) ⟨by omega, by omega⟩ dL_law_85 (fun v85 => ?_)
        refine lv_sipush (v := 7000) hx hb dL_law_88 (by decide) ?_
        refine wl_below (n := 7000) hLC hl (by decide) (by decide) (Nat.le_of_ble_eq_true rfl) ⟨by omega, by omega⟩ dL_law_91 ?_
        obtain ⟨w, hw, ew⟩ : ∃ j, j < 7000 ∧ belN v85 7000 = j := ⟨_, belN_lt (by decide) (by decide), rfl⟩
        rw [ew]
        refine lv_iadd hx hb dL_law_94 ?_
        rw [show (2000 : Int32) + nI w = nI (2000 + w) from nI_add 2000 w]
        refine wl_wr (S' := perS S bo v w) (a := (setT (addP S bo) 0 (S.np * 4 + 0) (nI (2000 + v))).tb 0 (S.np * 4 + 1)) (As := [.int (nI k), .int (nI 1), .int (nI (2000 + w))]) hLC hLI hS hl (by rw [← hnp]; exact wm_A (c_X6_limit l E hG2.1 (p9 := S.np) (Nat.lt_succ_self _) (k9 := 1) (by decide) (n_2000 hw).1 (n_2000 hw).2)) (zm_L_26 hC.1) kv_X6_limit rfl rfl ⟨Nat.le_of_ble_eq_true rfl, Nat.le_of_ble_eq_true rfl⟩ ⟨Nat.le_of_ble_eq_true rfl, Nat.le_of_ble_eq_true rfl⟩ (Nat.le_of_ble_eq_true rfl) ⟨by omega, by omega⟩ dL_law_95 (fun g H locs hLI hS => ?_)
        rw [set_t, if_neg (by omega), show (addP S bo).tb 0 (S.np * 4 + 1) = 0 from hT.1.2.1 _ (by omega)]
        refine lv_if_eq (tgt := 103) hx hb dL_law_98 (by decide) (fun c_98 => ?_) (fun c_98 => ?_)
        ·
          exact kk (perS S bo v w) g H locs ls (set_per hT (by omega) hbo hv hw) hLI hS hl
        · exact absurd (by decide) c_98
  rcases j with _ | j
  · rw [show nI 0 - (1 : Int32) = -1 from rfl]
    refine wl_wr (S' := addP S none) (As := [.int (-1)]) hLC hLI hS hl (c_X6_person0 l E hT.1.1 (by omega)) (zm_L_22 hC.1) kv_X6_person rfl rfl ⟨Nat.le_of_ble_eq_true rfl, Nat.le_of_ble_eq_true rfl⟩ ⟨Nat.le_of_ble_eq_true rfl, Nat.le_of_ble_eq_true rfl⟩ (Nat.le_of_ble_eq_true rfl) ⟨by omega, by omega⟩ dL_law_42 (fun g2 H2 locs2 hLI hS => ?_)
    exact jper none g2 H2 locs2 (fun i e => by cases e) hLI hS
  · rw [nI_pred j]
    refine wl_wr (S' := addP S (some j)) (As := [.int (nI j)]) hLC hLI hS hl (c_X6_person1 l E hT.1.1 (p9 := j) (by omega) (by omega)) (zm_L_22 hC.1) kv_X6_person rfl rfl ⟨Nat.le_of_ble_eq_true rfl, Nat.le_of_ble_eq_true rfl⟩ ⟨Nat.le_of_ble_eq_true rfl, Nat.le_of_ble_eq_true rfl⟩ (Nat.le_of_ble_eq_true rfl) ⟨by omega, by omega⟩ dL_law_42 (fun g2 H2 locs2 hLI hS => ?_)
    exact jper (some j) g2 H2 locs2 (fun i e => by cases e; omega) hLI hS
set_option maxRecDepth 100000 in
set_option maxHeartbeats 4000000 in
theorem law_kin (hLC : LC p s m c E b L xs) {k : Nat} (hT : Set2 S P k) (hk : k < 2) (hLI : LI E S g x1 [] H) (hS : va_S (LA s) s.heap H locs) (hl : lv_has ls 24 ((3, .int (nI k)) :: [(2, .int (nI P)), (1, .ref x1), (0, .ref b)])) (hcs : cells + 10 ≤ 682005 ∧ slots + 300 ≤ 7055682) (kk : ∀ (S2 : St) (g2 : Gh) (H2 : Heap) (locs2 : List Loc) (ls2 : Array Slot), Set2 S2 P (k + 1) → LI E S2 g2 x1 [] H2 → va_S (LA s) s.heap H2 locs2 → lv_has ls2 24 ((3, .int (nI k)) :: [(2, .int (nI P)), (1, .ref x1), (0, .ref b)]) → W p l e room_1 s m args below meth c H2 locs2 (cells + 2 + 2 + 2 + 2) (slots + 60 + 60 + 60 + 60) Q (F0 m 204 ls2 [])) : W p l e room_1 s m args below meth c H locs cells slots Q (F0 m 116 ls []) := by
  obtain ⟨hx, hb, hml, hown, hY, hX0, hX, hbl, hN, hL⟩ := id hLC
  have hC : CX E s := hY.1
  refine lv_aload_n hx hb dL_law_116 rfl (lv_at hl 2 rfl) ?_
  refine lv_iload_n hx hb dL_law_117 rfl (lv_at hl 0 rfl) ?_
  refine lv_iconst (v := 0) hx hb dL_law_118 (by decide) ?_
  refine lv_aload_n hx hb dL_law_119 rfl (lv_at hl 3 rfl) ?_
  refine lv_iload_n hx hb dL_law_120 rfl (lv_at hl 0 rfl) ?_
  refine wl_cell (k := k) hLC hS hl (by omega) (Nat.le_of_ble_eq_true rfl) ⟨by omega, by omega⟩ dL_law_121 (fun v121 => ?_)
  refine lv_iconst (v := 2) hx hb dL_law_124 (by decide) ?_
  refine lv_ishr hx hb dL_law_125 ?_
  refine lv_ldc hx hb hown (zC_L_30 hC.1) dL_law_126 ?_
  refine wl_below (n := 40000) hLC hl (by decide) (by decide) (Nat.le_of_ble_eq_true rfl) ⟨by omega, by omega⟩ dL_law_128 ?_
  obtain ⟨ta, hta, eta⟩ : ∃ j, j < 40000 ∧ belN ((v121) >>> ((2) &&& 31)) 40000 = j := ⟨_, belN_lt (by decide) (by decide), rfl⟩
  rw [eta]
  refine wl_wr (S' := setT S 1 (k * 4 + 0) (nI ta)) (As := [.int (nI k), .int (nI 0), .int (nI ta)]) hLC hLI hS hl (wm_A (c_X6_plan l E hT.1.1 (k9 := k) (Nat.lt_trans hk (by decide)) (per9 := 0) (by decide) (n_in (M := 99999) hta (by decide) (by decide)).1 (n_in (M := 99999) hta (by decide) (by decide)).2)) (zm_L_31 hC.1) kv_X6_plan rfl rfl ⟨Nat.le_of_ble_eq_true rfl, Nat.le_of_ble_eq_true rfl⟩ ⟨Nat.le_of_ble_eq_true rfl, Nat.le_of_ble_eq_true rfl⟩ (Nat.le_of_ble_eq_true rfl) ⟨by omega, by omega⟩ dL_law_131 (fun g H locs hLI hS => ?_)
  rw [show S.tb 1 (k * 4 + 0) = 0 from ((hT.2.2.2.2 _).1 (by omega)).1]
  have g1 := good_plan hT.1 (j := k * 4 + 0) hta
  refine lv_if_ne (tgt := 202) hx hb dL_law_134 (by decide) (fun c_134 => ?_) (fun c_134 => ?_)
  · exact absurd (by decide) c_134
  ·
    refine lv_aload_n hx hb dL_law_137 rfl (lv_at hl 2 rfl) ?_
    refine lv_iload_n hx hb dL_law_138 rfl (lv_at hl 0 rfl) ?_
    refine lv_iconst (v := 1) hx hb dL_law_139 (by decide) ?_
    refine lv_aload_n hx hb dL_law_140 rfl (lv_at hl 3 rfl) ?_
    refine lv_iload_n hx hb dL_law_141 rfl (lv_at hl 0 rfl) ?_
    refine lv_iconst (v := 3) hx hb dL_law_142 (by decide) ?_
    refine lv_iadd hx hb dL_law_143 ?_
    rw [show nI k + (3 : Int32) = nI (k + 3) from nI_add k 3]
    refine wl_cell (k := k + 3) hLC hS hl (by omega) (Nat.le_of_ble_eq_true rfl) ⟨by omega, by omega⟩ dL_law_144 (fun v144 => ?_)
    refine lv_iconst (v := 2) hx hb dL_law_147 (by decide) ?_
    refine lv_ishr hx hb dL_law_148 ?_
    refine lv_ldc hx hb hown (zC_L_30 hC.1) dL_law_149 ?_
    refine wl_below (n := 40000) hLC hl (by decide) (by decide) (Nat.le_of_ble_eq_true rfl) ⟨by omega, by omega⟩ dL_law_151 ?_
    obtain ⟨tb, htb, etb⟩ : ∃ j, j < 40000 ∧ belN ((v144) >>> ((2) &&& 31)) 40000 = j := ⟨_, belN_lt (by decide) (by decide), rfl⟩
    rw [etb]
    refine wl_wr (S' := setT (setT S 1 (k * 4 + 0) (nI ta)) 1 (k * 4 + 1) (nI tb)) (As := [.int (nI k), .int (nI 1), .int (nI tb)]) hLC hLI hS hl (wm_A (c_X6_plan l E g1.1 (k9 := k) (Nat.lt_trans hk (by decide)) (per9 := 1) (by decide) (n_in (M := 99999) htb (by decide) (by decide)).1 (n_in (M := 99999) htb (by decide) (by decide)).2)) (zm_L_31 hC.1) kv_X6_plan rfl rfl ⟨Nat.le_of_ble_eq_true rfl, Nat.le_of_ble_eq_true rfl⟩ ⟨Nat.le_of_ble_eq_true rfl, Nat.le_of_ble_eq_true rfl⟩ (Nat.le_of_ble_eq_true rfl) ⟨by omega, by omega⟩ dL_law_154 (fun g H locs hLI hS => ?_)
    rw [set_t, if_neg (by omega), show S.tb 1 (k * 4 + 1) = 0 from ((hT.2.2.2.2 _).1 (by omega)).1]
    have g2 := good_plan g1 (j := k * 4 + 1) htb
    refine lv_if_ne (tgt := 202) hx hb dL_law_157 (by decide) (fun c_157 => ?_) (fun c_157 => ?_)
    · exact absurd (by decide) c_157
    ·
      refine lv_aload_n hx hb dL_law_160 rfl (lv_at hl 2 rfl) ?_
      refine lv_iload_n hx hb dL_law_161 rfl (lv_at hl 0 rfl) ?_
      refine lv_aload_n hx hb dL_law_162 rfl (lv_at hl 3 rfl) ?_
      refine lv_iload_n hx hb dL_law_163 rfl (lv_at hl 0 rfl) ?_
      refine lv_iconst (v := 5) hx hb dL_law_164 (by decide) ?_
      refine lv_iadd hx hb dL_law_165 ?_
      rw [show nI k + (5 : Int32) = nI (k + 5) from nI_add k 5]
      refine wl_cell (k := k + 5) hLC hS hl (by omega) (Nat.le_of_ble_eq_true rfl) ⟨by omega, by omega⟩ dL_law_166 (fun v166 => ?_)
      refine lv_bipush (v := 101) hx hb dL_law_169 (by decide) ?_
      refine wl_below (n := 101) hLC hl (by decide) (by decide) (Nat.le_of_ble_eq_true rfl) ⟨by omega, by omega⟩ dL_law_171 ?_
      obtain ⟨tc, htc, etc⟩ : ∃ j, j < 101 ∧ belN (v166) 101 = j := ⟨_, belN_lt (by decide) (by decide), rfl⟩
      rw [etc]
      refine wl_wr (S' := setT (setT (setT S 1 (k * 4 + 0) (nI ta)) 1 (k * 4 + 1) (nI tb)) 2 (k * 1 + 0) (nI tc)) (As := [.int (nI k), .int (nI tc)]) hLC hLI hS hl (wm_A (c_X6_carry l E g2.1 (k9 := k) (Nat.lt_trans hk (by decide)) (n_in (M := 100) htc (by decide) (by decide)).1 (n_in (M := 100) htc (by decide) (by decide)).2)) (zm_L_34 hC.1) kv_X6_carry rfl rfl ⟨Nat.le_of_ble_eq_true rfl, Nat.le_of_ble_eq_true rfl⟩ ⟨Nat.le_of_ble_eq_true rfl, Nat.le_of_ble_eq_true rfl⟩ (Nat.le_of_ble_eq_true rfl) ⟨by omega, by omega⟩ dL_law_174 (fun g H locs hLI hS => ?_)
      rw [set_t, if_neg (by omega), set_t, if_neg (by omega), show S.tb 2 (k * 1 + 0) = 0 from (hT.2.2.2.2 _).2 (by omega)]
      have g3 := good_carry g2 (j := k * 1 + 0) htc
      refine lv_if_ne (tgt := 202) hx hb dL_law_177 (by decide) (fun c_177 => ?_) (fun c_177 => ?_)
      · exact absurd (by decide) c_177
      ·
        refine lv_aload_n hx hb dL_law_180 rfl (lv_at hl 2 rfl) ?_
        refine lv_iload_n hx hb dL_law_181 rfl (lv_at hl 0 rfl) ?_
        refine lv_iload_n hx hb dL_law_182 rfl (lv_at hl 0 rfl) ?_
        refine lv_aload_n hx hb dL_law_183 rfl (lv_at hl 3 rfl) ?_
        refine lv_iload_n hx hb dL_law_184 rfl (lv_at hl 0 rfl) ?_
        refine lv_bipush (v := 6) hx hb dL_law_185 (by decide) ?_
        refine lv_iadd hx hb dL_law_187 ?_
        rw [show nI k + (6 : Int32) = nI (k + 6) from nI_add k 6]
        refine wl_cell (k := k + 6) hLC hS hl (by omega) (Nat.le_of_ble_eq_true rfl) ⟨by omega, by omega⟩ dL_law_188 (fun v188 => ?_)
        refine lv_bipush (v := 31) hx hb dL_law_191 (by decide) ?_
        refine wl_below (n := 31) hLC hl (by decide) (by decide) (Nat.le_of_ble_eq_true rfl) ⟨by omega, by omega⟩ dL_law_193 ?_
        obtain ⟨td, htd, etd⟩ : ∃ j, j < 31 ∧ belN (v188) 31 = j := ⟨_, belN_lt (by decide) (by decide), rfl⟩
        rw [etd]
        refine wl_wr (S' := kinS S k ta tb tc td) (As := [.int (nI k), .int (nI k), .int (nI td)]) hLC hLI hS hl (wm_A (c_X6_rate l E g3.1 (l9 := k) (Nat.lt_trans hk (by decide)) (k9 := k) (Nat.lt_trans hk (by decide)) (n_in (M := 30) htd (by decide) (by decide)).1 (n_in (M := 30) htd (by decide) (by decide)).2)) (zm_L_37 hC.1) kv_X6_rate rfl rfl ⟨Nat.le_of_ble_eq_true rfl, Nat.le_of_ble_eq_true rfl⟩ ⟨Nat.le_of_ble_eq_true rfl, Nat.le_of_ble_eq_true rfl⟩ (Nat.le_of_ble_eq_true rfl) ⟨by omega, by omega⟩ dL_law_196 (fun g H locs hLI hS => ?_)
        rw [set_t, if_neg (by omega), set_t, if_neg (by omega), set_t, if_neg (by omega), show S.tb 3 (k * 4 + k) = 0 from ((hT.2.2.2.2 _).1 (by omega)).2]
        refine lv_if_eq (tgt := 204) hx hb dL_law_199 (by decide) (fun c_199 => ?_) (fun c_199 => ?_)
        ·
          exact kk (kinS S k ta tb tc td) g H locs ls (set_kin hT hk hta htb htc htd) hLI hS hl
        · exact absurd (by decide) c_199
set_option maxRecDepth 100000 in
set_option maxHeartbeats 4000000 in
theorem law_people (hLC : LC p s m c E b L xs) (hP8 : P ≤ 7) (kk : ∀ (S : St) (g : Gh) (H : Heap) (locs : List Loc) (ls : Array Slot) (cells slots : Nat), Set1 S P → LI E S g x1 [] H → va_S (LA s) s.heap H locs → lv_has ls 24 [(2, .int (nI P)), (1, .ref x1), (0, .ref b)] → (cells ≤ 200 ∧ slots ≤ 4000) → W p l e room_1 s m args below meth c H locs cells slots Q (F0 m 109 ls [])) : ∀ (r k : Nat) (S : St) (g : Gh) (H : Heap) (locs : List Loc) (ls : Array Slot) (cells slots : Nat), k + r = P → Set1 S k → LI E S g x1 [] H → va_S (LA s) s.heap H locs → lv_has ls 24 ((3, .int (nI k)) :: [(2, .int (nI P)), (1, .ref x1), (0, .ref b)]) → (cells + 10 * r ≤ 200 ∧ slots + 300 * r ≤ 4000) → W p l e room_1 s m args below meth c H locs cells slots Q (F0 m 23 ls []) := by
  obtain ⟨hx, hb, hml, hown, hY, hX0, hX, hbl, hN, hL⟩ := id hLC
  have hC : CX E s := hY.1
  intro r
  induction r with
  | zero =>
    intro k S g H locs ls cells slots hE hT hLI hS hl hcs
    have hN : k = P := by omega
    subst hN
    refine lv_iload_n hx hb dL_law_23 rfl (lv_at hl 0 rfl) ?_
    refine lv_iload_n hx hb dL_law_24 rfl (lv_at hl 1 rfl) ?_
    refine lv_icmp_ge (tgt := 109) hx hb dL_law_25 (by decide) (fun c_25 => ?_) (fun c_25 => ?_)
    · exact kk S g H locs ls cells slots hT hLI hS (lv_sub hl [1, 2, 3] rfl) ⟨by omega, by omega⟩
    · exact absurd (Int32.le_refl _) c_25
  | succ r ih =>
    intro k S g H locs ls cells slots hE hT hLI hS hl hcs
    have hk : k < P := by omega
    refine lv_iload_n hx hb dL_law_23 rfl (lv_at hl 0 rfl) ?_
    refine lv_iload_n hx hb dL_law_24 rfl (lv_at hl 1 rfl) ?_
    refine lv_icmp_ge (tgt := 109) hx hb dL_law_25 (by decide) (fun c_25 => ?_) (fun c_25 => ?_)
    · exact absurd c_25 (nI_ge hk (by omega))
    · refine law_per hLC hT (by omega) hLI hS hl ⟨by omega, by omega⟩ (fun S2 g2 H2 locs2 ls2 hT hLI hS hl => ?_)
      refine lv_iinc (v := nI k + 1) (lv' := (3, .int (nI k + 1)) :: [(2, .int (nI P)), (1, .ref x1), (0, .ref b)]) hx hb dL_law_103 hl (k := 0) rfl rfl (by decide) rfl (fun ls hl => ?_)
      refine lv_goto (tgt := 23) hx hb dL_law_106 (by decide) ?_
      refine ih (k + 1) S2 g2 H2 locs2 ls _ _ (by omega) hT hLI hS ?_ ⟨by omega, by omega⟩
      rw [nI_succ k]
      exact hl
set_option maxRecDepth 100000 in
set_option maxHeartbeats 4000000 in
theorem law_kinds (hLC : LC p s m c E b L xs) (kk : ∀ (S : St) (g : Gh) (H : Heap) (locs : List Loc) (ls : Array Slot) (cells slots : Nat), Set2 S P 2 → LI E S g x1 [] H → va_S (LA s) s.heap H locs → lv_has ls 24 [(2, .int (nI P)), (1, .ref x1), (0, .ref b)] → (cells ≤ 300 ∧ slots ≤ 8000) → W p l e room_1 s m args below meth c H locs cells slots Q (F0 m 210 ls [])) : ∀ (r k : Nat) (S : St) (g : Gh) (H : Heap) (locs : List Loc) (ls : Array Slot) (cells slots : Nat), k + r = 2 → Set2 S P k → LI E S g x1 [] H → va_S (LA s) s.heap H locs → lv_has ls 24 ((3, .int (nI k)) :: [(2, .int (nI P)), (1, .ref x1), (0, .ref b)]) → (cells + 10 * r ≤ 300 ∧ slots + 300 * r ≤ 8000) → W p l e room_1 s m args below meth c H locs cells slots Q (F0 m 111 ls []) := by
  obtain ⟨hx, hb, hml, hown, hY, hX0, hX, hbl, hN, hL⟩ := id hLC
  have hC : CX E s := hY.1
  intro r
  induction r with
  | zero =>
    intro k S g H locs ls cells slots hE hT hLI hS hl hcs
    have hN : k = 2 := by omega
    subst hN
    refine lv_iload_n hx hb dL_law_111 rfl (lv_at hl 0 rfl) ?_
    refine lv_iconst (v := 2) hx hb dL_law_112 (by decide) ?_
    refine lv_icmp_ge (tgt := 210) hx hb dL_law_113 (by decide) (fun c_113 => ?_) (fun c_113 => ?_)
    · exact kk S g H locs ls cells slots hT hLI hS (lv_sub hl [1, 2, 3] rfl) ⟨by omega, by omega⟩
    · exact absurd (by decide) c_113
  | succ r ih =>
    intro k S g H locs ls cells slots hE hT hLI hS hl hcs
    have hk : k < 2 := by omega
    refine lv_iload_n hx hb dL_law_111 rfl (lv_at hl 0 rfl) ?_
    refine lv_iconst (v := 2) hx hb dL_law_112 (by decide) ?_
    refine lv_icmp_ge (tgt := 210) hx hb dL_law_113 (by decide) (fun c_113 => ?_) (fun c_113 => ?_)
    · exact absurd c_113 (show ¬ (2 : Int32) ≤ nI k from nI_ge (b := 2) hk (by decide))
    · refine law_kin hLC hT hk hLI hS hl ⟨by omega, by omega⟩ (fun S2 g2 H2 locs2 ls2 hT hLI hS hl => ?_)
      refine lv_iinc (v := nI k + 1) (lv' := (3, .int (nI k + 1)) :: [(2, .int (nI P)), (1, .ref x1), (0, .ref b)]) hx hb dL_law_204 hl (k := 0) rfl rfl (by decide) rfl (fun ls hl => ?_)
      refine lv_goto (tgt := 111) hx hb dL_law_207 (by decide) ?_
      refine ih (k + 1) S2 g2 H2 locs2 ls _ _ (by omega) hT hLI hS ?_ ⟨by omega, by omega⟩
      rw [nI_succ k]
      exact hl
end LAWs
