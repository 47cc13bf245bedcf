/-! a call on both sides: the same answers, and the same state after it -/
theorem argN {n : Nat} (hn : n < 2 ^ 31) (v : Int32) : (v < 0 ∨ nI n ≤ v) ∨ ∃ k, k < n ∧ v = nI k := by
  by_cases h : v < 0
  · exact Or.inl (Or.inl h)
  · by_cases h2 : nI n ≤ v
    · exact Or.inl (Or.inr h2)
    · refine Or.inr ⟨v.toInt.toNat, ?_, ?_⟩
      · have e := nI_toInt hn
        rw [Int32.lt_iff_toInt_lt] at h
        rw [Int32.le_iff_toInt_le, e] at h2
        have : (0 : Int32).toInt = 0 := rfl
        omega
      · rw [Int32.lt_iff_toInt_lt] at h
        have h0 : (0 : Int32).toInt = 0 := rfl
        have hb : v.toInt < 2 ^ 31 := v.toInt_lt
        apply Int32.toInt_inj.mp
        rw [nI_toInt (n := v.toInt.toNat) (by omega)]
        omega
theorem argK (v : Int32) : (v < 0 ∨ 4 ≤ v) ∨ ∃ k, k < 4 ∧ v = nI k := argN (n := 4) (by decide) v
theorem argL (v : Int32) : (v < 0 ∨ 3 ≤ v) ∨ ∃ k, k < 3 ∧ v = nI k := argN (n := 3) (by decide) v
theorem argR (v a b : Int32) : (v < a ∨ b < v) ∨ (¬ v < a ∧ ¬ b < v) := by
  by_cases h : v < a
  · exact Or.inl (Or.inl h)
  · by_cases h2 : b < v
    · exact Or.inl (Or.inr h2)
    · exact Or.inr ⟨h, h2⟩
theorem argW (n : Nat) (hn : n < 2 ^ 20) (v : Int32) : (v < 0 ∨ nI n < v) ∨ ((¬ v < 0 ∧ ¬ nI n < v) ∧ ∃ k, k < n + 1 ∧ v = nI k) := by
  rcases argN (n := n + 1) (by omega) v with h | ⟨k, hk, rfl⟩
  · refine Or.inl (h.imp_right fun h2 => ?_)
    rw [Int32.le_iff_toInt_le, nI_toInt (by omega)] at h2
    rw [Int32.lt_iff_toInt_lt, nI_toInt (by omega)]
    omega
  · refine Or.inr ⟨⟨fun h => ?_, fun h => ?_⟩, k, hk, rfl⟩
    · rw [Int32.lt_iff_toInt_lt, nI_toInt (by omega)] at h
      have h0 : (0 : Int32).toInt = 0 := rfl
      omega
    · rw [Int32.lt_iff_toInt_lt, nI_toInt (by omega), nI_toInt (by omega)] at h
      omega
theorem rng0 {v b : Int32} (h1 : ¬ v < 0) (h2 : ¬ b < v) : 0 ≤ v.toInt ∧ v.toInt ≤ b.toInt := by
  rw [Int32.lt_iff_toInt_lt] at h1 h2
  have h0 : (0 : Int32).toInt = 0 := rfl
  omega
def RefM (l : Launch) (E : EE) (y : MethodName) (b : ByteArray) (n : Nat) (ret : FieldType) (as : List Value) (S S' : St) (code b' : Int32) : Prop :=
  ∃ rm : Room, (rm.frames ≤ 8 ∧ rm.locals ≤ 352 ∧ rm.cells ≤ 3 ∧ rm.slots ≤ 90) ∧ ∀ (th : Int32) (g : Gh), WM l E y b n (some ret) rm (.ref (g.ad 1 0) :: as) (RB E S th g) (ow g) (fun sz v H => (∃ g1, RB E S' code g1 H ∧ gX g g1 sz H.size) ∧ v = some (.int b'))
theorem refm_of {l : Launch} {E : EE} {y : MethodName} {b : ByteArray} {n c s : Nat} {ret : FieldType} {as : List Value} {S S' : St} {code b' : Int32} (hc : c ≤ 3) (hs : s ≤ 90) (h : ∀ (th : Int32) (g : Gh), WM l E y b n (some ret) (wD 8 c s) (.ref (g.ad 1 0) :: as) (RB E S th g) (ow g) (fun _ v H => RB E S' code g H ∧ v = some (.int b'))) : RefM l E y b n ret as S S' code b' :=
  ⟨_, ⟨Nat.le_refl _, Nat.le_refl _, hc, hs⟩, fun th g => wm_weak (h th g) (fun sz v H hp => ⟨⟨g, hp.1, gX.refl g _ _⟩, hp.2⟩)⟩
theorem refm_ofG {l : Launch} {E : EE} {y : MethodName} {b : ByteArray} {n c s : Nat} {ret : FieldType} {as : List Value} {S S' : St} {code b' : Int32} (hc : c ≤ 3) (hs : s ≤ 90) (h : ∀ (th : Int32) (g : Gh), WM l E y b n (some ret) (wD 8 c s) (.ref (g.ad 1 0) :: as) (RB E S th g) (ow g) (fun sz v H => (∃ g1, RB E S' code g1 H ∧ gX g g1 sz H.size) ∧ v = some (.int b'))) : RefM l E y b n ret as S S' code b' :=
  ⟨_, ⟨Nat.le_refl _, Nat.le_refl _, hc, hs⟩, h⟩
/-- what the law's two calls need of each other -/
def JQ (l : Launch) (E : EE) (yl : MethodName) (bl : ByteArray) (nl : Nat) (hh : List (Nat × Nat × Nat × Nat)) (yr : MethodName) (br : ByteArray) (nr : Nat) (ret : FieldType) (S : St) (as : List Value) (fa : Int32 → Int64) : Prop :=
  ∃ (S' : St) (code : Int32) (ans : Int64) (b' : Int32), Good S' ∧ (∀ (g : Gh) (o9 : Nat), HM l E yl bl nl hh (.ref (g.ad 1 0) :: (as ++ [.ref o9])) g S S' o9 code ans) ∧ RefM l E yr br nr ret as S S' code b' ∧ (code = 0 → ans = fa b')
theorem jq_thr {l : Launch} {E : EE} {yl : MethodName} {bl : ByteArray} {nl : Nat} {hh : List (Nat × Nat × Nat × Nat)} {yr : MethodName} {br : ByteArray} {nr : Nat} {ret : FieldType} {S : St} {as : List Value} {fa : Int32 → Int64} (hG : Good S) {k : Int32} (hk : ¬ k = 0) (h1 : ∀ (g : Gh) (o9 : Nat), HM l E yl bl nl hh (.ref (g.ad 1 0) :: (as ++ [.ref o9])) g S S o9 k 0) (h2 : ∀ (th : Int32) (g : Gh), WM l E yr br nr (some ret) (wD 8 0 0) (.ref (g.ad 1 0) :: as) (RB E S th g) (ow g) (fun _ v H => RB E S k g H ∧ v = some (.int 0))) : JQ l E yl bl nl hh yr br nr ret S as fa :=
  ⟨S, k, 0, 0, hG, h1, refm_of (by decide) (by decide) h2, fun h => absurd h hk⟩
theorem jq_ok {l : Launch} {E : EE} {yl : MethodName} {bl : ByteArray} {nl : Nat} {hh : List (Nat × Nat × Nat × Nat)} {yr : MethodName} {br : ByteArray} {nr : Nat} {ret : FieldType} {S S' : St} {as : List Value} {fa : Int32 → Int64} {b' : Int32} (hG : Good S') (h1 : ∀ (g : Gh) (o9 : Nat), HM l E yl bl nl hh (.ref (g.ad 1 0) :: (as ++ [.ref o9])) g S S' o9 0 (fa b')) (h2 : RefM l E yr br nr ret as S S' 0 b') : JQ l E yl bl nl hh yr br nr ret S as fa :=
  ⟨S', 0, fa b', b', hG, h1, h2, fun _ => rfl⟩
def bz (b : Int32) : Int64 := if b = 0 then 0 else 1
theorem good_settle {S : St} (h : Good S) {c : Nat} {b : Int32} (hc : c < S.nc) (hs : S.cs c = 4) : Good (settleS S c b) := by
  unfold settleS
  split
  · exact h.pass (h.1.set1 hc hs) ⟨rfl, rfl⟩
  · exact h.pass h.1.set3 ⟨rfl, rfl⟩
theorem lt_tr {t f : Int32} (h : t < 0) (hf : ¬ f < 0) : t < f := by
  rw [Int32.lt_iff_toInt_lt] at h hf ⊢
  have h0 : (0 : Int32).toInt = 0 := rfl
  omega
set_option maxHeartbeats 1000000 in
theorem j_limit {l : Launch} {E : EE} (hst : l.stackTraces = false) {S : St} (hG : Good S) (b0 b1 b2 : Int32) : JQ l E yL_limit cL_limit 6 [(0, 12, 15, 13), (0, 12, 19, 21)] yX12_limit cX12_limit 5 .int S [.int b0, .int b1, .int b2] Int32.toInt64 := by
  have hI := hG.1
  rcases argN hI.np31 b0 with hbad | ⟨p9, hp9, rfl⟩
  · exact jq_thr hG (k := 1) (by decide) (fun g o9 => hth_limit_1 (t_X6_limit_1 l E hI hst hbad)) (fun th g => r_X12_limit_1 l E hI hbad)
  rcases argK b1 with hbad | ⟨k9, hk9, rfl⟩
  · exact jq_thr hG (k := 1) (by decide) (fun g o9 => hth_limit_1 (t_X6_limit_2 l E hI hst hp9 hbad)) (fun th g => r_X12_limit_2 l E hI hp9 hbad)
  generalize b2 = v9
  rcases argR v9 0 9999 with hbad | ⟨hv91, hv92⟩
  · exact jq_thr hG (k := 2) (by decide) (fun g o9 => hth_limit_2 (t_X6_limit_3 l E hI hst hp9 hk9 hbad)) (fun th g => r_X12_limit_3 l E hI hp9 hk9 hbad)
  exact jq_ok (S' := setT S 0 (p9 * 4 + k9) v9) (b' := S.tb 0 (p9 * 4 + k9)) (hG.tb (hI.stT (Or.inl ⟨rfl, rng0 hv91 hv92⟩)) (fun _ => by omega)) (fun g o9 => hok_limit (wm_A (c_X6_limit l E hI hp9 hk9 hv91 hv92)) ⟨Nat.le_of_ble_eq_true rfl, Nat.le_of_ble_eq_true rfl, Nat.le_of_ble_eq_true rfl, Nat.le_of_ble_eq_true rfl⟩) (refm_of (Nat.le_of_ble_eq_true rfl) (Nat.le_of_ble_eq_true rfl) (fun th g => c_X12_limit l E hI hp9 hk9 hv91 hv92))
set_option maxHeartbeats 1000000 in
theorem j_away {l : Launch} {E : EE} (hst : l.stackTraces = false) {S : St} (hG : Good S) (b0 b1 b2 : Int32) : JQ l E yL_away cL_away 6 [(0, 19, 22, 13), (0, 19, 26, 21)] yX12_away cX12_away 5 .boolean S [.int b0, .int b1, .int b2] bz := by
  have hI := hG.1
  rcases argN hI.np31 b0 with hbad | ⟨p9, hp9, rfl⟩
  · exact jq_thr hG (k := 1) (by decide) (fun g o9 => hth_away_1 (t_X6_away_1 l E hI hst hbad)) (fun th g => r_X12_away_1 l E hI hbad)
  rcases argN hI.np31 b2 with hbad | ⟨o9, ho9, rfl⟩
  · exact jq_thr hG (k := 1) (by decide) (fun g o9 => hth_away_1 (t_X6_away_2 l E hI hst hp9 hbad)) (fun th g => r_X12_away_2 l E hI hp9 hbad)
  generalize b1 = v9
  rcases argR v9 0 119 with hbad | ⟨hv91, hv92⟩
  · exact jq_thr hG (k := 2) (by decide) (fun g o9 => hth_away_2 (t_X6_away_3 l E hI hst hp9 hbad ho9)) (fun th g => r_X12_away_3 l E hI hp9 hbad ho9)
  by_cases hne : o9 = p9
  · subst hne
    · exact jq_thr hG (k := 2) (by decide) (fun g o9 => hth_away_2 (t_X6_away_4 l E hI hst hp9 hv91 hv92)) (fun th g => r_X12_away_4 l E hI hp9 hv91 hv92)
  exact jq_ok (S' := awayS S p9 v9 o9) (b' := awayA S p9 (nI S.td)) (hG.pass (hI.away ho9 hv91 hv92) ⟨rfl, rfl⟩) (fun g o9 => hok_away (wm_A (c_X6_away l E hI hp9 ho9 hne hv91 hv92)) ⟨Nat.le_of_ble_eq_true rfl, Nat.le_of_ble_eq_true rfl, Nat.le_of_ble_eq_true rfl, Nat.le_of_ble_eq_true rfl⟩) (refm_of (Nat.le_of_ble_eq_true rfl) (Nat.le_of_ble_eq_true rfl) (fun th g => c_X12_away l E hI hp9 hv91 hv92 ho9 hne))
set_option maxHeartbeats 1000000 in
theorem j_trip {l : Launch} {E : EE} (hst : l.stackTraces = false) {S : St} (hG : Good S) (b0 b1 b2 b3 b4 : Int32) : JQ l E yL_trip cL_trip 8 [(0, 16, 19, 13), (0, 16, 23, 21), (0, 16, 27, 15)] yX12_trip cX12_trip 6 .int S [.int b0, .int b1, .int b2, .int b3, .int b4] Int32.toInt64 := by
  have hI := hG.1
  rcases argN hI.np31 b0 with hbad | ⟨p9, hp9, rfl⟩
  · exact jq_thr hG (k := 1) (by decide) (fun g o9 => hth_trip_1 (t_X6_trip_1 l E hI hst hbad)) (fun th g => r_X12_trip_1 l E hI hbad)
  rcases argL b1 with hbad | ⟨l9, hl9, rfl⟩
  · exact jq_thr hG (k := 1) (by decide) (fun g o9 => hth_trip_1 (t_X6_trip_2 l E hI hst hp9 hbad)) (fun th g => r_X12_trip_2 l E hI hp9 hbad)
  generalize b2 = f9
  rcases argR f9 0 119 with hbad | ⟨hf91, hf92⟩
  · exact jq_thr hG (k := 2) (by decide) (fun g o9 => hth_trip_2 (t_X6_trip_3 l E hI hst hp9 hl9 hbad)) (fun th g => r_X12_trip_3 l E hI hp9 hl9 hbad)
  generalize b3 = t9
  rcases argR t9 0 119 with hbad | ⟨ht91, ht92⟩
  · exact jq_thr hG (k := 2) (by decide) (fun g o9 => hth_trip_2 (t_X6_trip_4 l E hI hst hp9 hl9 hf91 hf92 (hbad.imp_left fun h => lt_tr h hf91))) (fun th g => r_X12_trip_4 l E hI hp9 hl9 hf91 hf92 hbad)
  by_cases htf : t9 < f9
  · exact jq_thr hG (k := 2) (by decide) (fun g o9 => hth_trip_2 (t_X6_trip_4 l E hI hst hp9 hl9 hf91 hf92 (Or.inl htf))) (fun th g => r_X12_trip_5 l E hI hp9 hl9 hf91 hf92 ht91 ht92 htf)
  generalize b4 = x9
  rcases argR x9 0 9999 with hbad | ⟨hx91, hx92⟩
  · exact jq_thr hG (k := 2) (by decide) (fun g o9 => hth_trip_2 (t_X6_trip_5 l E hI hst hp9 hl9 hf91 hf92 htf ht92 hbad)) (fun th g => r_X12_trip_6 l E hI hp9 hl9 hf91 hf92 ht91 ht92 htf hbad)
  by_cases h8 : 8 ≤ S.nt
  · exact jq_thr hG (k := 3) (by decide) (fun g o9 => hth_trip_3 (t_X6_trip_6 l E hI hst hp9 hl9 hf91 hf92 htf ht92 hx91 hx92 h8)) (fun th g => r_X12_trip_7 l E hI hp9 hl9 hf91 hf92 ht91 ht92 hx91 hx92 htf h8)
  replace h8 := Nat.lt_of_not_le h8
  exact jq_ok (S' := addT S p9 l9 f9 t9 x9) (b' := nI S.nt) (hG.adT (hI.adT h8 hp9 hl9)) (fun g o9 => hok_trip (c_X6_trip l E hI hp9 hl9 hf91 hf92 htf ht92 hx91 hx92 h8) ⟨Nat.le_of_ble_eq_true rfl, Nat.le_of_ble_eq_true rfl, Nat.le_of_ble_eq_true rfl, Nat.le_of_ble_eq_true rfl⟩) (refm_ofG (Nat.le_of_ble_eq_true rfl) (Nat.le_of_ble_eq_true rfl) (fun th g => c_X12_trip l E hI hp9 hl9 hf91 hf92 ht91 ht92 hx91 hx92 htf h8))
set_option maxHeartbeats 1000000 in
theorem j_person {l : Launch} {E : EE} (hst : l.stackTraces = false) {S : St} (hG : Good S) (b0 : Int32) : JQ l E yL_person cL_person 4 [(0, 9, 12, 13), (0, 9, 15, 15)] yX12_person cX12_person 2 .int S [.int b0] Int32.toInt64 := by
  have hI := hG.1
  by_cases hm : b0 = -1
  · subst hm
    by_cases h8 : 8 ≤ S.np
    · exact jq_thr hG (k := 2) (by decide) (fun g o9 => hth_person_2 (t_X6_person_3 l E hI hst h8)) (fun th g => r_X12_person_3 l E hI h8)
    · replace h8 := Nat.lt_of_not_le h8
      exact jq_ok (S' := addP S none) (b' := nI S.np) (hG.adP (hI.adP h8 (fun j h => by cases h))) (fun g o9 => hok_person (c_X6_person0 l E hI h8) ⟨Nat.le_of_ble_eq_true rfl, Nat.le_of_ble_eq_true rfl, Nat.le_of_ble_eq_true rfl, Nat.le_of_ble_eq_true rfl⟩) (refm_ofG (Nat.le_of_ble_eq_true rfl) (Nat.le_of_ble_eq_true rfl) (fun th g => c_X12_person0 l E hI h8 hG.2.1))
  · rcases argN hI.np31 b0 with hbad | ⟨p9, hp9, rfl⟩
    · exact jq_thr hG (k := 1) (by decide) (fun g o9 => hth_person_1 (t_X6_person_1 l E hI hst hm hbad)) (fun th g => r_X12_person_1 l E hI hm hbad)
    by_cases h8 : 8 ≤ S.np
    · exact jq_thr hG (k := 2) (by decide) (fun g o9 => hth_person_2 (t_X6_person_2 l E hI hst hp9 h8)) (fun th g => r_X12_person_2 l E hI hp9 h8)
    replace h8 := Nat.lt_of_not_le h8
    exact jq_ok (S' := addP S (some p9)) (b' := nI S.np) (hG.adP (hI.adP h8 (fun j h => by cases h; exact hp9))) (fun g o9 => hok_person (c_X6_person1 l E hI hp9 h8) ⟨Nat.le_of_ble_eq_true rfl, Nat.le_of_ble_eq_true rfl, Nat.le_of_ble_eq_true rfl, Nat.le_of_ble_eq_true rfl⟩) (refm_ofG (Nat.le_of_ble_eq_true rfl) (Nat.le_of_ble_eq_true rfl) (fun th g => c_X12_person1 l E hI hp9 h8 hG.2.1))
set_option maxHeartbeats 1000000 in
theorem j_ofPerson {l : Launch} {E : EE} (hst : l.stackTraces = false) {S : St} (hG : Good S) (b0 b1 : Int32) : JQ l E yL_ofPerson cL_ofPerson 5 [(0, 10, 13, 13), (0, 10, 17, 21)] yX12_ofPerson cX12_ofPerson 3 .int S [.int b0, .int b1] Int32.toInt64 := by
  have hI := hG.1
  rcases argN hI.np31 b0 with hbad | ⟨p9, hp9, rfl⟩
  · exact jq_thr hG (k := 1) (by decide) (fun g o9 => hth_ofPerson_1 (t_X6_ofPerson_1 l E hI hst hbad)) (fun th g => r_X12_ofPerson_1 l E hI hbad)
  rcases argW 6 (by decide) b1 with hbad | ⟨⟨hw91, hw92⟩, w9, hw9, rfl⟩
  · exact jq_thr hG (k := 2) (by decide) (fun g o9 => hth_ofPerson_2 (t_X6_ofPerson_2 l E hI hst hp9 hbad)) (fun th g => r_X12_ofPerson_2 l E hI hp9 hbad)
  exact jq_ok (S' := S) (b' := ofPersonA S p9 w9) (hG) (fun g o9 => hok_ofPerson (wm_A (wm_rm (c_X6_ofPerson l E hI hp9 (Nat.le_of_lt_succ hw9)))) ⟨Nat.le_of_ble_eq_true rfl, Nat.le_of_ble_eq_true rfl, Nat.le_of_ble_eq_true rfl, Nat.le_of_ble_eq_true rfl⟩) (refm_of (Nat.le_of_ble_eq_true rfl) (Nat.le_of_ble_eq_true rfl) (fun th g => c_X12_ofPerson l E hI hp9 (Nat.le_of_lt_succ hw9)))
set_option maxHeartbeats 1000000 in
theorem j_maySpend {l : Launch} {E : EE} (hst : l.stackTraces = false) {S : St} (hG : Good S) (b0 b1 b2 : Int32) : JQ l E yL_maySpend cL_maySpend 6 [(0, 12, 15, 13)] yX12_maySpend cX12_maySpend 4 .int S [.int b0, .int b1, .int b2] Int32.toInt64 := by
  have hI := hG.1
  rcases argN hI.np31 b0 with hbad | ⟨p9, hp9, rfl⟩
  · exact jq_thr hG (k := 1) (by decide) (fun g o9 => hth_maySpend_1 (t_X6_maySpend_1 l E hI hst hbad)) (fun th g => r_X12_maySpend_1 l E hI hbad)
  rcases argK b1 with hbad | ⟨k9, hk9, rfl⟩
  · exact jq_thr hG (k := 1) (by decide) (fun g o9 => hth_maySpend_1 (t_X6_maySpend_2 l E hI hst hp9 hbad)) (fun th g => r_X12_maySpend_2 l E hI hp9 hbad)
  rcases argL b2 with hbad | ⟨l9, hl9, rfl⟩
  · exact jq_thr hG (k := 1) (by decide) (fun g o9 => hth_maySpend_1 (t_X6_maySpend_3 l E hI hst hp9 hk9 hbad)) (fun th g => r_X12_maySpend_3 l E hI hp9 hk9 hbad)
  exact jq_ok (S' := S) (b' := spendA S p9 k9 (nI l9)) (hG) (fun g o9 => hok_maySpend (wm_A (wm_rm (c_X6_maySpend l E hI hp9 hk9 hl9))) ⟨Nat.le_of_ble_eq_true rfl, Nat.le_of_ble_eq_true rfl, Nat.le_of_ble_eq_true rfl, Nat.le_of_ble_eq_true rfl⟩) (refm_of (Nat.le_of_ble_eq_true rfl) (Nat.le_of_ble_eq_true rfl) (fun th g => c_X12_maySpend l E hI hp9 hk9 hl9))
set_option maxHeartbeats 1000000 in
theorem j_plan {l : Launch} {E : EE} (hst : l.stackTraces = false) {S : St} (hG : Good S) (b0 b1 b2 : Int32) : JQ l E yL_plan cL_plan 6 [(0, 12, 15, 13), (0, 12, 19, 21)] yX12_plan cX12_plan 5 .int S [.int b0, .int b1, .int b2] Int32.toInt64 := by
  have hI := hG.1
  rcases argK b0 with hbad | ⟨k9, hk9, rfl⟩
  · exact jq_thr hG (k := 1) (by decide) (fun g o9 => hth_plan_1 (t_X6_plan_1 l E hI hst hbad)) (fun th g => r_X12_plan_1 l E hI hbad)
  rcases argK b1 with hbad | ⟨y9, hy9, rfl⟩
  · exact jq_thr hG (k := 1) (by decide) (fun g o9 => hth_plan_1 (t_X6_plan_2 l E hI hst hk9 hbad)) (fun th g => r_X12_plan_2 l E hI hk9 hbad)
  generalize b2 = v9
  rcases argR v9 0 99999 with hbad | ⟨hv91, hv92⟩
  · exact jq_thr hG (k := 2) (by decide) (fun g o9 => hth_plan_2 (t_X6_plan_3 l E hI hst hk9 hy9 hbad)) (fun th g => r_X12_plan_3 l E hI hk9 hy9 hbad)
  exact jq_ok (S' := setT S 1 (k9 * 4 + y9) v9) (b' := S.tb 1 (k9 * 4 + y9)) (hG.tb (hI.stT (Or.inr (Or.inl ⟨rfl, rng0 hv91 hv92⟩))) (fun h => absurd h (by decide))) (fun g o9 => hok_plan (wm_A (c_X6_plan l E hI hk9 hy9 hv91 hv92)) ⟨Nat.le_of_ble_eq_true rfl, Nat.le_of_ble_eq_true rfl, Nat.le_of_ble_eq_true rfl, Nat.le_of_ble_eq_true rfl⟩) (refm_of (Nat.le_of_ble_eq_true rfl) (Nat.le_of_ble_eq_true rfl) (fun th g => c_X12_plan l E hI hk9 hy9 hv91 hv92))
set_option maxHeartbeats 1000000 in
theorem j_carry {l : Launch} {E : EE} (hst : l.stackTraces = false) {S : St} (hG : Good S) (b0 b1 : Int32) : JQ l E yL_carry cL_carry 5 [(0, 10, 13, 13), (0, 10, 17, 21)] yX12_carry cX12_carry 4 .int S [.int b0, .int b1] Int32.toInt64 := by
  have hI := hG.1
  rcases argK b0 with hbad | ⟨k9, hk9, rfl⟩
  · exact jq_thr hG (k := 1) (by decide) (fun g o9 => hth_carry_1 (t_X6_carry_1 l E hI hst hbad)) (fun th g => r_X12_carry_1 l E hI hbad)
  generalize b1 = v9
  rcases argR v9 0 100 with hbad | ⟨hv91, hv92⟩
  · exact jq_thr hG (k := 2) (by decide) (fun g o9 => hth_carry_2 (t_X6_carry_2 l E hI hst hk9 hbad)) (fun th g => r_X12_carry_2 l E hI hk9 hbad)
  exact jq_ok (S' := setT S 2 (k9 * 1 + 0) v9) (b' := S.tb 2 (k9 * 1 + 0)) (hG.tb (hI.stT (Or.inr (Or.inr (Or.inl ⟨rfl, rng0 hv91 hv92⟩)))) (fun h => absurd h (by decide))) (fun g o9 => hok_carry (wm_A (c_X6_carry l E hI hk9 hv91 hv92)) ⟨Nat.le_of_ble_eq_true rfl, Nat.le_of_ble_eq_true rfl, Nat.le_of_ble_eq_true rfl, Nat.le_of_ble_eq_true rfl⟩) (refm_of (Nat.le_of_ble_eq_true rfl) (Nat.le_of_ble_eq_true rfl) (fun th g => c_X12_carry l E hI hk9 hv91 hv92))
set_option maxHeartbeats 1000000 in
theorem j_rate {l : Launch} {E : EE} (hst : l.stackTraces = false) {S : St} (hG : Good S) (b0 b1 b2 : Int32) : JQ l E yL_rate cL_rate 6 [(0, 12, 15, 13), (0, 12, 19, 21)] yX12_rate cX12_rate 5 .int S [.int b0, .int b1, .int b2] Int32.toInt64 := by
  have hI := hG.1
  rcases argL b0 with hbad | ⟨l9, hl9, rfl⟩
  · exact jq_thr hG (k := 1) (by decide) (fun g o9 => hth_rate_1 (t_X6_rate_1 l E hI hst hbad)) (fun th g => r_X12_rate_1 l E hI hbad)
  rcases argK b1 with hbad | ⟨k9, hk9, rfl⟩
  · exact jq_thr hG (k := 1) (by decide) (fun g o9 => hth_rate_1 (t_X6_rate_2 l E hI hst hl9 hbad)) (fun th g => r_X12_rate_2 l E hI hl9 hbad)
  generalize b2 = v9
  rcases argR v9 0 30 with hbad | ⟨hv91, hv92⟩
  · exact jq_thr hG (k := 2) (by decide) (fun g o9 => hth_rate_2 (t_X6_rate_3 l E hI hst hl9 hk9 hbad)) (fun th g => r_X12_rate_3 l E hI hl9 hk9 hbad)
  exact jq_ok (S' := setT S 3 (l9 * 4 + k9) v9) (b' := S.tb 3 (l9 * 4 + k9)) (hG.tb (hI.stT (Or.inr (Or.inr (Or.inr ⟨rfl, rng0 hv91 hv92⟩)))) (fun h => absurd h (by decide))) (fun g o9 => hok_rate (wm_A (c_X6_rate l E hI hl9 hk9 hv91 hv92)) ⟨Nat.le_of_ble_eq_true rfl, Nat.le_of_ble_eq_true rfl, Nat.le_of_ble_eq_true rfl, Nat.le_of_ble_eq_true rfl⟩) (refm_of (Nat.le_of_ble_eq_true rfl) (Nat.le_of_ble_eq_true rfl) (fun th g => c_X12_rate l E hI hl9 hk9 hv91 hv92))
set_option maxHeartbeats 1000000 in
theorem j_left {l : Launch} {E : EE} (hst : l.stackTraces = false) {S : St} (hG : Good S) (b0 b1 : Int32) : JQ l E yL_left cL_left 5 [(0, 10, 13, 13)] yX12_left cX12_left 3 .int S [.int b0, .int b1] Int32.toInt64 := by
  have hI := hG.1
  rcases argK b0 with hbad | ⟨k9, hk9, rfl⟩
  · exact jq_thr hG (k := 1) (by decide) (fun g o9 => hth_left_1 (t_X6_left_1 l E hI hst hbad)) (fun th g => r_X12_left_1 l E hI hbad)
  rcases argK b1 with hbad | ⟨y9, hy9, rfl⟩
  · exact jq_thr hG (k := 1) (by decide) (fun g o9 => hth_left_1 (t_X6_left_2 l E hI hst hk9 hbad)) (fun th g => r_X12_left_2 l E hI hk9 hbad)
  exact jq_ok (S' := S) (b' := leftL S k9 0 (y9 + 1)) (hG) (fun g o9 => hok_left (wm_A (wm_rm (c_X6_left l E hI hk9 hy9))) ⟨Nat.le_of_ble_eq_true rfl, Nat.le_of_ble_eq_true rfl, Nat.le_of_ble_eq_true rfl, Nat.le_of_ble_eq_true rfl⟩) (refm_of (Nat.le_of_ble_eq_true rfl) (Nat.le_of_ble_eq_true rfl) (fun th g => c_X12_left l E hI hk9 hy9))
set_option maxHeartbeats 1000000 in
theorem j_leftWith {l : Launch} {E : EE} (hst : l.stackTraces = false) {S : St} (hG : Good S) (b0 b1 : Int32) : JQ l E yL_leftWith cL_leftWith 5 [(0, 10, 13, 13)] yX12_leftWith cX12_leftWith 3 .int S [.int b0, .int b1] Int32.toInt64 := by
  have hI := hG.1
  rcases argK b0 with hbad | ⟨k9, hk9, rfl⟩
  · exact jq_thr hG (k := 1) (by decide) (fun g o9 => hth_leftWith_1 (t_X6_leftWith_1 l E hI hst hbad)) (fun th g => r_X12_leftWith_1 l E hI hbad)
  rcases argK b1 with hbad | ⟨y9, hy9, rfl⟩
  · exact jq_thr hG (k := 1) (by decide) (fun g o9 => hth_leftWith_1 (t_X6_leftWith_2 l E hI hst hk9 hbad)) (fun th g => r_X12_leftWith_2 l E hI hk9 hbad)
  exact jq_ok (S' := S) (b' := leftL S k9 1 (y9 + 1)) (hG) (fun g o9 => hok_leftWith (wm_A (wm_rm (c_X6_leftWith l E hI hk9 hy9))) ⟨Nat.le_of_ble_eq_true rfl, Nat.le_of_ble_eq_true rfl, Nat.le_of_ble_eq_true rfl, Nat.le_of_ble_eq_true rfl⟩) (refm_of (Nat.le_of_ble_eq_true rfl) (Nat.le_of_ble_eq_true rfl) (fun th g => c_X12_leftWith l E hI hk9 hy9))
set_option maxHeartbeats 1000000 in
theorem j_charge {l : Launch} {E : EE} (hst : l.stackTraces = false) {S : St} (hG : Good S) (b0 b1 b2 b3 b4 : Int32) : JQ l E yL_charge cL_charge 8 [(0, 16, 19, 13), (0, 16, 23, 21), (0, 16, 27, 15)] yX12_charge cX12_charge 6 .int S [.int b0, .int b1, .int b2, .int b3, .int b4] Int32.toInt64 := by
  have hI := hG.1
  rcases argN hI.np31 b0 with hbad | ⟨p9, hp9, rfl⟩
  · exact jq_thr hG (k := 1) (by decide) (fun g o9 => hth_charge_1 (t_X6_charge_1 l E hI hst hbad)) (fun th g => r_X12_charge_1 l E hI hbad)
  rcases argK b1 with hbad | ⟨k9, hk9, rfl⟩
  · exact jq_thr hG (k := 1) (by decide) (fun g o9 => hth_charge_1 (t_X6_charge_2 l E hI hst hp9 hbad)) (fun th g => r_X12_charge_2 l E hI hp9 hbad)
  rcases argL b2 with hbad | ⟨l9, hl9, rfl⟩
  · exact jq_thr hG (k := 1) (by decide) (fun g o9 => hth_charge_1 (t_X6_charge_3 l E hI hst hp9 hk9 hbad)) (fun th g => r_X12_charge_3 l E hI hp9 hk9 hbad)
  generalize b3 = a9
  rcases argR a9 1 9999 with hbad | ⟨ha91, ha92⟩
  · exact jq_thr hG (k := 2) (by decide) (fun g o9 => hth_charge_2 (t_X6_charge_4 l E hI hst hp9 hk9 hl9 hbad)) (fun th g => r_X12_charge_4 l E hI hp9 hk9 hl9 hbad)
  generalize b4 = x9
  rcases argR x9 0 9 with hbad | ⟨hx91, hx92⟩
  · exact jq_thr hG (k := 2) (by decide) (fun g o9 => hth_charge_2 (t_X6_charge_5 l E hI hst hp9 hk9 hl9 ha91 ha92 hbad)) (fun th g => r_X12_charge_5 l E hI hp9 hk9 hl9 ha91 ha92 hbad)
  by_cases h30 : 30 ≤ S.nc
  · exact jq_thr hG (k := 3) (by decide) (fun g o9 => hth_charge_3 (t_X6_charge_6 l E hI hst hp9 hk9 hl9 ha91 ha92 hx91 hx92 h30)) (fun th g => r_X12_charge_6 l E hI hp9 hk9 hl9 ha91 ha92 hx91 hx92 h30)
  replace h30 := Nat.lt_of_not_le h30
  by_cases hs1 : spendA S p9 k9 (nI l9) < a9
  · exact jq_thr hG (k := 3) (by decide) (fun g o9 => hth_charge_3 (t_X6_charge_7 l E hI hst hp9 hk9 hl9 ha91 ha92 hx91 hx92 h30 hs1)) (fun th g => r_X12_charge_7 l E hI hp9 hk9 hl9 ha91 ha92 hx91 hx92 h30 hs1)
  by_cases hs2 : ¬ a9 ≤ leftL S k9 0 (S.td / 30 + 1)
  · exact jq_thr hG (k := 3) (by decide) (fun g o9 => hth_charge_3 (t_X6_charge_8 l E hI hst hp9 hk9 hl9 ha91 ha92 hx91 hx92 h30 hs1 hs2)) (fun th g => r_X12_charge_8 l E hI hp9 hk9 hl9 ha91 ha92 hx91 hx92 h30 hs1 hs2)
  replace hs2 := Decidable.not_not.mp hs2
  exact jq_ok (S' := passS (mpS (addC S p9 k9 l9 a9 x9 (tripA S p9 (nI l9))))) (b' := nI S.nc) (hG.pass ((hI.adC h30 hp9 hk9 hl9 (rng1 ha91 ha92) (fun j hj => fstB_lt hj)).mp) (NB.tr (T := addC S p9 k9 l9 a9 x9 (tripA S p9 (nI l9))) ⟨rfl, rfl⟩ nb_mp)) (fun g o9 => hok_charge (c_X6_charge l E hI hp9 hk9 hl9 ha91 ha92 hx91 hx92 h30 hs1 hs2) ⟨Nat.le_of_ble_eq_true rfl, Nat.le_of_ble_eq_true rfl, Nat.le_of_ble_eq_true rfl, Nat.le_of_ble_eq_true rfl⟩) (refm_ofG (Nat.le_of_ble_eq_true rfl) (Nat.le_of_ble_eq_true rfl) (fun th g => c_X12_charge l E hI hp9 hk9 hl9 ha91 ha92 hx91 hx92 h30 hs1 hs2))
set_option maxHeartbeats 1000000 in
theorem j_receipt {l : Launch} {E : EE} (hst : l.stackTraces = false) {S : St} (hG : Good S) (b0 b1 b2 : Int32) : JQ l E yL_receipt cL_receipt 6 [(0, 12, 15, 21), (0, 12, 19, 15)] yX12_receipt cX12_receipt 5 .int S [.int b0, .int b1, .int b2] Int32.toInt64 := by
  have hI := hG.1
  generalize b0 = am
  rcases argR am 1 9999 with hbad | ⟨ham1, ham2⟩
  · exact jq_thr hG (k := 1) (by decide) (fun g o9 => hth_receipt_1 (t_X6_receipt_1 l E hI hst hbad)) (fun th g => r_X12_receipt_1 l E hI hbad)
  generalize b1 = dy
  rcases argR dy 0 119 with hbad | ⟨hdy1, hdy2⟩
  · exact jq_thr hG (k := 1) (by decide) (fun g o9 => hth_receipt_1 (t_X6_receipt_2 l E hI hst ham1 ham2 hbad)) (fun th g => r_X12_receipt_2 l E hI ham1 ham2 hbad)
  generalize b2 = tx
  rcases argR tx 0 9 with hbad | ⟨htx1, htx2⟩
  · exact jq_thr hG (k := 1) (by decide) (fun g o9 => hth_receipt_1 (t_X6_receipt_3 l E hI hst ham1 ham2 hdy1 hdy2 hbad)) (fun th g => r_X12_receipt_3 l E hI ham1 ham2 hdy1 hdy2 hbad)
  by_cases h30 : 30 ≤ S.nr
  · exact jq_thr hG (k := 2) (by decide) (fun g o9 => hth_receipt_2 (t_X6_receipt_4 l E hI hst ham1 ham2 hdy1 hdy2 htx1 htx2 h30)) (fun th g => r_X12_receipt_4 l E hI ham1 ham2 hdy1 hdy2 htx1 htx2 h30)
  replace h30 := Nat.lt_of_not_le h30
  exact jq_ok (S' := passS (mpS (addR S am dy tx))) (b' := irI ((passS (mpS (addR S am dy tx))).ro S.nr)) (hG.pass ((hI.adR h30).mp) (NB.tr (T := addR S am dy tx) ⟨rfl, rfl⟩ nb_mp)) (fun g o9 => hok_receipt (c_X6_receipt l E hI ham1 ham2 hdy1 hdy2 htx1 htx2 h30) ⟨Nat.le_of_ble_eq_true rfl, Nat.le_of_ble_eq_true rfl, Nat.le_of_ble_eq_true rfl, Nat.le_of_ble_eq_true rfl⟩) (refm_ofG (Nat.le_of_ble_eq_true rfl) (Nat.le_of_ble_eq_true rfl) (fun th g => c_X12_receipt l E hI ham1 ham2 hdy1 hdy2 htx1 htx2 h30))
set_option maxHeartbeats 1000000 in
theorem j_wouldMatch {l : Launch} {E : EE} (hst : l.stackTraces = false) {S : St} (hG : Good S) (b0 b1 b2 : Int32) : JQ l E yL_wouldMatch cL_wouldMatch 6 [(0, 12, 15, 21)] yX12_wouldMatch cX12_wouldMatch 7 .int S [.int b0, .int b1, .int b2] Int32.toInt64 := by
  have hI := hG.1
  generalize b0 = am
  rcases argR am 1 9999 with hbad | ⟨ham1, ham2⟩
  · exact jq_thr hG (k := 1) (by decide) (fun g o9 => hth_wouldMatch_1 (t_X6_wouldMatch_1 l E hI hst hbad)) (fun th g => r_X12_wouldMatch_1 l E hI hbad)
  generalize b1 = dy
  rcases argR dy 0 119 with hbad | ⟨hdy1, hdy2⟩
  · exact jq_thr hG (k := 1) (by decide) (fun g o9 => hth_wouldMatch_1 (t_X6_wouldMatch_2 l E hI hst ham1 ham2 hbad)) (fun th g => r_X12_wouldMatch_2 l E hI ham1 ham2 hbad)
  generalize b2 = tx
  rcases argR tx 0 9 with hbad | ⟨htx1, htx2⟩
  · exact jq_thr hG (k := 1) (by decide) (fun g o9 => hth_wouldMatch_1 (t_X6_wouldMatch_3 l E hI hst ham1 ham2 hdy1 hdy2 hbad)) (fun th g => r_X12_wouldMatch_3 l E hI ham1 ham2 hdy1 hdy2 hbad)
  exact jq_ok (S' := S) (b' := irI (wB S am dy tx S.nc).1) (hG) (fun g o9 => hok_wouldMatch (wm_A (c_X6_wouldMatch l E hI ham1 ham2 hdy1 hdy2 htx1 htx2)) ⟨Nat.le_of_ble_eq_true rfl, Nat.le_of_ble_eq_true rfl, Nat.le_of_ble_eq_true rfl, Nat.le_of_ble_eq_true rfl⟩) (refm_of (Nat.le_of_ble_eq_true rfl) (Nat.le_of_ble_eq_true rfl) (fun th g => c_X12_wouldMatch l E hI ham1 ham2 hdy1 hdy2 htx1 htx2))
set_option maxHeartbeats 1000000 in
theorem j_split {l : Launch} {E : EE} (hst : l.stackTraces = false) {S : St} (hG : Good S) (b0 : Int32) : JQ l E yL_split cL_split 4 [(0, 9, 12, 13), (0, 9, 15, 15)] yX12_split cX12_split 3 .int S [.int b0] Int32.toInt64 := by
  have hI := hG.1
  rcases argN hI.nc31 b0 with hbad | ⟨c9, hc9, rfl⟩
  · exact jq_thr hG (k := 1) (by decide) (fun g o9 => hth_split_1 (t_X6_split_1 l E hI hst hbad)) (fun th g => r_X12_split_1 l E hI hbad)
  by_cases hs : ¬ S.cs c9 = 1
  · exact jq_thr hG (k := 2) (by decide) (fun g o9 => hth_split_2 (t_X6_split_2 l E hI hst hc9 hs)) (fun th g => r_X12_split_2 l E hI hc9 hs)
  replace hs := Decidable.not_not.mp hs
  exact jq_ok (S' := splitS S c9) (b' := (splitS S c9).cs c9) (hG.pass ((hI.part hc9).mp) (nb_part.tr nb_mp)) (fun g o9 => hok_split (wm_A (c_X6_split l E hI hc9 hs)) ⟨Nat.le_of_ble_eq_true rfl, Nat.le_of_ble_eq_true rfl, Nat.le_of_ble_eq_true rfl, Nat.le_of_ble_eq_true rfl⟩) (refm_of (Nat.le_of_ble_eq_true rfl) (Nat.le_of_ble_eq_true rfl) (fun th g => c_X12_split l E hI hc9 hs))
set_option maxHeartbeats 1000000 in
theorem j_settle {l : Launch} {E : EE} (hst : l.stackTraces = false) {S : St} (hG : Good S) (b0 b1 : Int32) : JQ l E yL_settle cL_settle 5 [(0, 10, 13, 13), (0, 10, 17, 15)] yX12_settle cX12_settle 3 .int S [.int b0, .int b1] Int32.toInt64 := by
  have hI := hG.1
  rcases argN hI.nc31 b0 with hbad | ⟨c9, hc9, rfl⟩
  · exact jq_thr hG (k := 1) (by decide) (fun g o9 => hth_settle_1 (t_X6_settle_1 l E hI hst hbad)) (fun th g => r_X12_settle_1 l E hI hbad)
  generalize b1 = b9
  by_cases hs : ¬ S.cs c9 = 4
  · exact jq_thr hG (k := 2) (by decide) (fun g o9 => hth_settle_2 (t_X6_settle_2 l E hI hst hc9 hs)) (fun th g => r_X12_settle_2 l E hI hc9 hs)
  replace hs := Decidable.not_not.mp hs
  exact jq_ok (S' := settleS S c9 b9) (b' := (settleS S c9 b9).cs c9) (good_settle hG hc9 hs) (fun g o9 => hok_settle (wm_A (c_X6_settle l E hI hc9 hs)) ⟨Nat.le_of_ble_eq_true rfl, Nat.le_of_ble_eq_true rfl, Nat.le_of_ble_eq_true rfl, Nat.le_of_ble_eq_true rfl⟩) (refm_of (Nat.le_of_ble_eq_true rfl) (Nat.le_of_ble_eq_true rfl) (fun th g => c_X12_settle l E hI hc9 hs))
set_option maxHeartbeats 1000000 in
theorem j_approve {l : Launch} {E : EE} (hst : l.stackTraces = false) {S : St} (hG : Good S) (b0 b1 : Int32) : JQ l E yL_approve cL_approve 5 [(0, 10, 13, 13), (0, 10, 17, 15)] yX12_approve cX12_approve 3 .int S [.int b0, .int b1] Int32.toInt64 := by
  have hI := hG.1
  rcases argN hI.nc31 b0 with hbad | ⟨c9, hc9, rfl⟩
  · exact jq_thr hG (k := 1) (by decide) (fun g o9 => hth_approve_1 (t_X6_approve_1 l E hI hst hbad)) (fun th g => r_X12_approve_1 l E hI hbad)
  rcases argN hI.np31 b1 with hbad | ⟨p9, hp9, rfl⟩
  · exact jq_thr hG (k := 1) (by decide) (fun g o9 => hth_approve_1 (t_X6_approve_2 l E hI hst hc9 hbad)) (fun th g => r_X12_approve_2 l E hI hc9 hbad)
  by_cases hs : ¬ apprA S c9 = some p9
  · exact jq_thr hG (k := 2) (by decide) (fun g o9 => hth_approve_2 (t_X6_approve_3 l E hI hst hc9 hp9 hs)) (fun th g => r_X12_approve_3 l E hI hc9 hp9 hs)
  replace hs := Decidable.not_not.mp hs
  exact jq_ok (S' := approveS S c9) (b' := (approveS S c9).cs c9) (hG.pass (hI.appr hs) ⟨rfl, rfl⟩) (fun g o9 => hok_approve (wm_A (c_X6_approve l E hI hc9 hp9 hs)) ⟨Nat.le_of_ble_eq_true rfl, Nat.le_of_ble_eq_true rfl, Nat.le_of_ble_eq_true rfl, Nat.le_of_ble_eq_true rfl⟩) (refm_of (Nat.le_of_ble_eq_true rfl) (Nat.le_of_ble_eq_true rfl) (fun th g => c_X12_approve l E hI hc9 hp9 hs))
set_option maxHeartbeats 1000000 in
theorem j_refuse {l : Launch} {E : EE} (hst : l.stackTraces = false) {S : St} (hG : Good S) (b0 b1 : Int32) : JQ l E yL_refuse cL_refuse 5 [(0, 10, 13, 13), (0, 10, 17, 15)] yX12_refuse_ cX12_refuse_ 3 .int S [.int b0, .int b1] Int32.toInt64 := by
  have hI := hG.1
  rcases argN hI.nc31 b0 with hbad | ⟨c9, hc9, rfl⟩
  · exact jq_thr hG (k := 1) (by decide) (fun g o9 => hth_refuse_1 (t_X6_refuse_1 l E hI hst hbad)) (fun th g => r_X12_refuse__1 l E hI hbad)
  rcases argN hI.np31 b1 with hbad | ⟨p9, hp9, rfl⟩
  · exact jq_thr hG (k := 1) (by decide) (fun g o9 => hth_refuse_1 (t_X6_refuse_2 l E hI hst hc9 hbad)) (fun th g => r_X12_refuse__2 l E hI hc9 hbad)
  by_cases hs : ¬ apprA S c9 = some p9
  · exact jq_thr hG (k := 2) (by decide) (fun g o9 => hth_refuse_2 (t_X6_refuse_3 l E hI hst hc9 hp9 hs)) (fun th g => r_X12_refuse__3 l E hI hc9 hp9 hs)
  replace hs := Decidable.not_not.mp hs
  exact jq_ok (S' := u_cs S c9 4) (b' := inA (u_cs S c9 4) 4) (hG.refu (hI.refu hc9 (apprA_1 hs).1)) (fun g o9 => hok_refuse (wm_A (by have w := c_X6_refuse l E (g := g) hI hc9 hp9 hs; rw [show refuseS S c9 = u_cs S c9 4 from passS_id (stab_refu hG)] at w; exact w)) ⟨Nat.le_of_ble_eq_true rfl, Nat.le_of_ble_eq_true rfl, Nat.le_of_ble_eq_true rfl, Nat.le_of_ble_eq_true rfl⟩) (refm_of (Nat.le_of_ble_eq_true rfl) (Nat.le_of_ble_eq_true rfl) (fun th g => c_X12_refuse_ l E hI hc9 hp9 hs))
set_option maxHeartbeats 1000000 in
theorem j_ofCharge {l : Launch} {E : EE} (hst : l.stackTraces = false) {S : St} (hG : Good S) (b0 b1 : Int32) : JQ l E yL_ofCharge cL_ofCharge 5 [(0, 10, 13, 13), (0, 10, 17, 21)] yX12_ofCharge cX12_ofCharge 3 .int S [.int b0, .int b1] Int32.toInt64 := by
  have hI := hG.1
  rcases argN hI.nc31 b0 with hbad | ⟨c9, hc9, rfl⟩
  · exact jq_thr hG (k := 1) (by decide) (fun g o9 => hth_ofCharge_1 (t_X6_ofCharge_1 l E hI hst hbad)) (fun th g => r_X12_ofCharge_1 l E hI hbad)
  rcases argW 11 (by decide) b1 with hbad | ⟨⟨hw91, hw92⟩, w9, hw9, rfl⟩
  · exact jq_thr hG (k := 2) (by decide) (fun g o9 => hth_ofCharge_2 (t_X6_ofCharge_2 l E hI hst hc9 hbad)) (fun th g => r_X12_ofCharge_2 l E hI hc9 hbad)
  exact jq_ok (S' := S) (b' := ofChargeA S c9 w9) (hG) (fun g o9 => hok_ofCharge (wm_A (wm_rm (c_X6_ofCharge l E hI hc9 (Nat.le_of_lt_succ hw9)))) ⟨Nat.le_of_ble_eq_true rfl, Nat.le_of_ble_eq_true rfl, Nat.le_of_ble_eq_true rfl, Nat.le_of_ble_eq_true rfl⟩) (refm_of (Nat.le_of_ble_eq_true rfl) (Nat.le_of_ble_eq_true rfl) (fun th g => c_X12_ofCharge l E hI hc9 (Nat.le_of_lt_succ hw9)))
set_option maxHeartbeats 1000000 in
theorem j_ofReceipt {l : Launch} {E : EE} (hst : l.stackTraces = false) {S : St} (hG : Good S) (b0 : Int32) : JQ l E yL_ofReceipt cL_ofReceipt 4 [(0, 9, 12, 13)] yX12_ofReceipt cX12_ofReceipt 2 .int S [.int b0] Int32.toInt64 := by
  have hI := hG.1
  rcases argN hI.nr31 b0 with hbad | ⟨r9, hr9, rfl⟩
  · exact jq_thr hG (k := 1) (by decide) (fun g o9 => hth_ofReceipt_1 (t_X6_ofReceipt_1 l E hI hst hbad)) (fun th g => r_X12_ofReceipt_1 l E hI hbad)
  exact jq_ok (S' := S) (b' := irI (S.ro r9)) (hG) (fun g o9 => hok_ofReceipt (wm_A (wm_rm (c_X6_ofReceipt l E hI hr9))) ⟨Nat.le_of_ble_eq_true rfl, Nat.le_of_ble_eq_true rfl, Nat.le_of_ble_eq_true rfl, Nat.le_of_ble_eq_true rfl⟩) (refm_of (Nat.le_of_ble_eq_true rfl) (Nat.le_of_ble_eq_true rfl) (fun th g => c_X12_ofReceipt l E hI hr9))
set_option maxHeartbeats 1000000 in
theorem j_score {l : Launch} {E : EE} (hst : l.stackTraces = false) {S : St} (hG : Good S) (b0 b1 : Int32) : JQ l E yL_score cL_score 5 [(0, 10, 13, 13)] yX12_score cX12_score 3 .int S [.int b0, .int b1] Int32.toInt64 := by
  have hI := hG.1
  rcases argN hI.nc31 b0 with hbad | ⟨c9, hc9, rfl⟩
  · exact jq_thr hG (k := 1) (by decide) (fun g o9 => hth_score_1 (t_X6_score_1 l E hI hst hbad)) (fun th g => r_X12_score_1 l E hI hbad)
  rcases argN hI.nr31 b1 with hbad | ⟨r9, hr9, rfl⟩
  · exact jq_thr hG (k := 1) (by decide) (fun g o9 => hth_score_1 (t_X6_score_2 l E hI hst hc9 hbad)) (fun th g => r_X12_score_2 l E hI hc9 hbad)
  exact jq_ok (S' := S) (b' := scA S c9 (S.ra r9) (S.rd r9) (S.rx r9)) (hG) (fun g o9 => hok_score (wm_A (wm_rm (c_X6_score l E hI hc9 hr9))) ⟨Nat.le_of_ble_eq_true rfl, Nat.le_of_ble_eq_true rfl, Nat.le_of_ble_eq_true rfl, Nat.le_of_ble_eq_true rfl⟩) (refm_of (Nat.le_of_ble_eq_true rfl) (Nat.le_of_ble_eq_true rfl) (fun th g => c_X12_score l E hI hc9 hr9))
set_option maxHeartbeats 1000000 in
theorem j_many {l : Launch} {E : EE} (hst : l.stackTraces = false) {S : St} (hG : Good S) (b0 : Int32) : JQ l E yL_many cL_many 4 [(0, 9, 12, 21)] yX12_many cX12_many 2 .int S [.int b0] Int32.toInt64 := by
  have hI := hG.1
  rcases argW 12 (by decide) b0 with hbad | ⟨⟨hw91, hw92⟩, w9, hw9, rfl⟩
  · exact jq_thr hG (k := 1) (by decide) (fun g o9 => hth_many_1 (t_X6_many_1 l E hI hst hbad)) (fun th g => r_X12_many_1 l E hI hbad)
  exact jq_ok (S' := S) (b' := manyA S w9) (hG) (fun g o9 => hok_many (wm_A (wm_rm (c_X6_many l E hI (Nat.le_of_lt_succ hw9)))) ⟨Nat.le_of_ble_eq_true rfl, Nat.le_of_ble_eq_true rfl, Nat.le_of_ble_eq_true rfl, Nat.le_of_ble_eq_true rfl⟩) (refm_of (Nat.le_of_ble_eq_true rfl) (Nat.le_of_ble_eq_true rfl) (fun th g => c_X12_many l E hI (Nat.le_of_lt_succ hw9)))
set_option maxHeartbeats 1000000 in
theorem j_trustBehind {l : Launch} {E : EE} (hst : l.stackTraces = false) {S : St} (hG : Good S) (b0 b1 : Int32) : JQ l E yL_trustBehind cL_trustBehind 5 [(0, 10, 13, 13), (0, 10, 17, 21)] yX12_trustBehind cX12_trustBehind 3 .int S [.int b0, .int b1] Int32.toInt64 := by
  have hI := hG.1
  rcases argN hI.np31 b0 with hbad | ⟨p9, hp9, rfl⟩
  · exact jq_thr hG (k := 1) (by decide) (fun g o9 => hth_trustBehind_1 (t_X6_trustBehind_1 l E hI hst hbad)) (fun th g => r_X12_trustBehind_1 l E hI hbad)
  rcases argW 30 (by decide) b1 with hbad | ⟨⟨hd91, hd92⟩, d9, hd9, rfl⟩
  · exact jq_thr hG (k := 2) (by decide) (fun g o9 => hth_trustBehind_2 (t_X6_trustBehind_2 l E hI hst hp9 hbad)) (fun th g => r_X12_trustBehind_2 l E hI hp9 hbad)
  exact jq_ok (S' := S) (b' := trustA S p9 (nI d9)) (hG) (fun g o9 => hok_trustBehind (wm_A (wm_rm (c_X6_trustBehind l E hI hp9 hd91 hd92))) ⟨Nat.le_of_ble_eq_true rfl, Nat.le_of_ble_eq_true rfl, Nat.le_of_ble_eq_true rfl, Nat.le_of_ble_eq_true rfl⟩) (refm_of (Nat.le_of_ble_eq_true rfl) (Nat.le_of_ble_eq_true rfl) (fun th g => c_X12_trustBehind l E hI hp9 (Nat.le_of_lt_succ hd9)))
set_option maxHeartbeats 1000000 in
theorem j_day {l : Launch} {E : EE} (hst : l.stackTraces = false) {S : St} (hG : Good S) : JQ l E yL_day cL_day 3 [(0, 8, 11, 15)] yX12_day cX12_day 1 .int S [] Int32.toInt64 := by
  have hI := hG.1
  by_cases ht : 119 ≤ S.td
  · exact jq_thr hG (k := 1) (by decide) (fun g o9 => hth_day_1 (t_X6_day_1 l E hI hst ht)) (fun th g => r_X12_day_1 l E hI ht)
  replace ht := Nat.lt_of_not_le ht
  exact jq_ok (S' := dayS S) (b' := dayR S) (hG.pass ((hI.tdS ht).dayf S.nc) (NB.tr (T := S.s_td (S.td + 1)) ⟨rfl, rfl⟩ (nb_dayF S.nc))) (fun g o9 => hok_day (wm_A (c_X6_day l E hI ht)) ⟨Nat.le_of_ble_eq_true rfl, Nat.le_of_ble_eq_true rfl, Nat.le_of_ble_eq_true rfl, Nat.le_of_ble_eq_true rfl⟩) (refm_of (Nat.le_of_ble_eq_true rfl) (Nat.le_of_ble_eq_true rfl) (fun th g => c_X12_day l E hI ht))
