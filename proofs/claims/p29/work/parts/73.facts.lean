/-! one call of the law's loop, case by case -/
abbrev LV (b x1 P sa i : Nat) : List (Nat × Value) := [(4, .int (nI i)), (3, .ref sa), (2, .int (nI P)), (1, .ref x1), (0, .ref b)]
def KT (p : Program) (l : Launch) (e : Env) (s : State) (m : MethodId) (args : Array Value) (below : List Frame) (meth : Method) (c : Code) (Q : State → Prop) (E : EE) (b x1 P sa i cells slots : Nat) : Prop :=
  ∀ (S' : St) (g' : Gh) (f' : Nat → Int32) (H' : Heap) (locs' : List Loc) (ls' : Array Slot) (cells' slots' : Nat), Fine S' → FR S' f' → S'.np = P → LI E S' g' x1 [(sa, 30, f')] H' → va_S (LA s) s.heap H' locs' → lv_has ls' 24 (LV b x1 P sa i) → (cells' ≤ cells + 10 ∧ slots' ≤ slots + 300) → W p l e room_1 s m args below meth c H' locs' cells' slots' Q (F0 m 970 ls' [])
def chgS (S : St) (p k l : Nat) (a x : Int32) : St := passS (mpS (addC S p k l a x (tripA S p (nI l))))
def recS (S : St) (a d x : Int32) : St := passS (mpS (addR S a d x))
theorem away_01 {S : St} {p : Nat} {d : Int32} : awayA S p d = 0 ∨ awayA S p d = 1 := by
  unfold awayA
  split
  · exact Or.inl rfl
  · exact Or.inr rfl
theorem min_le {a x y : Int32} (h : a ≤ minI x y) : ¬ x < a ∧ a ≤ y := by
  unfold minI at h
  split at h
  · rename_i h1
    refine ⟨fun h2 => ?_, ?_⟩ <;> rw [Int32.lt_iff_toInt_lt] at * <;> rw [Int32.le_iff_toInt_le] at * <;> omega
  · rename_i h1
    refine ⟨fun h2 => ?_, ?_⟩ <;> rw [Int32.lt_iff_toInt_lt] at * <;> rw [Int32.le_iff_toInt_le] at * <;> omega
theorem min_nle {a x y : Int32} (h : ¬ a ≤ minI x y) (h1 : ¬ x < a) : ¬ a ≤ y := by
  intro h2
  apply h
  unfold minI
  split
  · exact h2
  · rw [Int32.lt_iff_toInt_lt] at h1
    rw [Int32.le_iff_toInt_le]
    omega
theorem n_am {k : Nat} (hk : k < 2600) : 1 ≤ (nI (1 + k)).toInt ∧ (nI (1 + k)).toInt ≤ 2600 := by
  rw [nI_toInt (by omega)]
  omega
theorem n_am1 {k : Nat} (hk : k < 2600) : ¬ nI (1 + k) < 1 := by
  have h := n_am hk
  rw [Int32.lt_iff_toInt_lt]
  have z : (1 : Int32).toInt = 1 := rfl
  omega
theorem n_am2 {k : Nat} (hk : k < 2600) : ¬ 9999 < nI (1 + k) := by
  have h := n_am hk
  rw [Int32.lt_iff_toInt_lt]
  have z : (9999 : Int32).toInt = 9999 := rfl
  omega
theorem n_t1 {k : Nat} (hk : k < 4) : ¬ nI k < 0 := nI_pos (by omega)
theorem n_t2 {k : Nat} (hk : k < 4) : ¬ 9 < nI k := nI_nlt (a := 9) (by omega) (by decide)
theorem refuse_tm {l : Launch} {E : EE} (hst : l.stackTraces = false) {S : St} {g : Gh} (hI : Inv S) {p9 k9 l9 j : Nat} (hp : p9 < S.np) (hk : k9 < 4) (hl : l9 < 3) (hj : j < 2600) (h : ¬ nI (1 + j) ≤ minI (spendA S p9 k9 (nI l9)) (leftL S k9 0 (S.td / 30 + 1))) : TM l E yX6_charge cX6_charge 8 (some .int) (tD 4) [.ref (g.ad 1 0), .int (nI p9), .int (nI k9), .int (nI l9), .int (nI (1 + j)), .int 0] (RA E S g) "java/lang/IllegalStateException" := by
  by_cases h30 : 30 ≤ S.nc
  · exact t_X6_charge_6 l E hI hst hp hk hl (n_am1 hj) (n_am2 hj) (by decide) (by decide) h30
  · by_cases hs : spendA S p9 k9 (nI l9) < nI (1 + j)
    · exact t_X6_charge_7 l E hI hst hp hk hl (n_am1 hj) (n_am2 hj) (by decide) (by decide) (Nat.lt_of_not_le h30) hs
    · exact t_X6_charge_8 l E hI hst hp hk hl (n_am1 hj) (n_am2 hj) (by decide) (by decide) (Nat.lt_of_not_le h30) hs (min_nle h hs)
theorem ne30 {n : Nat} (h : n ≤ 30) (h1 : ¬ nI n = 30) : n < 30 := by
  rcases Nat.lt_or_eq_of_le h with q | q
  · exact q
  · rw [q] at h1; exact absurd rfl h1
theorem ne119 {n : Nat} (h : n ≤ 119) (h1 : ¬ nI n = 119) : n < 119 := by
  rcases Nat.lt_or_eq_of_le h with q | q
  · exact q
  · rw [q] at h1; exact absurd rfl h1
theorem chg_np {S : St} {p k l : Nat} {a x : Int32} : (chgS S p k l a x).np = S.np := by
  unfold chgS
  rw [ag_pass.e_np (by decide), nb_mp.1]
  exact ag_addC.e_np (by decide)
theorem rec_np {S : St} {a d x : Int32} : (recS S a d x).np = S.np := by
  unfold recS
  rw [ag_pass.e_np (by decide), nb_mp.1]
  exact ag_addR.e_np (by decide)
theorem chg_nc {S : St} {p k l : Nat} {a x : Int32} : (chgS S p k l a x).nc = S.nc + 1 := by
  unfold chgS
  rw [passS_nc, mpS_nc]
  rfl
theorem day_np {S : St} : (dayS S).np = S.np := by
  unfold dayS
  rw [ag_pass.e_np (by decide), (ag_dayF S.nc).e_np (by decide)]
  rfl
/-- the receipt's amount and day that the law tries -/
theorem of_am {ca : Int32} {j : Nat} (h : 1 ≤ ca.toInt ∧ ca.toInt ≤ 2600) (hj : j < 9) : ∃ am : Int32, (¬ am < 1 ∧ ¬ 9999 < am) ∧ (0 ≤ am.toInt ∧ am.toInt ≤ 9999) ∧ maxI 1 (ca - 4 + nI j) = am := by
  have z1 : (1 : Int32).toInt = 1 := rfl
  have z9 : (9999 : Int32).toInt = 9999 := rfl
  have z4 : (4 : Int32).toInt = 4 := rfl
  have ej : (nI j).toInt = (j : Int) := nI_toInt (by omega)
  have e1 : (ca - 4).toInt = ca.toInt - 4 := by rw [sub_bd (by rw [z4]; omega) (by rw [z4]; omega), z4]
  have e2 : (ca - 4 + nI j).toInt = ca.toInt - 4 + j := by rw [add_bd (by rw [e1, ej]; omega) (by rw [e1, ej]; omega), e1, ej]
  refine ⟨_, ⟨?_, ?_⟩, ⟨?_, ?_⟩, rfl⟩ <;> unfold maxI <;> split <;> rename_i q <;> rw [Int32.lt_iff_toInt_lt] at q <;> (try rw [Int32.lt_iff_toInt_lt]) <;> omega
theorem of_dy {d j : Nat} (h : d ≤ 119) (hj : j < 6) : ∃ dy : Int32, (¬ dy < 0 ∧ ¬ 119 < dy) ∧ (0 ≤ dy.toInt ∧ dy.toInt ≤ 119) ∧ minI 119 (nI d + nI j) = dy := by
  have z0 : (0 : Int32).toInt = 0 := rfl
  have z9 : (119 : Int32).toInt = 119 := rfl
  have e2 : (nI d + nI j).toInt = ((d + j : Nat) : Int) := by rw [nI_add]; exact nI_toInt (by omega)
  refine ⟨_, ⟨?_, ?_⟩, ⟨?_, ?_⟩, rfl⟩ <;> unfold minI <;> split <;> rename_i q <;> rw [Int32.lt_iff_toInt_lt] at q <;> (try rw [Int32.lt_iff_toInt_lt]) <;> omega
theorem li_tail {E : EE} {S : St} {g : Gh} {x1 : Nat} {t : Nat × Nat × (Nat → Int32)} {ar : AR} {H : Heap} (h : LI E S g x1 (t :: ar) H) : LI E S g x1 ar H := ⟨h.1, h.2.1, h.2.2.1, fun u hu => h.2.2.2 u (List.mem_cons_of_mem _ hu)⟩
/-- the trust told, person by person -/
def trI (S : St) (i : Nat) : Nat → Int32 := fun k => if k < i then trustA S k 1 else 0
theorem trI_0 {S : St} : trI S 0 = fun _ => 0 := by
  funext k
  unfold trI
  exact if_neg (Nat.not_lt_zero _)
theorem trI_s {S : St} {i : Nat} : va_up (trI S i) i (trustA S i 1) = trI S (i + 1) := by
  funext k
  by_cases e : k = i
  · subst e
    rw [va_up_self]
    unfold trI
    exact (if_pos (Nat.lt_succ_self _)).symm
  · rw [va_up_ne _ _ e]
    unfold trI
    by_cases h : k < i
    · rw [if_pos h, if_pos (Nat.lt_succ_of_lt h)]
    · rw [if_neg h, if_neg (by omega)]
theorem trI_at {S : St} {P i : Nat} (h : i < P) : trI S P i = trustA S i 1 := by
  unfold trI
  exact if_pos h
theorem fine_rec {S : St} (h : Fine S) {am dy tx : Int32} (h30 : S.nr < 30) (h1 : 0 ≤ am.toInt ∧ am.toInt ≤ 9999) (h2 : 0 ≤ dy.toInt ∧ dy.toInt ≤ 119) :
    Fine (recS S am dy tx) ∧ (recS S am dy tx).ro S.nr = (wB S am dy tx S.nc).1 ∧ (recS S am dy tx).nr = S.nr + 1 ∧ (recS S am dy tx).nc = S.nc ∧ (∀ c, (wB S am dy tx S.nc).1 = some c → c < S.nc ∧ (recS S am dy tx).cr c = some S.nr ∧ ¬ scA (recS S am dy tx) c ((recS S am dy tx).ra S.nr) ((recS S am dy tx).rd S.nr) ((recS S am dy tx).rx S.nr) < 0) ∧ (∀ d, d < S.nc → (recS S am dy tx).cs d = S.cs d ∨ S.cs d = 1 ∨ S.cs d = 0) := fine_receipt h h30 h1 h2
theorem wm_any {l : Launch} {E : EE} {y : MethodName} {b : ByteArray} {n : Nat} {ret : Option FieldType} {rm : Room} {As : List Value} {Pre : Heap → Prop} {own : Nat → Prop} {S' : St} {g : Gh} {a a2 : Int32} (h : WM l E y b n ret rm As Pre own (CAp E S' g a)) (e : a = a2) : WM l E y b n ret rm As Pre own (CAp E S' g a2) := by rw [← e]; exact h
