/-! the reference's picture kept; its arguments -/
theorem RB.desk {E : EE} {S : St} {th : Int32} {g : Gh} {H : Heap} (h : RB E S th g H) : eN E ≤ g.ad 1 0 ∧ g.ad 1 0 < H.size := ⟨h.2.2.1.1 _ (h.ow (k := 1) (i := 0) rfl), h.x.lt⟩
theorem RB.eN_le {E : EE} {S : St} {th : Int32} {g : Gh} {H : Heap} (h : RB E S th g H) : eN E ≤ H.size := Nat.le_of_lt (Nat.lt_of_le_of_lt h.desk.1 h.desk.2)
theorem RB.kept1 {E : EE} {S : St} {th : Int32} {g : Gh} {H H1 : Heap} {a : Nat} (h : RB E S th g H) (ha : ∀ k i, valB S g k i → ¬ g.ad k i = a) (haN : eN E ≤ a) (hq : ∀ q : Nat, q < H.size → ¬ q = a → H1[q]? = H[q]?) : RB E S th g H1 :=
  ⟨fun k i hv => ⟨(h.1 k i hv).1, (h.1 k i hv).2.kept (hq _ (h.1 k i hv).2.lt (ha k i hv))⟩, h.2.1, h.2.2.1, h.2.2.2.kept (fun q hq1 => hq q (Nat.lt_of_lt_of_le hq1 h.eN_le) (fun e => by omega))⟩
theorem RB.kept {E : EE} {S : St} {th : Int32} {g : Gh} {H H1 : Heap} (h : RB E S th g H) (hq : ∀ q : Nat, q < H.size → H1[q]? = H[q]?) : RB E S th g H1 :=
  ⟨fun k i hv => ⟨(h.1 k i hv).1, (h.1 k i hv).2.kept (hq _ (h.1 k i hv).2.lt)⟩, h.2.1, h.2.2.1, h.2.2.2.kept (fun q hq1 => hq q (Nat.lt_of_lt_of_le hq1 h.eN_le))⟩
theorem RB.fresh {E : EE} {S : St} {th : Int32} {g : Gh} {H : Heap} (h : RB E S th g H) : ∀ k i, valB S g k i → ¬ g.ad k i = H.size := fun k i hv => Nat.ne_of_lt (h.1 k i hv).2.lt
theorem RB.lt {E : EE} {S : St} {th : Int32} {g : Gh} {H : Heap} (h : RB E S th g H) {k i : Nat} (hv : valB S g k i) : g.ad k i < H.size := (h.1 k i hv).2.lt
theorem inB_ok {v a b : Int32} (h1 : ¬ v < a) (h2 : ¬ b < v) : inB v a b = 1 := by unfold inB; rw [if_neg h1, if_neg h2]
theorem inB_bad {v a b : Int32} (h : v < a ∨ b < v) : inB v a b = 0 := by
  unfold inB
  by_cases h1 : v < a
  · rw [if_pos h1]
  · rw [if_neg h1, if_pos (h.resolve_left h1)]
theorem noB_ok {v a b : Int32} (h1 : ¬ v < a) (h2 : ¬ b < v) : noB v a b = 0 := by unfold noB; rw [inB_ok h1 h2]; rfl
theorem noB_bad {v a b : Int32} (h : v < a ∨ b < v) : noB v a b = 1 := by unfold noB; rw [inB_bad h]; rfl
theorem n1_toInt {n : Nat} (hn : n < 2 ^ 31) : (nI n - 1).toInt = (n : Int) - 1 := by
  have z : (1 : Int32).toInt = 1 := rfl
  rw [sub_bd (by rw [nI_toInt hn, z]; omega) (by rw [nI_toInt hn, z]; omega), nI_toInt hn, z]
theorem rgN_ok {p n : Nat} (h : p < n) (hn : n < 2 ^ 31) : ¬ nI p < 0 ∧ ¬ nI n - 1 < nI p := by
  refine ⟨nI_pos (by omega), ?_⟩
  rw [Int32.lt_iff_toInt_lt, n1_toInt hn, nI_toInt (by omega)]
  omega
theorem rgN_bad {v : Int32} {n : Nat} (hn : n < 2 ^ 31) (h : v < 0 ∨ nI n ≤ v) : v < 0 ∨ nI n - 1 < v := by
  refine h.imp id fun h => ?_
  rw [Int32.le_iff_toInt_le, nI_toInt hn] at h
  rw [Int32.lt_iff_toInt_lt, n1_toInt hn]
  omega
theorem rgK_ok {k n : Nat} (h : k < n + 1) (hn : n < 2 ^ 20) : ¬ nI k < 0 ∧ ¬ nI n < nI k := by
  refine ⟨nI_pos (by omega), ?_⟩
  rw [Int32.lt_iff_toInt_lt, nI_toInt (by omega), nI_toInt (by omega)]
  omega
theorem rgK_bad {v : Int32} {n : Nat} (hn : n < 2 ^ 20) (h : v < 0 ∨ nI (n + 1) ≤ v) : v < 0 ∨ nI n < v := by
  refine h.imp id fun h => ?_
  rw [Int32.le_iff_toInt_le, nI_toInt (by omega)] at h
  rw [Int32.lt_iff_toInt_lt, nI_toInt (by omega)]
  omega
theorem k_isNo_0 (l : Launch) (E : EE) {S : St} {th : Int32} {g : Gh} (hI : Inv S) {p : Nat} (hp : p < S.np) : RM l E yX12_isNo cX12_isNo 2 .boolean (rD 1) [.ref (g.ad 1 0), .int (nI p)] (RB E S th g) (.int 0) := by
  have h := c_X12_isNo l E (th := th) (g := g) hI (nI p)
  rw [noB_ok (rgN_ok hp hI.np31).1 (rgN_ok hp hI.np31).2] at h
  exact h
theorem k_isNo_1 (l : Launch) (E : EE) {S : St} {th : Int32} {g : Gh} (hI : Inv S) {v : Int32} (hb : v < 0 ∨ nI S.np ≤ v) : RM l E yX12_isNo cX12_isNo 2 .boolean (rD 1) [.ref (g.ad 1 0), .int v] (RB E S th g) (.int 1) := by
  have h := c_X12_isNo l E (th := th) (g := g) hI v
  rw [noB_bad (rgN_bad hI.np31 hb)] at h
  exact h
theorem k_isNoOne_0 (l : Launch) (E : EE) {S : St} {th : Int32} {g : Gh} (hI : Inv S) {p : Nat} (hp : p < S.nr) : RM l E yX12_isNoOne cX12_isNoOne 2 .boolean (rD 1) [.ref (g.ad 1 0), .int (nI p)] (RB E S th g) (.int 0) := by
  have h := c_X12_isNoOne l E (th := th) (g := g) hI (nI p)
  rw [noB_ok (rgN_ok hp hI.nr31).1 (rgN_ok hp hI.nr31).2] at h
  exact h
theorem k_isNoOne_1 (l : Launch) (E : EE) {S : St} {th : Int32} {g : Gh} (hI : Inv S) {v : Int32} (hb : v < 0 ∨ nI S.nr ≤ v) : RM l E yX12_isNoOne cX12_isNoOne 2 .boolean (rD 1) [.ref (g.ad 1 0), .int v] (RB E S th g) (.int 1) := by
  have h := c_X12_isNoOne l E (th := th) (g := g) hI v
  rw [noB_bad (rgN_bad hI.nr31 hb)] at h
  exact h
theorem k_isNoKind_0 (l : Launch) (E : EE) {k : Nat} (hk : k < 4) : RM l E yX12_isNoKind cX12_isNoKind 1 .boolean (rD 1) [.int (nI k)] (fun _ => True) (.int 0) := by
  have h := c_X12_isNoKind l E (nI k)
  rw [show noB (nI k) 0 3 = 0 from noB_ok (rgK_ok (n := 3) hk (by decide)).1 (rgK_ok (n := 3) hk (by decide)).2] at h
  exact h
theorem k_isNoKind_1 (l : Launch) (E : EE) {v : Int32} (hb : v < 0 ∨ 4 ≤ v) : RM l E yX12_isNoKind cX12_isNoKind 1 .boolean (rD 1) [.int v] (fun _ => True) (.int 1) := by
  have h := c_X12_isNoKind l E v
  rw [show noB v 0 3 = 1 from noB_bad (rgK_bad (n := 3) (by decide) hb)] at h
  exact h
theorem k_isNoLand_0 (l : Launch) (E : EE) {k : Nat} (hk : k < 3) : RM l E yX12_isNoLand cX12_isNoLand 1 .boolean (rD 1) [.int (nI k)] (fun _ => True) (.int 0) := by
  have h := c_X12_isNoLand l E (nI k)
  rw [show noB (nI k) 0 2 = 0 from noB_ok (rgK_ok (n := 2) hk (by decide)).1 (rgK_ok (n := 2) hk (by decide)).2] at h
  exact h
theorem k_isNoLand_1 (l : Launch) (E : EE) {v : Int32} (hb : v < 0 ∨ 3 ≤ v) : RM l E yX12_isNoLand cX12_isNoLand 1 .boolean (rD 1) [.int v] (fun _ => True) (.int 1) := by
  have h := c_X12_isNoLand l E v
  rw [show noB v 0 2 = 1 from noB_bad (rgK_bad (n := 2) (by decide) hb)] at h
  exact h
theorem k_isNoDay_0 (l : Launch) (E : EE) {v : Int32} (h1 : ¬ v < 0) (h2 : ¬ 119 < v) : RM l E yX12_isNoDay cX12_isNoDay 1 .boolean (rD 1) [.int v] (fun _ => True) (.int 0) := by
  have h := c_X12_isNoDay l E v
  rw [noB_ok h1 h2] at h
  exact h
theorem k_isNoDay_1 (l : Launch) (E : EE) {v : Int32} (hb : v < 0 ∨ 119 < v) : RM l E yX12_isNoDay cX12_isNoDay 1 .boolean (rD 1) [.int v] (fun _ => True) (.int 1) := by
  have h := c_X12_isNoDay l E v
  rw [noB_bad hb] at h
  exact h
theorem k_isNoText_0 (l : Launch) (E : EE) {v : Int32} (h1 : ¬ v < 0) (h2 : ¬ 9 < v) : RM l E yX12_isNoText cX12_isNoText 1 .boolean (rD 1) [.int v] (fun _ => True) (.int 0) := by
  have h := c_X12_isNoText l E v
  rw [noB_ok h1 h2] at h
  exact h
theorem k_isNoText_1 (l : Launch) (E : EE) {v : Int32} (hb : v < 0 ∨ 9 < v) : RM l E yX12_isNoText cX12_isNoText 1 .boolean (rD 1) [.int v] (fun _ => True) (.int 1) := by
  have h := c_X12_isNoText l E v
  rw [noB_bad hb] at h
  exact h
theorem k_isIn_1 (l : Launch) (E : EE) {v a b : Int32} (h1 : ¬ v < a) (h2 : ¬ b < v) : RM l E yX12_isIn cX12_isIn 3 .boolean (rD 0) [.int v, .int a, .int b] (fun _ => True) (.int 1) := by
  have h := c_X12_isIn l E v a b
  rw [inB_ok h1 h2] at h
  exact h
theorem k_isIn_0 (l : Launch) (E : EE) {v a b : Int32} (hb : v < a ∨ b < v) : RM l E yX12_isIn cX12_isIn 3 .boolean (rD 0) [.int v, .int a, .int b] (fun _ => True) (.int 0) := by
  have h := c_X12_isIn l E v a b
  rw [inB_bad hb] at h
  exact h
