/-! what holds of a desk's state between (and, but for 'Stab', within) its calls -/
def InvP (S : St) (i : Nat) : Prop := (∀ j, S.bo i = some j → j < i) ∧ (∀ j, S.si i = some j → j < S.np) ∧ (0 ≤ (S.tr i).toInt ∧ (S.tr i).toInt ≤ 10) ∧ (0 ≤ (S.po i).toInt ∧ (S.po i).toInt ≤ 2) ∧ (-1 ≤ (S.aw i).toInt ∧ (S.aw i).toInt ≤ 119) ∧ (0 ≤ (S.aw i).toInt → S.si i ≠ none)
def InvT (S : St) (i : Nat) : Prop := S.tp i < S.np ∧ S.tl i < 3
def InvC (S : St) (i : Nat) : Prop := S.cp i < S.np ∧ S.ck i < 4 ∧ S.cl i < 3 ∧ (1 ≤ (S.ca i).toInt ∧ (S.ca i).toInt ≤ 9999) ∧ S.cd i ≤ S.td ∧ (∀ j, S.ct i = some j → j < S.nt) ∧ (∀ j, S.cr i = some j → j < S.nr) ∧ S.ce i ≤ 3 ∧ (S.cm i = 0 ∨ S.cm i = 1) ∧ (S.cs i = 0 ∨ S.cs i = 1 ∨ S.cs i = 2 ∨ S.cs i = 3 ∨ S.cs i = 4) ∧ (S.cs i = 0 → S.ce i = 0 ∧ S.cr i = none) ∧ (S.cs i = 1 ∨ S.cs i = 4 → S.cr i ≠ none) ∧ (∀ j, S.nr ≤ j → j < 31 → S.sp i &&& ((1 : Int32) <<< (nI j &&& 31)) = 0)
def InvR (S : St) (i : Nat) : Prop := ∀ j, S.ro i = some j → j < S.nc
def InvB (S : St) : Prop := (∀ j, 0 ≤ (S.tb 0 j).toInt ∧ (S.tb 0 j).toInt ≤ 9999) ∧ (∀ j, 0 ≤ (S.tb 1 j).toInt ∧ (S.tb 1 j).toInt ≤ 99999) ∧ (∀ j, 0 ≤ (S.tb 2 j).toInt ∧ (S.tb 2 j).toInt ≤ 100) ∧ (∀ j, 0 ≤ (S.tb 3 j).toInt ∧ (S.tb 3 j).toInt ≤ 30)
def Inv (S : St) : Prop := (S.np ≤ 8 ∧ S.nt = 0 ∧ S.nc ≤ 30 ∧ S.nr ≤ 30 ∧ S.td ≤ 119) ∧ (∀ i, i < S.np → InvP S i) ∧ (∀ i, i < S.nt → InvT S i) ∧ (∀ i, i < S.nc → InvC S i) ∧ (∀ i, i < S.nr → InvR S i) ∧ InvB S
theorem Inv.bo {S : St} (h : Inv S) {i j : Nat} (hi : i < S.np) (e : S.bo i = some j) : j < S.np := Nat.lt_trans ((h.2.1 i hi).1 j e) hi
theorem Inv.bol {S : St} (h : Inv S) {i j : Nat} (hi : i < S.np) (e : S.bo i = some j) : j < i := (h.2.1 i hi).1 j e
theorem Inv.si {S : St} (h : Inv S) {i j : Nat} (hi : i < S.np) (e : S.si i = some j) : j < S.np := (h.2.1 i hi).2.1 j e
theorem Inv.tp {S : St} (h : Inv S) {i : Nat} (hi : i < S.nt) : S.tp i < S.np := (h.2.2.1 i hi).1
theorem Inv.tl {S : St} (h : Inv S) {i : Nat} (hi : i < S.nt) : S.tl i < 3 := (h.2.2.1 i hi).2
theorem Inv.cp {S : St} (h : Inv S) {i : Nat} (hi : i < S.nc) : S.cp i < S.np := (h.2.2.2.1 i hi).1
theorem Inv.ck {S : St} (h : Inv S) {i : Nat} (hi : i < S.nc) : S.ck i < 4 := (h.2.2.2.1 i hi).2.1
theorem Inv.cl {S : St} (h : Inv S) {i : Nat} (hi : i < S.nc) : S.cl i < 3 := (h.2.2.2.1 i hi).2.2.1
theorem Inv.ca {S : St} (h : Inv S) {i : Nat} (hi : i < S.nc) : 1 ≤ (S.ca i).toInt ∧ (S.ca i).toInt ≤ 9999 := (h.2.2.2.1 i hi).2.2.2.1
theorem Inv.cd {S : St} (h : Inv S) {i : Nat} (hi : i < S.nc) : S.cd i ≤ S.td := (h.2.2.2.1 i hi).2.2.2.2.1
theorem Inv.ct {S : St} (h : Inv S) {i j : Nat} (hi : i < S.nc) (e : S.ct i = some j) : j < S.nt := (h.2.2.2.1 i hi).2.2.2.2.2.1 j e
theorem Inv.cr {S : St} (h : Inv S) {i j : Nat} (hi : i < S.nc) (e : S.cr i = some j) : j < S.nr := (h.2.2.2.1 i hi).2.2.2.2.2.2.1 j e
theorem Inv.ce {S : St} (h : Inv S) {i : Nat} (hi : i < S.nc) : S.ce i ≤ 3 := (h.2.2.2.1 i hi).2.2.2.2.2.2.2.1
theorem Inv.cm {S : St} (h : Inv S) {i : Nat} (hi : i < S.nc) : S.cm i = 0 ∨ S.cm i = 1 := (h.2.2.2.1 i hi).2.2.2.2.2.2.2.2.1
theorem Inv.cs {S : St} (h : Inv S) {i : Nat} (hi : i < S.nc) : S.cs i = 0 ∨ S.cs i = 1 ∨ S.cs i = 2 ∨ S.cs i = 3 ∨ S.cs i = 4 := (h.2.2.2.1 i hi).2.2.2.2.2.2.2.2.2.1
theorem Inv.ro {S : St} (h : Inv S) {i j : Nat} (hi : i < S.nr) (e : S.ro i = some j) : j < S.nc := h.2.2.2.2.1 i hi j e
theorem Inv.np {S : St} (h : Inv S) : S.np ≤ 8 := h.1.1
theorem Inv.nt0 {S : St} (h : Inv S) : S.nt = 0 := h.1.2.1
theorem Inv.nt {S : St} (h : Inv S) : S.nt ≤ 8 := by rw [h.nt0]; exact Nat.zero_le _
theorem Inv.nc {S : St} (h : Inv S) : S.nc ≤ 30 := h.1.2.2.1
theorem Inv.nr {S : St} (h : Inv S) : S.nr ≤ 30 := h.1.2.2.2.1
theorem Inv.td {S : St} (h : Inv S) : S.td ≤ 119 := h.1.2.2.2.2

