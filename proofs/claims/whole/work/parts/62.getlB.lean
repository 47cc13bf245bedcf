theorem c_getLB (l : Launch) (E : EE) {S : St} {th : Int32} {g : Gh} {H : Heap} {k : Nat} (i : Nat) (hk : k = 6 + i) (hR : RB E S th g H) (hi : i < 4) {j : Nat} (hj : j < S.cnt i) : RM l E yJx4a65c_get_915e3 cJx4a65c_get_915e3 2 (.object "java/lang/Object") (rD 2) [.ref (g.ad 2 i), .int (nI j)] (fun H => va_at E.1 vwCl (g.ad 2 i, .inr (0, [.int (g.md i), .ref (g.ad 3 i), .int (nI (S.cnt i))])) H ∧ va_at E.1 vwCl (g.ad 3 i, .inl (eO E, g.cap i, .inr (.inr (.inr (.inr (fun j => if j < S.cnt i then some (g.ad (6 + i) j) else none)))))) H) (.ref (g.ad k j)) := by
  subst hk
  obtain ⟨h1, h2⟩ := hR.cnt hi hj
  have h3 : S.cnt i < 2 ^ 31 := Nat.lt_of_le_of_lt (hR.2.1 i hi).1 h2
  exact c_get l E _ _ _ j _ _ _ _ _ ⟨rfl, h1, h2⟩ (nI_pos (Nat.lt_trans hj h3)) (nI_lt hj h3) (if_pos hj)
theorem RB.gp {E : EE} {S : St} {th : Int32} {g : Gh} {H : Heap} (hR : RB E S th g H) (i : Nat) (hi : i < 4) {j : Nat} (hj : j < S.cnt i) : va_at E.1 vwCl (g.ad 2 i, .inr (0, [.int (g.md i), .ref (g.ad 3 i), .int (nI (S.cnt i))])) H ∧ va_at E.1 vwCl (g.ad 3 i, .inl (eO E, g.cap i, .inr (.inr (.inr (.inr (fun j => if j < S.cnt i then some (g.ad (6 + i) j) else none)))))) H :=
  ⟨hR.ls hi, hR.le hi (Nat.lt_of_le_of_lt (Nat.zero_le _) (hR.cnt hi hj).1)⟩
/-! what the reference computes, in the order of its instructions -/
def inB (v a b : Int32) : Int32 := if v < a then 0 else if b < v then 0 else 1
def noB (v a b : Int32) : Int32 := if inB v a b = 0 then 1 else 0
def needsB (S : St) (c : Nat) : Nat := if S.ca c ≤ 2000 then (if S.ca c ≤ 500 then 1 else 2) else 3
theorem needsB_e (S : St) (c : Nat) : needsB S c = mostB S c := rfl
def isRepB (S : St) (c : Nat) : Int32 := if S.cs c = 3 then 1 else 0
/-- a row of a table of tables -/
theorem g_rald {p : Program} {l : Launch} {e : Env} {R : Room} {s : State} {m : MethodId} {args : Array Value} {below : List Frame} {meth : Method} {c : Code} {H : Heap} {locs : List Loc} {cells slots : Nat} {Q : State → Prop} {cc : ByteArray} {pc : Nat} {ls : Array Slot} {rest : List Value} {E : EE} (hx : p.tables.exec = Jvm.exec) (hb : c.code = cc) (hC : CX E s) {a n j q : Nat} {f : Nat → Option Nat} {i : Int32} (hat : va_at E.1 vwCl (a, .inl (eM E, n, .inr (.inr (.inr (.inr f))))) H) (hi : i = nI j ∧ j < n ∧ n < 2 ^ 31) (hf : f j = some q) (hdg : decode cc pc = .ok (.aaload, 1)) (kk : W p l e R s m args below meth c H locs cells slots Q (F0 m (pc + 1) ls (.ref q :: rest))) : W p l e R s m args below meth c H locs cells slots Q (F0 m pc ls (.int i :: .ref a :: rest)) := by
  obtain ⟨rfl, h1, h2⟩ := hi
  have hcl : (nI j).toNatClampNeg = j := nI_clamp (Nat.lt_trans h1 h2)
  have hin := vp_in_nI h1 h2
  refine W.aald (v := va_rf (f (nI j).toNatClampNeg)) (ty := .array .int) hx hb hat ((hC.2.1.2 3 _ rfl).1 n (fun j => va_rf (f j))) rfl (fun q => by cases q) (by show ¬ (nI j < 0 ∨ (arrV _ _ _).slots.size ≤ _); rw [arrV_size]; exact hin) (by show (arrV _ _ _).slots[_]? = _; rw [arrV_read _ _ (by rw [hcl]; exact h1)]) rfl rfl hdg ?_
  rw [hcl, hf]
  exact kk
