/-! a list that grows: ArraysSupport.newLength, Arrays.copyOf, ArrayList.grow, add; of lists and elements anywhere -/
theorem zC_J8_200 {U : State} {a : Array Value} (h : TB U) : (Cond.constant RJ8 200 (2147483639)).before a U = true := tb_of h 311 (by decide +kernel) rfl
theorem zC_X6_146 {U : State} {a : Array Value} (h : TB U) : (Cond.constant RX6 146 (99999)).before a U = true := tb_of h 464 (by decide +kernel) rfl
section AddL
variable {p : Program} {l : Launch} {e : Env} {R : Room} {s : State} {m : MethodId} {args : Array Value} {below : List Frame} {meth : Method} {c : Code} {H : Heap} {locs : List Loc} {cells slots : Nat} {Q : State → Prop}
variable {cc : ByteArray} {pc : Nat} {ls : Array Slot} {rest : List Value} {E : EE} {own : String}
theorem g_gets (hx : p.tables.exec = Jvm.exec) (hb : c.code = cc) (hown : s.vm.findClass own = some m.cls) (hC : CX E s) {index : Nat} (hZ : ZE E H) (hlink : (Cond.fieldLink own index "java/util/ArrayList" "DEFAULTCAPACITY_EMPTY_ELEMENTDATA" "[Ljava/lang/Object;").before args s = true) (hdg : decode cc pc = .ok (.getstatic index, 3))
    (kk : W p l e R s m args below meth c H locs cells slots Q (F0 m (pc + 3) ls (.ref (eE E) :: rest))) : W p l e R s m args below meth c H locs cells slots Q (F0 m pc ls rest) := by
  obtain ⟨⟨cf, kf, fi, f, h1, h2, h3, h4, h5⟩, -⟩ := hC.2.2
  obtain ⟨-, -, ⟨cell, a1, a2, a3⟩, -⟩ := hZ
  exact W.gets hx hb hown hlink h1 h2 h3 h4 a1 (fun e => by rw [e] at a2; cases a2) (by rw [h5]; exact a3) rfl hdg kk
/-- anewarray of Object -/
theorem g_anew (hx : p.tables.exec = Jvm.exec) (hb : c.code = cc) (hown : s.vm.findClass own = some m.cls) (hC : CX E s) {index N : Nat} {A : Nat → Prop} {H0 : Heap} (hlink : (Cond.classLink own index "java/lang/Object").before args s = true) (hS : va_S A H0 H locs) (hN : N < 2 ^ 20) (hcells : cells + 1 ≤ R.cells) (hslots : slots + N ≤ R.slots) (hdg : decode cc pc = .ok (.anewarray index, 3))
    (kk : ∀ (H1 : Heap), va_at E.1 vwCl (H.size, .inl (eO E, N, .inr (.inr (.inr (.inr (fun _ => none)))))) H1 → H1.size = H.size + 1 → (∀ q : Nat, q < H.size → H1[q]? = H[q]?) → va_S A H0 H1 locs → W p l e R s m args below meth c H1 locs (cells + 1) (slots + N) Q (F0 m (pc + 3) ls (.ref H.size :: rest))) : W p l e R s m args below meth c H locs cells slots Q (F0 m pc ls (.int (nI N) :: rest)) := by
  have hcl : (nI N).toNatClampNeg = N := nI_clamp (Nat.lt_trans hN (by decide))
  have hnn : ¬ nI N < 0 := fun h => by
    have h2 := nI_toInt (Nat.lt_trans hN (by decide : 2 ^ 20 < 2 ^ 31))
    rw [Int32.lt_iff_toInt_lt, h2] at h
    have : (0 : Int32).toInt = 0 := rfl
    omega
  refine W.anew hx hb hown hlink (va_AO.use hC.2.2.2.2.1) rfl hdg rfl hnn (by rw [hcl]; omega) hcells (by rw [hcl]; exact hslots) fun cA kA comp f1 f2 f3 f4 => ?_
  obtain ⟨-, kB, comp2, r1, r2, r3, r4⟩ := hC.2.1.2 2 _ rfl
  have e1 : cA = eO E := Option.some.inj (f1.symm.trans r4)
  subst e1
  rw [hcl]
  refine kk _ ?_ (by rw [Array.size_push]) (fun q hq => by rw [Array.getElem?_push, if_neg (Nat.ne_of_lt hq)]) ⟨Nat.le_trans hS.1 (by rw [Array.size_push]; omega), fun x h1 h2 => by rw [Array.getElem?_push, if_neg (Nat.ne_of_lt (Nat.lt_of_lt_of_le h1 hS.1))]; exact hS.2.1 x h1 h2, hS.2.2⟩
  show _ = some (vp_cell _ _)
  rw [vp_cell_q, Array.getElem?_push_size, ← arrV_new]
  rfl
/-- newarray of ints -/
theorem g_newi (hx : p.tables.exec = Jvm.exec) (hb : c.code = cc) (hC : CX E s) {N : Nat} {A : Nat → Prop} {H0 : Heap} (hS : va_S A H0 H locs) (hN : N < 2 ^ 20) (hcells : cells + 1 ≤ R.cells) (hslots : slots + N ≤ R.slots) (hdg : decode cc pc = .ok (.newarray .int, 2))
    (kk : ∀ (H1 : Heap), va_at E.1 vwCl (H.size, .inl (eI E, N, .inl (fun _ => 0))) H1 → H1.size = H.size + 1 → (∀ q : Nat, q < H.size → H1[q]? = H[q]?) → va_S A H0 H1 locs → W p l e R s m args below meth c H1 locs (cells + 1) (slots + N) Q (F0 m (pc + 2) ls (.ref H.size :: rest))) : W p l e R s m args below meth c H locs cells slots Q (F0 m pc ls (.int (nI N) :: rest)) := by
  have hcl : (nI N).toNatClampNeg = N := nI_clamp (Nat.lt_trans hN (by decide))
  have hnn : ¬ nI N < 0 := fun h => by
    have h2 := nI_toInt (Nat.lt_trans hN (by decide : 2 ^ 20 < 2 ^ 31))
    rw [Int32.lt_iff_toInt_lt, h2] at h
    have : (0 : Int32).toInt = 0 := rfl
    omega
  refine va_newaK (atype := .int) hx hb (zA_75 hC.1) rfl hdg rfl hnn hcl (by rw [show componentBytes (newarray.typeOf .int) = 4 from rfl]; omega) hcells hslots rfl fun H1 cA e1 z1 o1 hAr hNm => ?_
  obtain ⟨-, r4⟩ := hC.2.1.2 0 _ rfl
  have hNm2 : s.vm.findClass ("[" ++ (FieldType.int).toString) = some cA := hNm
  have r5 : s.vm.findClass ("[" ++ (FieldType.int).toString) = some (eI E) := r4
  have e2 : cA = eI E := Option.some.inj (hNm2.symm.trans r5)
  subst e2
  refine kk H1 ?_ z1 o1 ⟨Nat.le_trans hS.1 (by omega), fun x h1 h2 => (o1 x (Nat.lt_of_lt_of_le h1 hS.1)).trans (hS.2.1 x h1 h2), hS.2.2⟩
  show _ = some (vp_cell _ _)
  rw [vp_cell_i]
  exact e1
/-- an object into an array of objects -/
theorem g_aast (hx : p.tables.exec = Jvm.exec) (hb : c.code = cc) (hC : CX E s) {A : Nat → Prop} {H0 : Heap} {a n j v ci : Nat} {f : Nat → Option Nat} {i : Int32} {vs : List Value} {r : vw_C} (hat : va_at E.1 vwCl (a, .inl (eO E, n, .inr (.inr (.inr (.inr f))))) H) (hv : va_at E.1 vwCl (v, .inr (ci, vs)) H) (hc : vwCl[ci]? = some r) (hr : r.1 ∈ cObj) (hS : va_S A H0 H locs) (hA : A a) (hi : i = nI j ∧ j < n ∧ n < 2 ^ 31) (hdg : decode cc pc = .ok (.aastore, 1))
    (kk : ∀ (H1 : Heap) (locs1 : List Loc), va_at E.1 vwCl (a, .inl (eO E, n, .inr (.inr (.inr (.inr (va_up f j (some v))))))) H1 → H1.size = H.size → (∀ q : Nat, q ≠ a → H1[q]? = H[q]?) → va_S A H0 H1 locs1 → W p l e R s m args below meth c H1 locs1 cells slots Q (F0 m (pc + 1) ls rest)) : W p l e R s m args below meth c H locs cells slots Q (F0 m pc ls (.ref v :: .int i :: .ref a :: rest)) := by
  obtain ⟨rfl, h1, h2⟩ := hi
  have hcl : (nI j).toNatClampNeg = j := nI_clamp (Nat.lt_trans h1 h2)
  have hin := vp_in_nI h1 h2
  have hlt : (nI j).toNatClampNeg < n := by rw [hcl]; exact h1
  have h0 : ¬ nI j < 0 := fun q => hin (Or.inl q)
  obtain ⟨r', hr', cellV, g1, g2, g3, -⟩ := hv
  have hrr : r' = r := Option.some.inj (hr'.symm.trans hc)
  subst hrr
  have hcls := (hC.2.1.1 ci r' hc).2
  obtain ⟨kA, comp, k1, k2, k3, -⟩ := (hC.2.1.2 2 _ rfl).2
  obtain ⟨kE, hkE, -⟩ := Vm.findClass_spec k3
  obtain ⟨c0, t1, f1, f2, f3⟩ := Cond.castable_spec (va_Nw.use (A := args) rfl (hC.2.2.2.2.2.2 _ hr))
  cases hcls.1.symm.trans f1
  cases k3.symm.trans f2
  obtain ⟨kC, hkC, -⟩ := hcls.2
  refine W.aast hx hb hat (fun q h => by cases h) (fun h => by cases h) k1 k2 rfl hkE ⟨h0, by show _ < (arrV _ _ _).slots.size; rw [arrV_size]; exact hlt⟩ g1 (fun q h => by rw [g3] at h; cases h) (by rw [g2]; exact hkC) (by rw [g2]; exact f3) rfl rfl hdg fun H1 e z oq => ?_
  refine kk H1 _ ?_ z oq (hS.put z oq hA)
  show H1[a]? = some (vp_cell _ _)
  rw [e]
  rw [vp_cell_q, vp_cell_q, arrV_store]
  congr 2
  funext q
  by_cases hq : q = j
  · subst hq
    simp [updV, va_up, va_rf, hcl]
  · simp [updV, va_up, hq, hcl]
end AddL

