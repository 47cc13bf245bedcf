/-! a list that grows: ArraysSupport.newLength, Arrays.copyOf, ArrayList.grow, add; of lists and elements anywhere -/
section AddL
variable {p : Program} {l : Launch} {e : Env} {R : Room} {s : State} {m : MethodId} {args : Array Value} {below : List Frame} {meth : Method} {c : Code} {H : Heap} {locs : List Loc} {cells slots : Nat} {Q : State → Prop}
variable {cc : ByteArray} {pc : Nat} {ls : Array Slot} {rest : List Value} {E : EE} {own : String}
theorem g_gets (hx : p.tables.exec = Jvm.exec) (hb : c.code = cc) (hown : s.vm.findClass own = some m.cls) (hC : CX E s) {index : Nat} (hZ : ZE E H) (hlink : (Cond.fieldLink own index "java/util/ArrayList" "DEFAULTCAPACITY_EMPTY_ELEMENTDATA" "[Ljava/lang/Object;").before args s = true) (hdg : decode cc pc = .ok (.getstatic index, 3))
    (kk : W p l e R s m args below meth c H locs cells slots Q (F0 m (pc + 3) ls (.ref (eE E) :: rest))) : W p l e R s m args below meth c H locs cells slots Q (F0 m pc ls rest) := by
  obtain ⟨⟨cf, kf, fi, f, h1, h2, h3, h4, h5⟩, -⟩ := hC.2.2
  obtain ⟨-, -, ⟨cell, a1, a2, a3⟩, -⟩ := hZ
  exact W.gets hx hb hown hlink h1 h2 h3 h4 a1 (fun e => by rw [e] at a2; cases a2) (by rw [h5]; exact a3) rfl hdg kk
/-- anewarray of Object -/
theorem g_anew (hx : p.tables.exec = Jvm.exec) (hb : c.code = cc) (hown : s.vm.findClass own = some m.cls) (hC : CX E s) {index N : Nat} {A : Nat → Prop} {H0 : Heap} (hlink : (Cond.classLink own index "java/lang/Object").before args s = true) (hS : va_S A H0 H locs) (hN : N < 2 ^ 20) (hcells : cells + 1 ≤ R.cells) (hslots : slots + N ≤ R.slots) (hdg : decode cc pc = .ok (.anewarray index, 3))
    (kk : ∀ (H1 : Heap), va_at E.1 vwCl (H.size, .inl (eO E, N, .inr (.inr (.inr (.inr (fun _ => none)))))) H1 → H1.size = H.size + 1 → (∀ q : Nat, q < H.size → H1[q]? = H[q]?) → va_S A H0 H1 locs → W p l e R s m args below meth c H1 locs (cells + 1) (slots + N) Q (F0 m (pc + 3) ls (.ref H.size :: rest))) : W p l e R s m args below meth c H locs cells slots Q (F0 m pc ls (.int (nI N) :: rest)) := by
  have hcl : (nI N).toNatClampNeg = N := nI_clamp (Nat.lt_trans hN (by decide))
  have hnn : ¬ nI N < 0 := fun h => by
    have h2 := nI_toInt (Nat.lt_trans hN (by decide : 2 ^ 20 < 2 ^ 31))
    rw [Int32.lt_iff_toInt_lt, h2] at h
    have : (0 : Int32).toInt = 0 := rfl
    omega
  refine W.anew hx hb hown hlink (va_AO.use hC.2.2.2.2.1) rfl hdg rfl hnn (by rw [hcl]; omega) hcells (by rw [hcl]; exact hslots) fun cA kA comp f1 f2 f3 f4 => ?_
  sorry
end AddL
