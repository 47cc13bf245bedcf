section New
variable {p : Program} {l : Launch} {e : Env} {R : Room} {s : State} {m : MethodId} {args : Array Value} {below : List Frame} {meth : Method} {c : Code} {H : Heap} {locs : List Loc} {cells slots : Nat} {Q : State → Prop}
variable {cc : ByteArray} {pc : Nat} {ls : Array Slot} {rest : List Value} {E : EE} {own : String}
theorem nw_X2 (hx : p.tables.exec = Jvm.exec) (hb : c.code = cc) (hown : s.vm.findClass own = some m.cls) (hC : CX E s) {index : Nat} {A : Nat → Prop} {H0 : Heap} (hcl : (Cond.classLink own index RX2).before args s = true) (hS : va_S A H0 H locs) (hcells : cells + 1 ≤ R.cells) (hslots : slots + 6 ≤ R.slots) (hdg : decode cc pc = .ok (.new index, 3)) (kk : ∀ (H1 : Heap), va_at E.1 vwCl (H.size, .inr (2, [.int (0), .null, .int (0), .int (0), .int (0), .null])) H1 → H1.size = H.size + 1 → (∀ q : Nat, q < H.size → H1[q]? = H[q]?) → va_S A H0 H1 locs → W p l e R s m args below meth c H1 locs (cells + 1) (slots + 6) Q (F0 m (pc + 3) ls (.ref H.size :: rest))) : W p l e R s m args below meth c H locs cells slots Q (F0 m pc ls rest) :=
  g_new hx hb hown hC (twX2 hC.1) tyX2 tyX2_ok (ci := 2) rfl hcl (zI_X2 hC.1) (zn_X2 hC.1) hS (fs := [.int (0), .null, .int (0), .int (0), .int (0), .null]) (lt_s (lt_s (lt_s (lt_s (lt_s (lt_s lt_0 rfl) rfl) rfl) rfl) rfl) rfl) hcells hslots hdg kk
theorem nw_X0 (hx : p.tables.exec = Jvm.exec) (hb : c.code = cc) (hown : s.vm.findClass own = some m.cls) (hC : CX E s) {index : Nat} {A : Nat → Prop} {H0 : Heap} (hcl : (Cond.classLink own index RX0).before args s = true) (hS : va_S A H0 H locs) (hcells : cells + 1 ≤ R.cells) (hslots : slots + 13 ≤ R.slots) (hdg : decode cc pc = .ok (.new index, 3)) (kk : ∀ (H1 : Heap), va_at E.1 vwCl (H.size, .inr (1, [.int (0), .null, .int (0), .int (0), .int (0), .int (0), .int (0), .null, .int (0), .null, .int (0), .int (0), .int (0)])) H1 → H1.size = H.size + 1 → (∀ q : Nat, q < H.size → H1[q]? = H[q]?) → va_S A H0 H1 locs → W p l e R s m args below meth c H1 locs (cells + 1) (slots + 13) Q (F0 m (pc + 3) ls (.ref H.size :: rest))) : W p l e R s m args below meth c H locs cells slots Q (F0 m pc ls rest) :=
  g_new hx hb hown hC (twX0 hC.1) tyX0 tyX0_ok (ci := 1) rfl hcl (zI_X0 hC.1) (zn_X0 hC.1) hS (fs := [.int (0), .null, .int (0), .int (0), .int (0), .int (0), .int (0), .null, .int (0), .null, .int (0), .int (0), .int (0)]) (lt_s (lt_s (lt_s (lt_s (lt_s (lt_s (lt_s (lt_s (lt_s (lt_s (lt_s (lt_s (lt_s lt_0 rfl) rfl) rfl) rfl) rfl) rfl) rfl) rfl) rfl) rfl) rfl) rfl) rfl) hcells hslots hdg kk
theorem nw_X3 (hx : p.tables.exec = Jvm.exec) (hb : c.code = cc) (hown : s.vm.findClass own = some m.cls) (hC : CX E s) {index : Nat} {A : Nat → Prop} {H0 : Heap} (hcl : (Cond.classLink own index RX3).before args s = true) (hS : va_S A H0 H locs) (hcells : cells + 1 ≤ R.cells) (hslots : slots + 5 ≤ R.slots) (hdg : decode cc pc = .ok (.new index, 3)) (kk : ∀ (H1 : Heap), va_at E.1 vwCl (H.size, .inr (3, [.int (0), .int (0), .int (0), .int (0), .null])) H1 → H1.size = H.size + 1 → (∀ q : Nat, q < H.size → H1[q]? = H[q]?) → va_S A H0 H1 locs → W p l e R s m args below meth c H1 locs (cells + 1) (slots + 5) Q (F0 m (pc + 3) ls (.ref H.size :: rest))) : W p l e R s m args below meth c H locs cells slots Q (F0 m pc ls rest) :=
  g_new hx hb hown hC (twX3 hC.1) tyX3 tyX3_ok (ci := 3) rfl hcl (zI_X3 hC.1) (zn_X3 hC.1) hS (fs := [.int (0), .int (0), .int (0), .int (0), .null]) (lt_s (lt_s (lt_s (lt_s (lt_s lt_0 rfl) rfl) rfl) rfl) rfl) hcells hslots hdg kk
theorem nw_X4 (hx : p.tables.exec = Jvm.exec) (hb : c.code = cc) (hown : s.vm.findClass own = some m.cls) (hC : CX E s) {index : Nat} {A : Nat → Prop} {H0 : Heap} (hcl : (Cond.classLink own index RX4).before args s = true) (hS : va_S A H0 H locs) (hcells : cells + 1 ≤ R.cells) (hslots : slots + 3 ≤ R.slots) (hdg : decode cc pc = .ok (.new index, 3)) (kk : ∀ (H1 : Heap), va_at E.1 vwCl (H.size, .inr (4, [.int (0), .int (0), .null])) H1 → H1.size = H.size + 1 → (∀ q : Nat, q < H.size → H1[q]? = H[q]?) → va_S A H0 H1 locs → W p l e R s m args below meth c H1 locs (cells + 1) (slots + 3) Q (F0 m (pc + 3) ls (.ref H.size :: rest))) : W p l e R s m args below meth c H locs cells slots Q (F0 m pc ls rest) :=
  g_new hx hb hown hC (twX4 hC.1) tyX4 tyX4_ok (ci := 4) rfl hcl (zI_X4 hC.1) (zn_X4 hC.1) hS (fs := [.int (0), .int (0), .null]) (lt_s (lt_s (lt_s lt_0 rfl) rfl) rfl) hcells hslots hdg kk
theorem nw_Jx4a65c (hx : p.tables.exec = Jvm.exec) (hb : c.code = cc) (hown : s.vm.findClass own = some m.cls) (hC : CX E s) {index : Nat} {A : Nat → Prop} {H0 : Heap} (hcl : (Cond.classLink own index RJx4a65c).before args s = true) (hS : va_S A H0 H locs) (hcells : cells + 1 ≤ R.cells) (hslots : slots + 3 ≤ R.slots) (hdg : decode cc pc = .ok (.new index, 3)) (kk : ∀ (H1 : Heap), va_at E.1 vwCl (H.size, .inr (0, [.int (0), .null, .int (0)])) H1 → H1.size = H.size + 1 → (∀ q : Nat, q < H.size → H1[q]? = H[q]?) → va_S A H0 H1 locs → W p l e R s m args below meth c H1 locs (cells + 1) (slots + 3) Q (F0 m (pc + 3) ls (.ref H.size :: rest))) : W p l e R s m args below meth c H locs cells slots Q (F0 m pc ls rest) :=
  g_new hx hb hown hC (twJx4a65c hC.1) tyJx4a65c tyJx4a65c_ok (ci := 0) rfl hcl (zI_Jx4a65c hC.1) (zn_Jx4a65c hC.1) hS (fs := [.int (0), .null, .int (0)]) (lt_s (lt_s (lt_s lt_0 rfl) rfl) rfl) hcells hslots hdg kk
theorem nw_X6 (hx : p.tables.exec = Jvm.exec) (hb : c.code = cc) (hown : s.vm.findClass own = some m.cls) (hC : CX E s) {index : Nat} {A : Nat → Prop} {H0 : Heap} (hcl : (Cond.classLink own index RX6).before args s = true) (hS : va_S A H0 H locs) (hcells : cells + 1 ≤ R.cells) (hslots : slots + 9 ≤ R.slots) (hdg : decode cc pc = .ok (.new index, 3)) (kk : ∀ (H1 : Heap), va_at E.1 vwCl (H.size, .inr (6, [.null, .null, .null, .null, .null, .null, .null, .null, .int (0)])) H1 → H1.size = H.size + 1 → (∀ q : Nat, q < H.size → H1[q]? = H[q]?) → va_S A H0 H1 locs → W p l e R s m args below meth c H1 locs (cells + 1) (slots + 9) Q (F0 m (pc + 3) ls (.ref H.size :: rest))) : W p l e R s m args below meth c H locs cells slots Q (F0 m pc ls rest) :=
  g_new hx hb hown hC (twX6 hC.1) tyX6 tyX6_ok (ci := 6) rfl hcl (zI_X6 hC.1) (zn_X6 hC.1) hS (fs := [.null, .null, .null, .null, .null, .null, .null, .null, .int (0)]) (lt_s (lt_s (lt_s (lt_s (lt_s (lt_s (lt_s (lt_s (lt_s lt_0 rfl) rfl) rfl) rfl) rfl) rfl) rfl) rfl) rfl) hcells hslots hdg kk
end New
/-! the class's picture where other things change -/
theorem RA.desk {E : EE} {S : St} {g : Gh} {H : Heap} (h : RA E S g H) : eN E ≤ g.ad 1 0 ∧ g.ad 1 0 < H.size := ⟨h.2.2.1.1 _ (h.ow (k := 1) (i := 0) rfl), h.x.lt⟩
theorem RA.eN_le {E : EE} {S : St} {g : Gh} {H : Heap} (h : RA E S g H) : eN E ≤ H.size := Nat.le_of_lt (Nat.lt_of_le_of_lt h.desk.1 h.desk.2)
theorem RA.kept1 {E : EE} {S : St} {g : Gh} {H H1 : Heap} {a : Nat} (h : RA E S g H) (ha : ∀ k i, valA S g k i → ¬ g.ad k i = a) (haN : eN E ≤ a) (hq : ∀ q : Nat, q < H.size → ¬ q = a → H1[q]? = H[q]?) : RA E S g H1 :=
  ⟨fun k i hv => ⟨(h.1 k i hv).1, (h.1 k i hv).2.kept (hq _ (h.1 k i hv).2.lt (ha k i hv))⟩, h.2.1, h.2.2.1, h.2.2.2.kept (fun q hq1 => hq q (Nat.lt_of_lt_of_le hq1 h.eN_le) (fun e => by omega))⟩
theorem RA.kept {E : EE} {S : St} {g : Gh} {H H1 : Heap} (h : RA E S g H) (hq : ∀ q : Nat, q < H.size → H1[q]? = H[q]?) : RA E S g H1 :=
  ⟨fun k i hv => ⟨(h.1 k i hv).1, (h.1 k i hv).2.kept (hq _ (h.1 k i hv).2.lt)⟩, h.2.1, h.2.2.1, h.2.2.2.kept (fun q hq1 => hq q (Nat.lt_of_lt_of_le hq1 h.eN_le))⟩
theorem RA.fresh {E : EE} {S : St} {g : Gh} {H : Heap} (h : RA E S g H) : ∀ k i, valA S g k i → ¬ g.ad k i = H.size := fun k i hv => Nat.ne_of_lt (h.1 k i hv).2.lt
theorem RA.lstA {E : EE} {S : St} {g : Gh} {H : Heap} (h : RA E S g H) {i : Nat} (hi : i < 4) : (g.cap i = 0 ∧ g.ad 3 i = eE E) ∨ (0 < g.cap i ∧ va_at E.1 vwCl (g.ad 3 i, .inl (eO E, g.cap i, .inr (.inr (.inr (.inr (LF (S.cnt i) (g.ad (6 + i)))))))) H) := by
  rcases Nat.eq_zero_or_pos (g.cap i) with h0 | h0
  · exact Or.inl ⟨h0, h.2.2.1.2 i hi h0⟩
  · exact Or.inr ⟨h0, h.le hi h0⟩
theorem RA.ne23 {E : EE} {S : St} {g : Gh} {H : Heap} (h : RA E S g H) {i : Nat} (hi : i < 4) : ¬ g.ad 2 i = g.ad 3 i := by
  intro e
  rcases Nat.eq_zero_or_pos (g.cap i) with h0 | h0
  · have h1 := h.2.2.1.1 _ (h.ow (k := 2) (i := i) hi)
    have h2 := h.2.2.1.2 i hi h0
    have h3 := h.2.2.2.2.1
    omega
  · have h1 := (h.1 2 i hi).1
    rw [e, (h.1 3 i ⟨hi, h0⟩).1] at h1
    exact absurd (Prod.mk.inj h1).1 (by decide)
theorem RA.neK {E : EE} {S : St} {g : Gh} {H : Heap} (h : RA E S g H) {i k j : Nat} (hi : i < 4) (hv : valA S g k j) (hk : ¬ k = 2) : ¬ g.ad k j = g.ad 2 i := by
  intro e
  have h1 := (h.1 k j hv).1
  rw [e, (h.1 2 i hi).1] at h1
  exact hk (Prod.mk.inj h1).1.symm
theorem RA.a2lt {E : EE} {S : St} {g : Gh} {H : Heap} (h : RA E S g H) {i : Nat} (hi : i < 4) : g.ad 2 i < H.size := (h.1 2 i hi).2.lt
theorem RA.a3lt {E : EE} {S : St} {g : Gh} {H : Heap} (h : RA E S g H) {i : Nat} (hi : i < 4) : g.ad 3 i < H.size := by
  rcases Nat.eq_zero_or_pos (g.cap i) with h0 | h0
  · rw [h.2.2.1.2 i hi h0]; exact Nat.lt_of_lt_of_le h.2.2.2.2.1 h.eN_le
  · exact (h.1 3 i ⟨hi, h0⟩).2.lt
/-- the new places of a picture against the old's -/
def gX (g g1 : Gh) (sz sz1 : Nat) : Prop := (∀ q, ow g1 q → ow g q ∨ (sz ≤ q ∧ q < sz1)) ∧ g1.ad 1 0 = g.ad 1 0
theorem gX.refl (g : Gh) (sz sz1 : Nat) : gX g g sz sz1 := ⟨fun _ h => Or.inl h, rfl⟩
theorem gX.mono {g g1 : Gh} {sz a b : Nat} (h : gX g g1 sz a) (hab : a ≤ b) : gX g g1 sz b := ⟨fun q hq => (h.1 q hq).imp id (fun w => ⟨w.1, Nat.lt_of_lt_of_le w.2 hab⟩), h.2⟩
theorem gX_add {g : Gh} {k i n a e c sz sz1 : Nat} (hk : ¬ k = 1) (ha : sz ≤ a ∧ a < sz1) (he : (e = g.ad 3 i ∧ ow g (g.ad 3 i)) ∨ (sz ≤ e ∧ e < sz1)) : gX g (gAdd g k i n a e c) sz sz1 := by
  refine ⟨fun q hw => ?_, ?_⟩
  · have hw : ((if q = a then (k, n) else if q = e then (3, i) else g.kd q) : Nat × Nat).1 ≠ 0 := hw
    by_cases h1 : q = a
    · exact Or.inr (h1 ▸ ha)
    · by_cases h2 : q = e
      · rcases he with ⟨h3, h4⟩ | h3
        · exact Or.inl (by rw [h2, h3]; exact h4)
        · exact Or.inr (h2 ▸ h3)
      · rw [if_neg h1, if_neg h2] at hw
        exact Or.inl hw
  · show cond (Nat.beq 1 k) _ (cond (Nat.beq 1 3) _ (g.ad 1 0)) = _
    rw [cnd_ne (fun e2 => hk e2.symm)]; rfl
theorem gAdd_new {g : Gh} {k i n a e c : Nat} : (gAdd g k i n a e c).ad k n = a := by
  show cond (Nat.beq k k) (cond (Nat.beq n n) a _) _ = a
  rw [cnd_self, cnd_self]
theorem Inv.adP {S : St} (h : Inv S) {b : Option Nat} (h8 : S.np < 8) (hb : ∀ j, b = some j → j < S.np) : Inv (addP S b) := by
  obtain ⟨⟨a1, a2, a3, a4, a5⟩, pp, tt, cc, r, bb⟩ := h
  refine ⟨⟨h8, a2, a3, a4, a5⟩, fun i hi => ?_, fun i hi => ?_, fun i hi => ?_, r, bb⟩
  · by_cases e : i = S.np
    · subst e
      unfold InvP
      rw [show (addP S b).bo S.np = b from va_up_self _ _ _, show (addP S b).si S.np = none from va_up_self _ _ _, show (addP S b).tr S.np = 5 from va_up_self _ _ _, show (addP S b).po S.np = 0 from va_up_self _ _ _, show (addP S b).aw S.np = -1 from va_up_self _ _ _]
      exact ⟨hb, (fun j hj => by cases hj), by decide, by decide, by decide, fun hz => absurd hz (by decide)⟩
    · have hi2 : i < S.np := by
        have : i < S.np + 1 := hi
        omega
      unfold InvP
      rw [show (addP S b).bo i = S.bo i from va_up_ne _ _ e, show (addP S b).si i = S.si i from va_up_ne _ _ e, show (addP S b).tr i = S.tr i from va_up_ne _ _ e, show (addP S b).po i = S.po i from va_up_ne _ _ e, show (addP S b).aw i = S.aw i from va_up_ne _ _ e]
      obtain ⟨q1, q2, q3, q4, q5, q6⟩ := pp i hi2
      exact ⟨q1, fun j hj => Nat.lt_succ_of_lt (q2 j hj), q3, q4, q5, q6⟩
  · exact ⟨Nat.lt_succ_of_lt (tt i hi).1, (tt i hi).2⟩
  · obtain ⟨q1, q2⟩ := cc i hi
    exact ⟨Nat.lt_succ_of_lt q1, q2⟩
theorem Inv.adC {S : St} (h : Inv S) {p9 k9 l9 : Nat} {a9 x9 : Int32} {t9 : Option Nat} (h8 : S.nc < 30) (hp : p9 < S.np) (hk : k9 < 4) (hl : l9 < 3) (ha : 1 ≤ a9.toInt ∧ a9.toInt ≤ 9999) (ht : ∀ j, t9 = some j → j < S.nt) : Inv (addC S p9 k9 l9 a9 x9 t9) := by
  obtain ⟨⟨a1, a2, a3, a4, a5⟩, pp, tt, cc, r, bb⟩ := h
  refine ⟨⟨a1, a2, h8, a4, a5⟩, pp, tt, fun i hi => ?_, fun i hi j hj => Nat.lt_succ_of_lt (r i hi j hj), bb⟩
  by_cases e : i = S.nc
  · subst e
    unfold InvC
    rw [show (addC S p9 k9 l9 a9 x9 t9).cp S.nc = p9 from va_up_self _ _ _, show (addC S p9 k9 l9 a9 x9 t9).ck S.nc = k9 from va_up_self _ _ _, show (addC S p9 k9 l9 a9 x9 t9).cl S.nc = l9 from va_up_self _ _ _, show (addC S p9 k9 l9 a9 x9 t9).ca S.nc = a9 from va_up_self _ _ _, show (addC S p9 k9 l9 a9 x9 t9).cd S.nc = S.td from va_up_self _ _ _, show (addC S p9 k9 l9 a9 x9 t9).ct S.nc = t9 from va_up_self _ _ _, show (addC S p9 k9 l9 a9 x9 t9).cr S.nc = none from va_up_self _ _ _, show (addC S p9 k9 l9 a9 x9 t9).ce S.nc = 0 from va_up_self _ _ _, show (addC S p9 k9 l9 a9 x9 t9).cm S.nc = 0 from va_up_self _ _ _, show (addC S p9 k9 l9 a9 x9 t9).cs S.nc = 0 from va_up_self _ _ _, show (addC S p9 k9 l9 a9 x9 t9).sp S.nc = 0 from va_up_self _ _ _]
    exact ⟨hp, hk, hl, ha, Nat.le_refl _, ht, (fun j hj => by cases hj), Nat.zero_le _, Or.inl rfl, Or.inl rfl, fun _ => ⟨rfl, rfl⟩, (fun z => by rcases z with z | z <;> exact absurd z (by decide)), fun j _ _ => Int32.zero_and⟩
  · have hi2 : i < S.nc := by
      have : i < S.nc + 1 := hi
      omega
    unfold InvC
    rw [show (addC S p9 k9 l9 a9 x9 t9).cp i = S.cp i from va_up_ne _ _ e, show (addC S p9 k9 l9 a9 x9 t9).ck i = S.ck i from va_up_ne _ _ e, show (addC S p9 k9 l9 a9 x9 t9).cl i = S.cl i from va_up_ne _ _ e, show (addC S p9 k9 l9 a9 x9 t9).ca i = S.ca i from va_up_ne _ _ e, show (addC S p9 k9 l9 a9 x9 t9).cd i = S.cd i from va_up_ne _ _ e, show (addC S p9 k9 l9 a9 x9 t9).ct i = S.ct i from va_up_ne _ _ e, show (addC S p9 k9 l9 a9 x9 t9).cr i = S.cr i from va_up_ne _ _ e, show (addC S p9 k9 l9 a9 x9 t9).ce i = S.ce i from va_up_ne _ _ e, show (addC S p9 k9 l9 a9 x9 t9).cm i = S.cm i from va_up_ne _ _ e, show (addC S p9 k9 l9 a9 x9 t9).cs i = S.cs i from va_up_ne _ _ e, show (addC S p9 k9 l9 a9 x9 t9).sp i = S.sp i from va_up_ne _ _ e]
    exact cc i hi2
theorem Inv.adR {S : St} (h : Inv S) {a9 d9 x9 : Int32} (h8 : S.nr < 30) : Inv (addR S a9 d9 x9) := by
  obtain ⟨⟨a1, a2, a3, a4, a5⟩, pp, tt, cc, r, bb⟩ := h
  refine ⟨⟨a1, a2, a3, h8, a5⟩, pp, tt, fun i hi => ?_, fun i hi => ?_, bb⟩
  · obtain ⟨q1, q2, q3, q4, q5, q6, q7, q8, q9, q10, q11, q12, q13⟩ := cc i hi
    exact ⟨q1, q2, q3, q4, q5, q6, fun j hj => Nat.lt_succ_of_lt (q7 j hj), q8, q9, q10, q11, q12, fun j h1 h2 => q13 j (Nat.le_of_succ_le h1) h2⟩
  · by_cases e : i = S.nr
    · subst e
      unfold InvR
      rw [show (addR S a9 d9 x9).ro S.nr = none from va_up_self _ _ _]
      intro j hj
      cases hj
    · have hi2 : i < S.nr := by
        have : i < S.nr + 1 := hi
        omega
      unfold InvR
      rw [show (addR S a9 d9 x9).ro i = S.ro i from va_up_ne _ _ e]
      exact r i hi2

