/-! rows of arrays of booleans; the trust behind some days, by the reference -/
section RowsZ
variable {p : Program} {l : Launch} {e : Env} {R : Room} {s : State} {m : MethodId} {args : Array Value} {below : List Frame} {meth : Method} {c : Code} {H : Heap} {locs : List Loc} {cells slots : Nat} {Q : State → Prop}
variable {cc : ByteArray} {pc : Nat} {ls : Array Slot} {rest : List Value} {E : EE} {own : String}
theorem g_newz (hx : p.tables.exec = Jvm.exec) (hb : c.code = cc) (hC : CX E s) {N : Nat} {A : Nat → Prop} {H0 : Heap} (hS : va_S A H0 H locs) (hN : N < 2 ^ 20) (hcells : cells + 1 ≤ R.cells) (hslots : slots + N ≤ R.slots) (hdg : decode cc pc = .ok (.newarray .boolean, 2))
    (kk : ∀ (H1 : Heap), va_at E.1 vwCl (H.size, .inl (eZ E, N, .inl (fun _ => 0))) H1 → H1.size = H.size + 1 → (∀ q : Nat, q < H.size → H1[q]? = H[q]?) → va_S A H0 H1 locs → W p l e R s m args below meth c H1 locs (cells + 1) (slots + N) Q (F0 m (pc + 2) ls (.ref H.size :: rest))) : W p l e R s m args below meth c H locs cells slots Q (F0 m pc ls (.int (nI N) :: rest)) := by
  have hcl : (nI N).toNatClampNeg = N := nI_clamp (Nat.lt_trans hN (by decide))
  have hnn : ¬ nI N < 0 := fun h => by
    have h2 := nI_toInt (Nat.lt_trans hN (by decide : 2 ^ 20 < 2 ^ 31))
    rw [Int32.lt_iff_toInt_lt, h2] at h
    have : (0 : Int32).toInt = 0 := rfl
    omega
  refine va_newaK (atype := .boolean) hx hb (zA_1193 hC.1) rfl hdg rfl hnn hcl (by rw [show componentBytes (newarray.typeOf .boolean) = 1 from rfl]; omega) hcells hslots rfl fun H1 cA e1 z1 o1 hAr hNm => ?_
  obtain ⟨-, r4⟩ := hC.2.1.2 1 _ rfl
  have hNm2 : s.vm.findClass ("[" ++ (FieldType.boolean).toString) = some cA := hNm
  have r5 : s.vm.findClass ("[" ++ (FieldType.boolean).toString) = some (eZ E) := r4
  have e2 : cA = eZ E := Option.some.inj (hNm2.symm.trans r5)
  subst e2
  refine kk H1 ?_ z1 o1 ⟨Nat.le_trans hS.1 (by omega), fun x h1 h2 => (o1 x (Nat.lt_of_lt_of_le h1 hS.1)).trans (hS.2.1 x h1 h2), hS.2.2⟩
  show _ = some (vp_cell _ _)
  rw [vp_cell_i]
  exact e1
theorem g_zast (hx : p.tables.exec = Jvm.exec) (hb : c.code = cc) (hC : CX E s) {A : Nat → Prop} {H0 : Heap} {a n j : Nat} {f : Nat → Int32} {i x : Int32} (hat : va_at E.1 vwCl (a, .inl (eZ E, n, .inl f)) H) (hS : va_S A H0 H locs) (hA : A a) (hi : i = nI j ∧ j < n ∧ n < 2 ^ 31) (hn : narrow .boolean (.int x) = .int x) (hdg : decode cc pc = .ok (.bastore, 1))
    (kk : ∀ (H1 : Heap) (locs1 : List Loc), va_at E.1 vwCl (a, .inl (eZ E, n, .inl (va_up f j x))) H1 → H1.size = H.size → (∀ q : Nat, q ≠ a → H1[q]? = H[q]?) → va_S A H0 H1 locs1 → W p l e R s m args below meth c H1 locs1 cells slots Q (F0 m (pc + 1) ls rest)) : W p l e R s m args below meth c H locs cells slots Q (F0 m pc ls (.int x :: .int i :: .ref a :: rest)) := by
  obtain ⟨rfl, h1, h2⟩ := hi
  have hcl : (nI j).toNatClampNeg = j := nI_clamp (Nat.lt_trans h1 h2)
  have hin := vp_in_nI h1 h2
  refine W.zast hx hb hat ((hC.2.1.2 1 _ rfl).1 n (fun j => .int (f j))) (fun q => by cases q) (by show ¬ (nI j < 0 ∨ (arrV _ _ _).slots.size ≤ _); rw [arrV_size]; exact hin) rfl rfl hdg fun H1 e z oq => ?_
  refine kk H1 _ ?_ z oq (hS.put z oq hA)
  show H1[a]? = some (vp_cell _ _)
  rw [e, hn]
  rw [vp_cell_i, vp_cell_i, arrV_store]
  congr 2
  funext q
  by_cases hq : q = j
  · subst hq
    simp [updV, va_up, hcl]
  · simp [updV, va_up, hcl, hq]
end RowsZ
def lstN (S : St) (c d : Nat) : Nat := (if S.td < S.cd c + 8 ∧ S.cd c + 8 ≤ d then 1 else 0) + (if max (S.cd c + 15) (S.td + 1) ≤ d then 1 else 0)
def dyN (c k d : Nat) : Nat := if c < k then d else d - 1
def sN (f : Nat → Nat) : Nat → Nat
  | 0 => 0
  | n + 1 => sN f n + f n
def lsT (S : St) (p d k c : Nat) : Nat := if S.cp c = p ∧ S.cs c = 0 then lstN S c (dyN c k d) else 0
def toT (S : St) (p d k : Nat) : Nat := sN (lsT S p d k) S.nc
def gnT (S : St) (p d k c : Nat) : Int32 := if c < S.nc ∧ (S.cp c = p ∧ S.cs c = 0) ∧ max (S.cd c + 15) (S.td + 1) ≤ dyN c k d then 1 else 0
theorem sN_congr {f g : Nat → Nat} : ∀ n, (∀ i, i < n → f i = g i) → sN f n = sN g n := by
  intro n
  induction n with
  | zero => intro _; rfl
  | succ n ih =>
    intro h
    show sN f n + f n = sN g n + g n
    rw [ih (fun i hi => h i (by omega)), h n (by omega)]
theorem sN_one {f g : Nat → Nat} {k : Nat} : ∀ n, k < n → (∀ i, ¬ i = k → f i = g i) → sN g n + f k = sN f n + g k := by
  intro n
  induction n with
  | zero => intro h; omega
  | succ n ih =>
    intro hk h
    show sN g n + g n + f k = sN f n + f n + g k
    by_cases e : k = n
    · subst e
      rw [sN_congr (f := f) (g := g) k (fun i hi => h i (by omega))]
      omega
    · have := ih (by omega) h
      have h2 := h n (fun e2 => e e2.symm)
      omega
theorem dyN_1 (k d : Nat) : dyN k (k + 1) d = d := if_pos (Nat.lt_succ_self k)
theorem dyN_0 (k d : Nat) : dyN k k d = d - 1 := if_neg (Nat.lt_irrefl k)
theorem dyN_n {c k : Nat} (h : ¬ c = k) (d : Nat) : dyN c (k + 1) d = dyN c k d := by
  unfold dyN
  by_cases h1 : c < k
  · rw [if_pos h1, if_pos (by omega)]
  · rw [if_neg h1, if_neg (by omega)]
theorem toT_step {S : St} {p d k : Nat} (hk : k < S.nc) : toT S p d (k + 1) + lsT S p d k k = toT S p d k + lsT S p d (k + 1) k := by
  refine sN_one (f := lsT S p d k) (g := lsT S p d (k + 1)) S.nc hk (fun i hi => ?_)
  unfold lsT
  rw [dyN_n hi]
theorem lsT_0 {S : St} {p d k : Nat} (h : S.cp k = p ∧ S.cs k = 0) : lsT S p d k k = lstN S k (d - 1) := by unfold lsT; rw [if_pos h, dyN_0]
theorem lsT_1 {S : St} {p d k : Nat} (h : S.cp k = p ∧ S.cs k = 0) : lsT S p d (k + 1) k = lstN S k d := by unfold lsT; rw [if_pos h, dyN_1]
theorem gnT_n {S : St} {p d k c : Nat} (h : ¬ c = k) : gnT S p d (k + 1) c = gnT S p d k c := by unfold gnT; rw [dyN_n h]
theorem gnT_k {S : St} {p d k : Nat} {v : Int32} (h : gnT S p d (k + 1) k = v) : gnT S p d (k + 1) = va_up (gnT S p d k) k v := by
  funext c
  by_cases e : c = k
  · subst e; rw [va_up_self]; exact h
  · rw [va_up_ne _ _ e]; exact gnT_n e
theorem gnT_s {S : St} {p d k : Nat} (h : gnT S p d (k + 1) k = gnT S p d k k) : gnT S p d (k + 1) = gnT S p d k := by
  rw [gnT_k h, va_up_id]
theorem gnT_0 {S : St} {p d k : Nat} (hk : k < S.nc) (h : S.cp k = p ∧ S.cs k = 0) : gnT S p d k k = 0 ↔ ¬ max (S.cd k + 15) (S.td + 1) ≤ d - 1 := by
  unfold gnT
  rw [dyN_0]
  by_cases e : max (S.cd k + 15) (S.td + 1) ≤ d - 1
  · rw [if_pos ⟨hk, h, e⟩]; exact ⟨fun q => absurd q (by decide), fun q => absurd e q⟩
  · rw [if_neg (fun q => e q.2.2)]; exact ⟨fun _ => e, fun _ => rfl⟩
theorem gnT_1 {S : St} {p d k : Nat} (hk : k < S.nc) (h : S.cp k = p ∧ S.cs k = 0) : gnT S p d (k + 1) k = if max (S.cd k + 15) (S.td + 1) ≤ d then 1 else 0 := by
  unfold gnT
  rw [dyN_1]
  by_cases e : max (S.cd k + 15) (S.td + 1) ≤ d
  · rw [if_pos ⟨hk, h, e⟩, if_pos e]
  · rw [if_neg (fun q => e q.2.2), if_neg e]
theorem t_no {S : St} {p d k : Nat} (hk : k < S.nc) (h : ¬ (S.cp k = p ∧ S.cs k = 0)) : toT S p d (k + 1) = toT S p d k ∧ gnT S p d (k + 1) = gnT S p d k := by
  refine ⟨?_, gnT_s ?_⟩
  · have h1 := toT_step (p := p) (d := d) hk
    have e0 : lsT S p d k k = 0 := if_neg h
    have e1 : lsT S p d (k + 1) k = 0 := if_neg h
    omega
  · unfold gnT; rw [if_neg (fun q => h q.2.1), if_neg (fun q => h q.2.1)]
theorem t_gone {S : St} {p d k : Nat} (hk : k < S.nc) (hd : S.td < d) (h : S.cp k = p ∧ S.cs k = 0) (hg : ¬ gnT S p d k k = 0) : toT S p d (k + 1) = toT S p d k ∧ gnT S p d (k + 1) = gnT S p d k := by
  have h1 := toT_step (p := p) (d := d) hk
  rw [lsT_0 h, lsT_1 h] at h1
  have h2 : max (S.cd k + 15) (S.td + 1) ≤ d - 1 := Decidable.byContradiction fun q => hg ((gnT_0 hk h).mpr q)
  refine ⟨?_, gnT_s ?_⟩
  · have e : lstN S k d = lstN S k (d - 1) := by
      unfold lstN
      rw [if_pos h2, if_pos (show max (S.cd k + 15) (S.td + 1) ≤ d by omega)]
      by_cases e2 : S.td < S.cd k + 8
      · rw [if_pos ⟨e2, by omega⟩, if_pos ⟨e2, by omega⟩]
      · rw [if_neg (fun q => e2 q.1), if_neg (fun q => e2 q.1)]
    omega
  · rw [gnT_1 hk h, if_pos (by omega)]
    unfold gnT
    rw [dyN_0, if_pos ⟨hk, h, h2⟩]
theorem t_wait {S : St} {p d k : Nat} (hk : k < S.nc) (hd : S.td < d) (h : S.cp k = p ∧ S.cs k = 0) (h8 : ¬ d = S.cd k + 8) (h15 : d < S.cd k + 15) : toT S p d (k + 1) = toT S p d k ∧ gnT S p d (k + 1) = gnT S p d k := by
  have h1 := toT_step (p := p) (d := d) hk
  rw [lsT_0 h, lsT_1 h] at h1
  refine ⟨?_, gnT_s ?_⟩
  · have e : lstN S k d = lstN S k (d - 1) := by
      unfold lstN
      rw [if_neg (show ¬ max (S.cd k + 15) (S.td + 1) ≤ d by omega), if_neg (show ¬ max (S.cd k + 15) (S.td + 1) ≤ d - 1 by omega)]
      by_cases e2 : S.td < S.cd k + 8 ∧ S.cd k + 8 ≤ d
      · rw [if_pos e2, if_pos ⟨e2.1, by omega⟩]
      · rw [if_neg e2, if_neg (fun q => e2 ⟨q.1, by omega⟩)]
    omega
  · rw [gnT_1 hk h, if_neg (by omega), (gnT_0 hk h).mpr (by omega)]
theorem t_hit8 {S : St} {p d k : Nat} (hk : k < S.nc) (hd : S.td < d) (h : S.cp k = p ∧ S.cs k = 0) (h8 : d = S.cd k + 8) : toT S p d (k + 1) = toT S p d k + 1 ∧ gnT S p d (k + 1) = va_up (gnT S p d k) k 0 := by
  have h1 := toT_step (p := p) (d := d) hk
  rw [lsT_0 h, lsT_1 h] at h1
  refine ⟨?_, gnT_k ?_⟩
  · have e : lstN S k d = lstN S k (d - 1) + 1 := by
      unfold lstN
      rw [if_neg (show ¬ max (S.cd k + 15) (S.td + 1) ≤ d by omega), if_neg (show ¬ max (S.cd k + 15) (S.td + 1) ≤ d - 1 by omega), if_pos ⟨by omega, by omega⟩, if_neg (by omega)]
    omega
  · rw [gnT_1 hk h, if_neg (by omega)]
theorem t_hit15 {S : St} {p d k : Nat} (hk : k < S.nc) (hd : S.td < d) (h : S.cp k = p ∧ S.cs k = 0) (hg : gnT S p d k k = 0) (h15 : S.cd k + 15 ≤ d) : toT S p d (k + 1) = toT S p d k + 1 ∧ gnT S p d (k + 1) = va_up (gnT S p d k) k 1 := by
  have h1 := toT_step (p := p) (d := d) hk
  rw [lsT_0 h, lsT_1 h] at h1
  have h2 := (gnT_0 hk h).mp hg
  refine ⟨?_, gnT_k ?_⟩
  · have e : lstN S k d = lstN S k (d - 1) + 1 := by
      unfold lstN
      rw [if_pos (show max (S.cd k + 15) (S.td + 1) ≤ d by omega), if_neg h2]
      by_cases e2 : S.td < S.cd k + 8
      · rw [if_pos ⟨e2, by omega⟩, if_pos ⟨e2, by omega⟩]
      · rw [if_neg (fun q => e2 q.1), if_neg (fun q => e2 q.1)]
    omega
  · rw [gnT_1 hk h, if_pos (by omega)]
theorem t_day {S : St} {p d : Nat} : toT S p d S.nc = toT S p (d + 1) 0 ∧ gnT S p d S.nc = gnT S p (d + 1) 0 := by
  refine ⟨sN_congr _ (fun i hi => ?_), funext fun c => ?_⟩
  · unfold lsT dyN
    rw [if_pos hi, if_neg (Nat.not_lt_zero i)]
    rfl
  · unfold gnT dyN
    by_cases hc : c < S.nc
    · rw [if_pos hc, if_neg (Nat.not_lt_zero c)]
      rfl
    · rw [if_neg (fun q => hc q.1), if_neg (fun q => hc q.1)]
theorem t_init {S : St} {p : Nat} : toT S p (S.td + 1) 0 = 0 ∧ gnT S p (S.td + 1) 0 = fun _ => 0 := by
  constructor
  · have : ∀ n, sN (lsT S p (S.td + 1) 0) n = 0 := by
      intro n
      induction n with
      | zero => rfl
      | succ n ih =>
        show sN _ n + lsT S p (S.td + 1) 0 n = 0
        rw [ih]
        unfold lsT dyN lstN
        rw [if_neg (Nat.not_lt_zero n)]
        split
        · rw [if_neg (by omega), if_neg (by omega)]
        · rfl
    exact this _
  · funext c
    unfold gnT dyN
    rw [if_neg (Nat.not_lt_zero c), if_neg (fun q => by omega)]
theorem toT_le {S : St} {p d k : Nat} : toT S p d k ≤ 2 * S.nc := by
  have : ∀ n, sN (lsT S p d k) n ≤ 2 * n := by
    intro n
    induction n with
    | zero => exact Nat.le_refl _
    | succ n ih =>
      show sN _ n + lsT S p d k n ≤ _
      have : lsT S p d k n ≤ 2 := by
        unfold lsT lstN
        split
        · split <;> split <;> omega
        · omega
      omega
  exact this _
theorem mx1 : ∀ t, t < 11 → maxI 0 (nI t - 1) = nI (t - 1) := by decide +kernel
theorem ago_n {d c : Nat} (hc : c ≤ d) (hd : d ≤ 200) : nI d - nI c = nI (d - c) := by
  apply Int32.toInt.inj
  rw [sub_bd (by rw [nI_toInt (by omega), nI_toInt (by omega)]; omega) (by rw [nI_toInt (by omega), nI_toInt (by omega)]; omega), nI_toInt (by omega), nI_toInt (by omega), nI_toInt (by omega)]
  omega
theorem maxI_n {a b : Nat} (ha : a < 2 ^ 31) (hb : b < 2 ^ 31) : maxI (nI a) (nI b) = nI (max a b) := by
  unfold maxI
  by_cases h : a < b
  · rw [if_pos (nI_lt h hb), Nat.max_eq_right (by omega)]
  · rw [if_neg (fun q => by rw [Int32.lt_iff_toInt_lt, nI_toInt ha, nI_toInt hb] at q; omega), Nat.max_eq_left (by omega)]
theorem nlt {a b : Nat} (ha : a < 2 ^ 31) (hb : b < 2 ^ 31) : nI a < nI b ↔ a < b := by
  rw [Int32.lt_iff_toInt_lt, nI_toInt ha, nI_toInt hb]
  omega
theorem lostA_n {S : St} (hI : Inv S) {c e : Nat} (hc : c < S.nc) (he : e ≤ 119) : lostA S c (nI e) = nI (lstN S c e) := by
  have h1 := hI.cd hc
  have h2 := hI.td
  unfold lostA
  rw [show nI (S.cd c) + 8 = nI (S.cd c + 8) from nI_add _ _, show nI (S.cd c) + 15 = nI (S.cd c + 15) from nI_add _ _, show nI S.td + 1 = nI (S.td + 1) from nI_add _ _, maxI_n (by omega) (by omega)]
  unfold lstN
  have A1 : S.cd c + 8 ≤ S.td → (if S.td < S.cd c + 8 ∧ S.cd c + 8 ≤ e then 1 else 0) = 0 := fun q => if_neg (by omega)
  have A2 : e < S.cd c + 8 → (if S.td < S.cd c + 8 ∧ S.cd c + 8 ≤ e then 1 else 0) = 0 := fun q => if_neg (by omega)
  have A3 : ¬ S.cd c + 8 ≤ S.td → ¬ e < S.cd c + 8 → (if S.td < S.cd c + 8 ∧ S.cd c + 8 ≤ e then 1 else 0) = 1 := fun q q' => if_pos (by omega)
  have B1 : e < max (S.cd c + 15) (S.td + 1) → (if max (S.cd c + 15) (S.td + 1) ≤ e then 1 else 0) = 0 := fun q => if_neg (by omega)
  have B2 : ¬ e < max (S.cd c + 15) (S.td + 1) → (if max (S.cd c + 15) (S.td + 1) ≤ e then 1 else 0) = 1 := fun q => if_pos (by omega)
  by_cases q1 : S.cd c + 8 ≤ S.td
  · rw [if_pos ((nle (by omega) (by omega)).mpr q1), A1 q1]
    by_cases q2 : e < max (S.cd c + 15) (S.td + 1)
    · rw [if_pos ((nlt (by omega) (by omega)).mpr q2), B1 q2]; rfl
    · rw [if_neg (fun q => q2 ((nlt (by omega) (by omega)).mp q)), B2 q2]; rfl
  · rw [if_neg (fun q => q1 ((nle (by omega) (by omega)).mp q))]
    by_cases q3 : e < S.cd c + 8
    · rw [if_pos ((nlt (by omega) (by omega)).mpr q3), A2 q3]
      by_cases q2 : e < max (S.cd c + 15) (S.td + 1)
      · rw [if_pos ((nlt (by omega) (by omega)).mpr q2), B1 q2]; rfl
      · rw [if_neg (fun q => q2 ((nlt (by omega) (by omega)).mp q)), B2 q2]; rfl
    · rw [if_neg (fun q => q3 ((nlt (by omega) (by omega)).mp q)), A3 q1 q3]
      by_cases q2 : e < max (S.cd c + 15) (S.td + 1)
      · rw [if_pos ((nlt (by omega) (by omega)).mpr q2), B1 q2]; rfl
      · rw [if_neg (fun q => q2 ((nlt (by omega) (by omega)).mp q)), B2 q2]; rfl
theorem lost_sm {S : St} (hI : Inv S) {p e : Nat} (he : e ≤ 119) : ∀ n, n ≤ S.nc → sm (lostQ S p (nI e)) n = nI (sN (lsT S p (e + 1) 0) n) := by
  intro n
  induction n with
  | zero => intro _; rfl
  | succ n ih =>
    intro hn
    show sm _ n + lostQ S p (nI e) n = nI (sN _ n + lsT S p (e + 1) 0 n)
    rw [ih (by omega), ← nI_add]
    congr 1
    unfold lostQ lsT dyN
    rw [if_neg (Nat.not_lt_zero n)]
    by_cases h1 : S.cp n = p
    · by_cases h2 : S.cs n = 0
      · rw [if_pos h1, if_pos h2, if_pos ⟨h1, h2⟩]
        exact lostA_n hI (by omega) he
      · rw [if_pos h1, if_neg h2, if_neg (fun q => h2 q.2)]; rfl
    · rw [if_neg h1, if_neg (fun q => h1 q.1)]; rfl
theorem trust_n {S : St} (hI : Inv S) {p D t0 : Nat} (hD : D ≤ 30) (ht : S.tr p = nI t0) (h10 : t0 ≤ 10) : trustA S p (nI D) = nI (t0 - toT S p (min (S.td + D) 119 + 1) 0) := by
  have h2 := hI.td
  have h3 : minI (nI S.td + nI D) 119 = nI (min (S.td + D) 119) := by
    rw [nI_add]
    unfold minI
    by_cases h : 119 < S.td + D
    · rw [if_pos (show (119 : Int32) < nI (S.td + D) from nI_lt (a := 119) h (by omega)), Nat.min_eq_right (by omega)]; rfl
    · rw [if_neg (fun q => by have := (nlt (a := 119) (by decide) (by omega)).mp q; omega), Nat.min_eq_left (by omega)]
  unfold trustA
  rw [h3, lost_sm hI (by omega) S.nc (Nat.le_refl _), ht]
  show maxI (nI t0 - nI (toT S p (min (S.td + D) 119 + 1) 0)) 0 = _
  have h4 := toT_le (S := S) (p := p) (d := min (S.td + D) 119 + 1) (k := 0)
  have h5 := hI.nc
  generalize toT S p (min (S.td + D) 119 + 1) 0 = T at h4 ⊢
  have e1 : (nI t0 - nI T).toInt = (t0 : Int) - T := by
    rw [sub_bd (by rw [nI_toInt (by omega), nI_toInt (by omega)]; omega) (by rw [nI_toInt (by omega), nI_toInt (by omega)]; omega), nI_toInt (by omega), nI_toInt (by omega)]
  have z : (0 : Int32).toInt = 0 := rfl
  apply Int32.toInt.inj
  rw [nI_toInt (by omega)]
  unfold maxI
  by_cases h : nI t0 - nI T < 0
  · rw [if_pos h, z]
    rw [Int32.lt_iff_toInt_lt, e1, z] at h
    omega
  · rw [if_neg h, e1]
    rw [Int32.lt_iff_toInt_lt, e1, z] at h
    omega
theorem tr_n {S : St} (hI : Inv S) {p : Nat} (hp : p < S.np) : ∃ t0, t0 ≤ 10 ∧ S.tr p = nI t0 := by
  have h3 := (hI.2.1 p hp).2.2.1
  refine ⟨(S.tr p).toInt.toNat, by omega, ?_⟩
  apply Int32.toInt.inj
  rw [nI_toInt (by omega)]
  omega
theorem dy_n {d : Int32} (h1 : ¬ d < 0) (h2 : ¬ 30 < d) : ∃ D, D ≤ 30 ∧ d = nI D := by
  rw [Int32.lt_iff_toInt_lt] at h1 h2
  have z : (0 : Int32).toInt = 0 := rfl
  have y : (30 : Int32).toInt = 30 := rfl
  refine ⟨d.toInt.toNat, by omega, ?_⟩
  apply Int32.toInt.inj
  rw [nI_toInt (by omega)]
  omega
