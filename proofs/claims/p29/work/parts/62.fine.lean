/-! what holds between the law's calls -/
def LK (S : St) : Prop := (∀ c r, c < S.nc → S.cr c = some r → S.ro r = some c) ∧ (∀ r c, r < S.nr → S.ro r = some c → S.cr c = some r)
def AM (S : St) : Prop := ∀ c, c < S.nc → (S.ca c).toInt ≤ 2600
def C2 (S : St) : Prop := ∀ c, c < S.nc → S.cs c = 2 → ¬ S.cr c = none
def Lnk (S : St) : Prop := LK S ∧ AM S ∧ C2 S ∧ RR S
def Mid (S : St) : Prop := NP S ∧ Lnk S
def Fine (S : St) : Prop := Good S ∧ Mid S
theorem Mid.same {S T : St} (h : Mid S) (hnc : T.nc = S.nc) (hnr : T.nr = S.nr) (hcr : T.cr = S.cr) (hro : T.ro = S.ro) (hsp : T.sp = S.sp) (hca : T.ca = S.ca) (hcd : T.cd = S.cd) (hcx : T.cx = S.cx) (hra : T.ra = S.ra) (hrd : T.rd = S.rd) (hrx : T.rx = S.rx) (hcs : ∀ c, T.cs c = 0 → S.cs c = 0) (h2 : ∀ c, c < S.nc → T.cs c = 2 → S.cs c = 2 ∨ ¬ S.cr c = none) : Mid T := by
  obtain ⟨hN, ⟨k1, k2⟩, ha, hc, hr⟩ := h
  refine ⟨hN.mono hnc hnr hcs (fun r e => by rw [hro] at e; exact e) hsp hca hcd hcx hra hrd hrx, ⟨fun c r h1 h3 => ?_, fun r c h1 h3 => ?_⟩, fun c h1 => ?_, fun c h1 h3 => ?_, fun r h1 => ?_⟩
  · rw [hro]; rw [hcr] at h3; exact k1 c r (by rw [← hnc]; exact h1) h3
  · rw [hcr]; rw [hro] at h3; exact k2 r c (by rw [← hnr]; exact h1) h3
  · rw [hca]; exact ha c (by rw [← hnc]; exact h1)
  · rw [hcr]
    have h4 : c < S.nc := by rw [← hnc]; exact h1
    rcases h2 c h4 h3 with q | q
    · exact hc c h4 q
    · exact q
  · rw [hra, hrd]; exact hr r (by rw [← hnr]; exact h1)
theorem Mid.ag {S T : St} {ks : List Nat} (h : Mid S) (ag : AG ks S T) (hk : ∀ k ∈ ks, k ∈ [0, 1, 2, 3, 4, 5, 6, 7, 8, 9, 10, 11, 13, 14, 15, 19, 20, 22, 23, 30, 31]) (hcs : ∀ c, T.cs c = 0 → S.cs c = 0) (h2 : ∀ c, c < S.nc → T.cs c = 2 → S.cs c = 2 ∨ ¬ S.cr c = none) : Mid T := by
  have g := ag.sub hk
  exact h.same (g.e_nc (by decide)) (g.e_nr (by decide)) (g.e_cr (by decide)) (g.e_ro (by decide)) (g.e_sp (by decide)) (g.e_ca (by decide)) (g.e_cd (by decide)) (g.e_cx (by decide)) (g.e_ra (by decide)) (g.e_rd (by decide)) (g.e_rx (by decide)) hcs h2
theorem Mid.pass {S : St} (h : Mid S) (hI : Inv S) : Mid (passS S) := by
  refine h.ag ag_pass (by decide) (fun c e => ?_) (fun c hc e => ?_)
  · rcases passS_cs S c with k | ⟨-, k⟩
    · rw [← k]; exact e
    · rw [k] at e; exact absurd e (by decide)
  · rcases passS_cs S c with k | ⟨k, -⟩
    · left; rw [← k]; exact e
    · right; exact hI.cr1 hc (Or.inl k)
theorem Fine.pass {S X : St} (h : Fine S) (hI : Inv X) (hX : Mid X) (k : NB S X) : Fine (passS X) := ⟨h.1.pass hI k, hX.pass hI⟩
theorem up_cs {S : St} {c d : Nat} {v : Int32} : (u_cs S c v).cs d = if d = c then v else S.cs d := by
  show va_up S.cs c v d = _
  by_cases e : d = c
  · rw [e, va_up_self, if_pos rfl]
  · rw [va_up_ne _ _ e, if_neg e]
theorem Mid.ucs {S : St} (h : Mid S) {c : Nat} {v : Int32} (h0 : ¬ v = 0) (h2 : ¬ v = 2) : Mid (u_cs S c v) := by
  refine h.ag (ag_cs (v := va_up S.cs c v)) (by decide) (fun d e => ?_) (fun d _ e => ?_)
  · have e : (u_cs S c v).cs d = 0 := e
    rw [up_cs] at e
    by_cases q : d = c
    · rw [if_pos q] at e; exact absurd e h0
    · rw [if_neg q] at e; exact e
  · have e : (u_cs S c v).cs d = 2 := e
    rw [up_cs] at e
    by_cases q : d = c
    · rw [if_pos q] at e; exact absurd e h2
    · rw [if_neg q] at e; exact Or.inl e
theorem Mid.uce {S : St} (h : Mid S) {c n : Nat} : Mid (u_ce S c n) := h.ag (ag_ce (v := va_up S.ce c n)) (by decide) (fun _ e => e) (fun _ _ e => Or.inl e)
theorem fine_away {S : St} (h : Fine S) {p o : Nat} {v : Int32} (ho : o < S.np) (h1 : ¬ v < 0) (h2 : ¬ 119 < v) : Fine (awayS S p v o) := by
  have hag : AG [4, 5] S (u_si (u_aw S p v) p (some o)) := ((ag_aw (v := va_up S.aw p v)).sub (by decide)).tr ((ag_si (v := va_up (u_aw S p v).si p (some o))).sub (by decide))
  exact h.pass (h.1.1.away ho h1 h2) (h.2.ag hag (by decide) (fun c e => by rw [hag.e_cs (by decide)] at e; exact e) (fun c _ e => by rw [hag.e_cs (by decide)] at e; exact Or.inl e)) ⟨rfl, rfl⟩
theorem fine_approve {S : St} (h : Fine S) {c p : Nat} (hs : apprA S c = some p) : Fine (approveS S c) := h.pass (h.1.1.appr hs) h.2.uce ⟨rfl, rfl⟩
theorem fine_refuse {S : St} (h : Fine S) {c p : Nat} (hc : c < S.nc) (hs : apprA S c = some p) : Fine (refuseS S c) := h.pass (h.1.1.refu hc (apprA_1 hs).1) (h.2.ucs (by decide) (by decide)) ⟨rfl, rfl⟩
theorem fine_settle {S : St} (h : Fine S) {c : Nat} {b : Int32} (hc : c < S.nc) (hs : S.cs c = 4) : Fine (settleS S c b) := by
  unfold settleS
  split
  · exact h.pass (h.1.1.set1 hc hs) (h.2.ucs (v := 1) (by decide) (by decide)).uce ⟨rfl, rfl⟩
  · exact h.pass h.1.1.set3 (h.2.ucs (by decide) (by decide)) ⟨rfl, rfl⟩
/-! a day -/
theorem grow_cs (S : St) (c d : Nat) : (growS S c).cs d = S.cs d ∨ (d = c ∧ S.cs d = 0 ∧ (growS S c).cs d = 3) := by
  unfold growS
  by_cases h0 : S.cs c = 0
  · rw [if_pos h0]
    by_cases h8 : ageA S c = 8
    · rw [if_pos h8]; left; rfl
    · rw [if_neg h8]
      by_cases h15 : 15 ≤ ageA S c
      · rw [if_pos h15]
        have e : (loseS (u_cs S c 3) (S.cp c)).cs d = (u_cs S c 3).cs d := rfl
        rw [e, up_cs]
        by_cases q : d = c
        · right; rw [if_pos q]; exact ⟨q, by rw [q]; exact h0, rfl⟩
        · left; rw [if_neg q]
      · rw [if_neg h15]; left; rfl
  · rw [if_neg h0]; left; rfl
theorem dayF_cs (S : St) : ∀ n d, (dayF S n).1.cs d = S.cs d ∨ (S.cs d = 0 ∧ (dayF S n).1.cs d = 3) := by
  intro n
  induction n with
  | zero => intro d; exact Or.inl rfl
  | succ n ih =>
    intro d
    have e : (dayF S (n + 1)).1 = growS (dayF S n).1 n := rfl
    rw [e]
    rcases grow_cs (dayF S n).1 n d with k | ⟨-, k, k2⟩
    · rw [k]; exact ih d
    · right
      refine ⟨?_, k2⟩
      rcases ih d with q | ⟨q, -⟩
      · rw [← q]; exact k
      · exact q
theorem fine_day {S : St} (h : Fine S) (ht : S.td < 119) : Fine (dayS S) := by
  have hI := h.1.1.tdS ht
  have hag : AG [2, 20, 23, 31] S (dayF (S.s_td (S.td + 1)) S.nc).1 := (ag_td.sub (by decide)).tr ((ag_dayF S.nc).sub (by decide))
  refine h.pass (hI.dayf S.nc) (h.2.ag hag (by decide) (fun c e => ?_) (fun c _ e => ?_)) ((show NB S (S.s_td (S.td + 1)) from ⟨rfl, rfl⟩).tr (nb_dayF S.nc))
  · rcases dayF_cs (S.s_td (S.td + 1)) S.nc c with k | ⟨-, k⟩
    · rw [k] at e; exact e
    · rw [k] at e; exact absurd e (by decide)
  · rcases dayF_cs (S.s_td (S.td + 1)) S.nc c with k | ⟨-, k⟩
    · rw [k] at e; exact Or.inl e
    · rw [k] at e; exact absurd e (by decide)
/-! a charge, a receipt -/
theorem Lnk.match1 {S : St} (h : Lnk S) {c r : Nat} (hcr : S.cr c = none) (hro : S.ro r = none) : Lnk (matchS S c r) := by
  obtain ⟨⟨k1, k2⟩, ha, h2, hr⟩ := h
  have ag := ag_match (S := S) (c := c) (r := r)
  have hnc : (matchS S c r).nc = S.nc := ag.e_nc (by decide)
  have hnr : (matchS S c r).nr = S.nr := ag.e_nr (by decide)
  refine ⟨⟨fun d q h1 h3 => ?_, fun q d h1 h3 => ?_⟩, fun d h1 => ?_, fun d h1 h3 => ?_, fun q h1 => ?_⟩
  · rw [match_cr] at h3
    rw [match_ro]
    by_cases e : d = c
    · rw [if_pos e] at h3
      rw [if_pos (Option.some.inj h3).symm, e]
    · rw [if_neg e] at h3
      have k := k1 d q (by rw [← hnc]; exact h1) h3
      by_cases e2 : q = r
      · rw [e2, hro] at k; cases k
      · rw [if_neg e2]; exact k
  · rw [match_ro] at h3
    rw [match_cr]
    by_cases e : q = r
    · rw [if_pos e] at h3
      rw [if_pos (Option.some.inj h3).symm, e]
    · rw [if_neg e] at h3
      have k := k2 q d (by rw [← hnr]; exact h1) h3
      by_cases e2 : d = c
      · rw [e2, hcr] at k; cases k
      · rw [if_neg e2]; exact k
  · rw [ag.e_ca (by decide)]; exact ha d (by rw [← hnc]; exact h1)
  · rw [match_cs] at h3
    rw [match_cr]
    by_cases e : d = c
    · rw [if_pos e] at h3; exact absurd h3 (by decide)
    · rw [if_neg e] at h3 ⊢; exact h2 d (by rw [← hnc]; exact h1) h3
  · rw [ag.e_ra (by decide), ag.e_rd (by decide)]; exact hr q (by rw [← hnr]; exact h1)
theorem Lnk.adC {S : St} (h : Lnk S) (hI : Inv S) {p k l : Nat} {a x : Int32} {t : Option Nat} (ha9 : a.toInt ≤ 2600) : Lnk (addC S p k l a x t) := by
  obtain ⟨⟨k1, k2⟩, ha, h2, hr⟩ := h
  have ag := ag_addC (S := S) (p := p) (k := k) (l := l) (a := a) (x := x) (t := t)
  have hnr : (addC S p k l a x t).nr = S.nr := ag.e_nr (by decide)
  have hcase : ∀ d, d < (addC S p k l a x t).nc → d < S.nc ∨ d = S.nc := fun d hd => Nat.lt_or_eq_of_le (Nat.le_of_lt_succ (show d < S.nc + 1 from hd))
  refine ⟨⟨fun d q h1 h3 => ?_, fun q d h1 h3 => ?_⟩, fun d h1 => ?_, fun d h1 h3 => ?_, fun q h1 => ?_⟩
  · rw [ag.e_ro (by decide)]
    rcases hcase d h1 with e | e
    · rw [show (addC S p k l a x t).cr d = S.cr d from va_up_ne _ _ (Nat.ne_of_lt e)] at h3
      exact k1 d q e h3
    · subst e
      rw [show (addC S p k l a x t).cr S.nc = none from va_up_self _ _ _] at h3
      cases h3
  · rw [ag.e_ro (by decide)] at h3
    have hq : q < S.nr := by rw [← hnr]; exact h1
    rw [show (addC S p k l a x t).cr d = S.cr d from va_up_ne _ _ (Nat.ne_of_lt (hI.ro hq h3))]
    exact k2 q d hq h3
  · rcases hcase d h1 with e | e
    · rw [show (addC S p k l a x t).ca d = S.ca d from va_up_ne _ _ (Nat.ne_of_lt e)]; exact ha d e
    · subst e
      rw [show (addC S p k l a x t).ca S.nc = a from va_up_self _ _ _]; exact ha9
  · rcases hcase d h1 with e | e
    · rw [show (addC S p k l a x t).cs d = S.cs d from va_up_ne _ _ (Nat.ne_of_lt e)] at h3
      rw [show (addC S p k l a x t).cr d = S.cr d from va_up_ne _ _ (Nat.ne_of_lt e)]; exact h2 d e h3
    · subst e
      rw [show (addC S p k l a x t).cs S.nc = 0 from va_up_self _ _ _] at h3
      exact absurd h3 (by decide)
  · rw [ag.e_ra (by decide), ag.e_rd (by decide)]; exact hr q (by rw [← hnr]; exact h1)
theorem Lnk.adR {S : St} (h : Lnk S) (hI : Inv S) {am dy tx : Int32} (h1 : 0 ≤ am.toInt ∧ am.toInt ≤ 9999) (h2 : 0 ≤ dy.toInt ∧ dy.toInt ≤ 119) : Lnk (addR S am dy tx) := by
  obtain ⟨⟨k1, k2⟩, ha, hc2, hr⟩ := h
  have ag := ag_addR (S := S) (a := am) (d := dy) (x := tx)
  have hnc : (addR S am dy tx).nc = S.nc := ag.e_nc (by decide)
  refine ⟨⟨fun d q h1 h3 => ?_, fun q d h1 h3 => ?_⟩, fun d h1 => ?_, fun d h1 h3 => ?_, adR_RR hr h1 h2⟩
  · have hd : d < S.nc := by rw [← hnc]; exact h1
    rw [ag.e_cr (by decide)] at h3
    rw [show (addR S am dy tx).ro q = S.ro q from va_up_ne _ _ (Nat.ne_of_lt (hI.cr hd h3))]
    exact k1 d q hd h3
  · rw [ag.e_cr (by decide)]
    rcases Nat.lt_or_eq_of_le (Nat.le_of_lt_succ (show q < S.nr + 1 from h1)) with e | e
    · rw [show (addR S am dy tx).ro q = S.ro q from va_up_ne _ _ (Nat.ne_of_lt e)] at h3
      exact k2 q d e h3
    · subst e
      rw [show (addR S am dy tx).ro S.nr = none from va_up_self _ _ _] at h3
      cases h3
  · rw [ag.e_ca (by decide)]; exact ha d (by rw [← hnc]; exact h1)
  · rw [ag.e_cs (by decide)] at h3
    rw [ag.e_cr (by decide)]; exact hc2 d (by rw [← hnc]; exact h1) h3
theorem Inv.c0 {S : St} (h : Inv S) {c : Nat} (hc : c < S.nc) (h0 : S.cs c = 0) : S.cr c = none := ((h.2.2.2.1 c hc).2.2.2.2.2.2.2.2.2.2.1 h0).2
/-- sums that differ in one place -/
theorem sm_ext {f h : Nat → Int32} : ∀ n, (∀ i, i < n → f i = h i) → sm f n = sm h n := by
  intro n
  induction n with
  | zero => intro _; rfl
  | succ n ih => intro k; show sm f n + f n = sm h n + h n; rw [ih (fun i hi => k i (Nat.lt_succ_of_lt hi)), k n (Nat.lt_succ_self n)]
theorem sm_one {f h : Nat → Int32} {r : Nat} {d : Int32} (hd : f r = h r + d) : ∀ n, r < n → (∀ i, i < n → ¬ i = r → f i = h i) → sm f n = sm h n + d := by
  intro n
  induction n with
  | zero => intro k; exact absurd k (Nat.not_lt_zero _)
  | succ n ih =>
    intro hr k
    show sm f n + f n = sm h n + h n + d
    rcases Nat.lt_or_eq_of_le (Nat.le_of_lt_succ hr) with q | q
    · rw [ih q (fun i hi => k i (Nat.lt_succ_of_lt hi)), k n (Nat.lt_succ_self n) (fun e => Nat.ne_of_lt q e.symm)]
      rw [Int32.add_assoc, Int32.add_comm d, ← Int32.add_assoc]
    · subst q
      rw [sm_ext r (fun i hi => k i (Nat.lt_succ_of_lt hi) (Nat.ne_of_lt hi)), hd, Int32.add_assoc]
theorem i_pm {x y : Int32} (h : x = y + 1) : ¬ x = y := by
  intro e
  rw [e] at h
  have h2 : (y + 1) - y = y - y := by rw [← h]
  rw [Int32.sub_self, Int32.add_comm, Int32.add_sub_cancel] at h2
  exact absurd h2 (by decide)
/-- a charge comes: fine behind it; it is open just where as many receipts are free -/
theorem fine_charge {S : St} (h : Fine S) {p k l : Nat} {a x : Int32} {t : Option Nat} (h30 : S.nc < 30) (hp : p < S.np) (hk : k < 4) (hl : l < 3) (ha : 1 ≤ a.toInt ∧ a.toInt ≤ 2600) (ht : ∀ j, t = some j → j < S.nt) :
    Fine (passS (mpS (addC S p k l a x t))) ∧ ((passS (mpS (addC S p k l a x t))).cs S.nc = 0 ↔ freeA (passS (mpS (addC S p k l a x t))) = freeA S) ∧ (∀ d, d < S.nc → (passS (mpS (addC S p k l a x t))).cs d = S.cs d ∨ S.cs d = 1) ∧ (∀ d, S.nc ≤ d → d < S.nc + 1 → True) := by
  have hI := h.1.1
  have hI1 : Inv (addC S p k l a x t) := hI.adC h30 hp hk hl ⟨ha.1, by omega⟩ ht
  have hL := h.2.2.adC hI (p := p) (k := k) (l := l) (a := a) (x := x) (t := t) ha.2
  have hNB : NB S (addC S p k l a x t) := ⟨rfl, rfl⟩
  have ag := ag_addC (S := S) (p := p) (k := k) (l := l) (a := a) (x := x) (t := t)
  rcases adC_mp h.2.1 hI1 h.2.2.2.2.2 with ⟨hN, he⟩ | ⟨r, hr, hro, hN, he⟩
  · rw [he]
    refine ⟨h.pass hI1 ⟨hN, hL⟩ hNB, ⟨fun _ => ?_, fun _ => ?_⟩, fun d hd => ?_, fun _ _ _ => trivial⟩
    · unfold freeA
      have g2 := ag_pass (S := addC S p k l a x t)
      rw [g2.e_nr (by decide), ag.e_nr (by decide)]
      exact sm_ext _ (fun i _ => by unfold freeQ; rw [g2.e_ro (by decide), ag.e_ro (by decide)])
    · rcases passS_cs (addC S p k l a x t) S.nc with e | ⟨e, -⟩
      · rw [e]; exact adC_cs
      · rw [adC_cs] at e; exact absurd e (by decide)
    · have e0 : (addC S p k l a x t).cs d = S.cs d := va_up_ne _ _ (Nat.ne_of_lt hd)
      rcases passS_cs (addC S p k l a x t) d with e | ⟨e, -⟩
      · left; rw [e, e0]
      · right; rw [← e0]; exact e
  · rw [he]
    have hcr : (addC S p k l a x t).cr S.nc = none := va_up_self _ _ _
    have hro1 : (addC S p k l a x t).ro r = none := by rw [ag.e_ro (by decide)]; exact hro
    have hcN : S.nc < (addC S p k l a x t).nc := Nat.lt_succ_self _
    have hrN : r < (addC S p k l a x t).nr := by rw [ag.e_nr (by decide)]; exact hr
    have hI2 : Inv (matchS (addC S p k l a x t) S.nc r) := hI1.match' hcN hrN
    have agm := ag_match (S := addC S p k l a x t) (c := S.nc) (r := r)
    have agp := ag_pass (S := matchS (addC S p k l a x t) S.nc r)
    refine ⟨h.pass hI2 ⟨hN, hL.match1 hcr hro1⟩ (hNB.tr nb_match), ⟨fun e => ?_, fun e => ?_⟩, fun d hd => ?_, fun _ _ _ => trivial⟩
    · exfalso
      rcases passS_cs (matchS (addC S p k l a x t) S.nc r) S.nc with k | ⟨-, k⟩
      · rw [e, match_cs, if_pos rfl] at k; exact absurd k (by decide)
      · rw [e] at k; exact absurd k (by decide)
    · exfalso
      have e1 : freeA S = freeA (passS (matchS (addC S p k l a x t) S.nc r)) + 1 := by
        unfold freeA
        rw [agp.e_nr (by decide), agm.e_nr (by decide), ag.e_nr (by decide)]
        refine sm_one (r := r) ?_ S.nr hr (fun i _ hne => ?_)
        · unfold freeQ
          rw [agp.e_ro (by decide), match_ro, if_pos rfl, if_pos hro, if_neg (by exact fun z => by cases z)]
          decide
        · unfold freeQ
          rw [agp.e_ro (by decide), match_ro, if_neg hne, ag.e_ro (by decide)]
      exact i_pm e1 e.symm
    · have e0 : (matchS (addC S p k l a x t) S.nc r).cs d = S.cs d := by
        rw [match_cs, if_neg (Nat.ne_of_lt hd)]; exact va_up_ne _ _ (Nat.ne_of_lt hd)
      rcases passS_cs (matchS (addC S p k l a x t) S.nc r) d with e | ⟨e, -⟩
      · left; rw [e, e0]
      · right; rw [← e0]; exact e
/-- a receipt comes: what was told of it holds -/
theorem fine_receipt {S : St} (h : Fine S) {am dy tx : Int32} (h30 : S.nr < 30) (h1 : 0 ≤ am.toInt ∧ am.toInt ≤ 9999) (h2 : 0 ≤ dy.toInt ∧ dy.toInt ≤ 119) :
    Fine (passS (mpS (addR S am dy tx))) ∧ (passS (mpS (addR S am dy tx))).ro S.nr = (wB S am dy tx S.nc).1 ∧ (passS (mpS (addR S am dy tx))).nr = S.nr + 1 ∧ (passS (mpS (addR S am dy tx))).nc = S.nc ∧ (∀ c, (wB S am dy tx S.nc).1 = some c → c < S.nc ∧ (passS (mpS (addR S am dy tx))).cr c = some S.nr ∧ ¬ scA (passS (mpS (addR S am dy tx))) c ((passS (mpS (addR S am dy tx))).ra S.nr) ((passS (mpS (addR S am dy tx))).rd S.nr) ((passS (mpS (addR S am dy tx))).rx S.nr) < 0) ∧ (∀ d, d < S.nc → (passS (mpS (addR S am dy tx))).cs d = S.cs d ∨ S.cs d = 1 ∨ S.cs d = 0) := by
  have hI := h.1.1
  have hI1 : Inv (addR S am dy tx) := hI.adR h30
  have hL := h.2.2.adR hI (am := am) (dy := dy) (tx := tx) h1 h2
  have hR1 : RR (addR S am dy tx) := hL.2.2.2
  have hNB : NB S (addR S am dy tx) := ⟨rfl, rfl⟩
  have ag := ag_addR (S := S) (a := am) (d := dy) (x := tx)
  have hnr : (passS (mpS (addR S am dy tx))).nr = S.nr + 1 := by rw [passS_nr, mpS_nr]; rfl
  have hnc : (passS (mpS (addR S am dy tx))).nc = S.nc := by rw [passS_nc, mpS_nc]; exact ag.e_nc (by decide)
  rcases adR_mp h.2.1 hI1 hR1 with ⟨hw, hN, he⟩ | ⟨c, hw, hc, hc0, hsc, hN, he⟩
  · rw [he] at hnr hnc ⊢
    have agp := ag_pass (S := addR S am dy tx)
    refine ⟨h.pass hI1 ⟨hN, hL⟩ hNB, ?_, hnr, hnc, fun c e => ?_, fun d hd => ?_⟩
    · rw [hw, agp.e_ro (by decide)]; exact va_up_self _ _ _
    · rw [hw] at e; cases e
    · have e0 : (addR S am dy tx).cs d = S.cs d := by rw [ag.e_cs (by decide)]
      rcases passS_cs (addR S am dy tx) d with e | ⟨e, -⟩
      · left; rw [e, e0]
      · right; left; rw [← e0]; exact e
  · rw [he] at hnr hnc ⊢
    have hcr : (addR S am dy tx).cr c = none := by rw [ag.e_cr (by decide)]; exact hI.c0 hc hc0
    have hro : (addR S am dy tx).ro S.nr = none := va_up_self _ _ _
    have hcN : c < (addR S am dy tx).nc := by rw [ag.e_nc (by decide)]; exact hc
    have hrN : S.nr < (addR S am dy tx).nr := Nat.lt_succ_self _
    have hI2 : Inv (matchS (addR S am dy tx) c S.nr) := hI1.match' hcN hrN
    have agm := ag_match (S := addR S am dy tx) (c := c) (r := S.nr)
    have agp := ag_pass (S := matchS (addR S am dy tx) c S.nr)
    refine ⟨h.pass hI2 ⟨hN, hL.match1 hcr hro⟩ (hNB.tr nb_match), ?_, hnr, hnc, fun d e => ?_, fun d hd => ?_⟩
    · rw [hw, agp.e_ro (by decide), match_ro, if_pos rfl]
    · rw [hw] at e
      have e := Option.some.inj e
      subst e
      refine ⟨hc, by rw [agp.e_cr (by decide), match_cr, if_pos rfl], ?_⟩
      have k := sc_pos hI1 hR1 (c := c) (r := S.nr) hcN hrN (by rw [adR_sc]; exact hsc)
      have e2 : scA (passS (matchS (addR S am dy tx) c S.nr)) c ((passS (matchS (addR S am dy tx) c S.nr)).ra S.nr) ((passS (matchS (addR S am dy tx) c S.nr)).rd S.nr) ((passS (matchS (addR S am dy tx) c S.nr)).rx S.nr) = scA (addR S am dy tx) c ((addR S am dy tx).ra S.nr) ((addR S am dy tx).rd S.nr) ((addR S am dy tx).rx S.nr) := by
        unfold scA
        rw [agp.e_ca (by decide), agp.e_cd (by decide), agp.e_cx (by decide), agp.e_ra (by decide), agp.e_rd (by decide), agp.e_rx (by decide), agm.e_ca (by decide), agm.e_cd (by decide), agm.e_cx (by decide), agm.e_ra (by decide), agm.e_rd (by decide), agm.e_rx (by decide)]
      rw [e2]
      intro z
      apply k
      rw [Int32.lt_iff_toInt_lt] at z
      rw [Int32.le_iff_toInt_le]
      have z0 : (0 : Int32).toInt = 0 := rfl
      have z1 : (-1 : Int32).toInt = -1 := rfl
      omega
    · have e0 : (matchS (addR S am dy tx) c S.nr).cs d = if d = c then 1 else S.cs d := by
        rw [match_cs, ag.e_cs (by decide)]
      by_cases q : d = c
      · right; right; rw [q]; exact hc0
      · rw [if_neg q] at e0
        rcases passS_cs (matchS (addR S am dy tx) c S.nr) d with e | ⟨e, -⟩
        · left; rw [e, e0]
        · right; left; rw [← e0]; exact e
