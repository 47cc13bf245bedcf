/-! states that agree but for the fields of a list -/
def AG (ks : List Nat) (S T : St) : Prop := (∀ k, k ∉ ks → T.1 k = S.1 k) ∧ (30 ∉ ks → T.2 = S.2)
theorem AG.rf {ks : List Nat} {S : St} : AG ks S S := ⟨fun _ _ => rfl, fun _ => rfl⟩
theorem AG.tr {ks : List Nat} {S T U : St} (h : AG ks S T) (k : AG ks T U) : AG ks S U := ⟨fun j hj => (k.1 j hj).trans (h.1 j hj), fun hj => (k.2 hj).trans (h.2 hj)⟩
theorem AG.sub {ks ks2 : List Nat} {S T : St} (h : AG ks S T) (hs : ∀ k ∈ ks, k ∈ ks2) : AG ks2 S T := ⟨fun j hj => h.1 j (fun e => hj (hs j e)), fun hj => h.2 (fun e => hj (hs 30 e))⟩
theorem AG.e_np {ks : List Nat} {S T : St} (h : AG ks S T) (hk : 0 ∉ ks) : T.np = S.np := by
  show (T.1 0 0).1 = (S.1 0 0).1
  rw [h.1 0 hk]
theorem ag_np {S : St} {v : Nat} : AG [0] S (S.s_np v) := ⟨fun k hk => funext fun i => cnd_ne (fun e => hk (by rw [e]; exact List.mem_singleton.mpr rfl)) _ _, fun _ => rfl⟩
theorem AG.e_bo {ks : List Nat} {S T : St} (h : AG ks S T) (hk : 1 ∉ ks) : T.bo = S.bo := by
  funext i
  show (T.1 1 i).2.2 = (S.1 1 i).2.2
  rw [h.1 1 hk]
theorem ag_bo {S : St} {v : Nat → Option Nat} : AG [1] S (S.s_bo v) := ⟨fun k hk => funext fun i => cnd_ne (fun e => hk (by rw [e]; exact List.mem_singleton.mpr rfl)) _ _, fun _ => rfl⟩
theorem AG.e_tr {ks : List Nat} {S T : St} (h : AG ks S T) (hk : 2 ∉ ks) : T.tr = S.tr := by
  funext i
  show (T.1 2 i).2.1 = (S.1 2 i).2.1
  rw [h.1 2 hk]
theorem ag_tr {S : St} {v : Nat → Int32} : AG [2] S (S.s_tr v) := ⟨fun k hk => funext fun i => cnd_ne (fun e => hk (by rw [e]; exact List.mem_singleton.mpr rfl)) _ _, fun _ => rfl⟩
theorem AG.e_po {ks : List Nat} {S T : St} (h : AG ks S T) (hk : 3 ∉ ks) : T.po = S.po := by
  funext i
  show (T.1 3 i).2.1 = (S.1 3 i).2.1
  rw [h.1 3 hk]
theorem ag_po {S : St} {v : Nat → Int32} : AG [3] S (S.s_po v) := ⟨fun k hk => funext fun i => cnd_ne (fun e => hk (by rw [e]; exact List.mem_singleton.mpr rfl)) _ _, fun _ => rfl⟩
theorem AG.e_aw {ks : List Nat} {S T : St} (h : AG ks S T) (hk : 4 ∉ ks) : T.aw = S.aw := by
  funext i
  show (T.1 4 i).2.1 = (S.1 4 i).2.1
  rw [h.1 4 hk]
theorem ag_aw {S : St} {v : Nat → Int32} : AG [4] S (S.s_aw v) := ⟨fun k hk => funext fun i => cnd_ne (fun e => hk (by rw [e]; exact List.mem_singleton.mpr rfl)) _ _, fun _ => rfl⟩
theorem AG.e_si {ks : List Nat} {S T : St} (h : AG ks S T) (hk : 5 ∉ ks) : T.si = S.si := by
  funext i
  show (T.1 5 i).2.2 = (S.1 5 i).2.2
  rw [h.1 5 hk]
theorem ag_si {S : St} {v : Nat → Option Nat} : AG [5] S (S.s_si v) := ⟨fun k hk => funext fun i => cnd_ne (fun e => hk (by rw [e]; exact List.mem_singleton.mpr rfl)) _ _, fun _ => rfl⟩
theorem AG.e_nt {ks : List Nat} {S T : St} (h : AG ks S T) (hk : 6 ∉ ks) : T.nt = S.nt := by
  show (T.1 6 0).1 = (S.1 6 0).1
  rw [h.1 6 hk]
theorem ag_nt {S : St} {v : Nat} : AG [6] S (S.s_nt v) := ⟨fun k hk => funext fun i => cnd_ne (fun e => hk (by rw [e]; exact List.mem_singleton.mpr rfl)) _ _, fun _ => rfl⟩
theorem AG.e_tp {ks : List Nat} {S T : St} (h : AG ks S T) (hk : 7 ∉ ks) : T.tp = S.tp := by
  funext i
  show (T.1 7 i).1 = (S.1 7 i).1
  rw [h.1 7 hk]
theorem ag_tp {S : St} {v : Nat → Nat} : AG [7] S (S.s_tp v) := ⟨fun k hk => funext fun i => cnd_ne (fun e => hk (by rw [e]; exact List.mem_singleton.mpr rfl)) _ _, fun _ => rfl⟩
theorem AG.e_tl {ks : List Nat} {S T : St} (h : AG ks S T) (hk : 8 ∉ ks) : T.tl = S.tl := by
  funext i
  show (T.1 8 i).1 = (S.1 8 i).1
  rw [h.1 8 hk]
theorem ag_tl {S : St} {v : Nat → Nat} : AG [8] S (S.s_tl v) := ⟨fun k hk => funext fun i => cnd_ne (fun e => hk (by rw [e]; exact List.mem_singleton.mpr rfl)) _ _, fun _ => rfl⟩
theorem AG.e_tf {ks : List Nat} {S T : St} (h : AG ks S T) (hk : 9 ∉ ks) : T.tf = S.tf := by
  funext i
  show (T.1 9 i).2.1 = (S.1 9 i).2.1
  rw [h.1 9 hk]
theorem ag_tf {S : St} {v : Nat → Int32} : AG [9] S (S.s_tf v) := ⟨fun k hk => funext fun i => cnd_ne (fun e => hk (by rw [e]; exact List.mem_singleton.mpr rfl)) _ _, fun _ => rfl⟩
theorem AG.e_tt {ks : List Nat} {S T : St} (h : AG ks S T) (hk : 10 ∉ ks) : T.tt = S.tt := by
  funext i
  show (T.1 10 i).2.1 = (S.1 10 i).2.1
  rw [h.1 10 hk]
theorem ag_tt {S : St} {v : Nat → Int32} : AG [10] S (S.s_tt v) := ⟨fun k hk => funext fun i => cnd_ne (fun e => hk (by rw [e]; exact List.mem_singleton.mpr rfl)) _ _, fun _ => rfl⟩
theorem AG.e_te {ks : List Nat} {S T : St} (h : AG ks S T) (hk : 11 ∉ ks) : T.te = S.te := by
  funext i
  show (T.1 11 i).2.1 = (S.1 11 i).2.1
  rw [h.1 11 hk]
theorem ag_te {S : St} {v : Nat → Int32} : AG [11] S (S.s_te v) := ⟨fun k hk => funext fun i => cnd_ne (fun e => hk (by rw [e]; exact List.mem_singleton.mpr rfl)) _ _, fun _ => rfl⟩
theorem AG.e_nc {ks : List Nat} {S T : St} (h : AG ks S T) (hk : 12 ∉ ks) : T.nc = S.nc := by
  show (T.1 12 0).1 = (S.1 12 0).1
  rw [h.1 12 hk]
theorem ag_nc {S : St} {v : Nat} : AG [12] S (S.s_nc v) := ⟨fun k hk => funext fun i => cnd_ne (fun e => hk (by rw [e]; exact List.mem_singleton.mpr rfl)) _ _, fun _ => rfl⟩
theorem AG.e_cp {ks : List Nat} {S T : St} (h : AG ks S T) (hk : 13 ∉ ks) : T.cp = S.cp := by
  funext i
  show (T.1 13 i).1 = (S.1 13 i).1
  rw [h.1 13 hk]
theorem ag_cp {S : St} {v : Nat → Nat} : AG [13] S (S.s_cp v) := ⟨fun k hk => funext fun i => cnd_ne (fun e => hk (by rw [e]; exact List.mem_singleton.mpr rfl)) _ _, fun _ => rfl⟩
theorem AG.e_ck {ks : List Nat} {S T : St} (h : AG ks S T) (hk : 14 ∉ ks) : T.ck = S.ck := by
  funext i
  show (T.1 14 i).1 = (S.1 14 i).1
  rw [h.1 14 hk]
theorem ag_ck {S : St} {v : Nat → Nat} : AG [14] S (S.s_ck v) := ⟨fun k hk => funext fun i => cnd_ne (fun e => hk (by rw [e]; exact List.mem_singleton.mpr rfl)) _ _, fun _ => rfl⟩
theorem AG.e_cl {ks : List Nat} {S T : St} (h : AG ks S T) (hk : 15 ∉ ks) : T.cl = S.cl := by
  funext i
  show (T.1 15 i).1 = (S.1 15 i).1
  rw [h.1 15 hk]
theorem ag_cl {S : St} {v : Nat → Nat} : AG [15] S (S.s_cl v) := ⟨fun k hk => funext fun i => cnd_ne (fun e => hk (by rw [e]; exact List.mem_singleton.mpr rfl)) _ _, fun _ => rfl⟩
theorem AG.e_ca {ks : List Nat} {S T : St} (h : AG ks S T) (hk : 16 ∉ ks) : T.ca = S.ca := by
  funext i
  show (T.1 16 i).2.1 = (S.1 16 i).2.1
  rw [h.1 16 hk]
theorem ag_ca {S : St} {v : Nat → Int32} : AG [16] S (S.s_ca v) := ⟨fun k hk => funext fun i => cnd_ne (fun e => hk (by rw [e]; exact List.mem_singleton.mpr rfl)) _ _, fun _ => rfl⟩
theorem AG.e_cx {ks : List Nat} {S T : St} (h : AG ks S T) (hk : 17 ∉ ks) : T.cx = S.cx := by
  funext i
  show (T.1 17 i).2.1 = (S.1 17 i).2.1
  rw [h.1 17 hk]
theorem ag_cx {S : St} {v : Nat → Int32} : AG [17] S (S.s_cx v) := ⟨fun k hk => funext fun i => cnd_ne (fun e => hk (by rw [e]; exact List.mem_singleton.mpr rfl)) _ _, fun _ => rfl⟩
theorem AG.e_cd {ks : List Nat} {S T : St} (h : AG ks S T) (hk : 18 ∉ ks) : T.cd = S.cd := by
  funext i
  show (T.1 18 i).1 = (S.1 18 i).1
  rw [h.1 18 hk]
theorem ag_cd {S : St} {v : Nat → Nat} : AG [18] S (S.s_cd v) := ⟨fun k hk => funext fun i => cnd_ne (fun e => hk (by rw [e]; exact List.mem_singleton.mpr rfl)) _ _, fun _ => rfl⟩
theorem AG.e_ct {ks : List Nat} {S T : St} (h : AG ks S T) (hk : 19 ∉ ks) : T.ct = S.ct := by
  funext i
  show (T.1 19 i).2.2 = (S.1 19 i).2.2
  rw [h.1 19 hk]
theorem ag_ct {S : St} {v : Nat → Option Nat} : AG [19] S (S.s_ct v) := ⟨fun k hk => funext fun i => cnd_ne (fun e => hk (by rw [e]; exact List.mem_singleton.mpr rfl)) _ _, fun _ => rfl⟩
theorem AG.e_cs {ks : List Nat} {S T : St} (h : AG ks S T) (hk : 20 ∉ ks) : T.cs = S.cs := by
  funext i
  show (T.1 20 i).2.1 = (S.1 20 i).2.1
  rw [h.1 20 hk]
theorem ag_cs {S : St} {v : Nat → Int32} : AG [20] S (S.s_cs v) := ⟨fun k hk => funext fun i => cnd_ne (fun e => hk (by rw [e]; exact List.mem_singleton.mpr rfl)) _ _, fun _ => rfl⟩
theorem AG.e_cr {ks : List Nat} {S T : St} (h : AG ks S T) (hk : 21 ∉ ks) : T.cr = S.cr := by
  funext i
  show (T.1 21 i).2.2 = (S.1 21 i).2.2
  rw [h.1 21 hk]
theorem ag_cr {S : St} {v : Nat → Option Nat} : AG [21] S (S.s_cr v) := ⟨fun k hk => funext fun i => cnd_ne (fun e => hk (by rw [e]; exact List.mem_singleton.mpr rfl)) _ _, fun _ => rfl⟩
theorem AG.e_ce {ks : List Nat} {S T : St} (h : AG ks S T) (hk : 22 ∉ ks) : T.ce = S.ce := by
  funext i
  show (T.1 22 i).1 = (S.1 22 i).1
  rw [h.1 22 hk]
theorem ag_ce {S : St} {v : Nat → Nat} : AG [22] S (S.s_ce v) := ⟨fun k hk => funext fun i => cnd_ne (fun e => hk (by rw [e]; exact List.mem_singleton.mpr rfl)) _ _, fun _ => rfl⟩
theorem AG.e_cm {ks : List Nat} {S T : St} (h : AG ks S T) (hk : 23 ∉ ks) : T.cm = S.cm := by
  funext i
  show (T.1 23 i).2.1 = (S.1 23 i).2.1
  rw [h.1 23 hk]
theorem ag_cm {S : St} {v : Nat → Int32} : AG [23] S (S.s_cm v) := ⟨fun k hk => funext fun i => cnd_ne (fun e => hk (by rw [e]; exact List.mem_singleton.mpr rfl)) _ _, fun _ => rfl⟩
theorem AG.e_sp {ks : List Nat} {S T : St} (h : AG ks S T) (hk : 24 ∉ ks) : T.sp = S.sp := by
  funext i
  show (T.1 24 i).2.1 = (S.1 24 i).2.1
  rw [h.1 24 hk]
theorem ag_sp {S : St} {v : Nat → Int32} : AG [24] S (S.s_sp v) := ⟨fun k hk => funext fun i => cnd_ne (fun e => hk (by rw [e]; exact List.mem_singleton.mpr rfl)) _ _, fun _ => rfl⟩
theorem AG.e_nr {ks : List Nat} {S T : St} (h : AG ks S T) (hk : 25 ∉ ks) : T.nr = S.nr := by
  show (T.1 25 0).1 = (S.1 25 0).1
  rw [h.1 25 hk]
theorem ag_nr {S : St} {v : Nat} : AG [25] S (S.s_nr v) := ⟨fun k hk => funext fun i => cnd_ne (fun e => hk (by rw [e]; exact List.mem_singleton.mpr rfl)) _ _, fun _ => rfl⟩
theorem AG.e_ra {ks : List Nat} {S T : St} (h : AG ks S T) (hk : 26 ∉ ks) : T.ra = S.ra := by
  funext i
  show (T.1 26 i).2.1 = (S.1 26 i).2.1
  rw [h.1 26 hk]
theorem ag_ra {S : St} {v : Nat → Int32} : AG [26] S (S.s_ra v) := ⟨fun k hk => funext fun i => cnd_ne (fun e => hk (by rw [e]; exact List.mem_singleton.mpr rfl)) _ _, fun _ => rfl⟩
theorem AG.e_rd {ks : List Nat} {S T : St} (h : AG ks S T) (hk : 27 ∉ ks) : T.rd = S.rd := by
  funext i
  show (T.1 27 i).2.1 = (S.1 27 i).2.1
  rw [h.1 27 hk]
theorem ag_rd {S : St} {v : Nat → Int32} : AG [27] S (S.s_rd v) := ⟨fun k hk => funext fun i => cnd_ne (fun e => hk (by rw [e]; exact List.mem_singleton.mpr rfl)) _ _, fun _ => rfl⟩
theorem AG.e_rx {ks : List Nat} {S T : St} (h : AG ks S T) (hk : 28 ∉ ks) : T.rx = S.rx := by
  funext i
  show (T.1 28 i).2.1 = (S.1 28 i).2.1
  rw [h.1 28 hk]
theorem ag_rx {S : St} {v : Nat → Int32} : AG [28] S (S.s_rx v) := ⟨fun k hk => funext fun i => cnd_ne (fun e => hk (by rw [e]; exact List.mem_singleton.mpr rfl)) _ _, fun _ => rfl⟩
theorem AG.e_ro {ks : List Nat} {S T : St} (h : AG ks S T) (hk : 29 ∉ ks) : T.ro = S.ro := by
  funext i
  show (T.1 29 i).2.2 = (S.1 29 i).2.2
  rw [h.1 29 hk]
theorem ag_ro {S : St} {v : Nat → Option Nat} : AG [29] S (S.s_ro v) := ⟨fun k hk => funext fun i => cnd_ne (fun e => hk (by rw [e]; exact List.mem_singleton.mpr rfl)) _ _, fun _ => rfl⟩
theorem AG.e_tb {ks : List Nat} {S T : St} (h : AG ks S T) (hk : 30 ∉ ks) : T.tb = S.tb := h.2 hk
theorem AG.e_td {ks : List Nat} {S T : St} (h : AG ks S T) (hk : 31 ∉ ks) : T.td = S.td := by
  show (T.1 31 0).1 = (S.1 31 0).1
  rw [h.1 31 hk]
theorem ag_td {S : St} {v : Nat} : AG [31] S (S.s_td v) := ⟨fun k hk => funext fun i => cnd_ne (fun e => hk (by rw [e]; exact List.mem_singleton.mpr rfl)) _ _, fun _ => rfl⟩
theorem ag_tb {S : St} {v : Nat → Nat → Int32} : AG [30] S (S.s_tb v) := ⟨fun _ _ => rfl, fun h => absurd (List.mem_singleton.mpr rfl) h⟩
theorem ag_one {S : St} {c : Nat} : AG [20, 22] S (passOneS S c) := by
  obtain ⟨k, -, h | h⟩ := passOneS_f S c
  · rw [h]; exact (ag_ce (v := va_up S.ce c k)).sub (by decide)
  · rw [h]; exact ((ag_ce (v := va_up S.ce c k)).sub (by decide)).tr ((ag_cs (v := va_up (u_ce S c k).cs c 2)).sub (by decide))
theorem ag_passF {S : St} : ∀ n, AG [20, 22] S (passF S n) := by
  intro n
  induction n with
  | zero => exact AG.rf
  | succ n ih =>
    show AG [20, 22] S (if (passF S n).cs n = 1 then passOneS (passF S n) n else passF S n)
    by_cases h : (passF S n).cs n = 1
    · rw [if_pos h]; exact ih.tr ag_one
    · rw [if_neg h]; exact ih
theorem ag_pass {S : St} : AG [20, 22] S (passS S) := ag_passF _
theorem ag_gain {S : St} {p : Nat} : AG [2, 3] S (gainS S p) := by
  unfold gainS
  split
  · exact (ag_po (v := va_up S.po p (S.po p + 1))).sub (by decide)
  · exact (((ag_po (v := va_up S.po p (S.po p + 1))).sub (by decide)).tr ((ag_po (v := va_up (u_po S p (S.po p + 1)).po p 0)).sub (by decide))).tr ((ag_tr (v := va_up (u_po (u_po S p (S.po p + 1)) p 0).tr p (minI (S.tr p + 1) 10))).sub (by decide))
theorem ag_mat {S : St} {c r : Nat} : AG [20, 21, 29] S (matS S c r) :=
  (((ag_cs (v := va_up S.cs c 1)).sub (by decide)).tr ((ag_cr (v := va_up (u_cs S c 1).cr c (some r))).sub (by decide))).tr ((ag_ro (v := va_up (u_cr (u_cs S c 1) c (some r)).ro r (some c))).sub (by decide))
theorem ag_match {S : St} {c r : Nat} : AG [2, 3, 20, 21, 29] S (matchS S c r) := by
  unfold matchS
  split
  · exact ag_mat.sub (by decide)
  · exact (ag_mat.sub (by decide)).tr (ag_gain.sub (by decide))
theorem ag_lose {S : St} {p : Nat} : AG [2] S (loseS S p) := ag_tr
theorem ag_grow {S : St} {c : Nat} : AG [2, 20, 23] S (growS S c) := by
  unfold growS
  split
  · split
    · exact ((ag_cm (v := va_up S.cm c 1)).sub (by decide)).tr (ag_lose.sub (by decide))
    · split
      · exact ((ag_cs (v := va_up S.cs c 3)).sub (by decide)).tr (ag_lose.sub (by decide))
      · exact AG.rf
  · exact AG.rf
theorem ag_dayF {S : St} : ∀ n, AG [2, 20, 23] S (dayF S n).1 := by
  intro n
  induction n with
  | zero => exact AG.rf
  | succ n ih => exact ih.tr ag_grow
theorem ag_addC {S : St} {p k l : Nat} {a x : Int32} {t : Option Nat} : AG [12, 13, 14, 15, 16, 17, 18, 19, 20, 21, 22, 23, 24] S (addC S p k l a x t) := by
  unfold addC
  exact ((((((((((((ag_cp.sub (by decide)).tr (ag_ck.sub (by decide))).tr (ag_cl.sub (by decide))).tr (ag_ca.sub (by decide))).tr (ag_cx.sub (by decide))).tr (ag_cd.sub (by decide))).tr (ag_ct.sub (by decide))).tr (ag_cs.sub (by decide))).tr (ag_cr.sub (by decide))).tr (ag_ce.sub (by decide))).tr (ag_cm.sub (by decide))).tr (ag_sp.sub (by decide))).tr (ag_nc.sub (by decide))
theorem ag_addR {S : St} {a d x : Int32} : AG [25, 26, 27, 28, 29] S (addR S a d x) := by
  unfold addR
  exact ((((ag_ra.sub (by decide)).tr (ag_rd.sub (by decide))).tr (ag_rx.sub (by decide))).tr (ag_ro.sub (by decide))).tr (ag_nr.sub (by decide))
/-! what passing steps leaves -/
theorem passOne_cs (S : St) (c d : Nat) : (passOneS S c).cs d = S.cs d ∨ (d = c ∧ (passOneS S c).cs d = 2) := by
  obtain ⟨k, -, h | h⟩ := passOneS_f S c
  · left; rw [h]; rfl
  · rw [h]
    by_cases e : d = c
    · right; subst e; exact ⟨rfl, va_up_self _ _ _⟩
    · left; exact va_up_ne _ _ e
theorem passF_cs (S : St) : ∀ n d, (passF S n).cs d = S.cs d ∨ (S.cs d = 1 ∧ (passF S n).cs d = 2) := by
  intro n
  induction n with
  | zero => intro d; exact Or.inl rfl
  | succ n ih =>
    intro d
    show (if (passF S n).cs n = 1 then passOneS (passF S n) n else passF S n).cs d = S.cs d ∨ (S.cs d = 1 ∧ (if (passF S n).cs n = 1 then passOneS (passF S n) n else passF S n).cs d = 2)
    by_cases h : (passF S n).cs n = 1
    · rw [if_pos h]
      rcases passOne_cs (passF S n) n d with e | ⟨rfl, e⟩
      · rw [e]; exact ih d
      · right
        refine ⟨?_, e⟩
        rcases ih d with k | ⟨k, -⟩
        · rw [← k]; exact h
        · exact k
    · rw [if_neg h]; exact ih d
theorem passS_cs (S : St) (d : Nat) : (passS S).cs d = S.cs d ∨ (S.cs d = 1 ∧ (passS S).cs d = 2) := passF_cs S _ d
theorem pwS_mono (c : Nat) : ∀ (n : Nat) (S : St), S.ce c ≤ (pwS S c n).ce c := by
  intro n
  induction n with
  | zero => intro S; exact Nat.le_refl _
  | succ n ih =>
    intro S
    show S.ce c ≤ (if needB S c ≤ S.ce c then S else if apprA S c = none then pwS (u_ce S c (S.ce c + 1)) c n else S).ce c
    by_cases h1 : needB S c ≤ S.ce c
    · rw [if_pos h1]; exact Nat.le_refl _
    · rw [if_neg h1]
      by_cases h2 : apprA S c = none
      · rw [if_pos h2]
        have h := ih (u_ce S c (S.ce c + 1))
        have e : (u_ce S c (S.ce c + 1)).ce c = S.ce c + 1 := va_up_self _ _ _
        omega
      · rw [if_neg h2]; exact Nat.le_refl _
theorem passOne_ce (S : St) (c d : Nat) : S.ce d ≤ (passOneS S c).ce d := by
  by_cases e : d = c
  · subst e
    unfold passOneS
    split
    · exact pwS_mono d 3 S
    · exact pwS_mono d 3 S
  · obtain ⟨k, -, h | h⟩ := passOneS_f S c
    · rw [h]; exact Nat.le_of_eq (va_up_ne _ _ e).symm
    · rw [h]; exact Nat.le_of_eq (va_up_ne _ _ e).symm
theorem passF_ce (S : St) : ∀ n d, S.ce d ≤ (passF S n).ce d := by
  intro n
  induction n with
  | zero => intro d; exact Nat.le_refl _
  | succ n ih =>
    intro d
    show S.ce d ≤ (if (passF S n).cs n = 1 then passOneS (passF S n) n else passF S n).ce d
    by_cases h : (passF S n).cs n = 1
    · rw [if_pos h]; exact Nat.le_trans (ih d) (passOne_ce _ _ _)
    · rw [if_neg h]; exact ih d
theorem passS_ce (S : St) (d : Nat) : S.ce d ≤ (passS S).ce d := passF_ce S _ d
