section LAWs2
variable {p : Program} {l : Launch} {e : Env} {s : State} {m : MethodId} {args : Array Value} {below : List Frame} {meth : Method} {c : Code} {H : Heap} {locs : List Loc} {cells slots : Nat} {Q : State → Prop}
variable {pc : Nat} {ls : Array Slot} {rest : List Value} {E : EE} {b L : Nat} {xs : Nat → Int32}
theorem wl_R2 (hC : LC p s m c E b L xs) {y : MethodName} {b1 : ByteArray} {n k index : Nat} {ret : FieldType} {rm : Room} {as st : List Value} {lv : List (Nat × Value)} {S S2 : St} {th : Int32} {gA gB : Gh} {o9 : Nat} {f : Nat → Int64} {val : Value} (hLI : LI E S S2 th gA gB o9 f H) (hS : va_S (LA s) s.heap H locs) (hl : lv_has ls 9 lv) (hM : WM l E y b1 n (some ret) rm (.ref (gB.ad 1 0) :: as) (RB E S2 th gB) (ow gB) (fun _ v H => RB E S2 0 gB H ∧ v = some val)) (hrm : rm.frames ≤ 8 ∧ rm.locals ≤ 352 ∧ rm.cells ≤ 424 ∧ rm.slots ≤ 4952) (zm : (Cond.methodLink RL index y).before args s = true) (kv : KV RX12 y b1 n (some ret) k) (hn : as.length = k) (hst : st = as.reverse ++ .ref (gB.ad 1 0) :: rest) (hn9 : n ≤ 25) (hW : (rest.map fun v => v.category).sum ≤ 8) (hcs : cells + 424 ≤ 601024 ∧ slots + 4952 ≤ 7293034) (hdg : decode cL_law pc = .ok (.invokevirtual index, 3))
    (kk : ∀ (H1 : Heap) (locs1 : List Loc), LI E S S2 0 gA gB o9 f H1 → va_S (LA s) s.heap H1 locs1 → W p l e room_1 s m args below meth c H1 locs1 (cells + 424) (slots + 4952) Q (F0 m (pc + 3) ls (val :: rest))) : W p l e room_1 s m args below meth c H locs cells slots Q (F0 m pc ls st) := by
  obtain ⟨hx, hb, hml, hown, hZ, hX0, hX, hbl, hN, hL⟩ := hC
  have hB := hLI.2.1
  refine wc_V (As := as) hx hb hml hown hZ.1.1 hl hM (rec_of hZ.1.1 (RB.x hB) rfl) zm kv hB hS (fun q h => ?_) hn hst ⟨by show rm.frames + 1 ≤ 2048; omega, by show 8 + (n + 11) + rm.locals ≤ 84000; omega⟩ hW ⟨by show cells + rm.cells ≤ 601024; omega, by show slots + rm.slots ≤ 7293034; omega⟩ hdg (fun v H1 locs1 hP hz hq hS => ?_)
  · show s.heap.size ≤ q
    rcases h with h | h
    · rw [← hN]; exact hB.2.2.1.1 q h
    · exact Nat.le_trans hS.1 h
  · obtain ⟨hB1, rfl⟩ := hP
    refine W.widen (k := cells + 424) (n := slots + 4952) (by omega) (by omega) ?_
    exact kk H1 locs1 (li_B hLI hB1 (gX.refl gB _ _) hz hq) hS
theorem sub6 {L : Nat} (h : L ≤ 3072) : (nI L - 6).toInt = (L : Int) - 6 := by
  rw [Int32.toInt_sub, nI_toInt (by omega), show (6 : Int32).toInt = 6 from rfl]
  exact Int.bmod_eq_of_le (by omega) (by omega)
end LAWs2
theorem law_c21 {p : Program} {l : Launch} {e : Env} {s : State} {m : MethodId} {args : Array Value} {below : List Frame} {meth : Method} {c : Code} {H : Heap} {locs : List Loc} {cells slots : Nat} {Q : State → Prop} {ls : Array Slot} {E : EE} {b L : Nat} {xs : Nat → Int32} (hst : l.stackTraces = false) (hC : LC p s m c E b L xs) {i o9 : Nat} {th : Int32} {S : St} {gA gB : Gh} {f : Nat → Int64} (hG : Good S) (hLI : LI E S S th gA gB o9 f H) (hS : va_S (LA s) s.heap H locs) (hl : lv_has ls 9 (LV b (gA.ad 1 0) (gB.ad 1 0) o9 i)) (hi : i + 6 ≤ L) (hcs : cells + 424 ≤ 601024 ∧ slots + 4952 ≤ 7293034)
    (kk : ∀ (S' : St) (th' : Int32) (gA1 gB1 : Gh) (f1 : Nat → Int64) (H1 : Heap) (locs1 : List Loc) (ls1 : Array Slot), Good S' → LI E S' S' th' gA1 gB1 o9 f1 H1 → va_S (LA s) s.heap H1 locs1 → lv_has ls1 9 (LV b (gA1.ad 1 0) (gB1.ad 1 0) o9 i) → W p l e room_1 s m args below meth c H1 locs1 (cells + 424) (slots + 4952) Q (F0 m 1954 ls1 [])) : W p l e room_1 s m args below meth c H locs cells slots Q (F0 m 1683 ls []) := by
  obtain ⟨hx, hb, hml, hown, hZ, hX0, hX, hbl, hN, hL⟩ := id hC
  have hT := hZ.1.1.1
  have hI := hG.1
  refine lv_aload_n hx hb dL_law_1683 rfl (lv_at hl 1 rfl) ?_
  refine rc_V (As := []) hx hb hml hown hZ.1.1 hl (c_X6_meanTrust l E hI) (rec_of hZ.1.1 (RA.x hLI.1) rfl) (zm_L_172 hT) kv_X6_meanTrust hLI.1 rfl rfl ⟨Nat.le_of_ble_eq_true rfl, Nat.le_of_ble_eq_true rfl⟩ ⟨rfl, rfl⟩ (Nat.le_of_ble_eq_true rfl) ⟨by show cells ≤ 601024; omega, by show slots ≤ 7293034; omega⟩ dL_law_1684 ?_
  refine lv_dstore (lv' := (5, .double (meanA S)) :: LV b (gA.ad 1 0) (gB.ad 1 0) o9 i) hx hb dL_law_1687 hl (by decide) rfl (fun ls hl => ?_)
  refine lv_aload_n hx hb dL_law_1689 rfl (lv_at hl 3 rfl) ?_
  refine wl_R2 hC (k := 0) (as := []) hLI hS hl (c_X12_meanTrust l E hI) ⟨Nat.le_of_ble_eq_true rfl, Nat.le_of_ble_eq_true rfl, Nat.le_of_ble_eq_true rfl, Nat.le_of_ble_eq_true rfl⟩ (zm_L_176 hT) kv_X12_meanTrust rfl rfl (by decide) (Nat.le_of_ble_eq_true rfl) hcs dL_law_1690 (fun H2 locs2 hLI hS => ?_)
  refine lv_dstore (lv' := (7, .double (meanA S)) :: (5, .double (meanA S)) :: LV b (gA.ad 1 0) (gB.ad 1 0) o9 i) hx hb dL_law_1693 hl (by decide) rfl (fun ls hl => ?_)
  have hgo : W p l e room_1 s m args below meth c H2 locs2 (cells + 424) (slots + 4952) Q (F0 m 1721 ls []) := lv_goto (tgt := 1954) hx hb dL_law_1721 (by decide) (kk S 0 gA gB f H2 locs2 ls hG hLI hS (lv_sub hl [2, 3, 4, 5, 6] rfl))
  refine lv_dload hx hb dL_law_1695 (lv_at hl 1 rfl) ?_
  refine lv_dload hx hb dL_law_1697 (lv_at hl 0 rfl) ?_
  refine lv_dcmp hx hb dL_law_1699 ?_
  generalize hv : Op.cmpValue (FP.dcmp (meanA S) (meanA S)) .l = v
  refine lv_if_eq (tgt := 1721) hx hb dL_law_1700 (by decide) (fun _ => hgo) (fun h => ?_)
  refine lv_dload hx hb dL_law_1703 (lv_at hl 1 rfl) ?_
  refine lv_dload hx hb dL_law_1705 (lv_at hl 1 rfl) ?_
  refine lv_dcmp hx hb dL_law_1707 ?_
  rw [hv]
  refine lv_if_eq (tgt := 1719) hx hb dL_law_1708 (by decide) (fun h2 => absurd h2 h) (fun h => ?_)
  refine lv_dload hx hb dL_law_1711 (lv_at hl 0 rfl) ?_
  refine lv_dload hx hb dL_law_1713 (lv_at hl 0 rfl) ?_
  refine lv_dcmp hx hb dL_law_1715 ?_
  rw [hv]
  exact lv_if_ne (tgt := 1721) hx hb dL_law_1716 (by decide) (fun _ => hgo) (fun h2 => absurd (by first | exact h2 | exact Decidable.not_not.mp h2) h)
theorem law_c25 {p : Program} {l : Launch} {e : Env} {s : State} {m : MethodId} {args : Array Value} {below : List Frame} {meth : Method} {c : Code} {H : Heap} {locs : List Loc} {cells slots : Nat} {Q : State → Prop} {ls : Array Slot} {E : EE} {b L : Nat} {xs : Nat → Int32} (hst : l.stackTraces = false) (hC : LC p s m c E b L xs) {i o9 : Nat} {th : Int32} {S : St} {gA gB : Gh} {f : Nat → Int64} (hG : Good S) (hLI : LI E S S th gA gB o9 f H) (hS : va_S (LA s) s.heap H locs) (hl : lv_has ls 9 (LV b (gA.ad 1 0) (gB.ad 1 0) o9 i)) (hi : i + 6 ≤ L) (hcs : cells + 424 ≤ 601024 ∧ slots + 4952 ≤ 7293034)
    (kk : ∀ (S' : St) (th' : Int32) (gA1 gB1 : Gh) (f1 : Nat → Int64) (H1 : Heap) (locs1 : List Loc) (ls1 : Array Slot), Good S' → LI E S' S' th' gA1 gB1 o9 f1 H1 → va_S (LA s) s.heap H1 locs1 → lv_has ls1 9 (LV b (gA1.ad 1 0) (gB1.ad 1 0) o9 i) → W p l e room_1 s m args below meth c H1 locs1 (cells + 424) (slots + 4952) Q (F0 m 1954 ls1 [])) : W p l e room_1 s m args below meth c H locs cells slots Q (F0 m 1940 ls []) := by
  obtain ⟨hx, hb, hml, hown, hZ, hX0, hX, hbl, hN, hL⟩ := id hC
  have hT := hZ.1.1.1
  have hI := hG.1
  refine lv_aload_n hx hb dL_law_1940 rfl (lv_at hl 1 rfl) ?_
  refine rc_V (As := []) hx hb hml hown hZ.1.1 hl (c_X6_digest l E hI) (rec_of hZ.1.1 (RA.x hLI.1) rfl) (zm_L_186 hT) kv_X6_digest hLI.1 rfl rfl ⟨Nat.le_of_ble_eq_true rfl, Nat.le_of_ble_eq_true rfl⟩ ⟨rfl, rfl⟩ (Nat.le_of_ble_eq_true rfl) ⟨by show cells ≤ 601024; omega, by show slots ≤ 7293034; omega⟩ dL_law_1941 ?_
  refine lv_aload_n hx hb dL_law_1944 rfl (lv_at hl 2 rfl) ?_
  refine wl_R2 hC (k := 0) (as := []) hLI hS hl (c_X12_digest l E hI) ⟨Nat.le_of_ble_eq_true rfl, Nat.le_of_ble_eq_true rfl, Nat.le_of_ble_eq_true rfl, Nat.le_of_ble_eq_true rfl⟩ (zm_L_190 hT) kv_X12_digest rfl rfl (by decide) (Nat.le_of_ble_eq_true rfl) hcs dL_law_1945 (fun H2 locs2 hLI hS => ?_)
  refine g_lcmp0 hx hb dL_law_1948 ?_
  exact lv_if_eq (tgt := 1954) hx hb dL_law_1949 (by decide) (fun _ => kk S 0 gA gB f H2 locs2 ls hG hLI hS hl) (fun h => absurd rfl h)
theorem law_step {p : Program} {l : Launch} {e : Env} {s : State} {m : MethodId} {args : Array Value} {below : List Frame} {meth : Method} {c : Code} {H : Heap} {locs : List Loc} {cells slots : Nat} {Q : State → Prop} {ls : Array Slot} {E : EE} {b L : Nat} {xs : Nat → Int32} (hst : l.stackTraces = false) (hC : LC p s m c E b L xs) {i o9 : Nat} {th : Int32} {S : St} {gA gB : Gh} {f : Nat → Int64} (hG : Good S) (hLI : LI E S S th gA gB o9 f H) (hS : va_S (LA s) s.heap H locs) (hl : lv_has ls 9 (LV b (gA.ad 1 0) (gB.ad 1 0) o9 i)) (hi : i + 6 ≤ L) (hcs : cells + 424 ≤ 601024 ∧ slots + 4952 ≤ 7293034) {x : Int32}
    (kk : ∀ (S' : St) (th' : Int32) (gA1 gB1 : Gh) (f1 : Nat → Int64) (H1 : Heap) (locs1 : List Loc) (ls1 : Array Slot), Good S' → LI E S' S' th' gA1 gB1 o9 f1 H1 → va_S (LA s) s.heap H1 locs1 → lv_has ls1 9 (LV b (gA1.ad 1 0) (gB1.ad 1 0) o9 i) → W p l e room_1 s m args below meth c H1 locs1 (cells + 424) (slots + 4952) Q (F0 m 1954 ls1 [])) : W p l e room_1 s m args below meth c H locs cells slots Q (F0 m 40 ls [.int x]) := by
  obtain ⟨hx, hb, hml, hown, hZ, hX0, hX, hbl, hN, hL⟩ := id hC
  by_cases h1 : x.toInt < 0
  · exact lv_tableOut (tgt := 1954) hx hb dL_law_40 (Or.inl h1) (by decide) (W.widen (by omega) (by omega) (kk S th gA gB f H locs ls hG hLI hS hl))
  by_cases h2 : 25 < x.toInt
  · exact lv_tableOut (tgt := 1954) hx hb dL_law_40 (Or.inr h2) (by decide) (W.widen (by omega) (by omega) (kk S th gA gB f H locs ls hG hLI hS hl))
  obtain ⟨k, hk⟩ : ∃ k : Nat, (x.toInt - 0).toNat = k := ⟨_, rfl⟩
  have hk25 : k ≤ 25 := by omega
  rcases (show k = 0 ∨ k = 1 ∨ k = 2 ∨ k = 3 ∨ k = 4 ∨ k = 5 ∨ k = 6 ∨ k = 7 ∨ k = 8 ∨ k = 9 ∨ k = 10 ∨ k = 11 ∨ k = 12 ∨ k = 13 ∨ k = 14 ∨ k = 15 ∨ k = 16 ∨ k = 17 ∨ k = 18 ∨ k = 19 ∨ k = 20 ∨ k = 21 ∨ k = 22 ∨ k = 23 ∨ k = 24 ∨ k = 25 by omega) with rfl | rfl | rfl | rfl | rfl | rfl | rfl | rfl | rfl | rfl | rfl | rfl | rfl | rfl | rfl | rfl | rfl | rfl | rfl | rfl | rfl | rfl | rfl | rfl | rfl | rfl
  · exact lv_tableIn (off := 120) (tgt := 160) hx hb dL_law_40 h1 h2 (by rw [hk]; rfl) (by decide) (law_c0 hst hC hG hLI hS hl hi hcs kk)
  · exact lv_tableIn (off := 176) (tgt := 216) hx hb dL_law_40 h1 h2 (by rw [hk]; rfl) (by decide) (law_c1 hst hC hG hLI hS hl hi hcs kk)
  · exact lv_tableIn (off := 256) (tgt := 296) hx hb dL_law_40 h1 h2 (by rw [hk]; rfl) (by decide) (law_c2 hst hC hG hLI hS hl hi hcs kk)
  · exact lv_tableIn (off := 343) (tgt := 383) hx hb dL_law_40 h1 h2 (by rw [hk]; rfl) (by decide) (law_c3 hst hC hG hLI hS hl hi hcs kk)
  · exact lv_tableIn (off := 447) (tgt := 487) hx hb dL_law_40 h1 h2 (by rw [hk]; rfl) (by decide) (law_c4 hst hC hG hLI hS hl hi hcs kk)
  · exact lv_tableIn (off := 515) (tgt := 555) hx hb dL_law_40 h1 h2 (by rw [hk]; rfl) (by decide) (law_c5 hst hC hG hLI hS hl hi hcs kk)
  · exact lv_tableIn (off := 595) (tgt := 635) hx hb dL_law_40 h1 h2 (by rw [hk]; rfl) (by decide) (law_c6 hst hC hG hLI hS hl hi hcs kk)
  · exact lv_tableIn (off := 675) (tgt := 715) hx hb dL_law_40 h1 h2 (by rw [hk]; rfl) (by decide) (law_c7 hst hC hG hLI hS hl hi hcs kk)
  · exact lv_tableIn (off := 743) (tgt := 783) hx hb dL_law_40 h1 h2 (by rw [hk]; rfl) (by decide) (law_c8 hst hC hG hLI hS hl hi hcs kk)
  · exact lv_tableIn (off := 823) (tgt := 863) hx hb dL_law_40 h1 h2 (by rw [hk]; rfl) (by decide) (law_c9 hst hC hG hLI hS hl hi hcs kk)
  · exact lv_tableIn (off := 891) (tgt := 931) hx hb dL_law_40 h1 h2 (by rw [hk]; rfl) (by decide) (law_c10 hst hC hG hLI hS hl hi hcs kk)
  · exact lv_tableIn (off := 995) (tgt := 1035) hx hb dL_law_40 h1 h2 (by rw [hk]; rfl) (by decide) (law_c11 hst hC hG hLI hS hl hi hcs kk)
  · exact lv_tableIn (off := 1075) (tgt := 1115) hx hb dL_law_40 h1 h2 (by rw [hk]; rfl) (by decide) (law_c12 hst hC hG hLI hS hl hi hcs kk)
  · exact lv_tableIn (off := 1131) (tgt := 1171) hx hb dL_law_40 h1 h2 (by rw [hk]; rfl) (by decide) (law_c13 hst hC hG hLI hS hl hi hcs kk)
  · exact lv_tableIn (off := 1199) (tgt := 1239) hx hb dL_law_40 h1 h2 (by rw [hk]; rfl) (by decide) (law_c14 hst hC hG hLI hS hl hi hcs kk)
  · exact lv_tableIn (off := 1267) (tgt := 1307) hx hb dL_law_40 h1 h2 (by rw [hk]; rfl) (by decide) (law_c15 hst hC hG hLI hS hl hi hcs kk)
  · exact lv_tableIn (off := 1351) (tgt := 1391) hx hb dL_law_40 h1 h2 (by rw [hk]; rfl) (by decide) (law_c16 hst hC hG hLI hS hl hi hcs kk)
  · exact lv_tableIn (off := 1419) (tgt := 1459) hx hb dL_law_40 h1 h2 (by rw [hk]; rfl) (by decide) (law_c17 hst hC hG hLI hS hl hi hcs kk)
  · exact lv_tableIn (off := 1475) (tgt := 1515) hx hb dL_law_40 h1 h2 (by rw [hk]; rfl) (by decide) (law_c18 hst hC hG hLI hS hl hi hcs kk)
  · exact lv_tableIn (off := 1543) (tgt := 1583) hx hb dL_law_40 h1 h2 (by rw [hk]; rfl) (by decide) (law_c19 hst hC hG hLI hS hl hi hcs kk)
  · exact lv_tableIn (off := 1587) (tgt := 1627) hx hb dL_law_40 h1 h2 (by rw [hk]; rfl) (by decide) (law_c20 hst hC hG hLI hS hl hi hcs kk)
  · exact lv_tableIn (off := 1643) (tgt := 1683) hx hb dL_law_40 h1 h2 (by rw [hk]; rfl) (by decide) (law_c21 hst hC hG hLI hS hl hi hcs kk)
  · exact lv_tableIn (off := 1684) (tgt := 1724) hx hb dL_law_40 h1 h2 (by rw [hk]; rfl) (by decide) (law_c22 hst hC hG hLI hS hl hi hcs kk)
  · exact lv_tableIn (off := 1764) (tgt := 1804) hx hb dL_law_40 h1 h2 (by rw [hk]; rfl) (by decide) (law_c23 hst hC hG hLI hS hl hi hcs kk)
  · exact lv_tableIn (off := 1832) (tgt := 1872) hx hb dL_law_40 h1 h2 (by rw [hk]; rfl) (by decide) (law_c24 hst hC hG hLI hS hl hi hcs kk)
  · exact lv_tableIn (off := 1900) (tgt := 1940) hx hb dL_law_40 h1 h2 (by rw [hk]; rfl) (by decide) (law_c25 hst hC hG hLI hS hl hi hcs kk)
theorem law_loop {p : Program} {l : Launch} {e : Env} {s : State} {m : MethodId} {args : Array Value} {below : List Frame} {meth : Method} {c : Code} {Q : State → Prop} {E : EE} {b L : Nat} {xs : Nat → Int32} (hst : l.stackTraces = false) (hC : LC p s m c E b L xs) {o9 : Nat} (hend : ∀ (H1 : Heap) (locs1 : List Loc) (ls1 : Array Slot), va_S (LA s) s.heap H1 locs1 → W p l e room_1 s m args below meth c H1 locs1 601024 7293034 Q (F0 m 1960 ls1 [])) : ∀ (n t : Nat), t + n = 513 → ∀ (S : St) (th : Int32) (gA gB : Gh) (f : Nat → Int64) (H : Heap) (locs : List Loc) (ls : Array Slot) (cells slots : Nat), Good S → LI E S S th gA gB o9 f H → va_S (LA s) s.heap H locs → lv_has ls 9 (LV b (gA.ad 1 0) (gB.ad 1 0) o9 (6 * t)) → (cells ≤ 1000 + 424 * t ∧ slots ≤ 4000 + 4952 * t) → W p l e room_1 s m args below meth c H locs cells slots Q (F0 m 23 ls []) := by
  obtain ⟨hx, hb, hml, hown, hZ, hX0, hX, hbl, hN, hL⟩ := id hC
  intro n
  induction n with
  | zero =>
    intro t ht S th gA gB f H locs ls cells slots hG hLI hS hl hcs
    refine lv_iload hx hb dL_law_23 (lv_at hl 4 rfl) ?_
    refine lv_aload_n hx hb dL_law_25 rfl (lv_at hl 0 rfl) ?_
    refine va_slen hx hb hX hbl (Nat.not_le.mpr hbl) hS dL_law_26 ?_
    refine lv_bipush (v := 6) hx hb dL_law_27 (by decide) ?_
    refine lv_isub hx hb dL_law_29 ?_
    refine lv_icmp_gt (tgt := 1960) hx hb dL_law_30 (by decide) (fun _ => W.widen (by omega) (by omega) (hend H locs ls hS)) (fun h => ?_)
    exfalso
    apply h
    show nI L - 6 < nI (6 * t)
    rw [Int32.lt_iff_toInt_lt, sub6 hL, nI_toInt (by omega)]
    omega
  | succ n ih =>
    intro t ht S th gA gB f H locs ls cells slots hG hLI hS hl hcs
    refine lv_iload hx hb dL_law_23 (lv_at hl 4 rfl) ?_
    refine lv_aload_n hx hb dL_law_25 rfl (lv_at hl 0 rfl) ?_
    refine va_slen hx hb hX hbl (Nat.not_le.mpr hbl) hS dL_law_26 ?_
    refine lv_bipush (v := 6) hx hb dL_law_27 (by decide) ?_
    refine lv_isub hx hb dL_law_29 ?_
    refine lv_icmp_gt (tgt := 1960) hx hb dL_law_30 (by decide) (fun _ => W.widen (by omega) (by omega) (hend H locs ls hS)) (fun h => ?_)
    have hi : 6 * t + 6 ≤ L := by
      have h3 : ¬ nI L - 6 < nI (6 * t) := h
      rw [Int32.lt_iff_toInt_lt, sub6 hL, nI_toInt (by omega)] at h3
      omega
    refine lv_aload_n hx hb dL_law_33 rfl (lv_at hl 0 rfl) ?_
    refine lv_iload hx hb dL_law_34 (lv_at hl 4 rfl) ?_
    refine va_sld hx hb hX hbl (Nat.not_le.mpr hbl) hS (vp_in_nI (n := 6 * t) (by omega) (by omega)) dL_law_36 ?_
    refine lv_bipush (v := 31) hx hb dL_law_37 (by decide) ?_
    refine lv_iand hx hb dL_law_39 ?_
    refine law_step hst hC hG hLI hS hl hi ⟨by omega, by omega⟩ (fun S' th' gA1 gB1 f1 H1 locs1 ls1 hG1 hLI1 hS1 hl1 => ?_)
    refine lv_iinc (v := nI (6 * (t + 1))) (lv' := [(4, .int (nI (6 * (t + 1)))), (0, .ref b), (1, .ref (gA1.ad 1 0)), (2, .ref (gB1.ad 1 0)), (3, .ref o9)]) hx hb dL_law_1954 hl1 (k := 4) rfl (nI_add (6 * t) 6) (by decide) rfl (fun ls2 hl2 => ?_)
    refine lv_goto (tgt := 23) hx hb dL_law_1957 (by decide) ?_
    exact ih (t + 1) (by omega) S' th' gA1 gB1 f1 H1 locs1 ls2 _ _ hG1 hLI1 hS1 (lv_sub hl2 [1, 2, 3, 4, 0] rfl) ⟨by omega, by omega⟩
