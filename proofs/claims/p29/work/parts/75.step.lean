section LAWs
variable {p : Program} {l : Launch} {e : Env} {s : State} {m : MethodId} {args : Array Value} {below : List Frame} {meth : Method} {c : Code} {H : Heap} {locs : List Loc} {cells slots : Nat} {Q : State → Prop}
variable {ls : Array Slot} {E : EE} {b L : Nat} {xs : Nat → Int32} {S : St} {g : Gh} {x1 sa : Nat} {f : Nat → Int32} {P i pe ki : Nat} {x ch : Int32}
theorem rem16 : ∀ i, i < 50 → nI i - nI i / 16 * 16 = nI (i % 16) := by decide +kernel
theorem wl_fair (hC : LC p s m c E b L xs) {rest : List Value} {pc : Nat} {lv : List (Nat × Value)} (hF : Fine S) (hFR : FR S f) (hP : S.np = P) (hLI : LI E S g x1 [(sa, 30, f)] H) (hS : va_S (LA s) s.heap H locs) (hl : lv_has ls 24 lv) (hW : (rest.map fun v => v.category).sum ≤ 8) (hcs : cells ≤ 682005 ∧ slots ≤ 7055682) (hdg : decode cL_law pc = .ok (.invokestatic 104, 3))
    (kk : ∀ (H1 : Heap) (locs1 : List Loc), LI E S g x1 [(sa, 30, frN S f)] H1 → va_S (LA s) s.heap H1 locs1 → W p l e room_1 s m args below meth c H1 locs1 cells slots Q (F0 m (pc + 3) ls (.int 1 :: rest))) : W p l e room_1 s m args below meth c H locs cells slots Q (F0 m pc ls (.ref sa :: .int (nI P) :: .ref x1 :: rest)) := by
  subst hP
  obtain ⟨hx, hb, hml, hown, hY, hX0, hX, hbl, hN, hL⟩ := hC
  obtain ⟨hA, h1, hla, har⟩ := hLI
  subst h1
  obtain ⟨a1, a2, a3⟩ := har _ List.mem_cons_self
  refine wc_S (As := [.ref (g.ad 1 0), .int (nI S.np), .ref sa]) hx hb hml hown hY.1 hl (c_L_isFair l E hF hFR (a9 := sa)) (zm_L_104 hY.1.1) kv_L_isFair ⟨hA, a1, a2, a3⟩ hS (fun q h => ?_) rfl rfl ⟨Nat.le_of_ble_eq_true rfl, Nat.le_of_ble_eq_true rfl⟩ hW ⟨by show cells + 0 ≤ 682005; omega, by show slots + 0 ≤ 7055682; omega⟩ hdg (fun v H1 locs1 hP hz hq hS => ?_)
  · show s.heap.size ≤ q
    rcases h with h | h
    · rw [← hN, h]; exact a3
    · exact Nat.le_trans hS.1 h
  · obtain ⟨⟨hR, hA1⟩, rfl⟩ := hP
    refine kk H1 locs1 ⟨hR, rfl, fun q hq1 => Nat.lt_of_lt_of_le (hla q hq1) hz, fun t ht => ?_⟩ hS
    rcases List.mem_cons.mp ht with rfl | ht
    · exact ⟨hA1, a2, a3⟩
    · cases ht
set_option maxRecDepth 100000 in
set_option maxHeartbeats 4000000 in
theorem law_step (hLC : LC p s m c E b L xs) (hst : l.stackTraces = false) (hF : Fine S) (hFR : FR S f) (hP : S.np = P) (hP0 : 0 < P) (hPs : P < 2 ^ 20) (hLI : LI E S g x1 [(sa, 30, f)] H) (hS : va_S (LA s) s.heap H locs) (hi : i < 50) (hl : lv_has ls 24 (LV b x1 P sa i)) (hcs : cells + 10 ≤ 682005 ∧ slots + 300 ≤ 7055682) (kk : KT p l e s m args below meth c Q E b x1 P sa i cells slots) : W p l e room_1 s m args below meth c H locs cells slots Q (F0 m 225 ls []) := by
  obtain ⟨hx, hb, hml, hown, hY, hX0, hX, hbl, hN, hL⟩ := id hLC
  have hC : CX E s := hY.1
  have hPn := hPs
  refine lv_aload_n hx hb dL_law_225 rfl (lv_at hl 4 rfl) ?_
  refine lv_iload hx hb dL_law_226 (lv_at hl 0 rfl) ?_
  refine lv_bipush (v := 16) hx hb dL_law_228 (by decide) ?_
  refine lv_irem hx hb dL_law_230 (by decide) ?_
  rw [rem16 i hi]
  refine wl_cell (k := i % 16) hLC hS hl (by omega) (Nat.le_of_ble_eq_true rfl) ⟨by omega, by omega⟩ dL_law_231 (fun v231 => ?_)
  refine lv_iload hx hb dL_law_234 (lv_at hl 0 rfl) ?_
  refine lv_bipush (v := 16) hx hb dL_law_236 (by decide) ?_
  refine lv_idiv hx hb dL_law_238 (by decide) ?_
  refine lv_iconst (v := 2) hx hb dL_law_239 (by decide) ?_
  refine lv_imul hx hb dL_law_240 ?_
  refine lv_ishr hx hb dL_law_241 ?_
  refine lv_bipush (v := 7) hx hb dL_law_242 (by decide) ?_
  refine lv_iload hx hb dL_law_244 (lv_at hl 0 rfl) ?_
  refine lv_imul hx hb dL_law_246 ?_
  refine lv_iadd hx hb dL_law_247 ?_
  suffices key : ∀ x : Int32, W p l e room_1 s m args below meth c H locs cells slots Q (F0 m 248 ls [.int x]) from key _
  intro x
  refine lv_istore (lv' := [(5, .int (x)), (4, .int (nI i)), (3, .ref (sa)), (2, .int (nI P)), (1, .ref (x1)), (0, .ref (b))]) hx hb dL_law_248 hl (by decide) rfl (fun ls hl => ?_)
  refine lv_aload_n hx hb dL_law_250 rfl (lv_at hl 4 rfl) ?_
  refine lv_iconst (v := 2) hx hb dL_law_251 (by decide) ?_
  refine wl_rd (As := [.int (2)]) hLC hLI hl (c_X6_many l E hF.1.1 (w9 := 2) (by decide)) (zm_L_40 hC.1) kv_X6_many rfl rfl ⟨Nat.le_of_ble_eq_true rfl, Nat.le_of_ble_eq_true rfl⟩ ⟨rfl, rfl⟩ (Nat.le_of_ble_eq_true rfl) ⟨by omega, by omega⟩ dL_law_252 ?_
  refine lv_istore (lv' := [(6, .int (nI S.nc)), (5, .int (x)), (4, .int (nI i)), (3, .ref (sa)), (2, .int (nI P)), (1, .ref (x1)), (0, .ref (b))]) hx hb dL_law_255 hl (by decide) rfl (fun ls hl => ?_)
  have j275 : ∀ ch : Int32, (ch = -1 ∨ ∃ k, k < S.nc ∧ ch = nI k) → W p l e room_1 s m args below meth c H locs cells slots Q (F0 m 275 ls [.int ch]) := by
    intro ch hch
    refine lv_istore (lv' := [(7, .int (ch)), (6, .int (nI S.nc)), (5, .int (x)), (4, .int (nI i)), (3, .ref (sa)), (2, .int (nI P)), (1, .ref (x1)), (0, .ref (b))]) hx hb dL_law_275 hl (by decide) rfl (fun ls hl => ?_)
    refine lv_iload hx hb dL_law_277 (lv_at hl 2 rfl) ?_
    refine lv_iconst (v := 4) hx hb dL_law_279 (by decide) ?_
    refine lv_ishr hx hb dL_law_280 ?_
    refine lv_iload_n hx hb dL_law_281 rfl (lv_at hl 5 rfl) ?_
    refine wl_below (n := P) hLC hl hP0 hPs (Nat.le_of_ble_eq_true rfl) ⟨by omega, by omega⟩ dL_law_282 ?_
    refine lv_istore (lv' := [(8, .int (nI (belN ((x) >>> ((4) &&& 31)) P))), (7, .int (ch)), (6, .int (nI S.nc)), (5, .int (x)), (4, .int (nI i)), (3, .ref (sa)), (2, .int (nI P)), (1, .ref (x1)), (0, .ref (b))]) hx hb dL_law_285 hl (by decide) rfl (fun ls hl => ?_)
    refine lv_iload hx hb dL_law_287 (lv_at hl 3 rfl) ?_
    refine lv_bipush (v := 6) hx hb dL_law_289 (by decide) ?_
    refine lv_ishr hx hb dL_law_291 ?_
    refine lv_iconst (v := 2) hx hb dL_law_292 (by decide) ?_
    refine wl_below (n := 2) hLC hl (by decide) (by decide) (Nat.le_of_ble_eq_true rfl) ⟨by omega, by omega⟩ dL_law_293 ?_
    refine lv_istore (lv' := [(9, .int (nI (belN ((x) >>> ((6) &&& 31)) 2))), (8, .int (nI (belN ((x) >>> ((4) &&& 31)) P))), (7, .int (ch)), (6, .int (nI S.nc)), (5, .int (x)), (4, .int (nI i)), (3, .ref (sa)), (2, .int (nI P)), (1, .ref (x1)), (0, .ref (b))]) hx hb dL_law_296 hl (by decide) rfl (fun ls hl => ?_)
    refine lv_aload_n hx hb dL_law_298 rfl (lv_at hl 8 rfl) ?_
    refine lv_bipush (v := 10) hx hb dL_law_299 (by decide) ?_
    refine wl_rd (As := [.int (10)]) hLC hLI hl (c_X6_many l E hF.1.1 (w9 := 10) (by decide)) (zm_L_40 hC.1) kv_X6_many rfl rfl ⟨Nat.le_of_ble_eq_true rfl, Nat.le_of_ble_eq_true rfl⟩ ⟨rfl, rfl⟩ (Nat.le_of_ble_eq_true rfl) ⟨by omega, by omega⟩ dL_law_301 ?_
    refine lv_istore (lv' := [(10, .int (nI S.td)), (9, .int (nI (belN ((x) >>> ((6) &&& 31)) 2))), (8, .int (nI (belN ((x) >>> ((4) &&& 31)) P))), (7, .int (ch)), (6, .int (nI S.nc)), (5, .int (x)), (4, .int (nI i)), (3, .ref (sa)), (2, .int (nI P)), (1, .ref (x1)), (0, .ref (b))]) hx hb dL_law_304 hl (by decide) rfl (fun ls hl => ?_)
    refine lv_iload hx hb dL_law_306 (lv_at hl 5 rfl) ?_
    refine lv_bipush (v := 8) hx hb dL_law_308 (by decide) ?_
    refine wl_below (n := 8) hLC hl (by decide) (by decide) (Nat.le_of_ble_eq_true rfl) ⟨by omega, by omega⟩ dL_law_310 ?_
    obtain ⟨k8, hk8, ek8⟩ : ∃ k, k < 8 ∧ belN x 8 = k := ⟨_, belN_lt (by decide) (by decide), rfl⟩
    rw [show belN (x) 8 = k8 from ek8]
    have hl2 : lv_has ls 24 ((10, .int (nI S.td)) :: (9, .int (nI (belN (x >>> (6 &&& 31)) 2))) :: (8, .int (nI (belN (x >>> (4 &&& 31)) P))) :: (7, .int ch) :: (6, .int (nI S.nc)) :: (5, .int x) :: LV b x1 P sa i) := lv_sub hl [0, 1, 2, 3, 4, 5, 6, 7, 8, 9, 10] rfl
    have hpe : belN (x >>> (4 &&& 31)) P < P := belN_lt hP0 hPs
    have hki : belN (x >>> (6 &&& 31)) 2 < 2 := belN_lt (by decide) (by decide)
    rcases (by omega : k8 = 0 ∨ k8 = 1 ∨ k8 = 2 ∨ k8 = 3 ∨ k8 = 4 ∨ k8 = 5 ∨ k8 = 6 ∨ k8 = 7) with rfl | rfl | rfl | rfl | rfl | rfl | rfl | rfl
    · refine lv_tableIn (off := 39) (tgt := 352) hx hb dL_law_313 (by decide) (by decide) (by decide) (by decide) ?_
      exact law_c01 hLC hst hF hFR hP hP0 hPs hPs hpe hki hLI hS hl2 hcs kk
    · refine lv_tableIn (off := 39) (tgt := 352) hx hb dL_law_313 (by decide) (by decide) (by decide) (by decide) ?_
      exact law_c01 hLC hst hF hFR hP hP0 hPs hPs hpe hki hLI hS hl2 hcs kk
    · refine lv_tableIn (off := 193) (tgt := 506) hx hb dL_law_313 (by decide) (by decide) (by decide) (by decide) ?_
      exact law_c23 hLC hF hFR hP hP0 hPs hPs hpe hki hLI hS hch hl2 hcs kk
    · refine lv_tableIn (off := 193) (tgt := 506) hx hb dL_law_313 (by decide) (by decide) (by decide) (by decide) ?_
      exact law_c23 hLC hF hFR hP hP0 hPs hPs hpe hki hLI hS hch hl2 hcs kk
    · refine lv_tableIn (off := 360) (tgt := 673) hx hb dL_law_313 (by decide) (by decide) (by decide) (by decide) ?_
      exact law_c4 hLC hF hFR hP hP0 hPs hPs hpe hki hLI hS hl2 hcs kk
    · refine lv_tableIn (off := 463) (tgt := 776) hx hb dL_law_313 (by decide) (by decide) (by decide) (by decide) ?_
      exact law_c5 hLC hF hFR hP hP0 hPs hPs hpe hki hLI hS hl2 hcs kk
    · refine lv_tableOut (tgt := 843) hx hb dL_law_313 (Or.inr (by decide)) (by decide) ?_
      exact law_cd hLC hF hFR hP hP0 hPs hPs hpe hki hLI hS hch hl2 hcs kk
    · refine lv_tableOut (tgt := 843) hx hb dL_law_313 (Or.inr (by decide)) (by decide) ?_
      exact law_cd hLC hF hFR hP hP0 hPs hPs hpe hki hLI hS hch hl2 hcs kk
  refine lv_iload hx hb dL_law_257 (lv_at hl 0 rfl) ?_
  refine lv_if_ne (tgt := 266) hx hb dL_law_259 (by decide) (fun c_259 => ?_) (fun c_259 => ?_)
  ·
    have hn0 : 0 < S.nc := Nat.pos_of_ne_zero (fun q => c_259 (by rw [q]; rfl))
    have hn1 : S.nc < 2 ^ 20 := Nat.lt_of_le_of_lt hF.1.1.nc (by decide)
    refine lv_iload hx hb dL_law_266 (lv_at hl 1 rfl) ?_
    refine lv_iconst (v := 3) hx hb dL_law_268 (by decide) ?_
    refine lv_ishr hx hb dL_law_269 ?_
    refine lv_iload hx hb dL_law_270 (lv_at hl 0 rfl) ?_
    refine wl_below (n := S.nc) hLC hl hn0 hn1 (Nat.le_of_ble_eq_true rfl) ⟨by omega, by omega⟩ dL_law_272 ?_
    exact j275 _ (Or.inr ⟨_, belN_lt hn0 hn1, rfl⟩)
  ·
    refine lv_iconst (v := (-1)) hx hb dL_law_262 (by decide) ?_
    refine lv_goto (tgt := 275) hx hb dL_law_263 (by decide) ?_
    exact j275 _ (Or.inl rfl)
set_option maxRecDepth 100000 in
set_option maxHeartbeats 4000000 in
theorem law_loop (hLC : LC p s m c E b L xs) (hst : l.stackTraces = false) (hP0 : 0 < P) (hPs : P < 2 ^ 20) (hend : ∀ (S : St) (g : Gh) (H : Heap) (locs : List Loc) (ls : Array Slot) (cells slots : Nat) (ar : AR) (i : Nat), Fine S → LI E S g x1 ar H → va_S (LA s) s.heap H locs → lv_has ls 24 (LV b x1 P sa i) → (cells ≤ 682005 ∧ slots ≤ 7055682) → W p l e room_1 s m args below meth c H locs cells slots Q (F0 m 987 ls [])) : ∀ (r i : Nat) (S : St) (g : Gh) (f : Nat → Int32) (H : Heap) (locs : List Loc) (ls : Array Slot) (cells slots : Nat), i + r = 50 → Fine S → FR S f → S.np = P → LI E S g x1 [(sa, 30, f)] H → va_S (LA s) s.heap H locs → lv_has ls 24 (LV b x1 P sa i) → (cells + 10 * r ≤ 600000 ∧ slots + 300 * r ≤ 7000000) → W p l e room_1 s m args below meth c H locs cells slots Q (F0 m 218 ls []) := by
  obtain ⟨hx, hb, hml, hown, hY, hX0, hX, hbl, hN, hL⟩ := id hLC
  have hC : CX E s := hY.1
  intro r
  induction r with
  | zero =>
    intro i S g f H locs ls cells slots hE hF hFR hP hLI hS hl hcs
    have hN : i = 50 := by omega
    subst hN
    refine lv_iload hx hb dL_law_218 (lv_at hl 0 rfl) ?_
    refine lv_bipush (v := 50) hx hb dL_law_220 (by decide) ?_
    refine lv_icmp_ge (tgt := 987) hx hb dL_law_222 (by decide) (fun c_222 => ?_) (fun c_222 => ?_)
    · exact hend S g H locs ls cells slots _ 50 hF hLI hS hl ⟨by omega, by omega⟩
    · exact absurd (by decide) c_222
  | succ r ih =>
    intro i S g f H locs ls cells slots hE hF hFR hP hLI hS hl hcs
    have hi : i < 50 := by omega
    refine lv_iload hx hb dL_law_218 (lv_at hl 0 rfl) ?_
    refine lv_bipush (v := 50) hx hb dL_law_220 (by decide) ?_
    refine lv_icmp_ge (tgt := 987) hx hb dL_law_222 (by decide) (fun c_222 => ?_) (fun c_222 => ?_)
    · exact absurd c_222 (show ¬ (50 : Int32) ≤ nI i from nI_ge (b := 50) hi (by decide))
    refine law_step hLC hst hF hFR hP hP0 hPs hLI hS hi hl ⟨by omega, by omega⟩ (fun S2 g2 f2 H2 locs2 ls2 cells2 slots2 hF hFR hP hLI hS hl hcs2 => ?_)
    refine lv_aload_n hx hb dL_law_970 rfl (lv_at hl 3 rfl) ?_
    refine lv_iload_n hx hb dL_law_971 rfl (lv_at hl 2 rfl) ?_
    refine lv_aload_n hx hb dL_law_972 rfl (lv_at hl 1 rfl) ?_
    refine wl_fair hLC hF hFR hP hLI hS hl (Nat.le_of_ble_eq_true rfl) ⟨by omega, by omega⟩ dL_law_973 (fun H3 locs3 hLI hS => ?_)
    refine lv_if_ne (tgt := 981) hx hb dL_law_976 (by decide) (fun c_976 => ?_) (fun c_976 => ?_)
    ·
      refine lv_iinc (v := nI i + 1) (lv' := [(4, .int (nI i + 1)), (3, .ref sa), (2, .int (nI P)), (1, .ref x1), (0, .ref b)]) hx hb dL_law_981 hl (k := 0) rfl rfl (by decide) rfl (fun ls hl => ?_)
      refine lv_goto (tgt := 218) hx hb dL_law_984 (by decide) ?_
      refine ih (i + 1) S2 g2 _ _ _ ls _ _ (by omega) hF hFR.now hP hLI hS ?_ ⟨by omega, by omega⟩
      show lv_has ls 24 [(4, .int (nI (i + 1))), (3, .ref sa), (2, .int (nI P)), (1, .ref x1), (0, .ref b)]
      rw [nI_succ i]
      exact hl
    · first | exact absurd c_976 (by decide) | exact absurd (by decide) c_976
end LAWs
