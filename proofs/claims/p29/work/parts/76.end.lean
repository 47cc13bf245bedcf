section LAWs
variable {p : Program} {l : Launch} {e : Env} {s : State} {m : MethodId} {args : Array Value} {below : List Frame} {meth : Method} {c : Code} {H : Heap} {locs : List Loc} {cells slots : Nat} {Q : State → Prop}
variable {ls : Array Slot} {E : EE} {b L : Nat} {xs : Nat → Int32} {S : St} {g : Gh} {x1 sa : Nat} {f : Nat → Int32} {P i pe ki : Nat} {x ch : Int32}
set_option maxRecDepth 100000 in
set_option maxHeartbeats 4000000 in
theorem law_end (hLC : LC p s m c E b L xs) (hF : Fine S) {ar : AR} (hLI : LI E S g x1 ar H) (hl : lv_has ls 24 (LV b x1 P sa i)) (hcs : cells ≤ 682005 ∧ slots ≤ 7055682) (kk : ∀ ls : Array Slot, W p l e room_1 s m args below meth c H locs cells slots Q (F0 m 1059 ls [.int 1])) : W p l e room_1 s m args below meth c H locs cells slots Q (F0 m 987 ls []) := by
  obtain ⟨hx, hb, hml, hown, hY, hX0, hX, hbl, hN, hL⟩ := id hLC
  have hC : CX E s := hY.1
  refine lv_aload_n hx hb dL_law_987 rfl (lv_at hl 3 rfl) ?_
  refine wl_rd (As := []) hLC hLI hl (c_X6_digest l E hF.1.1) (zm_L_108 hC.1) kv_X6_digest rfl rfl ⟨Nat.le_of_ble_eq_true rfl, Nat.le_of_ble_eq_true rfl⟩ ⟨rfl, rfl⟩ (Nat.le_of_ble_eq_true rfl) ⟨by omega, by omega⟩ dL_law_988 ?_
  refine lv_lstore (lv' := [(4, .long (digA S)), (3, .ref (sa)), (2, .int (nI P)), (1, .ref (x1)), (0, .ref (b))]) hx hb dL_law_991 hl (by decide) rfl (fun ls hl => ?_)
  refine lv_iconst (v := 0) hx hb dL_law_993 (by decide) ?_
  refine lv_istore (lv' := [(6, .int (0)), (4, .long (digA S)), (3, .ref (sa)), (2, .int (nI P)), (1, .ref (x1)), (0, .ref (b))]) hx hb dL_law_994 hl (by decide) rfl (fun ls hl => ?_)
  have loop996 : ∀ (ru u : Nat), u + ru = 2 → ∀ ls, lv_has ls 24 [(6, .int (nI (u))), (4, .long (digA S)), (3, .ref (sa)), (2, .int (nI P)), (1, .ref (x1)), (0, .ref (b))] → W p l e room_1 s m args below meth c H locs cells slots Q (F0 m 996 ls []) := by
    intro ru
    induction ru with
    | zero =>
      intro u hEu ls hl
      have hNu : u = 2 := by omega
      subst hNu
      refine lv_iload hx hb dL_law_996 (lv_at hl 0 rfl) ?_
      refine lv_iconst (v := 2) hx hb dL_law_998 (by decide) ?_
      refine lv_icmp_ge (tgt := 1044) hx hb dL_law_999 (by decide) (fun c_999 => ?_) (fun c_999 => ?_)
      ·
        refine lv_aload_n hx hb dL_law_1044 rfl (lv_at hl 4 rfl) ?_
        refine wl_rd (As := []) hLC hLI hl (c_X6_digest l E hF.1.1) (zm_L_108 hC.1) kv_X6_digest rfl rfl ⟨Nat.le_of_ble_eq_true rfl, Nat.le_of_ble_eq_true rfl⟩ ⟨rfl, rfl⟩ (Nat.le_of_ble_eq_true rfl) ⟨by omega, by omega⟩ dL_law_1045 ?_
        refine lv_lload hx hb dL_law_1048 (lv_at hl 1 rfl) ?_
        refine g_lcmp0 hx hb dL_law_1050 ?_
        refine lv_if_ne (tgt := 1058) hx hb dL_law_1051 (by decide) (fun c_1051 => ?_) (fun c_1051 => ?_)
        · exact absurd (by decide) c_1051
        ·
          refine lv_iconst (v := 1) hx hb dL_law_1054 (by decide) ?_
          refine lv_goto (tgt := 1059) hx hb dL_law_1055 (by decide) ?_
          exact kk ls
      · exact absurd (by decide) c_999
    | succ ru ihu =>
      intro u hEu ls hl
      have hu : u < 2 := by omega
      refine lv_iload hx hb dL_law_996 (lv_at hl 0 rfl) ?_
      refine lv_iconst (v := 2) hx hb dL_law_998 (by decide) ?_
      refine lv_icmp_ge (tgt := 1044) hx hb dL_law_999 (by decide) (fun c_999 => ?_) (fun c_999 => ?_)
      · exact absurd c_999 (show ¬ (2 : Int32) ≤ nI u from nI_ge (b := 2) hu (by decide))
      ·
        refine lv_iconst (v := 0) hx hb dL_law_1002 (by decide) ?_
        refine lv_istore (lv' := [(7, .int (0)), (6, .int (nI (u))), (4, .long (digA S)), (3, .ref (sa)), (2, .int (nI P)), (1, .ref (x1)), (0, .ref (b))]) hx hb dL_law_1003 hl (by decide) rfl (fun ls hl => ?_)
        have loop1005 : ∀ (rv v : Nat), v + rv = 4 → ∀ ls, lv_has ls 24 [(7, .int (nI (v))), (6, .int (nI (u))), (4, .long (digA S)), (3, .ref (sa)), (2, .int (nI P)), (1, .ref (x1)), (0, .ref (b))] → W p l e room_1 s m args below meth c H locs cells slots Q (F0 m 1005 ls []) := by
          intro rv
          induction rv with
          | zero =>
            intro v hEv ls hl
            have hNv : v = 4 := by omega
            subst hNv
            refine lv_iload hx hb dL_law_1005 (lv_at hl 0 rfl) ?_
            refine lv_iconst (v := 4) hx hb dL_law_1007 (by decide) ?_
            refine lv_icmp_ge (tgt := 1038) hx hb dL_law_1008 (by decide) (fun c_1008 => ?_) (fun c_1008 => ?_)
            ·
              refine lv_iinc (v := nI (u) + 1) (lv' := [(6, .int (nI (u) + 1)), (7, .int (nI (4))), (4, .long (digA S)), (3, .ref (sa)), (2, .int (nI P)), (1, .ref (x1)), (0, .ref (b))]) hx hb dL_law_1038 hl (k := 1) rfl rfl (by decide) rfl (fun ls hl => ?_)
              refine lv_goto (tgt := 996) hx hb dL_law_1041 (by decide) ?_
              refine ihu (u + 1) (by omega) ls ?_
              rw [nI_succ u]
              exact lv_sub hl [0, 2, 3, 4, 5, 6] rfl
            · exact absurd (by decide) c_1008
          | succ rv ihv =>
            intro v hEv ls hl
            have hv : v < 4 := by omega
            refine lv_iload hx hb dL_law_1005 (lv_at hl 0 rfl) ?_
            refine lv_iconst (v := 4) hx hb dL_law_1007 (by decide) ?_
            refine lv_icmp_ge (tgt := 1038) hx hb dL_law_1008 (by decide) (fun c_1008 => ?_) (fun c_1008 => ?_)
            · exact absurd c_1008 (show ¬ (4 : Int32) ≤ nI v from nI_ge (b := 4) hv (by decide))
            ·
              refine lv_aload_n hx hb dL_law_1011 rfl (lv_at hl 5 rfl) ?_
              refine lv_iload hx hb dL_law_1012 (lv_at hl 1 rfl) ?_
              refine lv_iload hx hb dL_law_1014 (lv_at hl 0 rfl) ?_
              refine wl_rd (As := [.int (nI (u)), .int (nI (v))]) hLC hLI hl (c_X6_leftWith l E hF.1.1 (k9 := u) (Nat.lt_trans hu (by decide)) (per9 := v) hv) (zm_L_112 hC.1) kv_X6_leftWith rfl rfl ⟨Nat.le_of_ble_eq_true rfl, Nat.le_of_ble_eq_true rfl⟩ ⟨rfl, rfl⟩ (Nat.le_of_ble_eq_true rfl) ⟨by omega, by omega⟩ dL_law_1016 ?_
              refine lv_aload_n hx hb dL_law_1019 rfl (lv_at hl 5 rfl) ?_
              refine lv_iload hx hb dL_law_1020 (lv_at hl 1 rfl) ?_
              refine lv_iload hx hb dL_law_1022 (lv_at hl 0 rfl) ?_
              refine wl_rd (As := [.int (nI (u)), .int (nI (v))]) hLC hLI hl (c_X6_left l E hF.1.1 (k9 := u) (Nat.lt_trans hu (by decide)) (per9 := v) hv) (zm_L_46 hC.1) kv_X6_left rfl rfl ⟨Nat.le_of_ble_eq_true rfl, Nat.le_of_ble_eq_true rfl⟩ ⟨rfl, rfl⟩ (Nat.le_of_ble_eq_true rfl) ⟨by omega, by omega⟩ dL_law_1024 ?_
              refine lv_icmp_ge (tgt := 1032) hx hb dL_law_1027 (by decide) (fun c_1027 => ?_) (fun c_1027 => ?_)
              ·
                refine lv_iinc (v := nI (v) + 1) (lv' := [(7, .int (nI (v) + 1)), (6, .int (nI (u))), (4, .long (digA S)), (3, .ref (sa)), (2, .int (nI P)), (1, .ref (x1)), (0, .ref (b))]) hx hb dL_law_1032 hl (k := 0) rfl rfl (by decide) rfl (fun ls hl => ?_)
                refine lv_goto (tgt := 1005) hx hb dL_law_1035 (by decide) ?_
                refine ihv (v + 1) (by omega) ls ?_
                rw [nI_succ v]
                exact lv_sub hl [0, 1, 2, 3, 4, 5, 6] rfl
              · exact absurd (left_no hF.1.1 u (v + 1) (by omega)) c_1027
        exact loop1005 4 0 (by omega) ls (lv_sub hl [0, 1, 2, 3, 4, 5, 6] rfl)
  exact loop996 2 0 (by omega) ls (lv_sub hl [0, 1, 2, 3, 4, 5] rfl)
end LAWs
