theorem take_s {k : Nat} : ∀ {l : List Nat} {z : Nat}, l[z]? = some k → l.take (z + 1) = l.take z ++ [k]
  | [], z, h => by simp at h
  | x :: l, 0, h => by
    have h9 : x = k := Option.some.inj h
    rw [h9]; rfl
  | x :: l, z + 1, h => by
    have h9 : l[z]? = some k := h
    rw [List.take_succ_cons, List.take_succ_cons, take_s h9]; rfl
theorem kd_le {sk : Nat → Nat} {all : Int32} {n : Nat} {S : VS} (h : PI sk all n S) (hn : n ≤ 30) : sumN (vA S 6) 4 ≤ sumN (vA S 12) 5 := by
  obtain ⟨a, b, h1, h2, h3, h4⟩ := h.kd
  rw [h.rides, h1, h2]
  exact (nI_leI (by omega) (by omega)).mpr h3
section LAW2
variable {p : Program} {l : Launch} {e : Env} {s : State} {m : MethodId} {args : Array Value} {below : List Frame} {meth : Method} {c : Code} {H : Heap} {locs : List Loc} {cells slots : Nat} {Q : State → Prop} {ls : Array Slot} {D : va_G} {A : Nat → Prop} {cI cL : ClassId} {a : Nat → Nat} {sb L : Nat} {xs : Nat → Int32}
set_option maxRecDepth 100000 in
set_option maxHeartbeats 4000000 in
theorem st_t1 (CX : Cx p s m args meth c cL_law 16 (some .boolean) RL wsL_law D (ty2 cI cL) A) (hSX : SX A sb L xs s) (hc : cells ≤ room_1.cells) (hs : slots ≤ room_1.slots) (o : Nat) (S : VS) (qt : Nat → Int32) (qp : Nat → Int32) (T : VS) (qt2 : Nat → Int32) (qp2 : Nat → Int32) (all : Int32) (n : Nat) (x : Int32) (k : Nat) (t : Nat) (pts : Int32) (hL : L ≤ 260) (hk : k < 5) (ht : t ≤ 2) (hn : n < 30) (hP : PI (skF xs L) all (n + 1) S) (hR : Rep (vs S) (vq S) qt qp) (HW : Hw D A s (wXo cI a o  ++ (wVo cI a (o + 1) (vh S) (vc S) (vA S 0) (vA S 1) (vA S 2) ++ (wR cI a ((o + 1) + 4) (vr S) (vA S 3) (vA S 4) (vA S 5) (vA S 6) ++ (wS cI a ((o + 1) + 9) (vs S) (vA S 7) (vA S 8) (vA S 9) (vA S 10) (vA S 11) (vA S 12) qt qp ++ (wVo cI a (o + 19) (vh T) (vc T) (vA T 0) (vA T 1) (vA T 2) ++ (wR cI a ((o + 19) + 4) (vr T) (vA T 3) (vA T 4) (vA T 5) (vA T 6) ++ (wS cI a ((o + 19) + 9) (vs T) (vA T 7) (vA T 8) (vA T 9) (vA T 10) (vA T 11) (vA T 12) qt2 qp2))))))) H locs) (hl : lv_has ls 16 [(7, .int pts), (6, .int (nI t)), (5, .int (nI k)), (4, .int x), (3, .int (nI n)), (2, .int all), (1, .ref (a o)), (0, .ref sb)]) (kk : ∀ (_u : Unit), ∀ (H : Heap) (locs : List Loc) (ls : Array Slot), Hw D A s (wXo cI a o  ++ (wVo cI a (o + 1) (vh S) (vc S) (vA S 0) (vA S 1) (vA S 2) ++ (wR cI a ((o + 1) + 4) (vr S) (vA S 3) (vA S 4) (vA S 5) (vA S 6) ++ (wS cI a ((o + 1) + 9) (vs S) (vA S 7) (vA S 8) (vA S 9) (vA S 10) (vA S 11) (vA S 12) qt qp ++ (wVo cI a (o + 19) (vh T) (vc T) (vA T 0) (vA T 1) (vA T 2) ++ (wR cI a ((o + 19) + 4) (vr T) (vA T 3) (vA T 4) (vA T 5) (vA T 6) ++ (wS cI a ((o + 19) + 9) (vs T) (vA T 7) (vA T 8) (vA T 9) (vA T 10) (vA T 11) (vA T 12) qt2 qp2))))))) H locs → lv_has ls 16 [(11, .int (nI (cntN (towQ (vq S)) 5))), (10, .int (sumN (vA S 11) 5)), (9, .int (sumN (vA S 12) 5)), (8, .int (vc S + sumN (vA S 8) 5)), (7, .int pts), (6, .int (nI t)), (5, .int (nI k)), (4, .int x), (3, .int (nI n)), (2, .int all), (1, .ref (a o)), (0, .ref sb)] → W p l e room_1 s m args below meth c H locs cells slots Q (F0 m 534 ls [])) : W p l e room_1 s m args below meth c H locs cells slots Q (F0 m 356 ls []) := by
  obtain ⟨hx, hb, hml, hr, hown, hts, hK, hA, hlk⟩ := id CX
  have hn8 : vs S ≤ 8 := hP.inv.2.1
  have hv5 := hP.s5
  have hh : vh S + 100 < 2 ^ 31 := by have := hP.hh; omega
  have l375 : ∀ (d0 : Nat) (i : Nat), 5 - i = d0 → (i ≤ 5) → ∀ (H : Heap) (locs : List Loc) (ls : Array Slot), Hw D A s (wXo cI a o  ++ (wVo cI a (o + 1) (vh S) (vc S) (vA S 0) (vA S 1) (vA S 2) ++ (wR cI a ((o + 1) + 4) (vr S) (vA S 3) (vA S 4) (vA S 5) (vA S 6) ++ (wS cI a ((o + 1) + 9) (vs S) (vA S 7) (vA S 8) (vA S 9) (vA S 10) (vA S 11) (vA S 12) qt qp ++ (wVo cI a (o + 19) (vh T) (vc T) (vA T 0) (vA T 1) (vA T 2) ++ (wR cI a ((o + 19) + 4) (vr T) (vA T 3) (vA T 4) (vA T 5) (vA T 6) ++ (wS cI a ((o + 19) + 9) (vs T) (vA T 7) (vA T 8) (vA T 9) (vA T 10) (vA T 11) (vA T 12) qt2 qp2))))))) H locs → lv_has ls 16 [(12, .int (nI i)), (11, .int (nI (cntN (towQ (vq S)) i))), (10, .int (sumN (vA S 11) i)), (9, .int (sumN (vA S 12) i)), (8, .int (vc S + sumN (vA S 8) i)), (7, .int pts), (6, .int (nI t)), (5, .int (nI k)), (4, .int x), (3, .int (nI n)), (2, .int all), (1, .ref (a o)), (0, .ref sb)] → W p l e room_1 s m args below meth c H locs cells slots Q (F0 m 375 ls []) := by
    intro d0
    induction d0 using Nat.strongRecOn with
    | _ d0 ih =>
      intro i hd0 hi H locs ls HW hl
      have j438 : ∀ (_u : Unit), (i < 5) → ∀ (H : Heap) (locs : List Loc) (ls : Array Slot), Hw D A s (wXo cI a o  ++ (wVo cI a (o + 1) (vh S) (vc S) (vA S 0) (vA S 1) (vA S 2) ++ (wR cI a ((o + 1) + 4) (vr S) (vA S 3) (vA S 4) (vA S 5) (vA S 6) ++ (wS cI a ((o + 1) + 9) (vs S) (vA S 7) (vA S 8) (vA S 9) (vA S 10) (vA S 11) (vA S 12) qt qp ++ (wVo cI a (o + 19) (vh T) (vc T) (vA T 0) (vA T 1) (vA T 2) ++ (wR cI a ((o + 19) + 4) (vr T) (vA T 3) (vA T 4) (vA T 5) (vA T 6) ++ (wS cI a ((o + 19) + 9) (vs T) (vA T 7) (vA T 8) (vA T 9) (vA T 10) (vA T 11) (vA T 12) qt2 qp2))))))) H locs → lv_has ls 16 [(12, .int (nI i)), (11, .int (nI (cntN (towQ (vq S)) (i + 1)))), (10, .int (sumN (vA S 11) (i + 1))), (9, .int (sumN (vA S 12) (i + 1))), (8, .int (vc S + sumN (vA S 8) (i + 1))), (7, .int pts), (6, .int (nI t)), (5, .int (nI k)), (4, .int x), (3, .int (nI n)), (2, .int all), (1, .ref (a o)), (0, .ref sb)] → W p l e room_1 s m args below meth c H locs cells slots Q (F0 m 438 ls []) := by
        intro _u hi5 H locs ls HW hl
        obtain ⟨z8, hz8, e8⟩ := coin_of hP hi5
        obtain ⟨z10, hz10, e10⟩ := lay_of hP hi5
        obtain ⟨z11, hz11, e11⟩ := hP.pts i
        refine lv_aload_n hx hb dL_law_438 rfl (lv_at hl 11 rfl) ?_
        refine lv_iload hx hb dL_law_439 (lv_at hl 0 rfl) ?_
        refine lv_iconst (v := 1) hx hb dL_law_441 (by decide) ?_
        refine g_callV CX HW hl.1 ([]) ([]) (c_X3_told o S qt qp T qt2 qp2 i 1 hP.inv hR (by show i < vs S; omega) (by decide)) rfl 0 rfl rfl gL_law_X3_told rfl ⟨rfl, hd_X3_told⟩ ⟨rfl, rfl, (Nat.le_of_ble_eq_true rfl), (Nat.le_of_ble_eq_true rfl)⟩ ⟨hc, hs⟩ rfl rfl (Nat.le_of_ble_eq_true rfl) dL_law_442 (fun v w1 H locs hp HW => ?_)
        obtain ⟨rfl, rfl⟩ := hp
        have HW : Hw D A s (wXo cI a o  ++ (wVo cI a (o + 1) (vh S) (vc S) (vA S 0) (vA S 1) (vA S 2) ++ (wR cI a ((o + 1) + 4) (vr S) (vA S 3) (vA S 4) (vA S 5) (vA S 6) ++ (wS cI a ((o + 1) + 9) (vs S) (vA S 7) (vA S 8) (vA S 9) (vA S 10) (vA S 11) (vA S 12) qt qp ++ (wVo cI a (o + 19) (vh T) (vc T) (vA T 0) (vA T 1) (vA T 2) ++ (wR cI a ((o + 19) + 4) (vr T) (vA T 3) (vA T 4) (vA T 5) (vA T 6) ++ (wS cI a ((o + 19) + 9) (vs T) (vA T 7) (vA T 8) (vA T 9) (vA T 10) (vA T 11) (vA T 12) qt2 qp2))))))) H locs := HW
        refine W.eq (g2 := F0 m 445 ls [.int (figK S i 1)]) rfl ?_
        refine lv_if_lt (tgt := 526) hx hb dL_law_445 (by decide) (fun c445 => ?_) (fun c445 => ?_)
        · exact absurd c445 (by show ¬ vA S 8 i < 0; rw [e8]; exact nI_pos (by omega))
        · refine lv_aload_n hx hb dL_law_448 rfl (lv_at hl 11 rfl) ?_
          refine lv_iload hx hb dL_law_449 (lv_at hl 0 rfl) ?_
          refine lv_iconst (v := 4) hx hb dL_law_451 (by decide) ?_
          refine g_callV CX HW hl.1 ([]) ([]) (c_X3_told o S qt qp T qt2 qp2 i 4 hP.inv hR (by show i < vs S; omega) (by decide)) rfl 0 rfl rfl gL_law_X3_told rfl ⟨rfl, hd_X3_told⟩ ⟨rfl, rfl, (Nat.le_of_ble_eq_true rfl), (Nat.le_of_ble_eq_true rfl)⟩ ⟨hc, hs⟩ rfl rfl (Nat.le_of_ble_eq_true rfl) dL_law_452 (fun v w1 H locs hp HW => ?_)
          obtain ⟨rfl, rfl⟩ := hp
          have HW : Hw D A s (wXo cI a o  ++ (wVo cI a (o + 1) (vh S) (vc S) (vA S 0) (vA S 1) (vA S 2) ++ (wR cI a ((o + 1) + 4) (vr S) (vA S 3) (vA S 4) (vA S 5) (vA S 6) ++ (wS cI a ((o + 1) + 9) (vs S) (vA S 7) (vA S 8) (vA S 9) (vA S 10) (vA S 11) (vA S 12) qt qp ++ (wVo cI a (o + 19) (vh T) (vc T) (vA T 0) (vA T 1) (vA T 2) ++ (wR cI a ((o + 19) + 4) (vr T) (vA T 3) (vA T 4) (vA T 5) (vA T 6) ++ (wS cI a ((o + 19) + 9) (vs T) (vA T 7) (vA T 8) (vA T 9) (vA T 10) (vA T 11) (vA T 12) qt2 qp2))))))) H locs := HW
          refine W.eq (g2 := F0 m 455 ls [.int (figK S i 4)]) rfl ?_
          refine lv_if_lt (tgt := 526) hx hb dL_law_455 (by decide) (fun c455 => ?_) (fun c455 => ?_)
          · exact absurd c455 (by show ¬ vA S 11 i < 0; rw [e11]; exact nI_pos (by omega))
          · refine lv_aload_n hx hb dL_law_458 rfl (lv_at hl 11 rfl) ?_
            refine lv_iload hx hb dL_law_459 (lv_at hl 0 rfl) ?_
            refine lv_iconst (v := 4) hx hb dL_law_461 (by decide) ?_
            refine g_callV CX HW hl.1 ([]) ([]) (c_X3_told o S qt qp T qt2 qp2 i 4 hP.inv hR (by show i < vs S; omega) (by decide)) rfl 0 rfl rfl gL_law_X3_told rfl ⟨rfl, hd_X3_told⟩ ⟨rfl, rfl, (Nat.le_of_ble_eq_true rfl), (Nat.le_of_ble_eq_true rfl)⟩ ⟨hc, hs⟩ rfl rfl (Nat.le_of_ble_eq_true rfl) dL_law_462 (fun v w1 H locs hp HW => ?_)
            obtain ⟨rfl, rfl⟩ := hp
            have HW : Hw D A s (wXo cI a o  ++ (wVo cI a (o + 1) (vh S) (vc S) (vA S 0) (vA S 1) (vA S 2) ++ (wR cI a ((o + 1) + 4) (vr S) (vA S 3) (vA S 4) (vA S 5) (vA S 6) ++ (wS cI a ((o + 1) + 9) (vs S) (vA S 7) (vA S 8) (vA S 9) (vA S 10) (vA S 11) (vA S 12) qt qp ++ (wVo cI a (o + 19) (vh T) (vc T) (vA T 0) (vA T 1) (vA T 2) ++ (wR cI a ((o + 19) + 4) (vr T) (vA T 3) (vA T 4) (vA T 5) (vA T 6) ++ (wS cI a ((o + 19) + 9) (vs T) (vA T 7) (vA T 8) (vA T 9) (vA T 10) (vA T 11) (vA T 12) qt2 qp2))))))) H locs := HW
            refine W.eq (g2 := F0 m 465 ls [.int (figK S i 4)]) rfl ?_
            refine lv_sipush (v := 999) hx hb dL_law_465 (by decide) ?_
            refine lv_icmp_gt (tgt := 526) hx hb dL_law_468 (by decide) (fun c468 => ?_) (fun c468 => ?_)
            · exact absurd c468 (by show ¬ 999 < vA S 11 i; rw [e11]; exact fun h9 => absurd ((nI_ltI (a := 999) (b := z11) (by decide) (by omega)).mp h9) (by omega))
            · refine lv_aload_n hx hb dL_law_471 rfl (lv_at hl 11 rfl) ?_
              refine lv_iload hx hb dL_law_472 (lv_at hl 0 rfl) ?_
              refine lv_iconst (v := 3) hx hb dL_law_474 (by decide) ?_
              refine g_callV CX HW hl.1 ([]) ([]) (c_X3_told o S qt qp T qt2 qp2 i 3 hP.inv hR (by show i < vs S; omega) (by decide)) rfl 0 rfl rfl gL_law_X3_told rfl ⟨rfl, hd_X3_told⟩ ⟨rfl, rfl, (Nat.le_of_ble_eq_true rfl), (Nat.le_of_ble_eq_true rfl)⟩ ⟨hc, hs⟩ rfl rfl (Nat.le_of_ble_eq_true rfl) dL_law_475 (fun v w1 H locs hp HW => ?_)
              obtain ⟨rfl, rfl⟩ := hp
              have HW : Hw D A s (wXo cI a o  ++ (wVo cI a (o + 1) (vh S) (vc S) (vA S 0) (vA S 1) (vA S 2) ++ (wR cI a ((o + 1) + 4) (vr S) (vA S 3) (vA S 4) (vA S 5) (vA S 6) ++ (wS cI a ((o + 1) + 9) (vs S) (vA S 7) (vA S 8) (vA S 9) (vA S 10) (vA S 11) (vA S 12) qt qp ++ (wVo cI a (o + 19) (vh T) (vc T) (vA T 0) (vA T 1) (vA T 2) ++ (wR cI a ((o + 19) + 4) (vr T) (vA T 3) (vA T 4) (vA T 5) (vA T 6) ++ (wS cI a ((o + 19) + 9) (vs T) (vA T 7) (vA T 8) (vA T 9) (vA T 10) (vA T 11) (vA T 12) qt2 qp2))))))) H locs := HW
              refine W.eq (g2 := F0 m 478 ls [.int (figK S i 3)]) rfl ?_
              refine lv_if_lt (tgt := 526) hx hb dL_law_478 (by decide) (fun c478 => ?_) (fun c478 => ?_)
              · exact absurd c478 (by show ¬ vA S 10 i < 0; rw [e10]; exact nI_pos (by omega))
              · refine lv_aload_n hx hb dL_law_481 rfl (lv_at hl 11 rfl) ?_
                refine lv_iload hx hb dL_law_482 (lv_at hl 0 rfl) ?_
                refine lv_iconst (v := 3) hx hb dL_law_484 (by decide) ?_
                refine g_callV CX HW hl.1 ([]) ([]) (c_X3_told o S qt qp T qt2 qp2 i 3 hP.inv hR (by show i < vs S; omega) (by decide)) rfl 0 rfl rfl gL_law_X3_told rfl ⟨rfl, hd_X3_told⟩ ⟨rfl, rfl, (Nat.le_of_ble_eq_true rfl), (Nat.le_of_ble_eq_true rfl)⟩ ⟨hc, hs⟩ rfl rfl (Nat.le_of_ble_eq_true rfl) dL_law_485 (fun v w1 H locs hp HW => ?_)
                obtain ⟨rfl, rfl⟩ := hp
                have HW : Hw D A s (wXo cI a o  ++ (wVo cI a (o + 1) (vh S) (vc S) (vA S 0) (vA S 1) (vA S 2) ++ (wR cI a ((o + 1) + 4) (vr S) (vA S 3) (vA S 4) (vA S 5) (vA S 6) ++ (wS cI a ((o + 1) + 9) (vs S) (vA S 7) (vA S 8) (vA S 9) (vA S 10) (vA S 11) (vA S 12) qt qp ++ (wVo cI a (o + 19) (vh T) (vc T) (vA T 0) (vA T 1) (vA T 2) ++ (wR cI a ((o + 19) + 4) (vr T) (vA T 3) (vA T 4) (vA T 5) (vA T 6) ++ (wS cI a ((o + 19) + 9) (vs T) (vA T 7) (vA T 8) (vA T 9) (vA T 10) (vA T 11) (vA T 12) qt2 qp2))))))) H locs := HW
                refine W.eq (g2 := F0 m 488 ls [.int (figK S i 3)]) rfl ?_
                refine lv_bipush (v := 10) hx hb dL_law_488 (by decide) ?_
                refine lv_icmp_gt (tgt := 526) hx hb dL_law_490 (by decide) (fun c490 => ?_) (fun c490 => ?_)
                · exact absurd c490 (by show ¬ 10 < vA S 10 i; rw [e10]; exact fun h9 => absurd ((nI_ltI (a := 10) (b := z10) (by decide) (by omega)).mp h9) (by omega))
                · refine lv_aload_n hx hb dL_law_493 rfl (lv_at hl 11 rfl) ?_
                  refine lv_iload hx hb dL_law_494 (lv_at hl 0 rfl) ?_
                  refine lv_iconst (v := 3) hx hb dL_law_496 (by decide) ?_
                  refine g_callV CX HW hl.1 ([]) ([]) (c_X3_told o S qt qp T qt2 qp2 i 3 hP.inv hR (by show i < vs S; omega) (by decide)) rfl 0 rfl rfl gL_law_X3_told rfl ⟨rfl, hd_X3_told⟩ ⟨rfl, rfl, (Nat.le_of_ble_eq_true rfl), (Nat.le_of_ble_eq_true rfl)⟩ ⟨hc, hs⟩ rfl rfl (Nat.le_of_ble_eq_true rfl) dL_law_497 (fun v w1 H locs hp HW => ?_)
                  obtain ⟨rfl, rfl⟩ := hp
                  have HW : Hw D A s (wXo cI a o  ++ (wVo cI a (o + 1) (vh S) (vc S) (vA S 0) (vA S 1) (vA S 2) ++ (wR cI a ((o + 1) + 4) (vr S) (vA S 3) (vA S 4) (vA S 5) (vA S 6) ++ (wS cI a ((o + 1) + 9) (vs S) (vA S 7) (vA S 8) (vA S 9) (vA S 10) (vA S 11) (vA S 12) qt qp ++ (wVo cI a (o + 19) (vh T) (vc T) (vA T 0) (vA T 1) (vA T 2) ++ (wR cI a ((o + 19) + 4) (vr T) (vA T 3) (vA T 4) (vA T 5) (vA T 6) ++ (wS cI a ((o + 19) + 9) (vs T) (vA T 7) (vA T 8) (vA T 9) (vA T 10) (vA T 11) (vA T 12) qt2 qp2))))))) H locs := HW
                  refine W.eq (g2 := F0 m 500 ls [.int (figK S i 3)]) rfl ?_
                  refine lv_if_ne (tgt := 507) hx hb dL_law_500 (by decide) (fun c500 => ?_) (fun c500 => ?_)
                  · refine lv_iconst (v := 0) hx hb dL_law_507 (by decide) ?_
                    refine lv_aload_n hx hb dL_law_508 rfl (lv_at hl 11 rfl) ?_
                    refine lv_iload hx hb dL_law_509 (lv_at hl 0 rfl) ?_
                    refine lv_iconst (v := 2) hx hb dL_law_511 (by decide) ?_
                    refine g_callV CX HW hl.1 ([]) ([]) (c_X3_told o S qt qp T qt2 qp2 i 2 hP.inv hR (by show i < vs S; omega) (by decide)) rfl 0 rfl rfl gL_law_X3_told rfl ⟨rfl, hd_X3_told⟩ ⟨rfl, rfl, (Nat.le_of_ble_eq_true rfl), (Nat.le_of_ble_eq_true rfl)⟩ ⟨hc, hs⟩ rfl rfl (Nat.le_of_ble_eq_true rfl) dL_law_512 (fun v w1 H locs hp HW => ?_)
                    obtain ⟨rfl, rfl⟩ := hp
                    have HW : Hw D A s (wXo cI a o  ++ (wVo cI a (o + 1) (vh S) (vc S) (vA S 0) (vA S 1) (vA S 2) ++ (wR cI a ((o + 1) + 4) (vr S) (vA S 3) (vA S 4) (vA S 5) (vA S 6) ++ (wS cI a ((o + 1) + 9) (vs S) (vA S 7) (vA S 8) (vA S 9) (vA S 10) (vA S 11) (vA S 12) qt qp ++ (wVo cI a (o + 19) (vh T) (vc T) (vA T 0) (vA T 1) (vA T 2) ++ (wR cI a ((o + 19) + 4) (vr T) (vA T 3) (vA T 4) (vA T 5) (vA T 6) ++ (wS cI a ((o + 19) + 9) (vs T) (vA T 7) (vA T 8) (vA T 9) (vA T 10) (vA T 11) (vA T 12) qt2 qp2))))))) H locs := HW
                    refine W.eq (g2 := F0 m 515 ls [.int (figK S i 2), .int (0 : Int32)]) rfl ?_
                    refine lv_if_ge (tgt := 522) hx hb dL_law_515 (by decide) (fun c515 => ?_) (fun c515 => ?_)
                    · refine lv_iconst (v := 0) hx hb dL_law_522 (by decide) ?_
                      refine lv_icmp_eq (tgt := 528) hx hb dL_law_523 (by decide) (fun c523 => ?_) (fun c523 => ?_)
                      · refine lv_iinc (v := (nI (i + 1))) (lv' := [(12, .int (nI (i + 1))), (11, .int (nI (cntN (towQ (vq S)) (i + 1)))), (10, .int (sumN (vA S 11) (i + 1))), (9, .int (sumN (vA S 12) (i + 1))), (8, .int (vc S + sumN (vA S 8) (i + 1))), (7, .int pts), (6, .int (nI t)), (5, .int (nI k)), (4, .int x), (3, .int (nI n)), (2, .int all), (1, .ref (a o)), (0, .ref sb)]) hx hb dL_law_528 hl (k := 0) rfl (inc1 _) (Nat.le_of_ble_eq_true rfl) rfl (fun ls hl => ?_)
                        refine lv_goto (tgt := 375) hx hb dL_law_531 (by decide) ?_
                        exact ih _ (by omega) (i + 1) rfl (by omega) _ _ _ HW (lv_sub hl [0, 1, 2, 3, 4, 5, 6, 7, 8, 9, 10, 11, 12] rfl)
                      · exact absurd c523 (by decide)
                    · refine lv_iconst (v := 1) hx hb dL_law_518 (by decide) ?_
                      refine lv_goto (tgt := 523) hx hb dL_law_519 (by decide) ?_
                      refine lv_icmp_eq (tgt := 528) hx hb dL_law_523 (by decide) (fun c523 => ?_) (fun c523 => ?_)
                      · exact absurd c523 (by decide)
                      · first | exact absurd rfl c523 | exact absurd ((lay_wax hP hi5).mp c500) (Int32.not_lt.mpr c515) | exact absurd ((lay_wax hP hi5).mpr (Int32.not_le.mp c515)) c500
                  · refine lv_iconst (v := 1) hx hb dL_law_503 (by decide) ?_
                    refine lv_goto (tgt := 508) hx hb dL_law_504 (by decide) ?_
                    refine lv_aload_n hx hb dL_law_508 rfl (lv_at hl 11 rfl) ?_
                    refine lv_iload hx hb dL_law_509 (lv_at hl 0 rfl) ?_
                    refine lv_iconst (v := 2) hx hb dL_law_511 (by decide) ?_
                    refine g_callV CX HW hl.1 ([]) ([]) (c_X3_told o S qt qp T qt2 qp2 i 2 hP.inv hR (by show i < vs S; omega) (by decide)) rfl 0 rfl rfl gL_law_X3_told rfl ⟨rfl, hd_X3_told⟩ ⟨rfl, rfl, (Nat.le_of_ble_eq_true rfl), (Nat.le_of_ble_eq_true rfl)⟩ ⟨hc, hs⟩ rfl rfl (Nat.le_of_ble_eq_true rfl) dL_law_512 (fun v w1 H locs hp HW => ?_)
                    obtain ⟨rfl, rfl⟩ := hp
                    have HW : Hw D A s (wXo cI a o  ++ (wVo cI a (o + 1) (vh S) (vc S) (vA S 0) (vA S 1) (vA S 2) ++ (wR cI a ((o + 1) + 4) (vr S) (vA S 3) (vA S 4) (vA S 5) (vA S 6) ++ (wS cI a ((o + 1) + 9) (vs S) (vA S 7) (vA S 8) (vA S 9) (vA S 10) (vA S 11) (vA S 12) qt qp ++ (wVo cI a (o + 19) (vh T) (vc T) (vA T 0) (vA T 1) (vA T 2) ++ (wR cI a ((o + 19) + 4) (vr T) (vA T 3) (vA T 4) (vA T 5) (vA T 6) ++ (wS cI a ((o + 19) + 9) (vs T) (vA T 7) (vA T 8) (vA T 9) (vA T 10) (vA T 11) (vA T 12) qt2 qp2))))))) H locs := HW
                    refine W.eq (g2 := F0 m 515 ls [.int (figK S i 2), .int (1 : Int32)]) rfl ?_
                    refine lv_if_ge (tgt := 522) hx hb dL_law_515 (by decide) (fun c515 => ?_) (fun c515 => ?_)
                    · refine lv_iconst (v := 0) hx hb dL_law_522 (by decide) ?_
                      refine lv_icmp_eq (tgt := 528) hx hb dL_law_523 (by decide) (fun c523 => ?_) (fun c523 => ?_)
                      · exact absurd c523 (by decide)
                      · first | exact absurd rfl c523 | exact absurd ((lay_wax hP hi5).mp c500) (Int32.not_lt.mpr c515) | exact absurd ((lay_wax hP hi5).mpr (Int32.not_le.mp c515)) c500
                    · refine lv_iconst (v := 1) hx hb dL_law_518 (by decide) ?_
                      refine lv_goto (tgt := 523) hx hb dL_law_519 (by decide) ?_
                      refine lv_icmp_eq (tgt := 528) hx hb dL_law_523 (by decide) (fun c523 => ?_) (fun c523 => ?_)
                      · refine lv_iinc (v := (nI (i + 1))) (lv' := [(12, .int (nI (i + 1))), (11, .int (nI (cntN (towQ (vq S)) (i + 1)))), (10, .int (sumN (vA S 11) (i + 1))), (9, .int (sumN (vA S 12) (i + 1))), (8, .int (vc S + sumN (vA S 8) (i + 1))), (7, .int pts), (6, .int (nI t)), (5, .int (nI k)), (4, .int x), (3, .int (nI n)), (2, .int all), (1, .ref (a o)), (0, .ref sb)]) hx hb dL_law_528 hl (k := 0) rfl (inc1 _) (Nat.le_of_ble_eq_true rfl) rfl (fun ls hl => ?_)
                        refine lv_goto (tgt := 375) hx hb dL_law_531 (by decide) ?_
                        exact ih _ (by omega) (i + 1) rfl (by omega) _ _ _ HW (lv_sub hl [0, 1, 2, 3, 4, 5, 6, 7, 8, 9, 10, 11, 12] rfl)
                      · exact absurd c523 (by decide)
      refine lv_iload hx hb dL_law_375 (lv_at hl 0 rfl) ?_
      refine lv_iconst (v := 5) hx hb dL_law_377 (by decide) ?_
      refine lv_icmp_ge (tgt := 534) hx hb dL_law_378 (by decide) (fun c378 => ?_) (fun c378 => ?_)
      · have c378 := (nI_leI (a := 5) (b := i) (by decide) (by omega)).mp c378
        obtain rfl : i = 5 := by omega
        exact kk ()  _ _ _ HW (lv_sub hl [1, 2, 3, 4, 5, 6, 7, 8, 9, 10, 11, 12] rfl)
      · have c378 : i < 5 := nI_lt_of (a := 5) (b := i) (by decide) (by omega) c378
        refine lv_iload hx hb dL_law_381 (lv_at hl 4 rfl) ?_
        refine lv_aload_n hx hb dL_law_383 rfl (lv_at hl 11 rfl) ?_
        refine lv_iload hx hb dL_law_384 (lv_at hl 0 rfl) ?_
        refine lv_iconst (v := 1) hx hb dL_law_386 (by decide) ?_
        refine g_callV CX HW hl.1 ([]) ([]) (c_X3_told o S qt qp T qt2 qp2 i 1 hP.inv hR (by show i < vs S; omega) (by decide)) rfl 0 rfl rfl gL_law_X3_told rfl ⟨rfl, hd_X3_told⟩ ⟨rfl, rfl, (Nat.le_of_ble_eq_true rfl), (Nat.le_of_ble_eq_true rfl)⟩ ⟨hc, hs⟩ rfl rfl (Nat.le_of_ble_eq_true rfl) dL_law_387 (fun v w1 H locs hp HW => ?_)
        obtain ⟨rfl, rfl⟩ := hp
        have HW : Hw D A s (wXo cI a o  ++ (wVo cI a (o + 1) (vh S) (vc S) (vA S 0) (vA S 1) (vA S 2) ++ (wR cI a ((o + 1) + 4) (vr S) (vA S 3) (vA S 4) (vA S 5) (vA S 6) ++ (wS cI a ((o + 1) + 9) (vs S) (vA S 7) (vA S 8) (vA S 9) (vA S 10) (vA S 11) (vA S 12) qt qp ++ (wVo cI a (o + 19) (vh T) (vc T) (vA T 0) (vA T 1) (vA T 2) ++ (wR cI a ((o + 19) + 4) (vr T) (vA T 3) (vA T 4) (vA T 5) (vA T 6) ++ (wS cI a ((o + 19) + 9) (vs T) (vA T 7) (vA T 8) (vA T 9) (vA T 10) (vA T 11) (vA T 12) qt2 qp2))))))) H locs := HW
        refine W.eq (g2 := F0 m 390 ls [.int (figK S i 1), .int (vc S + sumN (vA S 8) i)]) rfl ?_
        refine lv_iadd hx hb dL_law_390 ?_
        refine g_top (y := (vc S + sumN (vA S 8) (i + 1))) (Int32.add_assoc _ _ _) ?_
        refine lv_istore (lv' := [(8, .int (vc S + sumN (vA S 8) (i + 1))), (12, .int (nI i)), (11, .int (nI (cntN (towQ (vq S)) i))), (10, .int (sumN (vA S 11) i)), (9, .int (sumN (vA S 12) i)), (7, .int pts), (6, .int (nI t)), (5, .int (nI k)), (4, .int x), (3, .int (nI n)), (2, .int all), (1, .ref (a o)), (0, .ref sb)]) hx hb dL_law_391 hl (Nat.le_of_ble_eq_true rfl) rfl (fun ls hl => ?_)
        refine lv_iload hx hb dL_law_393 (lv_at hl 4 rfl) ?_
        refine lv_aload_n hx hb dL_law_395 rfl (lv_at hl 11 rfl) ?_
        refine lv_iload hx hb dL_law_396 (lv_at hl 1 rfl) ?_
        refine lv_iconst (v := 5) hx hb dL_law_398 (by decide) ?_
        refine g_callV CX HW hl.1 ([]) ([]) (c_X3_told o S qt qp T qt2 qp2 i 5 hP.inv hR (by show i < vs S; omega) (by decide)) rfl 0 rfl rfl gL_law_X3_told rfl ⟨rfl, hd_X3_told⟩ ⟨rfl, rfl, (Nat.le_of_ble_eq_true rfl), (Nat.le_of_ble_eq_true rfl)⟩ ⟨hc, hs⟩ rfl rfl (Nat.le_of_ble_eq_true rfl) dL_law_399 (fun v w1 H locs hp HW => ?_)
        obtain ⟨rfl, rfl⟩ := hp
        have HW : Hw D A s (wXo cI a o  ++ (wVo cI a (o + 1) (vh S) (vc S) (vA S 0) (vA S 1) (vA S 2) ++ (wR cI a ((o + 1) + 4) (vr S) (vA S 3) (vA S 4) (vA S 5) (vA S 6) ++ (wS cI a ((o + 1) + 9) (vs S) (vA S 7) (vA S 8) (vA S 9) (vA S 10) (vA S 11) (vA S 12) qt qp ++ (wVo cI a (o + 19) (vh T) (vc T) (vA T 0) (vA T 1) (vA T 2) ++ (wR cI a ((o + 19) + 4) (vr T) (vA T 3) (vA T 4) (vA T 5) (vA T 6) ++ (wS cI a ((o + 19) + 9) (vs T) (vA T 7) (vA T 8) (vA T 9) (vA T 10) (vA T 11) (vA T 12) qt2 qp2))))))) H locs := HW
        refine W.eq (g2 := F0 m 402 ls [.int (figK S i 5), .int (sumN (vA S 12) i)]) rfl ?_
        refine lv_iadd hx hb dL_law_402 ?_
        refine g_top (y := (sumN (vA S 12) (i + 1))) rfl ?_
        refine lv_istore (lv' := [(9, .int (sumN (vA S 12) (i + 1))), (8, .int (vc S + sumN (vA S 8) (i + 1))), (12, .int (nI i)), (11, .int (nI (cntN (towQ (vq S)) i))), (10, .int (sumN (vA S 11) i)), (7, .int pts), (6, .int (nI t)), (5, .int (nI k)), (4, .int x), (3, .int (nI n)), (2, .int all), (1, .ref (a o)), (0, .ref sb)]) hx hb dL_law_403 hl (Nat.le_of_ble_eq_true rfl) rfl (fun ls hl => ?_)
        refine lv_iload hx hb dL_law_405 (lv_at hl 4 rfl) ?_
        refine lv_aload_n hx hb dL_law_407 rfl (lv_at hl 11 rfl) ?_
        refine lv_iload hx hb dL_law_408 (lv_at hl 2 rfl) ?_
        refine lv_iconst (v := 4) hx hb dL_law_410 (by decide) ?_
        refine g_callV CX HW hl.1 ([]) ([]) (c_X3_told o S qt qp T qt2 qp2 i 4 hP.inv hR (by show i < vs S; omega) (by decide)) rfl 0 rfl rfl gL_law_X3_told rfl ⟨rfl, hd_X3_told⟩ ⟨rfl, rfl, (Nat.le_of_ble_eq_true rfl), (Nat.le_of_ble_eq_true rfl)⟩ ⟨hc, hs⟩ rfl rfl (Nat.le_of_ble_eq_true rfl) dL_law_411 (fun v w1 H locs hp HW => ?_)
        obtain ⟨rfl, rfl⟩ := hp
        have HW : Hw D A s (wXo cI a o  ++ (wVo cI a (o + 1) (vh S) (vc S) (vA S 0) (vA S 1) (vA S 2) ++ (wR cI a ((o + 1) + 4) (vr S) (vA S 3) (vA S 4) (vA S 5) (vA S 6) ++ (wS cI a ((o + 1) + 9) (vs S) (vA S 7) (vA S 8) (vA S 9) (vA S 10) (vA S 11) (vA S 12) qt qp ++ (wVo cI a (o + 19) (vh T) (vc T) (vA T 0) (vA T 1) (vA T 2) ++ (wR cI a ((o + 19) + 4) (vr T) (vA T 3) (vA T 4) (vA T 5) (vA T 6) ++ (wS cI a ((o + 19) + 9) (vs T) (vA T 7) (vA T 8) (vA T 9) (vA T 10) (vA T 11) (vA T 12) qt2 qp2))))))) H locs := HW
        refine W.eq (g2 := F0 m 414 ls [.int (figK S i 4), .int (sumN (vA S 11) i)]) rfl ?_
        refine lv_iadd hx hb dL_law_414 ?_
        refine g_top (y := (sumN (vA S 11) (i + 1))) rfl ?_
        refine lv_istore (lv' := [(10, .int (sumN (vA S 11) (i + 1))), (9, .int (sumN (vA S 12) (i + 1))), (8, .int (vc S + sumN (vA S 8) (i + 1))), (12, .int (nI i)), (11, .int (nI (cntN (towQ (vq S)) i))), (7, .int pts), (6, .int (nI t)), (5, .int (nI k)), (4, .int x), (3, .int (nI n)), (2, .int all), (1, .ref (a o)), (0, .ref sb)]) hx hb dL_law_415 hl (Nat.le_of_ble_eq_true rfl) rfl (fun ls hl => ?_)
        refine lv_iload hx hb dL_law_417 (lv_at hl 4 rfl) ?_
        refine lv_aload_n hx hb dL_law_419 rfl (lv_at hl 11 rfl) ?_
        refine lv_iload hx hb dL_law_420 (lv_at hl 3 rfl) ?_
        refine lv_bipush (v := 6) hx hb dL_law_422 (by decide) ?_
        refine g_callV CX HW hl.1 ([]) ([]) (c_X3_told o S qt qp T qt2 qp2 i 6 hP.inv hR (by show i < vs S; omega) (by decide)) rfl 0 rfl rfl gL_law_X3_told rfl ⟨rfl, hd_X3_told⟩ ⟨rfl, rfl, (Nat.le_of_ble_eq_true rfl), (Nat.le_of_ble_eq_true rfl)⟩ ⟨hc, hs⟩ rfl rfl (Nat.le_of_ble_eq_true rfl) dL_law_424 (fun v w1 H locs hp HW => ?_)
        obtain ⟨rfl, rfl⟩ := hp
        have HW : Hw D A s (wXo cI a o  ++ (wVo cI a (o + 1) (vh S) (vc S) (vA S 0) (vA S 1) (vA S 2) ++ (wR cI a ((o + 1) + 4) (vr S) (vA S 3) (vA S 4) (vA S 5) (vA S 6) ++ (wS cI a ((o + 1) + 9) (vs S) (vA S 7) (vA S 8) (vA S 9) (vA S 10) (vA S 11) (vA S 12) qt qp ++ (wVo cI a (o + 19) (vh T) (vc T) (vA T 0) (vA T 1) (vA T 2) ++ (wR cI a ((o + 19) + 4) (vr T) (vA T 3) (vA T 4) (vA T 5) (vA T 6) ++ (wS cI a ((o + 19) + 9) (vs T) (vA T 7) (vA T 8) (vA T 9) (vA T 10) (vA T 11) (vA T 12) qt2 qp2))))))) H locs := HW
        refine W.eq (g2 := F0 m 427 ls [.int (figK S i 6), .int (nI (cntN (towQ (vq S)) i))]) rfl ?_
        refine lv_if_ge (tgt := 434) hx hb dL_law_427 (by decide) (fun c427 => ?_) (fun c427 => ?_)
        · refine lv_iconst (v := 1) hx hb dL_law_434 (by decide) ?_
          refine lv_iadd hx hb dL_law_435 ?_
          refine g_top (y := (nI (cntN (towQ (vq S)) (i + 1)))) (by rw [cntN_a, if_neg (towQ_ge c427)]; exact nI_1 _) ?_
          refine lv_istore (lv' := [(11, .int (nI (cntN (towQ (vq S)) (i + 1)))), (10, .int (sumN (vA S 11) (i + 1))), (9, .int (sumN (vA S 12) (i + 1))), (8, .int (vc S + sumN (vA S 8) (i + 1))), (12, .int (nI i)), (7, .int pts), (6, .int (nI t)), (5, .int (nI k)), (4, .int x), (3, .int (nI n)), (2, .int all), (1, .ref (a o)), (0, .ref sb)]) hx hb dL_law_436 hl (Nat.le_of_ble_eq_true rfl) rfl (fun ls hl => ?_)
          exact j438 () c378 _ _ _ HW (lv_sub hl [4, 0, 1, 2, 3, 5, 6, 7, 8, 9, 10, 11, 12] rfl)
        · refine lv_iconst (v := 0) hx hb dL_law_430 (by decide) ?_
          refine lv_goto (tgt := 435) hx hb dL_law_431 (by decide) ?_
          refine lv_iadd hx hb dL_law_435 ?_
          refine g_top (y := (nI (cntN (towQ (vq S)) (i + 1)))) (by rw [cntN_a, if_pos (towQ_lt (Int32.not_le.mp c427))]; exact Int32.add_zero _) ?_
          refine lv_istore (lv' := [(11, .int (nI (cntN (towQ (vq S)) (i + 1)))), (10, .int (sumN (vA S 11) (i + 1))), (9, .int (sumN (vA S 12) (i + 1))), (8, .int (vc S + sumN (vA S 8) (i + 1))), (12, .int (nI i)), (7, .int pts), (6, .int (nI t)), (5, .int (nI k)), (4, .int x), (3, .int (nI n)), (2, .int all), (1, .ref (a o)), (0, .ref sb)]) hx hb dL_law_436 hl (Nat.le_of_ble_eq_true rfl) rfl (fun ls hl => ?_)
          exact j438 () c378 _ _ _ HW (lv_sub hl [4, 0, 1, 2, 3, 5, 6, 7, 8, 9, 10, 11, 12] rfl)
  refine lv_aload_n hx hb dL_law_356 rfl (lv_at hl 6 rfl) ?_
  refine lv_iconst (v := 2) hx hb dL_law_357 (by decide) ?_
  refine g_callV CX HW hl.1 ([]) ([]) (c_X3_count o S qt qp T qt2 qp2 2 hP.inv hR hh (by decide)) rfl 0 rfl rfl gL_law_X3_count rfl ⟨rfl, hd_X3_count⟩ ⟨rfl, rfl, (Nat.le_of_ble_eq_true rfl), (Nat.le_of_ble_eq_true rfl)⟩ ⟨hc, hs⟩ rfl rfl (Nat.le_of_ble_eq_true rfl) dL_law_358 (fun v w1 H locs hp HW => ?_)
  obtain ⟨rfl, rfl⟩ := hp
  have HW : Hw D A s (wXo cI a o  ++ (wVo cI a (o + 1) (vh S) (vc S) (vA S 0) (vA S 1) (vA S 2) ++ (wR cI a ((o + 1) + 4) (vr S) (vA S 3) (vA S 4) (vA S 5) (vA S 6) ++ (wS cI a ((o + 1) + 9) (vs S) (vA S 7) (vA S 8) (vA S 9) (vA S 10) (vA S 11) (vA S 12) qt qp ++ (wVo cI a (o + 19) (vh T) (vc T) (vA T 0) (vA T 1) (vA T 2) ++ (wR cI a ((o + 19) + 4) (vr T) (vA T 3) (vA T 4) (vA T 5) (vA T 6) ++ (wS cI a ((o + 19) + 9) (vs T) (vA T 7) (vA T 8) (vA T 9) (vA T 10) (vA T 11) (vA T 12) qt2 qp2))))))) H locs := HW
  refine W.eq (g2 := F0 m 361 ls [.int (figV S 2)]) rfl ?_
  refine g_top (y := (vc S + sumN (vA S 8) 0)) (Int32.add_zero _).symm ?_
  refine lv_istore (lv' := [(8, .int (vc S + sumN (vA S 8) 0)), (7, .int pts), (6, .int (nI t)), (5, .int (nI k)), (4, .int x), (3, .int (nI n)), (2, .int all), (1, .ref (a o)), (0, .ref sb)]) hx hb dL_law_361 hl (Nat.le_of_ble_eq_true rfl) rfl (fun ls hl => ?_)
  refine lv_iconst (v := 0) hx hb dL_law_363 (by decide) ?_
  refine lv_istore (lv' := [(9, .int (0 : Int32)), (8, .int (vc S + sumN (vA S 8) 0)), (7, .int pts), (6, .int (nI t)), (5, .int (nI k)), (4, .int x), (3, .int (nI n)), (2, .int all), (1, .ref (a o)), (0, .ref sb)]) hx hb dL_law_364 hl (Nat.le_of_ble_eq_true rfl) rfl (fun ls hl => ?_)
  refine lv_iconst (v := 0) hx hb dL_law_366 (by decide) ?_
  refine lv_istore (lv' := [(10, .int (0 : Int32)), (9, .int (0 : Int32)), (8, .int (vc S + sumN (vA S 8) 0)), (7, .int pts), (6, .int (nI t)), (5, .int (nI k)), (4, .int x), (3, .int (nI n)), (2, .int all), (1, .ref (a o)), (0, .ref sb)]) hx hb dL_law_367 hl (Nat.le_of_ble_eq_true rfl) rfl (fun ls hl => ?_)
  refine lv_iconst (v := 0) hx hb dL_law_369 (by decide) ?_
  refine lv_istore (lv' := [(11, .int (0 : Int32)), (10, .int (0 : Int32)), (9, .int (0 : Int32)), (8, .int (vc S + sumN (vA S 8) 0)), (7, .int pts), (6, .int (nI t)), (5, .int (nI k)), (4, .int x), (3, .int (nI n)), (2, .int all), (1, .ref (a o)), (0, .ref sb)]) hx hb dL_law_370 hl (Nat.le_of_ble_eq_true rfl) rfl (fun ls hl => ?_)
  refine lv_iconst (v := 0) hx hb dL_law_372 (by decide) ?_
  refine lv_istore (lv' := [(12, .int (0 : Int32)), (11, .int (0 : Int32)), (10, .int (0 : Int32)), (9, .int (0 : Int32)), (8, .int (vc S + sumN (vA S 8) 0)), (7, .int pts), (6, .int (nI t)), (5, .int (nI k)), (4, .int x), (3, .int (nI n)), (2, .int all), (1, .ref (a o)), (0, .ref sb)]) hx hb dL_law_373 hl (Nat.le_of_ble_eq_true rfl) rfl (fun ls hl => ?_)
  exact l375 _ 0 rfl (by omega) _ _ _ HW (lv_sub hl [0, 1, 2, 3, 4, 5, 6, 7, 8, 9, 10, 11, 12] rfl)

theorem cd_L_law_102 : Cond.constantDouble RL 102 (4617315517961601024) ∈ wsL_law := by decide +kernel
set_option maxRecDepth 100000 in
set_option maxHeartbeats 4000000 in
theorem st_t2 (CX : Cx p s m args meth c cL_law 16 (some .boolean) RL wsL_law D (ty2 cI cL) A) (hSX : SX A sb L xs s) (hc : cells ≤ room_1.cells) (hs : slots ≤ room_1.slots) (o : Nat) (S : VS) (qt : Nat → Int32) (qp : Nat → Int32) (T : VS) (qt2 : Nat → Int32) (qp2 : Nat → Int32) (all : Int32) (n : Nat) (x : Int32) (k : Nat) (t : Nat) (pts : Int32) (hL : L ≤ 260) (hk : k < 5) (ht : t ≤ 2) (hn : n < 30) (hP : PI (skF xs L) all (n + 1) S) (hR : Rep (vs S) (vq S) qt qp) (hpt : bl x 6 < 3 → vA S 11 k = pts) (HW : Hw D A s (wXo cI a o  ++ (wVo cI a (o + 1) (vh S) (vc S) (vA S 0) (vA S 1) (vA S 2) ++ (wR cI a ((o + 1) + 4) (vr S) (vA S 3) (vA S 4) (vA S 5) (vA S 6) ++ (wS cI a ((o + 1) + 9) (vs S) (vA S 7) (vA S 8) (vA S 9) (vA S 10) (vA S 11) (vA S 12) qt qp ++ (wVo cI a (o + 19) (vh T) (vc T) (vA T 0) (vA T 1) (vA T 2) ++ (wR cI a ((o + 19) + 4) (vr T) (vA T 3) (vA T 4) (vA T 5) (vA T 6) ++ (wS cI a ((o + 19) + 9) (vs T) (vA T 7) (vA T 8) (vA T 9) (vA T 10) (vA T 11) (vA T 12) qt2 qp2))))))) H locs) (hl : lv_has ls 16 [(11, .int (nI (cntN (towQ (vq S)) 5))), (10, .int (sumN (vA S 11) 5)), (9, .int (sumN (vA S 12) 5)), (8, .int (vc S + sumN (vA S 8) 5)), (7, .int pts), (6, .int (nI t)), (5, .int (nI k)), (4, .int x), (3, .int (nI n)), (2, .int all), (1, .ref (a o)), (0, .ref sb)]) (kk : ∀ (_u : Unit), ∀ (H : Heap) (locs : List Loc) (ls : Array Slot), Hw D A s (wXo cI a o  ++ (wVo cI a (o + 1) (vh S) (vc S) (vA S 0) (vA S 1) (vA S 2) ++ (wR cI a ((o + 1) + 4) (vr S) (vA S 3) (vA S 4) (vA S 5) (vA S 6) ++ (wS cI a ((o + 1) + 9) (vs S) (vA S 7) (vA S 8) (vA S 9) (vA S 10) (vA S 11) (vA S 12) qt qp ++ (wVo cI a (o + 19) (vh T) (vc T) (vA T 0) (vA T 1) (vA T 2) ++ (wR cI a ((o + 19) + 4) (vr T) (vA T 3) (vA T 4) (vA T 5) (vA T 6) ++ (wS cI a ((o + 19) + 9) (vs T) (vA T 7) (vA T 8) (vA T 9) (vA T 10) (vA T 11) (vA T 12) qt2 qp2))))))) H locs → lv_has ls 16 [(11, .int (nI (cntN (towQ (vq S)) 5))), (9, .int (sumN (vA S 12) 5)), (3, .int (nI n)), (2, .int all), (1, .ref (a o)), (0, .ref sb)] → W p l e room_1 s m args below meth c H locs cells slots Q (F0 m 683 ls [])) : W p l e room_1 s m args below meth c H locs cells slots Q (F0 m 534 ls []) := by
  obtain ⟨hx, hb, hml, hr, hown, hts, hK, hA, hlk⟩ := id CX
  have hn8 : vs S ≤ 8 := hP.inv.2.1
  have hv5 := hP.s5
  have hh : vh S + 100 < 2 ^ 31 := by have := hP.hh; omega
  have hk9 : k < vs S := by omega
  have hcnt : cntN (towQ (vq S)) 5 = (vq S 0).length + (vq S 1).length + (vq S 2).length := by
    have h9 := cnt_all hR hn8
    rw [hP.s5] at h9; exact h9
  refine lv_aload_n hx hb dL_law_534 rfl (lv_at hl 10 rfl) ?_
  refine lv_iconst (v := 0) hx hb dL_law_535 (by decide) ?_
  refine lv_iconst (v := 2) hx hb dL_law_536 (by decide) ?_
  refine g_callV CX HW hl.1 ([]) ([]) (c_X3_tow o S qt qp T qt2 qp2 0 2 hP.inv hR (by decide) (by decide)) rfl 0 rfl rfl gL_law_X3_tow rfl ⟨rfl, hd_X3_tow⟩ ⟨rfl, rfl, (Nat.le_of_ble_eq_true rfl), (Nat.le_of_ble_eq_true rfl)⟩ ⟨hc, hs⟩ rfl rfl (Nat.le_of_ble_eq_true rfl) dL_law_537 (fun v w1 H locs hp HW => ?_)
  obtain ⟨rfl, rfl⟩ := hp
  have HW : Hw D A s (wXo cI a o  ++ (wVo cI a (o + 1) (vh S) (vc S) (vA S 0) (vA S 1) (vA S 2) ++ (wR cI a ((o + 1) + 4) (vr S) (vA S 3) (vA S 4) (vA S 5) (vA S 6) ++ (wS cI a ((o + 1) + 9) (vs S) (vA S 7) (vA S 8) (vA S 9) (vA S 10) (vA S 11) (vA S 12) qt qp ++ (wVo cI a (o + 19) (vh T) (vc T) (vA T 0) (vA T 1) (vA T 2) ++ (wR cI a ((o + 19) + 4) (vr T) (vA T 3) (vA T 4) (vA T 5) (vA T 6) ++ (wS cI a ((o + 19) + 9) (vs T) (vA T 7) (vA T 8) (vA T 9) (vA T 10) (vA T 11) (vA T 12) qt2 qp2))))))) H locs := HW
  refine W.eq (g2 := F0 m 540 ls [.int (figT S 0 2)]) rfl ?_
  refine lv_aload_n hx hb dL_law_540 rfl (lv_at hl 10 rfl) ?_
  refine lv_iconst (v := 1) hx hb dL_law_541 (by decide) ?_
  refine lv_iconst (v := 2) hx hb dL_law_542 (by decide) ?_
  refine g_callV CX HW hl.1 ([]) ([]) (c_X3_tow o S qt qp T qt2 qp2 1 2 hP.inv hR (by decide) (by decide)) rfl 0 rfl rfl gL_law_X3_tow rfl ⟨rfl, hd_X3_tow⟩ ⟨rfl, rfl, (Nat.le_of_ble_eq_true rfl), (Nat.le_of_ble_eq_true rfl)⟩ ⟨hc, hs⟩ rfl rfl (Nat.le_of_ble_eq_true rfl) dL_law_543 (fun v w1 H locs hp HW => ?_)
  obtain ⟨rfl, rfl⟩ := hp
  have HW : Hw D A s (wXo cI a o  ++ (wVo cI a (o + 1) (vh S) (vc S) (vA S 0) (vA S 1) (vA S 2) ++ (wR cI a ((o + 1) + 4) (vr S) (vA S 3) (vA S 4) (vA S 5) (vA S 6) ++ (wS cI a ((o + 1) + 9) (vs S) (vA S 7) (vA S 8) (vA S 9) (vA S 10) (vA S 11) (vA S 12) qt qp ++ (wVo cI a (o + 19) (vh T) (vc T) (vA T 0) (vA T 1) (vA T 2) ++ (wR cI a ((o + 19) + 4) (vr T) (vA T 3) (vA T 4) (vA T 5) (vA T 6) ++ (wS cI a ((o + 19) + 9) (vs T) (vA T 7) (vA T 8) (vA T 9) (vA T 10) (vA T 11) (vA T 12) qt2 qp2))))))) H locs := HW
  refine W.eq (g2 := F0 m 546 ls [.int (figT S 1 2), .int (figT S 0 2)]) rfl ?_
  refine lv_iadd hx hb dL_law_546 ?_
  refine lv_aload_n hx hb dL_law_547 rfl (lv_at hl 10 rfl) ?_
  refine lv_iconst (v := 2) hx hb dL_law_548 (by decide) ?_
  refine lv_iconst (v := 2) hx hb dL_law_549 (by decide) ?_
  refine g_callV CX HW hl.1 ([]) ([]) (c_X3_tow o S qt qp T qt2 qp2 2 2 hP.inv hR (by decide) (by decide)) rfl 0 rfl rfl gL_law_X3_tow rfl ⟨rfl, hd_X3_tow⟩ ⟨rfl, rfl, (Nat.le_of_ble_eq_true rfl), (Nat.le_of_ble_eq_true rfl)⟩ ⟨hc, hs⟩ rfl rfl (Nat.le_of_ble_eq_true rfl) dL_law_550 (fun v w1 H locs hp HW => ?_)
  obtain ⟨rfl, rfl⟩ := hp
  have HW : Hw D A s (wXo cI a o  ++ (wVo cI a (o + 1) (vh S) (vc S) (vA S 0) (vA S 1) (vA S 2) ++ (wR cI a ((o + 1) + 4) (vr S) (vA S 3) (vA S 4) (vA S 5) (vA S 6) ++ (wS cI a ((o + 1) + 9) (vs S) (vA S 7) (vA S 8) (vA S 9) (vA S 10) (vA S 11) (vA S 12) qt qp ++ (wVo cI a (o + 19) (vh T) (vc T) (vA T 0) (vA T 1) (vA T 2) ++ (wR cI a ((o + 19) + 4) (vr T) (vA T 3) (vA T 4) (vA T 5) (vA T 6) ++ (wS cI a ((o + 19) + 9) (vs T) (vA T 7) (vA T 8) (vA T 9) (vA T 10) (vA T 11) (vA T 12) qt2 qp2))))))) H locs := HW
  refine W.eq (g2 := F0 m 553 ls [.int (figT S 2 2), .int ((figT S 0 2) + (figT S 1 2))]) rfl ?_
  refine lv_iadd hx hb dL_law_553 ?_
  refine g_top (y := (sumP S)) (by show (vA S 2 0 + vA S 2 1) + vA S 2 2 = 0 + vA S 2 0 + vA S 2 1 + vA S 2 2; rw [Int32.zero_add]) ?_
  refine lv_istore (lv' := [(12, .int (sumP S)), (11, .int (nI (cntN (towQ (vq S)) 5))), (10, .int (sumN (vA S 11) 5)), (9, .int (sumN (vA S 12) 5)), (8, .int (vc S + sumN (vA S 8) 5)), (7, .int pts), (6, .int (nI t)), (5, .int (nI k)), (4, .int x), (3, .int (nI n)), (2, .int all), (1, .ref (a o)), (0, .ref sb)]) hx hb dL_law_554 hl (Nat.le_of_ble_eq_true rfl) rfl (fun ls hl => ?_)
  refine lv_iload hx hb dL_law_556 (lv_at hl 4 rfl) ?_
  refine lv_iload_n hx hb dL_law_558 rfl (lv_at hl 10 rfl) ?_
  refine lv_icmp_ne (tgt := 681) hx hb dL_law_559 (by decide) (fun c559 => ?_) (fun c559 => ?_)
  · exact absurd hP.coins c559
  · refine lv_iload hx hb dL_law_562 (lv_at hl 3 rfl) ?_
    refine lv_aload_n hx hb dL_law_564 rfl (lv_at hl 11 rfl) ?_
    refine lv_bipush (v := 6) hx hb dL_law_565 (by decide) ?_
    refine g_callV CX HW hl.1 ([]) ([]) (c_X3_count o S qt qp T qt2 qp2 6 hP.inv hR hh (by decide)) rfl 0 rfl rfl gL_law_X3_count rfl ⟨rfl, hd_X3_count⟩ ⟨rfl, rfl, (Nat.le_of_ble_eq_true rfl), (Nat.le_of_ble_eq_true rfl)⟩ ⟨hc, hs⟩ rfl rfl (Nat.le_of_ble_eq_true rfl) dL_law_567 (fun v w1 H locs hp HW => ?_)
    obtain ⟨rfl, rfl⟩ := hp
    have HW : Hw D A s (wXo cI a o  ++ (wVo cI a (o + 1) (vh S) (vc S) (vA S 0) (vA S 1) (vA S 2) ++ (wR cI a ((o + 1) + 4) (vr S) (vA S 3) (vA S 4) (vA S 5) (vA S 6) ++ (wS cI a ((o + 1) + 9) (vs S) (vA S 7) (vA S 8) (vA S 9) (vA S 10) (vA S 11) (vA S 12) qt qp ++ (wVo cI a (o + 19) (vh T) (vc T) (vA T 0) (vA T 1) (vA T 2) ++ (wR cI a ((o + 19) + 4) (vr T) (vA T 3) (vA T 4) (vA T 5) (vA T 6) ++ (wS cI a ((o + 19) + 9) (vs T) (vA T 7) (vA T 8) (vA T 9) (vA T 10) (vA T 11) (vA T 12) qt2 qp2))))))) H locs := HW
    refine W.eq (g2 := F0 m 570 ls [.int (figV S 6), .int (sumN (vA S 12) 5)]) rfl ?_
    refine lv_icmp_ne (tgt := 681) hx hb dL_law_570 (by decide) (fun c570 => ?_) (fun c570 => ?_)
    · exact absurd hP.rides c570
    · refine lv_iload hx hb dL_law_573 (lv_at hl 0 rfl) ?_
      refine lv_iload hx hb dL_law_575 (lv_at hl 3 rfl) ?_
      refine lv_icmp_ne (tgt := 681) hx hb dL_law_577 (by decide) (fun c577 => ?_) (fun c577 => ?_)
      · exact absurd hP.rides.symm c577
      · refine lv_iload hx hb dL_law_580 (lv_at hl 2 rfl) ?_
        refine lv_aload_n hx hb dL_law_582 rfl (lv_at hl 11 rfl) ?_
        refine lv_bipush (v := 8) hx hb dL_law_583 (by decide) ?_
        refine g_callV CX HW hl.1 ([]) ([]) (c_X3_count o S qt qp T qt2 qp2 8 hP.inv hR hh (by decide)) rfl 0 rfl rfl gL_law_X3_count rfl ⟨rfl, hd_X3_count⟩ ⟨rfl, rfl, (Nat.le_of_ble_eq_true rfl), (Nat.le_of_ble_eq_true rfl)⟩ ⟨hc, hs⟩ rfl rfl (Nat.le_of_ble_eq_true rfl) dL_law_585 (fun v w1 H locs hp HW => ?_)
        obtain ⟨rfl, rfl⟩ := hp
        have HW : Hw D A s (wXo cI a o  ++ (wVo cI a (o + 1) (vh S) (vc S) (vA S 0) (vA S 1) (vA S 2) ++ (wR cI a ((o + 1) + 4) (vr S) (vA S 3) (vA S 4) (vA S 5) (vA S 6) ++ (wS cI a ((o + 1) + 9) (vs S) (vA S 7) (vA S 8) (vA S 9) (vA S 10) (vA S 11) (vA S 12) qt qp ++ (wVo cI a (o + 19) (vh T) (vc T) (vA T 0) (vA T 1) (vA T 2) ++ (wR cI a ((o + 19) + 4) (vr T) (vA T 3) (vA T 4) (vA T 5) (vA T 6) ++ (wS cI a ((o + 19) + 9) (vs T) (vA T 7) (vA T 8) (vA T 9) (vA T 10) (vA T 11) (vA T 12) qt2 qp2))))))) H locs := HW
        refine W.eq (g2 := F0 m 588 ls [.int (figV S 8), .int (sumN (vA S 11) 5)]) rfl ?_
        refine lv_icmp_ne (tgt := 681) hx hb dL_law_588 (by decide) (fun c588 => ?_) (fun c588 => ?_)
        · exact absurd (by show sumN (vA S 11) 5 = sumN (vA S 11) (vs S); rw [hP.s5]) c588
        · refine lv_iload hx hb dL_law_591 (lv_at hl 1 rfl) ?_
          refine lv_aload_n hx hb dL_law_593 rfl (lv_at hl 11 rfl) ?_
          refine lv_bipush (v := 7) hx hb dL_law_594 (by decide) ?_
          refine g_callV CX HW hl.1 ([]) ([]) (c_X3_count o S qt qp T qt2 qp2 7 hP.inv hR hh (by decide)) rfl 0 rfl rfl gL_law_X3_count rfl ⟨rfl, hd_X3_count⟩ ⟨rfl, rfl, (Nat.le_of_ble_eq_true rfl), (Nat.le_of_ble_eq_true rfl)⟩ ⟨hc, hs⟩ rfl rfl (Nat.le_of_ble_eq_true rfl) dL_law_596 (fun v w1 H locs hp HW => ?_)
          obtain ⟨rfl, rfl⟩ := hp
          have HW : Hw D A s (wXo cI a o  ++ (wVo cI a (o + 1) (vh S) (vc S) (vA S 0) (vA S 1) (vA S 2) ++ (wR cI a ((o + 1) + 4) (vr S) (vA S 3) (vA S 4) (vA S 5) (vA S 6) ++ (wS cI a ((o + 1) + 9) (vs S) (vA S 7) (vA S 8) (vA S 9) (vA S 10) (vA S 11) (vA S 12) qt qp ++ (wVo cI a (o + 19) (vh T) (vc T) (vA T 0) (vA T 1) (vA T 2) ++ (wR cI a ((o + 19) + 4) (vr T) (vA T 3) (vA T 4) (vA T 5) (vA T 6) ++ (wS cI a ((o + 19) + 9) (vs T) (vA T 7) (vA T 8) (vA T 9) (vA T 10) (vA T 11) (vA T 12) qt2 qp2))))))) H locs := HW
          refine W.eq (g2 := F0 m 599 ls [.int (figV S 7), .int (nI (cntN (towQ (vq S)) 5))]) rfl ?_
          refine lv_icmp_ne (tgt := 681) hx hb dL_law_599 (by decide) (fun c599 => ?_) (fun c599 => ?_)
          · exact absurd (by show nI _ = nI _; rw [hcnt]) c599
          · refine lv_aload_n hx hb dL_law_602 rfl (lv_at hl 11 rfl) ?_
            refine lv_iconst (v := 0) hx hb dL_law_603 (by decide) ?_
            refine lv_iconst (v := 1) hx hb dL_law_604 (by decide) ?_
            refine g_callV CX HW hl.1 ([]) ([]) (c_X3_tow o S qt qp T qt2 qp2 0 1 hP.inv hR (by decide) (by decide)) rfl 0 rfl rfl gL_law_X3_tow rfl ⟨rfl, hd_X3_tow⟩ ⟨rfl, rfl, (Nat.le_of_ble_eq_true rfl), (Nat.le_of_ble_eq_true rfl)⟩ ⟨hc, hs⟩ rfl rfl (Nat.le_of_ble_eq_true rfl) dL_law_605 (fun v w1 H locs hp HW => ?_)
            obtain ⟨rfl, rfl⟩ := hp
            have HW : Hw D A s (wXo cI a o  ++ (wVo cI a (o + 1) (vh S) (vc S) (vA S 0) (vA S 1) (vA S 2) ++ (wR cI a ((o + 1) + 4) (vr S) (vA S 3) (vA S 4) (vA S 5) (vA S 6) ++ (wS cI a ((o + 1) + 9) (vs S) (vA S 7) (vA S 8) (vA S 9) (vA S 10) (vA S 11) (vA S 12) qt qp ++ (wVo cI a (o + 19) (vh T) (vc T) (vA T 0) (vA T 1) (vA T 2) ++ (wR cI a ((o + 19) + 4) (vr T) (vA T 3) (vA T 4) (vA T 5) (vA T 6) ++ (wS cI a ((o + 19) + 9) (vs T) (vA T 7) (vA T 8) (vA T 9) (vA T 10) (vA T 11) (vA T 12) qt2 qp2))))))) H locs := HW
            refine W.eq (g2 := F0 m 608 ls [.int (figT S 0 1)]) rfl ?_
            refine lv_aload_n hx hb dL_law_608 rfl (lv_at hl 11 rfl) ?_
            refine lv_iconst (v := 1) hx hb dL_law_609 (by decide) ?_
            refine lv_iconst (v := 1) hx hb dL_law_610 (by decide) ?_
            refine g_callV CX HW hl.1 ([]) ([]) (c_X3_tow o S qt qp T qt2 qp2 1 1 hP.inv hR (by decide) (by decide)) rfl 0 rfl rfl gL_law_X3_tow rfl ⟨rfl, hd_X3_tow⟩ ⟨rfl, rfl, (Nat.le_of_ble_eq_true rfl), (Nat.le_of_ble_eq_true rfl)⟩ ⟨hc, hs⟩ rfl rfl (Nat.le_of_ble_eq_true rfl) dL_law_611 (fun v w1 H locs hp HW => ?_)
            obtain ⟨rfl, rfl⟩ := hp
            have HW : Hw D A s (wXo cI a o  ++ (wVo cI a (o + 1) (vh S) (vc S) (vA S 0) (vA S 1) (vA S 2) ++ (wR cI a ((o + 1) + 4) (vr S) (vA S 3) (vA S 4) (vA S 5) (vA S 6) ++ (wS cI a ((o + 1) + 9) (vs S) (vA S 7) (vA S 8) (vA S 9) (vA S 10) (vA S 11) (vA S 12) qt qp ++ (wVo cI a (o + 19) (vh T) (vc T) (vA T 0) (vA T 1) (vA T 2) ++ (wR cI a ((o + 19) + 4) (vr T) (vA T 3) (vA T 4) (vA T 5) (vA T 6) ++ (wS cI a ((o + 19) + 9) (vs T) (vA T 7) (vA T 8) (vA T 9) (vA T 10) (vA T 11) (vA T 12) qt2 qp2))))))) H locs := HW
            refine W.eq (g2 := F0 m 614 ls [.int (figT S 1 1), .int (figT S 0 1)]) rfl ?_
            refine lv_iadd hx hb dL_law_614 ?_
            refine lv_aload_n hx hb dL_law_615 rfl (lv_at hl 11 rfl) ?_
            refine lv_iconst (v := 2) hx hb dL_law_616 (by decide) ?_
            refine lv_iconst (v := 1) hx hb dL_law_617 (by decide) ?_
            refine g_callV CX HW hl.1 ([]) ([]) (c_X3_tow o S qt qp T qt2 qp2 2 1 hP.inv hR (by decide) (by decide)) rfl 0 rfl rfl gL_law_X3_tow rfl ⟨rfl, hd_X3_tow⟩ ⟨rfl, rfl, (Nat.le_of_ble_eq_true rfl), (Nat.le_of_ble_eq_true rfl)⟩ ⟨hc, hs⟩ rfl rfl (Nat.le_of_ble_eq_true rfl) dL_law_618 (fun v w1 H locs hp HW => ?_)
            obtain ⟨rfl, rfl⟩ := hp
            have HW : Hw D A s (wXo cI a o  ++ (wVo cI a (o + 1) (vh S) (vc S) (vA S 0) (vA S 1) (vA S 2) ++ (wR cI a ((o + 1) + 4) (vr S) (vA S 3) (vA S 4) (vA S 5) (vA S 6) ++ (wS cI a ((o + 1) + 9) (vs S) (vA S 7) (vA S 8) (vA S 9) (vA S 10) (vA S 11) (vA S 12) qt qp ++ (wVo cI a (o + 19) (vh T) (vc T) (vA T 0) (vA T 1) (vA T 2) ++ (wR cI a ((o + 19) + 4) (vr T) (vA T 3) (vA T 4) (vA T 5) (vA T 6) ++ (wS cI a ((o + 19) + 9) (vs T) (vA T 7) (vA T 8) (vA T 9) (vA T 10) (vA T 11) (vA T 12) qt2 qp2))))))) H locs := HW
            refine W.eq (g2 := F0 m 621 ls [.int (figT S 2 1), .int ((figT S 0 1) + (figT S 1 1))]) rfl ?_
            refine lv_iadd hx hb dL_law_621 ?_
            refine g_top (y := (nI (cntN (towQ (vq S)) 5))) (by rw [hcnt]; show nI _ + nI _ + nI _ = _; rw [nI_add, nI_add]) ?_
            refine lv_iload hx hb dL_law_622 (lv_at hl 1 rfl) ?_
            refine lv_icmp_ne (tgt := 681) hx hb dL_law_624 (by decide) (fun c624 => ?_) (fun c624 => ?_)
            · exact absurd rfl c624
            · refine lv_aload_n hx hb dL_law_627 rfl (lv_at hl 11 rfl) ?_
              refine g_callV CX HW hl.1 ([]) ([]) (c_X3_mean o S qt qp T qt2 qp2 hn8 (by omega) (by rw [hP.s5, i2d_5]; exact (mn_n hP.pts).1)) rfl 0 rfl rfl gL_law_X3_mean rfl ⟨rfl, hd_X3_mean⟩ ⟨rfl, rfl, (Nat.le_of_ble_eq_true rfl), (Nat.le_of_ble_eq_true rfl)⟩ ⟨hc, hs⟩ rfl rfl (Nat.le_of_ble_eq_true rfl) dL_law_628 (fun v w1 H locs hp HW => ?_)
              obtain ⟨rfl, rfl⟩ := hp
              have HW : Hw D A s (wXo cI a o  ++ (wVo cI a (o + 1) (vh S) (vc S) (vA S 0) (vA S 1) (vA S 2) ++ (wR cI a ((o + 1) + 4) (vr S) (vA S 3) (vA S 4) (vA S 5) (vA S 6) ++ (wS cI a ((o + 1) + 9) (vs S) (vA S 7) (vA S 8) (vA S 9) (vA S 10) (vA S 11) (vA S 12) qt qp ++ (wVo cI a (o + 19) (vh T) (vc T) (vA T 0) (vA T 1) (vA T 2) ++ (wR cI a ((o + 19) + 4) (vr T) (vA T 3) (vA T 4) (vA T 5) (vA T 6) ++ (wS cI a ((o + 19) + 9) (vs T) (vA T 7) (vA T 8) (vA T 9) (vA T 10) (vA T 11) (vA T 12) qt2 qp2))))))) H locs := HW
              refine W.eq (g2 := F0 m 631 ls [.double (FP.ddiv (FP.i2d (sumN (vA S 11) (vs S))) (FP.i2d (nI (vs S))))]) rfl ?_
              refine lv_iload hx hb dL_law_631 (lv_at hl 2 rfl) ?_
              refine lv_i2d hx hb dL_law_633 ?_
              refine lv_ldc2d (v := 4617315517961601024) hx hb hown (hts _ cd_L_law_102) dL_law_634 ?_
              refine lv_ddiv hx hb dL_law_637 (mn_n hP.pts).1 ?_
              refine lv_dcmp hx hb dL_law_638 ?_
              refine g_top (y := (0 : Int32)) (by rw [hP.s5, i2d_5]; exact (mn_n hP.pts).2) ?_
              refine lv_if_ne (tgt := 681) hx hb dL_law_639 (by decide) (fun c639 => ?_) (fun c639 => ?_)
              · exact absurd c639 (by decide)
              · refine lv_aload_n hx hb dL_law_642 rfl (lv_at hl 11 rfl) ?_
                refine lv_iload hx hb dL_law_643 (lv_at hl 7 rfl) ?_
                refine lv_iconst (v := 0) hx hb dL_law_645 (by decide) ?_
                refine g_callV CX HW hl.1 ([]) ([]) (c_X3_told o S qt qp T qt2 qp2 k 0 hP.inv hR hk9 (by decide)) rfl 0 rfl rfl gL_law_X3_told rfl ⟨rfl, hd_X3_told⟩ ⟨rfl, rfl, (Nat.le_of_ble_eq_true rfl), (Nat.le_of_ble_eq_true rfl)⟩ ⟨hc, hs⟩ rfl rfl (Nat.le_of_ble_eq_true rfl) dL_law_646 (fun v w1 H locs hp HW => ?_)
                obtain ⟨rfl, rfl⟩ := hp
                have HW : Hw D A s (wXo cI a o  ++ (wVo cI a (o + 1) (vh S) (vc S) (vA S 0) (vA S 1) (vA S 2) ++ (wR cI a ((o + 1) + 4) (vr S) (vA S 3) (vA S 4) (vA S 5) (vA S 6) ++ (wS cI a ((o + 1) + 9) (vs S) (vA S 7) (vA S 8) (vA S 9) (vA S 10) (vA S 11) (vA S 12) qt qp ++ (wVo cI a (o + 19) (vh T) (vc T) (vA T 0) (vA T 1) (vA T 2) ++ (wR cI a ((o + 19) + 4) (vr T) (vA T 3) (vA T 4) (vA T 5) (vA T 6) ++ (wS cI a ((o + 19) + 9) (vs T) (vA T 7) (vA T 8) (vA T 9) (vA T 10) (vA T 11) (vA T 12) qt2 qp2))))))) H locs := HW
                refine W.eq (g2 := F0 m 649 ls [.int (figK S k 0)]) rfl ?_
                refine lv_aload_n hx hb dL_law_649 rfl (lv_at hl 12 rfl) ?_
                refine lv_iload hx hb dL_law_650 (lv_at hl 7 rfl) ?_
                refine g_callSS CX HW hSX hl.1 ([]) (wXo cI a o  ++ (wVo cI a (o + 1) (vh S) (vc S) (vA S 0) (vA S 1) (vA S 2) ++ (wR cI a ((o + 1) + 4) (vr S) (vA S 3) (vA S 4) (vA S 5) (vA S 6) ++ (wS cI a ((o + 1) + 9) (vs S) (vA S 7) (vA S 8) (vA S 9) (vA S 10) (vA S 11) (vA S 12) qt qp ++ (wVo cI a (o + 19) (vh T) (vc T) (vA T 0) (vA T 1) (vA T 2) ++ (wR cI a ((o + 19) + 4) (vr T) (vA T 3) (vA T 4) (vA T 5) (vA T 6) ++ (wS cI a ((o + 19) + 9) (vs T) (vA T 7) (vA T 8) (vA T 9) (vA T 10) (vA T 11) (vA T 12) qt2 qp2))))))) (c_L_skillOf sb L xs k (by omega) (by omega)) rfl gL_law_L_skillOf rfl hd_L_skillOf ⟨rfl, rfl, (Nat.le_of_ble_eq_true rfl), (Nat.le_of_ble_eq_true rfl)⟩ ⟨hc, hs⟩ rfl rfl (Nat.le_of_ble_eq_true rfl) dL_law_652 (fun v w1 H locs hp HW => ?_)
                obtain ⟨rfl, rfl⟩ := hp
                have HW : Hw D A s (wXo cI a o  ++ (wVo cI a (o + 1) (vh S) (vc S) (vA S 0) (vA S 1) (vA S 2) ++ (wR cI a ((o + 1) + 4) (vr S) (vA S 3) (vA S 4) (vA S 5) (vA S 6) ++ (wS cI a ((o + 1) + 9) (vs S) (vA S 7) (vA S 8) (vA S 9) (vA S 10) (vA S 11) (vA S 12) qt qp ++ (wVo cI a (o + 19) (vh T) (vc T) (vA T 0) (vA T 1) (vA T 2) ++ (wR cI a ((o + 19) + 4) (vr T) (vA T 3) (vA T 4) (vA T 5) (vA T 6) ++ (wS cI a ((o + 19) + 9) (vs T) (vA T 7) (vA T 8) (vA T 9) (vA T 10) (vA T 11) (vA T 12) qt2 qp2))))))) H locs := HW
                refine W.eq (g2 := F0 m 655 ls [.int (nI (skF xs L k)), .int (figK S k 0)]) rfl ?_
                refine lv_icmp_ne (tgt := 681) hx hb dL_law_655 (by decide) (fun c655 => ?_) (fun c655 => ?_)
                · exact absurd (hP.skill k hk) c655
                · refine lv_iload hx hb dL_law_658 (lv_at hl 8 rfl) ?_
                  refine lv_bipush (v := 6) hx hb dL_law_660 (by decide) ?_
                  refine g_callS CX HW hl.1 ([]) (wXo cI a o  ++ (wVo cI a (o + 1) (vh S) (vc S) (vA S 0) (vA S 1) (vA S 2) ++ (wR cI a ((o + 1) + 4) (vr S) (vA S 3) (vA S 4) (vA S 5) (vA S 6) ++ (wS cI a ((o + 1) + 9) (vs S) (vA S 7) (vA S 8) (vA S 9) (vA S 10) (vA S 11) (vA S 12) qt qp ++ (wVo cI a (o + 19) (vh T) (vc T) (vA T 0) (vA T 1) (vA T 2) ++ (wR cI a ((o + 19) + 4) (vr T) (vA T 3) (vA T 4) (vA T 5) (vA T 6) ++ (wS cI a ((o + 19) + 9) (vs T) (vA T 7) (vA T 8) (vA T 9) (vA T 10) (vA T 11) (vA T 12) qt2 qp2))))))) (c_L_below x 6 (by decide) (by decide)) rfl gL_law_L_below rfl hd_L_below ⟨rfl, rfl, (Nat.le_of_ble_eq_true rfl), (Nat.le_of_ble_eq_true rfl)⟩ ⟨hc, hs⟩ rfl rfl (Nat.le_of_ble_eq_true rfl) dL_law_662 (fun v w1 H locs hp HW => ?_)
                  obtain ⟨rfl, rfl⟩ := hp
                  have HW : Hw D A s (wXo cI a o  ++ (wVo cI a (o + 1) (vh S) (vc S) (vA S 0) (vA S 1) (vA S 2) ++ (wR cI a ((o + 1) + 4) (vr S) (vA S 3) (vA S 4) (vA S 5) (vA S 6) ++ (wS cI a ((o + 1) + 9) (vs S) (vA S 7) (vA S 8) (vA S 9) (vA S 10) (vA S 11) (vA S 12) qt qp ++ (wVo cI a (o + 19) (vh T) (vc T) (vA T 0) (vA T 1) (vA T 2) ++ (wR cI a ((o + 19) + 4) (vr T) (vA T 3) (vA T 4) (vA T 5) (vA T 6) ++ (wS cI a ((o + 19) + 9) (vs T) (vA T 7) (vA T 8) (vA T 9) (vA T 10) (vA T 11) (vA T 12) qt2 qp2))))))) H locs := HW
                  refine W.eq (g2 := F0 m 665 ls [.int (nI (bl x 6))]) rfl ?_
                  refine lv_iconst (v := 3) hx hb dL_law_665 (by decide) ?_
                  refine lv_icmp_ge (tgt := 683) hx hb dL_law_666 (by decide) (fun c666 => ?_) (fun c666 => ?_)
                  · exact kk ()  _ _ _ HW (lv_sub hl [1, 3, 9, 10, 11, 12] rfl)
                  · have hb3 : bl x 6 < 3 := nI_lt_of (a := 3) (b := bl x 6) (by decide) (Nat.lt_trans (bl_lt x (n := 6) (by decide)) (by decide)) c666
                    refine lv_aload_n hx hb dL_law_669 rfl (lv_at hl 11 rfl) ?_
                    refine lv_iload hx hb dL_law_670 (lv_at hl 7 rfl) ?_
                    refine lv_iconst (v := 4) hx hb dL_law_672 (by decide) ?_
                    refine g_callV CX HW hl.1 ([]) ([]) (c_X3_told o S qt qp T qt2 qp2 k 4 hP.inv hR hk9 (by decide)) rfl 0 rfl rfl gL_law_X3_told rfl ⟨rfl, hd_X3_told⟩ ⟨rfl, rfl, (Nat.le_of_ble_eq_true rfl), (Nat.le_of_ble_eq_true rfl)⟩ ⟨hc, hs⟩ rfl rfl (Nat.le_of_ble_eq_true rfl) dL_law_673 (fun v w1 H locs hp HW => ?_)
                    obtain ⟨rfl, rfl⟩ := hp
                    have HW : Hw D A s (wXo cI a o  ++ (wVo cI a (o + 1) (vh S) (vc S) (vA S 0) (vA S 1) (vA S 2) ++ (wR cI a ((o + 1) + 4) (vr S) (vA S 3) (vA S 4) (vA S 5) (vA S 6) ++ (wS cI a ((o + 1) + 9) (vs S) (vA S 7) (vA S 8) (vA S 9) (vA S 10) (vA S 11) (vA S 12) qt qp ++ (wVo cI a (o + 19) (vh T) (vc T) (vA T 0) (vA T 1) (vA T 2) ++ (wR cI a ((o + 19) + 4) (vr T) (vA T 3) (vA T 4) (vA T 5) (vA T 6) ++ (wS cI a ((o + 19) + 9) (vs T) (vA T 7) (vA T 8) (vA T 9) (vA T 10) (vA T 11) (vA T 12) qt2 qp2))))))) H locs := HW
                    refine W.eq (g2 := F0 m 676 ls [.int (figK S k 4)]) rfl ?_
                    refine lv_iload hx hb dL_law_676 (lv_at hl 5 rfl) ?_
                    refine lv_icmp_eq (tgt := 683) hx hb dL_law_678 (by decide) (fun c678 => ?_) (fun c678 => ?_)
                    · exact kk ()  _ _ _ HW (lv_sub hl [1, 3, 9, 10, 11, 12] rfl)
                    · exact absurd (hpt hb3) c678

set_option maxRecDepth 100000 in
set_option maxHeartbeats 4000000 in
theorem st_t3 (CX : Cx p s m args meth c cL_law 16 (some .boolean) RL wsL_law D (ty2 cI cL) A) (hSX : SX A sb L xs s) (hc : cells ≤ room_1.cells) (hs : slots ≤ room_1.slots) (o : Nat) (S : VS) (qt : Nat → Int32) (qp : Nat → Int32) (T : VS) (qt2 : Nat → Int32) (qp2 : Nat → Int32) (all : Int32) (n : Nat) (hn : n < 30) (hP : PI (skF xs L) all (n + 1) S) (hR : Rep (vs S) (vq S) qt qp) (HW : Hw D A s (wXo cI a o  ++ (wVo cI a (o + 1) (vh S) (vc S) (vA S 0) (vA S 1) (vA S 2) ++ (wR cI a ((o + 1) + 4) (vr S) (vA S 3) (vA S 4) (vA S 5) (vA S 6) ++ (wS cI a ((o + 1) + 9) (vs S) (vA S 7) (vA S 8) (vA S 9) (vA S 10) (vA S 11) (vA S 12) qt qp ++ (wVo cI a (o + 19) (vh T) (vc T) (vA T 0) (vA T 1) (vA T 2) ++ (wR cI a ((o + 19) + 4) (vr T) (vA T 3) (vA T 4) (vA T 5) (vA T 6) ++ (wS cI a ((o + 19) + 9) (vs T) (vA T 7) (vA T 8) (vA T 9) (vA T 10) (vA T 11) (vA T 12) qt2 qp2))))))) H locs) (hl : lv_has ls 16 [(11, .int (nI (cntN (towQ (vq S)) 5))), (9, .int (sumN (vA S 12) 5)), (3, .int (nI n)), (2, .int all), (1, .ref (a o)), (0, .ref sb)]) (kk : ∀ (_u : Unit), ∀ (H : Heap) (locs : List Loc) (ls : Array Slot), Hw D A s (wXo cI a o  ++ (wVo cI a (o + 1) (vh S) (vc S) (vA S 0) (vA S 1) (vA S 2) ++ (wR cI a ((o + 1) + 4) (vr S) (vA S 3) (vA S 4) (vA S 5) (vA S 6) ++ (wS cI a ((o + 1) + 9) (vs S) (vA S 7) (vA S 8) (vA S 9) (vA S 10) (vA S 11) (vA S 12) qt qp ++ (wVo cI a (o + 19) (vh T) (vc T) (vA T 0) (vA T 1) (vA T 2) ++ (wR cI a ((o + 19) + 4) (vr T) (vA T 3) (vA T 4) (vA T 5) (vA T 6) ++ (wS cI a ((o + 19) + 9) (vs T) (vA T 7) (vA T 8) (vA T 9) (vA T 10) (vA T 11) (vA T 12) qt2 qp2))))))) H locs → lv_has ls 16 [(9, .int (sumN (vA S 12) 5)), (3, .int (nI n)), (2, .int all), (1, .ref (a o)), (0, .ref sb)] → W p l e room_1 s m args below meth c H locs cells slots Q (F0 m 749 ls [])) : W p l e room_1 s m args below meth c H locs cells slots Q (F0 m 683 ls []) := by
  obtain ⟨hx, hb, hml, hr, hown, hts, hK, hA, hlk⟩ := id CX
  have hn8 : vs S ≤ 8 := hP.inv.2.1
  have hv5 := hP.s5
  have hh : vh S + 100 < 2 ^ 31 := by have := hP.hh; omega
  have hQ : Qk 5 (vq S) := by
    have h9 := rep_qok hR
    rw [hP.s5] at h9; exact h9
  have l689 : ∀ (d689 : Nat) (u : Nat), 3 - u = d689 → (u ≤ 3) → ∀ (H : Heap) (locs : List Loc) (ls : Array Slot), Hw D A s (wXo cI a o  ++ (wVo cI a (o + 1) (vh S) (vc S) (vA S 0) (vA S 1) (vA S 2) ++ (wR cI a ((o + 1) + 4) (vr S) (vA S 3) (vA S 4) (vA S 5) (vA S 6) ++ (wS cI a ((o + 1) + 9) (vs S) (vA S 7) (vA S 8) (vA S 9) (vA S 10) (vA S 11) (vA S 12) qt qp ++ (wVo cI a (o + 19) (vh T) (vc T) (vA T 0) (vA T 1) (vA T 2) ++ (wR cI a ((o + 19) + 4) (vr T) (vA T 3) (vA T 4) (vA T 5) (vA T 6) ++ (wS cI a ((o + 19) + 9) (vs T) (vA T 7) (vA T 8) (vA T 9) (vA T 10) (vA T 11) (vA T 12) qt2 qp2))))))) H locs → lv_has ls 16 [(14, .int (nI u)), (13, .int (nI (bset (prf (vq S) u)))), (11, .int (nI (cntN (towQ (vq S)) 5))), (9, .int (sumN (vA S 12) 5)), (3, .int (nI n)), (2, .int all), (1, .ref (a o)), (0, .ref sb)] → W p l e room_1 s m args below meth c H locs cells slots Q (F0 m 689 ls []) := by
    intro d689
    induction d689 using Nat.strongRecOn with
    | _ d689 ih689 =>
      intro u hd689 hu H locs ls HW hl
      refine lv_iload hx hb dL_law_689 (lv_at hl 0 rfl) ?_
      refine lv_iconst (v := 3) hx hb dL_law_691 (by decide) ?_
      refine lv_icmp_ge (tgt := 737) hx hb dL_law_692 (by decide) (fun c692 => ?_) (fun c692 => ?_)
      · have c692 := (nI_leI (a := 3) (b := u) (by decide) (by omega)).mp c692
        obtain rfl : u = 3 := by omega
        refine lv_iload hx hb dL_law_737 (lv_at hl 1 rfl) ?_
        refine g_callS CX HW hl.1 ([]) (wXo cI a o  ++ (wVo cI a (o + 1) (vh S) (vc S) (vA S 0) (vA S 1) (vA S 2) ++ (wR cI a ((o + 1) + 4) (vr S) (vA S 3) (vA S 4) (vA S 5) (vA S 6) ++ (wS cI a ((o + 1) + 9) (vs S) (vA S 7) (vA S 8) (vA S 9) (vA S 10) (vA S 11) (vA S 12) qt qp ++ (wVo cI a (o + 19) (vh T) (vc T) (vA T 0) (vA T 1) (vA T 2) ++ (wR cI a ((o + 19) + 4) (vr T) (vA T 3) (vA T 4) (vA T 5) (vA T 6) ++ (wS cI a ((o + 19) + 9) (vs T) (vA T 7) (vA T 8) (vA T 9) (vA T 10) (vA T 11) (vA T 12) qt2 qp2))))))) (c_J6_bitCount_0f7a4 (bset (prf (vq S) 3)) (bset_lt (prf_lt hQ 3 (by decide)))) rfl gL_law_J6_bitCount_0f7a4 rfl hd_J6_bitCount_0f7a4 ⟨rfl, rfl, (Nat.le_of_ble_eq_true rfl), (Nat.le_of_ble_eq_true rfl)⟩ ⟨hc, hs⟩ rfl rfl (Nat.le_of_ble_eq_true rfl) dL_law_739 (fun v w1 H locs hp HW => ?_)
        obtain ⟨rfl, rfl⟩ := hp
        have HW : Hw D A s (wXo cI a o  ++ (wVo cI a (o + 1) (vh S) (vc S) (vA S 0) (vA S 1) (vA S 2) ++ (wR cI a ((o + 1) + 4) (vr S) (vA S 3) (vA S 4) (vA S 5) (vA S 6) ++ (wS cI a ((o + 1) + 9) (vs S) (vA S 7) (vA S 8) (vA S 9) (vA S 10) (vA S 11) (vA S 12) qt qp ++ (wVo cI a (o + 19) (vh T) (vc T) (vA T 0) (vA T 1) (vA T 2) ++ (wR cI a ((o + 19) + 4) (vr T) (vA T 3) (vA T 4) (vA T 5) (vA T 6) ++ (wS cI a ((o + 19) + 9) (vs T) (vA T 7) (vA T 8) (vA T 9) (vA T 10) (vA T 11) (vA T 12) qt2 qp2))))))) H locs := HW
        refine W.eq (g2 := F0 m 742 ls [.int (nI (pop5 (bset (prf (vq S) 3))))]) rfl ?_
        refine g_top (y := (nI (cntN (towQ (vq S)) 5))) (by rw [pop_cnt]) ?_
        refine lv_iload hx hb dL_law_742 (lv_at hl 2 rfl) ?_
        refine lv_icmp_eq (tgt := 749) hx hb dL_law_744 (by decide) (fun c744 => ?_) (fun c744 => ?_)
        · exact kk ()  _ _ _ HW (lv_sub hl [3, 4, 5, 6, 7] rfl)
        · exact absurd rfl c744
      · have c692 : u < 3 := nI_lt_of (a := 3) (b := u) (by decide) (by omega) c692
        have hlen : (vq S u).length ≤ 8 := rep_len hR hn8 (by omega)
        have l698 : ∀ (d698 : Nat) (z : Nat), (vq S u).length - z = d698 → (z ≤ (vq S u).length) → ∀ (H : Heap) (locs : List Loc) (ls : Array Slot), Hw D A s (wXo cI a o  ++ (wVo cI a (o + 1) (vh S) (vc S) (vA S 0) (vA S 1) (vA S 2) ++ (wR cI a ((o + 1) + 4) (vr S) (vA S 3) (vA S 4) (vA S 5) (vA S 6) ++ (wS cI a ((o + 1) + 9) (vs S) (vA S 7) (vA S 8) (vA S 9) (vA S 10) (vA S 11) (vA S 12) qt qp ++ (wVo cI a (o + 19) (vh T) (vc T) (vA T 0) (vA T 1) (vA T 2) ++ (wR cI a ((o + 19) + 4) (vr T) (vA T 3) (vA T 4) (vA T 5) (vA T 6) ++ (wS cI a ((o + 19) + 9) (vs T) (vA T 7) (vA T 8) (vA T 9) (vA T 10) (vA T 11) (vA T 12) qt2 qp2))))))) H locs → lv_has ls 16 [(15, .int (nI z)), (14, .int (nI u)), (13, .int (nI (bset (prf (vq S) u ++ (vq S u).take z)))), (11, .int (nI (cntN (towQ (vq S)) 5))), (9, .int (sumN (vA S 12) 5)), (3, .int (nI n)), (2, .int all), (1, .ref (a o)), (0, .ref sb)] → W p l e room_1 s m args below meth c H locs cells slots Q (F0 m 698 ls []) := by
          intro d698
          induction d698 using Nat.strongRecOn with
          | _ d698 ih698 =>
            intro z hd698 hz H locs ls HW hl
            refine lv_iload hx hb dL_law_698 (lv_at hl 0 rfl) ?_
            refine lv_aload_n hx hb dL_law_700 rfl (lv_at hl 7 rfl) ?_
            refine lv_iload hx hb dL_law_701 (lv_at hl 1 rfl) ?_
            refine lv_iconst (v := 1) hx hb dL_law_703 (by decide) ?_
            refine g_callV CX HW hl.1 ([]) ([]) (c_X3_tow o S qt qp T qt2 qp2 u 1 hP.inv hR (by omega) (by decide)) rfl 0 rfl rfl gL_law_X3_tow rfl ⟨rfl, hd_X3_tow⟩ ⟨rfl, rfl, (Nat.le_of_ble_eq_true rfl), (Nat.le_of_ble_eq_true rfl)⟩ ⟨hc, hs⟩ rfl rfl (Nat.le_of_ble_eq_true rfl) dL_law_704 (fun v w1 H locs hp HW => ?_)
            obtain ⟨rfl, rfl⟩ := hp
            have HW : Hw D A s (wXo cI a o  ++ (wVo cI a (o + 1) (vh S) (vc S) (vA S 0) (vA S 1) (vA S 2) ++ (wR cI a ((o + 1) + 4) (vr S) (vA S 3) (vA S 4) (vA S 5) (vA S 6) ++ (wS cI a ((o + 1) + 9) (vs S) (vA S 7) (vA S 8) (vA S 9) (vA S 10) (vA S 11) (vA S 12) qt qp ++ (wVo cI a (o + 19) (vh T) (vc T) (vA T 0) (vA T 1) (vA T 2) ++ (wR cI a ((o + 19) + 4) (vr T) (vA T 3) (vA T 4) (vA T 5) (vA T 6) ++ (wS cI a ((o + 19) + 9) (vs T) (vA T 7) (vA T 8) (vA T 9) (vA T 10) (vA T 11) (vA T 12) qt2 qp2))))))) H locs := HW
            refine W.eq (g2 := F0 m 707 ls [.int (figT S u 1), .int (nI z)]) rfl ?_
            refine g_top (y := (nI (vq S u).length)) rfl ?_
            refine lv_icmp_ge (tgt := 731) hx hb dL_law_707 (by decide) (fun c707 => ?_) (fun c707 => ?_)
            · have c707 := (nI_leI (a := (vq S u).length) (b := z) (by omega) (by omega)).mp c707
              obtain rfl : z = (vq S u).length := by omega
              refine lv_iinc (v := (nI (u + 1))) (lv' := [(14, .int (nI (u + 1))), (15, .int (nI (vq S u).length)), (13, .int (nI (bset (prf (vq S) u ++ (vq S u).take (vq S u).length)))), (11, .int (nI (cntN (towQ (vq S)) 5))), (9, .int (sumN (vA S 12) 5)), (3, .int (nI n)), (2, .int all), (1, .ref (a o)), (0, .ref sb)]) hx hb dL_law_731 hl (k := 1) rfl (inc1 _) (Nat.le_of_ble_eq_true rfl) rfl (fun ls hl => ?_)
              refine lv_goto (tgt := 689) hx hb dL_law_734 (by decide) ?_
              have hl9 : (nI (bset (prf (vq S) u ++ (vq S u).take (vq S u).length))) = (nI (bset (prf (vq S) (u + 1)))) := by rw [List.take_length]; rfl
              rw [hl9] at hl
              exact ih689 _ (by omega) (u + 1) rfl (by omega) _ _ _ HW (lv_sub hl [0, 2, 3, 4, 5, 6, 7, 8] rfl)
            · have c707 : z < (vq S u).length := nI_lt_of (by omega) (by omega) c707
              obtain ⟨k9, hk9⟩ : ∃ k9, (vq S u)[z]? = some k9 := ⟨_, List.getElem?_eq_getElem c707⟩
              have hk5 : k9 < 5 := hQ u (by omega) k9 (List.mem_of_getElem? hk9)
              refine lv_iload hx hb dL_law_710 (lv_at hl 2 rfl) ?_
              refine lv_iconst (v := 1) hx hb dL_law_712 (by decide) ?_
              refine lv_aload_n hx hb dL_law_713 rfl (lv_at hl 7 rfl) ?_
              refine lv_iload hx hb dL_law_714 (lv_at hl 1 rfl) ?_
              refine lv_iload hx hb dL_law_716 (lv_at hl 0 rfl) ?_
              refine g_callV CX HW hl.1 ([]) ([]) (c_X3_stands o S qt qp T qt2 qp2 u z hP.inv hR (by omega) c707) rfl 0 rfl rfl gL_law_X3_stands rfl ⟨rfl, hd_X3_stands⟩ ⟨rfl, rfl, (Nat.le_of_ble_eq_true rfl), (Nat.le_of_ble_eq_true rfl)⟩ ⟨hc, hs⟩ rfl rfl (Nat.le_of_ble_eq_true rfl) dL_law_718 (fun v w1 H locs hp HW => ?_)
              obtain ⟨rfl, rfl⟩ := hp
              have HW : Hw D A s (wXo cI a o  ++ (wVo cI a (o + 1) (vh S) (vc S) (vA S 0) (vA S 1) (vA S 2) ++ (wR cI a ((o + 1) + 4) (vr S) (vA S 3) (vA S 4) (vA S 5) (vA S 6) ++ (wS cI a ((o + 1) + 9) (vs S) (vA S 7) (vA S 8) (vA S 9) (vA S 10) (vA S 11) (vA S 12) qt qp ++ (wVo cI a (o + 19) (vh T) (vc T) (vA T 0) (vA T 1) (vA T 2) ++ (wR cI a ((o + 19) + 4) (vr T) (vA T 3) (vA T 4) (vA T 5) (vA T 6) ++ (wS cI a ((o + 19) + 9) (vs T) (vA T 7) (vA T 8) (vA T 9) (vA T 10) (vA T 11) (vA T 12) qt2 qp2))))))) H locs := HW
              refine W.eq (g2 := F0 m 721 ls [.int (oI ((vq S u)[z]?)), .int (1 : Int32), .int (nI (bset (prf (vq S) u ++ (vq S u).take z)))]) rfl ?_
              refine g_top (y := (nI k9)) (by rw [hk9]; rfl) ?_
              refine lv_ishl hx hb dL_law_721 ?_
              refine lv_ior hx hb dL_law_722 ?_
              refine g_top (y := (nI (bset (prf (vq S) u ++ (vq S u).take (z + 1))))) (by rw [or5 _ (bset_lt (pre_lt hQ (by omega) z)) _ hk5, ← bset_s, take_s hk9, List.append_assoc]) ?_
              refine lv_istore (lv' := [(13, .int (nI (bset (prf (vq S) u ++ (vq S u).take (z + 1))))), (15, .int (nI z)), (14, .int (nI u)), (11, .int (nI (cntN (towQ (vq S)) 5))), (9, .int (sumN (vA S 12) 5)), (3, .int (nI n)), (2, .int all), (1, .ref (a o)), (0, .ref sb)]) hx hb dL_law_723 hl (Nat.le_of_ble_eq_true rfl) rfl (fun ls hl => ?_)
              refine lv_iinc (v := (nI (z + 1))) (lv' := [(15, .int (nI (z + 1))), (13, .int (nI (bset (prf (vq S) u ++ (vq S u).take (z + 1))))), (14, .int (nI u)), (11, .int (nI (cntN (towQ (vq S)) 5))), (9, .int (sumN (vA S 12) 5)), (3, .int (nI n)), (2, .int all), (1, .ref (a o)), (0, .ref sb)]) hx hb dL_law_725 hl (k := 1) rfl (inc1 _) (Nat.le_of_ble_eq_true rfl) rfl (fun ls hl => ?_)
              refine lv_goto (tgt := 698) hx hb dL_law_728 (by decide) ?_
              exact ih698 _ (by omega) (z + 1) rfl (by omega) _ _ _ HW (lv_sub hl [0, 2, 1, 3, 4, 5, 6, 7, 8] rfl)
        have hl0 : (nI (bset (prf (vq S) u))) = (nI (bset (prf (vq S) u ++ (vq S u).take 0))) := by rw [List.take_zero, List.append_nil]
        rw [hl0] at hl
        refine lv_iconst (v := 0) hx hb dL_law_695 (by decide) ?_
        refine lv_istore (lv' := [(15, .int (0 : Int32)), (14, .int (nI u)), (13, .int (nI (bset (prf (vq S) u ++ (vq S u).take 0)))), (11, .int (nI (cntN (towQ (vq S)) 5))), (9, .int (sumN (vA S 12) 5)), (3, .int (nI n)), (2, .int all), (1, .ref (a o)), (0, .ref sb)]) hx hb dL_law_696 hl (Nat.le_of_ble_eq_true rfl) rfl (fun ls hl => ?_)
        exact l698 _ 0 rfl (by omega) _ _ _ HW (lv_sub hl [0, 1, 2, 3, 4, 5, 6, 7, 8] rfl)
  refine lv_iconst (v := 0) hx hb dL_law_683 (by decide) ?_
  refine lv_istore (lv' := [(13, .int (0 : Int32)), (11, .int (nI (cntN (towQ (vq S)) 5))), (9, .int (sumN (vA S 12) 5)), (3, .int (nI n)), (2, .int all), (1, .ref (a o)), (0, .ref sb)]) hx hb dL_law_684 hl (Nat.le_of_ble_eq_true rfl) rfl (fun ls hl => ?_)
  refine lv_iconst (v := 0) hx hb dL_law_686 (by decide) ?_
  refine lv_istore (lv' := [(14, .int (0 : Int32)), (13, .int (0 : Int32)), (11, .int (nI (cntN (towQ (vq S)) 5))), (9, .int (sumN (vA S 12) 5)), (3, .int (nI n)), (2, .int all), (1, .ref (a o)), (0, .ref sb)]) hx hb dL_law_687 hl (Nat.le_of_ble_eq_true rfl) rfl (fun ls hl => ?_)
  exact l689 _ 0 rfl (by omega) _ _ _ HW (lv_sub hl [0, 1, 2, 3, 4, 5, 6, 7] rfl)

set_option maxRecDepth 100000 in
set_option maxHeartbeats 4000000 in
theorem st_t4 (CX : Cx p s m args meth c cL_law 16 (some .boolean) RL wsL_law D (ty2 cI cL) A) (hSX : SX A sb L xs s) (hc : cells ≤ room_1.cells) (hs : slots ≤ room_1.slots) (o : Nat) (S : VS) (qt : Nat → Int32) (qp : Nat → Int32) (T : VS) (qt2 : Nat → Int32) (qp2 : Nat → Int32) (all : Int32) (n : Nat) (hn : n < 30) (hP : PI (skF xs L) all (n + 1) S) (hR : Rep (vs S) (vq S) qt qp) (HW : Hw D A s (wXo cI a o  ++ (wVo cI a (o + 1) (vh S) (vc S) (vA S 0) (vA S 1) (vA S 2) ++ (wR cI a ((o + 1) + 4) (vr S) (vA S 3) (vA S 4) (vA S 5) (vA S 6) ++ (wS cI a ((o + 1) + 9) (vs S) (vA S 7) (vA S 8) (vA S 9) (vA S 10) (vA S 11) (vA S 12) qt qp ++ (wVo cI a (o + 19) (vh T) (vc T) (vA T 0) (vA T 1) (vA T 2) ++ (wR cI a ((o + 19) + 4) (vr T) (vA T 3) (vA T 4) (vA T 5) (vA T 6) ++ (wS cI a ((o + 19) + 9) (vs T) (vA T 7) (vA T 8) (vA T 9) (vA T 10) (vA T 11) (vA T 12) qt2 qp2))))))) H locs) (hl : lv_has ls 16 [(9, .int (sumN (vA S 12) 5)), (3, .int (nI n)), (2, .int all), (1, .ref (a o)), (0, .ref sb)]) (kk : ∀ (_u : Unit), ∀ (H : Heap) (locs : List Loc) (ls : Array Slot), Hw D A s (wXo cI a o  ++ (wVo cI a (o + 1) (vh S) (vc S) (vA S 0) (vA S 1) (vA S 2) ++ (wR cI a ((o + 1) + 4) (vr S) (vA S 3) (vA S 4) (vA S 5) (vA S 6) ++ (wS cI a ((o + 1) + 9) (vs S) (vA S 7) (vA S 8) (vA S 9) (vA S 10) (vA S 11) (vA S 12) qt qp ++ (wVo cI a (o + 19) (vh T) (vc T) (vA T 0) (vA T 1) (vA T 2) ++ (wR cI a ((o + 19) + 4) (vr T) (vA T 3) (vA T 4) (vA T 5) (vA T 6) ++ (wS cI a ((o + 19) + 9) (vs T) (vA T 7) (vA T 8) (vA T 9) (vA T 10) (vA T 11) (vA T 12) qt2 qp2))))))) H locs → lv_has ls 16 [(3, .int (nI n)), (2, .int all), (1, .ref (a o)), (0, .ref sb)] → W p l e room_1 s m args below meth c H locs cells slots Q (F0 m 812 ls [])) : W p l e room_1 s m args below meth c H locs cells slots Q (F0 m 749 ls []) := by
  obtain ⟨hx, hb, hml, hr, hown, hts, hK, hA, hlk⟩ := id CX
  have hn8 : vs S ≤ 8 := hP.inv.2.1
  have hv5 := hP.s5
  have hh : vh S + 100 < 2 ^ 31 := by have := hP.hh; omega
  have l755 : ∀ (d0 : Nat) (i : Nat), 4 - i = d0 → (i ≤ 4) → ∀ (H : Heap) (locs : List Loc) (ls : Array Slot), Hw D A s (wXo cI a o  ++ (wVo cI a (o + 1) (vh S) (vc S) (vA S 0) (vA S 1) (vA S 2) ++ (wR cI a ((o + 1) + 4) (vr S) (vA S 3) (vA S 4) (vA S 5) (vA S 6) ++ (wS cI a ((o + 1) + 9) (vs S) (vA S 7) (vA S 8) (vA S 9) (vA S 10) (vA S 11) (vA S 12) qt qp ++ (wVo cI a (o + 19) (vh T) (vc T) (vA T 0) (vA T 1) (vA T 2) ++ (wR cI a ((o + 19) + 4) (vr T) (vA T 3) (vA T 4) (vA T 5) (vA T 6) ++ (wS cI a ((o + 19) + 9) (vs T) (vA T 7) (vA T 8) (vA T 9) (vA T 10) (vA T 11) (vA T 12) qt2 qp2))))))) H locs → lv_has ls 16 [(15, .int (nI i)), (14, .int (sumN (vA S 6) i)), (9, .int (sumN (vA S 12) 5)), (3, .int (nI n)), (2, .int all), (1, .ref (a o)), (0, .ref sb)] → W p l e room_1 s m args below meth c H locs cells slots Q (F0 m 755 ls []) := by
    intro d0
    induction d0 using Nat.strongRecOn with
    | _ d0 ih =>
      intro i hd0 hi H locs ls HW hl
      refine lv_iload hx hb dL_law_755 (lv_at hl 0 rfl) ?_
      refine lv_iconst (v := 4) hx hb dL_law_757 (by decide) ?_
      refine lv_icmp_ge (tgt := 803) hx hb dL_law_758 (by decide) (fun c758 => ?_) (fun c758 => ?_)
      · have c758 := (nI_leI (a := 4) (b := i) (by decide) (by omega)).mp c758
        obtain rfl : i = 4 := by omega
        refine lv_iload hx hb dL_law_803 (lv_at hl 1 rfl) ?_
        refine lv_iload hx hb dL_law_805 (lv_at hl 2 rfl) ?_
        refine lv_icmp_le (tgt := 812) hx hb dL_law_807 (by decide) (fun c807 => ?_) (fun c807 => ?_)
        · exact kk ()  _ _ _ HW (lv_sub hl [3, 4, 5, 6] rfl)
        · exact absurd (kd_le hP (by omega)) c807
      · have c758 : i < 4 := nI_lt_of (a := 4) (b := i) (by decide) (by omega) c758
        obtain ⟨d5, hd5, e5⟩ := (hP.inv.2.2.2.2.1 i (by rw [hP.r4]; exact c758)).2.2
        refine lv_iload hx hb dL_law_761 (lv_at hl 1 rfl) ?_
        refine lv_aload_n hx hb dL_law_763 rfl (lv_at hl 5 rfl) ?_
        refine lv_iload hx hb dL_law_764 (lv_at hl 0 rfl) ?_
        refine lv_iconst (v := 4) hx hb dL_law_766 (by decide) ?_
        refine g_callV CX HW hl.1 ([]) ([]) (c_X3_about o S qt qp T qt2 qp2 i 4 hP.inv hR (by rw [hP.r4]; exact c758) (by decide)) rfl 0 rfl rfl gL_law_X3_about rfl ⟨rfl, hd_X3_about⟩ ⟨rfl, rfl, (Nat.le_of_ble_eq_true rfl), (Nat.le_of_ble_eq_true rfl)⟩ ⟨hc, hs⟩ rfl rfl (Nat.le_of_ble_eq_true rfl) dL_law_767 (fun v w1 H locs hp HW => ?_)
        obtain ⟨rfl, rfl⟩ := hp
        have HW : Hw D A s (wXo cI a o  ++ (wVo cI a (o + 1) (vh S) (vc S) (vA S 0) (vA S 1) (vA S 2) ++ (wR cI a ((o + 1) + 4) (vr S) (vA S 3) (vA S 4) (vA S 5) (vA S 6) ++ (wS cI a ((o + 1) + 9) (vs S) (vA S 7) (vA S 8) (vA S 9) (vA S 10) (vA S 11) (vA S 12) qt qp ++ (wVo cI a (o + 19) (vh T) (vc T) (vA T 0) (vA T 1) (vA T 2) ++ (wR cI a ((o + 19) + 4) (vr T) (vA T 3) (vA T 4) (vA T 5) (vA T 6) ++ (wS cI a ((o + 19) + 9) (vs T) (vA T 7) (vA T 8) (vA T 9) (vA T 10) (vA T 11) (vA T 12) qt2 qp2))))))) H locs := HW
        refine W.eq (g2 := F0 m 770 ls [.int (figR (vA S 3) (vA S 4) (vA S 5) (vA S 6) i 4), .int (sumN (vA S 6) i)]) rfl ?_
        refine lv_iadd hx hb dL_law_770 ?_
        refine g_top (y := (sumN (vA S 6) (i + 1))) rfl ?_
        refine lv_istore (lv' := [(14, .int (sumN (vA S 6) (i + 1))), (15, .int (nI i)), (9, .int (sumN (vA S 12) 5)), (3, .int (nI n)), (2, .int all), (1, .ref (a o)), (0, .ref sb)]) hx hb dL_law_771 hl (Nat.le_of_ble_eq_true rfl) rfl (fun ls hl => ?_)
        refine lv_aload_n hx hb dL_law_773 rfl (lv_at hl 5 rfl) ?_
        refine lv_iload hx hb dL_law_774 (lv_at hl 1 rfl) ?_
        refine lv_iconst (v := 2) hx hb dL_law_776 (by decide) ?_
        refine g_callV CX HW hl.1 ([]) ([]) (c_X3_about o S qt qp T qt2 qp2 i 2 hP.inv hR (by rw [hP.r4]; exact c758) (by decide)) rfl 0 rfl rfl gL_law_X3_about rfl ⟨rfl, hd_X3_about⟩ ⟨rfl, rfl, (Nat.le_of_ble_eq_true rfl), (Nat.le_of_ble_eq_true rfl)⟩ ⟨hc, hs⟩ rfl rfl (Nat.le_of_ble_eq_true rfl) dL_law_777 (fun v w1 H locs hp HW => ?_)
        obtain ⟨rfl, rfl⟩ := hp
        have HW : Hw D A s (wXo cI a o  ++ (wVo cI a (o + 1) (vh S) (vc S) (vA S 0) (vA S 1) (vA S 2) ++ (wR cI a ((o + 1) + 4) (vr S) (vA S 3) (vA S 4) (vA S 5) (vA S 6) ++ (wS cI a ((o + 1) + 9) (vs S) (vA S 7) (vA S 8) (vA S 9) (vA S 10) (vA S 11) (vA S 12) qt qp ++ (wVo cI a (o + 19) (vh T) (vc T) (vA T 0) (vA T 1) (vA T 2) ++ (wR cI a ((o + 19) + 4) (vr T) (vA T 3) (vA T 4) (vA T 5) (vA T 6) ++ (wS cI a ((o + 19) + 9) (vs T) (vA T 7) (vA T 8) (vA T 9) (vA T 10) (vA T 11) (vA T 12) qt2 qp2))))))) H locs := HW
        refine W.eq (g2 := F0 m 780 ls [.int (figR (vA S 3) (vA S 4) (vA S 5) (vA S 6) i 2)]) rfl ?_
        refine lv_if_lt (tgt := 795) hx hb dL_law_780 (by decide) (fun c780 => ?_) (fun c780 => ?_)
        · exact absurd c780 (by show ¬ vA S 5 i < 0; rw [e5]; exact nI_pos (by omega))
        · refine lv_aload_n hx hb dL_law_783 rfl (lv_at hl 5 rfl) ?_
          refine lv_iload hx hb dL_law_784 (lv_at hl 1 rfl) ?_
          refine lv_iconst (v := 2) hx hb dL_law_786 (by decide) ?_
          refine g_callV CX HW hl.1 ([]) ([]) (c_X3_about o S qt qp T qt2 qp2 i 2 hP.inv hR (by rw [hP.r4]; exact c758) (by decide)) rfl 0 rfl rfl gL_law_X3_about rfl ⟨rfl, hd_X3_about⟩ ⟨rfl, rfl, (Nat.le_of_ble_eq_true rfl), (Nat.le_of_ble_eq_true rfl)⟩ ⟨hc, hs⟩ rfl rfl (Nat.le_of_ble_eq_true rfl) dL_law_787 (fun v w1 H locs hp HW => ?_)
          obtain ⟨rfl, rfl⟩ := hp
          have HW : Hw D A s (wXo cI a o  ++ (wVo cI a (o + 1) (vh S) (vc S) (vA S 0) (vA S 1) (vA S 2) ++ (wR cI a ((o + 1) + 4) (vr S) (vA S 3) (vA S 4) (vA S 5) (vA S 6) ++ (wS cI a ((o + 1) + 9) (vs S) (vA S 7) (vA S 8) (vA S 9) (vA S 10) (vA S 11) (vA S 12) qt qp ++ (wVo cI a (o + 19) (vh T) (vc T) (vA T 0) (vA T 1) (vA T 2) ++ (wR cI a ((o + 19) + 4) (vr T) (vA T 3) (vA T 4) (vA T 5) (vA T 6) ++ (wS cI a ((o + 19) + 9) (vs T) (vA T 7) (vA T 8) (vA T 9) (vA T 10) (vA T 11) (vA T 12) qt2 qp2))))))) H locs := HW
          refine W.eq (g2 := F0 m 790 ls [.int (figR (vA S 3) (vA S 4) (vA S 5) (vA S 6) i 2)]) rfl ?_
          refine lv_bipush (v := 90) hx hb dL_law_790 (by decide) ?_
          refine lv_icmp_le (tgt := 797) hx hb dL_law_792 (by decide) (fun c792 => ?_) (fun c792 => ?_)
          · refine lv_iinc (v := (nI (i + 1))) (lv' := [(15, .int (nI (i + 1))), (14, .int (sumN (vA S 6) (i + 1))), (9, .int (sumN (vA S 12) 5)), (3, .int (nI n)), (2, .int all), (1, .ref (a o)), (0, .ref sb)]) hx hb dL_law_797 hl (k := 1) rfl (inc1 _) (Nat.le_of_ble_eq_true rfl) rfl (fun ls hl => ?_)
            refine lv_goto (tgt := 755) hx hb dL_law_800 (by decide) ?_
            exact ih _ (by omega) (i + 1) rfl (by omega) _ _ _ HW (lv_sub hl [0, 1, 2, 3, 4, 5, 6] rfl)
          · exact absurd (by show vA S 5 i ≤ 90; rw [e5]; exact (nI_leI (a := d5) (b := 90) (by omega) (by decide)).mpr hd5) c792
  refine lv_iconst (v := 0) hx hb dL_law_749 (by decide) ?_
  refine lv_istore (lv' := [(14, .int (0 : Int32)), (9, .int (sumN (vA S 12) 5)), (3, .int (nI n)), (2, .int all), (1, .ref (a o)), (0, .ref sb)]) hx hb dL_law_750 hl (Nat.le_of_ble_eq_true rfl) rfl (fun ls hl => ?_)
  refine lv_iconst (v := 0) hx hb dL_law_752 (by decide) ?_
  refine lv_istore (lv' := [(15, .int (0 : Int32)), (14, .int (0 : Int32)), (9, .int (sumN (vA S 12) 5)), (3, .int (nI n)), (2, .int all), (1, .ref (a o)), (0, .ref sb)]) hx hb dL_law_753 hl (Nat.le_of_ble_eq_true rfl) rfl (fun ls hl => ?_)
  exact l755 _ 0 rfl (by omega) _ _ _ HW (lv_sub hl [0, 1, 2, 3, 4, 5, 6] rfl)

end LAW2
