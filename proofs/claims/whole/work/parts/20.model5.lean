theorem stand_in {q : Nat → List Nat} {t : Nat} {z : Int32} (h8 : (q t).length ≤ 8) : (0 ≤ z ∧ z ≤ nI (q t).length - 1) ↔ ¬ standQ q t z = none := by
  refine (lt_pred h8).trans ?_
  unfold standQ
  constructor
  · rintro h
    obtain ⟨p, hp, rfl⟩ := has_nat (by omega) h
    rw [if_neg (Int32.not_lt.mpr h.1), natI_nI (by omega), List.getElem?_eq_getElem hp]
    exact fun h9 => by cases h9
  · intro h
    by_cases hz : z < 0
    · rw [if_pos hz] at h; exact absurd rfl h
    · rw [if_neg hz] at h
      obtain ⟨p, hp, rfl⟩ := nI_of hz
      rw [natI_nI hp] at h
      refine ⟨Int32.not_lt.mp hz, ?_⟩
      rcases Nat.lt_or_ge p (q t).length with h1 | h1
      · exact (nI_ltI (by omega) (by omega)).mpr h1
      · exact absurd (List.getElem?_eq_none h1) h
theorem stand_nI {q : Nat → List Nat} {t p : Nat} (hp : p < 2 ^ 31) : standQ q t (nI p) = (q t)[p]? := by
  unfold standQ
  rw [if_neg (nI_pos hp), natI_nI hp]
theorem stand_nat {q : Nat → List Nat} {t : Nat} {z : Int32} (h8 : (q t).length ≤ 8) (h : ¬ standQ q t z = none) : ∃ p y : Nat, p < (q t).length ∧ z = nI p ∧ standQ q t (nI p) = some y := by
  unfold standQ at h
  by_cases hz : z < 0
  · rw [if_pos hz] at h; exact absurd rfl h
  · rw [if_neg hz] at h
    obtain ⟨p, hp, rfl⟩ := nI_of hz
    rw [natI_nI hp] at h
    rcases Nat.lt_or_ge p (q t).length with h1 | h1
    · exact ⟨p, (q t)[p], h1, rfl, by rw [stand_nI hp, List.getElem?_eq_getElem h1]⟩
    · exact absurd (List.getElem?_eq_none h1) h
theorem hd_X5_join : yX5_join.cls ≠ "java/lang/invoke/MethodHandle" ∧ yX5_join.cls ≠ "java/lang/invoke/VarHandle" ∧ (parseMethodDescriptor yX5_join.desc).map (fun d => d.parameters.length) = some 2 := by decide +kernel
theorem fl_X5_join_37 : Cond.fieldLink RX5 37 (TX5 0).1 (TX5 0).2.1 (TX5 0).2.2.1 ∈ wsX5_join := by decide +kernel
theorem in_X5_join_5 : ∀ x ∈ u_ws RX5 TX5 10, x ∈ wsX5_join := by decide +kernel
theorem fl_X5_join_30 : Cond.fieldLink RX5 30 (TX5 8).1 (TX5 8).2.1 (TX5 8).2.2.1 ∈ wsX5_join := by decide +kernel
theorem in_X5_join_4 : ∀ x ∈ u_ws RX4 TX4 14, x ∈ wsX5_join := by decide +kernel
set_option maxRecDepth 100000 in
set_option maxHeartbeats 4000000 in
theorem c_X5_join {l : Launch} {D : va_G} {cI cL : ClassId} {a : Nat → Nat} (o : Nat) (S : VS) (th : Int32) (my : Nat → Int32) (qu : Nat → Int32) (T : VS) (ri2 : Int32) (my2 : Nat → Int32) (qu2 : Nat → Int32) (x : Int32) (z : Int32) (hI : Inv S) (hM : RepM (vq S) my qu) (hQ : Qk (vs S) (vq S)) (hU : QU (vq S)) (hh : vh S + 100 < 2 ^ 31) (hjq : ∀ k, k < vs S → ∀ t, t < 3 → (takeQ (vq S) k t).length < 8) : Ct l yX5_join wsX5_join { frames := 2, cells := 0, slots := 0, locals := 48 } D (ty2 cI cL) [.ref (a o), .int x, .int z] (wMo cI a o th (vA S 0) (vA S 1) (vr S) (vA S 3) (vA S 4) (vs S) (vA S 7) ++ (wMS cI a (o + 6) (a o) (vh S) (vc S) (sumP S) (vA S 5) (vA S 6) (vA S 8) (vA S 9) (vA S 10) (vA S 11) (vA S 12) (vA S 2) my qu ++ (wMS cI a (o + 17) (a o) (vh T) (vc T) ri2 (vA T 5) (vA T 6) (vA T 8) (vA T 9) (vA T 10) (vA T 11) (vA T 12) (vA T 2) my2 qu2))) (fun v w' => ∃ (Z : VS) (r : Int32) (my' qu' : Nat → Int32) (T' : VS) (ri2' : Int32) (my2' qu2' : Nat → Int32), MOK (kJoin S x z) (nI (takeQ (vq S) (natI x) (natI z)).length) S (sJoin S x z) Z r ∧ RepM (vq Z) my' qu' ∧ v = some (.int r) ∧ w' = wMo cI a o (kJoin S x z) (vA Z 0) (vA Z 1) (vr Z) (vA Z 3) (vA Z 4) (vs Z) (vA Z 7) ++ (wMS cI a (o + 6) (a o) (vh Z) (vc Z) (sumP Z) (vA Z 5) (vA Z 6) (vA Z 8) (vA Z 9) (vA Z 10) (vA Z 11) (vA Z 12) (vA Z 2) my' qu' ++ (wMS cI a (o + 17) (a o) (vh T') (vc T') ri2' (vA T' 5) (vA T' 6) (vA T' 8) (vA T' 9) (vA T' 10) (vA T' 11) (vA T' 12) (vA T' 2) my2' qu2'))) 0 0 := by
  refine Ct.of (cc := cX5_join) (maxL := 3) (ret := (some .int)) (by decide) rfl (Nat.le_of_ble_eq_true rfl) ?_
  intro p e s m below meth c A ls CX hin HW hl
  obtain ⟨hx, hb, hml, hr, hown, hts, hK, hA, hlk⟩ := id CX
  have hl : lv_has ls 3 [(0, .ref (a o)), (1, .int x), (2, .int z)] := hl
  have hn6 := hI.1
  have hn8 := hI.2.1
  refine lv_aload_n hx hb dX5_join_0 rfl (lv_at hl 0 rfl) ?_
  refine lv_iconst (v := 0) hx hb dX5_join_1 (by decide) ?_
  refine g_put CX HW in_X5_join_5 tyX5 tyX5_ok nmX5 0 0 rfl rfl (Nat.le_of_ble_eq_true rfl) fl_X5_join_37 rfl rfl rfl (Nat.le_of_ble_eq_true rfl) dX5_join_2 (fun H locs HW => ?_)
  have HW : Hw D A s (wMo cI a o (0 : Int32) (vA S 0) (vA S 1) (vr S) (vA S 3) (vA S 4) (vs S) (vA S 7) ++ (wMS cI a (o + 6) (a o) (vh S) (vc S) (sumP S) (vA S 5) (vA S 6) (vA S 8) (vA S 9) (vA S 10) (vA S 11) (vA S 12) (vA S 2) my qu ++ (wMS cI a (o + 17) (a o) (vh T) (vc T) ri2 (vA T 5) (vA T 6) (vA T 8) (vA T 9) (vA T 10) (vA T 11) (vA T 12) (vA T 2) my2 qu2))) H locs := HW
  refine lv_aload_n hx hb dX5_join_5 rfl (lv_at hl 0 rfl) ?_
  refine lv_iload_n hx hb dX5_join_6 rfl (lv_at hl 1 rfl) ?_
  refine g_callV CX HW hl.1 ([]) (wMS cI a (o + 6) (a o) (vh S) (vc S) (sumP S) (vA S 5) (vA S 6) (vA S 8) (vA S 9) (vA S 10) (vA S 11) (vA S 12) (vA S 2) my qu ++ (wMS cI a (o + 17) (a o) (vh T) (vc T) ri2 (vA T 5) (vA T 6) (vA T 8) (vA T 9) (vA T 10) (vA T 11) (vA T 12) (vA T 2) my2 qu2)) (c_X5_isSkier o S (0 : Int32) x (by omega)) rfl 0 rfl rfl gX5_join_X5_isSkier rfl ⟨rfl, hd_X5_isSkier⟩ ⟨rfl, rfl, (Nat.le_of_ble_eq_true rfl), (Nat.le_of_ble_eq_true rfl)⟩ ⟨(Nat.zero_le _), (Nat.zero_le _)⟩ rfl rfl (Nat.le_of_ble_eq_true rfl) dX5_join_7 (fun v w1 H locs hp HW => ?_)
  obtain ⟨rfl, rfl⟩ := hp
  have HW : Hw D A s (wMo cI a o (0 : Int32) (vA S 0) (vA S 1) (vr S) (vA S 3) (vA S 4) (vs S) (vA S 7) ++ (wMS cI a (o + 6) (a o) (vh S) (vc S) (sumP S) (vA S 5) (vA S 6) (vA S 8) (vA S 9) (vA S 10) (vA S 11) (vA S 12) (vA S 2) my qu ++ (wMS cI a (o + 17) (a o) (vh T) (vc T) ri2 (vA T 5) (vA T 6) (vA T 8) (vA T 9) (vA T 10) (vA T 11) (vA T 12) (vA T 2) my2 qu2))) H locs := HW
  refine W.eq (g2 := F0 m 10 ls [.int (bI ((0 : Int32) ≤ x ∧ x < nI (vs S)))]) rfl ?_
  refine g_ifeq_b (tgt := 21) hx hb dX5_join_10 (by decide) (fun c10 => ?_) (fun c10 => ?_)
  · refine lv_aload_n hx hb dX5_join_21 rfl (lv_at hl 0 rfl) ?_
    refine lv_iconst (v := 1) hx hb dX5_join_22 (by decide) ?_
    refine g_callV CX HW hl.1 ([]) (wMS cI a (o + 6) (a o) (vh S) (vc S) (sumP S) (vA S 5) (vA S 6) (vA S 8) (vA S 9) (vA S 10) (vA S 11) (vA S 12) (vA S 2) my qu ++ (wMS cI a (o + 17) (a o) (vh T) (vc T) ri2 (vA T 5) (vA T 6) (vA T 8) (vA T 9) (vA T 10) (vA T 11) (vA T 12) (vA T 2) my2 qu2)) (c_X5_no o S (0 : Int32) (1 : Int32)) rfl 0 rfl rfl gX5_join_X5_no rfl ⟨rfl, hd_X5_no⟩ ⟨rfl, rfl, (Nat.le_of_ble_eq_true rfl), (Nat.le_of_ble_eq_true rfl)⟩ ⟨(Nat.zero_le _), (Nat.zero_le _)⟩ rfl rfl (Nat.le_of_ble_eq_true rfl) dX5_join_23 (fun v w1 H locs hp HW => ?_)
    obtain ⟨rfl, rfl⟩ := hp
    have HW : Hw D A s (wMo cI a o (1 : Int32) (vA S 0) (vA S 1) (vr S) (vA S 3) (vA S 4) (vs S) (vA S 7) ++ (wMS cI a (o + 6) (a o) (vh S) (vc S) (sumP S) (vA S 5) (vA S 6) (vA S 8) (vA S 9) (vA S 10) (vA S 11) (vA S 12) (vA S 2) my qu ++ (wMS cI a (o + 17) (a o) (vh T) (vc T) ri2 (vA T 5) (vA T 6) (vA T 8) (vA T 9) (vA T 10) (vA T 11) (vA T 12) (vA T 2) my2 qu2))) H locs := HW
    refine W.eq (g2 := F0 m 26 ls [.int (0 : Int32)]) rfl ?_
    have hk : kJoin S x z = 1 := by first | (rw [kJoin]; rw [if_pos c10]) | (rw [kJoin]; rw [if_neg (fun h9 => h9 c10), if_pos c18])
    exact g_iret CX HW rfl ⟨S, 0, my, qu, T, ri2, my2, qu2, ⟨fun _ => rfl, fun h9 => absurd (hk.symm.trans h9) (by decide)⟩, hM, rfl, by rw [hk]⟩ dX5_join_26
  · obtain ⟨k, hk, rfl⟩ := has_nat (by omega) c10
    have ek : natI (nI k) = k := natI_nI (by omega)
    · refine lv_aload_n hx hb dX5_join_13 rfl (lv_at hl 0 rfl) ?_
      refine lv_iload_n hx hb dX5_join_14 rfl (lv_at hl 2 rfl) ?_
      refine g_callV CX HW hl.1 ([]) (wMS cI a (o + 6) (a o) (vh S) (vc S) (sumP S) (vA S 5) (vA S 6) (vA S 8) (vA S 9) (vA S 10) (vA S 11) (vA S 12) (vA S 2) my qu ++ (wMS cI a (o + 17) (a o) (vh T) (vc T) ri2 (vA T 5) (vA T 6) (vA T 8) (vA T 9) (vA T 10) (vA T 11) (vA T 12) (vA T 2) my2 qu2)) (c_X5_isTow o S (0 : Int32) z) rfl 0 rfl rfl gX5_join_X5_isTow rfl ⟨rfl, hd_X5_isTow⟩ ⟨rfl, rfl, (Nat.le_of_ble_eq_true rfl), (Nat.le_of_ble_eq_true rfl)⟩ ⟨(Nat.zero_le _), (Nat.zero_le _)⟩ rfl rfl (Nat.le_of_ble_eq_true rfl) dX5_join_15 (fun v w1 H locs hp HW => ?_)
      obtain ⟨rfl, rfl⟩ := hp
      have HW : Hw D A s (wMo cI a o (0 : Int32) (vA S 0) (vA S 1) (vr S) (vA S 3) (vA S 4) (vs S) (vA S 7) ++ (wMS cI a (o + 6) (a o) (vh S) (vc S) (sumP S) (vA S 5) (vA S 6) (vA S 8) (vA S 9) (vA S 10) (vA S 11) (vA S 12) (vA S 2) my qu ++ (wMS cI a (o + 17) (a o) (vh T) (vc T) ri2 (vA T 5) (vA T 6) (vA T 8) (vA T 9) (vA T 10) (vA T 11) (vA T 12) (vA T 2) my2 qu2))) H locs := HW
      refine W.eq (g2 := F0 m 18 ls [.int (bI ((0 : Int32) ≤ z ∧ z ≤ (2 : Int32)))]) rfl ?_
      refine g_ifne_b (tgt := 27) hx hb dX5_join_18 (by decide) (fun c18 => ?_) (fun c18 => ?_)
      · obtain ⟨j, hj, rfl⟩ := wi_nat 2 (by decide) c18
        have ej : natI (nI j) = j := natI_nI (by omega)
        · refine lv_aload_n hx hb dX5_join_27 rfl (lv_at hl 0 rfl) ?_
          refine g_get CX HW in_X5_join_5 0 8 rfl rfl (Nat.le_of_ble_eq_true rfl) fl_X5_join_30 rfl dX5_join_28 ?_
          refine lv_iload_n hx hb dX5_join_31 rfl (lv_at hl 1 rfl) ?_
          refine g_callV CX HW hl.1 ([]) (wMS cI a (o + 17) (a o) (vh T) (vc T) ri2 (vA T 5) (vA T 6) (vA T 8) (vA T 9) (vA T 10) (vA T 11) (vA T 12) (vA T 2) my2 qu2) (c_X4_leave o (o + 6) S (0 : Int32) (sumP S) my qu k hM hQ hn8 (by omega) hU) rfl 6 rfl rfl gX5_join_X4_leave rfl ⟨rfl, hd_X4_leave⟩ ⟨rfl, rfl, (Nat.le_of_ble_eq_true rfl), (Nat.le_of_ble_eq_true rfl)⟩ ⟨(Nat.zero_le _), (Nat.zero_le _)⟩ rfl rfl (Nat.le_of_ble_eq_true rfl) dX5_join_32 (fun v w1 H locs hp HW => ?_)
          obtain ⟨my'_1, qu'_1, hM9_1, rfl, rfl⟩ := hp
          have HW : Hw D A s (wMo cI a o (0 : Int32) (vA S 0) (vA S 1) (vr S) (vA S 3) (vA S 4) (vs S) (vA S 7) ++ (wMS cI a (o + 6) (a o) (vh S) (vc S) (sumP S) (vA S 5) (vA S 6) (vA S 8) (vA S 9) (vA S 10) (vA S 11) (vA S 12) (vA S 2) my'_1 qu'_1 ++ (wMS cI a (o + 17) (a o) (vh T) (vc T) ri2 (vA T 5) (vA T 6) (vA T 8) (vA T 9) (vA T 10) (vA T 11) (vA T 12) (vA T 2) my2 qu2))) H locs := HW
          refine W.eq (g2 := F0 m 35 ls [.int (bI (inQ (vq S) k))]) rfl ?_
          have hj8 := hjq k (by omega) j (by omega)
          refine lv_pop hx hb dX5_join_35 rfl ?_
          refine lv_aload_n hx hb dX5_join_36 rfl (lv_at hl 0 rfl) ?_
          refine g_get CX HW in_X5_join_5 0 8 rfl rfl (Nat.le_of_ble_eq_true rfl) fl_X5_join_30 rfl dX5_join_37 ?_
          refine lv_iload_n hx hb dX5_join_40 rfl (lv_at hl 2 rfl) ?_
          refine lv_iload_n hx hb dX5_join_41 rfl (lv_at hl 1 rfl) ?_
          refine g_callV CX HW hl.1 ([]) (wMS cI a (o + 17) (a o) (vh T) (vc T) ri2 (vA T 5) (vA T 6) (vA T 8) (vA T 9) (vA T 10) (vA T 11) (vA T 12) (vA T 2) my2 qu2) (c_X4_in o (o + 6) S (0 : Int32) (sumP S) my'_1 qu'_1 j k (takeQ (vq S) k) (by omega) hM9_1 hj8) rfl 6 rfl rfl gX5_join_X4_in rfl ⟨rfl, hd_X4_in⟩ ⟨rfl, rfl, (Nat.le_of_ble_eq_true rfl), (Nat.le_of_ble_eq_true rfl)⟩ ⟨(Nat.zero_le _), (Nat.zero_le _)⟩ rfl rfl (Nat.le_of_ble_eq_true rfl) dX5_join_42 (fun v w1 H locs hp HW => ?_)
          obtain ⟨my'_2, qu'_2, hM9_2, rfl, rfl⟩ := hp
          have HW : Hw D A s (wMo cI a o (0 : Int32) (vA S 0) (vA S 1) (vr S) (vA S 3) (vA S 4) (vs S) (vA S 7) ++ (wMS cI a (o + 6) (a o) (vh S) (vc S) (sumP S) (vA S 5) (vA S 6) (vA S 8) (vA S 9) (vA S 10) (vA S 11) (vA S 12) (vA S 2) my'_2 qu'_2 ++ (wMS cI a (o + 17) (a o) (vh T) (vc T) ri2 (vA T 5) (vA T 6) (vA T 8) (vA T 9) (vA T 10) (vA T 11) (vA T 12) (vA T 2) my2 qu2))) H locs := HW
          refine W.eq (g2 := F0 m 45 ls []) rfl ?_
          refine lv_aload_n hx hb dX5_join_45 rfl (lv_at hl 0 rfl) ?_
          refine g_get CX HW in_X5_join_5 0 8 rfl rfl (Nat.le_of_ble_eq_true rfl) fl_X5_join_30 rfl dX5_join_46 ?_
          refine g_getN (host := "PommelTowsModel") CX HW in_X5_join_4 6 11 rfl rfl (Nat.le_of_ble_eq_true rfl) (by decide +kernel) rfl dX5_join_49 ?_
          refine lv_iload_n hx hb dX5_join_52 rfl (lv_at hl 2 rfl) ?_
          refine g_ald CX HW 15 (k := j) rfl rfl rfl (by omega) (Nat.le_of_ble_eq_true rfl) dX5_join_53 ?_
          refine g_top (y := (nI ((takeQ (vq S) k j).length + 1))) (by have h9 := (hM9_2 j (by omega)).1.1; rw [setQ_at, List.length_append] at h9; exact h9) ?_
          refine lv_iconst (v := 1) hx hb dX5_join_54 (by decide) ?_
          refine lv_isub hx hb dX5_join_55 ?_
          refine g_top (y := (nI (takeQ (vq S) k j).length)) (pk_sub (a := (takeQ (vq S) k j).length + 1) (b := 1) (by omega)) ?_
          have hk : kJoin S (nI k) (nI j) = 0 := by rw [kJoin]; rw [if_neg (fun h9 => h9 c10), if_neg (fun h9 => h9 c18)]
          exact g_iret CX HW rfl ⟨sJoin S (nI k) (nI j), _, my'_2, qu'_2, T, ri2, my2, qu2, ⟨fun h9 => absurd hk h9, fun _ => ⟨(by rw [ek, ej]), rfl⟩⟩, (by show RepM (setQ (takeQ (vq S) (natI (nI k))) (natI (nI j)) (takeQ (vq S) (natI (nI k)) (natI (nI j)) ++ [natI (nI k)])) _ _; rw [ek, ej]; exact hM9_2), rfl, by rw [hk] <;> rfl⟩ dX5_join_56
      · refine lv_aload_n hx hb dX5_join_21 rfl (lv_at hl 0 rfl) ?_
        refine lv_iconst (v := 1) hx hb dX5_join_22 (by decide) ?_
        refine g_callV CX HW hl.1 ([]) (wMS cI a (o + 6) (a o) (vh S) (vc S) (sumP S) (vA S 5) (vA S 6) (vA S 8) (vA S 9) (vA S 10) (vA S 11) (vA S 12) (vA S 2) my qu ++ (wMS cI a (o + 17) (a o) (vh T) (vc T) ri2 (vA T 5) (vA T 6) (vA T 8) (vA T 9) (vA T 10) (vA T 11) (vA T 12) (vA T 2) my2 qu2)) (c_X5_no o S (0 : Int32) (1 : Int32)) rfl 0 rfl rfl gX5_join_X5_no rfl ⟨rfl, hd_X5_no⟩ ⟨rfl, rfl, (Nat.le_of_ble_eq_true rfl), (Nat.le_of_ble_eq_true rfl)⟩ ⟨(Nat.zero_le _), (Nat.zero_le _)⟩ rfl rfl (Nat.le_of_ble_eq_true rfl) dX5_join_23 (fun v w1 H locs hp HW => ?_)
        obtain ⟨rfl, rfl⟩ := hp
        have HW : Hw D A s (wMo cI a o (1 : Int32) (vA S 0) (vA S 1) (vr S) (vA S 3) (vA S 4) (vs S) (vA S 7) ++ (wMS cI a (o + 6) (a o) (vh S) (vc S) (sumP S) (vA S 5) (vA S 6) (vA S 8) (vA S 9) (vA S 10) (vA S 11) (vA S 12) (vA S 2) my qu ++ (wMS cI a (o + 17) (a o) (vh T) (vc T) ri2 (vA T 5) (vA T 6) (vA T 8) (vA T 9) (vA T 10) (vA T 11) (vA T 12) (vA T 2) my2 qu2))) H locs := HW
        refine W.eq (g2 := F0 m 26 ls [.int (0 : Int32)]) rfl ?_
        have hk : kJoin S (nI k) z = 1 := by first | (rw [kJoin]; rw [if_pos c10]) | (rw [kJoin]; rw [if_neg (fun h9 => h9 c10), if_pos c18])
        exact g_iret CX HW rfl ⟨S, 0, my, qu, T, ri2, my2, qu2, ⟨fun _ => rfl, fun h9 => absurd (hk.symm.trans h9) (by decide)⟩, hM, rfl, by rw [hk]⟩ dX5_join_26

theorem hd_X5_leave : yX5_leave.cls ≠ "java/lang/invoke/MethodHandle" ∧ yX5_leave.cls ≠ "java/lang/invoke/VarHandle" ∧ (parseMethodDescriptor yX5_leave.desc).map (fun d => d.parameters.length) = some 1 := by decide +kernel
theorem fl_X5_leave_37 : Cond.fieldLink RX5 37 (TX5 0).1 (TX5 0).2.1 (TX5 0).2.2.1 ∈ wsX5_leave := by decide +kernel
theorem in_X5_leave_5 : ∀ x ∈ u_ws RX5 TX5 10, x ∈ wsX5_leave := by decide +kernel
theorem fl_X5_leave_30 : Cond.fieldLink RX5 30 (TX5 8).1 (TX5 8).2.1 (TX5 8).2.2.1 ∈ wsX5_leave := by decide +kernel
set_option maxRecDepth 100000 in
set_option maxHeartbeats 4000000 in
theorem c_X5_leave {l : Launch} {D : va_G} {cI cL : ClassId} {a : Nat → Nat} (o : Nat) (S : VS) (th : Int32) (my : Nat → Int32) (qu : Nat → Int32) (T : VS) (ri2 : Int32) (my2 : Nat → Int32) (qu2 : Nat → Int32) (x : Int32) (hI : Inv S) (hM : RepM (vq S) my qu) (hQ : Qk (vs S) (vq S)) (hU : QU (vq S)) (hh : vh S + 100 < 2 ^ 31) : Ct l yX5_leave wsX5_leave { frames := 2, cells := 0, slots := 0, locals := 48 } D (ty2 cI cL) [.ref (a o), .int x] (wMo cI a o th (vA S 0) (vA S 1) (vr S) (vA S 3) (vA S 4) (vs S) (vA S 7) ++ (wMS cI a (o + 6) (a o) (vh S) (vc S) (sumP S) (vA S 5) (vA S 6) (vA S 8) (vA S 9) (vA S 10) (vA S 11) (vA S 12) (vA S 2) my qu ++ (wMS cI a (o + 17) (a o) (vh T) (vc T) ri2 (vA T 5) (vA T 6) (vA T 8) (vA T 9) (vA T 10) (vA T 11) (vA T 12) (vA T 2) my2 qu2))) (fun v w' => ∃ (Z : VS) (r : Int32) (my' qu' : Nat → Int32) (T' : VS) (ri2' : Int32) (my2' qu2' : Nat → Int32), MOK (kLea S x) (bI (inQ (vq S) (natI x))) S (sLea S x) Z r ∧ RepM (vq Z) my' qu' ∧ v = some (.int r) ∧ w' = wMo cI a o (kLea S x) (vA Z 0) (vA Z 1) (vr Z) (vA Z 3) (vA Z 4) (vs Z) (vA Z 7) ++ (wMS cI a (o + 6) (a o) (vh Z) (vc Z) (sumP Z) (vA Z 5) (vA Z 6) (vA Z 8) (vA Z 9) (vA Z 10) (vA Z 11) (vA Z 12) (vA Z 2) my' qu' ++ (wMS cI a (o + 17) (a o) (vh T') (vc T') ri2' (vA T' 5) (vA T' 6) (vA T' 8) (vA T' 9) (vA T' 10) (vA T' 11) (vA T' 12) (vA T' 2) my2' qu2'))) 0 0 := by
  refine Ct.of (cc := cX5_leave) (maxL := 2) (ret := (some .boolean)) (by decide) rfl (Nat.le_of_ble_eq_true rfl) ?_
  intro p e s m below meth c A ls CX hin HW hl
  obtain ⟨hx, hb, hml, hr, hown, hts, hK, hA, hlk⟩ := id CX
  have hl : lv_has ls 2 [(0, .ref (a o)), (1, .int x)] := hl
  have hn6 := hI.1
  have hn8 := hI.2.1
  refine lv_aload_n hx hb dX5_leave_0 rfl (lv_at hl 0 rfl) ?_
  refine lv_iconst (v := 0) hx hb dX5_leave_1 (by decide) ?_
  refine g_put CX HW in_X5_leave_5 tyX5 tyX5_ok nmX5 0 0 rfl rfl (Nat.le_of_ble_eq_true rfl) fl_X5_leave_37 rfl rfl rfl (Nat.le_of_ble_eq_true rfl) dX5_leave_2 (fun H locs HW => ?_)
  have HW : Hw D A s (wMo cI a o (0 : Int32) (vA S 0) (vA S 1) (vr S) (vA S 3) (vA S 4) (vs S) (vA S 7) ++ (wMS cI a (o + 6) (a o) (vh S) (vc S) (sumP S) (vA S 5) (vA S 6) (vA S 8) (vA S 9) (vA S 10) (vA S 11) (vA S 12) (vA S 2) my qu ++ (wMS cI a (o + 17) (a o) (vh T) (vc T) ri2 (vA T 5) (vA T 6) (vA T 8) (vA T 9) (vA T 10) (vA T 11) (vA T 12) (vA T 2) my2 qu2))) H locs := HW
  refine lv_aload_n hx hb dX5_leave_5 rfl (lv_at hl 0 rfl) ?_
  refine lv_iload_n hx hb dX5_leave_6 rfl (lv_at hl 1 rfl) ?_
  refine g_callV CX HW hl.1 ([]) (wMS cI a (o + 6) (a o) (vh S) (vc S) (sumP S) (vA S 5) (vA S 6) (vA S 8) (vA S 9) (vA S 10) (vA S 11) (vA S 12) (vA S 2) my qu ++ (wMS cI a (o + 17) (a o) (vh T) (vc T) ri2 (vA T 5) (vA T 6) (vA T 8) (vA T 9) (vA T 10) (vA T 11) (vA T 12) (vA T 2) my2 qu2)) (c_X5_isSkier o S (0 : Int32) x (by omega)) rfl 0 rfl rfl gX5_leave_X5_isSkier rfl ⟨rfl, hd_X5_isSkier⟩ ⟨rfl, rfl, (Nat.le_of_ble_eq_true rfl), (Nat.le_of_ble_eq_true rfl)⟩ ⟨(Nat.zero_le _), (Nat.zero_le _)⟩ rfl rfl (Nat.le_of_ble_eq_true rfl) dX5_leave_7 (fun v w1 H locs hp HW => ?_)
  obtain ⟨rfl, rfl⟩ := hp
  have HW : Hw D A s (wMo cI a o (0 : Int32) (vA S 0) (vA S 1) (vr S) (vA S 3) (vA S 4) (vs S) (vA S 7) ++ (wMS cI a (o + 6) (a o) (vh S) (vc S) (sumP S) (vA S 5) (vA S 6) (vA S 8) (vA S 9) (vA S 10) (vA S 11) (vA S 12) (vA S 2) my qu ++ (wMS cI a (o + 17) (a o) (vh T) (vc T) ri2 (vA T 5) (vA T 6) (vA T 8) (vA T 9) (vA T 10) (vA T 11) (vA T 12) (vA T 2) my2 qu2))) H locs := HW
  refine W.eq (g2 := F0 m 10 ls [.int (bI ((0 : Int32) ≤ x ∧ x < nI (vs S)))]) rfl ?_
  refine g_ifeq_b (tgt := 24) hx hb dX5_leave_10 (by decide) (fun c10 => ?_) (fun c10 => ?_)
  · refine lv_aload_n hx hb dX5_leave_24 rfl (lv_at hl 0 rfl) ?_
    refine lv_iconst (v := 1) hx hb dX5_leave_25 (by decide) ?_
    refine g_callV CX HW hl.1 ([]) (wMS cI a (o + 6) (a o) (vh S) (vc S) (sumP S) (vA S 5) (vA S 6) (vA S 8) (vA S 9) (vA S 10) (vA S 11) (vA S 12) (vA S 2) my qu ++ (wMS cI a (o + 17) (a o) (vh T) (vc T) ri2 (vA T 5) (vA T 6) (vA T 8) (vA T 9) (vA T 10) (vA T 11) (vA T 12) (vA T 2) my2 qu2)) (c_X5_no o S (0 : Int32) (1 : Int32)) rfl 0 rfl rfl gX5_leave_X5_no rfl ⟨rfl, hd_X5_no⟩ ⟨rfl, rfl, (Nat.le_of_ble_eq_true rfl), (Nat.le_of_ble_eq_true rfl)⟩ ⟨(Nat.zero_le _), (Nat.zero_le _)⟩ rfl rfl (Nat.le_of_ble_eq_true rfl) dX5_leave_26 (fun v w1 H locs hp HW => ?_)
    obtain ⟨rfl, rfl⟩ := hp
    have HW : Hw D A s (wMo cI a o (1 : Int32) (vA S 0) (vA S 1) (vr S) (vA S 3) (vA S 4) (vs S) (vA S 7) ++ (wMS cI a (o + 6) (a o) (vh S) (vc S) (sumP S) (vA S 5) (vA S 6) (vA S 8) (vA S 9) (vA S 10) (vA S 11) (vA S 12) (vA S 2) my qu ++ (wMS cI a (o + 17) (a o) (vh T) (vc T) ri2 (vA T 5) (vA T 6) (vA T 8) (vA T 9) (vA T 10) (vA T 11) (vA T 12) (vA T 2) my2 qu2))) H locs := HW
    refine W.eq (g2 := F0 m 29 ls [.int (0 : Int32)]) rfl ?_
    refine lv_if_le (tgt := 36) hx hb dX5_leave_29 (by decide) (fun c29 => ?_) (fun c29 => ?_)
    · refine lv_iconst (v := 0) hx hb dX5_leave_36 (by decide) ?_
      have hk : kLea S x = 1 := by first | (rw [kLea]; rw [if_pos c10])
      exact g_zret CX HW rfl (Or.inl rfl) ⟨S, 0, my, qu, T, ri2, my2, qu2, ⟨fun _ => rfl, fun h9 => absurd (hk.symm.trans h9) (by decide)⟩, hM, rfl, by rw [hk]⟩ dX5_leave_37
    · exact absurd c29 (by decide)
  · obtain ⟨k, hk, rfl⟩ := has_nat (by omega) c10
    have ek : natI (nI k) = k := natI_nI (by omega)
    · refine lv_aload_n hx hb dX5_leave_13 rfl (lv_at hl 0 rfl) ?_
      refine g_get CX HW in_X5_leave_5 0 8 rfl rfl (Nat.le_of_ble_eq_true rfl) fl_X5_leave_30 rfl dX5_leave_14 ?_
      refine lv_iload_n hx hb dX5_leave_17 rfl (lv_at hl 1 rfl) ?_
      refine g_callV CX HW hl.1 ([]) (wMS cI a (o + 17) (a o) (vh T) (vc T) ri2 (vA T 5) (vA T 6) (vA T 8) (vA T 9) (vA T 10) (vA T 11) (vA T 12) (vA T 2) my2 qu2) (c_X4_leave o (o + 6) S (0 : Int32) (sumP S) my qu k hM hQ hn8 (by omega) hU) rfl 6 rfl rfl gX5_leave_X4_leave rfl ⟨rfl, hd_X4_leave⟩ ⟨rfl, rfl, (Nat.le_of_ble_eq_true rfl), (Nat.le_of_ble_eq_true rfl)⟩ ⟨(Nat.zero_le _), (Nat.zero_le _)⟩ rfl rfl (Nat.le_of_ble_eq_true rfl) dX5_leave_18 (fun v w1 H locs hp HW => ?_)
      obtain ⟨my'_1, qu'_1, hM9_1, rfl, rfl⟩ := hp
      have HW : Hw D A s (wMo cI a o (0 : Int32) (vA S 0) (vA S 1) (vr S) (vA S 3) (vA S 4) (vs S) (vA S 7) ++ (wMS cI a (o + 6) (a o) (vh S) (vc S) (sumP S) (vA S 5) (vA S 6) (vA S 8) (vA S 9) (vA S 10) (vA S 11) (vA S 12) (vA S 2) my'_1 qu'_1 ++ (wMS cI a (o + 17) (a o) (vh T) (vc T) ri2 (vA T 5) (vA T 6) (vA T 8) (vA T 9) (vA T 10) (vA T 11) (vA T 12) (vA T 2) my2 qu2))) H locs := HW
      refine W.eq (g2 := F0 m 21 ls [.int (bI (inQ (vq S) k))]) rfl ?_
      refine lv_goto (tgt := 37) hx hb dX5_leave_21 (by decide) ?_
      have hk : kLea S (nI k) = 0 := by rw [kLea]; rw [if_neg (fun h9 => h9 c10)]
      exact g_zret CX HW rfl (bI_01 _) ⟨sLea S (nI k), _, my'_1, qu'_1, T, ri2, my2, qu2, ⟨fun h9 => absurd hk h9, fun _ => ⟨(by rw [ek]), rfl⟩⟩, (by show RepM (takeQ (vq S) (natI (nI k))) _ _; rw [ek]; exact hM9_1), rfl, by rw [hk] <;> rfl⟩ dX5_leave_37

theorem hd_X5_about : yX5_about.cls ≠ "java/lang/invoke/MethodHandle" ∧ yX5_about.cls ≠ "java/lang/invoke/VarHandle" ∧ (parseMethodDescriptor yX5_about.desc).map (fun d => d.parameters.length) = some 2 := by decide +kernel
theorem fl_X5_about_37 : Cond.fieldLink RX5 37 (TX5 0).1 (TX5 0).2.1 (TX5 0).2.2.1 ∈ wsX5_about := by decide +kernel
theorem in_X5_about_5 : ∀ x ∈ u_ws RX5 TX5 10, x ∈ wsX5_about := by decide +kernel
set_option maxRecDepth 100000 in
set_option maxHeartbeats 4000000 in
theorem c_X5_about {l : Launch} {D : va_G} {cI cL : ClassId} {a : Nat → Nat} (o : Nat) (S : VS) (th : Int32) (my : Nat → Int32) (qu : Nat → Int32) (T : VS) (ri2 : Int32) (my2 : Nat → Int32) (qu2 : Nat → Int32) (x : Int32) (z : Int32) (hI : Inv S) (hM : RepM (vq S) my qu) (hQ : Qk (vs S) (vq S)) (hU : QU (vq S)) (hh : vh S + 100 < 2 ^ 31) : Ct l yX5_about wsX5_about { frames := 2, cells := 0, slots := 0, locals := 43 } D (ty2 cI cL) [.ref (a o), .int x, .int z] (wMo cI a o th (vA S 0) (vA S 1) (vr S) (vA S 3) (vA S 4) (vs S) (vA S 7) ++ (wMS cI a (o + 6) (a o) (vh S) (vc S) (sumP S) (vA S 5) (vA S 6) (vA S 8) (vA S 9) (vA S 10) (vA S 11) (vA S 12) (vA S 2) my qu ++ (wMS cI a (o + 17) (a o) (vh T) (vc T) ri2 (vA T 5) (vA T 6) (vA T 8) (vA T 9) (vA T 10) (vA T 11) (vA T 12) (vA T 2) my2 qu2))) (fun v w' => ∃ (Z : VS) (r : Int32) (my' qu' : Nat → Int32) (T' : VS) (ri2' : Int32) (my2' qu2' : Nat → Int32), MOK (kAbo S x z) (figR (vA S 3) (vA S 4) (vA S 5) (vA S 6) (natI x) (natI z)) S (S) Z r ∧ RepM (vq Z) my' qu' ∧ v = some (.int r) ∧ w' = wMo cI a o (kAbo S x z) (vA Z 0) (vA Z 1) (vr Z) (vA Z 3) (vA Z 4) (vs Z) (vA Z 7) ++ (wMS cI a (o + 6) (a o) (vh Z) (vc Z) (sumP Z) (vA Z 5) (vA Z 6) (vA Z 8) (vA Z 9) (vA Z 10) (vA Z 11) (vA Z 12) (vA Z 2) my' qu' ++ (wMS cI a (o + 17) (a o) (vh T') (vc T') ri2' (vA T' 5) (vA T' 6) (vA T' 8) (vA T' 9) (vA T' 10) (vA T' 11) (vA T' 12) (vA T' 2) my2' qu2'))) 0 0 := by
  refine Ct.of (cc := cX5_about) (maxL := 3) (ret := (some .int)) (by decide) rfl (Nat.le_of_ble_eq_true rfl) ?_
  intro p e s m below meth c A ls CX hin HW hl
  obtain ⟨hx, hb, hml, hr, hown, hts, hK, hA, hlk⟩ := id CX
  have hl : lv_has ls 3 [(0, .ref (a o)), (1, .int x), (2, .int z)] := hl
  have hn6 := hI.1
  have hn8 := hI.2.1
  refine lv_aload_n hx hb dX5_about_0 rfl (lv_at hl 0 rfl) ?_
  refine lv_iconst (v := 0) hx hb dX5_about_1 (by decide) ?_
  refine g_put CX HW in_X5_about_5 tyX5 tyX5_ok nmX5 0 0 rfl rfl (Nat.le_of_ble_eq_true rfl) fl_X5_about_37 rfl rfl rfl (Nat.le_of_ble_eq_true rfl) dX5_about_2 (fun H locs HW => ?_)
  have HW : Hw D A s (wMo cI a o (0 : Int32) (vA S 0) (vA S 1) (vr S) (vA S 3) (vA S 4) (vs S) (vA S 7) ++ (wMS cI a (o + 6) (a o) (vh S) (vc S) (sumP S) (vA S 5) (vA S 6) (vA S 8) (vA S 9) (vA S 10) (vA S 11) (vA S 12) (vA S 2) my qu ++ (wMS cI a (o + 17) (a o) (vh T) (vc T) ri2 (vA T 5) (vA T 6) (vA T 8) (vA T 9) (vA T 10) (vA T 11) (vA T 12) (vA T 2) my2 qu2))) H locs := HW
  refine lv_aload_n hx hb dX5_about_5 rfl (lv_at hl 0 rfl) ?_
  refine lv_iload_n hx hb dX5_about_6 rfl (lv_at hl 1 rfl) ?_
  refine g_callV CX HW hl.1 ([]) (wMS cI a (o + 6) (a o) (vh S) (vc S) (sumP S) (vA S 5) (vA S 6) (vA S 8) (vA S 9) (vA S 10) (vA S 11) (vA S 12) (vA S 2) my qu ++ (wMS cI a (o + 17) (a o) (vh T) (vc T) ri2 (vA T 5) (vA T 6) (vA T 8) (vA T 9) (vA T 10) (vA T 11) (vA T 12) (vA T 2) my2 qu2)) (c_X5_isRun o S (0 : Int32) x (by omega)) rfl 0 rfl rfl gX5_about_X5_isRun rfl ⟨rfl, hd_X5_isRun⟩ ⟨rfl, rfl, (Nat.le_of_ble_eq_true rfl), (Nat.le_of_ble_eq_true rfl)⟩ ⟨(Nat.zero_le _), (Nat.zero_le _)⟩ rfl rfl (Nat.le_of_ble_eq_true rfl) dX5_about_7 (fun v w1 H locs hp HW => ?_)
  obtain ⟨rfl, rfl⟩ := hp
  have HW : Hw D A s (wMo cI a o (0 : Int32) (vA S 0) (vA S 1) (vr S) (vA S 3) (vA S 4) (vs S) (vA S 7) ++ (wMS cI a (o + 6) (a o) (vh S) (vc S) (sumP S) (vA S 5) (vA S 6) (vA S 8) (vA S 9) (vA S 10) (vA S 11) (vA S 12) (vA S 2) my qu ++ (wMS cI a (o + 17) (a o) (vh T) (vc T) ri2 (vA T 5) (vA T 6) (vA T 8) (vA T 9) (vA T 10) (vA T 11) (vA T 12) (vA T 2) my2 qu2))) H locs := HW
  refine W.eq (g2 := F0 m 10 ls [.int (bI ((0 : Int32) ≤ x ∧ x < nI (vr S)))]) rfl ?_
  refine g_ifeq_b (tgt := 31) hx hb dX5_about_10 (by decide) (fun c10 => ?_) (fun c10 => ?_)
  · refine lv_aload_n hx hb dX5_about_31 rfl (lv_at hl 0 rfl) ?_
    refine lv_iconst (v := 1) hx hb dX5_about_32 (by decide) ?_
    refine g_callV CX HW hl.1 ([]) (wMS cI a (o + 6) (a o) (vh S) (vc S) (sumP S) (vA S 5) (vA S 6) (vA S 8) (vA S 9) (vA S 10) (vA S 11) (vA S 12) (vA S 2) my qu ++ (wMS cI a (o + 17) (a o) (vh T) (vc T) ri2 (vA T 5) (vA T 6) (vA T 8) (vA T 9) (vA T 10) (vA T 11) (vA T 12) (vA T 2) my2 qu2)) (c_X5_no o S (0 : Int32) (1 : Int32)) rfl 0 rfl rfl gX5_about_X5_no rfl ⟨rfl, hd_X5_no⟩ ⟨rfl, rfl, (Nat.le_of_ble_eq_true rfl), (Nat.le_of_ble_eq_true rfl)⟩ ⟨(Nat.zero_le _), (Nat.zero_le _)⟩ rfl rfl (Nat.le_of_ble_eq_true rfl) dX5_about_33 (fun v w1 H locs hp HW => ?_)
    obtain ⟨rfl, rfl⟩ := hp
    have HW : Hw D A s (wMo cI a o (1 : Int32) (vA S 0) (vA S 1) (vr S) (vA S 3) (vA S 4) (vs S) (vA S 7) ++ (wMS cI a (o + 6) (a o) (vh S) (vc S) (sumP S) (vA S 5) (vA S 6) (vA S 8) (vA S 9) (vA S 10) (vA S 11) (vA S 12) (vA S 2) my qu ++ (wMS cI a (o + 17) (a o) (vh T) (vc T) ri2 (vA T 5) (vA T 6) (vA T 8) (vA T 9) (vA T 10) (vA T 11) (vA T 12) (vA T 2) my2 qu2))) H locs := HW
    refine W.eq (g2 := F0 m 36 ls [.int (0 : Int32)]) rfl ?_
    have hk : kAbo S x z = 1 := by first | (rw [kAbo]; rw [if_pos c10]) | (rw [kAbo]; rw [if_neg (fun h9 => h9 c10), if_pos c19])
    exact g_iret CX HW rfl ⟨S, 0, my, qu, T, ri2, my2, qu2, ⟨fun _ => rfl, fun h9 => absurd (hk.symm.trans h9) (by decide)⟩, hM, rfl, by rw [hk]⟩ dX5_about_36
  · obtain ⟨k, hk, rfl⟩ := has_nat (by omega) c10
    have ek : natI (nI k) = k := natI_nI (by omega)
    · refine lv_iload_n hx hb dX5_about_13 rfl (lv_at hl 2 rfl) ?_
      refine lv_iconst (v := 0) hx hb dX5_about_14 (by decide) ?_
      refine lv_iconst (v := 4) hx hb dX5_about_15 (by decide) ?_
      refine g_callS CX HW hl.1 ([]) (wMo cI a o (0 : Int32) (vA S 0) (vA S 1) (vr S) (vA S 3) (vA S 4) (vs S) (vA S 7) ++ (wMS cI a (o + 6) (a o) (vh S) (vc S) (sumP S) (vA S 5) (vA S 6) (vA S 8) (vA S 9) (vA S 10) (vA S 11) (vA S 12) (vA S 2) my qu ++ (wMS cI a (o + 17) (a o) (vh T) (vc T) ri2 (vA T 5) (vA T 6) (vA T 8) (vA T 9) (vA T 10) (vA T 11) (vA T 12) (vA T 2) my2 qu2))) (c_X5_isIn z (0 : Int32) (4 : Int32)) rfl gX5_about_X5_isIn rfl hd_X5_isIn ⟨rfl, rfl, (Nat.le_of_ble_eq_true rfl), (Nat.le_of_ble_eq_true rfl)⟩ ⟨(Nat.zero_le _), (Nat.zero_le _)⟩ rfl rfl (Nat.le_of_ble_eq_true rfl) dX5_about_16 (fun v w1 H locs hp HW => ?_)
      obtain ⟨rfl, rfl⟩ := hp
      have HW : Hw D A s (wMo cI a o (0 : Int32) (vA S 0) (vA S 1) (vr S) (vA S 3) (vA S 4) (vs S) (vA S 7) ++ (wMS cI a (o + 6) (a o) (vh S) (vc S) (sumP S) (vA S 5) (vA S 6) (vA S 8) (vA S 9) (vA S 10) (vA S 11) (vA S 12) (vA S 2) my qu ++ (wMS cI a (o + 17) (a o) (vh T) (vc T) ri2 (vA T 5) (vA T 6) (vA T 8) (vA T 9) (vA T 10) (vA T 11) (vA T 12) (vA T 2) my2 qu2))) H locs := HW
      refine W.eq (g2 := F0 m 19 ls [.int (bI ((0 : Int32) ≤ z ∧ z ≤ (4 : Int32)))]) rfl ?_
      refine g_ifeq_b (tgt := 31) hx hb dX5_about_19 (by decide) (fun c19 => ?_) (fun c19 => ?_)
      · refine lv_aload_n hx hb dX5_about_31 rfl (lv_at hl 0 rfl) ?_
        refine lv_iconst (v := 1) hx hb dX5_about_32 (by decide) ?_
        refine g_callV CX HW hl.1 ([]) (wMS cI a (o + 6) (a o) (vh S) (vc S) (sumP S) (vA S 5) (vA S 6) (vA S 8) (vA S 9) (vA S 10) (vA S 11) (vA S 12) (vA S 2) my qu ++ (wMS cI a (o + 17) (a o) (vh T) (vc T) ri2 (vA T 5) (vA T 6) (vA T 8) (vA T 9) (vA T 10) (vA T 11) (vA T 12) (vA T 2) my2 qu2)) (c_X5_no o S (0 : Int32) (1 : Int32)) rfl 0 rfl rfl gX5_about_X5_no rfl ⟨rfl, hd_X5_no⟩ ⟨rfl, rfl, (Nat.le_of_ble_eq_true rfl), (Nat.le_of_ble_eq_true rfl)⟩ ⟨(Nat.zero_le _), (Nat.zero_le _)⟩ rfl rfl (Nat.le_of_ble_eq_true rfl) dX5_about_33 (fun v w1 H locs hp HW => ?_)
        obtain ⟨rfl, rfl⟩ := hp
        have HW : Hw D A s (wMo cI a o (1 : Int32) (vA S 0) (vA S 1) (vr S) (vA S 3) (vA S 4) (vs S) (vA S 7) ++ (wMS cI a (o + 6) (a o) (vh S) (vc S) (sumP S) (vA S 5) (vA S 6) (vA S 8) (vA S 9) (vA S 10) (vA S 11) (vA S 12) (vA S 2) my qu ++ (wMS cI a (o + 17) (a o) (vh T) (vc T) ri2 (vA T 5) (vA T 6) (vA T 8) (vA T 9) (vA T 10) (vA T 11) (vA T 12) (vA T 2) my2 qu2))) H locs := HW
        refine W.eq (g2 := F0 m 36 ls [.int (0 : Int32)]) rfl ?_
        have hk : kAbo S (nI k) z = 1 := by first | (rw [kAbo]; rw [if_pos c10]) | (rw [kAbo]; rw [if_neg (fun h9 => h9 c10), if_pos c19])
        exact g_iret CX HW rfl ⟨S, 0, my, qu, T, ri2, my2, qu2, ⟨fun _ => rfl, fun h9 => absurd (hk.symm.trans h9) (by decide)⟩, hM, rfl, by rw [hk]⟩ dX5_about_36
      · obtain ⟨j, hj, rfl⟩ := wi_nat 4 (by decide) c19
        have ej : natI (nI j) = j := natI_nI (by omega)
        · refine lv_aload_n hx hb dX5_about_22 rfl (lv_at hl 0 rfl) ?_
          refine lv_iload_n hx hb dX5_about_23 rfl (lv_at hl 1 rfl) ?_
          refine lv_iload_n hx hb dX5_about_24 rfl (lv_at hl 2 rfl) ?_
          refine g_callV CX HW hl.1 ([]) ([]) (c_X5_runTold o S (0 : Int32) my qu T ri2 my2 qu2 k j (by omega) (by omega)) rfl 0 rfl rfl gX5_about_X5_runTold rfl ⟨rfl, hd_X5_runTold⟩ ⟨rfl, rfl, (Nat.le_of_ble_eq_true rfl), (Nat.le_of_ble_eq_true rfl)⟩ ⟨(Nat.zero_le _), (Nat.zero_le _)⟩ rfl rfl (Nat.le_of_ble_eq_true rfl) dX5_about_25 (fun v w1 H locs hp HW => ?_)
          obtain ⟨rfl, rfl⟩ := hp
          have HW : Hw D A s (wMo cI a o (0 : Int32) (vA S 0) (vA S 1) (vr S) (vA S 3) (vA S 4) (vs S) (vA S 7) ++ (wMS cI a (o + 6) (a o) (vh S) (vc S) (sumP S) (vA S 5) (vA S 6) (vA S 8) (vA S 9) (vA S 10) (vA S 11) (vA S 12) (vA S 2) my qu ++ (wMS cI a (o + 17) (a o) (vh T) (vc T) ri2 (vA T 5) (vA T 6) (vA T 8) (vA T 9) (vA T 10) (vA T 11) (vA T 12) (vA T 2) my2 qu2))) H locs := HW
          refine W.eq (g2 := F0 m 28 ls [.int (figR (vA S 3) (vA S 4) (vA S 5) (vA S 6) k j)]) rfl ?_
          refine lv_goto (tgt := 36) hx hb dX5_about_28 (by decide) ?_
          have hk : kAbo S (nI k) (nI j) = 0 := by rw [kAbo]; rw [if_neg (fun h9 => h9 c10), if_neg (fun h9 => h9 c19)]
          exact g_iret CX HW rfl ⟨S, _, my, qu, T, ri2, my2, qu2, ⟨fun h9 => absurd hk h9, fun _ => ⟨(by rw [ek, ej]), rfl⟩⟩, hM, rfl, by rw [hk]⟩ dX5_about_36

theorem hd_X5_told : yX5_told.cls ≠ "java/lang/invoke/MethodHandle" ∧ yX5_told.cls ≠ "java/lang/invoke/VarHandle" ∧ (parseMethodDescriptor yX5_told.desc).map (fun d => d.parameters.length) = some 2 := by decide +kernel
theorem fl_X5_told_37 : Cond.fieldLink RX5 37 (TX5 0).1 (TX5 0).2.1 (TX5 0).2.2.1 ∈ wsX5_told := by decide +kernel
theorem in_X5_told_5 : ∀ x ∈ u_ws RX5 TX5 10, x ∈ wsX5_told := by decide +kernel
set_option maxRecDepth 100000 in
set_option maxHeartbeats 4000000 in
theorem c_X5_told {l : Launch} {D : va_G} {cI cL : ClassId} {a : Nat → Nat} (o : Nat) (S : VS) (th : Int32) (my : Nat → Int32) (qu : Nat → Int32) (T : VS) (ri2 : Int32) (my2 : Nat → Int32) (qu2 : Nat → Int32) (x : Int32) (z : Int32) (hI : Inv S) (hM : RepM (vq S) my qu) (hQ : Qk (vs S) (vq S)) (hU : QU (vq S)) (hh : vh S + 100 < 2 ^ 31) : Ct l yX5_told wsX5_told { frames := 2, cells := 0, slots := 0, locals := 45 } D (ty2 cI cL) [.ref (a o), .int x, .int z] (wMo cI a o th (vA S 0) (vA S 1) (vr S) (vA S 3) (vA S 4) (vs S) (vA S 7) ++ (wMS cI a (o + 6) (a o) (vh S) (vc S) (sumP S) (vA S 5) (vA S 6) (vA S 8) (vA S 9) (vA S 10) (vA S 11) (vA S 12) (vA S 2) my qu ++ (wMS cI a (o + 17) (a o) (vh T) (vc T) ri2 (vA T 5) (vA T 6) (vA T 8) (vA T 9) (vA T 10) (vA T 11) (vA T 12) (vA T 2) my2 qu2))) (fun v w' => ∃ (Z : VS) (r : Int32) (my' qu' : Nat → Int32) (T' : VS) (ri2' : Int32) (my2' qu2' : Nat → Int32), MOK (kTol S x z) (figS (vA S 7) (vA S 8) (vA S 9) (vA S 10) (vA S 11) (vA S 12) (towQ (vq S)) (natI x) (natI z)) S (S) Z r ∧ RepM (vq Z) my' qu' ∧ v = some (.int r) ∧ w' = wMo cI a o (kTol S x z) (vA Z 0) (vA Z 1) (vr Z) (vA Z 3) (vA Z 4) (vs Z) (vA Z 7) ++ (wMS cI a (o + 6) (a o) (vh Z) (vc Z) (sumP Z) (vA Z 5) (vA Z 6) (vA Z 8) (vA Z 9) (vA Z 10) (vA Z 11) (vA Z 12) (vA Z 2) my' qu' ++ (wMS cI a (o + 17) (a o) (vh T') (vc T') ri2' (vA T' 5) (vA T' 6) (vA T' 8) (vA T' 9) (vA T' 10) (vA T' 11) (vA T' 12) (vA T' 2) my2' qu2'))) 0 0 := by
  refine Ct.of (cc := cX5_told) (maxL := 3) (ret := (some .int)) (by decide) rfl (Nat.le_of_ble_eq_true rfl) ?_
  intro p e s m below meth c A ls CX hin HW hl
  obtain ⟨hx, hb, hml, hr, hown, hts, hK, hA, hlk⟩ := id CX
  have hl : lv_has ls 3 [(0, .ref (a o)), (1, .int x), (2, .int z)] := hl
  have hn6 := hI.1
  have hn8 := hI.2.1
  refine lv_aload_n hx hb dX5_told_0 rfl (lv_at hl 0 rfl) ?_
  refine lv_iconst (v := 0) hx hb dX5_told_1 (by decide) ?_
  refine g_put CX HW in_X5_told_5 tyX5 tyX5_ok nmX5 0 0 rfl rfl (Nat.le_of_ble_eq_true rfl) fl_X5_told_37 rfl rfl rfl (Nat.le_of_ble_eq_true rfl) dX5_told_2 (fun H locs HW => ?_)
  have HW : Hw D A s (wMo cI a o (0 : Int32) (vA S 0) (vA S 1) (vr S) (vA S 3) (vA S 4) (vs S) (vA S 7) ++ (wMS cI a (o + 6) (a o) (vh S) (vc S) (sumP S) (vA S 5) (vA S 6) (vA S 8) (vA S 9) (vA S 10) (vA S 11) (vA S 12) (vA S 2) my qu ++ (wMS cI a (o + 17) (a o) (vh T) (vc T) ri2 (vA T 5) (vA T 6) (vA T 8) (vA T 9) (vA T 10) (vA T 11) (vA T 12) (vA T 2) my2 qu2))) H locs := HW
  refine lv_aload_n hx hb dX5_told_5 rfl (lv_at hl 0 rfl) ?_
  refine lv_iload_n hx hb dX5_told_6 rfl (lv_at hl 1 rfl) ?_
  refine g_callV CX HW hl.1 ([]) (wMS cI a (o + 6) (a o) (vh S) (vc S) (sumP S) (vA S 5) (vA S 6) (vA S 8) (vA S 9) (vA S 10) (vA S 11) (vA S 12) (vA S 2) my qu ++ (wMS cI a (o + 17) (a o) (vh T) (vc T) ri2 (vA T 5) (vA T 6) (vA T 8) (vA T 9) (vA T 10) (vA T 11) (vA T 12) (vA T 2) my2 qu2)) (c_X5_isSkier o S (0 : Int32) x (by omega)) rfl 0 rfl rfl gX5_told_X5_isSkier rfl ⟨rfl, hd_X5_isSkier⟩ ⟨rfl, rfl, (Nat.le_of_ble_eq_true rfl), (Nat.le_of_ble_eq_true rfl)⟩ ⟨(Nat.zero_le _), (Nat.zero_le _)⟩ rfl rfl (Nat.le_of_ble_eq_true rfl) dX5_told_7 (fun v w1 H locs hp HW => ?_)
  obtain ⟨rfl, rfl⟩ := hp
  have HW : Hw D A s (wMo cI a o (0 : Int32) (vA S 0) (vA S 1) (vr S) (vA S 3) (vA S 4) (vs S) (vA S 7) ++ (wMS cI a (o + 6) (a o) (vh S) (vc S) (sumP S) (vA S 5) (vA S 6) (vA S 8) (vA S 9) (vA S 10) (vA S 11) (vA S 12) (vA S 2) my qu ++ (wMS cI a (o + 17) (a o) (vh T) (vc T) ri2 (vA T 5) (vA T 6) (vA T 8) (vA T 9) (vA T 10) (vA T 11) (vA T 12) (vA T 2) my2 qu2))) H locs := HW
  refine W.eq (g2 := F0 m 10 ls [.int (bI ((0 : Int32) ≤ x ∧ x < nI (vs S)))]) rfl ?_
  refine g_ifeq_b (tgt := 32) hx hb dX5_told_10 (by decide) (fun c10 => ?_) (fun c10 => ?_)
  · refine lv_aload_n hx hb dX5_told_32 rfl (lv_at hl 0 rfl) ?_
    refine lv_iconst (v := 1) hx hb dX5_told_33 (by decide) ?_
    refine g_callV CX HW hl.1 ([]) (wMS cI a (o + 6) (a o) (vh S) (vc S) (sumP S) (vA S 5) (vA S 6) (vA S 8) (vA S 9) (vA S 10) (vA S 11) (vA S 12) (vA S 2) my qu ++ (wMS cI a (o + 17) (a o) (vh T) (vc T) ri2 (vA T 5) (vA T 6) (vA T 8) (vA T 9) (vA T 10) (vA T 11) (vA T 12) (vA T 2) my2 qu2)) (c_X5_no o S (0 : Int32) (1 : Int32)) rfl 0 rfl rfl gX5_told_X5_no rfl ⟨rfl, hd_X5_no⟩ ⟨rfl, rfl, (Nat.le_of_ble_eq_true rfl), (Nat.le_of_ble_eq_true rfl)⟩ ⟨(Nat.zero_le _), (Nat.zero_le _)⟩ rfl rfl (Nat.le_of_ble_eq_true rfl) dX5_told_34 (fun v w1 H locs hp HW => ?_)
    obtain ⟨rfl, rfl⟩ := hp
    have HW : Hw D A s (wMo cI a o (1 : Int32) (vA S 0) (vA S 1) (vr S) (vA S 3) (vA S 4) (vs S) (vA S 7) ++ (wMS cI a (o + 6) (a o) (vh S) (vc S) (sumP S) (vA S 5) (vA S 6) (vA S 8) (vA S 9) (vA S 10) (vA S 11) (vA S 12) (vA S 2) my qu ++ (wMS cI a (o + 17) (a o) (vh T) (vc T) ri2 (vA T 5) (vA T 6) (vA T 8) (vA T 9) (vA T 10) (vA T 11) (vA T 12) (vA T 2) my2 qu2))) H locs := HW
    refine W.eq (g2 := F0 m 37 ls [.int (0 : Int32)]) rfl ?_
    have hk : kTol S x z = 1 := by first | (rw [kTol]; rw [if_pos c10]) | (rw [kTol]; rw [if_neg (fun h9 => h9 c10), if_pos c20])
    exact g_iret CX HW rfl ⟨S, 0, my, qu, T, ri2, my2, qu2, ⟨fun _ => rfl, fun h9 => absurd (hk.symm.trans h9) (by decide)⟩, hM, rfl, by rw [hk]⟩ dX5_told_37
  · obtain ⟨k, hk, rfl⟩ := has_nat (by omega) c10
    have ek : natI (nI k) = k := natI_nI (by omega)
    · refine lv_iload_n hx hb dX5_told_13 rfl (lv_at hl 2 rfl) ?_
      refine lv_iconst (v := 0) hx hb dX5_told_14 (by decide) ?_
      refine lv_bipush (v := 6) hx hb dX5_told_15 (by decide) ?_
      refine g_callS CX HW hl.1 ([]) (wMo cI a o (0 : Int32) (vA S 0) (vA S 1) (vr S) (vA S 3) (vA S 4) (vs S) (vA S 7) ++ (wMS cI a (o + 6) (a o) (vh S) (vc S) (sumP S) (vA S 5) (vA S 6) (vA S 8) (vA S 9) (vA S 10) (vA S 11) (vA S 12) (vA S 2) my qu ++ (wMS cI a (o + 17) (a o) (vh T) (vc T) ri2 (vA T 5) (vA T 6) (vA T 8) (vA T 9) (vA T 10) (vA T 11) (vA T 12) (vA T 2) my2 qu2))) (c_X5_isIn z (0 : Int32) (6 : Int32)) rfl gX5_told_X5_isIn rfl hd_X5_isIn ⟨rfl, rfl, (Nat.le_of_ble_eq_true rfl), (Nat.le_of_ble_eq_true rfl)⟩ ⟨(Nat.zero_le _), (Nat.zero_le _)⟩ rfl rfl (Nat.le_of_ble_eq_true rfl) dX5_told_17 (fun v w1 H locs hp HW => ?_)
      obtain ⟨rfl, rfl⟩ := hp
      have HW : Hw D A s (wMo cI a o (0 : Int32) (vA S 0) (vA S 1) (vr S) (vA S 3) (vA S 4) (vs S) (vA S 7) ++ (wMS cI a (o + 6) (a o) (vh S) (vc S) (sumP S) (vA S 5) (vA S 6) (vA S 8) (vA S 9) (vA S 10) (vA S 11) (vA S 12) (vA S 2) my qu ++ (wMS cI a (o + 17) (a o) (vh T) (vc T) ri2 (vA T 5) (vA T 6) (vA T 8) (vA T 9) (vA T 10) (vA T 11) (vA T 12) (vA T 2) my2 qu2))) H locs := HW
      refine W.eq (g2 := F0 m 20 ls [.int (bI ((0 : Int32) ≤ z ∧ z ≤ (6 : Int32)))]) rfl ?_
      refine g_ifeq_b (tgt := 32) hx hb dX5_told_20 (by decide) (fun c20 => ?_) (fun c20 => ?_)
      · refine lv_aload_n hx hb dX5_told_32 rfl (lv_at hl 0 rfl) ?_
        refine lv_iconst (v := 1) hx hb dX5_told_33 (by decide) ?_
        refine g_callV CX HW hl.1 ([]) (wMS cI a (o + 6) (a o) (vh S) (vc S) (sumP S) (vA S 5) (vA S 6) (vA S 8) (vA S 9) (vA S 10) (vA S 11) (vA S 12) (vA S 2) my qu ++ (wMS cI a (o + 17) (a o) (vh T) (vc T) ri2 (vA T 5) (vA T 6) (vA T 8) (vA T 9) (vA T 10) (vA T 11) (vA T 12) (vA T 2) my2 qu2)) (c_X5_no o S (0 : Int32) (1 : Int32)) rfl 0 rfl rfl gX5_told_X5_no rfl ⟨rfl, hd_X5_no⟩ ⟨rfl, rfl, (Nat.le_of_ble_eq_true rfl), (Nat.le_of_ble_eq_true rfl)⟩ ⟨(Nat.zero_le _), (Nat.zero_le _)⟩ rfl rfl (Nat.le_of_ble_eq_true rfl) dX5_told_34 (fun v w1 H locs hp HW => ?_)
        obtain ⟨rfl, rfl⟩ := hp
        have HW : Hw D A s (wMo cI a o (1 : Int32) (vA S 0) (vA S 1) (vr S) (vA S 3) (vA S 4) (vs S) (vA S 7) ++ (wMS cI a (o + 6) (a o) (vh S) (vc S) (sumP S) (vA S 5) (vA S 6) (vA S 8) (vA S 9) (vA S 10) (vA S 11) (vA S 12) (vA S 2) my qu ++ (wMS cI a (o + 17) (a o) (vh T) (vc T) ri2 (vA T 5) (vA T 6) (vA T 8) (vA T 9) (vA T 10) (vA T 11) (vA T 12) (vA T 2) my2 qu2))) H locs := HW
        refine W.eq (g2 := F0 m 37 ls [.int (0 : Int32)]) rfl ?_
        have hk : kTol S (nI k) z = 1 := by first | (rw [kTol]; rw [if_pos c10]) | (rw [kTol]; rw [if_neg (fun h9 => h9 c10), if_pos c20])
        exact g_iret CX HW rfl ⟨S, 0, my, qu, T, ri2, my2, qu2, ⟨fun _ => rfl, fun h9 => absurd (hk.symm.trans h9) (by decide)⟩, hM, rfl, by rw [hk]⟩ dX5_told_37
      · obtain ⟨j, hj, rfl⟩ := wi_nat 6 (by decide) c20
        have ej : natI (nI j) = j := natI_nI (by omega)
        · refine lv_aload_n hx hb dX5_told_23 rfl (lv_at hl 0 rfl) ?_
          refine lv_iload_n hx hb dX5_told_24 rfl (lv_at hl 1 rfl) ?_
          refine lv_iload_n hx hb dX5_told_25 rfl (lv_at hl 2 rfl) ?_
          refine g_callV CX HW hl.1 ([]) ([]) (c_X5_skierTold o S (0 : Int32) my qu T ri2 my2 qu2 k j hI hM hQ hk (by omega)) rfl 0 rfl rfl gX5_told_X5_skierTold rfl ⟨rfl, hd_X5_skierTold⟩ ⟨rfl, rfl, (Nat.le_of_ble_eq_true rfl), (Nat.le_of_ble_eq_true rfl)⟩ ⟨(Nat.zero_le _), (Nat.zero_le _)⟩ rfl rfl (Nat.le_of_ble_eq_true rfl) dX5_told_26 (fun v w1 H locs hp HW => ?_)
          obtain ⟨rfl, rfl⟩ := hp
          have HW : Hw D A s (wMo cI a o (0 : Int32) (vA S 0) (vA S 1) (vr S) (vA S 3) (vA S 4) (vs S) (vA S 7) ++ (wMS cI a (o + 6) (a o) (vh S) (vc S) (sumP S) (vA S 5) (vA S 6) (vA S 8) (vA S 9) (vA S 10) (vA S 11) (vA S 12) (vA S 2) my qu ++ (wMS cI a (o + 17) (a o) (vh T) (vc T) ri2 (vA T 5) (vA T 6) (vA T 8) (vA T 9) (vA T 10) (vA T 11) (vA T 12) (vA T 2) my2 qu2))) H locs := HW
          refine W.eq (g2 := F0 m 29 ls [.int (figK S k j)]) rfl ?_
          refine lv_goto (tgt := 37) hx hb dX5_told_29 (by decide) ?_
          have hk : kTol S (nI k) (nI j) = 0 := by rw [kTol]; rw [if_neg (fun h9 => h9 c10), if_neg (fun h9 => h9 c20)]
          exact g_iret CX HW rfl ⟨S, _, my, qu, T, ri2, my2, qu2, ⟨fun h9 => absurd hk h9, fun _ => ⟨(by rw [ek, ej]; rfl), rfl⟩⟩, hM, rfl, by rw [hk]⟩ dX5_told_37

theorem hd_X5_tow : yX5_tow.cls ≠ "java/lang/invoke/MethodHandle" ∧ yX5_tow.cls ≠ "java/lang/invoke/VarHandle" ∧ (parseMethodDescriptor yX5_tow.desc).map (fun d => d.parameters.length) = some 2 := by decide +kernel
theorem fl_X5_tow_37 : Cond.fieldLink RX5 37 (TX5 0).1 (TX5 0).2.1 (TX5 0).2.2.1 ∈ wsX5_tow := by decide +kernel
theorem in_X5_tow_5 : ∀ x ∈ u_ws RX5 TX5 10, x ∈ wsX5_tow := by decide +kernel
set_option maxRecDepth 100000 in
set_option maxHeartbeats 4000000 in
theorem c_X5_tow {l : Launch} {D : va_G} {cI cL : ClassId} {a : Nat → Nat} (o : Nat) (S : VS) (th : Int32) (my : Nat → Int32) (qu : Nat → Int32) (T : VS) (ri2 : Int32) (my2 : Nat → Int32) (qu2 : Nat → Int32) (x : Int32) (z : Int32) (hI : Inv S) (hM : RepM (vq S) my qu) (hQ : Qk (vs S) (vq S)) (hU : QU (vq S)) (hh : vh S + 100 < 2 ^ 31) : Ct l yX5_tow wsX5_tow { frames := 2, cells := 0, slots := 0, locals := 43 } D (ty2 cI cL) [.ref (a o), .int x, .int z] (wMo cI a o th (vA S 0) (vA S 1) (vr S) (vA S 3) (vA S 4) (vs S) (vA S 7) ++ (wMS cI a (o + 6) (a o) (vh S) (vc S) (sumP S) (vA S 5) (vA S 6) (vA S 8) (vA S 9) (vA S 10) (vA S 11) (vA S 12) (vA S 2) my qu ++ (wMS cI a (o + 17) (a o) (vh T) (vc T) ri2 (vA T 5) (vA T 6) (vA T 8) (vA T 9) (vA T 10) (vA T 11) (vA T 12) (vA T 2) my2 qu2))) (fun v w' => ∃ (Z : VS) (r : Int32) (my' qu' : Nat → Int32) (T' : VS) (ri2' : Int32) (my2' qu2' : Nat → Int32), MOK (kTow x z) (figT S (natI x) (natI z)) S (S) Z r ∧ RepM (vq Z) my' qu' ∧ v = some (.int r) ∧ w' = wMo cI a o (kTow x z) (vA Z 0) (vA Z 1) (vr Z) (vA Z 3) (vA Z 4) (vs Z) (vA Z 7) ++ (wMS cI a (o + 6) (a o) (vh Z) (vc Z) (sumP Z) (vA Z 5) (vA Z 6) (vA Z 8) (vA Z 9) (vA Z 10) (vA Z 11) (vA Z 12) (vA Z 2) my' qu' ++ (wMS cI a (o + 17) (a o) (vh T') (vc T') ri2' (vA T' 5) (vA T' 6) (vA T' 8) (vA T' 9) (vA T' 10) (vA T' 11) (vA T' 12) (vA T' 2) my2' qu2'))) 0 0 := by
  refine Ct.of (cc := cX5_tow) (maxL := 3) (ret := (some .int)) (by decide) rfl (Nat.le_of_ble_eq_true rfl) ?_
  intro p e s m below meth c A ls CX hin HW hl
  obtain ⟨hx, hb, hml, hr, hown, hts, hK, hA, hlk⟩ := id CX
  have hl : lv_has ls 3 [(0, .ref (a o)), (1, .int x), (2, .int z)] := hl
  have hn6 := hI.1
  have hn8 := hI.2.1
  refine lv_aload_n hx hb dX5_tow_0 rfl (lv_at hl 0 rfl) ?_
  refine lv_iconst (v := 0) hx hb dX5_tow_1 (by decide) ?_
  refine g_put CX HW in_X5_tow_5 tyX5 tyX5_ok nmX5 0 0 rfl rfl (Nat.le_of_ble_eq_true rfl) fl_X5_tow_37 rfl rfl rfl (Nat.le_of_ble_eq_true rfl) dX5_tow_2 (fun H locs HW => ?_)
  have HW : Hw D A s (wMo cI a o (0 : Int32) (vA S 0) (vA S 1) (vr S) (vA S 3) (vA S 4) (vs S) (vA S 7) ++ (wMS cI a (o + 6) (a o) (vh S) (vc S) (sumP S) (vA S 5) (vA S 6) (vA S 8) (vA S 9) (vA S 10) (vA S 11) (vA S 12) (vA S 2) my qu ++ (wMS cI a (o + 17) (a o) (vh T) (vc T) ri2 (vA T 5) (vA T 6) (vA T 8) (vA T 9) (vA T 10) (vA T 11) (vA T 12) (vA T 2) my2 qu2))) H locs := HW
  refine lv_aload_n hx hb dX5_tow_5 rfl (lv_at hl 0 rfl) ?_
  refine lv_iload_n hx hb dX5_tow_6 rfl (lv_at hl 1 rfl) ?_
  refine g_callV CX HW hl.1 ([]) (wMS cI a (o + 6) (a o) (vh S) (vc S) (sumP S) (vA S 5) (vA S 6) (vA S 8) (vA S 9) (vA S 10) (vA S 11) (vA S 12) (vA S 2) my qu ++ (wMS cI a (o + 17) (a o) (vh T) (vc T) ri2 (vA T 5) (vA T 6) (vA T 8) (vA T 9) (vA T 10) (vA T 11) (vA T 12) (vA T 2) my2 qu2)) (c_X5_isTow o S (0 : Int32) x) rfl 0 rfl rfl gX5_tow_X5_isTow rfl ⟨rfl, hd_X5_isTow⟩ ⟨rfl, rfl, (Nat.le_of_ble_eq_true rfl), (Nat.le_of_ble_eq_true rfl)⟩ ⟨(Nat.zero_le _), (Nat.zero_le _)⟩ rfl rfl (Nat.le_of_ble_eq_true rfl) dX5_tow_7 (fun v w1 H locs hp HW => ?_)
  obtain ⟨rfl, rfl⟩ := hp
  have HW : Hw D A s (wMo cI a o (0 : Int32) (vA S 0) (vA S 1) (vr S) (vA S 3) (vA S 4) (vs S) (vA S 7) ++ (wMS cI a (o + 6) (a o) (vh S) (vc S) (sumP S) (vA S 5) (vA S 6) (vA S 8) (vA S 9) (vA S 10) (vA S 11) (vA S 12) (vA S 2) my qu ++ (wMS cI a (o + 17) (a o) (vh T) (vc T) ri2 (vA T 5) (vA T 6) (vA T 8) (vA T 9) (vA T 10) (vA T 11) (vA T 12) (vA T 2) my2 qu2))) H locs := HW
  refine W.eq (g2 := F0 m 10 ls [.int (bI ((0 : Int32) ≤ x ∧ x ≤ (2 : Int32)))]) rfl ?_
  refine g_ifeq_b (tgt := 31) hx hb dX5_tow_10 (by decide) (fun c10 => ?_) (fun c10 => ?_)
  · refine lv_aload_n hx hb dX5_tow_31 rfl (lv_at hl 0 rfl) ?_
    refine lv_iconst (v := 1) hx hb dX5_tow_32 (by decide) ?_
    refine g_callV CX HW hl.1 ([]) (wMS cI a (o + 6) (a o) (vh S) (vc S) (sumP S) (vA S 5) (vA S 6) (vA S 8) (vA S 9) (vA S 10) (vA S 11) (vA S 12) (vA S 2) my qu ++ (wMS cI a (o + 17) (a o) (vh T) (vc T) ri2 (vA T 5) (vA T 6) (vA T 8) (vA T 9) (vA T 10) (vA T 11) (vA T 12) (vA T 2) my2 qu2)) (c_X5_no o S (0 : Int32) (1 : Int32)) rfl 0 rfl rfl gX5_tow_X5_no rfl ⟨rfl, hd_X5_no⟩ ⟨rfl, rfl, (Nat.le_of_ble_eq_true rfl), (Nat.le_of_ble_eq_true rfl)⟩ ⟨(Nat.zero_le _), (Nat.zero_le _)⟩ rfl rfl (Nat.le_of_ble_eq_true rfl) dX5_tow_33 (fun v w1 H locs hp HW => ?_)
    obtain ⟨rfl, rfl⟩ := hp
    have HW : Hw D A s (wMo cI a o (1 : Int32) (vA S 0) (vA S 1) (vr S) (vA S 3) (vA S 4) (vs S) (vA S 7) ++ (wMS cI a (o + 6) (a o) (vh S) (vc S) (sumP S) (vA S 5) (vA S 6) (vA S 8) (vA S 9) (vA S 10) (vA S 11) (vA S 12) (vA S 2) my qu ++ (wMS cI a (o + 17) (a o) (vh T) (vc T) ri2 (vA T 5) (vA T 6) (vA T 8) (vA T 9) (vA T 10) (vA T 11) (vA T 12) (vA T 2) my2 qu2))) H locs := HW
    refine W.eq (g2 := F0 m 36 ls [.int (0 : Int32)]) rfl ?_
    have hk : kTow x z = 1 := by first | (rw [kTow]; rw [if_pos c10]) | (rw [kTow]; rw [if_neg (fun h9 => h9 c10), if_pos c19])
    exact g_iret CX HW rfl ⟨S, 0, my, qu, T, ri2, my2, qu2, ⟨fun _ => rfl, fun h9 => absurd (hk.symm.trans h9) (by decide)⟩, hM, rfl, by rw [hk]⟩ dX5_tow_36
  · obtain ⟨k, hk, rfl⟩ := wi_nat 2 (by decide) c10
    have ek : natI (nI k) = k := natI_nI (by omega)
    · refine lv_iload_n hx hb dX5_tow_13 rfl (lv_at hl 2 rfl) ?_
      refine lv_iconst (v := 0) hx hb dX5_tow_14 (by decide) ?_
      refine lv_iconst (v := 2) hx hb dX5_tow_15 (by decide) ?_
      refine g_callS CX HW hl.1 ([]) (wMo cI a o (0 : Int32) (vA S 0) (vA S 1) (vr S) (vA S 3) (vA S 4) (vs S) (vA S 7) ++ (wMS cI a (o + 6) (a o) (vh S) (vc S) (sumP S) (vA S 5) (vA S 6) (vA S 8) (vA S 9) (vA S 10) (vA S 11) (vA S 12) (vA S 2) my qu ++ (wMS cI a (o + 17) (a o) (vh T) (vc T) ri2 (vA T 5) (vA T 6) (vA T 8) (vA T 9) (vA T 10) (vA T 11) (vA T 12) (vA T 2) my2 qu2))) (c_X5_isIn z (0 : Int32) (2 : Int32)) rfl gX5_tow_X5_isIn rfl hd_X5_isIn ⟨rfl, rfl, (Nat.le_of_ble_eq_true rfl), (Nat.le_of_ble_eq_true rfl)⟩ ⟨(Nat.zero_le _), (Nat.zero_le _)⟩ rfl rfl (Nat.le_of_ble_eq_true rfl) dX5_tow_16 (fun v w1 H locs hp HW => ?_)
      obtain ⟨rfl, rfl⟩ := hp
      have HW : Hw D A s (wMo cI a o (0 : Int32) (vA S 0) (vA S 1) (vr S) (vA S 3) (vA S 4) (vs S) (vA S 7) ++ (wMS cI a (o + 6) (a o) (vh S) (vc S) (sumP S) (vA S 5) (vA S 6) (vA S 8) (vA S 9) (vA S 10) (vA S 11) (vA S 12) (vA S 2) my qu ++ (wMS cI a (o + 17) (a o) (vh T) (vc T) ri2 (vA T 5) (vA T 6) (vA T 8) (vA T 9) (vA T 10) (vA T 11) (vA T 12) (vA T 2) my2 qu2))) H locs := HW
      refine W.eq (g2 := F0 m 19 ls [.int (bI ((0 : Int32) ≤ z ∧ z ≤ (2 : Int32)))]) rfl ?_
      refine g_ifeq_b (tgt := 31) hx hb dX5_tow_19 (by decide) (fun c19 => ?_) (fun c19 => ?_)
      · refine lv_aload_n hx hb dX5_tow_31 rfl (lv_at hl 0 rfl) ?_
        refine lv_iconst (v := 1) hx hb dX5_tow_32 (by decide) ?_
        refine g_callV CX HW hl.1 ([]) (wMS cI a (o + 6) (a o) (vh S) (vc S) (sumP S) (vA S 5) (vA S 6) (vA S 8) (vA S 9) (vA S 10) (vA S 11) (vA S 12) (vA S 2) my qu ++ (wMS cI a (o + 17) (a o) (vh T) (vc T) ri2 (vA T 5) (vA T 6) (vA T 8) (vA T 9) (vA T 10) (vA T 11) (vA T 12) (vA T 2) my2 qu2)) (c_X5_no o S (0 : Int32) (1 : Int32)) rfl 0 rfl rfl gX5_tow_X5_no rfl ⟨rfl, hd_X5_no⟩ ⟨rfl, rfl, (Nat.le_of_ble_eq_true rfl), (Nat.le_of_ble_eq_true rfl)⟩ ⟨(Nat.zero_le _), (Nat.zero_le _)⟩ rfl rfl (Nat.le_of_ble_eq_true rfl) dX5_tow_33 (fun v w1 H locs hp HW => ?_)
        obtain ⟨rfl, rfl⟩ := hp
        have HW : Hw D A s (wMo cI a o (1 : Int32) (vA S 0) (vA S 1) (vr S) (vA S 3) (vA S 4) (vs S) (vA S 7) ++ (wMS cI a (o + 6) (a o) (vh S) (vc S) (sumP S) (vA S 5) (vA S 6) (vA S 8) (vA S 9) (vA S 10) (vA S 11) (vA S 12) (vA S 2) my qu ++ (wMS cI a (o + 17) (a o) (vh T) (vc T) ri2 (vA T 5) (vA T 6) (vA T 8) (vA T 9) (vA T 10) (vA T 11) (vA T 12) (vA T 2) my2 qu2))) H locs := HW
        refine W.eq (g2 := F0 m 36 ls [.int (0 : Int32)]) rfl ?_
        have hk : kTow (nI k) z = 1 := by first | (rw [kTow]; rw [if_pos c10]) | (rw [kTow]; rw [if_neg (fun h9 => h9 c10), if_pos c19])
        exact g_iret CX HW rfl ⟨S, 0, my, qu, T, ri2, my2, qu2, ⟨fun _ => rfl, fun h9 => absurd (hk.symm.trans h9) (by decide)⟩, hM, rfl, by rw [hk]⟩ dX5_tow_36
      · obtain ⟨j, hj, rfl⟩ := wi_nat 2 (by decide) c19
        have ej : natI (nI j) = j := natI_nI (by omega)
        · refine lv_aload_n hx hb dX5_tow_22 rfl (lv_at hl 0 rfl) ?_
          refine lv_iload_n hx hb dX5_tow_23 rfl (lv_at hl 1 rfl) ?_
          refine lv_iload_n hx hb dX5_tow_24 rfl (lv_at hl 2 rfl) ?_
          refine g_callV CX HW hl.1 ([]) ([]) (c_X5_towTold o S (0 : Int32) my qu T ri2 my2 qu2 k j hM (by omega) (by omega)) rfl 0 rfl rfl gX5_tow_X5_towTold rfl ⟨rfl, hd_X5_towTold⟩ ⟨rfl, rfl, (Nat.le_of_ble_eq_true rfl), (Nat.le_of_ble_eq_true rfl)⟩ ⟨(Nat.zero_le _), (Nat.zero_le _)⟩ rfl rfl (Nat.le_of_ble_eq_true rfl) dX5_tow_25 (fun v w1 H locs hp HW => ?_)
          obtain ⟨rfl, rfl⟩ := hp
          have HW : Hw D A s (wMo cI a o (0 : Int32) (vA S 0) (vA S 1) (vr S) (vA S 3) (vA S 4) (vs S) (vA S 7) ++ (wMS cI a (o + 6) (a o) (vh S) (vc S) (sumP S) (vA S 5) (vA S 6) (vA S 8) (vA S 9) (vA S 10) (vA S 11) (vA S 12) (vA S 2) my qu ++ (wMS cI a (o + 17) (a o) (vh T) (vc T) ri2 (vA T 5) (vA T 6) (vA T 8) (vA T 9) (vA T 10) (vA T 11) (vA T 12) (vA T 2) my2 qu2))) H locs := HW
          refine W.eq (g2 := F0 m 28 ls [.int (figT S k j)]) rfl ?_
          refine lv_goto (tgt := 36) hx hb dX5_tow_28 (by decide) ?_
          have hk : kTow (nI k) (nI j) = 0 := by rw [kTow]; rw [if_neg (fun h9 => h9 c10), if_neg (fun h9 => h9 c19)]
          exact g_iret CX HW rfl ⟨S, _, my, qu, T, ri2, my2, qu2, ⟨fun h9 => absurd hk h9, fun _ => ⟨(by rw [ek, ej]), rfl⟩⟩, hM, rfl, by rw [hk]⟩ dX5_tow_36

theorem hd_X5_stands : yX5_stands.cls ≠ "java/lang/invoke/MethodHandle" ∧ yX5_stands.cls ≠ "java/lang/invoke/VarHandle" ∧ (parseMethodDescriptor yX5_stands.desc).map (fun d => d.parameters.length) = some 2 := by decide +kernel
theorem fl_X5_stands_37 : Cond.fieldLink RX5 37 (TX5 0).1 (TX5 0).2.1 (TX5 0).2.2.1 ∈ wsX5_stands := by decide +kernel
theorem in_X5_stands_5 : ∀ x ∈ u_ws RX5 TX5 10, x ∈ wsX5_stands := by decide +kernel
theorem fl_X5_stands_30 : Cond.fieldLink RX5 30 (TX5 8).1 (TX5 8).2.1 (TX5 8).2.2.1 ∈ wsX5_stands := by decide +kernel
theorem in_X5_stands_4 : ∀ x ∈ u_ws RX4 TX4 14, x ∈ wsX5_stands := by decide +kernel
set_option maxRecDepth 100000 in
set_option maxHeartbeats 4000000 in
theorem c_X5_stands {l : Launch} {D : va_G} {cI cL : ClassId} {a : Nat → Nat} (o : Nat) (S : VS) (th : Int32) (my : Nat → Int32) (qu : Nat → Int32) (T : VS) (ri2 : Int32) (my2 : Nat → Int32) (qu2 : Nat → Int32) (x : Int32) (z : Int32) (hI : Inv S) (hM : RepM (vq S) my qu) (hQ : Qk (vs S) (vq S)) (hU : QU (vq S)) (hh : vh S + 100 < 2 ^ 31) : Ct l yX5_stands wsX5_stands { frames := 2, cells := 0, slots := 0, locals := 43 } D (ty2 cI cL) [.ref (a o), .int x, .int z] (wMo cI a o th (vA S 0) (vA S 1) (vr S) (vA S 3) (vA S 4) (vs S) (vA S 7) ++ (wMS cI a (o + 6) (a o) (vh S) (vc S) (sumP S) (vA S 5) (vA S 6) (vA S 8) (vA S 9) (vA S 10) (vA S 11) (vA S 12) (vA S 2) my qu ++ (wMS cI a (o + 17) (a o) (vh T) (vc T) ri2 (vA T 5) (vA T 6) (vA T 8) (vA T 9) (vA T 10) (vA T 11) (vA T 12) (vA T 2) my2 qu2))) (fun v w' => ∃ (Z : VS) (r : Int32) (my' qu' : Nat → Int32) (T' : VS) (ri2' : Int32) (my2' qu2' : Nat → Int32), MOK (kSta S x z) (oI (standQ (vq S) (natI x) z)) S (S) Z r ∧ RepM (vq Z) my' qu' ∧ v = some (.int r) ∧ w' = wMo cI a o (kSta S x z) (vA Z 0) (vA Z 1) (vr Z) (vA Z 3) (vA Z 4) (vs Z) (vA Z 7) ++ (wMS cI a (o + 6) (a o) (vh Z) (vc Z) (sumP Z) (vA Z 5) (vA Z 6) (vA Z 8) (vA Z 9) (vA Z 10) (vA Z 11) (vA Z 12) (vA Z 2) my' qu' ++ (wMS cI a (o + 17) (a o) (vh T') (vc T') ri2' (vA T' 5) (vA T' 6) (vA T' 8) (vA T' 9) (vA T' 10) (vA T' 11) (vA T' 12) (vA T' 2) my2' qu2'))) 0 0 := by
  refine Ct.of (cc := cX5_stands) (maxL := 3) (ret := (some .int)) (by decide) rfl (Nat.le_of_ble_eq_true rfl) ?_
  intro p e s m below meth c A ls CX hin HW hl
  obtain ⟨hx, hb, hml, hr, hown, hts, hK, hA, hlk⟩ := id CX
  have hl : lv_has ls 3 [(0, .ref (a o)), (1, .int x), (2, .int z)] := hl
  have hn6 := hI.1
  have hn8 := hI.2.1
  refine lv_aload_n hx hb dX5_stands_0 rfl (lv_at hl 0 rfl) ?_
  refine lv_iconst (v := 0) hx hb dX5_stands_1 (by decide) ?_
  refine g_put CX HW in_X5_stands_5 tyX5 tyX5_ok nmX5 0 0 rfl rfl (Nat.le_of_ble_eq_true rfl) fl_X5_stands_37 rfl rfl rfl (Nat.le_of_ble_eq_true rfl) dX5_stands_2 (fun H locs HW => ?_)
  have HW : Hw D A s (wMo cI a o (0 : Int32) (vA S 0) (vA S 1) (vr S) (vA S 3) (vA S 4) (vs S) (vA S 7) ++ (wMS cI a (o + 6) (a o) (vh S) (vc S) (sumP S) (vA S 5) (vA S 6) (vA S 8) (vA S 9) (vA S 10) (vA S 11) (vA S 12) (vA S 2) my qu ++ (wMS cI a (o + 17) (a o) (vh T) (vc T) ri2 (vA T 5) (vA T 6) (vA T 8) (vA T 9) (vA T 10) (vA T 11) (vA T 12) (vA T 2) my2 qu2))) H locs := HW
  refine lv_aload_n hx hb dX5_stands_5 rfl (lv_at hl 0 rfl) ?_
  refine lv_iload_n hx hb dX5_stands_6 rfl (lv_at hl 1 rfl) ?_
  refine g_callV CX HW hl.1 ([]) (wMS cI a (o + 6) (a o) (vh S) (vc S) (sumP S) (vA S 5) (vA S 6) (vA S 8) (vA S 9) (vA S 10) (vA S 11) (vA S 12) (vA S 2) my qu ++ (wMS cI a (o + 17) (a o) (vh T) (vc T) ri2 (vA T 5) (vA T 6) (vA T 8) (vA T 9) (vA T 10) (vA T 11) (vA T 12) (vA T 2) my2 qu2)) (c_X5_isTow o S (0 : Int32) x) rfl 0 rfl rfl gX5_stands_X5_isTow rfl ⟨rfl, hd_X5_isTow⟩ ⟨rfl, rfl, (Nat.le_of_ble_eq_true rfl), (Nat.le_of_ble_eq_true rfl)⟩ ⟨(Nat.zero_le _), (Nat.zero_le _)⟩ rfl rfl (Nat.le_of_ble_eq_true rfl) dX5_stands_7 (fun v w1 H locs hp HW => ?_)
  obtain ⟨rfl, rfl⟩ := hp
  have HW : Hw D A s (wMo cI a o (0 : Int32) (vA S 0) (vA S 1) (vr S) (vA S 3) (vA S 4) (vs S) (vA S 7) ++ (wMS cI a (o + 6) (a o) (vh S) (vc S) (sumP S) (vA S 5) (vA S 6) (vA S 8) (vA S 9) (vA S 10) (vA S 11) (vA S 12) (vA S 2) my qu ++ (wMS cI a (o + 17) (a o) (vh T) (vc T) ri2 (vA T 5) (vA T 6) (vA T 8) (vA T 9) (vA T 10) (vA T 11) (vA T 12) (vA T 2) my2 qu2))) H locs := HW
  refine W.eq (g2 := F0 m 10 ls [.int (bI ((0 : Int32) ≤ x ∧ x ≤ (2 : Int32)))]) rfl ?_
  refine g_ifeq_b (tgt := 49) hx hb dX5_stands_10 (by decide) (fun c10 => ?_) (fun c10 => ?_)
  · refine lv_aload_n hx hb dX5_stands_49 rfl (lv_at hl 0 rfl) ?_
    refine lv_iconst (v := 1) hx hb dX5_stands_50 (by decide) ?_
    refine g_callV CX HW hl.1 ([]) (wMS cI a (o + 6) (a o) (vh S) (vc S) (sumP S) (vA S 5) (vA S 6) (vA S 8) (vA S 9) (vA S 10) (vA S 11) (vA S 12) (vA S 2) my qu ++ (wMS cI a (o + 17) (a o) (vh T) (vc T) ri2 (vA T 5) (vA T 6) (vA T 8) (vA T 9) (vA T 10) (vA T 11) (vA T 12) (vA T 2) my2 qu2)) (c_X5_no o S (0 : Int32) (1 : Int32)) rfl 0 rfl rfl gX5_stands_X5_no rfl ⟨rfl, hd_X5_no⟩ ⟨rfl, rfl, (Nat.le_of_ble_eq_true rfl), (Nat.le_of_ble_eq_true rfl)⟩ ⟨(Nat.zero_le _), (Nat.zero_le _)⟩ rfl rfl (Nat.le_of_ble_eq_true rfl) dX5_stands_51 (fun v w1 H locs hp HW => ?_)
    obtain ⟨rfl, rfl⟩ := hp
    have HW : Hw D A s (wMo cI a o (1 : Int32) (vA S 0) (vA S 1) (vr S) (vA S 3) (vA S 4) (vs S) (vA S 7) ++ (wMS cI a (o + 6) (a o) (vh S) (vc S) (sumP S) (vA S 5) (vA S 6) (vA S 8) (vA S 9) (vA S 10) (vA S 11) (vA S 12) (vA S 2) my qu ++ (wMS cI a (o + 17) (a o) (vh T) (vc T) ri2 (vA T 5) (vA T 6) (vA T 8) (vA T 9) (vA T 10) (vA T 11) (vA T 12) (vA T 2) my2 qu2))) H locs := HW
    refine W.eq (g2 := F0 m 54 ls [.int (0 : Int32)]) rfl ?_
    have hk : kSta S x z = 1 := by first | (rw [kSta]; rw [if_pos c10]) | (rw [kSta, ek]; rw [if_neg (fun h9 => h9 c10), if_pos c29])
    exact g_iret CX HW rfl ⟨S, 0, my, qu, T, ri2, my2, qu2, ⟨fun _ => rfl, fun h9 => absurd (hk.symm.trans h9) (by decide)⟩, hM, rfl, by rw [hk]⟩ dX5_stands_54
  · obtain ⟨k, hk, rfl⟩ := wi_nat 2 (by decide) c10
    have ek : natI (nI k) = k := natI_nI (by omega)
    · refine lv_iload_n hx hb dX5_stands_13 rfl (lv_at hl 2 rfl) ?_
      refine lv_iconst (v := 0) hx hb dX5_stands_14 (by decide) ?_
      refine lv_aload_n hx hb dX5_stands_15 rfl (lv_at hl 0 rfl) ?_
      refine g_get CX HW in_X5_stands_5 0 8 rfl rfl (Nat.le_of_ble_eq_true rfl) fl_X5_stands_30 rfl dX5_stands_16 ?_
      refine g_getN (host := "PommelTowsModel") CX HW in_X5_stands_4 6 11 rfl rfl (Nat.le_of_ble_eq_true rfl) (by decide +kernel) rfl dX5_stands_19 ?_
      refine lv_iload_n hx hb dX5_stands_22 rfl (lv_at hl 1 rfl) ?_
      refine g_ald CX HW 15 (k := k) rfl rfl rfl (by omega) (Nat.le_of_ble_eq_true rfl) dX5_stands_23 ?_
      refine g_top (y := (nI (vq S k).length)) (hM k (by omega)).1.1 ?_
      refine lv_iconst (v := 1) hx hb dX5_stands_24 (by decide) ?_
      refine lv_isub hx hb dX5_stands_25 ?_
      refine g_callS CX HW hl.1 ([]) (wMo cI a o (0 : Int32) (vA S 0) (vA S 1) (vr S) (vA S 3) (vA S 4) (vs S) (vA S 7) ++ (wMS cI a (o + 6) (a o) (vh S) (vc S) (sumP S) (vA S 5) (vA S 6) (vA S 8) (vA S 9) (vA S 10) (vA S 11) (vA S 12) (vA S 2) my qu ++ (wMS cI a (o + 17) (a o) (vh T) (vc T) ri2 (vA T 5) (vA T 6) (vA T 8) (vA T 9) (vA T 10) (vA T 11) (vA T 12) (vA T 2) my2 qu2))) (c_X5_isIn z (0 : Int32) ((nI (vq S k).length) - (1 : Int32))) rfl gX5_stands_X5_isIn rfl hd_X5_isIn ⟨rfl, rfl, (Nat.le_of_ble_eq_true rfl), (Nat.le_of_ble_eq_true rfl)⟩ ⟨(Nat.zero_le _), (Nat.zero_le _)⟩ rfl rfl (Nat.le_of_ble_eq_true rfl) dX5_stands_26 (fun v w1 H locs hp HW => ?_)
      obtain ⟨rfl, rfl⟩ := hp
      have HW : Hw D A s (wMo cI a o (0 : Int32) (vA S 0) (vA S 1) (vr S) (vA S 3) (vA S 4) (vs S) (vA S 7) ++ (wMS cI a (o + 6) (a o) (vh S) (vc S) (sumP S) (vA S 5) (vA S 6) (vA S 8) (vA S 9) (vA S 10) (vA S 11) (vA S 12) (vA S 2) my qu ++ (wMS cI a (o + 17) (a o) (vh T) (vc T) ri2 (vA T 5) (vA T 6) (vA T 8) (vA T 9) (vA T 10) (vA T 11) (vA T 12) (vA T 2) my2 qu2))) H locs := HW
      refine W.eq (g2 := F0 m 29 ls [.int (bI ((0 : Int32) ≤ z ∧ z ≤ ((nI (vq S k).length) - (1 : Int32))))]) rfl ?_
      refine g_top (y := (bI (¬ standQ (vq S) k z = none))) (bI_c (stand_in (hM k (by omega)).2)) ?_
      refine g_ifeq_b (tgt := 49) hx hb dX5_stands_29 (by decide) (fun c29 => ?_) (fun c29 => ?_)
      · have c29 := Decidable.byContradiction c29
        refine lv_aload_n hx hb dX5_stands_49 rfl (lv_at hl 0 rfl) ?_
        refine lv_iconst (v := 1) hx hb dX5_stands_50 (by decide) ?_
        refine g_callV CX HW hl.1 ([]) (wMS cI a (o + 6) (a o) (vh S) (vc S) (sumP S) (vA S 5) (vA S 6) (vA S 8) (vA S 9) (vA S 10) (vA S 11) (vA S 12) (vA S 2) my qu ++ (wMS cI a (o + 17) (a o) (vh T) (vc T) ri2 (vA T 5) (vA T 6) (vA T 8) (vA T 9) (vA T 10) (vA T 11) (vA T 12) (vA T 2) my2 qu2)) (c_X5_no o S (0 : Int32) (1 : Int32)) rfl 0 rfl rfl gX5_stands_X5_no rfl ⟨rfl, hd_X5_no⟩ ⟨rfl, rfl, (Nat.le_of_ble_eq_true rfl), (Nat.le_of_ble_eq_true rfl)⟩ ⟨(Nat.zero_le _), (Nat.zero_le _)⟩ rfl rfl (Nat.le_of_ble_eq_true rfl) dX5_stands_51 (fun v w1 H locs hp HW => ?_)
        obtain ⟨rfl, rfl⟩ := hp
        have HW : Hw D A s (wMo cI a o (1 : Int32) (vA S 0) (vA S 1) (vr S) (vA S 3) (vA S 4) (vs S) (vA S 7) ++ (wMS cI a (o + 6) (a o) (vh S) (vc S) (sumP S) (vA S 5) (vA S 6) (vA S 8) (vA S 9) (vA S 10) (vA S 11) (vA S 12) (vA S 2) my qu ++ (wMS cI a (o + 17) (a o) (vh T) (vc T) ri2 (vA T 5) (vA T 6) (vA T 8) (vA T 9) (vA T 10) (vA T 11) (vA T 12) (vA T 2) my2 qu2))) H locs := HW
        refine W.eq (g2 := F0 m 54 ls [.int (0 : Int32)]) rfl ?_
        have hk : kSta S (nI k) z = 1 := by first | (rw [kSta]; rw [if_pos c10]) | (rw [kSta, ek]; rw [if_neg (fun h9 => h9 c10), if_pos c29])
        exact g_iret CX HW rfl ⟨S, 0, my, qu, T, ri2, my2, qu2, ⟨fun _ => rfl, fun h9 => absurd (hk.symm.trans h9) (by decide)⟩, hM, rfl, by rw [hk]⟩ dX5_stands_54
      · obtain ⟨p, y, hp, rfl, hy⟩ := stand_nat (hM k (by omega)).2 c29
        have hl8 := (hM k (by omega)).2
        · refine lv_aload_n hx hb dX5_stands_32 rfl (lv_at hl 0 rfl) ?_
          refine g_get CX HW in_X5_stands_5 0 8 rfl rfl (Nat.le_of_ble_eq_true rfl) fl_X5_stands_30 rfl dX5_stands_33 ?_
          refine g_getN (host := "PommelTowsModel") CX HW in_X5_stands_4 6 12 rfl rfl (Nat.le_of_ble_eq_true rfl) (by decide +kernel) rfl dX5_stands_36 ?_
          refine lv_bipush (v := 8) hx hb dX5_stands_39 (by decide) ?_
          refine lv_iload_n hx hb dX5_stands_41 rfl (lv_at hl 1 rfl) ?_
          refine lv_imul hx hb dX5_stands_42 ?_
          refine g_top (y := (nI (8 * k))) (pk_mul 8 k) ?_
          refine lv_iload_n hx hb dX5_stands_43 rfl (lv_at hl 2 rfl) ?_
          refine lv_iadd hx hb dX5_stands_44 ?_
          refine g_top (y := (nI (8 * k + p))) (nI_add _ _) ?_
          refine g_ald CX HW 16 (k := (8 * k + p)) rfl rfl rfl (by omega) (Nat.le_of_ble_eq_true rfl) dX5_stands_45 ?_
          refine g_top (y := (oI (standQ (vq S) k (nI p)))) (by rw [hy]; exact (hM k (by omega)).1.2 p y (by rw [← hy, stand_nI (by omega)])) ?_
          refine lv_goto (tgt := 54) hx hb dX5_stands_46 (by decide) ?_
          have hk : kSta S (nI k) (nI p) = 0 := by rw [kSta, ek]; rw [if_neg (fun h9 => h9 c10), if_neg c29]
          exact g_iret CX HW rfl ⟨S, _, my, qu, T, ri2, my2, qu2, ⟨fun h9 => absurd hk h9, fun _ => ⟨(by rw [ek]), rfl⟩⟩, hM, rfl, by rw [hk]⟩ dX5_stands_54

theorem hd_X5_choice : yX5_choice.cls ≠ "java/lang/invoke/MethodHandle" ∧ yX5_choice.cls ≠ "java/lang/invoke/VarHandle" ∧ (parseMethodDescriptor yX5_choice.desc).map (fun d => d.parameters.length) = some 2 := by decide +kernel
theorem fl_X5_choice_37 : Cond.fieldLink RX5 37 (TX5 0).1 (TX5 0).2.1 (TX5 0).2.2.1 ∈ wsX5_choice := by decide +kernel
theorem in_X5_choice_5 : ∀ x ∈ u_ws RX5 TX5 10, x ∈ wsX5_choice := by decide +kernel
theorem fl_X5_choice_30 : Cond.fieldLink RX5 30 (TX5 8).1 (TX5 8).2.1 (TX5 8).2.2.1 ∈ wsX5_choice := by decide +kernel
set_option maxRecDepth 100000 in
set_option maxHeartbeats 4000000 in
theorem c_X5_choice {l : Launch} {D : va_G} {cI cL : ClassId} {a : Nat → Nat} (o : Nat) (S : VS) (th : Int32) (my : Nat → Int32) (qu : Nat → Int32) (T : VS) (ri2 : Int32) (my2 : Nat → Int32) (qu2 : Nat → Int32) (x : Int32) (z : Int32) (hI : Inv S) (hM : RepM (vq S) my qu) (hQ : Qk (vs S) (vq S)) (hU : QU (vq S)) (hh : vh S + 100 < 2 ^ 31) : Ct l yX5_choice wsX5_choice { frames := 2, cells := 0, slots := 0, locals := 45 } D (ty2 cI cL) [.ref (a o), .int x, .int z] (wMo cI a o th (vA S 0) (vA S 1) (vr S) (vA S 3) (vA S 4) (vs S) (vA S 7) ++ (wMS cI a (o + 6) (a o) (vh S) (vc S) (sumP S) (vA S 5) (vA S 6) (vA S 8) (vA S 9) (vA S 10) (vA S 11) (vA S 12) (vA S 2) my qu ++ (wMS cI a (o + 17) (a o) (vh T) (vc T) ri2 (vA T 5) (vA T 6) (vA T 8) (vA T 9) (vA T 10) (vA T 11) (vA T 12) (vA T 2) my2 qu2))) (fun v w' => ∃ (Z : VS) (r : Int32) (my' qu' : Nat → Int32) (T' : VS) (ri2' : Int32) (my2' qu2' : Nat → Int32), MOK (kJoin S x z) (oI (bestR (vA S 3) (vA S 4) (vA S 5) z (vA S 7 (natI x) + 1) (vr S))) S (S) Z r ∧ RepM (vq Z) my' qu' ∧ v = some (.int r) ∧ w' = wMo cI a o (kJoin S x z) (vA Z 0) (vA Z 1) (vr Z) (vA Z 3) (vA Z 4) (vs Z) (vA Z 7) ++ (wMS cI a (o + 6) (a o) (vh Z) (vc Z) (sumP Z) (vA Z 5) (vA Z 6) (vA Z 8) (vA Z 9) (vA Z 10) (vA Z 11) (vA Z 12) (vA Z 2) my' qu' ++ (wMS cI a (o + 17) (a o) (vh T') (vc T') ri2' (vA T' 5) (vA T' 6) (vA T' 8) (vA T' 9) (vA T' 10) (vA T' 11) (vA T' 12) (vA T' 2) my2' qu2'))) 0 0 := by
  refine Ct.of (cc := cX5_choice) (maxL := 3) (ret := (some .int)) (by decide) rfl (Nat.le_of_ble_eq_true rfl) ?_
  intro p e s m below meth c A ls CX hin HW hl
  obtain ⟨hx, hb, hml, hr, hown, hts, hK, hA, hlk⟩ := id CX
  have hl : lv_has ls 3 [(0, .ref (a o)), (1, .int x), (2, .int z)] := hl
  have hn6 := hI.1
  have hn8 := hI.2.1
  refine lv_aload_n hx hb dX5_choice_0 rfl (lv_at hl 0 rfl) ?_
  refine lv_iconst (v := 0) hx hb dX5_choice_1 (by decide) ?_
  refine g_put CX HW in_X5_choice_5 tyX5 tyX5_ok nmX5 0 0 rfl rfl (Nat.le_of_ble_eq_true rfl) fl_X5_choice_37 rfl rfl rfl (Nat.le_of_ble_eq_true rfl) dX5_choice_2 (fun H locs HW => ?_)
  have HW : Hw D A s (wMo cI a o (0 : Int32) (vA S 0) (vA S 1) (vr S) (vA S 3) (vA S 4) (vs S) (vA S 7) ++ (wMS cI a (o + 6) (a o) (vh S) (vc S) (sumP S) (vA S 5) (vA S 6) (vA S 8) (vA S 9) (vA S 10) (vA S 11) (vA S 12) (vA S 2) my qu ++ (wMS cI a (o + 17) (a o) (vh T) (vc T) ri2 (vA T 5) (vA T 6) (vA T 8) (vA T 9) (vA T 10) (vA T 11) (vA T 12) (vA T 2) my2 qu2))) H locs := HW
  refine lv_aload_n hx hb dX5_choice_5 rfl (lv_at hl 0 rfl) ?_
  refine lv_iload_n hx hb dX5_choice_6 rfl (lv_at hl 1 rfl) ?_
  refine g_callV CX HW hl.1 ([]) (wMS cI a (o + 6) (a o) (vh S) (vc S) (sumP S) (vA S 5) (vA S 6) (vA S 8) (vA S 9) (vA S 10) (vA S 11) (vA S 12) (vA S 2) my qu ++ (wMS cI a (o + 17) (a o) (vh T) (vc T) ri2 (vA T 5) (vA T 6) (vA T 8) (vA T 9) (vA T 10) (vA T 11) (vA T 12) (vA T 2) my2 qu2)) (c_X5_isSkier o S (0 : Int32) x (by omega)) rfl 0 rfl rfl gX5_choice_X5_isSkier rfl ⟨rfl, hd_X5_isSkier⟩ ⟨rfl, rfl, (Nat.le_of_ble_eq_true rfl), (Nat.le_of_ble_eq_true rfl)⟩ ⟨(Nat.zero_le _), (Nat.zero_le _)⟩ rfl rfl (Nat.le_of_ble_eq_true rfl) dX5_choice_7 (fun v w1 H locs hp HW => ?_)
  obtain ⟨rfl, rfl⟩ := hp
  have HW : Hw D A s (wMo cI a o (0 : Int32) (vA S 0) (vA S 1) (vr S) (vA S 3) (vA S 4) (vs S) (vA S 7) ++ (wMS cI a (o + 6) (a o) (vh S) (vc S) (sumP S) (vA S 5) (vA S 6) (vA S 8) (vA S 9) (vA S 10) (vA S 11) (vA S 12) (vA S 2) my qu ++ (wMS cI a (o + 17) (a o) (vh T) (vc T) ri2 (vA T 5) (vA T 6) (vA T 8) (vA T 9) (vA T 10) (vA T 11) (vA T 12) (vA T 2) my2 qu2))) H locs := HW
  refine W.eq (g2 := F0 m 10 ls [.int (bI ((0 : Int32) ≤ x ∧ x < nI (vs S)))]) rfl ?_
  refine g_ifeq_b (tgt := 33) hx hb dX5_choice_10 (by decide) (fun c10 => ?_) (fun c10 => ?_)
  · refine lv_aload_n hx hb dX5_choice_33 rfl (lv_at hl 0 rfl) ?_
    refine lv_iconst (v := 1) hx hb dX5_choice_34 (by decide) ?_
    refine g_callV CX HW hl.1 ([]) (wMS cI a (o + 6) (a o) (vh S) (vc S) (sumP S) (vA S 5) (vA S 6) (vA S 8) (vA S 9) (vA S 10) (vA S 11) (vA S 12) (vA S 2) my qu ++ (wMS cI a (o + 17) (a o) (vh T) (vc T) ri2 (vA T 5) (vA T 6) (vA T 8) (vA T 9) (vA T 10) (vA T 11) (vA T 12) (vA T 2) my2 qu2)) (c_X5_no o S (0 : Int32) (1 : Int32)) rfl 0 rfl rfl gX5_choice_X5_no rfl ⟨rfl, hd_X5_no⟩ ⟨rfl, rfl, (Nat.le_of_ble_eq_true rfl), (Nat.le_of_ble_eq_true rfl)⟩ ⟨(Nat.zero_le _), (Nat.zero_le _)⟩ rfl rfl (Nat.le_of_ble_eq_true rfl) dX5_choice_35 (fun v w1 H locs hp HW => ?_)
    obtain ⟨rfl, rfl⟩ := hp
    have HW : Hw D A s (wMo cI a o (1 : Int32) (vA S 0) (vA S 1) (vr S) (vA S 3) (vA S 4) (vs S) (vA S 7) ++ (wMS cI a (o + 6) (a o) (vh S) (vc S) (sumP S) (vA S 5) (vA S 6) (vA S 8) (vA S 9) (vA S 10) (vA S 11) (vA S 12) (vA S 2) my qu ++ (wMS cI a (o + 17) (a o) (vh T) (vc T) ri2 (vA T 5) (vA T 6) (vA T 8) (vA T 9) (vA T 10) (vA T 11) (vA T 12) (vA T 2) my2 qu2))) H locs := HW
    refine W.eq (g2 := F0 m 38 ls [.int (0 : Int32)]) rfl ?_
    have hk : kJoin S x z = 1 := by first | (rw [kJoin]; rw [if_pos c10]) | (rw [kJoin]; rw [if_neg (fun h9 => h9 c10), if_pos c18])
    exact g_iret CX HW rfl ⟨S, 0, my, qu, T, ri2, my2, qu2, ⟨fun _ => rfl, fun h9 => absurd (hk.symm.trans h9) (by decide)⟩, hM, rfl, by rw [hk]⟩ dX5_choice_38
  · obtain ⟨k, hk, rfl⟩ := has_nat (by omega) c10
    have ek : natI (nI k) = k := natI_nI (by omega)
    · refine lv_aload_n hx hb dX5_choice_13 rfl (lv_at hl 0 rfl) ?_
      refine lv_iload_n hx hb dX5_choice_14 rfl (lv_at hl 2 rfl) ?_
      refine g_callV CX HW hl.1 ([]) (wMS cI a (o + 6) (a o) (vh S) (vc S) (sumP S) (vA S 5) (vA S 6) (vA S 8) (vA S 9) (vA S 10) (vA S 11) (vA S 12) (vA S 2) my qu ++ (wMS cI a (o + 17) (a o) (vh T) (vc T) ri2 (vA T 5) (vA T 6) (vA T 8) (vA T 9) (vA T 10) (vA T 11) (vA T 12) (vA T 2) my2 qu2)) (c_X5_isTow o S (0 : Int32) z) rfl 0 rfl rfl gX5_choice_X5_isTow rfl ⟨rfl, hd_X5_isTow⟩ ⟨rfl, rfl, (Nat.le_of_ble_eq_true rfl), (Nat.le_of_ble_eq_true rfl)⟩ ⟨(Nat.zero_le _), (Nat.zero_le _)⟩ rfl rfl (Nat.le_of_ble_eq_true rfl) dX5_choice_15 (fun v w1 H locs hp HW => ?_)
      obtain ⟨rfl, rfl⟩ := hp
      have HW : Hw D A s (wMo cI a o (0 : Int32) (vA S 0) (vA S 1) (vr S) (vA S 3) (vA S 4) (vs S) (vA S 7) ++ (wMS cI a (o + 6) (a o) (vh S) (vc S) (sumP S) (vA S 5) (vA S 6) (vA S 8) (vA S 9) (vA S 10) (vA S 11) (vA S 12) (vA S 2) my qu ++ (wMS cI a (o + 17) (a o) (vh T) (vc T) ri2 (vA T 5) (vA T 6) (vA T 8) (vA T 9) (vA T 10) (vA T 11) (vA T 12) (vA T 2) my2 qu2))) H locs := HW
      refine W.eq (g2 := F0 m 18 ls [.int (bI ((0 : Int32) ≤ z ∧ z ≤ (2 : Int32)))]) rfl ?_
      refine g_ifeq_b (tgt := 33) hx hb dX5_choice_18 (by decide) (fun c18 => ?_) (fun c18 => ?_)
      · refine lv_aload_n hx hb dX5_choice_33 rfl (lv_at hl 0 rfl) ?_
        refine lv_iconst (v := 1) hx hb dX5_choice_34 (by decide) ?_
        refine g_callV CX HW hl.1 ([]) (wMS cI a (o + 6) (a o) (vh S) (vc S) (sumP S) (vA S 5) (vA S 6) (vA S 8) (vA S 9) (vA S 10) (vA S 11) (vA S 12) (vA S 2) my qu ++ (wMS cI a (o + 17) (a o) (vh T) (vc T) ri2 (vA T 5) (vA T 6) (vA T 8) (vA T 9) (vA T 10) (vA T 11) (vA T 12) (vA T 2) my2 qu2)) (c_X5_no o S (0 : Int32) (1 : Int32)) rfl 0 rfl rfl gX5_choice_X5_no rfl ⟨rfl, hd_X5_no⟩ ⟨rfl, rfl, (Nat.le_of_ble_eq_true rfl), (Nat.le_of_ble_eq_true rfl)⟩ ⟨(Nat.zero_le _), (Nat.zero_le _)⟩ rfl rfl (Nat.le_of_ble_eq_true rfl) dX5_choice_35 (fun v w1 H locs hp HW => ?_)
        obtain ⟨rfl, rfl⟩ := hp
        have HW : Hw D A s (wMo cI a o (1 : Int32) (vA S 0) (vA S 1) (vr S) (vA S 3) (vA S 4) (vs S) (vA S 7) ++ (wMS cI a (o + 6) (a o) (vh S) (vc S) (sumP S) (vA S 5) (vA S 6) (vA S 8) (vA S 9) (vA S 10) (vA S 11) (vA S 12) (vA S 2) my qu ++ (wMS cI a (o + 17) (a o) (vh T) (vc T) ri2 (vA T 5) (vA T 6) (vA T 8) (vA T 9) (vA T 10) (vA T 11) (vA T 12) (vA T 2) my2 qu2))) H locs := HW
        refine W.eq (g2 := F0 m 38 ls [.int (0 : Int32)]) rfl ?_
        have hk : kJoin S (nI k) z = 1 := by first | (rw [kJoin]; rw [if_pos c10]) | (rw [kJoin]; rw [if_neg (fun h9 => h9 c10), if_pos c18])
        exact g_iret CX HW rfl ⟨S, 0, my, qu, T, ri2, my2, qu2, ⟨fun _ => rfl, fun h9 => absurd (hk.symm.trans h9) (by decide)⟩, hM, rfl, by rw [hk]⟩ dX5_choice_38
      · refine lv_aload_n hx hb dX5_choice_21 rfl (lv_at hl 0 rfl) ?_
        refine g_get CX HW in_X5_choice_5 0 8 rfl rfl (Nat.le_of_ble_eq_true rfl) fl_X5_choice_30 rfl dX5_choice_22 ?_
        refine lv_iload_n hx hb dX5_choice_25 rfl (lv_at hl 1 rfl) ?_
        refine lv_iload_n hx hb dX5_choice_26 rfl (lv_at hl 2 rfl) ?_
        refine g_callV CX HW hl.1 ([]) (wMS cI a (o + 17) (a o) (vh T) (vc T) ri2 (vA T 5) (vA T 6) (vA T 8) (vA T 9) (vA T 10) (vA T 11) (vA T 12) (vA T 2) my2 qu2) (c_X4_choice o (o + 6) S (0 : Int32) (sumP S) my qu k z (by omega) hI.1 (sl_pos hI)) rfl 6 rfl rfl gX5_choice_X4_choice rfl ⟨rfl, hd_X4_choice⟩ ⟨rfl, rfl, (Nat.le_of_ble_eq_true rfl), (Nat.le_of_ble_eq_true rfl)⟩ ⟨(Nat.zero_le _), (Nat.zero_le _)⟩ rfl rfl (Nat.le_of_ble_eq_true rfl) dX5_choice_27 (fun v w1 H locs hp HW => ?_)
        obtain ⟨rfl, rfl⟩ := hp
        have HW : Hw D A s (wMo cI a o (0 : Int32) (vA S 0) (vA S 1) (vr S) (vA S 3) (vA S 4) (vs S) (vA S 7) ++ (wMS cI a (o + 6) (a o) (vh S) (vc S) (sumP S) (vA S 5) (vA S 6) (vA S 8) (vA S 9) (vA S 10) (vA S 11) (vA S 12) (vA S 2) my qu ++ (wMS cI a (o + 17) (a o) (vh T) (vc T) ri2 (vA T 5) (vA T 6) (vA T 8) (vA T 9) (vA T 10) (vA T 11) (vA T 12) (vA T 2) my2 qu2))) H locs := HW
        refine W.eq (g2 := F0 m 30 ls [.int (oI (bestR (vA S 3) (vA S 4) (vA S 5) z (vA S 7 k + 1) (vr S)))]) rfl ?_
        refine lv_goto (tgt := 38) hx hb dX5_choice_30 (by decide) ?_
        have hk : kJoin S (nI k) z = 0 := by rw [kJoin]; rw [if_neg (fun h9 => h9 c10), if_neg (fun h9 => h9 c18)]
        exact g_iret CX HW rfl ⟨S, _, my, qu, T, ri2, my2, qu2, ⟨fun h9 => absurd hk h9, fun _ => ⟨(by rw [ek]), rfl⟩⟩, hM, rfl, by rw [hk]⟩ dX5_choice_38

theorem hd_X5_count : yX5_count.cls ≠ "java/lang/invoke/MethodHandle" ∧ yX5_count.cls ≠ "java/lang/invoke/VarHandle" ∧ (parseMethodDescriptor yX5_count.desc).map (fun d => d.parameters.length) = some 1 := by decide +kernel
theorem fl_X5_count_37 : Cond.fieldLink RX5 37 (TX5 0).1 (TX5 0).2.1 (TX5 0).2.2.1 ∈ wsX5_count := by decide +kernel
theorem in_X5_count_5 : ∀ x ∈ u_ws RX5 TX5 10, x ∈ wsX5_count := by decide +kernel
theorem fl_X5_count_30 : Cond.fieldLink RX5 30 (TX5 8).1 (TX5 8).2.1 (TX5 8).2.2.1 ∈ wsX5_count := by decide +kernel
set_option maxRecDepth 100000 in
set_option maxHeartbeats 4000000 in
theorem c_X5_count {l : Launch} {D : va_G} {cI cL : ClassId} {a : Nat → Nat} (o : Nat) (S : VS) (th : Int32) (my : Nat → Int32) (qu : Nat → Int32) (T : VS) (ri2 : Int32) (my2 : Nat → Int32) (qu2 : Nat → Int32) (z : Int32) (hI : Inv S) (hM : RepM (vq S) my qu) (hQ : Qk (vs S) (vq S)) (hU : QU (vq S)) (hh : vh S + 100 < 2 ^ 31) : Ct l yX5_count wsX5_count { frames := 3, cells := 0, slots := 0, locals := 64 } D (ty2 cI cL) [.ref (a o), .int z] (wMo cI a o th (vA S 0) (vA S 1) (vr S) (vA S 3) (vA S 4) (vs S) (vA S 7) ++ (wMS cI a (o + 6) (a o) (vh S) (vc S) (sumP S) (vA S 5) (vA S 6) (vA S 8) (vA S 9) (vA S 10) (vA S 11) (vA S 12) (vA S 2) my qu ++ (wMS cI a (o + 17) (a o) (vh T) (vc T) ri2 (vA T 5) (vA T 6) (vA T 8) (vA T 9) (vA T 10) (vA T 11) (vA T 12) (vA T 2) my2 qu2))) (fun v w' => ∃ (Z : VS) (r : Int32) (my' qu' : Nat → Int32) (T' : VS) (ri2' : Int32) (my2' qu2' : Nat → Int32), MOK (kCou z) (figV S (natI z)) S (S) Z r ∧ RepM (vq Z) my' qu' ∧ v = some (.int r) ∧ w' = wMo cI a o (kCou z) (vA Z 0) (vA Z 1) (vr Z) (vA Z 3) (vA Z 4) (vs Z) (vA Z 7) ++ (wMS cI a (o + 6) (a o) (vh Z) (vc Z) (sumP Z) (vA Z 5) (vA Z 6) (vA Z 8) (vA Z 9) (vA Z 10) (vA Z 11) (vA Z 12) (vA Z 2) my' qu' ++ (wMS cI a (o + 17) (a o) (vh T') (vc T') ri2' (vA T' 5) (vA T' 6) (vA T' 8) (vA T' 9) (vA T' 10) (vA T' 11) (vA T' 12) (vA T' 2) my2' qu2'))) 0 0 := by
  refine Ct.of (cc := cX5_count) (maxL := 2) (ret := (some .int)) (by decide) rfl (Nat.le_of_ble_eq_true rfl) ?_
  intro p e s m below meth c A ls CX hin HW hl
  obtain ⟨hx, hb, hml, hr, hown, hts, hK, hA, hlk⟩ := id CX
  have hl : lv_has ls 2 [(0, .ref (a o)), (1, .int z)] := hl
  have hn6 := hI.1
  have hn8 := hI.2.1
  refine lv_aload_n hx hb dX5_count_0 rfl (lv_at hl 0 rfl) ?_
  refine lv_iconst (v := 0) hx hb dX5_count_1 (by decide) ?_
  refine g_put CX HW in_X5_count_5 tyX5 tyX5_ok nmX5 0 0 rfl rfl (Nat.le_of_ble_eq_true rfl) fl_X5_count_37 rfl rfl rfl (Nat.le_of_ble_eq_true rfl) dX5_count_2 (fun H locs HW => ?_)
  have HW : Hw D A s (wMo cI a o (0 : Int32) (vA S 0) (vA S 1) (vr S) (vA S 3) (vA S 4) (vs S) (vA S 7) ++ (wMS cI a (o + 6) (a o) (vh S) (vc S) (sumP S) (vA S 5) (vA S 6) (vA S 8) (vA S 9) (vA S 10) (vA S 11) (vA S 12) (vA S 2) my qu ++ (wMS cI a (o + 17) (a o) (vh T) (vc T) ri2 (vA T 5) (vA T 6) (vA T 8) (vA T 9) (vA T 10) (vA T 11) (vA T 12) (vA T 2) my2 qu2))) H locs := HW
  refine lv_iload_n hx hb dX5_count_5 rfl (lv_at hl 1 rfl) ?_
  refine lv_iconst (v := 0) hx hb dX5_count_6 (by decide) ?_
  refine lv_bipush (v := 8) hx hb dX5_count_7 (by decide) ?_
  refine g_callS CX HW hl.1 ([]) (wMo cI a o (0 : Int32) (vA S 0) (vA S 1) (vr S) (vA S 3) (vA S 4) (vs S) (vA S 7) ++ (wMS cI a (o + 6) (a o) (vh S) (vc S) (sumP S) (vA S 5) (vA S 6) (vA S 8) (vA S 9) (vA S 10) (vA S 11) (vA S 12) (vA S 2) my qu ++ (wMS cI a (o + 17) (a o) (vh T) (vc T) ri2 (vA T 5) (vA T 6) (vA T 8) (vA T 9) (vA T 10) (vA T 11) (vA T 12) (vA T 2) my2 qu2))) (c_X5_isIn z (0 : Int32) (8 : Int32)) rfl gX5_count_X5_isIn rfl hd_X5_isIn ⟨rfl, rfl, (Nat.le_of_ble_eq_true rfl), (Nat.le_of_ble_eq_true rfl)⟩ ⟨(Nat.zero_le _), (Nat.zero_le _)⟩ rfl rfl (Nat.le_of_ble_eq_true rfl) dX5_count_9 (fun v w1 H locs hp HW => ?_)
  obtain ⟨rfl, rfl⟩ := hp
  have HW : Hw D A s (wMo cI a o (0 : Int32) (vA S 0) (vA S 1) (vr S) (vA S 3) (vA S 4) (vs S) (vA S 7) ++ (wMS cI a (o + 6) (a o) (vh S) (vc S) (sumP S) (vA S 5) (vA S 6) (vA S 8) (vA S 9) (vA S 10) (vA S 11) (vA S 12) (vA S 2) my qu ++ (wMS cI a (o + 17) (a o) (vh T) (vc T) ri2 (vA T 5) (vA T 6) (vA T 8) (vA T 9) (vA T 10) (vA T 11) (vA T 12) (vA T 2) my2 qu2))) H locs := HW
  refine W.eq (g2 := F0 m 12 ls [.int (bI ((0 : Int32) ≤ z ∧ z ≤ (8 : Int32)))]) rfl ?_
  refine g_ifeq_b (tgt := 26) hx hb dX5_count_12 (by decide) (fun c12 => ?_) (fun c12 => ?_)
  · refine lv_aload_n hx hb dX5_count_26 rfl (lv_at hl 0 rfl) ?_
    refine lv_iconst (v := 1) hx hb dX5_count_27 (by decide) ?_
    refine g_callV CX HW hl.1 ([]) (wMS cI a (o + 6) (a o) (vh S) (vc S) (sumP S) (vA S 5) (vA S 6) (vA S 8) (vA S 9) (vA S 10) (vA S 11) (vA S 12) (vA S 2) my qu ++ (wMS cI a (o + 17) (a o) (vh T) (vc T) ri2 (vA T 5) (vA T 6) (vA T 8) (vA T 9) (vA T 10) (vA T 11) (vA T 12) (vA T 2) my2 qu2)) (c_X5_no o S (0 : Int32) (1 : Int32)) rfl 0 rfl rfl gX5_count_X5_no rfl ⟨rfl, hd_X5_no⟩ ⟨rfl, rfl, (Nat.le_of_ble_eq_true rfl), (Nat.le_of_ble_eq_true rfl)⟩ ⟨(Nat.zero_le _), (Nat.zero_le _)⟩ rfl rfl (Nat.le_of_ble_eq_true rfl) dX5_count_28 (fun v w1 H locs hp HW => ?_)
    obtain ⟨rfl, rfl⟩ := hp
    have HW : Hw D A s (wMo cI a o (1 : Int32) (vA S 0) (vA S 1) (vr S) (vA S 3) (vA S 4) (vs S) (vA S 7) ++ (wMS cI a (o + 6) (a o) (vh S) (vc S) (sumP S) (vA S 5) (vA S 6) (vA S 8) (vA S 9) (vA S 10) (vA S 11) (vA S 12) (vA S 2) my qu ++ (wMS cI a (o + 17) (a o) (vh T) (vc T) ri2 (vA T 5) (vA T 6) (vA T 8) (vA T 9) (vA T 10) (vA T 11) (vA T 12) (vA T 2) my2 qu2))) H locs := HW
    refine W.eq (g2 := F0 m 31 ls [.int (0 : Int32)]) rfl ?_
    have hk : kCou z = 1 := by first | (rw [kCou]; rw [if_pos c12])
    exact g_iret CX HW rfl ⟨S, 0, my, qu, T, ri2, my2, qu2, ⟨fun _ => rfl, fun h9 => absurd (hk.symm.trans h9) (by decide)⟩, hM, rfl, by rw [hk]⟩ dX5_count_31
  · obtain ⟨j, hj, rfl⟩ := wi_nat 8 (by decide) c12
    have ej : natI (nI j) = j := natI_nI (by omega)
    · refine lv_aload_n hx hb dX5_count_15 rfl (lv_at hl 0 rfl) ?_
      refine g_get CX HW in_X5_count_5 0 8 rfl rfl (Nat.le_of_ble_eq_true rfl) fl_X5_count_30 rfl dX5_count_16 ?_
      refine lv_iload_n hx hb dX5_count_19 rfl (lv_at hl 1 rfl) ?_
      refine g_callV CX HW hl.1 ([]) (wMS cI a (o + 17) (a o) (vh T) (vc T) ri2 (vA T 5) (vA T 6) (vA T 8) (vA T 9) (vA T 10) (vA T 11) (vA T 12) (vA T 2) my2 qu2) (c_X4_counted o (o + 6) S (0 : Int32) my qu j hM hn6 hn8 (by omega) (by omega)) rfl 6 rfl rfl gX5_count_X4_counted rfl ⟨rfl, hd_X4_counted⟩ ⟨rfl, rfl, (Nat.le_of_ble_eq_true rfl), (Nat.le_of_ble_eq_true rfl)⟩ ⟨(Nat.zero_le _), (Nat.zero_le _)⟩ rfl rfl (Nat.le_of_ble_eq_true rfl) dX5_count_20 (fun v w1 H locs hp HW => ?_)
      obtain ⟨rfl, rfl⟩ := hp
      have HW : Hw D A s (wMo cI a o (0 : Int32) (vA S 0) (vA S 1) (vr S) (vA S 3) (vA S 4) (vs S) (vA S 7) ++ (wMS cI a (o + 6) (a o) (vh S) (vc S) (sumP S) (vA S 5) (vA S 6) (vA S 8) (vA S 9) (vA S 10) (vA S 11) (vA S 12) (vA S 2) my qu ++ (wMS cI a (o + 17) (a o) (vh T) (vc T) ri2 (vA T 5) (vA T 6) (vA T 8) (vA T 9) (vA T 10) (vA T 11) (vA T 12) (vA T 2) my2 qu2))) H locs := HW
      refine W.eq (g2 := F0 m 23 ls [.int (figV S j)]) rfl ?_
      refine lv_goto (tgt := 31) hx hb dX5_count_23 (by decide) ?_
      have hk : kCou (nI j) = 0 := by rw [kCou]; rw [if_neg (fun h9 => h9 c12)]
      exact g_iret CX HW rfl ⟨S, _, my, qu, T, ri2, my2, qu2, ⟨fun h9 => absurd hk h9, fun _ => ⟨(by rw [ej]), rfl⟩⟩, hM, rfl, by rw [hk]⟩ dX5_count_31

theorem hd_X5_pass : yX5_pass.cls ≠ "java/lang/invoke/MethodHandle" ∧ yX5_pass.cls ≠ "java/lang/invoke/VarHandle" ∧ (parseMethodDescriptor yX5_pass.desc).map (fun d => d.parameters.length) = some 1 := by decide +kernel
theorem fl_X5_pass_37 : Cond.fieldLink RX5 37 (TX5 0).1 (TX5 0).2.1 (TX5 0).2.2.1 ∈ wsX5_pass := by decide +kernel
theorem in_X5_pass_5 : ∀ x ∈ u_ws RX5 TX5 10, x ∈ wsX5_pass := by decide +kernel
theorem fl_X5_pass_30 : Cond.fieldLink RX5 30 (TX5 8).1 (TX5 8).2.1 (TX5 8).2.2.1 ∈ wsX5_pass := by decide +kernel
theorem in_X5_pass_4 : ∀ x ∈ u_ws RX4 TX4 14, x ∈ wsX5_pass := by decide +kernel
set_option maxRecDepth 100000 in
set_option maxHeartbeats 4000000 in
theorem c_X5_pass {l : Launch} {D : va_G} {cI cL : ClassId} {a : Nat → Nat} (o : Nat) (S : VS) (th : Int32) (my : Nat → Int32) (qu : Nat → Int32) (T : VS) (ri2 : Int32) (my2 : Nat → Int32) (qu2 : Nat → Int32) (z : Int32) (hI : Inv S) (hM : RepM (vq S) my qu) (hQ : Qk (vs S) (vq S)) (hU : QU (vq S)) (hh : vh S + 100 < 2 ^ 31) : Ct l yX5_pass wsX5_pass { frames := 6, cells := 0, slots := 0, locals := 137 } D (ty2 cI cL) [.ref (a o), .int z] (wMo cI a o th (vA S 0) (vA S 1) (vr S) (vA S 3) (vA S 4) (vs S) (vA S 7) ++ (wMS cI a (o + 6) (a o) (vh S) (vc S) (sumP S) (vA S 5) (vA S 6) (vA S 8) (vA S 9) (vA S 10) (vA S 11) (vA S 12) (vA S 2) my qu ++ (wMS cI a (o + 17) (a o) (vh T) (vc T) ri2 (vA T 5) (vA T 6) (vA T 8) (vA T 9) (vA T 10) (vA T 11) (vA T 12) (vA T 2) my2 qu2))) (fun v w' => ∃ (Z : VS) (r : Int32) (my' qu' : Nat → Int32) (T' : VS) (ri2' : Int32) (my2' qu2' : Nat → Int32), MOK (kPas z) (sumP (hoursS (natI z) S) - sumP S) S (hoursS (natI z) S) Z r ∧ RepM (vq Z) my' qu' ∧ v = some (.int r) ∧ w' = wMo cI a o (kPas z) (vA Z 0) (vA Z 1) (vr Z) (vA Z 3) (vA Z 4) (vs Z) (vA Z 7) ++ (wMS cI a (o + 6) (a o) (vh Z) (vc Z) (sumP Z) (vA Z 5) (vA Z 6) (vA Z 8) (vA Z 9) (vA Z 10) (vA Z 11) (vA Z 12) (vA Z 2) my' qu' ++ (wMS cI a (o + 17) (a o) (vh T') (vc T') ri2' (vA T' 5) (vA T' 6) (vA T' 8) (vA T' 9) (vA T' 10) (vA T' 11) (vA T' 12) (vA T' 2) my2' qu2'))) 0 0 := by
  refine Ct.of (cc := cX5_pass) (maxL := 3) (ret := (some .int)) (by decide) rfl (Nat.le_of_ble_eq_true rfl) ?_
  intro p e s m below meth c A ls CX hin HW hl
  obtain ⟨hx, hb, hml, hr, hown, hts, hK, hA, hlk⟩ := id CX
  have hl : lv_has ls 3 [(0, .ref (a o)), (1, .int z)] := hl
  have hn6 := hI.1
  have hn8 := hI.2.1
  refine lv_aload_n hx hb dX5_pass_0 rfl (lv_at hl 0 rfl) ?_
  refine lv_iconst (v := 0) hx hb dX5_pass_1 (by decide) ?_
  refine g_put CX HW in_X5_pass_5 tyX5 tyX5_ok nmX5 0 0 rfl rfl (Nat.le_of_ble_eq_true rfl) fl_X5_pass_37 rfl rfl rfl (Nat.le_of_ble_eq_true rfl) dX5_pass_2 (fun H locs HW => ?_)
  have HW : Hw D A s (wMo cI a o (0 : Int32) (vA S 0) (vA S 1) (vr S) (vA S 3) (vA S 4) (vs S) (vA S 7) ++ (wMS cI a (o + 6) (a o) (vh S) (vc S) (sumP S) (vA S 5) (vA S 6) (vA S 8) (vA S 9) (vA S 10) (vA S 11) (vA S 12) (vA S 2) my qu ++ (wMS cI a (o + 17) (a o) (vh T) (vc T) ri2 (vA T 5) (vA T 6) (vA T 8) (vA T 9) (vA T 10) (vA T 11) (vA T 12) (vA T 2) my2 qu2))) H locs := HW
  refine lv_iload_n hx hb dX5_pass_5 rfl (lv_at hl 1 rfl) ?_
  refine lv_iconst (v := 1) hx hb dX5_pass_6 (by decide) ?_
  refine lv_bipush (v := 60) hx hb dX5_pass_7 (by decide) ?_
  refine g_callS CX HW hl.1 ([]) (wMo cI a o (0 : Int32) (vA S 0) (vA S 1) (vr S) (vA S 3) (vA S 4) (vs S) (vA S 7) ++ (wMS cI a (o + 6) (a o) (vh S) (vc S) (sumP S) (vA S 5) (vA S 6) (vA S 8) (vA S 9) (vA S 10) (vA S 11) (vA S 12) (vA S 2) my qu ++ (wMS cI a (o + 17) (a o) (vh T) (vc T) ri2 (vA T 5) (vA T 6) (vA T 8) (vA T 9) (vA T 10) (vA T 11) (vA T 12) (vA T 2) my2 qu2))) (c_X5_isIn z (1 : Int32) (60 : Int32)) rfl gX5_pass_X5_isIn rfl hd_X5_isIn ⟨rfl, rfl, (Nat.le_of_ble_eq_true rfl), (Nat.le_of_ble_eq_true rfl)⟩ ⟨(Nat.zero_le _), (Nat.zero_le _)⟩ rfl rfl (Nat.le_of_ble_eq_true rfl) dX5_pass_9 (fun v w1 H locs hp HW => ?_)
  obtain ⟨rfl, rfl⟩ := hp
  have HW : Hw D A s (wMo cI a o (0 : Int32) (vA S 0) (vA S 1) (vr S) (vA S 3) (vA S 4) (vs S) (vA S 7) ++ (wMS cI a (o + 6) (a o) (vh S) (vc S) (sumP S) (vA S 5) (vA S 6) (vA S 8) (vA S 9) (vA S 10) (vA S 11) (vA S 12) (vA S 2) my qu ++ (wMS cI a (o + 17) (a o) (vh T) (vc T) ri2 (vA T 5) (vA T 6) (vA T 8) (vA T 9) (vA T 10) (vA T 11) (vA T 12) (vA T 2) my2 qu2))) H locs := HW
  refine W.eq (g2 := F0 m 12 ls [.int (bI ((1 : Int32) ≤ z ∧ z ≤ (60 : Int32)))]) rfl ?_
  refine g_ifne_b (tgt := 21) hx hb dX5_pass_12 (by decide) (fun c12 => ?_) (fun c12 => ?_)
  · obtain ⟨j, hj1, hj, rfl⟩ := wi1_nat 60 (by decide) c12
    have ej : natI (nI j) = j := natI_nI (by omega)
    · refine lv_aload_n hx hb dX5_pass_21 rfl (lv_at hl 0 rfl) ?_
      refine g_get CX HW in_X5_pass_5 0 8 rfl rfl (Nat.le_of_ble_eq_true rfl) fl_X5_pass_30 rfl dX5_pass_22 ?_
      refine g_getN (host := "PommelTowsModel") CX HW in_X5_pass_4 6 2 rfl rfl (Nat.le_of_ble_eq_true rfl) (by decide +kernel) rfl dX5_pass_25 ?_
      refine lv_istore_n (lv' := [(2, .int (sumP S)), (0, .ref (a o)), (1, .int (nI j))]) hx hb dX5_pass_28 rfl hl (Nat.le_of_ble_eq_true rfl) rfl (fun ls hl => ?_)
      refine lv_aload_n hx hb dX5_pass_29 rfl (lv_at hl 1 rfl) ?_
      refine g_get CX HW in_X5_pass_5 0 8 rfl rfl (Nat.le_of_ble_eq_true rfl) fl_X5_pass_30 rfl dX5_pass_30 ?_
      refine lv_iload_n hx hb dX5_pass_33 rfl (lv_at hl 2 rfl) ?_
      refine g_callV CX HW hl.1 ([]) (wMS cI a (o + 17) (a o) (vh T) (vc T) ri2 (vA T 5) (vA T 6) (vA T 8) (vA T 9) (vA T 10) (vA T 11) (vA T 12) (vA T 2) my2 qu2) (c_X4_pass_ o (o + 6) S (0 : Int32) my qu j hI hQ hM (by omega) (by omega)) rfl 6 rfl rfl gX5_pass_X4_pass_ rfl ⟨rfl, hd_X4_pass_⟩ ⟨rfl, rfl, (Nat.le_of_ble_eq_true rfl), (Nat.le_of_ble_eq_true rfl)⟩ ⟨(Nat.zero_le _), (Nat.zero_le _)⟩ rfl rfl (Nat.le_of_ble_eq_true rfl) dX5_pass_34 (fun v w1 H locs hp HW => ?_)
      obtain ⟨my'_1, qu'_1, hM9_1, rfl, rfl⟩ := hp
      have HW : Hw D A s (wMo cI a o (0 : Int32) (vA (hoursS j S) 0) (vA (hoursS j S) 1) (vr (hoursS j S)) (vA (hoursS j S) 3) (vA (hoursS j S) 4) (vs (hoursS j S)) (vA (hoursS j S) 7) ++ (wMS cI a (o + 6) (a o) (vh (hoursS j S)) (vc (hoursS j S)) (sumP (hoursS j S)) (vA (hoursS j S) 5) (vA (hoursS j S) 6) (vA (hoursS j S) 8) (vA (hoursS j S) 9) (vA (hoursS j S) 10) (vA (hoursS j S) 11) (vA (hoursS j S) 12) (vA (hoursS j S) 2) my'_1 qu'_1 ++ (wMS cI a (o + 17) (a o) (vh T) (vc T) ri2 (vA T 5) (vA T 6) (vA T 8) (vA T 9) (vA T 10) (vA T 11) (vA T 12) (vA T 2) my2 qu2))) H locs := HW
      refine W.eq (g2 := F0 m 37 ls []) rfl ?_
      refine lv_aload_n hx hb dX5_pass_37 rfl (lv_at hl 1 rfl) ?_
      refine g_get CX HW in_X5_pass_5 0 8 rfl rfl (Nat.le_of_ble_eq_true rfl) fl_X5_pass_30 rfl dX5_pass_38 ?_
      refine g_getN (host := "PommelTowsModel") CX HW in_X5_pass_4 6 2 rfl rfl (Nat.le_of_ble_eq_true rfl) (by decide +kernel) rfl dX5_pass_41 ?_
      refine lv_iload_n hx hb dX5_pass_44 rfl (lv_at hl 0 rfl) ?_
      refine lv_isub hx hb dX5_pass_45 ?_
      have hk : kPas (nI j) = 0 := by rw [kPas]; rw [if_neg (fun h9 => h9 c12)]
      exact g_iret CX HW rfl ⟨hoursS (natI (nI j)) S, _, my'_1, qu'_1, T, ri2, my2, qu2, ⟨fun h9 => absurd hk h9, fun _ => ⟨(by rw [ej]), rfl⟩⟩, (by rw [ej]; exact hM9_1), rfl, by rw [hk, ej] <;> rfl⟩ dX5_pass_46
  · refine lv_aload_n hx hb dX5_pass_15 rfl (lv_at hl 0 rfl) ?_
    refine lv_iconst (v := 1) hx hb dX5_pass_16 (by decide) ?_
    refine g_callV CX HW hl.1 ([]) (wMS cI a (o + 6) (a o) (vh S) (vc S) (sumP S) (vA S 5) (vA S 6) (vA S 8) (vA S 9) (vA S 10) (vA S 11) (vA S 12) (vA S 2) my qu ++ (wMS cI a (o + 17) (a o) (vh T) (vc T) ri2 (vA T 5) (vA T 6) (vA T 8) (vA T 9) (vA T 10) (vA T 11) (vA T 12) (vA T 2) my2 qu2)) (c_X5_no o S (0 : Int32) (1 : Int32)) rfl 0 rfl rfl gX5_pass_X5_no rfl ⟨rfl, hd_X5_no⟩ ⟨rfl, rfl, (Nat.le_of_ble_eq_true rfl), (Nat.le_of_ble_eq_true rfl)⟩ ⟨(Nat.zero_le _), (Nat.zero_le _)⟩ rfl rfl (Nat.le_of_ble_eq_true rfl) dX5_pass_17 (fun v w1 H locs hp HW => ?_)
    obtain ⟨rfl, rfl⟩ := hp
    have HW : Hw D A s (wMo cI a o (1 : Int32) (vA S 0) (vA S 1) (vr S) (vA S 3) (vA S 4) (vs S) (vA S 7) ++ (wMS cI a (o + 6) (a o) (vh S) (vc S) (sumP S) (vA S 5) (vA S 6) (vA S 8) (vA S 9) (vA S 10) (vA S 11) (vA S 12) (vA S 2) my qu ++ (wMS cI a (o + 17) (a o) (vh T) (vc T) ri2 (vA T 5) (vA T 6) (vA T 8) (vA T 9) (vA T 10) (vA T 11) (vA T 12) (vA T 2) my2 qu2))) H locs := HW
    refine W.eq (g2 := F0 m 20 ls [.int (0 : Int32)]) rfl ?_
    have hk : kPas z = 1 := by first | (rw [kPas]; rw [if_pos c12])
    exact g_iret CX HW rfl ⟨S, 0, my, qu, T, ri2, my2, qu2, ⟨fun _ => rfl, fun h9 => absurd (hk.symm.trans h9) (by decide)⟩, hM, rfl, by rw [hk]⟩ dX5_pass_20
