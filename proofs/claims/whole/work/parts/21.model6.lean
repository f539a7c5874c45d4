section HP2
variable {D : va_G} {A : Nat → Prop} {s : State} {H : Heap} {locs : List Loc}
theorem Hw.sw2 {a b c : va_W} (h : Hw D A s (a ++ (b ++ c)) H locs) : Hw D A s (a ++ (c ++ b)) H locs := by
  have h1 : Hw D A s (a ++ (b ++ (c ++ []))) H locs := by rw [List.append_nil]; exact h
  have h2 := h1.sw
  rw [List.append_nil] at h2; exact h2
end HP2
theorem mod_hours {cI : ClassId} {a : Nat → Nat} {om : Nat} {th : Int32} {n : Nat} {S : VS} : wMo cI a om th (vA (hoursS n S) 0) (vA (hoursS n S) 1) (vr (hoursS n S)) (vA (hoursS n S) 3) (vA (hoursS n S) 4) (vs (hoursS n S)) (vA (hoursS n S) 7) = wMo cI a om th (vA S 0) (vA S 1) (vr S) (vA S 3) (vA S 4) (vs S) (vA S 7) := by
  rw [vr_hoursS, vs_hoursS, vA_hoursS (i := 0) (by decide) (by decide), vA_hoursS (i := 1) (by decide) (by decide), vA_hoursS (i := 3) (by decide) (by decide), vA_hoursS (i := 4) (by decide) (by decide), vA_hoursS (i := 7) (by decide) (by decide)]
theorem hd_X5_foresee : yX5_foresee.cls ≠ "java/lang/invoke/MethodHandle" ∧ yX5_foresee.cls ≠ "java/lang/invoke/VarHandle" ∧ (parseMethodDescriptor yX5_foresee.desc).map (fun d => d.parameters.length) = some 2 := by decide +kernel
theorem fl_X5_foresee_37 : Cond.fieldLink RX5 37 (TX5 0).1 (TX5 0).2.1 (TX5 0).2.2.1 ∈ wsX5_foresee := by decide +kernel
theorem in_X5_foresee_5 : ∀ x ∈ u_ws RX5 TX5 10, x ∈ wsX5_foresee := by decide +kernel
theorem fl_X5_foresee_34 : Cond.fieldLink RX5 34 (TX5 9).1 (TX5 9).2.1 (TX5 9).2.2.1 ∈ wsX5_foresee := by decide +kernel
theorem fl_X5_foresee_30 : Cond.fieldLink RX5 30 (TX5 8).1 (TX5 8).2.1 (TX5 8).2.2.1 ∈ wsX5_foresee := by decide +kernel
set_option maxRecDepth 100000 in
set_option maxHeartbeats 4000000 in
theorem c_X5_foresee {l : Launch} {D : va_G} {cI cL : ClassId} {a : Nat → Nat} (o : Nat) (S : VS) (th : Int32) (my : Nat → Int32) (qu : Nat → Int32) (T : VS) (ri2 : Int32) (my2 : Nat → Int32) (qu2 : Nat → Int32) (z : Int32) (y : Int32) (hI : Inv S) (hM : RepM (vq S) my qu) (hQ : Qk (vs S) (vq S)) (hU : QU (vq S)) (hh : vh S + 100 < 2 ^ 31) : Ct l yX5_foresee wsX5_foresee { frames := 6, cells := 0, slots := 0, locals := 137 } D (ty2 cI cL) [.ref (a o), .int z, .int y] (wMo cI a o th (vA S 0) (vA S 1) (vr S) (vA S 3) (vA S 4) (vs S) (vA S 7) ++ (wMS cI a (o + 6) (a o) (vh S) (vc S) (sumP S) (vA S 5) (vA S 6) (vA S 8) (vA S 9) (vA S 10) (vA S 11) (vA S 12) (vA S 2) my qu ++ (wMS cI a (o + 17) (a o) (vh T) (vc T) ri2 (vA T 5) (vA T 6) (vA T 8) (vA T 9) (vA T 10) (vA T 11) (vA T 12) (vA T 2) my2 qu2))) (fun v w' => ∃ (Z : VS) (r : Int32) (my' qu' : Nat → Int32) (T' : VS) (ri2' : Int32) (my2' qu2' : Nat → Int32), MOK (kFor z y) (figV (hoursS (natI z) S) (natI y)) S (S) Z r ∧ RepM (vq Z) my' qu' ∧ v = some (.int r) ∧ w' = wMo cI a o (kFor z y) (vA Z 0) (vA Z 1) (vr Z) (vA Z 3) (vA Z 4) (vs Z) (vA Z 7) ++ (wMS cI a (o + 6) (a o) (vh Z) (vc Z) (sumP Z) (vA Z 5) (vA Z 6) (vA Z 8) (vA Z 9) (vA Z 10) (vA Z 11) (vA Z 12) (vA Z 2) my' qu' ++ (wMS cI a (o + 17) (a o) (vh T') (vc T') ri2' (vA T' 5) (vA T' 6) (vA T' 8) (vA T' 9) (vA T' 10) (vA T' 11) (vA T' 12) (vA T' 2) my2' qu2'))) 0 0 := by
  refine Ct.of (cc := cX5_foresee) (maxL := 3) (ret := (some .int)) (by decide) rfl (Nat.le_of_ble_eq_true rfl) ?_
  intro p e s m below meth c A ls CX hin HW hl
  obtain ⟨hx, hb, hml, hr, hown, hts, hK, hA, hlk⟩ := id CX
  have hl : lv_has ls 3 [(0, .ref (a o)), (1, .int z), (2, .int y)] := hl
  have hn6 := hI.1
  have hn8 := hI.2.1
  refine lv_aload_n hx hb dX5_foresee_0 rfl (lv_at hl 0 rfl) ?_
  refine lv_iconst (v := 0) hx hb dX5_foresee_1 (by decide) ?_
  refine g_put CX HW in_X5_foresee_5 tyX5 tyX5_ok nmX5 0 0 rfl rfl (Nat.le_of_ble_eq_true rfl) fl_X5_foresee_37 rfl rfl rfl (Nat.le_of_ble_eq_true rfl) dX5_foresee_2 (fun H locs HW => ?_)
  have HW : Hw D A s (wMo cI a o (0 : Int32) (vA S 0) (vA S 1) (vr S) (vA S 3) (vA S 4) (vs S) (vA S 7) ++ (wMS cI a (o + 6) (a o) (vh S) (vc S) (sumP S) (vA S 5) (vA S 6) (vA S 8) (vA S 9) (vA S 10) (vA S 11) (vA S 12) (vA S 2) my qu ++ (wMS cI a (o + 17) (a o) (vh T) (vc T) ri2 (vA T 5) (vA T 6) (vA T 8) (vA T 9) (vA T 10) (vA T 11) (vA T 12) (vA T 2) my2 qu2))) H locs := HW
  refine lv_iload_n hx hb dX5_foresee_5 rfl (lv_at hl 1 rfl) ?_
  refine lv_iconst (v := 1) hx hb dX5_foresee_6 (by decide) ?_
  refine lv_bipush (v := 60) hx hb dX5_foresee_7 (by decide) ?_
  refine g_callS CX HW hl.1 ([]) (wMo cI a o (0 : Int32) (vA S 0) (vA S 1) (vr S) (vA S 3) (vA S 4) (vs S) (vA S 7) ++ (wMS cI a (o + 6) (a o) (vh S) (vc S) (sumP S) (vA S 5) (vA S 6) (vA S 8) (vA S 9) (vA S 10) (vA S 11) (vA S 12) (vA S 2) my qu ++ (wMS cI a (o + 17) (a o) (vh T) (vc T) ri2 (vA T 5) (vA T 6) (vA T 8) (vA T 9) (vA T 10) (vA T 11) (vA T 12) (vA T 2) my2 qu2))) (c_X5_isIn z (1 : Int32) (60 : Int32)) rfl gX5_foresee_X5_isIn rfl hd_X5_isIn ⟨rfl, rfl, (Nat.le_of_ble_eq_true rfl), (Nat.le_of_ble_eq_true rfl)⟩ ⟨(Nat.zero_le _), (Nat.zero_le _)⟩ rfl rfl (Nat.le_of_ble_eq_true rfl) dX5_foresee_9 (fun v w1 H locs hp HW => ?_)
  obtain ⟨rfl, rfl⟩ := hp
  have HW : Hw D A s (wMo cI a o (0 : Int32) (vA S 0) (vA S 1) (vr S) (vA S 3) (vA S 4) (vs S) (vA S 7) ++ (wMS cI a (o + 6) (a o) (vh S) (vc S) (sumP S) (vA S 5) (vA S 6) (vA S 8) (vA S 9) (vA S 10) (vA S 11) (vA S 12) (vA S 2) my qu ++ (wMS cI a (o + 17) (a o) (vh T) (vc T) ri2 (vA T 5) (vA T 6) (vA T 8) (vA T 9) (vA T 10) (vA T 11) (vA T 12) (vA T 2) my2 qu2))) H locs := HW
  refine W.eq (g2 := F0 m 12 ls [.int (bI ((1 : Int32) ≤ z ∧ z ≤ (60 : Int32)))]) rfl ?_
  refine g_ifne_b (tgt := 21) hx hb dX5_foresee_12 (by decide) (fun c12 => ?_) (fun c12 => ?_)
  · obtain ⟨j, hj1, hj, rfl⟩ := wi1_nat 60 (by decide) c12
    have ej : natI (nI j) = j := natI_nI (by omega)
    · refine lv_iload_n hx hb dX5_foresee_21 rfl (lv_at hl 2 rfl) ?_
      refine lv_iconst (v := 0) hx hb dX5_foresee_22 (by decide) ?_
      refine lv_bipush (v := 8) hx hb dX5_foresee_23 (by decide) ?_
      refine g_callS CX HW hl.1 ([]) (wMo cI a o (0 : Int32) (vA S 0) (vA S 1) (vr S) (vA S 3) (vA S 4) (vs S) (vA S 7) ++ (wMS cI a (o + 6) (a o) (vh S) (vc S) (sumP S) (vA S 5) (vA S 6) (vA S 8) (vA S 9) (vA S 10) (vA S 11) (vA S 12) (vA S 2) my qu ++ (wMS cI a (o + 17) (a o) (vh T) (vc T) ri2 (vA T 5) (vA T 6) (vA T 8) (vA T 9) (vA T 10) (vA T 11) (vA T 12) (vA T 2) my2 qu2))) (c_X5_isIn y (0 : Int32) (8 : Int32)) rfl gX5_foresee_X5_isIn rfl hd_X5_isIn ⟨rfl, rfl, (Nat.le_of_ble_eq_true rfl), (Nat.le_of_ble_eq_true rfl)⟩ ⟨(Nat.zero_le _), (Nat.zero_le _)⟩ rfl rfl (Nat.le_of_ble_eq_true rfl) dX5_foresee_25 (fun v w1 H locs hp HW => ?_)
      obtain ⟨rfl, rfl⟩ := hp
      have HW : Hw D A s (wMo cI a o (0 : Int32) (vA S 0) (vA S 1) (vr S) (vA S 3) (vA S 4) (vs S) (vA S 7) ++ (wMS cI a (o + 6) (a o) (vh S) (vc S) (sumP S) (vA S 5) (vA S 6) (vA S 8) (vA S 9) (vA S 10) (vA S 11) (vA S 12) (vA S 2) my qu ++ (wMS cI a (o + 17) (a o) (vh T) (vc T) ri2 (vA T 5) (vA T 6) (vA T 8) (vA T 9) (vA T 10) (vA T 11) (vA T 12) (vA T 2) my2 qu2))) H locs := HW
      refine W.eq (g2 := F0 m 28 ls [.int (bI ((0 : Int32) ≤ y ∧ y ≤ (8 : Int32)))]) rfl ?_
      refine g_ifne_b (tgt := 37) hx hb dX5_foresee_28 (by decide) (fun c28 => ?_) (fun c28 => ?_)
      · obtain ⟨w, hw, rfl⟩ := wi_nat 8 (by decide) c28
        have ew : natI (nI w) = w := natI_nI (by omega)
        · refine lv_aload_n hx hb dX5_foresee_37 rfl (lv_at hl 0 rfl) ?_
          refine g_get CX HW in_X5_foresee_5 0 9 rfl rfl (Nat.le_of_ble_eq_true rfl) fl_X5_foresee_34 rfl dX5_foresee_38 ?_
          refine lv_aload_n hx hb dX5_foresee_41 rfl (lv_at hl 0 rfl) ?_
          refine g_get CX HW in_X5_foresee_5 0 8 rfl rfl (Nat.le_of_ble_eq_true rfl) fl_X5_foresee_30 rfl dX5_foresee_42 ?_
          refine g_callV CX HW hl.1 (wMo cI a o (0 : Int32) (vA S 0) (vA S 1) (vr S) (vA S 3) (vA S 4) (vs S) (vA S 7)) ([]) (c_X4_become o (o + 6) (o + 17) S T ri2 my qu my2 qu2) rfl 11 rfl rfl gX5_foresee_X4_become rfl ⟨rfl, hd_X4_become⟩ ⟨rfl, rfl, (Nat.le_of_ble_eq_true rfl), (Nat.le_of_ble_eq_true rfl)⟩ ⟨(Nat.zero_le _), (Nat.zero_le _)⟩ rfl rfl (Nat.le_of_ble_eq_true rfl) dX5_foresee_45 (fun v w1 H locs hp HW => ?_)
          obtain ⟨rfl, rfl⟩ := hp
          have HW : Hw D A s (wMo cI a o (0 : Int32) (vA S 0) (vA S 1) (vr S) (vA S 3) (vA S 4) (vs S) (vA S 7) ++ (wMS cI a (o + 6) (a o) (vh S) (vc S) (sumP S) (vA S 5) (vA S 6) (vA S 8) (vA S 9) (vA S 10) (vA S 11) (vA S 12) (vA S 2) my qu ++ (wMS cI a (o + 17) (a o) (vh S) (vc S) (sumP S) (vA S 5) (vA S 6) (vA S 8) (vA S 9) (vA S 10) (vA S 11) (vA S 12) (vA S 2) my qu))) H locs := HW
          refine W.eq (g2 := F0 m 48 ls []) rfl ?_
          have HW : Hw D A s (wMo cI a o (0 : Int32) (vA S 0) (vA S 1) (vr S) (vA S 3) (vA S 4) (vs S) (vA S 7) ++ (wMS cI a (o + 17) (a o) (vh S) (vc S) (sumP S) (vA S 5) (vA S 6) (vA S 8) (vA S 9) (vA S 10) (vA S 11) (vA S 12) (vA S 2) my qu ++ (wMS cI a (o + 6) (a o) (vh S) (vc S) (sumP S) (vA S 5) (vA S 6) (vA S 8) (vA S 9) (vA S 10) (vA S 11) (vA S 12) (vA S 2) my qu))) H locs := Hw.sw2 HW
          refine lv_aload_n hx hb dX5_foresee_48 rfl (lv_at hl 0 rfl) ?_
          refine g_get CX HW in_X5_foresee_5 0 9 rfl rfl (Nat.le_of_ble_eq_true rfl) fl_X5_foresee_34 rfl dX5_foresee_49 ?_
          refine lv_iload_n hx hb dX5_foresee_52 rfl (lv_at hl 1 rfl) ?_
          refine g_callV CX HW hl.1 ([]) (wMS cI a (o + 6) (a o) (vh S) (vc S) (sumP S) (vA S 5) (vA S 6) (vA S 8) (vA S 9) (vA S 10) (vA S 11) (vA S 12) (vA S 2) my qu) (c_X4_pass_ o (o + 17) S (0 : Int32) my qu j hI hQ hM (by omega) (by omega)) rfl 6 rfl rfl gX5_foresee_X4_pass_ rfl ⟨rfl, hd_X4_pass_⟩ ⟨rfl, rfl, (Nat.le_of_ble_eq_true rfl), (Nat.le_of_ble_eq_true rfl)⟩ ⟨(Nat.zero_le _), (Nat.zero_le _)⟩ rfl rfl (Nat.le_of_ble_eq_true rfl) dX5_foresee_53 (fun v w1 H locs hp HW => ?_)
          obtain ⟨my'_1, qu'_1, hM9_1, rfl, rfl⟩ := hp
          have HW : Hw D A s (wMo cI a o (0 : Int32) (vA (hoursS j S) 0) (vA (hoursS j S) 1) (vr (hoursS j S)) (vA (hoursS j S) 3) (vA (hoursS j S) 4) (vs (hoursS j S)) (vA (hoursS j S) 7) ++ (wMS cI a (o + 17) (a o) (vh (hoursS j S)) (vc (hoursS j S)) (sumP (hoursS j S)) (vA (hoursS j S) 5) (vA (hoursS j S) 6) (vA (hoursS j S) 8) (vA (hoursS j S) 9) (vA (hoursS j S) 10) (vA (hoursS j S) 11) (vA (hoursS j S) 12) (vA (hoursS j S) 2) my'_1 qu'_1 ++ (wMS cI a (o + 6) (a o) (vh S) (vc S) (sumP S) (vA S 5) (vA S 6) (vA S 8) (vA S 9) (vA S 10) (vA S 11) (vA S 12) (vA S 2) my qu))) H locs := HW
          refine W.eq (g2 := F0 m 56 ls []) rfl ?_
          have hIQ := InvQ_hoursS hI hQ j
          have hvr := vr_hoursS j S
          have hvs := vs_hoursS j S
          have hvh := vh_hoursS j S
          refine lv_aload_n hx hb dX5_foresee_56 rfl (lv_at hl 0 rfl) ?_
          refine g_get CX HW in_X5_foresee_5 0 9 rfl rfl (Nat.le_of_ble_eq_true rfl) fl_X5_foresee_34 rfl dX5_foresee_57 ?_
          refine lv_iload_n hx hb dX5_foresee_60 rfl (lv_at hl 2 rfl) ?_
          refine g_callV CX HW hl.1 ([]) (wMS cI a (o + 6) (a o) (vh S) (vc S) (sumP S) (vA S 5) (vA S 6) (vA S 8) (vA S 9) (vA S 10) (vA S 11) (vA S 12) (vA S 2) my qu) (c_X4_counted o (o + 17) (hoursS j S) (0 : Int32) my'_1 qu'_1 w hM9_1 (by omega) (by omega) (by omega) (by omega)) rfl 6 rfl rfl gX5_foresee_X4_counted rfl ⟨rfl, hd_X4_counted⟩ ⟨rfl, rfl, (Nat.le_of_ble_eq_true rfl), (Nat.le_of_ble_eq_true rfl)⟩ ⟨(Nat.zero_le _), (Nat.zero_le _)⟩ rfl rfl (Nat.le_of_ble_eq_true rfl) dX5_foresee_61 (fun v w1 H locs hp HW => ?_)
          obtain ⟨rfl, rfl⟩ := hp
          have HW : Hw D A s (wMo cI a o (0 : Int32) (vA (hoursS j S) 0) (vA (hoursS j S) 1) (vr (hoursS j S)) (vA (hoursS j S) 3) (vA (hoursS j S) 4) (vs (hoursS j S)) (vA (hoursS j S) 7) ++ (wMS cI a (o + 17) (a o) (vh (hoursS j S)) (vc (hoursS j S)) (sumP (hoursS j S)) (vA (hoursS j S) 5) (vA (hoursS j S) 6) (vA (hoursS j S) 8) (vA (hoursS j S) 9) (vA (hoursS j S) 10) (vA (hoursS j S) 11) (vA (hoursS j S) 12) (vA (hoursS j S) 2) my'_1 qu'_1 ++ (wMS cI a (o + 6) (a o) (vh S) (vc S) (sumP S) (vA S 5) (vA S 6) (vA S 8) (vA S 9) (vA S 10) (vA S 11) (vA S 12) (vA S 2) my qu))) H locs := HW
          refine W.eq (g2 := F0 m 64 ls [.int (figV (hoursS j S) w)]) rfl ?_
          rw [mod_hours] at HW
          have HW : Hw D A s (wMo cI a o (0 : Int32) (vA S 0) (vA S 1) (vr S) (vA S 3) (vA S 4) (vs S) (vA S 7) ++ (wMS cI a (o + 6) (a o) (vh S) (vc S) (sumP S) (vA S 5) (vA S 6) (vA S 8) (vA S 9) (vA S 10) (vA S 11) (vA S 12) (vA S 2) my qu ++ (wMS cI a (o + 17) (a o) (vh (hoursS j S)) (vc (hoursS j S)) (sumP (hoursS j S)) (vA (hoursS j S) 5) (vA (hoursS j S) 6) (vA (hoursS j S) 8) (vA (hoursS j S) 9) (vA (hoursS j S) 10) (vA (hoursS j S) 11) (vA (hoursS j S) 12) (vA (hoursS j S) 2) my'_1 qu'_1))) H locs := Hw.sw2 HW
          have hk : kFor (nI j) (nI w) = 0 := by rw [kFor]; rw [if_neg (fun h9 => h9 c12), if_neg (fun h9 => h9 c28)]
          exact g_iret CX HW rfl ⟨S, _, my, qu, hoursS j S, _, my'_1, qu'_1, ⟨fun h9 => absurd hk h9, fun _ => ⟨(by rw [ej, ew]), rfl⟩⟩, hM, rfl, by rw [hk]⟩ dX5_foresee_64
      · refine lv_aload_n hx hb dX5_foresee_31 rfl (lv_at hl 0 rfl) ?_
        refine lv_iconst (v := 2) hx hb dX5_foresee_32 (by decide) ?_
        refine g_callV CX HW hl.1 ([]) (wMS cI a (o + 6) (a o) (vh S) (vc S) (sumP S) (vA S 5) (vA S 6) (vA S 8) (vA S 9) (vA S 10) (vA S 11) (vA S 12) (vA S 2) my qu ++ (wMS cI a (o + 17) (a o) (vh T) (vc T) ri2 (vA T 5) (vA T 6) (vA T 8) (vA T 9) (vA T 10) (vA T 11) (vA T 12) (vA T 2) my2 qu2)) (c_X5_no o S (0 : Int32) (2 : Int32)) rfl 0 rfl rfl gX5_foresee_X5_no rfl ⟨rfl, hd_X5_no⟩ ⟨rfl, rfl, (Nat.le_of_ble_eq_true rfl), (Nat.le_of_ble_eq_true rfl)⟩ ⟨(Nat.zero_le _), (Nat.zero_le _)⟩ rfl rfl (Nat.le_of_ble_eq_true rfl) dX5_foresee_33 (fun v w1 H locs hp HW => ?_)
        obtain ⟨rfl, rfl⟩ := hp
        have HW : Hw D A s (wMo cI a o (2 : Int32) (vA S 0) (vA S 1) (vr S) (vA S 3) (vA S 4) (vs S) (vA S 7) ++ (wMS cI a (o + 6) (a o) (vh S) (vc S) (sumP S) (vA S 5) (vA S 6) (vA S 8) (vA S 9) (vA S 10) (vA S 11) (vA S 12) (vA S 2) my qu ++ (wMS cI a (o + 17) (a o) (vh T) (vc T) ri2 (vA T 5) (vA T 6) (vA T 8) (vA T 9) (vA T 10) (vA T 11) (vA T 12) (vA T 2) my2 qu2))) H locs := HW
        refine W.eq (g2 := F0 m 36 ls [.int (0 : Int32)]) rfl ?_
        have hk : kFor (nI j) y = 2 := by first | (rw [kFor]; rw [if_pos c12]) | (rw [kFor]; rw [if_neg (fun h9 => h9 c12), if_pos c28])
        exact g_iret CX HW rfl ⟨S, 0, my, qu, T, ri2, my2, qu2, ⟨fun _ => rfl, fun h9 => absurd (hk.symm.trans h9) (by decide)⟩, hM, rfl, by rw [hk]⟩ dX5_foresee_36
  · refine lv_aload_n hx hb dX5_foresee_15 rfl (lv_at hl 0 rfl) ?_
    refine lv_iconst (v := 1) hx hb dX5_foresee_16 (by decide) ?_
    refine g_callV CX HW hl.1 ([]) (wMS cI a (o + 6) (a o) (vh S) (vc S) (sumP S) (vA S 5) (vA S 6) (vA S 8) (vA S 9) (vA S 10) (vA S 11) (vA S 12) (vA S 2) my qu ++ (wMS cI a (o + 17) (a o) (vh T) (vc T) ri2 (vA T 5) (vA T 6) (vA T 8) (vA T 9) (vA T 10) (vA T 11) (vA T 12) (vA T 2) my2 qu2)) (c_X5_no o S (0 : Int32) (1 : Int32)) rfl 0 rfl rfl gX5_foresee_X5_no rfl ⟨rfl, hd_X5_no⟩ ⟨rfl, rfl, (Nat.le_of_ble_eq_true rfl), (Nat.le_of_ble_eq_true rfl)⟩ ⟨(Nat.zero_le _), (Nat.zero_le _)⟩ rfl rfl (Nat.le_of_ble_eq_true rfl) dX5_foresee_17 (fun v w1 H locs hp HW => ?_)
    obtain ⟨rfl, rfl⟩ := hp
    have HW : Hw D A s (wMo cI a o (1 : Int32) (vA S 0) (vA S 1) (vr S) (vA S 3) (vA S 4) (vs S) (vA S 7) ++ (wMS cI a (o + 6) (a o) (vh S) (vc S) (sumP S) (vA S 5) (vA S 6) (vA S 8) (vA S 9) (vA S 10) (vA S 11) (vA S 12) (vA S 2) my qu ++ (wMS cI a (o + 17) (a o) (vh T) (vc T) ri2 (vA T 5) (vA T 6) (vA T 8) (vA T 9) (vA T 10) (vA T 11) (vA T 12) (vA T 2) my2 qu2))) H locs := HW
    refine W.eq (g2 := F0 m 20 ls [.int (0 : Int32)]) rfl ?_
    have hk : kFor z y = 1 := by first | (rw [kFor]; rw [if_pos c12]) | (rw [kFor]; rw [if_neg (fun h9 => h9 c12), if_pos c28])
    exact g_iret CX HW rfl ⟨S, 0, my, qu, T, ri2, my2, qu2, ⟨fun _ => rfl, fun h9 => absurd (hk.symm.trans h9) (by decide)⟩, hM, rfl, by rw [hk]⟩ dX5_foresee_20

theorem hd_X5_until : yX5_until.cls ≠ "java/lang/invoke/MethodHandle" ∧ yX5_until.cls ≠ "java/lang/invoke/VarHandle" ∧ (parseMethodDescriptor yX5_until.desc).map (fun d => d.parameters.length) = some 1 := by decide +kernel
theorem fl_X5_until_37 : Cond.fieldLink RX5 37 (TX5 0).1 (TX5 0).2.1 (TX5 0).2.2.1 ∈ wsX5_until := by decide +kernel
theorem in_X5_until_5 : ∀ x ∈ u_ws RX5 TX5 10, x ∈ wsX5_until := by decide +kernel
theorem fl_X5_until_34 : Cond.fieldLink RX5 34 (TX5 9).1 (TX5 9).2.1 (TX5 9).2.2.1 ∈ wsX5_until := by decide +kernel
theorem fl_X5_until_30 : Cond.fieldLink RX5 30 (TX5 8).1 (TX5 8).2.1 (TX5 8).2.2.1 ∈ wsX5_until := by decide +kernel
theorem in_X5_until_4 : ∀ x ∈ u_ws RX4 TX4 14, x ∈ wsX5_until := by decide +kernel
set_option maxRecDepth 100000 in
set_option maxHeartbeats 4000000 in
theorem c_X5_until {l : Launch} {D : va_G} {cI cL : ClassId} {a : Nat → Nat} (o : Nat) (S : VS) (th : Int32) (my : Nat → Int32) (qu : Nat → Int32) (T : VS) (ri2 : Int32) (my2 : Nat → Int32) (qu2 : Nat → Int32) (x : Int32) (hI : Inv S) (hM : RepM (vq S) my qu) (hQ : Qk (vs S) (vq S)) (hU : QU (vq S)) (hh : vh S + 100 < 2 ^ 31) : Ct l yX5_until wsX5_until { frames := 5, cells := 0, slots := 0, locals := 115 } D (ty2 cI cL) [.ref (a o), .int x] (wMo cI a o th (vA S 0) (vA S 1) (vr S) (vA S 3) (vA S 4) (vs S) (vA S 7) ++ (wMS cI a (o + 6) (a o) (vh S) (vc S) (sumP S) (vA S 5) (vA S 6) (vA S 8) (vA S 9) (vA S 10) (vA S 11) (vA S 12) (vA S 2) my qu ++ (wMS cI a (o + 17) (a o) (vh T) (vc T) ri2 (vA T 5) (vA T 6) (vA T 8) (vA T 9) (vA T 10) (vA T 11) (vA T 12) (vA T 2) my2 qu2))) (fun v w' => ∃ (Z : VS) (r : Int32) (my' qu' : Nat → Int32) (T' : VS) (ri2' : Int32) (my2' qu2' : Nat → Int32), MOK (kLea S x) (untS S (natI x)) S (S) Z r ∧ RepM (vq Z) my' qu' ∧ v = some (.int r) ∧ w' = wMo cI a o (kLea S x) (vA Z 0) (vA Z 1) (vr Z) (vA Z 3) (vA Z 4) (vs Z) (vA Z 7) ++ (wMS cI a (o + 6) (a o) (vh Z) (vc Z) (sumP Z) (vA Z 5) (vA Z 6) (vA Z 8) (vA Z 9) (vA Z 10) (vA Z 11) (vA Z 12) (vA Z 2) my' qu' ++ (wMS cI a (o + 17) (a o) (vh T') (vc T') ri2' (vA T' 5) (vA T' 6) (vA T' 8) (vA T' 9) (vA T' 10) (vA T' 11) (vA T' 12) (vA T' 2) my2' qu2'))) 0 0 := by
  refine Ct.of (cc := cX5_until) (maxL := 3) (ret := (some .int)) (by decide) rfl (Nat.le_of_ble_eq_true rfl) ?_
  intro p e s m below meth c A ls CX hin HW hl
  obtain ⟨hx, hb, hml, hr, hown, hts, hK, hA, hlk⟩ := id CX
  have hl : lv_has ls 3 [(0, .ref (a o)), (1, .int x)] := hl
  have hn6 := hI.1
  have hn8 := hI.2.1
  refine lv_aload_n hx hb dX5_until_0 rfl (lv_at hl 0 rfl) ?_
  refine lv_iconst (v := 0) hx hb dX5_until_1 (by decide) ?_
  refine g_put CX HW in_X5_until_5 tyX5 tyX5_ok nmX5 0 0 rfl rfl (Nat.le_of_ble_eq_true rfl) fl_X5_until_37 rfl rfl rfl (Nat.le_of_ble_eq_true rfl) dX5_until_2 (fun H locs HW => ?_)
  have HW : Hw D A s (wMo cI a o (0 : Int32) (vA S 0) (vA S 1) (vr S) (vA S 3) (vA S 4) (vs S) (vA S 7) ++ (wMS cI a (o + 6) (a o) (vh S) (vc S) (sumP S) (vA S 5) (vA S 6) (vA S 8) (vA S 9) (vA S 10) (vA S 11) (vA S 12) (vA S 2) my qu ++ (wMS cI a (o + 17) (a o) (vh T) (vc T) ri2 (vA T 5) (vA T 6) (vA T 8) (vA T 9) (vA T 10) (vA T 11) (vA T 12) (vA T 2) my2 qu2))) H locs := HW
  refine lv_aload_n hx hb dX5_until_5 rfl (lv_at hl 0 rfl) ?_
  refine lv_iload_n hx hb dX5_until_6 rfl (lv_at hl 1 rfl) ?_
  refine g_callV CX HW hl.1 ([]) (wMS cI a (o + 6) (a o) (vh S) (vc S) (sumP S) (vA S 5) (vA S 6) (vA S 8) (vA S 9) (vA S 10) (vA S 11) (vA S 12) (vA S 2) my qu ++ (wMS cI a (o + 17) (a o) (vh T) (vc T) ri2 (vA T 5) (vA T 6) (vA T 8) (vA T 9) (vA T 10) (vA T 11) (vA T 12) (vA T 2) my2 qu2)) (c_X5_isSkier o S (0 : Int32) x (by omega)) rfl 0 rfl rfl gX5_until_X5_isSkier rfl ⟨rfl, hd_X5_isSkier⟩ ⟨rfl, rfl, (Nat.le_of_ble_eq_true rfl), (Nat.le_of_ble_eq_true rfl)⟩ ⟨(Nat.zero_le _), (Nat.zero_le _)⟩ rfl rfl (Nat.le_of_ble_eq_true rfl) dX5_until_7 (fun v w1 H locs hp HW => ?_)
  obtain ⟨rfl, rfl⟩ := hp
  have HW : Hw D A s (wMo cI a o (0 : Int32) (vA S 0) (vA S 1) (vr S) (vA S 3) (vA S 4) (vs S) (vA S 7) ++ (wMS cI a (o + 6) (a o) (vh S) (vc S) (sumP S) (vA S 5) (vA S 6) (vA S 8) (vA S 9) (vA S 10) (vA S 11) (vA S 12) (vA S 2) my qu ++ (wMS cI a (o + 17) (a o) (vh T) (vc T) ri2 (vA T 5) (vA T 6) (vA T 8) (vA T 9) (vA T 10) (vA T 11) (vA T 12) (vA T 2) my2 qu2))) H locs := HW
  refine W.eq (g2 := F0 m 10 ls [.int (bI ((0 : Int32) ≤ x ∧ x < nI (vs S)))]) rfl ?_
  refine g_ifne_b (tgt := 19) hx hb dX5_until_10 (by decide) (fun c10 => ?_) (fun c10 => ?_)
  · obtain ⟨k, hk, rfl⟩ := has_nat (by omega) c10
    have ek : natI (nI k) = k := natI_nI (by omega)
    · refine lv_aload_n hx hb dX5_until_19 rfl (lv_at hl 0 rfl) ?_
      refine g_get CX HW in_X5_until_5 0 9 rfl rfl (Nat.le_of_ble_eq_true rfl) fl_X5_until_34 rfl dX5_until_20 ?_
      refine lv_aload_n hx hb dX5_until_23 rfl (lv_at hl 0 rfl) ?_
      refine g_get CX HW in_X5_until_5 0 8 rfl rfl (Nat.le_of_ble_eq_true rfl) fl_X5_until_30 rfl dX5_until_24 ?_
      refine g_callV CX HW hl.1 (wMo cI a o (0 : Int32) (vA S 0) (vA S 1) (vr S) (vA S 3) (vA S 4) (vs S) (vA S 7)) ([]) (c_X4_become o (o + 6) (o + 17) S T ri2 my qu my2 qu2) rfl 11 rfl rfl gX5_until_X4_become rfl ⟨rfl, hd_X4_become⟩ ⟨rfl, rfl, (Nat.le_of_ble_eq_true rfl), (Nat.le_of_ble_eq_true rfl)⟩ ⟨(Nat.zero_le _), (Nat.zero_le _)⟩ rfl rfl (Nat.le_of_ble_eq_true rfl) dX5_until_27 (fun v w1 H locs hp HW => ?_)
      obtain ⟨rfl, rfl⟩ := hp
      have HW : Hw D A s (wMo cI a o (0 : Int32) (vA S 0) (vA S 1) (vr S) (vA S 3) (vA S 4) (vs S) (vA S 7) ++ (wMS cI a (o + 6) (a o) (vh S) (vc S) (sumP S) (vA S 5) (vA S 6) (vA S 8) (vA S 9) (vA S 10) (vA S 11) (vA S 12) (vA S 2) my qu ++ (wMS cI a (o + 17) (a o) (vh S) (vc S) (sumP S) (vA S 5) (vA S 6) (vA S 8) (vA S 9) (vA S 10) (vA S 11) (vA S 12) (vA S 2) my qu))) H locs := HW
      refine W.eq (g2 := F0 m 30 ls []) rfl ?_
      have loop : ∀ (d0 : Nat) (j : Nat) (my3 : Nat → Int32) (qu3 : Nat → Int32), 90 - j = d0 → (j ≤ 90) → (RepM (vq (hoursS j S)) my3 qu3) → (untF (vA S 12 k) S k (90 - j) j = untS S k) → ∀ (H : Heap) (locs : List Loc) (ls : Array Slot), Hw D A s (wMo cI a o (0 : Int32) (vA S 0) (vA S 1) (vr S) (vA S 3) (vA S 4) (vs S) (vA S 7) ++ (wMS cI a (o + 6) (a o) (vh S) (vc S) (sumP S) (vA S 5) (vA S 6) (vA S 8) (vA S 9) (vA S 10) (vA S 11) (vA S 12) (vA S 2) my qu ++ (wMS cI a (o + 17) (a o) (vh (hoursS j S)) (vc (hoursS j S)) (sumP (hoursS j S)) (vA (hoursS j S) 5) (vA (hoursS j S) 6) (vA (hoursS j S) 8) (vA (hoursS j S) 9) (vA (hoursS j S) 10) (vA (hoursS j S) 11) (vA (hoursS j S) 12) (vA (hoursS j S) 2) my3 qu3))) H locs → lv_has ls 3 [(2, .int (nI (j + 1))), (1, .int (nI k)), (0, .ref (a o))] → W p l e ({ frames := 5, cells := 0, slots := 0, locals := 115 } : Room) s m ([.ref (a o), .int (nI k)] : List Value).toArray below meth c H locs 0 0 (MQ below (cQ D A (fun v w' => ∃ (Z : VS) (r : Int32) (my' qu' : Nat → Int32) (T' : VS) (ri2' : Int32) (my2' qu2' : Nat → Int32), MOK (kLea S (nI k)) (untS S (natI (nI k))) S (S) Z r ∧ RepM (vq Z) my' qu' ∧ v = some (.int r) ∧ w' = wMo cI a o (kLea S (nI k)) (vA Z 0) (vA Z 1) (vr Z) (vA Z 3) (vA Z 4) (vs Z) (vA Z 7) ++ (wMS cI a (o + 6) (a o) (vh Z) (vc Z) (sumP Z) (vA Z 5) (vA Z 6) (vA Z 8) (vA Z 9) (vA Z 10) (vA Z 11) (vA Z 12) (vA Z 2) my' qu' ++ (wMS cI a (o + 17) (a o) (vh T') (vc T') ri2' (vA T' 5) (vA T' 6) (vA T' 8) (vA T' 9) (vA T' 10) (vA T' 11) (vA T' 12) (vA T' 2) my2' qu2')))) ([.ref (a o), .int (nI k)] : List Value).toArray s 0 0 A) (F0 m 32 ls []) := by
        intro d0
        induction d0 using Nat.strongRecOn with
        | _ d0 ih =>
          intro j my3 qu3 hd0 hj hM3 hUn H locs ls HW hl
          refine lv_iload_n hx hb dX5_until_32 rfl (lv_at hl 0 rfl) ?_
          refine lv_bipush (v := 90) hx hb dX5_until_33 (by decide) ?_
          refine lv_icmp_gt (tgt := 74) hx hb dX5_until_35 (by decide) (fun c35 => ?_) (fun c35 => ?_)
          · have c35 : 90 < j + 1 := (nI_ltI (a := 90) (b := j + 1) (by decide) (by omega)).mp c35
            refine lv_iconst (v := (-1)) hx hb dX5_until_74 (by decide) ?_
            have hk : kLea S (nI k) = 0 := by rw [kLea]; rw [if_neg (fun h9 => h9 c10)]
            exact g_iret CX HW rfl ⟨S, _, my, qu, hoursS j S, _, my3, qu3, ⟨fun h9 => absurd hk h9, fun _ => ⟨(by rw [ek, ← hUn, show 90 - j = 0 by omega]; rfl), rfl⟩⟩, hM, rfl, by rw [hk]⟩ dX5_until_75
          · have c35 : j + 1 ≤ 90 := (nI_leI (a := j + 1) (b := 90) (by omega) (by decide)).mp (Int32.not_lt.mp c35)
            have hU2 : untF (vA S 12 k) S k (90 - (j + 1) + 1) j = untS S k := by rw [← hUn]; congr 1; omega
            simp only [untF] at hU2
            have HW : Hw D A s (wMo cI a o (0 : Int32) (vA S 0) (vA S 1) (vr S) (vA S 3) (vA S 4) (vs S) (vA S 7) ++ (wMS cI a (o + 17) (a o) (vh (hoursS j S)) (vc (hoursS j S)) (sumP (hoursS j S)) (vA (hoursS j S) 5) (vA (hoursS j S) 6) (vA (hoursS j S) 8) (vA (hoursS j S) 9) (vA (hoursS j S) 10) (vA (hoursS j S) 11) (vA (hoursS j S) 12) (vA (hoursS j S) 2) my3 qu3 ++ (wMS cI a (o + 6) (a o) (vh S) (vc S) (sumP S) (vA S 5) (vA S 6) (vA S 8) (vA S 9) (vA S 10) (vA S 11) (vA S 12) (vA S 2) my qu))) H locs := Hw.sw2 HW
            rw [← mod_hours (n := j) (S := S)] at HW
            have HW : Hw D A s (wMo cI a o (0 : Int32) (vA (hoursS j S) 0) (vA (hoursS j S) 1) (vr (hoursS j S)) (vA (hoursS j S) 3) (vA (hoursS j S) 4) (vs (hoursS j S)) (vA (hoursS j S) 7) ++ (wMS cI a (o + 17) (a o) (vh (hoursS j S)) (vc (hoursS j S)) (sumP (hoursS j S)) (vA (hoursS j S) 5) (vA (hoursS j S) 6) (vA (hoursS j S) 8) (vA (hoursS j S) 9) (vA (hoursS j S) 10) (vA (hoursS j S) 11) (vA (hoursS j S) 12) (vA (hoursS j S) 2) my3 qu3 ++ (wMS cI a (o + 6) (a o) (vh S) (vc S) (sumP S) (vA S 5) (vA S 6) (vA S 8) (vA S 9) (vA S 10) (vA S 11) (vA S 12) (vA S 2) my qu))) H locs := HW
            refine lv_aload_n hx hb dX5_until_38 rfl (lv_at hl 2 rfl) ?_
            refine g_get CX HW in_X5_until_5 0 9 rfl rfl (Nat.le_of_ble_eq_true rfl) fl_X5_until_34 rfl dX5_until_39 ?_
            refine g_callV CX HW hl.1 ([]) (wMS cI a (o + 6) (a o) (vh S) (vc S) (sumP S) (vA S 5) (vA S 6) (vA S 8) (vA S 9) (vA S 10) (vA S 11) (vA S 12) (vA S 2) my qu) (c_X4_pass o (o + 17) (hoursS j S) (0 : Int32) my3 qu3 (InvQ_hoursS hI hQ j).1 (InvQ_hoursS hI hQ j).2 hM3 (by rw [vh_hoursS]; omega)) rfl 6 rfl rfl gX5_until_X4_pass rfl ⟨rfl, hd_X4_pass⟩ ⟨rfl, rfl, (Nat.le_of_ble_eq_true rfl), (Nat.le_of_ble_eq_true rfl)⟩ ⟨(Nat.zero_le _), (Nat.zero_le _)⟩ rfl rfl (Nat.le_of_ble_eq_true rfl) dX5_until_42 (fun v w1 H locs hp HW => ?_)
            obtain ⟨my'_1, qu'_1, hM9_1, rfl, rfl⟩ := hp
            have HW : Hw D A s (wMo cI a o (0 : Int32) (vA (hourS (hoursS j S)) 0) (vA (hourS (hoursS j S)) 1) (vr (hourS (hoursS j S))) (vA (hourS (hoursS j S)) 3) (vA (hourS (hoursS j S)) 4) (vs (hourS (hoursS j S))) (vA (hourS (hoursS j S)) 7) ++ (wMS cI a (o + 17) (a o) (vh (hourS (hoursS j S))) (vc (hourS (hoursS j S))) (sumP (hourS (hoursS j S))) (vA (hourS (hoursS j S)) 5) (vA (hourS (hoursS j S)) 6) (vA (hourS (hoursS j S)) 8) (vA (hourS (hoursS j S)) 9) (vA (hourS (hoursS j S)) 10) (vA (hourS (hoursS j S)) 11) (vA (hourS (hoursS j S)) 12) (vA (hourS (hoursS j S)) 2) my'_1 qu'_1 ++ (wMS cI a (o + 6) (a o) (vh S) (vc S) (sumP S) (vA S 5) (vA S 6) (vA S 8) (vA S 9) (vA S 10) (vA S 11) (vA S 12) (vA S 2) my qu))) H locs := HW
            refine W.eq (g2 := F0 m 45 ls []) rfl ?_
            have HW : Hw D A s (wMo cI a o (0 : Int32) (vA (hoursS (j + 1) S) 0) (vA (hoursS (j + 1) S) 1) (vr (hoursS (j + 1) S)) (vA (hoursS (j + 1) S) 3) (vA (hoursS (j + 1) S) 4) (vs (hoursS (j + 1) S)) (vA (hoursS (j + 1) S) 7) ++ (wMS cI a (o + 17) (a o) (vh (hoursS (j + 1) S)) (vc (hoursS (j + 1) S)) (sumP (hoursS (j + 1) S)) (vA (hoursS (j + 1) S) 5) (vA (hoursS (j + 1) S) 6) (vA (hoursS (j + 1) S) 8) (vA (hoursS (j + 1) S) 9) (vA (hoursS (j + 1) S) 10) (vA (hoursS (j + 1) S) 11) (vA (hoursS (j + 1) S) 12) (vA (hoursS (j + 1) S) 2) my'_1 qu'_1 ++ (wMS cI a (o + 6) (a o) (vh S) (vc S) (sumP S) (vA S 5) (vA S 6) (vA S 8) (vA S 9) (vA S 10) (vA S 11) (vA S 12) (vA S 2) my qu))) H locs := HW
            have hM4 : RepM (vq (hoursS (j + 1) S)) my'_1 qu'_1 := hM9_1
            rw [mod_hours] at HW
            have HW : Hw D A s (wMo cI a o (0 : Int32) (vA S 0) (vA S 1) (vr S) (vA S 3) (vA S 4) (vs S) (vA S 7) ++ (wMS cI a (o + 6) (a o) (vh S) (vc S) (sumP S) (vA S 5) (vA S 6) (vA S 8) (vA S 9) (vA S 10) (vA S 11) (vA S 12) (vA S 2) my qu ++ (wMS cI a (o + 17) (a o) (vh (hoursS (j + 1) S)) (vc (hoursS (j + 1) S)) (sumP (hoursS (j + 1) S)) (vA (hoursS (j + 1) S) 5) (vA (hoursS (j + 1) S) 6) (vA (hoursS (j + 1) S) 8) (vA (hoursS (j + 1) S) 9) (vA (hoursS (j + 1) S) 10) (vA (hoursS (j + 1) S) 11) (vA (hoursS (j + 1) S) 12) (vA (hoursS (j + 1) S) 2) my'_1 qu'_1))) H locs := Hw.sw2 HW
            refine lv_aload_n hx hb dX5_until_45 rfl (lv_at hl 2 rfl) ?_
            refine g_get CX HW in_X5_until_5 0 9 rfl rfl (Nat.le_of_ble_eq_true rfl) fl_X5_until_34 rfl dX5_until_46 ?_
            refine g_getN (host := "PommelTowsModel") CX HW in_X5_until_4 17 9 rfl rfl (Nat.le_of_ble_eq_true rfl) (by decide +kernel) rfl dX5_until_49 ?_
            refine lv_iload_n hx hb dX5_until_52 rfl (lv_at hl 1 rfl) ?_
            refine g_ald CX HW 24 (k := k) rfl rfl rfl (by omega) (Nat.le_of_ble_eq_true rfl) dX5_until_53 ?_
            refine lv_aload_n hx hb dX5_until_54 rfl (lv_at hl 2 rfl) ?_
            refine g_get CX HW in_X5_until_5 0 8 rfl rfl (Nat.le_of_ble_eq_true rfl) fl_X5_until_30 rfl dX5_until_55 ?_
            refine g_getN (host := "PommelTowsModel") CX HW in_X5_until_4 6 9 rfl rfl (Nat.le_of_ble_eq_true rfl) (by decide +kernel) rfl dX5_until_58 ?_
            refine lv_iload_n hx hb dX5_until_61 rfl (lv_at hl 1 rfl) ?_
            refine g_ald CX HW 13 (k := k) rfl rfl rfl (by omega) (Nat.le_of_ble_eq_true rfl) dX5_until_62 ?_
            refine lv_icmp_le (tgt := 68) hx hb dX5_until_63 (by decide) (fun c63 => ?_) (fun c63 => ?_)
            · rw [if_neg (Int32.not_lt.mpr c63)] at hU2
              refine lv_iinc (v := (nI ((j + 1) + 1))) (lv' := [(2, .int (nI ((j + 1) + 1))), (1, .int (nI k)), (0, .ref (a o))]) hx hb dX5_until_68 hl (k := 0) rfl (inc1 _) (Nat.le_of_ble_eq_true rfl) rfl (fun ls hl => ?_)
              refine lv_goto (tgt := 32) hx hb dX5_until_71 (by decide) ?_
              exact ih _ (by omega) (j + 1) _ _ rfl (by omega) hM4 hU2 _ _ _ HW (lv_sub hl [0, 1, 2] rfl)
            · rw [if_pos (Int32.not_le.mp c63)] at hU2
              refine lv_iload_n hx hb dX5_until_66 rfl (lv_at hl 0 rfl) ?_
              have hk : kLea S (nI k) = 0 := by rw [kLea]; rw [if_neg (fun h9 => h9 c10)]
              exact g_iret CX HW rfl ⟨S, _, my, qu, hoursS (j + 1) S, _, my'_1, qu'_1, ⟨fun h9 => absurd hk h9, fun _ => ⟨(by rw [ek, ← hU2]), rfl⟩⟩, hM, rfl, by rw [hk]⟩ dX5_until_67
      refine lv_iconst (v := 1) hx hb dX5_until_30 (by decide) ?_
      refine lv_istore_n (lv' := [(2, .int (1 : Int32)), (0, .ref (a o)), (1, .int (nI k))]) hx hb dX5_until_31 rfl hl (Nat.le_of_ble_eq_true rfl) rfl (fun ls hl => ?_)
      exact loop _ 0 my qu rfl (by omega) hM rfl _ _ _ HW (lv_sub hl [0, 2, 1] rfl)
  · refine lv_aload_n hx hb dX5_until_13 rfl (lv_at hl 0 rfl) ?_
    refine lv_iconst (v := 1) hx hb dX5_until_14 (by decide) ?_
    refine g_callV CX HW hl.1 ([]) (wMS cI a (o + 6) (a o) (vh S) (vc S) (sumP S) (vA S 5) (vA S 6) (vA S 8) (vA S 9) (vA S 10) (vA S 11) (vA S 12) (vA S 2) my qu ++ (wMS cI a (o + 17) (a o) (vh T) (vc T) ri2 (vA T 5) (vA T 6) (vA T 8) (vA T 9) (vA T 10) (vA T 11) (vA T 12) (vA T 2) my2 qu2)) (c_X5_no o S (0 : Int32) (1 : Int32)) rfl 0 rfl rfl gX5_until_X5_no rfl ⟨rfl, hd_X5_no⟩ ⟨rfl, rfl, (Nat.le_of_ble_eq_true rfl), (Nat.le_of_ble_eq_true rfl)⟩ ⟨(Nat.zero_le _), (Nat.zero_le _)⟩ rfl rfl (Nat.le_of_ble_eq_true rfl) dX5_until_15 (fun v w1 H locs hp HW => ?_)
    obtain ⟨rfl, rfl⟩ := hp
    have HW : Hw D A s (wMo cI a o (1 : Int32) (vA S 0) (vA S 1) (vr S) (vA S 3) (vA S 4) (vs S) (vA S 7) ++ (wMS cI a (o + 6) (a o) (vh S) (vc S) (sumP S) (vA S 5) (vA S 6) (vA S 8) (vA S 9) (vA S 10) (vA S 11) (vA S 12) (vA S 2) my qu ++ (wMS cI a (o + 17) (a o) (vh T) (vc T) ri2 (vA T 5) (vA T 6) (vA T 8) (vA T 9) (vA T 10) (vA T 11) (vA T 12) (vA T 2) my2 qu2))) H locs := HW
    refine W.eq (g2 := F0 m 18 ls [.int (0 : Int32)]) rfl ?_
    have hk : kLea S x = 1 := by first | (rw [kLea]; rw [if_pos c10])
    exact g_iret CX HW rfl ⟨S, 0, my, qu, T, ri2, my2, qu2, ⟨fun _ => rfl, fun h9 => absurd (hk.symm.trans h9) (by decide)⟩, hM, rfl, by rw [hk]⟩ dX5_until_18

theorem hd_X5_advise : yX5_advise.cls ≠ "java/lang/invoke/MethodHandle" ∧ yX5_advise.cls ≠ "java/lang/invoke/VarHandle" ∧ (parseMethodDescriptor yX5_advise.desc).map (fun d => d.parameters.length) = some 2 := by decide +kernel
theorem fl_X5_advise_37 : Cond.fieldLink RX5 37 (TX5 0).1 (TX5 0).2.1 (TX5 0).2.2.1 ∈ wsX5_advise := by decide +kernel
theorem in_X5_advise_5 : ∀ x ∈ u_ws RX5 TX5 10, x ∈ wsX5_advise := by decide +kernel
theorem fl_X5_advise_34 : Cond.fieldLink RX5 34 (TX5 9).1 (TX5 9).2.1 (TX5 9).2.2.1 ∈ wsX5_advise := by decide +kernel
theorem fl_X5_advise_30 : Cond.fieldLink RX5 30 (TX5 8).1 (TX5 8).2.1 (TX5 8).2.2.1 ∈ wsX5_advise := by decide +kernel
theorem in_X5_advise_4 : ∀ x ∈ u_ws RX4 TX4 14, x ∈ wsX5_advise := by decide +kernel
set_option maxRecDepth 100000 in
set_option maxHeartbeats 4000000 in
theorem c_X5_advise {l : Launch} {D : va_G} {cI cL : ClassId} {a : Nat → Nat} (o : Nat) (S : VS) (th : Int32) (my : Nat → Int32) (qu : Nat → Int32) (T : VS) (ri2 : Int32) (my2 : Nat → Int32) (qu2 : Nat → Int32) (x : Int32) (z : Int32) (hI : Inv S) (hM : RepM (vq S) my qu) (hQ : Qk (vs S) (vq S)) (hU : QU (vq S)) (hh : vh S + 100 < 2 ^ 31) : Ct l yX5_advise wsX5_advise { frames := 6, cells := 0, slots := 0, locals := 137 } D (ty2 cI cL) [.ref (a o), .int x, .int z] (wMo cI a o th (vA S 0) (vA S 1) (vr S) (vA S 3) (vA S 4) (vs S) (vA S 7) ++ (wMS cI a (o + 6) (a o) (vh S) (vc S) (sumP S) (vA S 5) (vA S 6) (vA S 8) (vA S 9) (vA S 10) (vA S 11) (vA S 12) (vA S 2) my qu ++ (wMS cI a (o + 17) (a o) (vh T) (vc T) ri2 (vA T 5) (vA T 6) (vA T 8) (vA T 9) (vA T 10) (vA T 11) (vA T 12) (vA T 2) my2 qu2))) (fun v w' => ∃ (Z : VS) (r : Int32) (my' qu' : Nat → Int32) (T' : VS) (ri2' : Int32) (my2' qu2' : Nat → Int32), MOK (kAdv S x z) ((advN S (natI x) (natI z) 4).1) S (S) Z r ∧ RepM (vq Z) my' qu' ∧ v = some (.int r) ∧ w' = wMo cI a o (kAdv S x z) (vA Z 0) (vA Z 1) (vr Z) (vA Z 3) (vA Z 4) (vs Z) (vA Z 7) ++ (wMS cI a (o + 6) (a o) (vh Z) (vc Z) (sumP Z) (vA Z 5) (vA Z 6) (vA Z 8) (vA Z 9) (vA Z 10) (vA Z 11) (vA Z 12) (vA Z 2) my' qu' ++ (wMS cI a (o + 17) (a o) (vh T') (vc T') ri2' (vA T' 5) (vA T' 6) (vA T' 8) (vA T' 9) (vA T' 10) (vA T' 11) (vA T' 12) (vA T' 2) my2' qu2'))) 0 0 := by
  refine Ct.of (cc := cX5_advise) (maxL := 6) (ret := (some .int)) (by decide) rfl (Nat.le_of_ble_eq_true rfl) ?_
  intro p e s m below meth c A ls CX hin HW hl
  obtain ⟨hx, hb, hml, hr, hown, hts, hK, hA, hlk⟩ := id CX
  have hl : lv_has ls 6 [(0, .ref (a o)), (1, .int x), (2, .int z)] := hl
  have hn6 := hI.1
  have hn8 := hI.2.1
  refine lv_aload_n hx hb dX5_advise_0 rfl (lv_at hl 0 rfl) ?_
  refine lv_iconst (v := 0) hx hb dX5_advise_1 (by decide) ?_
  refine g_put CX HW in_X5_advise_5 tyX5 tyX5_ok nmX5 0 0 rfl rfl (Nat.le_of_ble_eq_true rfl) fl_X5_advise_37 rfl rfl rfl (Nat.le_of_ble_eq_true rfl) dX5_advise_2 (fun H locs HW => ?_)
  have HW : Hw D A s (wMo cI a o (0 : Int32) (vA S 0) (vA S 1) (vr S) (vA S 3) (vA S 4) (vs S) (vA S 7) ++ (wMS cI a (o + 6) (a o) (vh S) (vc S) (sumP S) (vA S 5) (vA S 6) (vA S 8) (vA S 9) (vA S 10) (vA S 11) (vA S 12) (vA S 2) my qu ++ (wMS cI a (o + 17) (a o) (vh T) (vc T) ri2 (vA T 5) (vA T 6) (vA T 8) (vA T 9) (vA T 10) (vA T 11) (vA T 12) (vA T 2) my2 qu2))) H locs := HW
  refine lv_aload_n hx hb dX5_advise_5 rfl (lv_at hl 0 rfl) ?_
  refine lv_iload_n hx hb dX5_advise_6 rfl (lv_at hl 1 rfl) ?_
  refine g_callV CX HW hl.1 ([]) (wMS cI a (o + 6) (a o) (vh S) (vc S) (sumP S) (vA S 5) (vA S 6) (vA S 8) (vA S 9) (vA S 10) (vA S 11) (vA S 12) (vA S 2) my qu ++ (wMS cI a (o + 17) (a o) (vh T) (vc T) ri2 (vA T 5) (vA T 6) (vA T 8) (vA T 9) (vA T 10) (vA T 11) (vA T 12) (vA T 2) my2 qu2)) (c_X5_isSkier o S (0 : Int32) x (by omega)) rfl 0 rfl rfl gX5_advise_X5_isSkier rfl ⟨rfl, hd_X5_isSkier⟩ ⟨rfl, rfl, (Nat.le_of_ble_eq_true rfl), (Nat.le_of_ble_eq_true rfl)⟩ ⟨(Nat.zero_le _), (Nat.zero_le _)⟩ rfl rfl (Nat.le_of_ble_eq_true rfl) dX5_advise_7 (fun v w1 H locs hp HW => ?_)
  obtain ⟨rfl, rfl⟩ := hp
  have HW : Hw D A s (wMo cI a o (0 : Int32) (vA S 0) (vA S 1) (vr S) (vA S 3) (vA S 4) (vs S) (vA S 7) ++ (wMS cI a (o + 6) (a o) (vh S) (vc S) (sumP S) (vA S 5) (vA S 6) (vA S 8) (vA S 9) (vA S 10) (vA S 11) (vA S 12) (vA S 2) my qu ++ (wMS cI a (o + 17) (a o) (vh T) (vc T) ri2 (vA T 5) (vA T 6) (vA T 8) (vA T 9) (vA T 10) (vA T 11) (vA T 12) (vA T 2) my2 qu2))) H locs := HW
  refine W.eq (g2 := F0 m 10 ls [.int (bI ((0 : Int32) ≤ x ∧ x < nI (vs S)))]) rfl ?_
  refine g_ifne_b (tgt := 19) hx hb dX5_advise_10 (by decide) (fun c10 => ?_) (fun c10 => ?_)
  · obtain ⟨k, hk, rfl⟩ := has_nat (by omega) c10
    have ek : natI (nI k) = k := natI_nI (by omega)
    · refine lv_iload_n hx hb dX5_advise_19 rfl (lv_at hl 2 rfl) ?_
      refine lv_iconst (v := 1) hx hb dX5_advise_20 (by decide) ?_
      refine lv_bipush (v := 12) hx hb dX5_advise_21 (by decide) ?_
      refine g_callS CX HW hl.1 ([]) (wMo cI a o (0 : Int32) (vA S 0) (vA S 1) (vr S) (vA S 3) (vA S 4) (vs S) (vA S 7) ++ (wMS cI a (o + 6) (a o) (vh S) (vc S) (sumP S) (vA S 5) (vA S 6) (vA S 8) (vA S 9) (vA S 10) (vA S 11) (vA S 12) (vA S 2) my qu ++ (wMS cI a (o + 17) (a o) (vh T) (vc T) ri2 (vA T 5) (vA T 6) (vA T 8) (vA T 9) (vA T 10) (vA T 11) (vA T 12) (vA T 2) my2 qu2))) (c_X5_isIn z (1 : Int32) (12 : Int32)) rfl gX5_advise_X5_isIn rfl hd_X5_isIn ⟨rfl, rfl, (Nat.le_of_ble_eq_true rfl), (Nat.le_of_ble_eq_true rfl)⟩ ⟨(Nat.zero_le _), (Nat.zero_le _)⟩ rfl rfl (Nat.le_of_ble_eq_true rfl) dX5_advise_23 (fun v w1 H locs hp HW => ?_)
      obtain ⟨rfl, rfl⟩ := hp
      have HW : Hw D A s (wMo cI a o (0 : Int32) (vA S 0) (vA S 1) (vr S) (vA S 3) (vA S 4) (vs S) (vA S 7) ++ (wMS cI a (o + 6) (a o) (vh S) (vc S) (sumP S) (vA S 5) (vA S 6) (vA S 8) (vA S 9) (vA S 10) (vA S 11) (vA S 12) (vA S 2) my qu ++ (wMS cI a (o + 17) (a o) (vh T) (vc T) ri2 (vA T 5) (vA T 6) (vA T 8) (vA T 9) (vA T 10) (vA T 11) (vA T 12) (vA T 2) my2 qu2))) H locs := HW
      refine W.eq (g2 := F0 m 26 ls [.int (bI ((1 : Int32) ≤ z ∧ z ≤ (12 : Int32)))]) rfl ?_
      refine g_ifne_b (tgt := 35) hx hb dX5_advise_26 (by decide) (fun c26 => ?_) (fun c26 => ?_)
      · obtain ⟨h, hh1, hh, rfl⟩ := wi1_nat 12 (by decide) c26
        have eh : natI (nI h) = h := natI_nI (by omega)
        · refine lv_iconst (v := 0) hx hb dX5_advise_35 (by decide) ?_
          refine lv_istore_n (lv' := [(3, .int (0 : Int32)), (0, .ref (a o)), (1, .int (nI k)), (2, .int (nI h))]) hx hb dX5_advise_36 rfl hl (Nat.le_of_ble_eq_true rfl) rfl (fun ls hl => ?_)
          refine lv_iconst (v := (-1)) hx hb dX5_advise_37 (by decide) ?_
          refine lv_istore (lv' := [(4, .int (-1 : Int32)), (3, .int (0 : Int32)), (0, .ref (a o)), (1, .int (nI k)), (2, .int (nI h))]) hx hb dX5_advise_38 hl (Nat.le_of_ble_eq_true rfl) rfl (fun ls hl => ?_)
          refine lv_iconst (v := 0) hx hb dX5_advise_40 (by decide) ?_
          have loop : ∀ (d0 : Nat) (f : Nat) (T3 : VS) (ri3 : Int32) (my3 : Nat → Int32) (qu3 : Nat → Int32), 4 - f = d0 → (f ≤ 4) → ∀ (H : Heap) (locs : List Loc) (ls : Array Slot), Hw D A s (wMo cI a o (0 : Int32) (vA S 0) (vA S 1) (vr S) (vA S 3) (vA S 4) (vs S) (vA S 7) ++ (wMS cI a (o + 6) (a o) (vh S) (vc S) (sumP S) (vA S 5) (vA S 6) (vA S 8) (vA S 9) (vA S 10) (vA S 11) (vA S 12) (vA S 2) my qu ++ (wMS cI a (o + 17) (a o) (vh T3) (vc T3) ri3 (vA T3 5) (vA T3 6) (vA T3 8) (vA T3 9) (vA T3 10) (vA T3 11) (vA T3 12) (vA T3 2) my3 qu3))) H locs → lv_has ls 6 [(5, .int (nI f)), (4, .int ((advN S k h f).2)), (3, .int ((advN S k h f).1)), (2, .int (nI h)), (1, .int (nI k)), (0, .ref (a o))] → W p l e ({ frames := 6, cells := 0, slots := 0, locals := 137 } : Room) s m ([.ref (a o), .int (nI k), .int (nI h)] : List Value).toArray below meth c H locs 0 0 (MQ below (cQ D A (fun v w' => ∃ (Z : VS) (r : Int32) (my' qu' : Nat → Int32) (T' : VS) (ri2' : Int32) (my2' qu2' : Nat → Int32), MOK (kAdv S (nI k) (nI h)) ((advN S (natI (nI k)) (natI (nI h)) 4).1) S (S) Z r ∧ RepM (vq Z) my' qu' ∧ v = some (.int r) ∧ w' = wMo cI a o (kAdv S (nI k) (nI h)) (vA Z 0) (vA Z 1) (vr Z) (vA Z 3) (vA Z 4) (vs Z) (vA Z 7) ++ (wMS cI a (o + 6) (a o) (vh Z) (vc Z) (sumP Z) (vA Z 5) (vA Z 6) (vA Z 8) (vA Z 9) (vA Z 10) (vA Z 11) (vA Z 12) (vA Z 2) my' qu' ++ (wMS cI a (o + 17) (a o) (vh T') (vc T') ri2' (vA T' 5) (vA T' 6) (vA T' 8) (vA T' 9) (vA T' 10) (vA T' 11) (vA T' 12) (vA T' 2) my2' qu2')))) ([.ref (a o), .int (nI k), .int (nI h)] : List Value).toArray s 0 0 A) (F0 m 43 ls []) := by
            intro d0
            induction d0 using Nat.strongRecOn with
            | _ d0 ih =>
              intro f T3 ri3 my3 qu3 hd0 hf H locs ls HW hl
              have j121 : ∀ (T3 : VS) (ri3 : Int32) (my3 : Nat → Int32) (qu3 : Nat → Int32) (x3 : Int32) (x4 : Int32), (f < 4) → (x3 = (advN S k h (f + 1)).1) → (x4 = (advN S k h (f + 1)).2) → ∀ (H : Heap) (locs : List Loc) (ls : Array Slot), Hw D A s (wMo cI a o (0 : Int32) (vA S 0) (vA S 1) (vr S) (vA S 3) (vA S 4) (vs S) (vA S 7) ++ (wMS cI a (o + 6) (a o) (vh S) (vc S) (sumP S) (vA S 5) (vA S 6) (vA S 8) (vA S 9) (vA S 10) (vA S 11) (vA S 12) (vA S 2) my qu ++ (wMS cI a (o + 17) (a o) (vh T3) (vc T3) ri3 (vA T3 5) (vA T3 6) (vA T3 8) (vA T3 9) (vA T3 10) (vA T3 11) (vA T3 12) (vA T3 2) my3 qu3))) H locs → lv_has ls 6 [(5, .int (nI f)), (4, .int x4), (3, .int x3), (2, .int (nI h)), (1, .int (nI k)), (0, .ref (a o))] → W p l e ({ frames := 6, cells := 0, slots := 0, locals := 137 } : Room) s m ([.ref (a o), .int (nI k), .int (nI h)] : List Value).toArray below meth c H locs 0 0 (MQ below (cQ D A (fun v w' => ∃ (Z : VS) (r : Int32) (my' qu' : Nat → Int32) (T' : VS) (ri2' : Int32) (my2' qu2' : Nat → Int32), MOK (kAdv S (nI k) (nI h)) ((advN S (natI (nI k)) (natI (nI h)) 4).1) S (S) Z r ∧ RepM (vq Z) my' qu' ∧ v = some (.int r) ∧ w' = wMo cI a o (kAdv S (nI k) (nI h)) (vA Z 0) (vA Z 1) (vr Z) (vA Z 3) (vA Z 4) (vs Z) (vA Z 7) ++ (wMS cI a (o + 6) (a o) (vh Z) (vc Z) (sumP Z) (vA Z 5) (vA Z 6) (vA Z 8) (vA Z 9) (vA Z 10) (vA Z 11) (vA Z 12) (vA Z 2) my' qu' ++ (wMS cI a (o + 17) (a o) (vh T') (vc T') ri2' (vA T' 5) (vA T' 6) (vA T' 8) (vA T' 9) (vA T' 10) (vA T' 11) (vA T' 12) (vA T' 2) my2' qu2')))) ([.ref (a o), .int (nI k), .int (nI h)] : List Value).toArray s 0 0 A) (F0 m 121 ls []) := by
                intro T3 ri3 my3 qu3 x3 x4 hlt h3 h4 H locs ls HW hl
                subst h3; subst h4
                refine lv_iinc (v := (nI (f + 1))) (lv' := [(5, .int (nI (f + 1))), (4, .int ((advN S k h (f + 1)).2)), (3, .int ((advN S k h (f + 1)).1)), (2, .int (nI h)), (1, .int (nI k)), (0, .ref (a o))]) hx hb dX5_advise_121 hl (k := 0) rfl (inc1 _) (Nat.le_of_ble_eq_true rfl) rfl (fun ls hl => ?_)
                refine lv_goto (tgt := 43) hx hb dX5_advise_124 (by decide) ?_
                exact ih _ (by omega) (f + 1) T3 ri3 my3 qu3 rfl (by omega) _ _ _ HW (lv_sub hl [0, 1, 2, 3, 4, 5] rfl)
              refine lv_iload hx hb dX5_advise_43 (lv_at hl 0 rfl) ?_
              refine lv_iconst (v := 4) hx hb dX5_advise_45 (by decide) ?_
              refine lv_icmp_ge (tgt := 127) hx hb dX5_advise_46 (by decide) (fun c46 => ?_) (fun c46 => ?_)
              · have c46 := (nI_leI (a := 4) (b := f) (by decide) (by omega)).mp c46
                obtain rfl : f = 4 := by omega
                refine lv_iload_n hx hb dX5_advise_127 rfl (lv_at hl 2 rfl) ?_
                have hk : kAdv S (nI k) (nI h) = 0 := by rw [kAdv]; rw [if_neg (fun h9 => h9 c10), if_neg (fun h9 => h9 c26)]
                exact g_iret CX HW rfl ⟨S, _, my, qu, T3, ri3, my3, qu3, ⟨fun h9 => absurd hk h9, fun _ => ⟨(by rw [ek, eh]), rfl⟩⟩, hM, rfl, by rw [hk]⟩ dX5_advise_128
              · have c46 : f < 4 := nI_lt_of (a := 4) (b := f) (by decide) (by omega) c46
                refine lv_aload_n hx hb dX5_advise_49 rfl (lv_at hl 5 rfl) ?_
                refine g_get CX HW in_X5_advise_5 0 9 rfl rfl (Nat.le_of_ble_eq_true rfl) fl_X5_advise_34 rfl dX5_advise_50 ?_
                refine lv_aload_n hx hb dX5_advise_53 rfl (lv_at hl 5 rfl) ?_
                refine g_get CX HW in_X5_advise_5 0 8 rfl rfl (Nat.le_of_ble_eq_true rfl) fl_X5_advise_30 rfl dX5_advise_54 ?_
                refine g_callV CX HW hl.1 (wMo cI a o (0 : Int32) (vA S 0) (vA S 1) (vr S) (vA S 3) (vA S 4) (vs S) (vA S 7)) ([]) (c_X4_become o (o + 6) (o + 17) S T3 ri3 my qu my3 qu3) rfl 11 rfl rfl gX5_advise_X4_become rfl ⟨rfl, hd_X4_become⟩ ⟨rfl, rfl, (Nat.le_of_ble_eq_true rfl), (Nat.le_of_ble_eq_true rfl)⟩ ⟨(Nat.zero_le _), (Nat.zero_le _)⟩ rfl rfl (Nat.le_of_ble_eq_true rfl) dX5_advise_57 (fun v w1 H locs hp HW => ?_)
                obtain ⟨rfl, rfl⟩ := hp
                have HW : Hw D A s (wMo cI a o (0 : Int32) (vA S 0) (vA S 1) (vr S) (vA S 3) (vA S 4) (vs S) (vA S 7) ++ (wMS cI a (o + 6) (a o) (vh S) (vc S) (sumP S) (vA S 5) (vA S 6) (vA S 8) (vA S 9) (vA S 10) (vA S 11) (vA S 12) (vA S 2) my qu ++ (wMS cI a (o + 17) (a o) (vh S) (vc S) (sumP S) (vA S 5) (vA S 6) (vA S 8) (vA S 9) (vA S 10) (vA S 11) (vA S 12) (vA S 2) my qu))) H locs := HW
                refine W.eq (g2 := F0 m 60 ls []) rfl ?_
                refine lv_aload_n hx hb dX5_advise_60 rfl (lv_at hl 5 rfl) ?_
                refine g_get CX HW in_X5_advise_5 0 9 rfl rfl (Nat.le_of_ble_eq_true rfl) fl_X5_advise_34 rfl dX5_advise_61 ?_
                refine g_getN (host := "PommelTowsModel") CX HW in_X5_advise_4 17 6 rfl rfl (Nat.le_of_ble_eq_true rfl) (by decide +kernel) rfl dX5_advise_64 ?_
                refine lv_iload_n hx hb dX5_advise_67 rfl (lv_at hl 4 rfl) ?_
                refine lv_iload hx hb dX5_advise_68 (lv_at hl 0 rfl) ?_
                refine g_ast CX HW 21 (k := k) rfl rfl rfl (by omega) (Nat.le_of_ble_eq_true rfl) dX5_advise_70 (fun H locs HW => ?_)
                have HW : Hw D A s (wMo cI a o (0 : Int32) (vA S 0) (vA S 1) (vr S) (vA S 3) (vA S 4) (vs S) (vA S 7) ++ (wMS cI a (o + 6) (a o) (vh S) (vc S) (sumP S) (vA S 5) (vA S 6) (vA S 8) (vA S 9) (vA S 10) (vA S 11) (vA S 12) (vA S 2) my qu ++ (wMS cI a (o + 17) (a o) (vh S) (vc S) (sumP S) (vA S 5) (vA S 6) (vA S 8) (upd (vA S 9) k (nI f)) (vA S 10) (vA S 11) (vA S 12) (vA S 2) my qu))) H locs := HW
                refine lv_aload_n hx hb dX5_advise_71 rfl (lv_at hl 5 rfl) ?_
                refine g_get CX HW in_X5_advise_5 0 9 rfl rfl (Nat.le_of_ble_eq_true rfl) fl_X5_advise_34 rfl dX5_advise_72 ?_
                refine g_getN (host := "PommelTowsModel") CX HW in_X5_advise_4 17 7 rfl rfl (Nat.le_of_ble_eq_true rfl) (by decide +kernel) rfl dX5_advise_75 ?_
                refine lv_iload_n hx hb dX5_advise_78 rfl (lv_at hl 4 rfl) ?_
                refine lv_bipush (v := 10) hx hb dX5_advise_79 (by decide) ?_
                refine g_ast CX HW 22 (k := k) rfl rfl rfl (by omega) (Nat.le_of_ble_eq_true rfl) dX5_advise_81 (fun H locs HW => ?_)
                have HW : Hw D A s (wMo cI a o (0 : Int32) (vA S 0) (vA S 1) (vr S) (vA S 3) (vA S 4) (vs S) (vA S 7) ++ (wMS cI a (o + 6) (a o) (vh S) (vc S) (sumP S) (vA S 5) (vA S 6) (vA S 8) (vA S 9) (vA S 10) (vA S 11) (vA S 12) (vA S 2) my qu ++ (wMS cI a (o + 17) (a o) (vh S) (vc S) (sumP S) (vA S 5) (vA S 6) (vA S 8) (upd (vA S 9) k (nI f)) (upd (vA S 10) k (10 : Int32)) (vA S 11) (vA S 12) (vA S 2) my qu))) H locs := HW
                have HW : Hw D A s (wMo cI a o (0 : Int32) (vA S 0) (vA S 1) (vr S) (vA S 3) (vA S 4) (vs S) (vA S 7) ++ (wMS cI a (o + 17) (a o) (vh S) (vc S) (sumP S) (vA S 5) (vA S 6) (vA S 8) (upd (vA S 9) k (nI f)) (upd (vA S 10) k (10 : Int32)) (vA S 11) (vA S 12) (vA S 2) my qu ++ (wMS cI a (o + 6) (a o) (vh S) (vc S) (sumP S) (vA S 5) (vA S 6) (vA S 8) (vA S 9) (vA S 10) (vA S 11) (vA S 12) (vA S 2) my qu))) H locs := Hw.sw2 HW
                refine lv_aload_n hx hb dX5_advise_82 rfl (lv_at hl 5 rfl) ?_
                refine g_get CX HW in_X5_advise_5 0 9 rfl rfl (Nat.le_of_ble_eq_true rfl) fl_X5_advise_34 rfl dX5_advise_83 ?_
                refine lv_iload_n hx hb dX5_advise_86 rfl (lv_at hl 3 rfl) ?_
                refine g_callV CX HW hl.1 ([]) (wMS cI a (o + 6) (a o) (vh S) (vc S) (sumP S) (vA S 5) (vA S 6) (vA S 8) (vA S 9) (vA S 10) (vA S 11) (vA S 12) (vA S 2) my qu) (c_X4_pass_ o (o + 17) (waxS S k f) (0 : Int32) my qu h (Inv_waxS hI) hQ hM (by omega) (by show vh S + h < _; omega)) rfl 6 rfl rfl gX5_advise_X4_pass_ rfl ⟨rfl, hd_X4_pass_⟩ ⟨rfl, rfl, (Nat.le_of_ble_eq_true rfl), (Nat.le_of_ble_eq_true rfl)⟩ ⟨(Nat.zero_le _), (Nat.zero_le _)⟩ rfl rfl (Nat.le_of_ble_eq_true rfl) dX5_advise_87 (fun v w1 H locs hp HW => ?_)
                obtain ⟨my'_1, qu'_1, hM9_1, rfl, rfl⟩ := hp
                have HW : Hw D A s (wMo cI a o (0 : Int32) (vA (hoursS h (waxS S k f)) 0) (vA (hoursS h (waxS S k f)) 1) (vr (hoursS h (waxS S k f))) (vA (hoursS h (waxS S k f)) 3) (vA (hoursS h (waxS S k f)) 4) (vs (hoursS h (waxS S k f))) (vA (hoursS h (waxS S k f)) 7) ++ (wMS cI a (o + 17) (a o) (vh (hoursS h (waxS S k f))) (vc (hoursS h (waxS S k f))) (sumP (hoursS h (waxS S k f))) (vA (hoursS h (waxS S k f)) 5) (vA (hoursS h (waxS S k f)) 6) (vA (hoursS h (waxS S k f)) 8) (vA (hoursS h (waxS S k f)) 9) (vA (hoursS h (waxS S k f)) 10) (vA (hoursS h (waxS S k f)) 11) (vA (hoursS h (waxS S k f)) 12) (vA (hoursS h (waxS S k f)) 2) my'_1 qu'_1 ++ (wMS cI a (o + 6) (a o) (vh S) (vc S) (sumP S) (vA S 5) (vA S 6) (vA S 8) (vA S 9) (vA S 10) (vA S 11) (vA S 12) (vA S 2) my qu))) H locs := HW
                refine W.eq (g2 := F0 m 90 ls []) rfl ?_
                rw [mod_hours] at HW
                have HW : Hw D A s (wMo cI a o (0 : Int32) (vA S 0) (vA S 1) (vr S) (vA S 3) (vA S 4) (vs S) (vA S 7) ++ (wMS cI a (o + 17) (a o) (vh (hoursS h (waxS S k f))) (vc (hoursS h (waxS S k f))) (sumP (hoursS h (waxS S k f))) (vA (hoursS h (waxS S k f)) 5) (vA (hoursS h (waxS S k f)) 6) (vA (hoursS h (waxS S k f)) 8) (vA (hoursS h (waxS S k f)) 9) (vA (hoursS h (waxS S k f)) 10) (vA (hoursS h (waxS S k f)) 11) (vA (hoursS h (waxS S k f)) 12) (vA (hoursS h (waxS S k f)) 2) my'_1 qu'_1 ++ (wMS cI a (o + 6) (a o) (vh S) (vc S) (sumP S) (vA S 5) (vA S 6) (vA S 8) (vA S 9) (vA S 10) (vA S 11) (vA S 12) (vA S 2) my qu))) H locs := HW
                have HW : Hw D A s (wMo cI a o (0 : Int32) (vA S 0) (vA S 1) (vr S) (vA S 3) (vA S 4) (vs S) (vA S 7) ++ (wMS cI a (o + 6) (a o) (vh S) (vc S) (sumP S) (vA S 5) (vA S 6) (vA S 8) (vA S 9) (vA S 10) (vA S 11) (vA S 12) (vA S 2) my qu ++ (wMS cI a (o + 17) (a o) (vh (hoursS h (waxS S k f))) (vc (hoursS h (waxS S k f))) (sumP (hoursS h (waxS S k f))) (vA (hoursS h (waxS S k f)) 5) (vA (hoursS h (waxS S k f)) 6) (vA (hoursS h (waxS S k f)) 8) (vA (hoursS h (waxS S k f)) 9) (vA (hoursS h (waxS S k f)) 10) (vA (hoursS h (waxS S k f)) 11) (vA (hoursS h (waxS S k f)) 12) (vA (hoursS h (waxS S k f)) 2) my'_1 qu'_1))) H locs := Hw.sw2 HW
                refine lv_aload_n hx hb dX5_advise_90 rfl (lv_at hl 5 rfl) ?_
                refine g_get CX HW in_X5_advise_5 0 9 rfl rfl (Nat.le_of_ble_eq_true rfl) fl_X5_advise_34 rfl dX5_advise_91 ?_
                refine g_getN (host := "PommelTowsModel") CX HW in_X5_advise_4 17 8 rfl rfl (Nat.le_of_ble_eq_true rfl) (by decide +kernel) rfl dX5_advise_94 ?_
                refine lv_iload_n hx hb dX5_advise_97 rfl (lv_at hl 4 rfl) ?_
                refine g_ald CX HW 23 (k := k) rfl rfl rfl (by omega) (Nat.le_of_ble_eq_true rfl) dX5_advise_98 ?_
                refine lv_iload hx hb dX5_advise_99 (lv_at hl 1 rfl) ?_
                refine lv_icmp_gt (tgt := 107) hx hb dX5_advise_101 (by decide) (fun c101 => ?_) (fun c101 => ?_)
                · have c101 := c101
                  refine lv_iload hx hb dX5_advise_107 (lv_at hl 0 rfl) ?_
                  refine lv_istore_n (lv' := [(3, .int (nI f)), (5, .int (nI f)), (4, .int ((advN S k h f).2)), (2, .int (nI h)), (1, .int (nI k)), (0, .ref (a o))]) hx hb dX5_advise_109 rfl hl (Nat.le_of_ble_eq_true rfl) rfl (fun ls hl => ?_)
                  refine lv_aload_n hx hb dX5_advise_110 rfl (lv_at hl 5 rfl) ?_
                  refine g_get CX HW in_X5_advise_5 0 9 rfl rfl (Nat.le_of_ble_eq_true rfl) fl_X5_advise_34 rfl dX5_advise_111 ?_
                  refine g_getN (host := "PommelTowsModel") CX HW in_X5_advise_4 17 8 rfl rfl (Nat.le_of_ble_eq_true rfl) (by decide +kernel) rfl dX5_advise_114 ?_
                  refine lv_iload_n hx hb dX5_advise_117 rfl (lv_at hl 4 rfl) ?_
                  refine g_ald CX HW 23 (k := k) rfl rfl rfl (by omega) (Nat.le_of_ble_eq_true rfl) dX5_advise_118 ?_
                  refine lv_istore (lv' := [(4, .int ((vA (hoursS h (waxS S k f)) 11) k)), (3, .int (nI f)), (5, .int (nI f)), (2, .int (nI h)), (1, .int (nI k)), (0, .ref (a o))]) hx hb dX5_advise_119 hl (Nat.le_of_ble_eq_true rfl) rfl (fun ls hl => ?_)
                  exact j121 (hoursS h (waxS S k f)) _ _ _ (nI f) ((vA (hoursS h (waxS S k f)) 11) k) (by omega) (by simp only [advN]; rw [if_pos c101]) (by simp only [advN]; rw [if_pos c101]) _ _ _ HW (lv_sub hl [2, 0, 1, 3, 4, 5] rfl)
                · have c101 := Int32.not_lt.mpr (Int32.not_lt.mp c101)
                  refine lv_goto (tgt := 121) hx hb dX5_advise_104 (by decide) ?_
                  exact j121 (hoursS h (waxS S k f)) _ _ _ ((advN S k h f).1) ((advN S k h f).2) (by omega) (by simp only [advN]; rw [if_neg c101]) (by simp only [advN]; rw [if_neg c101]) _ _ _ HW (lv_sub hl [0, 1, 2, 3, 4, 5] rfl)
          refine lv_istore (lv' := [(5, .int (0 : Int32)), (4, .int (-1 : Int32)), (3, .int (0 : Int32)), (0, .ref (a o)), (1, .int (nI k)), (2, .int (nI h))]) hx hb dX5_advise_41 hl (Nat.le_of_ble_eq_true rfl) rfl (fun ls hl => ?_)
          exact loop _ 0 T ri2 my2 qu2 rfl (by omega) _ _ _ HW (lv_sub hl [0, 1, 2, 5, 4, 3] rfl)
      · refine lv_aload_n hx hb dX5_advise_29 rfl (lv_at hl 0 rfl) ?_
        refine lv_iconst (v := 2) hx hb dX5_advise_30 (by decide) ?_
        refine g_callV CX HW hl.1 ([]) (wMS cI a (o + 6) (a o) (vh S) (vc S) (sumP S) (vA S 5) (vA S 6) (vA S 8) (vA S 9) (vA S 10) (vA S 11) (vA S 12) (vA S 2) my qu ++ (wMS cI a (o + 17) (a o) (vh T) (vc T) ri2 (vA T 5) (vA T 6) (vA T 8) (vA T 9) (vA T 10) (vA T 11) (vA T 12) (vA T 2) my2 qu2)) (c_X5_no o S (0 : Int32) (2 : Int32)) rfl 0 rfl rfl gX5_advise_X5_no rfl ⟨rfl, hd_X5_no⟩ ⟨rfl, rfl, (Nat.le_of_ble_eq_true rfl), (Nat.le_of_ble_eq_true rfl)⟩ ⟨(Nat.zero_le _), (Nat.zero_le _)⟩ rfl rfl (Nat.le_of_ble_eq_true rfl) dX5_advise_31 (fun v w1 H locs hp HW => ?_)
        obtain ⟨rfl, rfl⟩ := hp
        have HW : Hw D A s (wMo cI a o (2 : Int32) (vA S 0) (vA S 1) (vr S) (vA S 3) (vA S 4) (vs S) (vA S 7) ++ (wMS cI a (o + 6) (a o) (vh S) (vc S) (sumP S) (vA S 5) (vA S 6) (vA S 8) (vA S 9) (vA S 10) (vA S 11) (vA S 12) (vA S 2) my qu ++ (wMS cI a (o + 17) (a o) (vh T) (vc T) ri2 (vA T 5) (vA T 6) (vA T 8) (vA T 9) (vA T 10) (vA T 11) (vA T 12) (vA T 2) my2 qu2))) H locs := HW
        refine W.eq (g2 := F0 m 34 ls [.int (0 : Int32)]) rfl ?_
        have hk : kAdv S (nI k) z = 2 := by first | (rw [kAdv]; rw [if_pos c10]) | (rw [kAdv]; rw [if_neg (fun h9 => h9 c10), if_pos c26])
        exact g_iret CX HW rfl ⟨S, 0, my, qu, T, ri2, my2, qu2, ⟨fun _ => rfl, fun h9 => absurd (hk.symm.trans h9) (by decide)⟩, hM, rfl, by rw [hk]⟩ dX5_advise_34
  · refine lv_aload_n hx hb dX5_advise_13 rfl (lv_at hl 0 rfl) ?_
    refine lv_iconst (v := 1) hx hb dX5_advise_14 (by decide) ?_
    refine g_callV CX HW hl.1 ([]) (wMS cI a (o + 6) (a o) (vh S) (vc S) (sumP S) (vA S 5) (vA S 6) (vA S 8) (vA S 9) (vA S 10) (vA S 11) (vA S 12) (vA S 2) my qu ++ (wMS cI a (o + 17) (a o) (vh T) (vc T) ri2 (vA T 5) (vA T 6) (vA T 8) (vA T 9) (vA T 10) (vA T 11) (vA T 12) (vA T 2) my2 qu2)) (c_X5_no o S (0 : Int32) (1 : Int32)) rfl 0 rfl rfl gX5_advise_X5_no rfl ⟨rfl, hd_X5_no⟩ ⟨rfl, rfl, (Nat.le_of_ble_eq_true rfl), (Nat.le_of_ble_eq_true rfl)⟩ ⟨(Nat.zero_le _), (Nat.zero_le _)⟩ rfl rfl (Nat.le_of_ble_eq_true rfl) dX5_advise_15 (fun v w1 H locs hp HW => ?_)
    obtain ⟨rfl, rfl⟩ := hp
    have HW : Hw D A s (wMo cI a o (1 : Int32) (vA S 0) (vA S 1) (vr S) (vA S 3) (vA S 4) (vs S) (vA S 7) ++ (wMS cI a (o + 6) (a o) (vh S) (vc S) (sumP S) (vA S 5) (vA S 6) (vA S 8) (vA S 9) (vA S 10) (vA S 11) (vA S 12) (vA S 2) my qu ++ (wMS cI a (o + 17) (a o) (vh T) (vc T) ri2 (vA T 5) (vA T 6) (vA T 8) (vA T 9) (vA T 10) (vA T 11) (vA T 12) (vA T 2) my2 qu2))) H locs := HW
    refine W.eq (g2 := F0 m 18 ls [.int (0 : Int32)]) rfl ?_
    have hk : kAdv S x z = 1 := by first | (rw [kAdv]; rw [if_pos c10]) | (rw [kAdv]; rw [if_neg (fun h9 => h9 c10), if_pos c26])
    exact g_iret CX HW rfl ⟨S, 0, my, qu, T, ri2, my2, qu2, ⟨fun _ => rfl, fun h9 => absurd (hk.symm.trans h9) (by decide)⟩, hM, rfl, by rw [hk]⟩ dX5_advise_18
