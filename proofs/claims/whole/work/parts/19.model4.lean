def MOK (k a : Int32) (S S2 Z : VS) (r : Int32) : Prop := (¬ k = 0 → Z = S) ∧ (k = 0 → r = a ∧ Z = S2)
theorem lt_pred {x : Int32} {n : Nat} (hn : n ≤ 8) : (0 ≤ x ∧ x ≤ nI n - 1) ↔ (0 ≤ x ∧ x < nI n) := by
  cases n with
  | zero =>
    constructor
    · rintro ⟨h1, h2⟩
      have h3 : (0 : Int32) ≤ nI 0 - 1 := Int32.le_trans h1 h2
      exact absurd h3 (by decide)
    · rintro ⟨h1, h2⟩
      exact absurd h2 (Int32.not_lt.mpr h1)
  | succ n =>
    rw [nI_pred]
    constructor
    · rintro ⟨h1, h2⟩
      exact ⟨h1, Int32.lt_of_le_of_lt h2 ((nI_ltI (by omega) (by omega)).mpr (by omega))⟩
    · rintro ⟨h1, h2⟩
      obtain ⟨k, hk, rfl⟩ := has_nat (by omega) ⟨h1, h2⟩
      exact ⟨h1, (nI_leI (by omega) (by omega)).mpr (by omega)⟩
theorem ly_pos {S : VS} (h : Inv S) {k : Nat} (hk : k < vs S) : ¬ vA S 10 k < 0 := by
  obtain ⟨z, hz, ez⟩ := (h.2.2.2.2.2 k hk).2.2
  rw [ez]; exact nI_pos (by omega)
theorem dp_lt {S : VS} (h : Inv S) {r : Nat} (hr : r < vr S) (hc : ¬ vA S 5 r = 90) : vA S 5 r < 90 := by
  obtain ⟨d, h1, h2⟩ := (h.2.2.2.2.1 r hr).2.2
  rw [h2] at hc ⊢
  refine (nI_ltI (a := d) (b := 90) (by omega) (by decide)).mpr ?_
  rcases Nat.lt_or_ge d 90 with h3 | h3
  · exact h3
  · exact absurd (by rw [show d = 90 by omega]; rfl) hc
theorem held_can {S : VS} (h : Inv S) {r : Nat} (hr : r < vr S) : heldI (vA S 5 r + 12) 0 90 = if vA S 5 r + 12 < 90 then vA S 5 r + 12 else 90 := by
  obtain ⟨d, h1, h2⟩ := (h.2.2.2.2.1 r hr).2.2
  unfold heldI
  rw [if_pos]
  split
  · rw [h2, show nI d + 12 = nI (d + 12) from nI_add d 12]
    exact (nI_ltI (a := 0) (b := d + 12) (by decide) (by omega)).mpr (by omega)
  · decide
theorem hd_X5_isIn : yX5_isIn.cls ≠ "java/lang/invoke/MethodHandle" ∧ yX5_isIn.cls ≠ "java/lang/invoke/VarHandle" ∧ (parseMethodDescriptor yX5_isIn.desc).map (fun d => d.parameters.length) = some 3 := by decide +kernel
set_option maxRecDepth 100000 in
set_option maxHeartbeats 4000000 in
theorem c_X5_isIn {l : Launch} {D : va_G} {cI cL : ClassId} (x : Int32) (lo : Int32) (hi : Int32) : Ct l yX5_isIn wsX5_isIn { frames := 0, cells := 0, slots := 0, locals := 0 } D (ty2 cI cL) [.int x, .int lo, .int hi] ([]) (fun v w' => v = some (.int (bI (lo ≤ x ∧ x ≤ hi))) ∧ w' = []) 0 0 := by
  refine Ct.of (cc := cX5_isIn) (maxL := 3) (ret := (some .boolean)) (by decide) rfl (Nat.le_of_ble_eq_true rfl) ?_
  intro p e s m below meth c A ls CX hin HW hl
  obtain ⟨hx, hb, hml, hr, hown, hts, hK, hA, hlk⟩ := id CX
  have hl : lv_has ls 3 [(0, .int x), (1, .int lo), (2, .int hi)] := hl
  refine lv_iload_n hx hb dX5_isIn_0 rfl (lv_at hl 0 rfl) ?_
  refine lv_iload_n hx hb dX5_isIn_1 rfl (lv_at hl 1 rfl) ?_
  refine lv_icmp_lt (tgt := 14) hx hb dX5_isIn_2 (by decide) (fun c2 => ?_) (fun c2 => ?_)
  · refine lv_iconst (v := 0) hx hb dX5_isIn_14 (by decide) ?_
    exact g_zret CX HW rfl (Or.inl rfl) ⟨pI_f (by intro h9; first | exact absurd c2 (Int32.not_lt.mpr h9.1) | exact absurd c7 (Int32.not_lt.mpr h9.2)), rfl⟩ dX5_isIn_15
  · refine lv_iload_n hx hb dX5_isIn_5 rfl (lv_at hl 0 rfl) ?_
    refine lv_iload_n hx hb dX5_isIn_6 rfl (lv_at hl 2 rfl) ?_
    refine lv_icmp_gt (tgt := 14) hx hb dX5_isIn_7 (by decide) (fun c7 => ?_) (fun c7 => ?_)
    · refine lv_iconst (v := 0) hx hb dX5_isIn_14 (by decide) ?_
      exact g_zret CX HW rfl (Or.inl rfl) ⟨pI_f (by intro h9; first | exact absurd c2 (Int32.not_lt.mpr h9.1) | exact absurd c7 (Int32.not_lt.mpr h9.2)), rfl⟩ dX5_isIn_15
    · refine lv_iconst (v := 1) hx hb dX5_isIn_10 (by decide) ?_
      refine lv_goto (tgt := 15) hx hb dX5_isIn_11 (by decide) ?_
      exact g_zret CX HW rfl (Or.inr rfl) ⟨pI_t ⟨Int32.not_lt.mp c2, Int32.not_lt.mp c7⟩, rfl⟩ dX5_isIn_15

theorem hd_X5_isTow : yX5_isTow.cls ≠ "java/lang/invoke/MethodHandle" ∧ yX5_isTow.cls ≠ "java/lang/invoke/VarHandle" ∧ (parseMethodDescriptor yX5_isTow.desc).map (fun d => d.parameters.length) = some 1 := by decide +kernel
set_option maxRecDepth 100000 in
set_option maxHeartbeats 4000000 in
theorem c_X5_isTow {l : Launch} {D : va_G} {cI cL : ClassId} {a : Nat → Nat} (o : Nat) (S : VS) (th : Int32) (x : Int32) : Ct l yX5_isTow wsX5_isTow { frames := 1, cells := 0, slots := 0, locals := 22 } D (ty2 cI cL) [.ref (a o), .int x] (wMo cI a o th (vA S 0) (vA S 1) (vr S) (vA S 3) (vA S 4) (vs S) (vA S 7)) (fun v w' => v = some (.int (bI ((0 : Int32) ≤ x ∧ x ≤ (2 : Int32)))) ∧ w' = wMo cI a o th (vA S 0) (vA S 1) (vr S) (vA S 3) (vA S 4) (vs S) (vA S 7)) 0 0 := by
  refine Ct.of (cc := cX5_isTow) (maxL := 2) (ret := (some .boolean)) (by decide) rfl (Nat.le_of_ble_eq_true rfl) ?_
  intro p e s m below meth c A ls CX hin HW hl
  obtain ⟨hx, hb, hml, hr, hown, hts, hK, hA, hlk⟩ := id CX
  have hl : lv_has ls 2 [(0, .ref (a o)), (1, .int x)] := hl
  refine lv_iload_n hx hb dX5_isTow_0 rfl (lv_at hl 1 rfl) ?_
  refine lv_iconst (v := 0) hx hb dX5_isTow_1 (by decide) ?_
  refine lv_iconst (v := 2) hx hb dX5_isTow_2 (by decide) ?_
  refine g_callS CX HW hl.1 ([]) (wMo cI a o th (vA S 0) (vA S 1) (vr S) (vA S 3) (vA S 4) (vs S) (vA S 7)) (c_X5_isIn x (0 : Int32) (2 : Int32)) rfl gX5_isTow_X5_isIn rfl hd_X5_isIn ⟨rfl, rfl, (Nat.le_of_ble_eq_true rfl), (Nat.le_of_ble_eq_true rfl)⟩ ⟨(Nat.zero_le _), (Nat.zero_le _)⟩ rfl rfl (Nat.le_of_ble_eq_true rfl) dX5_isTow_3 (fun v w1 H locs hp HW => ?_)
  obtain ⟨rfl, rfl⟩ := hp
  have HW : Hw D A s (wMo cI a o th (vA S 0) (vA S 1) (vr S) (vA S 3) (vA S 4) (vs S) (vA S 7)) H locs := HW
  refine W.eq (g2 := F0 m 6 ls [.int (bI ((0 : Int32) ≤ x ∧ x ≤ (2 : Int32)))]) rfl ?_
  exact g_zret CX HW rfl (bI_01 _) ⟨rfl, rfl⟩ dX5_isTow_6

theorem hd_X5_isRun : yX5_isRun.cls ≠ "java/lang/invoke/MethodHandle" ∧ yX5_isRun.cls ≠ "java/lang/invoke/VarHandle" ∧ (parseMethodDescriptor yX5_isRun.desc).map (fun d => d.parameters.length) = some 1 := by decide +kernel
theorem fl_X5_isRun_45 : Cond.fieldLink RX5 45 (TX5 3).1 (TX5 3).2.1 (TX5 3).2.2.1 ∈ wsX5_isRun := by decide +kernel
theorem in_X5_isRun_5 : ∀ x ∈ u_ws RX5 TX5 10, x ∈ wsX5_isRun := by decide +kernel
set_option maxRecDepth 100000 in
set_option maxHeartbeats 4000000 in
theorem c_X5_isRun {l : Launch} {D : va_G} {cI cL : ClassId} {a : Nat → Nat} (o : Nat) (S : VS) (th : Int32) (x : Int32) (hn : vr S ≤ 8) : Ct l yX5_isRun wsX5_isRun { frames := 1, cells := 0, slots := 0, locals := 22 } D (ty2 cI cL) [.ref (a o), .int x] (wMo cI a o th (vA S 0) (vA S 1) (vr S) (vA S 3) (vA S 4) (vs S) (vA S 7)) (fun v w' => v = some (.int (bI ((0 : Int32) ≤ x ∧ x < nI (vr S)))) ∧ w' = wMo cI a o th (vA S 0) (vA S 1) (vr S) (vA S 3) (vA S 4) (vs S) (vA S 7)) 0 0 := by
  refine Ct.of (cc := cX5_isRun) (maxL := 2) (ret := (some .boolean)) (by decide) rfl (Nat.le_of_ble_eq_true rfl) ?_
  intro p e s m below meth c A ls CX hin HW hl
  obtain ⟨hx, hb, hml, hr, hown, hts, hK, hA, hlk⟩ := id CX
  have hl : lv_has ls 2 [(0, .ref (a o)), (1, .int x)] := hl
  refine lv_iload_n hx hb dX5_isRun_0 rfl (lv_at hl 1 rfl) ?_
  refine lv_iconst (v := 0) hx hb dX5_isRun_1 (by decide) ?_
  refine lv_aload_n hx hb dX5_isRun_2 rfl (lv_at hl 0 rfl) ?_
  refine g_get CX HW in_X5_isRun_5 0 3 rfl rfl (Nat.le_of_ble_eq_true rfl) fl_X5_isRun_45 rfl dX5_isRun_3 ?_
  refine lv_iconst (v := 1) hx hb dX5_isRun_6 (by decide) ?_
  refine lv_isub hx hb dX5_isRun_7 ?_
  refine g_callS CX HW hl.1 ([]) (wMo cI a o th (vA S 0) (vA S 1) (vr S) (vA S 3) (vA S 4) (vs S) (vA S 7)) (c_X5_isIn x (0 : Int32) ((nI (vr S)) - (1 : Int32))) rfl gX5_isRun_X5_isIn rfl hd_X5_isIn ⟨rfl, rfl, (Nat.le_of_ble_eq_true rfl), (Nat.le_of_ble_eq_true rfl)⟩ ⟨(Nat.zero_le _), (Nat.zero_le _)⟩ rfl rfl (Nat.le_of_ble_eq_true rfl) dX5_isRun_8 (fun v w1 H locs hp HW => ?_)
  obtain ⟨rfl, rfl⟩ := hp
  have HW : Hw D A s (wMo cI a o th (vA S 0) (vA S 1) (vr S) (vA S 3) (vA S 4) (vs S) (vA S 7)) H locs := HW
  refine W.eq (g2 := F0 m 11 ls [.int (bI ((0 : Int32) ≤ x ∧ x ≤ ((nI (vr S)) - (1 : Int32))))]) rfl ?_
  refine g_top (y := (bI ((0 : Int32) ≤ x ∧ x < nI (vr S)))) (bI_c (lt_pred hn)) ?_
  exact g_zret CX HW rfl (bI_01 _) ⟨rfl, rfl⟩ dX5_isRun_11

theorem hd_X5_isSkier : yX5_isSkier.cls ≠ "java/lang/invoke/MethodHandle" ∧ yX5_isSkier.cls ≠ "java/lang/invoke/VarHandle" ∧ (parseMethodDescriptor yX5_isSkier.desc).map (fun d => d.parameters.length) = some 1 := by decide +kernel
theorem fl_X5_isSkier_48 : Cond.fieldLink RX5 48 (TX5 6).1 (TX5 6).2.1 (TX5 6).2.2.1 ∈ wsX5_isSkier := by decide +kernel
theorem in_X5_isSkier_5 : ∀ x ∈ u_ws RX5 TX5 10, x ∈ wsX5_isSkier := by decide +kernel
set_option maxRecDepth 100000 in
set_option maxHeartbeats 4000000 in
theorem c_X5_isSkier {l : Launch} {D : va_G} {cI cL : ClassId} {a : Nat → Nat} (o : Nat) (S : VS) (th : Int32) (x : Int32) (hn : vs S ≤ 8) : Ct l yX5_isSkier wsX5_isSkier { frames := 1, cells := 0, slots := 0, locals := 22 } D (ty2 cI cL) [.ref (a o), .int x] (wMo cI a o th (vA S 0) (vA S 1) (vr S) (vA S 3) (vA S 4) (vs S) (vA S 7)) (fun v w' => v = some (.int (bI ((0 : Int32) ≤ x ∧ x < nI (vs S)))) ∧ w' = wMo cI a o th (vA S 0) (vA S 1) (vr S) (vA S 3) (vA S 4) (vs S) (vA S 7)) 0 0 := by
  refine Ct.of (cc := cX5_isSkier) (maxL := 2) (ret := (some .boolean)) (by decide) rfl (Nat.le_of_ble_eq_true rfl) ?_
  intro p e s m below meth c A ls CX hin HW hl
  obtain ⟨hx, hb, hml, hr, hown, hts, hK, hA, hlk⟩ := id CX
  have hl : lv_has ls 2 [(0, .ref (a o)), (1, .int x)] := hl
  refine lv_iload_n hx hb dX5_isSkier_0 rfl (lv_at hl 1 rfl) ?_
  refine lv_iconst (v := 0) hx hb dX5_isSkier_1 (by decide) ?_
  refine lv_aload_n hx hb dX5_isSkier_2 rfl (lv_at hl 0 rfl) ?_
  refine g_get CX HW in_X5_isSkier_5 0 6 rfl rfl (Nat.le_of_ble_eq_true rfl) fl_X5_isSkier_48 rfl dX5_isSkier_3 ?_
  refine lv_iconst (v := 1) hx hb dX5_isSkier_6 (by decide) ?_
  refine lv_isub hx hb dX5_isSkier_7 ?_
  refine g_callS CX HW hl.1 ([]) (wMo cI a o th (vA S 0) (vA S 1) (vr S) (vA S 3) (vA S 4) (vs S) (vA S 7)) (c_X5_isIn x (0 : Int32) ((nI (vs S)) - (1 : Int32))) rfl gX5_isSkier_X5_isIn rfl hd_X5_isIn ⟨rfl, rfl, (Nat.le_of_ble_eq_true rfl), (Nat.le_of_ble_eq_true rfl)⟩ ⟨(Nat.zero_le _), (Nat.zero_le _)⟩ rfl rfl (Nat.le_of_ble_eq_true rfl) dX5_isSkier_8 (fun v w1 H locs hp HW => ?_)
  obtain ⟨rfl, rfl⟩ := hp
  have HW : Hw D A s (wMo cI a o th (vA S 0) (vA S 1) (vr S) (vA S 3) (vA S 4) (vs S) (vA S 7)) H locs := HW
  refine W.eq (g2 := F0 m 11 ls [.int (bI ((0 : Int32) ≤ x ∧ x ≤ ((nI (vs S)) - (1 : Int32))))]) rfl ?_
  refine g_top (y := (bI ((0 : Int32) ≤ x ∧ x < nI (vs S)))) (bI_c (lt_pred hn)) ?_
  exact g_zret CX HW rfl (bI_01 _) ⟨rfl, rfl⟩ dX5_isSkier_11

theorem hd_X5_no : yX5_no.cls ≠ "java/lang/invoke/MethodHandle" ∧ yX5_no.cls ≠ "java/lang/invoke/VarHandle" ∧ (parseMethodDescriptor yX5_no.desc).map (fun d => d.parameters.length) = some 1 := by decide +kernel
theorem fl_X5_no_37 : Cond.fieldLink RX5 37 (TX5 0).1 (TX5 0).2.1 (TX5 0).2.2.1 ∈ wsX5_no := by decide +kernel
theorem in_X5_no_5 : ∀ x ∈ u_ws RX5 TX5 10, x ∈ wsX5_no := by decide +kernel
set_option maxRecDepth 100000 in
set_option maxHeartbeats 4000000 in
theorem c_X5_no {l : Launch} {D : va_G} {cI cL : ClassId} {a : Nat → Nat} (o : Nat) (S : VS) (th : Int32) (x : Int32) : Ct l yX5_no wsX5_no { frames := 0, cells := 0, slots := 0, locals := 0 } D (ty2 cI cL) [.ref (a o), .int x] (wMo cI a o th (vA S 0) (vA S 1) (vr S) (vA S 3) (vA S 4) (vs S) (vA S 7)) (fun v w' => v = some (.int (0 : Int32)) ∧ w' = wMo cI a o x (vA S 0) (vA S 1) (vr S) (vA S 3) (vA S 4) (vs S) (vA S 7)) 0 0 := by
  refine Ct.of (cc := cX5_no) (maxL := 2) (ret := (some .int)) (by decide) rfl (Nat.le_of_ble_eq_true rfl) ?_
  intro p e s m below meth c A ls CX hin HW hl
  obtain ⟨hx, hb, hml, hr, hown, hts, hK, hA, hlk⟩ := id CX
  have hl : lv_has ls 2 [(0, .ref (a o)), (1, .int x)] := hl
  refine lv_aload_n hx hb dX5_no_0 rfl (lv_at hl 0 rfl) ?_
  refine lv_iload_n hx hb dX5_no_1 rfl (lv_at hl 1 rfl) ?_
  refine g_put CX HW in_X5_no_5 tyX5 tyX5_ok nmX5 0 0 rfl rfl (Nat.le_of_ble_eq_true rfl) fl_X5_no_37 rfl rfl rfl (Nat.le_of_ble_eq_true rfl) dX5_no_2 (fun H locs HW => ?_)
  have HW : Hw D A s (wMo cI a o x (vA S 0) (vA S 1) (vr S) (vA S 3) (vA S 4) (vs S) (vA S 7)) H locs := HW
  refine lv_iconst (v := 0) hx hb dX5_no_5 (by decide) ?_
  exact g_iret CX HW rfl ⟨rfl, rfl⟩ dX5_no_6

theorem hd_X5_thrown : yX5_thrown.cls ≠ "java/lang/invoke/MethodHandle" ∧ yX5_thrown.cls ≠ "java/lang/invoke/VarHandle" ∧ (parseMethodDescriptor yX5_thrown.desc).map (fun d => d.parameters.length) = some 0 := by decide +kernel
theorem fl_X5_thrown_37 : Cond.fieldLink RX5 37 (TX5 0).1 (TX5 0).2.1 (TX5 0).2.2.1 ∈ wsX5_thrown := by decide +kernel
theorem in_X5_thrown_5 : ∀ x ∈ u_ws RX5 TX5 10, x ∈ wsX5_thrown := by decide +kernel
set_option maxRecDepth 100000 in
set_option maxHeartbeats 4000000 in
theorem c_X5_thrown {l : Launch} {D : va_G} {cI cL : ClassId} {a : Nat → Nat} (o : Nat) (S : VS) (th : Int32) : Ct l yX5_thrown wsX5_thrown { frames := 0, cells := 0, slots := 0, locals := 0 } D (ty2 cI cL) [.ref (a o)] (wMo cI a o th (vA S 0) (vA S 1) (vr S) (vA S 3) (vA S 4) (vs S) (vA S 7)) (fun v w' => v = some (.int th) ∧ w' = wMo cI a o th (vA S 0) (vA S 1) (vr S) (vA S 3) (vA S 4) (vs S) (vA S 7)) 0 0 := by
  refine Ct.of (cc := cX5_thrown) (maxL := 1) (ret := (some .int)) (by decide) rfl (Nat.le_of_ble_eq_true rfl) ?_
  intro p e s m below meth c A ls CX hin HW hl
  obtain ⟨hx, hb, hml, hr, hown, hts, hK, hA, hlk⟩ := id CX
  have hl : lv_has ls 1 [(0, .ref (a o))] := hl
  refine lv_aload_n hx hb dX5_thrown_0 rfl (lv_at hl 0 rfl) ?_
  refine g_get CX HW in_X5_thrown_5 0 0 rfl rfl (Nat.le_of_ble_eq_true rfl) fl_X5_thrown_37 rfl dX5_thrown_1 ?_
  exact g_iret CX HW rfl ⟨rfl, rfl⟩ dX5_thrown_4

theorem hd_X5_runTold : yX5_runTold.cls ≠ "java/lang/invoke/MethodHandle" ∧ yX5_runTold.cls ≠ "java/lang/invoke/VarHandle" ∧ (parseMethodDescriptor yX5_runTold.desc).map (fun d => d.parameters.length) = some 2 := by decide +kernel
theorem fl_X5_runTold_16 : Cond.fieldLink RX5 16 (TX5 4).1 (TX5 4).2.1 (TX5 4).2.2.1 ∈ wsX5_runTold := by decide +kernel
theorem in_X5_runTold_5 : ∀ x ∈ u_ws RX5 TX5 10, x ∈ wsX5_runTold := by decide +kernel
theorem fl_X5_runTold_19 : Cond.fieldLink RX5 19 (TX5 5).1 (TX5 5).2.1 (TX5 5).2.2.1 ∈ wsX5_runTold := by decide +kernel
theorem fl_X5_runTold_30 : Cond.fieldLink RX5 30 (TX5 8).1 (TX5 8).2.1 (TX5 8).2.2.1 ∈ wsX5_runTold := by decide +kernel
theorem in_X5_runTold_4 : ∀ x ∈ u_ws RX4 TX4 14, x ∈ wsX5_runTold := by decide +kernel
set_option maxRecDepth 100000 in
set_option maxHeartbeats 4000000 in
theorem c_X5_runTold {l : Launch} {D : va_G} {cI cL : ClassId} {a : Nat → Nat} (o : Nat) (S : VS) (th : Int32) (my : Nat → Int32) (qu : Nat → Int32) (T : VS) (ri2 : Int32) (my2 : Nat → Int32) (qu2 : Nat → Int32) (r : Nat) (what : Nat) (hr6 : r < 6) (hw5 : what < 5) : Ct l yX5_runTold wsX5_runTold { frames := 1, cells := 0, slots := 0, locals := 21 } D (ty2 cI cL) [.ref (a o), .int (nI r), .int (nI what)] (wMo cI a o th (vA S 0) (vA S 1) (vr S) (vA S 3) (vA S 4) (vs S) (vA S 7) ++ (wMS cI a (o + 6) (a o) (vh S) (vc S) (sumP S) (vA S 5) (vA S 6) (vA S 8) (vA S 9) (vA S 10) (vA S 11) (vA S 12) (vA S 2) my qu ++ (wMS cI a (o + 17) (a o) (vh T) (vc T) ri2 (vA T 5) (vA T 6) (vA T 8) (vA T 9) (vA T 10) (vA T 11) (vA T 12) (vA T 2) my2 qu2))) (fun v w' => v = some (.int (figR (vA S 3) (vA S 4) (vA S 5) (vA S 6) r what)) ∧ w' = wMo cI a o th (vA S 0) (vA S 1) (vr S) (vA S 3) (vA S 4) (vs S) (vA S 7) ++ (wMS cI a (o + 6) (a o) (vh S) (vc S) (sumP S) (vA S 5) (vA S 6) (vA S 8) (vA S 9) (vA S 10) (vA S 11) (vA S 12) (vA S 2) my qu ++ (wMS cI a (o + 17) (a o) (vh T) (vc T) ri2 (vA T 5) (vA T 6) (vA T 8) (vA T 9) (vA T 10) (vA T 11) (vA T 12) (vA T 2) my2 qu2))) 0 0 := by
  refine Ct.of (cc := cX5_runTold) (maxL := 3) (ret := (some .int)) (by decide) rfl (Nat.le_of_ble_eq_true rfl) ?_
  intro p e s m below meth c A ls CX hin HW hl
  obtain ⟨hx, hb, hml, hr, hown, hts, hK, hA, hlk⟩ := id CX
  have hl : lv_has ls 3 [(0, .ref (a o)), (1, .int (nI r)), (2, .int (nI what))] := hl
  refine lv_iload_n hx hb dX5_runTold_0 rfl (lv_at hl 2 rfl) ?_
  rcases (by omega : what = 0 ∨ what = 1 ∨ what = 2 ∨ what = 3 ∨ what = 4) with rfl | rfl | rfl | rfl | rfl
  · refine lv_tableIn (off := 31) (tgt := 32) hx hb dX5_runTold_1 (by decide) (by decide) (by decide) (by decide) ?_
    refine lv_aload_n hx hb dX5_runTold_32 rfl (lv_at hl 0 rfl) ?_
    refine g_get CX HW in_X5_runTold_5 0 4 rfl rfl (Nat.le_of_ble_eq_true rfl) fl_X5_runTold_16 rfl dX5_runTold_33 ?_
    refine lv_iload_n hx hb dX5_runTold_36 rfl (lv_at hl 1 rfl) ?_
    refine g_ald CX HW 3 (k := r) rfl rfl rfl (by omega) (Nat.le_of_ble_eq_true rfl) dX5_runTold_37 ?_
    exact g_iret CX HW rfl ⟨rfl, rfl⟩ dX5_runTold_38
  · refine lv_tableIn (off := 38) (tgt := 39) hx hb dX5_runTold_1 (by decide) (by decide) (by decide) (by decide) ?_
    refine lv_aload_n hx hb dX5_runTold_39 rfl (lv_at hl 0 rfl) ?_
    refine g_get CX HW in_X5_runTold_5 0 5 rfl rfl (Nat.le_of_ble_eq_true rfl) fl_X5_runTold_19 rfl dX5_runTold_40 ?_
    refine lv_iload_n hx hb dX5_runTold_43 rfl (lv_at hl 1 rfl) ?_
    refine g_ald CX HW 4 (k := r) rfl rfl rfl (by omega) (Nat.le_of_ble_eq_true rfl) dX5_runTold_44 ?_
    exact g_iret CX HW rfl ⟨rfl, rfl⟩ dX5_runTold_45
  · refine lv_tableIn (off := 45) (tgt := 46) hx hb dX5_runTold_1 (by decide) (by decide) (by decide) (by decide) ?_
    refine lv_aload_n hx hb dX5_runTold_46 rfl (lv_at hl 0 rfl) ?_
    refine g_get CX HW in_X5_runTold_5 0 8 rfl rfl (Nat.le_of_ble_eq_true rfl) fl_X5_runTold_30 rfl dX5_runTold_47 ?_
    refine g_getN (host := "PommelTowsModel") CX HW in_X5_runTold_4 6 3 rfl rfl (Nat.le_of_ble_eq_true rfl) (by decide +kernel) rfl dX5_runTold_50 ?_
    refine lv_iload_n hx hb dX5_runTold_53 rfl (lv_at hl 1 rfl) ?_
    refine g_ald CX HW 7 (k := r) rfl rfl rfl (by omega) (Nat.le_of_ble_eq_true rfl) dX5_runTold_54 ?_
    exact g_iret CX HW rfl ⟨rfl, rfl⟩ dX5_runTold_55
  · refine lv_tableIn (off := 55) (tgt := 56) hx hb dX5_runTold_1 (by decide) (by decide) (by decide) (by decide) ?_
    refine lv_aload_n hx hb dX5_runTold_56 rfl (lv_at hl 0 rfl) ?_
    refine g_get CX HW in_X5_runTold_5 0 8 rfl rfl (Nat.le_of_ble_eq_true rfl) fl_X5_runTold_30 rfl dX5_runTold_57 ?_
    refine lv_iload_n hx hb dX5_runTold_60 rfl (lv_at hl 1 rfl) ?_
    refine g_callV CX HW hl.1 ([]) (wMS cI a (o + 17) (a o) (vh T) (vc T) ri2 (vA T 5) (vA T 6) (vA T 8) (vA T 9) (vA T 10) (vA T 11) (vA T 12) (vA T 2) my2 qu2) (c_X4_isFlagged o (o + 6) S th (sumP S) my qu r (by omega)) rfl 6 rfl rfl gX5_runTold_X4_isFlagged rfl ⟨rfl, hd_X4_isFlagged⟩ ⟨rfl, rfl, (Nat.le_of_ble_eq_true rfl), (Nat.le_of_ble_eq_true rfl)⟩ ⟨(Nat.zero_le _), (Nat.zero_le _)⟩ rfl rfl (Nat.le_of_ble_eq_true rfl) dX5_runTold_61 (fun v w1 H locs hp HW => ?_)
    obtain ⟨rfl, rfl⟩ := hp
    have HW : Hw D A s (wMo cI a o th (vA S 0) (vA S 1) (vr S) (vA S 3) (vA S 4) (vs S) (vA S 7) ++ (wMS cI a (o + 6) (a o) (vh S) (vc S) (sumP S) (vA S 5) (vA S 6) (vA S 8) (vA S 9) (vA S 10) (vA S 11) (vA S 12) (vA S 2) my qu ++ (wMS cI a (o + 17) (a o) (vh T) (vc T) ri2 (vA T 5) (vA T 6) (vA T 8) (vA T 9) (vA T 10) (vA T 11) (vA T 12) (vA T 2) my2 qu2))) H locs := HW
    refine W.eq (g2 := F0 m 64 ls [.int (bI (¬ opn (vA S 5) (vA S 4) r))]) rfl ?_
    refine g_ifeq_b (tgt := 71) hx hb dX5_runTold_64 (by decide) (fun c64 => ?_) (fun c64 => ?_)
    · refine lv_iconst (v := 0) hx hb dX5_runTold_71 (by decide) ?_
      exact g_iret CX HW rfl ⟨by simp only [figR]; rw [if_pos (Decidable.byContradiction c64)], rfl⟩ dX5_runTold_72
    · refine lv_iconst (v := 1) hx hb dX5_runTold_67 (by decide) ?_
      refine lv_goto (tgt := 72) hx hb dX5_runTold_68 (by decide) ?_
      exact g_iret CX HW rfl ⟨by simp only [figR]; rw [if_neg c64], rfl⟩ dX5_runTold_72
  · refine lv_tableOut (tgt := 73) hx hb dX5_runTold_1 (by decide) (by decide) ?_
    refine lv_aload_n hx hb dX5_runTold_73 rfl (lv_at hl 0 rfl) ?_
    refine g_get CX HW in_X5_runTold_5 0 8 rfl rfl (Nat.le_of_ble_eq_true rfl) fl_X5_runTold_30 rfl dX5_runTold_74 ?_
    refine g_getN (host := "PommelTowsModel") CX HW in_X5_runTold_4 6 4 rfl rfl (Nat.le_of_ble_eq_true rfl) (by decide +kernel) rfl dX5_runTold_77 ?_
    refine lv_iload_n hx hb dX5_runTold_80 rfl (lv_at hl 1 rfl) ?_
    refine g_ald CX HW 8 (k := r) rfl rfl rfl (by omega) (Nat.le_of_ble_eq_true rfl) dX5_runTold_81 ?_
    exact g_iret CX HW rfl ⟨rfl, rfl⟩ dX5_runTold_82

theorem hd_X5_skierTold : yX5_skierTold.cls ≠ "java/lang/invoke/MethodHandle" ∧ yX5_skierTold.cls ≠ "java/lang/invoke/VarHandle" ∧ (parseMethodDescriptor yX5_skierTold.desc).map (fun d => d.parameters.length) = some 2 := by decide +kernel
theorem fl_X5_skierTold_22 : Cond.fieldLink RX5 22 (TX5 7).1 (TX5 7).2.1 (TX5 7).2.2.1 ∈ wsX5_skierTold := by decide +kernel
theorem in_X5_skierTold_5 : ∀ x ∈ u_ws RX5 TX5 10, x ∈ wsX5_skierTold := by decide +kernel
theorem fl_X5_skierTold_30 : Cond.fieldLink RX5 30 (TX5 8).1 (TX5 8).2.1 (TX5 8).2.2.1 ∈ wsX5_skierTold := by decide +kernel
theorem in_X5_skierTold_4 : ∀ x ∈ u_ws RX4 TX4 14, x ∈ wsX5_skierTold := by decide +kernel
set_option maxRecDepth 100000 in
set_option maxHeartbeats 4000000 in
theorem c_X5_skierTold {l : Launch} {D : va_G} {cI cL : ClassId} {a : Nat → Nat} (o : Nat) (S : VS) (th : Int32) (my : Nat → Int32) (qu : Nat → Int32) (T : VS) (ri2 : Int32) (my2 : Nat → Int32) (qu2 : Nat → Int32) (k : Nat) (what : Nat) (hI : Inv S) (hM : RepM (vq S) my qu) (hQ : Qk (vs S) (vq S)) (hk : k < vs S) (hw7 : what < 7) : Ct l yX5_skierTold wsX5_skierTold { frames := 1, cells := 0, slots := 0, locals := 23 } D (ty2 cI cL) [.ref (a o), .int (nI k), .int (nI what)] (wMo cI a o th (vA S 0) (vA S 1) (vr S) (vA S 3) (vA S 4) (vs S) (vA S 7) ++ (wMS cI a (o + 6) (a o) (vh S) (vc S) (sumP S) (vA S 5) (vA S 6) (vA S 8) (vA S 9) (vA S 10) (vA S 11) (vA S 12) (vA S 2) my qu ++ (wMS cI a (o + 17) (a o) (vh T) (vc T) ri2 (vA T 5) (vA T 6) (vA T 8) (vA T 9) (vA T 10) (vA T 11) (vA T 12) (vA T 2) my2 qu2))) (fun v w' => v = some (.int (figK S k what)) ∧ w' = wMo cI a o th (vA S 0) (vA S 1) (vr S) (vA S 3) (vA S 4) (vs S) (vA S 7) ++ (wMS cI a (o + 6) (a o) (vh S) (vc S) (sumP S) (vA S 5) (vA S 6) (vA S 8) (vA S 9) (vA S 10) (vA S 11) (vA S 12) (vA S 2) my qu ++ (wMS cI a (o + 17) (a o) (vh T) (vc T) ri2 (vA T 5) (vA T 6) (vA T 8) (vA T 9) (vA T 10) (vA T 11) (vA T 12) (vA T 2) my2 qu2))) 0 0 := by
  refine Ct.of (cc := cX5_skierTold) (maxL := 3) (ret := (some .int)) (by decide) rfl (Nat.le_of_ble_eq_true rfl) ?_
  intro p e s m below meth c A ls CX hin HW hl
  obtain ⟨hx, hb, hml, hr, hown, hts, hK, hA, hlk⟩ := id CX
  have hl : lv_has ls 3 [(0, .ref (a o)), (1, .int (nI k)), (2, .int (nI what))] := hl
  have hk8 : k < 8 := Nat.lt_of_lt_of_le hk hI.2.1
  refine lv_iload_n hx hb dX5_skierTold_0 rfl (lv_at hl 2 rfl) ?_
  rcases (by omega : what = 0 ∨ what = 1 ∨ what = 2 ∨ what = 3 ∨ what = 4 ∨ what = 5 ∨ what = 6) with rfl | rfl | rfl | rfl | rfl | rfl | rfl
  · refine lv_tableIn (off := 39) (tgt := 40) hx hb dX5_skierTold_1 (by decide) (by decide) (by decide) (by decide) ?_
    refine lv_aload_n hx hb dX5_skierTold_40 rfl (lv_at hl 0 rfl) ?_
    refine g_get CX HW in_X5_skierTold_5 0 7 rfl rfl (Nat.le_of_ble_eq_true rfl) fl_X5_skierTold_22 rfl dX5_skierTold_41 ?_
    refine lv_iload_n hx hb dX5_skierTold_44 rfl (lv_at hl 1 rfl) ?_
    refine g_ald CX HW 5 (k := k) rfl rfl rfl (by omega) (Nat.le_of_ble_eq_true rfl) dX5_skierTold_45 ?_
    exact g_iret CX HW rfl ⟨rfl, rfl⟩ dX5_skierTold_46
  · refine lv_tableIn (off := 46) (tgt := 47) hx hb dX5_skierTold_1 (by decide) (by decide) (by decide) (by decide) ?_
    refine lv_aload_n hx hb dX5_skierTold_47 rfl (lv_at hl 0 rfl) ?_
    refine g_get CX HW in_X5_skierTold_5 0 8 rfl rfl (Nat.le_of_ble_eq_true rfl) fl_X5_skierTold_30 rfl dX5_skierTold_48 ?_
    refine g_getN (host := "PommelTowsModel") CX HW in_X5_skierTold_4 6 5 rfl rfl (Nat.le_of_ble_eq_true rfl) (by decide +kernel) rfl dX5_skierTold_51 ?_
    refine lv_iload_n hx hb dX5_skierTold_54 rfl (lv_at hl 1 rfl) ?_
    refine g_ald CX HW 9 (k := k) rfl rfl rfl (by omega) (Nat.le_of_ble_eq_true rfl) dX5_skierTold_55 ?_
    exact g_iret CX HW rfl ⟨rfl, rfl⟩ dX5_skierTold_56
  · refine lv_tableIn (off := 56) (tgt := 57) hx hb dX5_skierTold_1 (by decide) (by decide) (by decide) (by decide) ?_
    refine lv_aload_n hx hb dX5_skierTold_57 rfl (lv_at hl 0 rfl) ?_
    refine g_get CX HW in_X5_skierTold_5 0 8 rfl rfl (Nat.le_of_ble_eq_true rfl) fl_X5_skierTold_30 rfl dX5_skierTold_58 ?_
    refine g_getN (host := "PommelTowsModel") CX HW in_X5_skierTold_4 6 7 rfl rfl (Nat.le_of_ble_eq_true rfl) (by decide +kernel) rfl dX5_skierTold_61 ?_
    refine lv_iload_n hx hb dX5_skierTold_64 rfl (lv_at hl 1 rfl) ?_
    refine g_ald CX HW 11 (k := k) rfl rfl rfl (by omega) (Nat.le_of_ble_eq_true rfl) dX5_skierTold_65 ?_
    refine lv_if_ne (tgt := 73) hx hb dX5_skierTold_66 (by decide) (fun c66 => ?_) (fun c66 => ?_)
    · refine lv_aload_n hx hb dX5_skierTold_73 rfl (lv_at hl 0 rfl) ?_
      refine g_get CX HW in_X5_skierTold_5 0 8 rfl rfl (Nat.le_of_ble_eq_true rfl) fl_X5_skierTold_30 rfl dX5_skierTold_74 ?_
      refine g_getN (host := "PommelTowsModel") CX HW in_X5_skierTold_4 6 6 rfl rfl (Nat.le_of_ble_eq_true rfl) (by decide +kernel) rfl dX5_skierTold_77 ?_
      refine lv_iload_n hx hb dX5_skierTold_80 rfl (lv_at hl 1 rfl) ?_
      refine g_ald CX HW 10 (k := k) rfl rfl rfl (by omega) (Nat.le_of_ble_eq_true rfl) dX5_skierTold_81 ?_
      exact g_iret CX HW rfl ⟨by simp only [figK, figS]; rw [if_pos (pos_of_ne (ly_pos hI hk) c66)], rfl⟩ dX5_skierTold_82
    · refine lv_iconst (v := (-1)) hx hb dX5_skierTold_69 (by decide) ?_
      refine lv_goto (tgt := 82) hx hb dX5_skierTold_70 (by decide) ?_
      exact g_iret CX HW rfl ⟨by simp only [figK, figS]; rw [if_neg (by rw [c66]; decide)], rfl⟩ dX5_skierTold_82
  · refine lv_tableIn (off := 82) (tgt := 83) hx hb dX5_skierTold_1 (by decide) (by decide) (by decide) (by decide) ?_
    refine lv_aload_n hx hb dX5_skierTold_83 rfl (lv_at hl 0 rfl) ?_
    refine g_get CX HW in_X5_skierTold_5 0 8 rfl rfl (Nat.le_of_ble_eq_true rfl) fl_X5_skierTold_30 rfl dX5_skierTold_84 ?_
    refine g_getN (host := "PommelTowsModel") CX HW in_X5_skierTold_4 6 7 rfl rfl (Nat.le_of_ble_eq_true rfl) (by decide +kernel) rfl dX5_skierTold_87 ?_
    refine lv_iload_n hx hb dX5_skierTold_90 rfl (lv_at hl 1 rfl) ?_
    refine g_ald CX HW 11 (k := k) rfl rfl rfl (by omega) (Nat.le_of_ble_eq_true rfl) dX5_skierTold_91 ?_
    exact g_iret CX HW rfl ⟨rfl, rfl⟩ dX5_skierTold_92
  · refine lv_tableIn (off := 92) (tgt := 93) hx hb dX5_skierTold_1 (by decide) (by decide) (by decide) (by decide) ?_
    refine lv_aload_n hx hb dX5_skierTold_93 rfl (lv_at hl 0 rfl) ?_
    refine g_get CX HW in_X5_skierTold_5 0 8 rfl rfl (Nat.le_of_ble_eq_true rfl) fl_X5_skierTold_30 rfl dX5_skierTold_94 ?_
    refine g_getN (host := "PommelTowsModel") CX HW in_X5_skierTold_4 6 8 rfl rfl (Nat.le_of_ble_eq_true rfl) (by decide +kernel) rfl dX5_skierTold_97 ?_
    refine lv_iload_n hx hb dX5_skierTold_100 rfl (lv_at hl 1 rfl) ?_
    refine g_ald CX HW 12 (k := k) rfl rfl rfl (by omega) (Nat.le_of_ble_eq_true rfl) dX5_skierTold_101 ?_
    exact g_iret CX HW rfl ⟨rfl, rfl⟩ dX5_skierTold_102
  · refine lv_tableIn (off := 102) (tgt := 103) hx hb dX5_skierTold_1 (by decide) (by decide) (by decide) (by decide) ?_
    refine lv_aload_n hx hb dX5_skierTold_103 rfl (lv_at hl 0 rfl) ?_
    refine g_get CX HW in_X5_skierTold_5 0 8 rfl rfl (Nat.le_of_ble_eq_true rfl) fl_X5_skierTold_30 rfl dX5_skierTold_104 ?_
    refine g_getN (host := "PommelTowsModel") CX HW in_X5_skierTold_4 6 9 rfl rfl (Nat.le_of_ble_eq_true rfl) (by decide +kernel) rfl dX5_skierTold_107 ?_
    refine lv_iload_n hx hb dX5_skierTold_110 rfl (lv_at hl 1 rfl) ?_
    refine g_ald CX HW 13 (k := k) rfl rfl rfl (by omega) (Nat.le_of_ble_eq_true rfl) dX5_skierTold_111 ?_
    exact g_iret CX HW rfl ⟨rfl, rfl⟩ dX5_skierTold_112
  · refine lv_tableOut (tgt := 113) hx hb dX5_skierTold_1 (by decide) (by decide) ?_
    refine lv_aload_n hx hb dX5_skierTold_113 rfl (lv_at hl 0 rfl) ?_
    refine g_get CX HW in_X5_skierTold_5 0 8 rfl rfl (Nat.le_of_ble_eq_true rfl) fl_X5_skierTold_30 rfl dX5_skierTold_114 ?_
    refine lv_iload_n hx hb dX5_skierTold_117 rfl (lv_at hl 1 rfl) ?_
    refine g_callV CX HW hl.1 ([]) (wMS cI a (o + 17) (a o) (vh T) (vc T) ri2 (vA T 5) (vA T 6) (vA T 8) (vA T 9) (vA T 10) (vA T 11) (vA T 12) (vA T 2) my2 qu2) (c_X4_towAt o (o + 6) S th (sumP S) my qu k hM hQ hI.2.1 (by omega)) rfl 6 rfl rfl gX5_skierTold_X4_towAt rfl ⟨rfl, hd_X4_towAt⟩ ⟨rfl, rfl, (Nat.le_of_ble_eq_true rfl), (Nat.le_of_ble_eq_true rfl)⟩ ⟨(Nat.zero_le _), (Nat.zero_le _)⟩ rfl rfl (Nat.le_of_ble_eq_true rfl) dX5_skierTold_118 (fun v w1 H locs hp HW => ?_)
    obtain ⟨rfl, rfl⟩ := hp
    have HW : Hw D A s (wMo cI a o th (vA S 0) (vA S 1) (vr S) (vA S 3) (vA S 4) (vs S) (vA S 7) ++ (wMS cI a (o + 6) (a o) (vh S) (vc S) (sumP S) (vA S 5) (vA S 6) (vA S 8) (vA S 9) (vA S 10) (vA S 11) (vA S 12) (vA S 2) my qu ++ (wMS cI a (o + 17) (a o) (vh T) (vc T) ri2 (vA T 5) (vA T 6) (vA T 8) (vA T 9) (vA T 10) (vA T 11) (vA T 12) (vA T 2) my2 qu2))) H locs := HW
    refine W.eq (g2 := F0 m 121 ls [.int (towQ (vq S) k)]) rfl ?_
    exact g_iret CX HW rfl ⟨rfl, rfl⟩ dX5_skierTold_121

theorem hd_X5_towTold : yX5_towTold.cls ≠ "java/lang/invoke/MethodHandle" ∧ yX5_towTold.cls ≠ "java/lang/invoke/VarHandle" ∧ (parseMethodDescriptor yX5_towTold.desc).map (fun d => d.parameters.length) = some 2 := by decide +kernel
theorem fl_X5_towTold_13 : Cond.fieldLink RX5 13 (TX5 2).1 (TX5 2).2.1 (TX5 2).2.2.1 ∈ wsX5_towTold := by decide +kernel
theorem in_X5_towTold_5 : ∀ x ∈ u_ws RX5 TX5 10, x ∈ wsX5_towTold := by decide +kernel
theorem fl_X5_towTold_30 : Cond.fieldLink RX5 30 (TX5 8).1 (TX5 8).2.1 (TX5 8).2.2.1 ∈ wsX5_towTold := by decide +kernel
theorem in_X5_towTold_4 : ∀ x ∈ u_ws RX4 TX4 14, x ∈ wsX5_towTold := by decide +kernel
set_option maxRecDepth 100000 in
set_option maxHeartbeats 4000000 in
theorem c_X5_towTold {l : Launch} {D : va_G} {cI cL : ClassId} {a : Nat → Nat} (o : Nat) (S : VS) (th : Int32) (my : Nat → Int32) (qu : Nat → Int32) (T : VS) (ri2 : Int32) (my2 : Nat → Int32) (qu2 : Nat → Int32) (t : Nat) (what : Nat) (hM : RepM (vq S) my qu) (ht : t < 3) (hw3 : what < 3) : Ct l yX5_towTold wsX5_towTold { frames := 0, cells := 0, slots := 0, locals := 0 } D (ty2 cI cL) [.ref (a o), .int (nI t), .int (nI what)] (wMo cI a o th (vA S 0) (vA S 1) (vr S) (vA S 3) (vA S 4) (vs S) (vA S 7) ++ (wMS cI a (o + 6) (a o) (vh S) (vc S) (sumP S) (vA S 5) (vA S 6) (vA S 8) (vA S 9) (vA S 10) (vA S 11) (vA S 12) (vA S 2) my qu ++ (wMS cI a (o + 17) (a o) (vh T) (vc T) ri2 (vA T 5) (vA T 6) (vA T 8) (vA T 9) (vA T 10) (vA T 11) (vA T 12) (vA T 2) my2 qu2))) (fun v w' => v = some (.int (figT S t what)) ∧ w' = wMo cI a o th (vA S 0) (vA S 1) (vr S) (vA S 3) (vA S 4) (vs S) (vA S 7) ++ (wMS cI a (o + 6) (a o) (vh S) (vc S) (sumP S) (vA S 5) (vA S 6) (vA S 8) (vA S 9) (vA S 10) (vA S 11) (vA S 12) (vA S 2) my qu ++ (wMS cI a (o + 17) (a o) (vh T) (vc T) ri2 (vA T 5) (vA T 6) (vA T 8) (vA T 9) (vA T 10) (vA T 11) (vA T 12) (vA T 2) my2 qu2))) 0 0 := by
  refine Ct.of (cc := cX5_towTold) (maxL := 3) (ret := (some .int)) (by decide) rfl (Nat.le_of_ble_eq_true rfl) ?_
  intro p e s m below meth c A ls CX hin HW hl
  obtain ⟨hx, hb, hml, hr, hown, hts, hK, hA, hlk⟩ := id CX
  have hl : lv_has ls 3 [(0, .ref (a o)), (1, .int (nI t)), (2, .int (nI what))] := hl
  rcases (by omega : what = 0 ∨ what = 1 ∨ what = 2) with rfl | rfl | rfl
  · have hl : lv_has ls 3 [(0, .ref (a o)), (1, .int (nI t)), (2, .int (0 : Int32))] := hl
    refine lv_iload_n hx hb dX5_towTold_0 rfl (lv_at hl 2 rfl) ?_
    refine lv_if_ne (tgt := 13) hx hb dX5_towTold_1 (by decide) (fun c1 => ?_) (fun c1 => ?_)
    · exact absurd c1 (by decide)
    · refine lv_aload_n hx hb dX5_towTold_4 rfl (lv_at hl 0 rfl) ?_
      refine g_get CX HW in_X5_towTold_5 0 2 rfl rfl (Nat.le_of_ble_eq_true rfl) fl_X5_towTold_13 rfl dX5_towTold_5 ?_
      refine lv_iload_n hx hb dX5_towTold_8 rfl (lv_at hl 1 rfl) ?_
      refine g_ald CX HW 2 (k := t) rfl rfl rfl (by omega) (Nat.le_of_ble_eq_true rfl) dX5_towTold_9 ?_
      refine lv_goto (tgt := 39) hx hb dX5_towTold_10 (by decide) ?_
      exact g_iret CX HW rfl ⟨rfl, rfl⟩ dX5_towTold_39
  · have hl : lv_has ls 3 [(0, .ref (a o)), (1, .int (nI t)), (2, .int (1 : Int32))] := hl
    refine lv_iload_n hx hb dX5_towTold_0 rfl (lv_at hl 2 rfl) ?_
    refine lv_if_ne (tgt := 13) hx hb dX5_towTold_1 (by decide) (fun c1 => ?_) (fun c1 => ?_)
    · refine lv_iload_n hx hb dX5_towTold_13 rfl (lv_at hl 2 rfl) ?_
      refine lv_iconst (v := 1) hx hb dX5_towTold_14 (by decide) ?_
      refine lv_icmp_ne (tgt := 30) hx hb dX5_towTold_15 (by decide) (fun c15 => ?_) (fun c15 => ?_)
      · exact absurd c15 (by decide)
      · refine lv_aload_n hx hb dX5_towTold_18 rfl (lv_at hl 0 rfl) ?_
        refine g_get CX HW in_X5_towTold_5 0 8 rfl rfl (Nat.le_of_ble_eq_true rfl) fl_X5_towTold_30 rfl dX5_towTold_19 ?_
        refine g_getN (host := "PommelTowsModel") CX HW in_X5_towTold_4 6 11 rfl rfl (Nat.le_of_ble_eq_true rfl) (by decide +kernel) rfl dX5_towTold_22 ?_
        refine lv_iload_n hx hb dX5_towTold_25 rfl (lv_at hl 1 rfl) ?_
        refine g_ald CX HW 15 (k := t) rfl rfl rfl (by omega) (Nat.le_of_ble_eq_true rfl) dX5_towTold_26 ?_
        refine g_top (y := (nI (vq S t).length)) (hM t ht).1.1 ?_
        refine lv_goto (tgt := 39) hx hb dX5_towTold_27 (by decide) ?_
        exact g_iret CX HW rfl ⟨rfl, rfl⟩ dX5_towTold_39
    · exact absurd c1 (by decide)
  · have hl : lv_has ls 3 [(0, .ref (a o)), (1, .int (nI t)), (2, .int (2 : Int32))] := hl
    refine lv_iload_n hx hb dX5_towTold_0 rfl (lv_at hl 2 rfl) ?_
    refine lv_if_ne (tgt := 13) hx hb dX5_towTold_1 (by decide) (fun c1 => ?_) (fun c1 => ?_)
    · refine lv_iload_n hx hb dX5_towTold_13 rfl (lv_at hl 2 rfl) ?_
      refine lv_iconst (v := 1) hx hb dX5_towTold_14 (by decide) ?_
      refine lv_icmp_ne (tgt := 30) hx hb dX5_towTold_15 (by decide) (fun c15 => ?_) (fun c15 => ?_)
      · refine lv_aload_n hx hb dX5_towTold_30 rfl (lv_at hl 0 rfl) ?_
        refine g_get CX HW in_X5_towTold_5 0 8 rfl rfl (Nat.le_of_ble_eq_true rfl) fl_X5_towTold_30 rfl dX5_towTold_31 ?_
        refine g_getN (host := "PommelTowsModel") CX HW in_X5_towTold_4 6 10 rfl rfl (Nat.le_of_ble_eq_true rfl) (by decide +kernel) rfl dX5_towTold_34 ?_
        refine lv_iload_n hx hb dX5_towTold_37 rfl (lv_at hl 1 rfl) ?_
        refine g_ald CX HW 14 (k := t) rfl rfl rfl (by omega) (Nat.le_of_ble_eq_true rfl) dX5_towTold_38 ?_
        exact g_iret CX HW rfl ⟨rfl, rfl⟩ dX5_towTold_39
      · exact absurd c15 (by decide)
    · exact absurd c1 (by decide)

theorem hd_X5_run : yX5_run.cls ≠ "java/lang/invoke/MethodHandle" ∧ yX5_run.cls ≠ "java/lang/invoke/VarHandle" ∧ (parseMethodDescriptor yX5_run.desc).map (fun d => d.parameters.length) = some 2 := by decide +kernel
theorem fl_X5_run_37 : Cond.fieldLink RX5 37 (TX5 0).1 (TX5 0).2.1 (TX5 0).2.2.1 ∈ wsX5_run := by decide +kernel
theorem in_X5_run_5 : ∀ x ∈ u_ws RX5 TX5 10, x ∈ wsX5_run := by decide +kernel
theorem fl_X5_run_45 : Cond.fieldLink RX5 45 (TX5 3).1 (TX5 3).2.1 (TX5 3).2.2.1 ∈ wsX5_run := by decide +kernel
theorem fl_X5_run_16 : Cond.fieldLink RX5 16 (TX5 4).1 (TX5 4).2.1 (TX5 4).2.2.1 ∈ wsX5_run := by decide +kernel
theorem fl_X5_run_19 : Cond.fieldLink RX5 19 (TX5 5).1 (TX5 5).2.1 (TX5 5).2.2.1 ∈ wsX5_run := by decide +kernel
theorem fl_X5_run_30 : Cond.fieldLink RX5 30 (TX5 8).1 (TX5 8).2.1 (TX5 8).2.2.1 ∈ wsX5_run := by decide +kernel
theorem in_X5_run_4 : ∀ x ∈ u_ws RX4 TX4 14, x ∈ wsX5_run := by decide +kernel
set_option maxRecDepth 100000 in
set_option maxHeartbeats 4000000 in
theorem c_X5_run {l : Launch} {D : va_G} {cI cL : ClassId} {a : Nat → Nat} (o : Nat) (S : VS) (th : Int32) (my : Nat → Int32) (qu : Nat → Int32) (T : VS) (ri2 : Int32) (my2 : Nat → Int32) (qu2 : Nat → Int32) (t : Int32) (z : Int32) (hI : Inv S) (hM : RepM (vq S) my qu) (hQ : Qk (vs S) (vq S)) (hU : QU (vq S)) (hh : vh S + 100 < 2 ^ 31) : Ct l yX5_run wsX5_run { frames := 2, cells := 0, slots := 0, locals := 43 } D (ty2 cI cL) [.ref (a o), .int t, .int z] (wMo cI a o th (vA S 0) (vA S 1) (vr S) (vA S 3) (vA S 4) (vs S) (vA S 7) ++ (wMS cI a (o + 6) (a o) (vh S) (vc S) (sumP S) (vA S 5) (vA S 6) (vA S 8) (vA S 9) (vA S 10) (vA S 11) (vA S 12) (vA S 2) my qu ++ (wMS cI a (o + 17) (a o) (vh T) (vc T) ri2 (vA T 5) (vA T 6) (vA T 8) (vA T 9) (vA T 10) (vA T 11) (vA T 12) (vA T 2) my2 qu2))) (fun v w' => ∃ (Z : VS) (r : Int32) (my' qu' : Nat → Int32) (T' : VS) (ri2' : Int32) (my2' qu2' : Nat → Int32), MOK (kRun S t z) (nI (vr S)) S (sRun S t z) Z r ∧ RepM (vq Z) my' qu' ∧ v = some (.int r) ∧ w' = wMo cI a o (kRun S t z) (vA Z 0) (vA Z 1) (vr Z) (vA Z 3) (vA Z 4) (vs Z) (vA Z 7) ++ (wMS cI a (o + 6) (a o) (vh Z) (vc Z) (sumP Z) (vA Z 5) (vA Z 6) (vA Z 8) (vA Z 9) (vA Z 10) (vA Z 11) (vA Z 12) (vA Z 2) my' qu' ++ (wMS cI a (o + 17) (a o) (vh T') (vc T') ri2' (vA T' 5) (vA T' 6) (vA T' 8) (vA T' 9) (vA T' 10) (vA T' 11) (vA T' 12) (vA T' 2) my2' qu2'))) 0 0 := by
  refine Ct.of (cc := cX5_run) (maxL := 3) (ret := (some .int)) (by decide) rfl (Nat.le_of_ble_eq_true rfl) ?_
  intro p e s m below meth c A ls CX hin HW hl
  obtain ⟨hx, hb, hml, hr, hown, hts, hK, hA, hlk⟩ := id CX
  have hl : lv_has ls 3 [(0, .ref (a o)), (1, .int t), (2, .int z)] := hl
  have hn6 := hI.1
  have hn8 := hI.2.1
  refine lv_aload_n hx hb dX5_run_0 rfl (lv_at hl 0 rfl) ?_
  refine lv_iconst (v := 0) hx hb dX5_run_1 (by decide) ?_
  refine g_put CX HW in_X5_run_5 tyX5 tyX5_ok nmX5 0 0 rfl rfl (Nat.le_of_ble_eq_true rfl) fl_X5_run_37 rfl rfl rfl (Nat.le_of_ble_eq_true rfl) dX5_run_2 (fun H locs HW => ?_)
  have HW : Hw D A s (wMo cI a o (0 : Int32) (vA S 0) (vA S 1) (vr S) (vA S 3) (vA S 4) (vs S) (vA S 7) ++ (wMS cI a (o + 6) (a o) (vh S) (vc S) (sumP S) (vA S 5) (vA S 6) (vA S 8) (vA S 9) (vA S 10) (vA S 11) (vA S 12) (vA S 2) my qu ++ (wMS cI a (o + 17) (a o) (vh T) (vc T) ri2 (vA T 5) (vA T 6) (vA T 8) (vA T 9) (vA T 10) (vA T 11) (vA T 12) (vA T 2) my2 qu2))) H locs := HW
  refine lv_aload_n hx hb dX5_run_5 rfl (lv_at hl 0 rfl) ?_
  refine lv_iload_n hx hb dX5_run_6 rfl (lv_at hl 1 rfl) ?_
  refine g_callV CX HW hl.1 ([]) (wMS cI a (o + 6) (a o) (vh S) (vc S) (sumP S) (vA S 5) (vA S 6) (vA S 8) (vA S 9) (vA S 10) (vA S 11) (vA S 12) (vA S 2) my qu ++ (wMS cI a (o + 17) (a o) (vh T) (vc T) ri2 (vA T 5) (vA T 6) (vA T 8) (vA T 9) (vA T 10) (vA T 11) (vA T 12) (vA T 2) my2 qu2)) (c_X5_isTow o S (0 : Int32) t) rfl 0 rfl rfl gX5_run_X5_isTow rfl ⟨rfl, hd_X5_isTow⟩ ⟨rfl, rfl, (Nat.le_of_ble_eq_true rfl), (Nat.le_of_ble_eq_true rfl)⟩ ⟨(Nat.zero_le _), (Nat.zero_le _)⟩ rfl rfl (Nat.le_of_ble_eq_true rfl) dX5_run_7 (fun v w1 H locs hp HW => ?_)
  obtain ⟨rfl, rfl⟩ := hp
  have HW : Hw D A s (wMo cI a o (0 : Int32) (vA S 0) (vA S 1) (vr S) (vA S 3) (vA S 4) (vs S) (vA S 7) ++ (wMS cI a (o + 6) (a o) (vh S) (vc S) (sumP S) (vA S 5) (vA S 6) (vA S 8) (vA S 9) (vA S 10) (vA S 11) (vA S 12) (vA S 2) my qu ++ (wMS cI a (o + 17) (a o) (vh T) (vc T) ri2 (vA T 5) (vA T 6) (vA T 8) (vA T 9) (vA T 10) (vA T 11) (vA T 12) (vA T 2) my2 qu2))) H locs := HW
  refine W.eq (g2 := F0 m 10 ls [.int (bI ((0 : Int32) ≤ t ∧ t ≤ (2 : Int32)))]) rfl ?_
  refine g_ifne_b (tgt := 19) hx hb dX5_run_10 (by decide) (fun c10 => ?_) (fun c10 => ?_)
  · refine lv_iload_n hx hb dX5_run_19 rfl (lv_at hl 2 rfl) ?_
    refine lv_iconst (v := 1) hx hb dX5_run_20 (by decide) ?_
    refine lv_bipush (v := 9) hx hb dX5_run_21 (by decide) ?_
    refine g_callS CX HW hl.1 ([]) (wMo cI a o (0 : Int32) (vA S 0) (vA S 1) (vr S) (vA S 3) (vA S 4) (vs S) (vA S 7) ++ (wMS cI a (o + 6) (a o) (vh S) (vc S) (sumP S) (vA S 5) (vA S 6) (vA S 8) (vA S 9) (vA S 10) (vA S 11) (vA S 12) (vA S 2) my qu ++ (wMS cI a (o + 17) (a o) (vh T) (vc T) ri2 (vA T 5) (vA T 6) (vA T 8) (vA T 9) (vA T 10) (vA T 11) (vA T 12) (vA T 2) my2 qu2))) (c_X5_isIn z (1 : Int32) (9 : Int32)) rfl gX5_run_X5_isIn rfl hd_X5_isIn ⟨rfl, rfl, (Nat.le_of_ble_eq_true rfl), (Nat.le_of_ble_eq_true rfl)⟩ ⟨(Nat.zero_le _), (Nat.zero_le _)⟩ rfl rfl (Nat.le_of_ble_eq_true rfl) dX5_run_23 (fun v w1 H locs hp HW => ?_)
    obtain ⟨rfl, rfl⟩ := hp
    have HW : Hw D A s (wMo cI a o (0 : Int32) (vA S 0) (vA S 1) (vr S) (vA S 3) (vA S 4) (vs S) (vA S 7) ++ (wMS cI a (o + 6) (a o) (vh S) (vc S) (sumP S) (vA S 5) (vA S 6) (vA S 8) (vA S 9) (vA S 10) (vA S 11) (vA S 12) (vA S 2) my qu ++ (wMS cI a (o + 17) (a o) (vh T) (vc T) ri2 (vA T 5) (vA T 6) (vA T 8) (vA T 9) (vA T 10) (vA T 11) (vA T 12) (vA T 2) my2 qu2))) H locs := HW
    refine W.eq (g2 := F0 m 26 ls [.int (bI ((1 : Int32) ≤ z ∧ z ≤ (9 : Int32)))]) rfl ?_
    refine g_ifne_b (tgt := 35) hx hb dX5_run_26 (by decide) (fun c26 => ?_) (fun c26 => ?_)
    · refine lv_aload_n hx hb dX5_run_35 rfl (lv_at hl 0 rfl) ?_
      refine g_get CX HW in_X5_run_5 0 3 rfl rfl (Nat.le_of_ble_eq_true rfl) fl_X5_run_45 rfl dX5_run_36 ?_
      refine lv_bipush (v := 6) hx hb dX5_run_39 (by decide) ?_
      refine lv_icmp_ne (tgt := 50) hx hb dX5_run_41 (by decide) (fun c41 => ?_) (fun c41 => ?_)
      · have hr6 : vr S < 6 := by
          rcases Nat.lt_or_ge (vr S) 6 with h9 | h9
          · exact h9
          · exact absurd (by rw [show vr S = 6 by omega]; rfl) c41
        have c41 : ¬ 6 ≤ nI (vr S) := fun h9 => absurd ((nI_leI (a := 6) (b := vr S) (by decide) (by omega)).mp h9) (by omega)
        refine lv_aload_n hx hb dX5_run_50 rfl (lv_at hl 0 rfl) ?_
        refine g_get CX HW in_X5_run_5 0 4 rfl rfl (Nat.le_of_ble_eq_true rfl) fl_X5_run_16 rfl dX5_run_51 ?_
        refine lv_aload_n hx hb dX5_run_54 rfl (lv_at hl 0 rfl) ?_
        refine g_get CX HW in_X5_run_5 0 3 rfl rfl (Nat.le_of_ble_eq_true rfl) fl_X5_run_45 rfl dX5_run_55 ?_
        refine lv_iload_n hx hb dX5_run_58 rfl (lv_at hl 1 rfl) ?_
        refine g_ast CX HW 3 (k := (vr S)) rfl rfl rfl (by omega) (Nat.le_of_ble_eq_true rfl) dX5_run_59 (fun H locs HW => ?_)
        have HW : Hw D A s (wMo cI a o (0 : Int32) (vA S 0) (vA S 1) (vr S) (upd (vA S 3) (vr S) t) (vA S 4) (vs S) (vA S 7) ++ (wMS cI a (o + 6) (a o) (vh S) (vc S) (sumP S) (vA S 5) (vA S 6) (vA S 8) (vA S 9) (vA S 10) (vA S 11) (vA S 12) (vA S 2) my qu ++ (wMS cI a (o + 17) (a o) (vh T) (vc T) ri2 (vA T 5) (vA T 6) (vA T 8) (vA T 9) (vA T 10) (vA T 11) (vA T 12) (vA T 2) my2 qu2))) H locs := HW
        refine lv_aload_n hx hb dX5_run_60 rfl (lv_at hl 0 rfl) ?_
        refine g_get CX HW in_X5_run_5 0 5 rfl rfl (Nat.le_of_ble_eq_true rfl) fl_X5_run_19 rfl dX5_run_61 ?_
        refine lv_aload_n hx hb dX5_run_64 rfl (lv_at hl 0 rfl) ?_
        refine g_get CX HW in_X5_run_5 0 3 rfl rfl (Nat.le_of_ble_eq_true rfl) fl_X5_run_45 rfl dX5_run_65 ?_
        refine lv_iload_n hx hb dX5_run_68 rfl (lv_at hl 2 rfl) ?_
        refine g_ast CX HW 4 (k := (vr S)) rfl rfl rfl (by omega) (Nat.le_of_ble_eq_true rfl) dX5_run_69 (fun H locs HW => ?_)
        have HW : Hw D A s (wMo cI a o (0 : Int32) (vA S 0) (vA S 1) (vr S) (upd (vA S 3) (vr S) t) (upd (vA S 4) (vr S) z) (vs S) (vA S 7) ++ (wMS cI a (o + 6) (a o) (vh S) (vc S) (sumP S) (vA S 5) (vA S 6) (vA S 8) (vA S 9) (vA S 10) (vA S 11) (vA S 12) (vA S 2) my qu ++ (wMS cI a (o + 17) (a o) (vh T) (vc T) ri2 (vA T 5) (vA T 6) (vA T 8) (vA T 9) (vA T 10) (vA T 11) (vA T 12) (vA T 2) my2 qu2))) H locs := HW
        refine lv_aload_n hx hb dX5_run_70 rfl (lv_at hl 0 rfl) ?_
        refine g_get CX HW in_X5_run_5 0 8 rfl rfl (Nat.le_of_ble_eq_true rfl) fl_X5_run_30 rfl dX5_run_71 ?_
        refine g_getN (host := "PommelTowsModel") CX HW in_X5_run_4 6 3 rfl rfl (Nat.le_of_ble_eq_true rfl) (by decide +kernel) rfl dX5_run_74 ?_
        refine lv_aload_n hx hb dX5_run_77 rfl (lv_at hl 0 rfl) ?_
        refine g_get CX HW in_X5_run_5 0 3 rfl rfl (Nat.le_of_ble_eq_true rfl) fl_X5_run_45 rfl dX5_run_78 ?_
        refine lv_bipush (v := 30) hx hb dX5_run_81 (by decide) ?_
        refine g_ast CX HW 7 (k := (vr S)) rfl rfl rfl (by omega) (Nat.le_of_ble_eq_true rfl) dX5_run_83 (fun H locs HW => ?_)
        have HW : Hw D A s (wMo cI a o (0 : Int32) (vA S 0) (vA S 1) (vr S) (upd (vA S 3) (vr S) t) (upd (vA S 4) (vr S) z) (vs S) (vA S 7) ++ (wMS cI a (o + 6) (a o) (vh S) (vc S) (sumP S) (upd (vA S 5) (vr S) (30 : Int32)) (vA S 6) (vA S 8) (vA S 9) (vA S 10) (vA S 11) (vA S 12) (vA S 2) my qu ++ (wMS cI a (o + 17) (a o) (vh T) (vc T) ri2 (vA T 5) (vA T 6) (vA T 8) (vA T 9) (vA T 10) (vA T 11) (vA T 12) (vA T 2) my2 qu2))) H locs := HW
        refine lv_aload_n hx hb dX5_run_84 rfl (lv_at hl 0 rfl) ?_
        refine lv_dup hx hb dX5_run_85 rfl ?_
        refine g_get CX HW in_X5_run_5 0 3 rfl rfl (Nat.le_of_ble_eq_true rfl) fl_X5_run_45 rfl dX5_run_86 ?_
        refine lv_iconst (v := 1) hx hb dX5_run_89 (by decide) ?_
        refine lv_iadd hx hb dX5_run_90 ?_
        refine g_top (y := (nI (vr S + 1))) (nI_1 _) ?_
        refine g_put CX HW in_X5_run_5 tyX5 tyX5_ok nmX5 0 3 rfl rfl (Nat.le_of_ble_eq_true rfl) fl_X5_run_45 rfl rfl rfl (Nat.le_of_ble_eq_true rfl) dX5_run_91 (fun H locs HW => ?_)
        have HW : Hw D A s (wMo cI a o (0 : Int32) (vA S 0) (vA S 1) (vr S + 1) (upd (vA S 3) (vr S) t) (upd (vA S 4) (vr S) z) (vs S) (vA S 7) ++ (wMS cI a (o + 6) (a o) (vh S) (vc S) (sumP S) (upd (vA S 5) (vr S) (30 : Int32)) (vA S 6) (vA S 8) (vA S 9) (vA S 10) (vA S 11) (vA S 12) (vA S 2) my qu ++ (wMS cI a (o + 17) (a o) (vh T) (vc T) ri2 (vA T 5) (vA T 6) (vA T 8) (vA T 9) (vA T 10) (vA T 11) (vA T 12) (vA T 2) my2 qu2))) H locs := HW
        refine lv_aload_n hx hb dX5_run_94 rfl (lv_at hl 0 rfl) ?_
        refine g_get CX HW in_X5_run_5 0 3 rfl rfl (Nat.le_of_ble_eq_true rfl) fl_X5_run_45 rfl dX5_run_95 ?_
        refine lv_iconst (v := 1) hx hb dX5_run_98 (by decide) ?_
        refine lv_isub hx hb dX5_run_99 ?_
        refine g_top (y := (nI (vr S))) (pk_sub (a := vr S + 1) (b := 1) (by omega)) ?_
        have hk : kRun S t z = 0 := by rw [kRun]; rw [if_neg (fun h9 => h9 c10), if_neg (fun h9 => h9 c26), if_neg c41]
        exact g_iret CX HW rfl ⟨sRun S t z, _, my, qu, T, ri2, my2, qu2, ⟨fun h9 => absurd hk h9, fun _ => ⟨rfl, rfl⟩⟩, hM, rfl, by rw [hk] <;> rfl⟩ dX5_run_100
      · have c41 : 6 ≤ nI (vr S) := by rw [c41]; decide
        refine lv_aload_n hx hb dX5_run_44 rfl (lv_at hl 0 rfl) ?_
        refine lv_iconst (v := 3) hx hb dX5_run_45 (by decide) ?_
        refine g_callV CX HW hl.1 ([]) (wMS cI a (o + 6) (a o) (vh S) (vc S) (sumP S) (vA S 5) (vA S 6) (vA S 8) (vA S 9) (vA S 10) (vA S 11) (vA S 12) (vA S 2) my qu ++ (wMS cI a (o + 17) (a o) (vh T) (vc T) ri2 (vA T 5) (vA T 6) (vA T 8) (vA T 9) (vA T 10) (vA T 11) (vA T 12) (vA T 2) my2 qu2)) (c_X5_no o S (0 : Int32) (3 : Int32)) rfl 0 rfl rfl gX5_run_X5_no rfl ⟨rfl, hd_X5_no⟩ ⟨rfl, rfl, (Nat.le_of_ble_eq_true rfl), (Nat.le_of_ble_eq_true rfl)⟩ ⟨(Nat.zero_le _), (Nat.zero_le _)⟩ rfl rfl (Nat.le_of_ble_eq_true rfl) dX5_run_46 (fun v w1 H locs hp HW => ?_)
        obtain ⟨rfl, rfl⟩ := hp
        have HW : Hw D A s (wMo cI a o (3 : Int32) (vA S 0) (vA S 1) (vr S) (vA S 3) (vA S 4) (vs S) (vA S 7) ++ (wMS cI a (o + 6) (a o) (vh S) (vc S) (sumP S) (vA S 5) (vA S 6) (vA S 8) (vA S 9) (vA S 10) (vA S 11) (vA S 12) (vA S 2) my qu ++ (wMS cI a (o + 17) (a o) (vh T) (vc T) ri2 (vA T 5) (vA T 6) (vA T 8) (vA T 9) (vA T 10) (vA T 11) (vA T 12) (vA T 2) my2 qu2))) H locs := HW
        refine W.eq (g2 := F0 m 49 ls [.int (0 : Int32)]) rfl ?_
        have hk : kRun S t z = 3 := by first | (rw [kRun]; rw [if_pos c10]) | (rw [kRun]; rw [if_neg (fun h9 => h9 c10), if_pos c26]) | (rw [kRun]; rw [if_neg (fun h9 => h9 c10), if_neg (fun h9 => h9 c26), if_pos c41])
        exact g_iret CX HW rfl ⟨S, 0, my, qu, T, ri2, my2, qu2, ⟨fun _ => rfl, fun h9 => absurd (hk.symm.trans h9) (by decide)⟩, hM, rfl, by rw [hk]⟩ dX5_run_49
    · refine lv_aload_n hx hb dX5_run_29 rfl (lv_at hl 0 rfl) ?_
      refine lv_iconst (v := 2) hx hb dX5_run_30 (by decide) ?_
      refine g_callV CX HW hl.1 ([]) (wMS cI a (o + 6) (a o) (vh S) (vc S) (sumP S) (vA S 5) (vA S 6) (vA S 8) (vA S 9) (vA S 10) (vA S 11) (vA S 12) (vA S 2) my qu ++ (wMS cI a (o + 17) (a o) (vh T) (vc T) ri2 (vA T 5) (vA T 6) (vA T 8) (vA T 9) (vA T 10) (vA T 11) (vA T 12) (vA T 2) my2 qu2)) (c_X5_no o S (0 : Int32) (2 : Int32)) rfl 0 rfl rfl gX5_run_X5_no rfl ⟨rfl, hd_X5_no⟩ ⟨rfl, rfl, (Nat.le_of_ble_eq_true rfl), (Nat.le_of_ble_eq_true rfl)⟩ ⟨(Nat.zero_le _), (Nat.zero_le _)⟩ rfl rfl (Nat.le_of_ble_eq_true rfl) dX5_run_31 (fun v w1 H locs hp HW => ?_)
      obtain ⟨rfl, rfl⟩ := hp
      have HW : Hw D A s (wMo cI a o (2 : Int32) (vA S 0) (vA S 1) (vr S) (vA S 3) (vA S 4) (vs S) (vA S 7) ++ (wMS cI a (o + 6) (a o) (vh S) (vc S) (sumP S) (vA S 5) (vA S 6) (vA S 8) (vA S 9) (vA S 10) (vA S 11) (vA S 12) (vA S 2) my qu ++ (wMS cI a (o + 17) (a o) (vh T) (vc T) ri2 (vA T 5) (vA T 6) (vA T 8) (vA T 9) (vA T 10) (vA T 11) (vA T 12) (vA T 2) my2 qu2))) H locs := HW
      refine W.eq (g2 := F0 m 34 ls [.int (0 : Int32)]) rfl ?_
      have hk : kRun S t z = 2 := by first | (rw [kRun]; rw [if_pos c10]) | (rw [kRun]; rw [if_neg (fun h9 => h9 c10), if_pos c26]) | (rw [kRun]; rw [if_neg (fun h9 => h9 c10), if_neg (fun h9 => h9 c26), if_pos c41])
      exact g_iret CX HW rfl ⟨S, 0, my, qu, T, ri2, my2, qu2, ⟨fun _ => rfl, fun h9 => absurd (hk.symm.trans h9) (by decide)⟩, hM, rfl, by rw [hk]⟩ dX5_run_34
  · refine lv_aload_n hx hb dX5_run_13 rfl (lv_at hl 0 rfl) ?_
    refine lv_iconst (v := 1) hx hb dX5_run_14 (by decide) ?_
    refine g_callV CX HW hl.1 ([]) (wMS cI a (o + 6) (a o) (vh S) (vc S) (sumP S) (vA S 5) (vA S 6) (vA S 8) (vA S 9) (vA S 10) (vA S 11) (vA S 12) (vA S 2) my qu ++ (wMS cI a (o + 17) (a o) (vh T) (vc T) ri2 (vA T 5) (vA T 6) (vA T 8) (vA T 9) (vA T 10) (vA T 11) (vA T 12) (vA T 2) my2 qu2)) (c_X5_no o S (0 : Int32) (1 : Int32)) rfl 0 rfl rfl gX5_run_X5_no rfl ⟨rfl, hd_X5_no⟩ ⟨rfl, rfl, (Nat.le_of_ble_eq_true rfl), (Nat.le_of_ble_eq_true rfl)⟩ ⟨(Nat.zero_le _), (Nat.zero_le _)⟩ rfl rfl (Nat.le_of_ble_eq_true rfl) dX5_run_15 (fun v w1 H locs hp HW => ?_)
    obtain ⟨rfl, rfl⟩ := hp
    have HW : Hw D A s (wMo cI a o (1 : Int32) (vA S 0) (vA S 1) (vr S) (vA S 3) (vA S 4) (vs S) (vA S 7) ++ (wMS cI a (o + 6) (a o) (vh S) (vc S) (sumP S) (vA S 5) (vA S 6) (vA S 8) (vA S 9) (vA S 10) (vA S 11) (vA S 12) (vA S 2) my qu ++ (wMS cI a (o + 17) (a o) (vh T) (vc T) ri2 (vA T 5) (vA T 6) (vA T 8) (vA T 9) (vA T 10) (vA T 11) (vA T 12) (vA T 2) my2 qu2))) H locs := HW
    refine W.eq (g2 := F0 m 18 ls [.int (0 : Int32)]) rfl ?_
    have hk : kRun S t z = 1 := by first | (rw [kRun]; rw [if_pos c10]) | (rw [kRun]; rw [if_neg (fun h9 => h9 c10), if_pos c26]) | (rw [kRun]; rw [if_neg (fun h9 => h9 c10), if_neg (fun h9 => h9 c26), if_pos c41])
    exact g_iret CX HW rfl ⟨S, 0, my, qu, T, ri2, my2, qu2, ⟨fun _ => rfl, fun h9 => absurd (hk.symm.trans h9) (by decide)⟩, hM, rfl, by rw [hk]⟩ dX5_run_18

theorem hd_X5_setPommels : yX5_setPommels.cls ≠ "java/lang/invoke/MethodHandle" ∧ yX5_setPommels.cls ≠ "java/lang/invoke/VarHandle" ∧ (parseMethodDescriptor yX5_setPommels.desc).map (fun d => d.parameters.length) = some 2 := by decide +kernel
theorem fl_X5_setPommels_37 : Cond.fieldLink RX5 37 (TX5 0).1 (TX5 0).2.1 (TX5 0).2.2.1 ∈ wsX5_setPommels := by decide +kernel
theorem in_X5_setPommels_5 : ∀ x ∈ u_ws RX5 TX5 10, x ∈ wsX5_setPommels := by decide +kernel
theorem fl_X5_setPommels_13 : Cond.fieldLink RX5 13 (TX5 2).1 (TX5 2).2.1 (TX5 2).2.2.1 ∈ wsX5_setPommels := by decide +kernel
set_option maxRecDepth 100000 in
set_option maxHeartbeats 4000000 in
theorem c_X5_setPommels {l : Launch} {D : va_G} {cI cL : ClassId} {a : Nat → Nat} (o : Nat) (S : VS) (th : Int32) (my : Nat → Int32) (qu : Nat → Int32) (T : VS) (ri2 : Int32) (my2 : Nat → Int32) (qu2 : Nat → Int32) (t : Int32) (z : Int32) (hI : Inv S) (hM : RepM (vq S) my qu) (hQ : Qk (vs S) (vq S)) (hU : QU (vq S)) (hh : vh S + 100 < 2 ^ 31) : Ct l yX5_setPommels wsX5_setPommels { frames := 2, cells := 0, slots := 0, locals := 43 } D (ty2 cI cL) [.ref (a o), .int t, .int z] (wMo cI a o th (vA S 0) (vA S 1) (vr S) (vA S 3) (vA S 4) (vs S) (vA S 7) ++ (wMS cI a (o + 6) (a o) (vh S) (vc S) (sumP S) (vA S 5) (vA S 6) (vA S 8) (vA S 9) (vA S 10) (vA S 11) (vA S 12) (vA S 2) my qu ++ (wMS cI a (o + 17) (a o) (vh T) (vc T) ri2 (vA T 5) (vA T 6) (vA T 8) (vA T 9) (vA T 10) (vA T 11) (vA T 12) (vA T 2) my2 qu2))) (fun v w' => ∃ (Z : VS) (r : Int32) (my' qu' : Nat → Int32) (T' : VS) (ri2' : Int32) (my2' qu2' : Nat → Int32), MOK (kSetP t z) (vA S 1 (natI t)) S (sSetP S t z) Z r ∧ RepM (vq Z) my' qu' ∧ v = some (.int r) ∧ w' = wMo cI a o (kSetP t z) (vA Z 0) (vA Z 1) (vr Z) (vA Z 3) (vA Z 4) (vs Z) (vA Z 7) ++ (wMS cI a (o + 6) (a o) (vh Z) (vc Z) (sumP Z) (vA Z 5) (vA Z 6) (vA Z 8) (vA Z 9) (vA Z 10) (vA Z 11) (vA Z 12) (vA Z 2) my' qu' ++ (wMS cI a (o + 17) (a o) (vh T') (vc T') ri2' (vA T' 5) (vA T' 6) (vA T' 8) (vA T' 9) (vA T' 10) (vA T' 11) (vA T' 12) (vA T' 2) my2' qu2'))) 0 0 := by
  refine Ct.of (cc := cX5_setPommels) (maxL := 4) (ret := (some .int)) (by decide) rfl (Nat.le_of_ble_eq_true rfl) ?_
  intro p e s m below meth c A ls CX hin HW hl
  obtain ⟨hx, hb, hml, hr, hown, hts, hK, hA, hlk⟩ := id CX
  have hl : lv_has ls 4 [(0, .ref (a o)), (1, .int t), (2, .int z)] := hl
  have hn6 := hI.1
  have hn8 := hI.2.1
  refine lv_aload_n hx hb dX5_setPommels_0 rfl (lv_at hl 0 rfl) ?_
  refine lv_iconst (v := 0) hx hb dX5_setPommels_1 (by decide) ?_
  refine g_put CX HW in_X5_setPommels_5 tyX5 tyX5_ok nmX5 0 0 rfl rfl (Nat.le_of_ble_eq_true rfl) fl_X5_setPommels_37 rfl rfl rfl (Nat.le_of_ble_eq_true rfl) dX5_setPommels_2 (fun H locs HW => ?_)
  have HW : Hw D A s (wMo cI a o (0 : Int32) (vA S 0) (vA S 1) (vr S) (vA S 3) (vA S 4) (vs S) (vA S 7) ++ (wMS cI a (o + 6) (a o) (vh S) (vc S) (sumP S) (vA S 5) (vA S 6) (vA S 8) (vA S 9) (vA S 10) (vA S 11) (vA S 12) (vA S 2) my qu ++ (wMS cI a (o + 17) (a o) (vh T) (vc T) ri2 (vA T 5) (vA T 6) (vA T 8) (vA T 9) (vA T 10) (vA T 11) (vA T 12) (vA T 2) my2 qu2))) H locs := HW
  refine lv_aload_n hx hb dX5_setPommels_5 rfl (lv_at hl 0 rfl) ?_
  refine lv_iload_n hx hb dX5_setPommels_6 rfl (lv_at hl 1 rfl) ?_
  refine g_callV CX HW hl.1 ([]) (wMS cI a (o + 6) (a o) (vh S) (vc S) (sumP S) (vA S 5) (vA S 6) (vA S 8) (vA S 9) (vA S 10) (vA S 11) (vA S 12) (vA S 2) my qu ++ (wMS cI a (o + 17) (a o) (vh T) (vc T) ri2 (vA T 5) (vA T 6) (vA T 8) (vA T 9) (vA T 10) (vA T 11) (vA T 12) (vA T 2) my2 qu2)) (c_X5_isTow o S (0 : Int32) t) rfl 0 rfl rfl gX5_setPommels_X5_isTow rfl ⟨rfl, hd_X5_isTow⟩ ⟨rfl, rfl, (Nat.le_of_ble_eq_true rfl), (Nat.le_of_ble_eq_true rfl)⟩ ⟨(Nat.zero_le _), (Nat.zero_le _)⟩ rfl rfl (Nat.le_of_ble_eq_true rfl) dX5_setPommels_7 (fun v w1 H locs hp HW => ?_)
  obtain ⟨rfl, rfl⟩ := hp
  have HW : Hw D A s (wMo cI a o (0 : Int32) (vA S 0) (vA S 1) (vr S) (vA S 3) (vA S 4) (vs S) (vA S 7) ++ (wMS cI a (o + 6) (a o) (vh S) (vc S) (sumP S) (vA S 5) (vA S 6) (vA S 8) (vA S 9) (vA S 10) (vA S 11) (vA S 12) (vA S 2) my qu ++ (wMS cI a (o + 17) (a o) (vh T) (vc T) ri2 (vA T 5) (vA T 6) (vA T 8) (vA T 9) (vA T 10) (vA T 11) (vA T 12) (vA T 2) my2 qu2))) H locs := HW
  refine W.eq (g2 := F0 m 10 ls [.int (bI ((0 : Int32) ≤ t ∧ t ≤ (2 : Int32)))]) rfl ?_
  refine g_ifne_b (tgt := 19) hx hb dX5_setPommels_10 (by decide) (fun c10 => ?_) (fun c10 => ?_)
  · refine lv_iload_n hx hb dX5_setPommels_19 rfl (lv_at hl 2 rfl) ?_
    refine lv_iconst (v := 1) hx hb dX5_setPommels_20 (by decide) ?_
    refine lv_iconst (v := 4) hx hb dX5_setPommels_21 (by decide) ?_
    refine g_callS CX HW hl.1 ([]) (wMo cI a o (0 : Int32) (vA S 0) (vA S 1) (vr S) (vA S 3) (vA S 4) (vs S) (vA S 7) ++ (wMS cI a (o + 6) (a o) (vh S) (vc S) (sumP S) (vA S 5) (vA S 6) (vA S 8) (vA S 9) (vA S 10) (vA S 11) (vA S 12) (vA S 2) my qu ++ (wMS cI a (o + 17) (a o) (vh T) (vc T) ri2 (vA T 5) (vA T 6) (vA T 8) (vA T 9) (vA T 10) (vA T 11) (vA T 12) (vA T 2) my2 qu2))) (c_X5_isIn z (1 : Int32) (4 : Int32)) rfl gX5_setPommels_X5_isIn rfl hd_X5_isIn ⟨rfl, rfl, (Nat.le_of_ble_eq_true rfl), (Nat.le_of_ble_eq_true rfl)⟩ ⟨(Nat.zero_le _), (Nat.zero_le _)⟩ rfl rfl (Nat.le_of_ble_eq_true rfl) dX5_setPommels_22 (fun v w1 H locs hp HW => ?_)
    obtain ⟨rfl, rfl⟩ := hp
    have HW : Hw D A s (wMo cI a o (0 : Int32) (vA S 0) (vA S 1) (vr S) (vA S 3) (vA S 4) (vs S) (vA S 7) ++ (wMS cI a (o + 6) (a o) (vh S) (vc S) (sumP S) (vA S 5) (vA S 6) (vA S 8) (vA S 9) (vA S 10) (vA S 11) (vA S 12) (vA S 2) my qu ++ (wMS cI a (o + 17) (a o) (vh T) (vc T) ri2 (vA T 5) (vA T 6) (vA T 8) (vA T 9) (vA T 10) (vA T 11) (vA T 12) (vA T 2) my2 qu2))) H locs := HW
    refine W.eq (g2 := F0 m 25 ls [.int (bI ((1 : Int32) ≤ z ∧ z ≤ (4 : Int32)))]) rfl ?_
    refine g_ifne_b (tgt := 34) hx hb dX5_setPommels_25 (by decide) (fun c25 => ?_) (fun c25 => ?_)
    · obtain ⟨j, hj, rfl⟩ := wi_nat 2 (by decide) c10
      have ej : natI (nI j) = j := natI_nI (by omega)
      · refine lv_aload_n hx hb dX5_setPommels_34 rfl (lv_at hl 0 rfl) ?_
        refine g_get CX HW in_X5_setPommels_5 0 2 rfl rfl (Nat.le_of_ble_eq_true rfl) fl_X5_setPommels_13 rfl dX5_setPommels_35 ?_
        refine lv_iload_n hx hb dX5_setPommels_38 rfl (lv_at hl 1 rfl) ?_
        refine g_ald CX HW 2 (k := j) rfl rfl rfl (by omega) (Nat.le_of_ble_eq_true rfl) dX5_setPommels_39 ?_
        refine lv_istore_n (lv' := [(3, .int ((vA S 1) j)), (0, .ref (a o)), (1, .int (nI j)), (2, .int z)]) hx hb dX5_setPommels_40 rfl hl (Nat.le_of_ble_eq_true rfl) rfl (fun ls hl => ?_)
        refine lv_aload_n hx hb dX5_setPommels_41 rfl (lv_at hl 1 rfl) ?_
        refine g_get CX HW in_X5_setPommels_5 0 2 rfl rfl (Nat.le_of_ble_eq_true rfl) fl_X5_setPommels_13 rfl dX5_setPommels_42 ?_
        refine lv_iload_n hx hb dX5_setPommels_45 rfl (lv_at hl 2 rfl) ?_
        refine lv_iload_n hx hb dX5_setPommels_46 rfl (lv_at hl 3 rfl) ?_
        refine g_ast CX HW 2 (k := j) rfl rfl rfl (by omega) (Nat.le_of_ble_eq_true rfl) dX5_setPommels_47 (fun H locs HW => ?_)
        have HW : Hw D A s (wMo cI a o (0 : Int32) (vA S 0) (upd (vA S 1) j z) (vr S) (vA S 3) (vA S 4) (vs S) (vA S 7) ++ (wMS cI a (o + 6) (a o) (vh S) (vc S) (sumP S) (vA S 5) (vA S 6) (vA S 8) (vA S 9) (vA S 10) (vA S 11) (vA S 12) (vA S 2) my qu ++ (wMS cI a (o + 17) (a o) (vh T) (vc T) ri2 (vA T 5) (vA T 6) (vA T 8) (vA T 9) (vA T 10) (vA T 11) (vA T 12) (vA T 2) my2 qu2))) H locs := HW
        refine lv_iload_n hx hb dX5_setPommels_48 rfl (lv_at hl 0 rfl) ?_
        have hk : kSetP (nI j) z = 0 := by rw [kSetP]; rw [if_neg (fun h9 => h9 c10), if_neg (fun h9 => h9 c25)]
        exact g_iret CX HW rfl ⟨sSetP S (nI j) z, _, my, qu, T, ri2, my2, qu2, ⟨fun h9 => absurd hk h9, fun _ => ⟨(by rw [ej]), rfl⟩⟩, hM, rfl, by rw [hk, sSetP, ej] <;> rfl⟩ dX5_setPommels_49
    · refine lv_aload_n hx hb dX5_setPommels_28 rfl (lv_at hl 0 rfl) ?_
      refine lv_iconst (v := 2) hx hb dX5_setPommels_29 (by decide) ?_
      refine g_callV CX HW hl.1 ([]) (wMS cI a (o + 6) (a o) (vh S) (vc S) (sumP S) (vA S 5) (vA S 6) (vA S 8) (vA S 9) (vA S 10) (vA S 11) (vA S 12) (vA S 2) my qu ++ (wMS cI a (o + 17) (a o) (vh T) (vc T) ri2 (vA T 5) (vA T 6) (vA T 8) (vA T 9) (vA T 10) (vA T 11) (vA T 12) (vA T 2) my2 qu2)) (c_X5_no o S (0 : Int32) (2 : Int32)) rfl 0 rfl rfl gX5_setPommels_X5_no rfl ⟨rfl, hd_X5_no⟩ ⟨rfl, rfl, (Nat.le_of_ble_eq_true rfl), (Nat.le_of_ble_eq_true rfl)⟩ ⟨(Nat.zero_le _), (Nat.zero_le _)⟩ rfl rfl (Nat.le_of_ble_eq_true rfl) dX5_setPommels_30 (fun v w1 H locs hp HW => ?_)
      obtain ⟨rfl, rfl⟩ := hp
      have HW : Hw D A s (wMo cI a o (2 : Int32) (vA S 0) (vA S 1) (vr S) (vA S 3) (vA S 4) (vs S) (vA S 7) ++ (wMS cI a (o + 6) (a o) (vh S) (vc S) (sumP S) (vA S 5) (vA S 6) (vA S 8) (vA S 9) (vA S 10) (vA S 11) (vA S 12) (vA S 2) my qu ++ (wMS cI a (o + 17) (a o) (vh T) (vc T) ri2 (vA T 5) (vA T 6) (vA T 8) (vA T 9) (vA T 10) (vA T 11) (vA T 12) (vA T 2) my2 qu2))) H locs := HW
      refine W.eq (g2 := F0 m 33 ls [.int (0 : Int32)]) rfl ?_
      have hk : kSetP t z = 2 := by first | (rw [kSetP]; rw [if_pos c10]) | (rw [kSetP]; rw [if_neg (fun h9 => h9 c10), if_pos c25])
      exact g_iret CX HW rfl ⟨S, 0, my, qu, T, ri2, my2, qu2, ⟨fun _ => rfl, fun h9 => absurd (hk.symm.trans h9) (by decide)⟩, hM, rfl, by rw [hk]⟩ dX5_setPommels_33
  · refine lv_aload_n hx hb dX5_setPommels_13 rfl (lv_at hl 0 rfl) ?_
    refine lv_iconst (v := 1) hx hb dX5_setPommels_14 (by decide) ?_
    refine g_callV CX HW hl.1 ([]) (wMS cI a (o + 6) (a o) (vh S) (vc S) (sumP S) (vA S 5) (vA S 6) (vA S 8) (vA S 9) (vA S 10) (vA S 11) (vA S 12) (vA S 2) my qu ++ (wMS cI a (o + 17) (a o) (vh T) (vc T) ri2 (vA T 5) (vA T 6) (vA T 8) (vA T 9) (vA T 10) (vA T 11) (vA T 12) (vA T 2) my2 qu2)) (c_X5_no o S (0 : Int32) (1 : Int32)) rfl 0 rfl rfl gX5_setPommels_X5_no rfl ⟨rfl, hd_X5_no⟩ ⟨rfl, rfl, (Nat.le_of_ble_eq_true rfl), (Nat.le_of_ble_eq_true rfl)⟩ ⟨(Nat.zero_le _), (Nat.zero_le _)⟩ rfl rfl (Nat.le_of_ble_eq_true rfl) dX5_setPommels_15 (fun v w1 H locs hp HW => ?_)
    obtain ⟨rfl, rfl⟩ := hp
    have HW : Hw D A s (wMo cI a o (1 : Int32) (vA S 0) (vA S 1) (vr S) (vA S 3) (vA S 4) (vs S) (vA S 7) ++ (wMS cI a (o + 6) (a o) (vh S) (vc S) (sumP S) (vA S 5) (vA S 6) (vA S 8) (vA S 9) (vA S 10) (vA S 11) (vA S 12) (vA S 2) my qu ++ (wMS cI a (o + 17) (a o) (vh T) (vc T) ri2 (vA T 5) (vA T 6) (vA T 8) (vA T 9) (vA T 10) (vA T 11) (vA T 12) (vA T 2) my2 qu2))) H locs := HW
    refine W.eq (g2 := F0 m 18 ls [.int (0 : Int32)]) rfl ?_
    have hk : kSetP t z = 1 := by first | (rw [kSetP]; rw [if_pos c10]) | (rw [kSetP]; rw [if_neg (fun h9 => h9 c10), if_pos c25])
    exact g_iret CX HW rfl ⟨S, 0, my, qu, T, ri2, my2, qu2, ⟨fun _ => rfl, fun h9 => absurd (hk.symm.trans h9) (by decide)⟩, hM, rfl, by rw [hk]⟩ dX5_setPommels_18

theorem hd_X5_setFlake : yX5_setFlake.cls ≠ "java/lang/invoke/MethodHandle" ∧ yX5_setFlake.cls ≠ "java/lang/invoke/VarHandle" ∧ (parseMethodDescriptor yX5_setFlake.desc).map (fun d => d.parameters.length) = some 2 := by decide +kernel
theorem fl_X5_setFlake_37 : Cond.fieldLink RX5 37 (TX5 0).1 (TX5 0).2.1 (TX5 0).2.2.1 ∈ wsX5_setFlake := by decide +kernel
theorem in_X5_setFlake_5 : ∀ x ∈ u_ws RX5 TX5 10, x ∈ wsX5_setFlake := by decide +kernel
theorem fl_X5_setFlake_7 : Cond.fieldLink RX5 7 (TX5 1).1 (TX5 1).2.1 (TX5 1).2.2.1 ∈ wsX5_setFlake := by decide +kernel
set_option maxRecDepth 100000 in
set_option maxHeartbeats 4000000 in
theorem c_X5_setFlake {l : Launch} {D : va_G} {cI cL : ClassId} {a : Nat → Nat} (o : Nat) (S : VS) (th : Int32) (my : Nat → Int32) (qu : Nat → Int32) (T : VS) (ri2 : Int32) (my2 : Nat → Int32) (qu2 : Nat → Int32) (t : Int32) (z : Int32) (hI : Inv S) (hM : RepM (vq S) my qu) (hQ : Qk (vs S) (vq S)) (hU : QU (vq S)) (hh : vh S + 100 < 2 ^ 31) : Ct l yX5_setFlake wsX5_setFlake { frames := 1, cells := 0, slots := 0, locals := 22 } D (ty2 cI cL) [.ref (a o), .int t, .int z] (wMo cI a o th (vA S 0) (vA S 1) (vr S) (vA S 3) (vA S 4) (vs S) (vA S 7) ++ (wMS cI a (o + 6) (a o) (vh S) (vc S) (sumP S) (vA S 5) (vA S 6) (vA S 8) (vA S 9) (vA S 10) (vA S 11) (vA S 12) (vA S 2) my qu ++ (wMS cI a (o + 17) (a o) (vh T) (vc T) ri2 (vA T 5) (vA T 6) (vA T 8) (vA T 9) (vA T 10) (vA T 11) (vA T 12) (vA T 2) my2 qu2))) (fun v w' => ∃ (Z : VS) (r : Int32) (my' qu' : Nat → Int32) (T' : VS) (ri2' : Int32) (my2' qu2' : Nat → Int32), MOK (kSetF t z) (vA S 0 (natI t)) S (sSetF S t z) Z r ∧ RepM (vq Z) my' qu' ∧ v = some (.int r) ∧ w' = wMo cI a o (kSetF t z) (vA Z 0) (vA Z 1) (vr Z) (vA Z 3) (vA Z 4) (vs Z) (vA Z 7) ++ (wMS cI a (o + 6) (a o) (vh Z) (vc Z) (sumP Z) (vA Z 5) (vA Z 6) (vA Z 8) (vA Z 9) (vA Z 10) (vA Z 11) (vA Z 12) (vA Z 2) my' qu' ++ (wMS cI a (o + 17) (a o) (vh T') (vc T') ri2' (vA T' 5) (vA T' 6) (vA T' 8) (vA T' 9) (vA T' 10) (vA T' 11) (vA T' 12) (vA T' 2) my2' qu2'))) 0 0 := by
  refine Ct.of (cc := cX5_setFlake) (maxL := 4) (ret := (some .int)) (by decide) rfl (Nat.le_of_ble_eq_true rfl) ?_
  intro p e s m below meth c A ls CX hin HW hl
  obtain ⟨hx, hb, hml, hr, hown, hts, hK, hA, hlk⟩ := id CX
  have hl : lv_has ls 4 [(0, .ref (a o)), (1, .int t), (2, .int z)] := hl
  have hn6 := hI.1
  have hn8 := hI.2.1
  refine lv_aload_n hx hb dX5_setFlake_0 rfl (lv_at hl 0 rfl) ?_
  refine lv_iconst (v := 0) hx hb dX5_setFlake_1 (by decide) ?_
  refine g_put CX HW in_X5_setFlake_5 tyX5 tyX5_ok nmX5 0 0 rfl rfl (Nat.le_of_ble_eq_true rfl) fl_X5_setFlake_37 rfl rfl rfl (Nat.le_of_ble_eq_true rfl) dX5_setFlake_2 (fun H locs HW => ?_)
  have HW : Hw D A s (wMo cI a o (0 : Int32) (vA S 0) (vA S 1) (vr S) (vA S 3) (vA S 4) (vs S) (vA S 7) ++ (wMS cI a (o + 6) (a o) (vh S) (vc S) (sumP S) (vA S 5) (vA S 6) (vA S 8) (vA S 9) (vA S 10) (vA S 11) (vA S 12) (vA S 2) my qu ++ (wMS cI a (o + 17) (a o) (vh T) (vc T) ri2 (vA T 5) (vA T 6) (vA T 8) (vA T 9) (vA T 10) (vA T 11) (vA T 12) (vA T 2) my2 qu2))) H locs := HW
  refine lv_iload_n hx hb dX5_setFlake_5 rfl (lv_at hl 1 rfl) ?_
  refine lv_iconst (v := 0) hx hb dX5_setFlake_6 (by decide) ?_
  refine lv_iconst (v := 5) hx hb dX5_setFlake_7 (by decide) ?_
  refine g_callS CX HW hl.1 ([]) (wMo cI a o (0 : Int32) (vA S 0) (vA S 1) (vr S) (vA S 3) (vA S 4) (vs S) (vA S 7) ++ (wMS cI a (o + 6) (a o) (vh S) (vc S) (sumP S) (vA S 5) (vA S 6) (vA S 8) (vA S 9) (vA S 10) (vA S 11) (vA S 12) (vA S 2) my qu ++ (wMS cI a (o + 17) (a o) (vh T) (vc T) ri2 (vA T 5) (vA T 6) (vA T 8) (vA T 9) (vA T 10) (vA T 11) (vA T 12) (vA T 2) my2 qu2))) (c_X5_isIn t (0 : Int32) (5 : Int32)) rfl gX5_setFlake_X5_isIn rfl hd_X5_isIn ⟨rfl, rfl, (Nat.le_of_ble_eq_true rfl), (Nat.le_of_ble_eq_true rfl)⟩ ⟨(Nat.zero_le _), (Nat.zero_le _)⟩ rfl rfl (Nat.le_of_ble_eq_true rfl) dX5_setFlake_8 (fun v w1 H locs hp HW => ?_)
  obtain ⟨rfl, rfl⟩ := hp
  have HW : Hw D A s (wMo cI a o (0 : Int32) (vA S 0) (vA S 1) (vr S) (vA S 3) (vA S 4) (vs S) (vA S 7) ++ (wMS cI a (o + 6) (a o) (vh S) (vc S) (sumP S) (vA S 5) (vA S 6) (vA S 8) (vA S 9) (vA S 10) (vA S 11) (vA S 12) (vA S 2) my qu ++ (wMS cI a (o + 17) (a o) (vh T) (vc T) ri2 (vA T 5) (vA T 6) (vA T 8) (vA T 9) (vA T 10) (vA T 11) (vA T 12) (vA T 2) my2 qu2))) H locs := HW
  refine W.eq (g2 := F0 m 11 ls [.int (bI ((0 : Int32) ≤ t ∧ t ≤ (5 : Int32)))]) rfl ?_
  refine g_ifne_b (tgt := 20) hx hb dX5_setFlake_11 (by decide) (fun c11 => ?_) (fun c11 => ?_)
  · refine lv_iload_n hx hb dX5_setFlake_20 rfl (lv_at hl 2 rfl) ?_
    refine lv_iconst (v := 0) hx hb dX5_setFlake_21 (by decide) ?_
    refine lv_iconst (v := 3) hx hb dX5_setFlake_22 (by decide) ?_
    refine g_callS CX HW hl.1 ([]) (wMo cI a o (0 : Int32) (vA S 0) (vA S 1) (vr S) (vA S 3) (vA S 4) (vs S) (vA S 7) ++ (wMS cI a (o + 6) (a o) (vh S) (vc S) (sumP S) (vA S 5) (vA S 6) (vA S 8) (vA S 9) (vA S 10) (vA S 11) (vA S 12) (vA S 2) my qu ++ (wMS cI a (o + 17) (a o) (vh T) (vc T) ri2 (vA T 5) (vA T 6) (vA T 8) (vA T 9) (vA T 10) (vA T 11) (vA T 12) (vA T 2) my2 qu2))) (c_X5_isIn z (0 : Int32) (3 : Int32)) rfl gX5_setFlake_X5_isIn rfl hd_X5_isIn ⟨rfl, rfl, (Nat.le_of_ble_eq_true rfl), (Nat.le_of_ble_eq_true rfl)⟩ ⟨(Nat.zero_le _), (Nat.zero_le _)⟩ rfl rfl (Nat.le_of_ble_eq_true rfl) dX5_setFlake_23 (fun v w1 H locs hp HW => ?_)
    obtain ⟨rfl, rfl⟩ := hp
    have HW : Hw D A s (wMo cI a o (0 : Int32) (vA S 0) (vA S 1) (vr S) (vA S 3) (vA S 4) (vs S) (vA S 7) ++ (wMS cI a (o + 6) (a o) (vh S) (vc S) (sumP S) (vA S 5) (vA S 6) (vA S 8) (vA S 9) (vA S 10) (vA S 11) (vA S 12) (vA S 2) my qu ++ (wMS cI a (o + 17) (a o) (vh T) (vc T) ri2 (vA T 5) (vA T 6) (vA T 8) (vA T 9) (vA T 10) (vA T 11) (vA T 12) (vA T 2) my2 qu2))) H locs := HW
    refine W.eq (g2 := F0 m 26 ls [.int (bI ((0 : Int32) ≤ z ∧ z ≤ (3 : Int32)))]) rfl ?_
    refine g_ifne_b (tgt := 35) hx hb dX5_setFlake_26 (by decide) (fun c26 => ?_) (fun c26 => ?_)
    · obtain ⟨j, hj, rfl⟩ := wi_nat 5 (by decide) c11
      have ej : natI (nI j) = j := natI_nI (by omega)
      · refine lv_aload_n hx hb dX5_setFlake_35 rfl (lv_at hl 0 rfl) ?_
        refine g_get CX HW in_X5_setFlake_5 0 1 rfl rfl (Nat.le_of_ble_eq_true rfl) fl_X5_setFlake_7 rfl dX5_setFlake_36 ?_
        refine lv_iload_n hx hb dX5_setFlake_39 rfl (lv_at hl 1 rfl) ?_
        refine g_ald CX HW 1 (k := j) rfl rfl rfl (by omega) (Nat.le_of_ble_eq_true rfl) dX5_setFlake_40 ?_
        refine lv_istore_n (lv' := [(3, .int (vA S 0 j)), (0, .ref (a o)), (1, .int (nI j)), (2, .int z)]) hx hb dX5_setFlake_41 rfl hl (Nat.le_of_ble_eq_true rfl) rfl (fun ls hl => ?_)
        refine lv_aload_n hx hb dX5_setFlake_42 rfl (lv_at hl 1 rfl) ?_
        refine g_get CX HW in_X5_setFlake_5 0 1 rfl rfl (Nat.le_of_ble_eq_true rfl) fl_X5_setFlake_7 rfl dX5_setFlake_43 ?_
        refine lv_iload_n hx hb dX5_setFlake_46 rfl (lv_at hl 2 rfl) ?_
        refine lv_iload_n hx hb dX5_setFlake_47 rfl (lv_at hl 3 rfl) ?_
        refine g_ast CX HW 1 (k := j) rfl rfl rfl (by omega) (Nat.le_of_ble_eq_true rfl) dX5_setFlake_48 (fun H locs HW => ?_)
        have HW : Hw D A s (wMo cI a o (0 : Int32) (upd (vA S 0) j z) (vA S 1) (vr S) (vA S 3) (vA S 4) (vs S) (vA S 7) ++ (wMS cI a (o + 6) (a o) (vh S) (vc S) (sumP S) (vA S 5) (vA S 6) (vA S 8) (vA S 9) (vA S 10) (vA S 11) (vA S 12) (vA S 2) my qu ++ (wMS cI a (o + 17) (a o) (vh T) (vc T) ri2 (vA T 5) (vA T 6) (vA T 8) (vA T 9) (vA T 10) (vA T 11) (vA T 12) (vA T 2) my2 qu2))) H locs := HW
        refine lv_iload_n hx hb dX5_setFlake_49 rfl (lv_at hl 0 rfl) ?_
        have hk : kSetF (nI j) z = 0 := by rw [kSetF]; rw [if_neg (fun h9 => h9 c11), if_neg (fun h9 => h9 c26)]
        exact g_iret CX HW rfl ⟨sSetF S (nI j) z, _, my, qu, T, ri2, my2, qu2, ⟨fun h9 => absurd hk h9, fun _ => ⟨(by rw [ej]), rfl⟩⟩, hM, rfl, by rw [hk, sSetF, ej] <;> rfl⟩ dX5_setFlake_50
    · refine lv_aload_n hx hb dX5_setFlake_29 rfl (lv_at hl 0 rfl) ?_
      refine lv_iconst (v := 2) hx hb dX5_setFlake_30 (by decide) ?_
      refine g_callV CX HW hl.1 ([]) (wMS cI a (o + 6) (a o) (vh S) (vc S) (sumP S) (vA S 5) (vA S 6) (vA S 8) (vA S 9) (vA S 10) (vA S 11) (vA S 12) (vA S 2) my qu ++ (wMS cI a (o + 17) (a o) (vh T) (vc T) ri2 (vA T 5) (vA T 6) (vA T 8) (vA T 9) (vA T 10) (vA T 11) (vA T 12) (vA T 2) my2 qu2)) (c_X5_no o S (0 : Int32) (2 : Int32)) rfl 0 rfl rfl gX5_setFlake_X5_no rfl ⟨rfl, hd_X5_no⟩ ⟨rfl, rfl, (Nat.le_of_ble_eq_true rfl), (Nat.le_of_ble_eq_true rfl)⟩ ⟨(Nat.zero_le _), (Nat.zero_le _)⟩ rfl rfl (Nat.le_of_ble_eq_true rfl) dX5_setFlake_31 (fun v w1 H locs hp HW => ?_)
      obtain ⟨rfl, rfl⟩ := hp
      have HW : Hw D A s (wMo cI a o (2 : Int32) (vA S 0) (vA S 1) (vr S) (vA S 3) (vA S 4) (vs S) (vA S 7) ++ (wMS cI a (o + 6) (a o) (vh S) (vc S) (sumP S) (vA S 5) (vA S 6) (vA S 8) (vA S 9) (vA S 10) (vA S 11) (vA S 12) (vA S 2) my qu ++ (wMS cI a (o + 17) (a o) (vh T) (vc T) ri2 (vA T 5) (vA T 6) (vA T 8) (vA T 9) (vA T 10) (vA T 11) (vA T 12) (vA T 2) my2 qu2))) H locs := HW
      refine W.eq (g2 := F0 m 34 ls [.int (0 : Int32)]) rfl ?_
      have hk : kSetF t z = 2 := by first | (rw [kSetF]; rw [if_pos c11]) | (rw [kSetF]; rw [if_neg (fun h9 => h9 c11), if_pos c26])
      exact g_iret CX HW rfl ⟨S, 0, my, qu, T, ri2, my2, qu2, ⟨fun _ => rfl, fun h9 => absurd (hk.symm.trans h9) (by decide)⟩, hM, rfl, by rw [hk]⟩ dX5_setFlake_34
  · refine lv_aload_n hx hb dX5_setFlake_14 rfl (lv_at hl 0 rfl) ?_
    refine lv_iconst (v := 1) hx hb dX5_setFlake_15 (by decide) ?_
    refine g_callV CX HW hl.1 ([]) (wMS cI a (o + 6) (a o) (vh S) (vc S) (sumP S) (vA S 5) (vA S 6) (vA S 8) (vA S 9) (vA S 10) (vA S 11) (vA S 12) (vA S 2) my qu ++ (wMS cI a (o + 17) (a o) (vh T) (vc T) ri2 (vA T 5) (vA T 6) (vA T 8) (vA T 9) (vA T 10) (vA T 11) (vA T 12) (vA T 2) my2 qu2)) (c_X5_no o S (0 : Int32) (1 : Int32)) rfl 0 rfl rfl gX5_setFlake_X5_no rfl ⟨rfl, hd_X5_no⟩ ⟨rfl, rfl, (Nat.le_of_ble_eq_true rfl), (Nat.le_of_ble_eq_true rfl)⟩ ⟨(Nat.zero_le _), (Nat.zero_le _)⟩ rfl rfl (Nat.le_of_ble_eq_true rfl) dX5_setFlake_16 (fun v w1 H locs hp HW => ?_)
    obtain ⟨rfl, rfl⟩ := hp
    have HW : Hw D A s (wMo cI a o (1 : Int32) (vA S 0) (vA S 1) (vr S) (vA S 3) (vA S 4) (vs S) (vA S 7) ++ (wMS cI a (o + 6) (a o) (vh S) (vc S) (sumP S) (vA S 5) (vA S 6) (vA S 8) (vA S 9) (vA S 10) (vA S 11) (vA S 12) (vA S 2) my qu ++ (wMS cI a (o + 17) (a o) (vh T) (vc T) ri2 (vA T 5) (vA T 6) (vA T 8) (vA T 9) (vA T 10) (vA T 11) (vA T 12) (vA T 2) my2 qu2))) H locs := HW
    refine W.eq (g2 := F0 m 19 ls [.int (0 : Int32)]) rfl ?_
    have hk : kSetF t z = 1 := by first | (rw [kSetF]; rw [if_pos c11]) | (rw [kSetF]; rw [if_neg (fun h9 => h9 c11), if_pos c26])
    exact g_iret CX HW rfl ⟨S, 0, my, qu, T, ri2, my2, qu2, ⟨fun _ => rfl, fun h9 => absurd (hk.symm.trans h9) (by decide)⟩, hM, rfl, by rw [hk]⟩ dX5_setFlake_19

theorem hd_X5_cannon : yX5_cannon.cls ≠ "java/lang/invoke/MethodHandle" ∧ yX5_cannon.cls ≠ "java/lang/invoke/VarHandle" ∧ (parseMethodDescriptor yX5_cannon.desc).map (fun d => d.parameters.length) = some 1 := by decide +kernel
theorem fl_X5_cannon_37 : Cond.fieldLink RX5 37 (TX5 0).1 (TX5 0).2.1 (TX5 0).2.2.1 ∈ wsX5_cannon := by decide +kernel
theorem in_X5_cannon_5 : ∀ x ∈ u_ws RX5 TX5 10, x ∈ wsX5_cannon := by decide +kernel
theorem fl_X5_cannon_30 : Cond.fieldLink RX5 30 (TX5 8).1 (TX5 8).2.1 (TX5 8).2.2.1 ∈ wsX5_cannon := by decide +kernel
theorem in_X5_cannon_4 : ∀ x ∈ u_ws RX4 TX4 14, x ∈ wsX5_cannon := by decide +kernel
theorem mm_X5_cannon_68 : Cond.methodLink RX5 68 Lib.Math.min.name ∈ wsX5_cannon ∧ Cond.static Lib.Math.min.name ∈ wsX5_cannon ∧ Cond.initialized "java/lang/Math" ∈ wsX5_cannon ∧ Cond.code Lib.Math.min.name Lib.Math.min.code 2 (some .int) ∈ wsX5_cannon := ⟨by decide +kernel, by decide +kernel, by decide +kernel, by decide +kernel⟩
set_option maxRecDepth 100000 in
set_option maxHeartbeats 4000000 in
theorem c_X5_cannon {l : Launch} {D : va_G} {cI cL : ClassId} {a : Nat → Nat} (o : Nat) (S : VS) (th : Int32) (my : Nat → Int32) (qu : Nat → Int32) (T : VS) (ri2 : Int32) (my2 : Nat → Int32) (qu2 : Nat → Int32) (x : Int32) (hI : Inv S) (hM : RepM (vq S) my qu) (hQ : Qk (vs S) (vq S)) (hU : QU (vq S)) (hh : vh S + 100 < 2 ^ 31) : Ct l yX5_cannon wsX5_cannon { frames := 2, cells := 0, slots := 0, locals := 43 } D (ty2 cI cL) [.ref (a o), .int x] (wMo cI a o th (vA S 0) (vA S 1) (vr S) (vA S 3) (vA S 4) (vs S) (vA S 7) ++ (wMS cI a (o + 6) (a o) (vh S) (vc S) (sumP S) (vA S 5) (vA S 6) (vA S 8) (vA S 9) (vA S 10) (vA S 11) (vA S 12) (vA S 2) my qu ++ (wMS cI a (o + 17) (a o) (vh T) (vc T) ri2 (vA T 5) (vA T 6) (vA T 8) (vA T 9) (vA T 10) (vA T 11) (vA T 12) (vA T 2) my2 qu2))) (fun v w' => ∃ (Z : VS) (r : Int32) (my' qu' : Nat → Int32) (T' : VS) (ri2' : Int32) (my2' qu2' : Nat → Int32), MOK (kCan S x) (vA (sCan S x) 5 (natI x)) S (sCan S x) Z r ∧ RepM (vq Z) my' qu' ∧ v = some (.int r) ∧ w' = wMo cI a o (kCan S x) (vA Z 0) (vA Z 1) (vr Z) (vA Z 3) (vA Z 4) (vs Z) (vA Z 7) ++ (wMS cI a (o + 6) (a o) (vh Z) (vc Z) (sumP Z) (vA Z 5) (vA Z 6) (vA Z 8) (vA Z 9) (vA Z 10) (vA Z 11) (vA Z 12) (vA Z 2) my' qu' ++ (wMS cI a (o + 17) (a o) (vh T') (vc T') ri2' (vA T' 5) (vA T' 6) (vA T' 8) (vA T' 9) (vA T' 10) (vA T' 11) (vA T' 12) (vA T' 2) my2' qu2'))) 0 0 := by
  refine Ct.of (cc := cX5_cannon) (maxL := 2) (ret := (some .int)) (by decide) rfl (Nat.le_of_ble_eq_true rfl) ?_
  intro p e s m below meth c A ls CX hin HW hl
  obtain ⟨hx, hb, hml, hr, hown, hts, hK, hA, hlk⟩ := id CX
  have hl : lv_has ls 2 [(0, .ref (a o)), (1, .int x)] := hl
  have hn6 := hI.1
  have hn8 := hI.2.1
  refine lv_aload_n hx hb dX5_cannon_0 rfl (lv_at hl 0 rfl) ?_
  refine lv_iconst (v := 0) hx hb dX5_cannon_1 (by decide) ?_
  refine g_put CX HW in_X5_cannon_5 tyX5 tyX5_ok nmX5 0 0 rfl rfl (Nat.le_of_ble_eq_true rfl) fl_X5_cannon_37 rfl rfl rfl (Nat.le_of_ble_eq_true rfl) dX5_cannon_2 (fun H locs HW => ?_)
  have HW : Hw D A s (wMo cI a o (0 : Int32) (vA S 0) (vA S 1) (vr S) (vA S 3) (vA S 4) (vs S) (vA S 7) ++ (wMS cI a (o + 6) (a o) (vh S) (vc S) (sumP S) (vA S 5) (vA S 6) (vA S 8) (vA S 9) (vA S 10) (vA S 11) (vA S 12) (vA S 2) my qu ++ (wMS cI a (o + 17) (a o) (vh T) (vc T) ri2 (vA T 5) (vA T 6) (vA T 8) (vA T 9) (vA T 10) (vA T 11) (vA T 12) (vA T 2) my2 qu2))) H locs := HW
  refine lv_aload_n hx hb dX5_cannon_5 rfl (lv_at hl 0 rfl) ?_
  refine lv_iload_n hx hb dX5_cannon_6 rfl (lv_at hl 1 rfl) ?_
  refine g_callV CX HW hl.1 ([]) (wMS cI a (o + 6) (a o) (vh S) (vc S) (sumP S) (vA S 5) (vA S 6) (vA S 8) (vA S 9) (vA S 10) (vA S 11) (vA S 12) (vA S 2) my qu ++ (wMS cI a (o + 17) (a o) (vh T) (vc T) ri2 (vA T 5) (vA T 6) (vA T 8) (vA T 9) (vA T 10) (vA T 11) (vA T 12) (vA T 2) my2 qu2)) (c_X5_isRun o S (0 : Int32) x (by omega)) rfl 0 rfl rfl gX5_cannon_X5_isRun rfl ⟨rfl, hd_X5_isRun⟩ ⟨rfl, rfl, (Nat.le_of_ble_eq_true rfl), (Nat.le_of_ble_eq_true rfl)⟩ ⟨(Nat.zero_le _), (Nat.zero_le _)⟩ rfl rfl (Nat.le_of_ble_eq_true rfl) dX5_cannon_7 (fun v w1 H locs hp HW => ?_)
  obtain ⟨rfl, rfl⟩ := hp
  have HW : Hw D A s (wMo cI a o (0 : Int32) (vA S 0) (vA S 1) (vr S) (vA S 3) (vA S 4) (vs S) (vA S 7) ++ (wMS cI a (o + 6) (a o) (vh S) (vc S) (sumP S) (vA S 5) (vA S 6) (vA S 8) (vA S 9) (vA S 10) (vA S 11) (vA S 12) (vA S 2) my qu ++ (wMS cI a (o + 17) (a o) (vh T) (vc T) ri2 (vA T 5) (vA T 6) (vA T 8) (vA T 9) (vA T 10) (vA T 11) (vA T 12) (vA T 2) my2 qu2))) H locs := HW
  refine W.eq (g2 := F0 m 10 ls [.int (bI ((0 : Int32) ≤ x ∧ x < nI (vr S)))]) rfl ?_
  refine g_ifne_b (tgt := 19) hx hb dX5_cannon_10 (by decide) (fun c10 => ?_) (fun c10 => ?_)
  · obtain ⟨r, hr, rfl⟩ := has_nat (by omega) c10
    have er : natI (nI r) = r := natI_nI (by omega)
    · refine lv_aload_n hx hb dX5_cannon_19 rfl (lv_at hl 0 rfl) ?_
      refine g_get CX HW in_X5_cannon_5 0 8 rfl rfl (Nat.le_of_ble_eq_true rfl) fl_X5_cannon_30 rfl dX5_cannon_20 ?_
      refine g_getN (host := "PommelTowsModel") CX HW in_X5_cannon_4 6 1 rfl rfl (Nat.le_of_ble_eq_true rfl) (by decide +kernel) rfl dX5_cannon_23 ?_
      refine lv_iconst (v := 3) hx hb dX5_cannon_26 (by decide) ?_
      refine lv_icmp_lt (tgt := 44) hx hb dX5_cannon_27 (by decide) (fun c27 => ?_) (fun c27 => ?_)
      · have c27 := Int32.not_le.mpr c27
        refine lv_aload_n hx hb dX5_cannon_44 rfl (lv_at hl 0 rfl) ?_
        refine lv_iconst (v := 2) hx hb dX5_cannon_45 (by decide) ?_
        refine g_callV CX HW hl.1 ([]) (wMS cI a (o + 6) (a o) (vh S) (vc S) (sumP S) (vA S 5) (vA S 6) (vA S 8) (vA S 9) (vA S 10) (vA S 11) (vA S 12) (vA S 2) my qu ++ (wMS cI a (o + 17) (a o) (vh T) (vc T) ri2 (vA T 5) (vA T 6) (vA T 8) (vA T 9) (vA T 10) (vA T 11) (vA T 12) (vA T 2) my2 qu2)) (c_X5_no o S (0 : Int32) (2 : Int32)) rfl 0 rfl rfl gX5_cannon_X5_no rfl ⟨rfl, hd_X5_no⟩ ⟨rfl, rfl, (Nat.le_of_ble_eq_true rfl), (Nat.le_of_ble_eq_true rfl)⟩ ⟨(Nat.zero_le _), (Nat.zero_le _)⟩ rfl rfl (Nat.le_of_ble_eq_true rfl) dX5_cannon_46 (fun v w1 H locs hp HW => ?_)
        obtain ⟨rfl, rfl⟩ := hp
        have HW : Hw D A s (wMo cI a o (2 : Int32) (vA S 0) (vA S 1) (vr S) (vA S 3) (vA S 4) (vs S) (vA S 7) ++ (wMS cI a (o + 6) (a o) (vh S) (vc S) (sumP S) (vA S 5) (vA S 6) (vA S 8) (vA S 9) (vA S 10) (vA S 11) (vA S 12) (vA S 2) my qu ++ (wMS cI a (o + 17) (a o) (vh T) (vc T) ri2 (vA T 5) (vA T 6) (vA T 8) (vA T 9) (vA T 10) (vA T 11) (vA T 12) (vA T 2) my2 qu2))) H locs := HW
        refine W.eq (g2 := F0 m 49 ls [.int (0 : Int32)]) rfl ?_
        have hk : kCan S (nI r) = 2 := by first | (rw [kCan]; rw [if_pos c10]) | (rw [kCan]; rw [if_neg (fun h9 => h9 c10), if_pos c27]) | (rw [kCan, er]; rw [if_neg (fun h9 => h9 c10), if_neg (fun h9 => h9 c27), if_pos c41])
        exact g_iret CX HW rfl ⟨S, 0, my, qu, T, ri2, my2, qu2, ⟨fun _ => rfl, fun h9 => absurd (hk.symm.trans h9) (by decide)⟩, hM, rfl, by rw [hk]⟩ dX5_cannon_49
      · have c27 := Int32.not_lt.mp c27
        refine lv_aload_n hx hb dX5_cannon_30 rfl (lv_at hl 0 rfl) ?_
        refine g_get CX HW in_X5_cannon_5 0 8 rfl rfl (Nat.le_of_ble_eq_true rfl) fl_X5_cannon_30 rfl dX5_cannon_31 ?_
        refine g_getN (host := "PommelTowsModel") CX HW in_X5_cannon_4 6 3 rfl rfl (Nat.le_of_ble_eq_true rfl) (by decide +kernel) rfl dX5_cannon_34 ?_
        refine lv_iload_n hx hb dX5_cannon_37 rfl (lv_at hl 1 rfl) ?_
        refine g_ald CX HW 7 (k := r) rfl rfl rfl (by omega) (Nat.le_of_ble_eq_true rfl) dX5_cannon_38 ?_
        refine lv_bipush (v := 90) hx hb dX5_cannon_39 (by decide) ?_
        refine lv_icmp_ne (tgt := 50) hx hb dX5_cannon_41 (by decide) (fun c41 => ?_) (fun c41 => ?_)
        · have c41 := dp_lt hI hr c41
          refine lv_aload_n hx hb dX5_cannon_50 rfl (lv_at hl 0 rfl) ?_
          refine g_get CX HW in_X5_cannon_5 0 8 rfl rfl (Nat.le_of_ble_eq_true rfl) fl_X5_cannon_30 rfl dX5_cannon_51 ?_
          refine lv_dup hx hb dX5_cannon_54 rfl ?_
          refine g_getN (host := "PommelTowsModel") CX HW in_X5_cannon_4 6 1 rfl rfl (Nat.le_of_ble_eq_true rfl) (by decide +kernel) rfl dX5_cannon_55 ?_
          refine lv_iconst (v := 3) hx hb dX5_cannon_58 (by decide) ?_
          refine lv_isub hx hb dX5_cannon_59 ?_
          refine g_putN (host := "PommelTowsModel") CX HW in_X5_cannon_4 tyX4 tyX4_ok nmX4 6 1 rfl rfl (Nat.le_of_ble_eq_true rfl) (by decide +kernel) rfl rfl rfl (Nat.le_of_ble_eq_true rfl) dX5_cannon_60 (fun H locs HW => ?_)
          have HW : Hw D A s (wMo cI a o (0 : Int32) (vA S 0) (vA S 1) (vr S) (vA S 3) (vA S 4) (vs S) (vA S 7) ++ (wMS cI a (o + 6) (a o) (vh S) (vc S - (3 : Int32)) (sumP S) (vA S 5) (vA S 6) (vA S 8) (vA S 9) (vA S 10) (vA S 11) (vA S 12) (vA S 2) my qu ++ (wMS cI a (o + 17) (a o) (vh T) (vc T) ri2 (vA T 5) (vA T 6) (vA T 8) (vA T 9) (vA T 10) (vA T 11) (vA T 12) (vA T 2) my2 qu2))) H locs := HW
          refine lv_aload_n hx hb dX5_cannon_63 rfl (lv_at hl 0 rfl) ?_
          refine g_get CX HW in_X5_cannon_5 0 8 rfl rfl (Nat.le_of_ble_eq_true rfl) fl_X5_cannon_30 rfl dX5_cannon_64 ?_
          refine g_getN (host := "PommelTowsModel") CX HW in_X5_cannon_4 6 3 rfl rfl (Nat.le_of_ble_eq_true rfl) (by decide +kernel) rfl dX5_cannon_67 ?_
          refine lv_iload_n hx hb dX5_cannon_70 rfl (lv_at hl 1 rfl) ?_
          refine lv_bipush (v := 90) hx hb dX5_cannon_71 (by decide) ?_
          refine lv_aload_n hx hb dX5_cannon_73 rfl (lv_at hl 0 rfl) ?_
          refine g_get CX HW in_X5_cannon_5 0 8 rfl rfl (Nat.le_of_ble_eq_true rfl) fl_X5_cannon_30 rfl dX5_cannon_74 ?_
          refine g_getN (host := "PommelTowsModel") CX HW in_X5_cannon_4 6 3 rfl rfl (Nat.le_of_ble_eq_true rfl) (by decide +kernel) rfl dX5_cannon_77 ?_
          refine lv_iload_n hx hb dX5_cannon_80 rfl (lv_at hl 1 rfl) ?_
          refine g_ald CX HW 7 (k := r) rfl rfl rfl (by omega) (Nat.le_of_ble_eq_true rfl) dX5_cannon_81 ?_
          refine lv_bipush (v := 12) hx hb dX5_cannon_82 (by decide) ?_
          refine lv_iadd hx hb dX5_cannon_84 ?_
          refine va_mmin hx hb (hml.trans hl.1.symm) hown (hts _ mm_X5_cannon_68.1) (hts _ mm_X5_cannon_68.2.1) (hts _ mm_X5_cannon_68.2.2.1) (hts _ mm_X5_cannon_68.2.2.2) (Nat.le_of_ble_eq_true rfl) (Nat.le_of_ble_eq_true rfl) (Nat.zero_le _) (Nat.zero_le _) dX5_cannon_85 ?_
          refine g_ast CX HW 7 (k := r) rfl rfl rfl (by omega) (Nat.le_of_ble_eq_true rfl) dX5_cannon_88 (fun H locs HW => ?_)
          have HW : Hw D A s (wMo cI a o (0 : Int32) (vA S 0) (vA S 1) (vr S) (vA S 3) (vA S 4) (vs S) (vA S 7) ++ (wMS cI a (o + 6) (a o) (vh S) (vc S - (3 : Int32)) (sumP S) (upd (vA S 5) r (if ((vA S 5 r) + (12 : Int32)) < (90 : Int32) then ((vA S 5 r) + (12 : Int32)) else (90 : Int32))) (vA S 6) (vA S 8) (vA S 9) (vA S 10) (vA S 11) (vA S 12) (vA S 2) my qu ++ (wMS cI a (o + 17) (a o) (vh T) (vc T) ri2 (vA T 5) (vA T 6) (vA T 8) (vA T 9) (vA T 10) (vA T 11) (vA T 12) (vA T 2) my2 qu2))) H locs := HW
          have hwe : (upd (vA S 5) r (if ((vA S 5 r) + (12 : Int32)) < (90 : Int32) then ((vA S 5 r) + (12 : Int32)) else (90 : Int32))) = (upd (vA S 5) r (heldI (vA S 5 r + 12) 0 90)) := (by rw [held_can hI hr])
          rw [hwe] at HW; clear hwe
          refine lv_aload_n hx hb dX5_cannon_89 rfl (lv_at hl 0 rfl) ?_
          refine g_get CX HW in_X5_cannon_5 0 8 rfl rfl (Nat.le_of_ble_eq_true rfl) fl_X5_cannon_30 rfl dX5_cannon_90 ?_
          refine g_getN (host := "PommelTowsModel") CX HW in_X5_cannon_4 6 3 rfl rfl (Nat.le_of_ble_eq_true rfl) (by decide +kernel) rfl dX5_cannon_93 ?_
          refine lv_iload_n hx hb dX5_cannon_96 rfl (lv_at hl 1 rfl) ?_
          refine g_ald CX HW 7 (k := r) rfl rfl rfl (by omega) (Nat.le_of_ble_eq_true rfl) dX5_cannon_97 ?_
          have hk : kCan S (nI r) = 0 := by rw [kCan, er]; rw [if_neg (fun h9 => h9 c10), if_neg (fun h9 => h9 c27), if_neg (fun h9 => h9 c41)]
          exact g_iret CX HW rfl ⟨sCan S (nI r), _, my, qu, T, ri2, my2, qu2, ⟨fun h9 => absurd hk h9, fun _ => ⟨(by rw [er, sCan, er]; rfl), rfl⟩⟩, hM, rfl, by rw [hk, sCan, er] <;> rfl⟩ dX5_cannon_98
        · have c41 : ¬ vA S 5 r < 90 := by rw [c41]; decide
          refine lv_aload_n hx hb dX5_cannon_44 rfl (lv_at hl 0 rfl) ?_
          refine lv_iconst (v := 2) hx hb dX5_cannon_45 (by decide) ?_
          refine g_callV CX HW hl.1 ([]) (wMS cI a (o + 6) (a o) (vh S) (vc S) (sumP S) (vA S 5) (vA S 6) (vA S 8) (vA S 9) (vA S 10) (vA S 11) (vA S 12) (vA S 2) my qu ++ (wMS cI a (o + 17) (a o) (vh T) (vc T) ri2 (vA T 5) (vA T 6) (vA T 8) (vA T 9) (vA T 10) (vA T 11) (vA T 12) (vA T 2) my2 qu2)) (c_X5_no o S (0 : Int32) (2 : Int32)) rfl 0 rfl rfl gX5_cannon_X5_no rfl ⟨rfl, hd_X5_no⟩ ⟨rfl, rfl, (Nat.le_of_ble_eq_true rfl), (Nat.le_of_ble_eq_true rfl)⟩ ⟨(Nat.zero_le _), (Nat.zero_le _)⟩ rfl rfl (Nat.le_of_ble_eq_true rfl) dX5_cannon_46 (fun v w1 H locs hp HW => ?_)
          obtain ⟨rfl, rfl⟩ := hp
          have HW : Hw D A s (wMo cI a o (2 : Int32) (vA S 0) (vA S 1) (vr S) (vA S 3) (vA S 4) (vs S) (vA S 7) ++ (wMS cI a (o + 6) (a o) (vh S) (vc S) (sumP S) (vA S 5) (vA S 6) (vA S 8) (vA S 9) (vA S 10) (vA S 11) (vA S 12) (vA S 2) my qu ++ (wMS cI a (o + 17) (a o) (vh T) (vc T) ri2 (vA T 5) (vA T 6) (vA T 8) (vA T 9) (vA T 10) (vA T 11) (vA T 12) (vA T 2) my2 qu2))) H locs := HW
          refine W.eq (g2 := F0 m 49 ls [.int (0 : Int32)]) rfl ?_
          have hk : kCan S (nI r) = 2 := by first | (rw [kCan]; rw [if_pos c10]) | (rw [kCan]; rw [if_neg (fun h9 => h9 c10), if_pos c27]) | (rw [kCan, er]; rw [if_neg (fun h9 => h9 c10), if_neg (fun h9 => h9 c27), if_pos c41])
          exact g_iret CX HW rfl ⟨S, 0, my, qu, T, ri2, my2, qu2, ⟨fun _ => rfl, fun h9 => absurd (hk.symm.trans h9) (by decide)⟩, hM, rfl, by rw [hk]⟩ dX5_cannon_49
  · refine lv_aload_n hx hb dX5_cannon_13 rfl (lv_at hl 0 rfl) ?_
    refine lv_iconst (v := 1) hx hb dX5_cannon_14 (by decide) ?_
    refine g_callV CX HW hl.1 ([]) (wMS cI a (o + 6) (a o) (vh S) (vc S) (sumP S) (vA S 5) (vA S 6) (vA S 8) (vA S 9) (vA S 10) (vA S 11) (vA S 12) (vA S 2) my qu ++ (wMS cI a (o + 17) (a o) (vh T) (vc T) ri2 (vA T 5) (vA T 6) (vA T 8) (vA T 9) (vA T 10) (vA T 11) (vA T 12) (vA T 2) my2 qu2)) (c_X5_no o S (0 : Int32) (1 : Int32)) rfl 0 rfl rfl gX5_cannon_X5_no rfl ⟨rfl, hd_X5_no⟩ ⟨rfl, rfl, (Nat.le_of_ble_eq_true rfl), (Nat.le_of_ble_eq_true rfl)⟩ ⟨(Nat.zero_le _), (Nat.zero_le _)⟩ rfl rfl (Nat.le_of_ble_eq_true rfl) dX5_cannon_15 (fun v w1 H locs hp HW => ?_)
    obtain ⟨rfl, rfl⟩ := hp
    have HW : Hw D A s (wMo cI a o (1 : Int32) (vA S 0) (vA S 1) (vr S) (vA S 3) (vA S 4) (vs S) (vA S 7) ++ (wMS cI a (o + 6) (a o) (vh S) (vc S) (sumP S) (vA S 5) (vA S 6) (vA S 8) (vA S 9) (vA S 10) (vA S 11) (vA S 12) (vA S 2) my qu ++ (wMS cI a (o + 17) (a o) (vh T) (vc T) ri2 (vA T 5) (vA T 6) (vA T 8) (vA T 9) (vA T 10) (vA T 11) (vA T 12) (vA T 2) my2 qu2))) H locs := HW
    refine W.eq (g2 := F0 m 18 ls [.int (0 : Int32)]) rfl ?_
    have hk : kCan S x = 1 := by first | (rw [kCan]; rw [if_pos c10]) | (rw [kCan]; rw [if_neg (fun h9 => h9 c10), if_pos c27]) | (rw [kCan, er]; rw [if_neg (fun h9 => h9 c10), if_neg (fun h9 => h9 c27), if_pos c41])
    exact g_iret CX HW rfl ⟨S, 0, my, qu, T, ri2, my2, qu2, ⟨fun _ => rfl, fun h9 => absurd (hk.symm.trans h9) (by decide)⟩, hM, rfl, by rw [hk]⟩ dX5_cannon_18

theorem hd_X5_blast : yX5_blast.cls ≠ "java/lang/invoke/MethodHandle" ∧ yX5_blast.cls ≠ "java/lang/invoke/VarHandle" ∧ (parseMethodDescriptor yX5_blast.desc).map (fun d => d.parameters.length) = some 1 := by decide +kernel
theorem fl_X5_blast_37 : Cond.fieldLink RX5 37 (TX5 0).1 (TX5 0).2.1 (TX5 0).2.2.1 ∈ wsX5_blast := by decide +kernel
theorem in_X5_blast_5 : ∀ x ∈ u_ws RX5 TX5 10, x ∈ wsX5_blast := by decide +kernel
theorem fl_X5_blast_30 : Cond.fieldLink RX5 30 (TX5 8).1 (TX5 8).2.1 (TX5 8).2.2.1 ∈ wsX5_blast := by decide +kernel
theorem in_X5_blast_4 : ∀ x ∈ u_ws RX4 TX4 14, x ∈ wsX5_blast := by decide +kernel
theorem fl_X5_blast_19 : Cond.fieldLink RX5 19 (TX5 5).1 (TX5 5).2.1 (TX5 5).2.2.1 ∈ wsX5_blast := by decide +kernel
set_option maxRecDepth 100000 in
set_option maxHeartbeats 4000000 in
theorem c_X5_blast {l : Launch} {D : va_G} {cI cL : ClassId} {a : Nat → Nat} (o : Nat) (S : VS) (th : Int32) (my : Nat → Int32) (qu : Nat → Int32) (T : VS) (ri2 : Int32) (my2 : Nat → Int32) (qu2 : Nat → Int32) (x : Int32) (hI : Inv S) (hM : RepM (vq S) my qu) (hQ : Qk (vs S) (vq S)) (hU : QU (vq S)) (hh : vh S + 100 < 2 ^ 31) : Ct l yX5_blast wsX5_blast { frames := 2, cells := 0, slots := 0, locals := 43 } D (ty2 cI cL) [.ref (a o), .int x] (wMo cI a o th (vA S 0) (vA S 1) (vr S) (vA S 3) (vA S 4) (vs S) (vA S 7) ++ (wMS cI a (o + 6) (a o) (vh S) (vc S) (sumP S) (vA S 5) (vA S 6) (vA S 8) (vA S 9) (vA S 10) (vA S 11) (vA S 12) (vA S 2) my qu ++ (wMS cI a (o + 17) (a o) (vh T) (vc T) ri2 (vA T 5) (vA T 6) (vA T 8) (vA T 9) (vA T 10) (vA T 11) (vA T 12) (vA T 2) my2 qu2))) (fun v w' => ∃ (Z : VS) (r : Int32) (my' qu' : Nat → Int32) (T' : VS) (ri2' : Int32) (my2' qu2' : Nat → Int32), MOK (kBla S x) (vA S 5 (natI x) - vA S 5 (natI x) / 2) S (sBla S x) Z r ∧ RepM (vq Z) my' qu' ∧ v = some (.int r) ∧ w' = wMo cI a o (kBla S x) (vA Z 0) (vA Z 1) (vr Z) (vA Z 3) (vA Z 4) (vs Z) (vA Z 7) ++ (wMS cI a (o + 6) (a o) (vh Z) (vc Z) (sumP Z) (vA Z 5) (vA Z 6) (vA Z 8) (vA Z 9) (vA Z 10) (vA Z 11) (vA Z 12) (vA Z 2) my' qu' ++ (wMS cI a (o + 17) (a o) (vh T') (vc T') ri2' (vA T' 5) (vA T' 6) (vA T' 8) (vA T' 9) (vA T' 10) (vA T' 11) (vA T' 12) (vA T' 2) my2' qu2'))) 0 0 := by
  refine Ct.of (cc := cX5_blast) (maxL := 3) (ret := (some .int)) (by decide) rfl (Nat.le_of_ble_eq_true rfl) ?_
  intro p e s m below meth c A ls CX hin HW hl
  obtain ⟨hx, hb, hml, hr, hown, hts, hK, hA, hlk⟩ := id CX
  have hl : lv_has ls 3 [(0, .ref (a o)), (1, .int x)] := hl
  have hn6 := hI.1
  have hn8 := hI.2.1
  refine lv_aload_n hx hb dX5_blast_0 rfl (lv_at hl 0 rfl) ?_
  refine lv_iconst (v := 0) hx hb dX5_blast_1 (by decide) ?_
  refine g_put CX HW in_X5_blast_5 tyX5 tyX5_ok nmX5 0 0 rfl rfl (Nat.le_of_ble_eq_true rfl) fl_X5_blast_37 rfl rfl rfl (Nat.le_of_ble_eq_true rfl) dX5_blast_2 (fun H locs HW => ?_)
  have HW : Hw D A s (wMo cI a o (0 : Int32) (vA S 0) (vA S 1) (vr S) (vA S 3) (vA S 4) (vs S) (vA S 7) ++ (wMS cI a (o + 6) (a o) (vh S) (vc S) (sumP S) (vA S 5) (vA S 6) (vA S 8) (vA S 9) (vA S 10) (vA S 11) (vA S 12) (vA S 2) my qu ++ (wMS cI a (o + 17) (a o) (vh T) (vc T) ri2 (vA T 5) (vA T 6) (vA T 8) (vA T 9) (vA T 10) (vA T 11) (vA T 12) (vA T 2) my2 qu2))) H locs := HW
  refine lv_aload_n hx hb dX5_blast_5 rfl (lv_at hl 0 rfl) ?_
  refine lv_iload_n hx hb dX5_blast_6 rfl (lv_at hl 1 rfl) ?_
  refine g_callV CX HW hl.1 ([]) (wMS cI a (o + 6) (a o) (vh S) (vc S) (sumP S) (vA S 5) (vA S 6) (vA S 8) (vA S 9) (vA S 10) (vA S 11) (vA S 12) (vA S 2) my qu ++ (wMS cI a (o + 17) (a o) (vh T) (vc T) ri2 (vA T 5) (vA T 6) (vA T 8) (vA T 9) (vA T 10) (vA T 11) (vA T 12) (vA T 2) my2 qu2)) (c_X5_isRun o S (0 : Int32) x (by omega)) rfl 0 rfl rfl gX5_blast_X5_isRun rfl ⟨rfl, hd_X5_isRun⟩ ⟨rfl, rfl, (Nat.le_of_ble_eq_true rfl), (Nat.le_of_ble_eq_true rfl)⟩ ⟨(Nat.zero_le _), (Nat.zero_le _)⟩ rfl rfl (Nat.le_of_ble_eq_true rfl) dX5_blast_7 (fun v w1 H locs hp HW => ?_)
  obtain ⟨rfl, rfl⟩ := hp
  have HW : Hw D A s (wMo cI a o (0 : Int32) (vA S 0) (vA S 1) (vr S) (vA S 3) (vA S 4) (vs S) (vA S 7) ++ (wMS cI a (o + 6) (a o) (vh S) (vc S) (sumP S) (vA S 5) (vA S 6) (vA S 8) (vA S 9) (vA S 10) (vA S 11) (vA S 12) (vA S 2) my qu ++ (wMS cI a (o + 17) (a o) (vh T) (vc T) ri2 (vA T 5) (vA T 6) (vA T 8) (vA T 9) (vA T 10) (vA T 11) (vA T 12) (vA T 2) my2 qu2))) H locs := HW
  refine W.eq (g2 := F0 m 10 ls [.int (bI ((0 : Int32) ≤ x ∧ x < nI (vr S)))]) rfl ?_
  refine g_ifne_b (tgt := 19) hx hb dX5_blast_10 (by decide) (fun c10 => ?_) (fun c10 => ?_)
  · obtain ⟨r, hr, rfl⟩ := has_nat (by omega) c10
    have er : natI (nI r) = r := natI_nI (by omega)
    · refine lv_aload_n hx hb dX5_blast_19 rfl (lv_at hl 0 rfl) ?_
      refine g_get CX HW in_X5_blast_5 0 8 rfl rfl (Nat.le_of_ble_eq_true rfl) fl_X5_blast_30 rfl dX5_blast_20 ?_
      refine g_getN (host := "PommelTowsModel") CX HW in_X5_blast_4 6 3 rfl rfl (Nat.le_of_ble_eq_true rfl) (by decide +kernel) rfl dX5_blast_23 ?_
      refine lv_iload_n hx hb dX5_blast_26 rfl (lv_at hl 1 rfl) ?_
      refine g_ald CX HW 7 (k := r) rfl rfl rfl (by omega) (Nat.le_of_ble_eq_true rfl) dX5_blast_27 ?_
      refine lv_aload_n hx hb dX5_blast_28 rfl (lv_at hl 0 rfl) ?_
      refine g_get CX HW in_X5_blast_5 0 5 rfl rfl (Nat.le_of_ble_eq_true rfl) fl_X5_blast_19 rfl dX5_blast_29 ?_
      refine lv_iload_n hx hb dX5_blast_32 rfl (lv_at hl 1 rfl) ?_
      refine g_ald CX HW 4 (k := r) rfl rfl rfl (by omega) (Nat.le_of_ble_eq_true rfl) dX5_blast_33 ?_
      refine lv_imul hx hb dX5_blast_34 ?_
      refine lv_sipush (v := 300) hx hb dX5_blast_35 (by decide) ?_
      refine lv_icmp_ge (tgt := 47) hx hb dX5_blast_38 (by decide) (fun c38 => ?_) (fun c38 => ?_)
      · refine lv_aload_n hx hb dX5_blast_47 rfl (lv_at hl 0 rfl) ?_
        refine g_get CX HW in_X5_blast_5 0 8 rfl rfl (Nat.le_of_ble_eq_true rfl) fl_X5_blast_30 rfl dX5_blast_48 ?_
        refine g_getN (host := "PommelTowsModel") CX HW in_X5_blast_4 6 3 rfl rfl (Nat.le_of_ble_eq_true rfl) (by decide +kernel) rfl dX5_blast_51 ?_
        refine lv_iload_n hx hb dX5_blast_54 rfl (lv_at hl 1 rfl) ?_
        refine g_ald CX HW 7 (k := r) rfl rfl rfl (by omega) (Nat.le_of_ble_eq_true rfl) dX5_blast_55 ?_
        refine lv_istore_n (lv' := [(2, .int (vA S 5 r)), (0, .ref (a o)), (1, .int (nI r))]) hx hb dX5_blast_56 rfl hl (Nat.le_of_ble_eq_true rfl) rfl (fun ls hl => ?_)
        refine lv_aload_n hx hb dX5_blast_57 rfl (lv_at hl 1 rfl) ?_
        refine g_get CX HW in_X5_blast_5 0 8 rfl rfl (Nat.le_of_ble_eq_true rfl) fl_X5_blast_30 rfl dX5_blast_58 ?_
        refine g_getN (host := "PommelTowsModel") CX HW in_X5_blast_4 6 3 rfl rfl (Nat.le_of_ble_eq_true rfl) (by decide +kernel) rfl dX5_blast_61 ?_
        refine lv_iload_n hx hb dX5_blast_64 rfl (lv_at hl 2 rfl) ?_
        refine lv_iload_n hx hb dX5_blast_65 rfl (lv_at hl 0 rfl) ?_
        refine lv_iconst (v := 2) hx hb dX5_blast_66 (by decide) ?_
        refine lv_idiv hx hb dX5_blast_67 (by decide) ?_
        refine g_ast CX HW 7 (k := r) rfl rfl rfl (by omega) (Nat.le_of_ble_eq_true rfl) dX5_blast_68 (fun H locs HW => ?_)
        have HW : Hw D A s (wMo cI a o (0 : Int32) (vA S 0) (vA S 1) (vr S) (vA S 3) (vA S 4) (vs S) (vA S 7) ++ (wMS cI a (o + 6) (a o) (vh S) (vc S) (sumP S) (upd (vA S 5) r ((vA S 5 r) / (2 : Int32))) (vA S 6) (vA S 8) (vA S 9) (vA S 10) (vA S 11) (vA S 12) (vA S 2) my qu ++ (wMS cI a (o + 17) (a o) (vh T) (vc T) ri2 (vA T 5) (vA T 6) (vA T 8) (vA T 9) (vA T 10) (vA T 11) (vA T 12) (vA T 2) my2 qu2))) H locs := HW
        refine lv_iload_n hx hb dX5_blast_69 rfl (lv_at hl 0 rfl) ?_
        refine lv_iload_n hx hb dX5_blast_70 rfl (lv_at hl 0 rfl) ?_
        refine lv_iconst (v := 2) hx hb dX5_blast_71 (by decide) ?_
        refine lv_idiv hx hb dX5_blast_72 (by decide) ?_
        refine lv_isub hx hb dX5_blast_73 ?_
        have hk : kBla S (nI r) = 0 := by rw [kBla, er]; rw [if_neg (fun h9 => h9 c10), if_neg (fun h9 => h9 c38)]
        exact g_iret CX HW rfl ⟨sBla S (nI r), _, my, qu, T, ri2, my2, qu2, ⟨fun h9 => absurd hk h9, fun _ => ⟨(by rw [er]), rfl⟩⟩, hM, rfl, by rw [hk, sBla, er] <;> rfl⟩ dX5_blast_74
      · refine lv_aload_n hx hb dX5_blast_41 rfl (lv_at hl 0 rfl) ?_
        refine lv_iconst (v := 2) hx hb dX5_blast_42 (by decide) ?_
        refine g_callV CX HW hl.1 ([]) (wMS cI a (o + 6) (a o) (vh S) (vc S) (sumP S) (vA S 5) (vA S 6) (vA S 8) (vA S 9) (vA S 10) (vA S 11) (vA S 12) (vA S 2) my qu ++ (wMS cI a (o + 17) (a o) (vh T) (vc T) ri2 (vA T 5) (vA T 6) (vA T 8) (vA T 9) (vA T 10) (vA T 11) (vA T 12) (vA T 2) my2 qu2)) (c_X5_no o S (0 : Int32) (2 : Int32)) rfl 0 rfl rfl gX5_blast_X5_no rfl ⟨rfl, hd_X5_no⟩ ⟨rfl, rfl, (Nat.le_of_ble_eq_true rfl), (Nat.le_of_ble_eq_true rfl)⟩ ⟨(Nat.zero_le _), (Nat.zero_le _)⟩ rfl rfl (Nat.le_of_ble_eq_true rfl) dX5_blast_43 (fun v w1 H locs hp HW => ?_)
        obtain ⟨rfl, rfl⟩ := hp
        have HW : Hw D A s (wMo cI a o (2 : Int32) (vA S 0) (vA S 1) (vr S) (vA S 3) (vA S 4) (vs S) (vA S 7) ++ (wMS cI a (o + 6) (a o) (vh S) (vc S) (sumP S) (vA S 5) (vA S 6) (vA S 8) (vA S 9) (vA S 10) (vA S 11) (vA S 12) (vA S 2) my qu ++ (wMS cI a (o + 17) (a o) (vh T) (vc T) ri2 (vA T 5) (vA T 6) (vA T 8) (vA T 9) (vA T 10) (vA T 11) (vA T 12) (vA T 2) my2 qu2))) H locs := HW
        refine W.eq (g2 := F0 m 46 ls [.int (0 : Int32)]) rfl ?_
        have hk : kBla S (nI r) = 2 := by first | (rw [kBla]; rw [if_pos c10]) | (rw [kBla, er]; rw [if_neg (fun h9 => h9 c10), if_pos c38])
        exact g_iret CX HW rfl ⟨S, 0, my, qu, T, ri2, my2, qu2, ⟨fun _ => rfl, fun h9 => absurd (hk.symm.trans h9) (by decide)⟩, hM, rfl, by rw [hk]⟩ dX5_blast_46
  · refine lv_aload_n hx hb dX5_blast_13 rfl (lv_at hl 0 rfl) ?_
    refine lv_iconst (v := 1) hx hb dX5_blast_14 (by decide) ?_
    refine g_callV CX HW hl.1 ([]) (wMS cI a (o + 6) (a o) (vh S) (vc S) (sumP S) (vA S 5) (vA S 6) (vA S 8) (vA S 9) (vA S 10) (vA S 11) (vA S 12) (vA S 2) my qu ++ (wMS cI a (o + 17) (a o) (vh T) (vc T) ri2 (vA T 5) (vA T 6) (vA T 8) (vA T 9) (vA T 10) (vA T 11) (vA T 12) (vA T 2) my2 qu2)) (c_X5_no o S (0 : Int32) (1 : Int32)) rfl 0 rfl rfl gX5_blast_X5_no rfl ⟨rfl, hd_X5_no⟩ ⟨rfl, rfl, (Nat.le_of_ble_eq_true rfl), (Nat.le_of_ble_eq_true rfl)⟩ ⟨(Nat.zero_le _), (Nat.zero_le _)⟩ rfl rfl (Nat.le_of_ble_eq_true rfl) dX5_blast_15 (fun v w1 H locs hp HW => ?_)
    obtain ⟨rfl, rfl⟩ := hp
    have HW : Hw D A s (wMo cI a o (1 : Int32) (vA S 0) (vA S 1) (vr S) (vA S 3) (vA S 4) (vs S) (vA S 7) ++ (wMS cI a (o + 6) (a o) (vh S) (vc S) (sumP S) (vA S 5) (vA S 6) (vA S 8) (vA S 9) (vA S 10) (vA S 11) (vA S 12) (vA S 2) my qu ++ (wMS cI a (o + 17) (a o) (vh T) (vc T) ri2 (vA T 5) (vA T 6) (vA T 8) (vA T 9) (vA T 10) (vA T 11) (vA T 12) (vA T 2) my2 qu2))) H locs := HW
    refine W.eq (g2 := F0 m 18 ls [.int (0 : Int32)]) rfl ?_
    have hk : kBla S x = 1 := by first | (rw [kBla]; rw [if_pos c10]) | (rw [kBla, er]; rw [if_neg (fun h9 => h9 c10), if_pos c38])
    exact g_iret CX HW rfl ⟨S, 0, my, qu, T, ri2, my2, qu2, ⟨fun _ => rfl, fun h9 => absurd (hk.symm.trans h9) (by decide)⟩, hM, rfl, by rw [hk]⟩ dX5_blast_18

theorem hd_X5_skier : yX5_skier.cls ≠ "java/lang/invoke/MethodHandle" ∧ yX5_skier.cls ≠ "java/lang/invoke/VarHandle" ∧ (parseMethodDescriptor yX5_skier.desc).map (fun d => d.parameters.length) = some 2 := by decide +kernel
theorem fl_X5_skier_37 : Cond.fieldLink RX5 37 (TX5 0).1 (TX5 0).2.1 (TX5 0).2.2.1 ∈ wsX5_skier := by decide +kernel
theorem in_X5_skier_5 : ∀ x ∈ u_ws RX5 TX5 10, x ∈ wsX5_skier := by decide +kernel
theorem fl_X5_skier_48 : Cond.fieldLink RX5 48 (TX5 6).1 (TX5 6).2.1 (TX5 6).2.2.1 ∈ wsX5_skier := by decide +kernel
theorem fl_X5_skier_22 : Cond.fieldLink RX5 22 (TX5 7).1 (TX5 7).2.1 (TX5 7).2.2.1 ∈ wsX5_skier := by decide +kernel
theorem fl_X5_skier_30 : Cond.fieldLink RX5 30 (TX5 8).1 (TX5 8).2.1 (TX5 8).2.2.1 ∈ wsX5_skier := by decide +kernel
theorem in_X5_skier_4 : ∀ x ∈ u_ws RX4 TX4 14, x ∈ wsX5_skier := by decide +kernel
set_option maxRecDepth 100000 in
set_option maxHeartbeats 4000000 in
theorem c_X5_skier {l : Launch} {D : va_G} {cI cL : ClassId} {a : Nat → Nat} (o : Nat) (S : VS) (th : Int32) (my : Nat → Int32) (qu : Nat → Int32) (T : VS) (ri2 : Int32) (my2 : Nat → Int32) (qu2 : Nat → Int32) (z : Int32) (y : Int32) (hI : Inv S) (hM : RepM (vq S) my qu) (hQ : Qk (vs S) (vq S)) (hU : QU (vq S)) (hh : vh S + 100 < 2 ^ 31) : Ct l yX5_skier wsX5_skier { frames := 1, cells := 0, slots := 0, locals := 22 } D (ty2 cI cL) [.ref (a o), .int z, .int y] (wMo cI a o th (vA S 0) (vA S 1) (vr S) (vA S 3) (vA S 4) (vs S) (vA S 7) ++ (wMS cI a (o + 6) (a o) (vh S) (vc S) (sumP S) (vA S 5) (vA S 6) (vA S 8) (vA S 9) (vA S 10) (vA S 11) (vA S 12) (vA S 2) my qu ++ (wMS cI a (o + 17) (a o) (vh T) (vc T) ri2 (vA T 5) (vA T 6) (vA T 8) (vA T 9) (vA T 10) (vA T 11) (vA T 12) (vA T 2) my2 qu2))) (fun v w' => ∃ (Z : VS) (r : Int32) (my' qu' : Nat → Int32) (T' : VS) (ri2' : Int32) (my2' qu2' : Nat → Int32), MOK (kSki S z y) (nI (vs S)) S (sSki S z y) Z r ∧ RepM (vq Z) my' qu' ∧ v = some (.int r) ∧ w' = wMo cI a o (kSki S z y) (vA Z 0) (vA Z 1) (vr Z) (vA Z 3) (vA Z 4) (vs Z) (vA Z 7) ++ (wMS cI a (o + 6) (a o) (vh Z) (vc Z) (sumP Z) (vA Z 5) (vA Z 6) (vA Z 8) (vA Z 9) (vA Z 10) (vA Z 11) (vA Z 12) (vA Z 2) my' qu' ++ (wMS cI a (o + 17) (a o) (vh T') (vc T') ri2' (vA T' 5) (vA T' 6) (vA T' 8) (vA T' 9) (vA T' 10) (vA T' 11) (vA T' 12) (vA T' 2) my2' qu2'))) 0 0 := by
  refine Ct.of (cc := cX5_skier) (maxL := 3) (ret := (some .int)) (by decide) rfl (Nat.le_of_ble_eq_true rfl) ?_
  intro p e s m below meth c A ls CX hin HW hl
  obtain ⟨hx, hb, hml, hr, hown, hts, hK, hA, hlk⟩ := id CX
  have hl : lv_has ls 3 [(0, .ref (a o)), (1, .int z), (2, .int y)] := hl
  have hn6 := hI.1
  have hn8 := hI.2.1
  refine lv_aload_n hx hb dX5_skier_0 rfl (lv_at hl 0 rfl) ?_
  refine lv_iconst (v := 0) hx hb dX5_skier_1 (by decide) ?_
  refine g_put CX HW in_X5_skier_5 tyX5 tyX5_ok nmX5 0 0 rfl rfl (Nat.le_of_ble_eq_true rfl) fl_X5_skier_37 rfl rfl rfl (Nat.le_of_ble_eq_true rfl) dX5_skier_2 (fun H locs HW => ?_)
  have HW : Hw D A s (wMo cI a o (0 : Int32) (vA S 0) (vA S 1) (vr S) (vA S 3) (vA S 4) (vs S) (vA S 7) ++ (wMS cI a (o + 6) (a o) (vh S) (vc S) (sumP S) (vA S 5) (vA S 6) (vA S 8) (vA S 9) (vA S 10) (vA S 11) (vA S 12) (vA S 2) my qu ++ (wMS cI a (o + 17) (a o) (vh T) (vc T) ri2 (vA T 5) (vA T 6) (vA T 8) (vA T 9) (vA T 10) (vA T 11) (vA T 12) (vA T 2) my2 qu2))) H locs := HW
  refine lv_iload_n hx hb dX5_skier_5 rfl (lv_at hl 1 rfl) ?_
  refine lv_iconst (v := 1) hx hb dX5_skier_6 (by decide) ?_
  refine lv_bipush (v := 9) hx hb dX5_skier_7 (by decide) ?_
  refine g_callS CX HW hl.1 ([]) (wMo cI a o (0 : Int32) (vA S 0) (vA S 1) (vr S) (vA S 3) (vA S 4) (vs S) (vA S 7) ++ (wMS cI a (o + 6) (a o) (vh S) (vc S) (sumP S) (vA S 5) (vA S 6) (vA S 8) (vA S 9) (vA S 10) (vA S 11) (vA S 12) (vA S 2) my qu ++ (wMS cI a (o + 17) (a o) (vh T) (vc T) ri2 (vA T 5) (vA T 6) (vA T 8) (vA T 9) (vA T 10) (vA T 11) (vA T 12) (vA T 2) my2 qu2))) (c_X5_isIn z (1 : Int32) (9 : Int32)) rfl gX5_skier_X5_isIn rfl hd_X5_isIn ⟨rfl, rfl, (Nat.le_of_ble_eq_true rfl), (Nat.le_of_ble_eq_true rfl)⟩ ⟨(Nat.zero_le _), (Nat.zero_le _)⟩ rfl rfl (Nat.le_of_ble_eq_true rfl) dX5_skier_9 (fun v w1 H locs hp HW => ?_)
  obtain ⟨rfl, rfl⟩ := hp
  have HW : Hw D A s (wMo cI a o (0 : Int32) (vA S 0) (vA S 1) (vr S) (vA S 3) (vA S 4) (vs S) (vA S 7) ++ (wMS cI a (o + 6) (a o) (vh S) (vc S) (sumP S) (vA S 5) (vA S 6) (vA S 8) (vA S 9) (vA S 10) (vA S 11) (vA S 12) (vA S 2) my qu ++ (wMS cI a (o + 17) (a o) (vh T) (vc T) ri2 (vA T 5) (vA T 6) (vA T 8) (vA T 9) (vA T 10) (vA T 11) (vA T 12) (vA T 2) my2 qu2))) H locs := HW
  refine W.eq (g2 := F0 m 12 ls [.int (bI ((1 : Int32) ≤ z ∧ z ≤ (9 : Int32)))]) rfl ?_
  refine g_ifeq_b (tgt := 25) hx hb dX5_skier_12 (by decide) (fun c12 => ?_) (fun c12 => ?_)
  · refine lv_aload_n hx hb dX5_skier_25 rfl (lv_at hl 0 rfl) ?_
    refine lv_iconst (v := 1) hx hb dX5_skier_26 (by decide) ?_
    refine g_callV CX HW hl.1 ([]) (wMS cI a (o + 6) (a o) (vh S) (vc S) (sumP S) (vA S 5) (vA S 6) (vA S 8) (vA S 9) (vA S 10) (vA S 11) (vA S 12) (vA S 2) my qu ++ (wMS cI a (o + 17) (a o) (vh T) (vc T) ri2 (vA T 5) (vA T 6) (vA T 8) (vA T 9) (vA T 10) (vA T 11) (vA T 12) (vA T 2) my2 qu2)) (c_X5_no o S (0 : Int32) (1 : Int32)) rfl 0 rfl rfl gX5_skier_X5_no rfl ⟨rfl, hd_X5_no⟩ ⟨rfl, rfl, (Nat.le_of_ble_eq_true rfl), (Nat.le_of_ble_eq_true rfl)⟩ ⟨(Nat.zero_le _), (Nat.zero_le _)⟩ rfl rfl (Nat.le_of_ble_eq_true rfl) dX5_skier_27 (fun v w1 H locs hp HW => ?_)
    obtain ⟨rfl, rfl⟩ := hp
    have HW : Hw D A s (wMo cI a o (1 : Int32) (vA S 0) (vA S 1) (vr S) (vA S 3) (vA S 4) (vs S) (vA S 7) ++ (wMS cI a (o + 6) (a o) (vh S) (vc S) (sumP S) (vA S 5) (vA S 6) (vA S 8) (vA S 9) (vA S 10) (vA S 11) (vA S 12) (vA S 2) my qu ++ (wMS cI a (o + 17) (a o) (vh T) (vc T) ri2 (vA T 5) (vA T 6) (vA T 8) (vA T 9) (vA T 10) (vA T 11) (vA T 12) (vA T 2) my2 qu2))) H locs := HW
    refine W.eq (g2 := F0 m 30 ls [.int (0 : Int32)]) rfl ?_
    have hk : kSki S z y = 1 := by first | (rw [kSki]; rw [if_pos c12]) | (rw [kSki]; rw [if_neg (fun h9 => h9 c12), if_pos c22]) | (rw [kSki]; rw [if_neg (fun h9 => h9 c12), if_neg (fun h9 => h9 c22), if_pos c37])
    exact g_iret CX HW rfl ⟨S, 0, my, qu, T, ri2, my2, qu2, ⟨fun _ => rfl, fun h9 => absurd (hk.symm.trans h9) (by decide)⟩, hM, rfl, by rw [hk]⟩ dX5_skier_30
  · refine lv_iload_n hx hb dX5_skier_15 rfl (lv_at hl 2 rfl) ?_
    refine lv_iconst (v := 0) hx hb dX5_skier_16 (by decide) ?_
    refine lv_bipush (v := 60) hx hb dX5_skier_17 (by decide) ?_
    refine g_callS CX HW hl.1 ([]) (wMo cI a o (0 : Int32) (vA S 0) (vA S 1) (vr S) (vA S 3) (vA S 4) (vs S) (vA S 7) ++ (wMS cI a (o + 6) (a o) (vh S) (vc S) (sumP S) (vA S 5) (vA S 6) (vA S 8) (vA S 9) (vA S 10) (vA S 11) (vA S 12) (vA S 2) my qu ++ (wMS cI a (o + 17) (a o) (vh T) (vc T) ri2 (vA T 5) (vA T 6) (vA T 8) (vA T 9) (vA T 10) (vA T 11) (vA T 12) (vA T 2) my2 qu2))) (c_X5_isIn y (0 : Int32) (60 : Int32)) rfl gX5_skier_X5_isIn rfl hd_X5_isIn ⟨rfl, rfl, (Nat.le_of_ble_eq_true rfl), (Nat.le_of_ble_eq_true rfl)⟩ ⟨(Nat.zero_le _), (Nat.zero_le _)⟩ rfl rfl (Nat.le_of_ble_eq_true rfl) dX5_skier_19 (fun v w1 H locs hp HW => ?_)
    obtain ⟨rfl, rfl⟩ := hp
    have HW : Hw D A s (wMo cI a o (0 : Int32) (vA S 0) (vA S 1) (vr S) (vA S 3) (vA S 4) (vs S) (vA S 7) ++ (wMS cI a (o + 6) (a o) (vh S) (vc S) (sumP S) (vA S 5) (vA S 6) (vA S 8) (vA S 9) (vA S 10) (vA S 11) (vA S 12) (vA S 2) my qu ++ (wMS cI a (o + 17) (a o) (vh T) (vc T) ri2 (vA T 5) (vA T 6) (vA T 8) (vA T 9) (vA T 10) (vA T 11) (vA T 12) (vA T 2) my2 qu2))) H locs := HW
    refine W.eq (g2 := F0 m 22 ls [.int (bI ((0 : Int32) ≤ y ∧ y ≤ (60 : Int32)))]) rfl ?_
    refine g_ifne_b (tgt := 31) hx hb dX5_skier_22 (by decide) (fun c22 => ?_) (fun c22 => ?_)
    · refine lv_aload_n hx hb dX5_skier_31 rfl (lv_at hl 0 rfl) ?_
      refine g_get CX HW in_X5_skier_5 0 6 rfl rfl (Nat.le_of_ble_eq_true rfl) fl_X5_skier_48 rfl dX5_skier_32 ?_
      refine lv_bipush (v := 8) hx hb dX5_skier_35 (by decide) ?_
      refine lv_icmp_ne (tgt := 46) hx hb dX5_skier_37 (by decide) (fun c37 => ?_) (fun c37 => ?_)
      · have hs8 : vs S < 8 := by
          rcases Nat.lt_or_ge (vs S) 8 with h9 | h9
          · exact h9
          · exact absurd (by rw [show vs S = 8 by omega]; rfl) c37
        have c37 : ¬ 8 ≤ nI (vs S) := fun h9 => absurd ((nI_leI (a := 8) (b := vs S) (by decide) (by omega)).mp h9) (by omega)
        refine lv_aload_n hx hb dX5_skier_46 rfl (lv_at hl 0 rfl) ?_
        refine g_get CX HW in_X5_skier_5 0 7 rfl rfl (Nat.le_of_ble_eq_true rfl) fl_X5_skier_22 rfl dX5_skier_47 ?_
        refine lv_aload_n hx hb dX5_skier_50 rfl (lv_at hl 0 rfl) ?_
        refine g_get CX HW in_X5_skier_5 0 6 rfl rfl (Nat.le_of_ble_eq_true rfl) fl_X5_skier_48 rfl dX5_skier_51 ?_
        refine lv_iload_n hx hb dX5_skier_54 rfl (lv_at hl 1 rfl) ?_
        refine g_ast CX HW 5 (k := (vs S)) rfl rfl rfl (by omega) (Nat.le_of_ble_eq_true rfl) dX5_skier_55 (fun H locs HW => ?_)
        have HW : Hw D A s (wMo cI a o (0 : Int32) (vA S 0) (vA S 1) (vr S) (vA S 3) (vA S 4) (vs S) (upd (vA S 7) (vs S) z) ++ (wMS cI a (o + 6) (a o) (vh S) (vc S) (sumP S) (vA S 5) (vA S 6) (vA S 8) (vA S 9) (vA S 10) (vA S 11) (vA S 12) (vA S 2) my qu ++ (wMS cI a (o + 17) (a o) (vh T) (vc T) ri2 (vA T 5) (vA T 6) (vA T 8) (vA T 9) (vA T 10) (vA T 11) (vA T 12) (vA T 2) my2 qu2))) H locs := HW
        refine lv_aload_n hx hb dX5_skier_56 rfl (lv_at hl 0 rfl) ?_
        refine g_get CX HW in_X5_skier_5 0 8 rfl rfl (Nat.le_of_ble_eq_true rfl) fl_X5_skier_30 rfl dX5_skier_57 ?_
        refine g_getN (host := "PommelTowsModel") CX HW in_X5_skier_4 6 5 rfl rfl (Nat.le_of_ble_eq_true rfl) (by decide +kernel) rfl dX5_skier_60 ?_
        refine lv_aload_n hx hb dX5_skier_63 rfl (lv_at hl 0 rfl) ?_
        refine g_get CX HW in_X5_skier_5 0 6 rfl rfl (Nat.le_of_ble_eq_true rfl) fl_X5_skier_48 rfl dX5_skier_64 ?_
        refine lv_iload_n hx hb dX5_skier_67 rfl (lv_at hl 2 rfl) ?_
        refine g_ast CX HW 9 (k := (vs S)) rfl rfl rfl (by omega) (Nat.le_of_ble_eq_true rfl) dX5_skier_68 (fun H locs HW => ?_)
        have HW : Hw D A s (wMo cI a o (0 : Int32) (vA S 0) (vA S 1) (vr S) (vA S 3) (vA S 4) (vs S) (upd (vA S 7) (vs S) z) ++ (wMS cI a (o + 6) (a o) (vh S) (vc S) (sumP S) (vA S 5) (vA S 6) (upd (vA S 8) (vs S) y) (vA S 9) (vA S 10) (vA S 11) (vA S 12) (vA S 2) my qu ++ (wMS cI a (o + 17) (a o) (vh T) (vc T) ri2 (vA T 5) (vA T 6) (vA T 8) (vA T 9) (vA T 10) (vA T 11) (vA T 12) (vA T 2) my2 qu2))) H locs := HW
        refine lv_aload_n hx hb dX5_skier_69 rfl (lv_at hl 0 rfl) ?_
        refine lv_dup hx hb dX5_skier_70 rfl ?_
        refine g_get CX HW in_X5_skier_5 0 6 rfl rfl (Nat.le_of_ble_eq_true rfl) fl_X5_skier_48 rfl dX5_skier_71 ?_
        refine lv_iconst (v := 1) hx hb dX5_skier_74 (by decide) ?_
        refine lv_iadd hx hb dX5_skier_75 ?_
        refine g_top (y := (nI (vs S + 1))) (nI_1 _) ?_
        refine g_put CX HW in_X5_skier_5 tyX5 tyX5_ok nmX5 0 6 rfl rfl (Nat.le_of_ble_eq_true rfl) fl_X5_skier_48 rfl rfl rfl (Nat.le_of_ble_eq_true rfl) dX5_skier_76 (fun H locs HW => ?_)
        have HW : Hw D A s (wMo cI a o (0 : Int32) (vA S 0) (vA S 1) (vr S) (vA S 3) (vA S 4) (vs S + 1) (upd (vA S 7) (vs S) z) ++ (wMS cI a (o + 6) (a o) (vh S) (vc S) (sumP S) (vA S 5) (vA S 6) (upd (vA S 8) (vs S) y) (vA S 9) (vA S 10) (vA S 11) (vA S 12) (vA S 2) my qu ++ (wMS cI a (o + 17) (a o) (vh T) (vc T) ri2 (vA T 5) (vA T 6) (vA T 8) (vA T 9) (vA T 10) (vA T 11) (vA T 12) (vA T 2) my2 qu2))) H locs := HW
        refine lv_aload_n hx hb dX5_skier_79 rfl (lv_at hl 0 rfl) ?_
        refine g_get CX HW in_X5_skier_5 0 6 rfl rfl (Nat.le_of_ble_eq_true rfl) fl_X5_skier_48 rfl dX5_skier_80 ?_
        refine lv_iconst (v := 1) hx hb dX5_skier_83 (by decide) ?_
        refine lv_isub hx hb dX5_skier_84 ?_
        refine g_top (y := (nI (vs S))) (pk_sub (a := vs S + 1) (b := 1) (by omega)) ?_
        have hk : kSki S z y = 0 := by rw [kSki]; rw [if_neg (fun h9 => h9 c12), if_neg (fun h9 => h9 c22), if_neg c37]
        exact g_iret CX HW rfl ⟨sSki S z y, _, my, qu, T, ri2, my2, qu2, ⟨fun h9 => absurd hk h9, fun _ => ⟨rfl, rfl⟩⟩, hM, rfl, by rw [hk] <;> rfl⟩ dX5_skier_85
      · have c37 : 8 ≤ nI (vs S) := by rw [c37]; decide
        refine lv_aload_n hx hb dX5_skier_40 rfl (lv_at hl 0 rfl) ?_
        refine lv_iconst (v := 2) hx hb dX5_skier_41 (by decide) ?_
        refine g_callV CX HW hl.1 ([]) (wMS cI a (o + 6) (a o) (vh S) (vc S) (sumP S) (vA S 5) (vA S 6) (vA S 8) (vA S 9) (vA S 10) (vA S 11) (vA S 12) (vA S 2) my qu ++ (wMS cI a (o + 17) (a o) (vh T) (vc T) ri2 (vA T 5) (vA T 6) (vA T 8) (vA T 9) (vA T 10) (vA T 11) (vA T 12) (vA T 2) my2 qu2)) (c_X5_no o S (0 : Int32) (2 : Int32)) rfl 0 rfl rfl gX5_skier_X5_no rfl ⟨rfl, hd_X5_no⟩ ⟨rfl, rfl, (Nat.le_of_ble_eq_true rfl), (Nat.le_of_ble_eq_true rfl)⟩ ⟨(Nat.zero_le _), (Nat.zero_le _)⟩ rfl rfl (Nat.le_of_ble_eq_true rfl) dX5_skier_42 (fun v w1 H locs hp HW => ?_)
        obtain ⟨rfl, rfl⟩ := hp
        have HW : Hw D A s (wMo cI a o (2 : Int32) (vA S 0) (vA S 1) (vr S) (vA S 3) (vA S 4) (vs S) (vA S 7) ++ (wMS cI a (o + 6) (a o) (vh S) (vc S) (sumP S) (vA S 5) (vA S 6) (vA S 8) (vA S 9) (vA S 10) (vA S 11) (vA S 12) (vA S 2) my qu ++ (wMS cI a (o + 17) (a o) (vh T) (vc T) ri2 (vA T 5) (vA T 6) (vA T 8) (vA T 9) (vA T 10) (vA T 11) (vA T 12) (vA T 2) my2 qu2))) H locs := HW
        refine W.eq (g2 := F0 m 45 ls [.int (0 : Int32)]) rfl ?_
        have hk : kSki S z y = 2 := by first | (rw [kSki]; rw [if_pos c12]) | (rw [kSki]; rw [if_neg (fun h9 => h9 c12), if_pos c22]) | (rw [kSki]; rw [if_neg (fun h9 => h9 c12), if_neg (fun h9 => h9 c22), if_pos c37])
        exact g_iret CX HW rfl ⟨S, 0, my, qu, T, ri2, my2, qu2, ⟨fun _ => rfl, fun h9 => absurd (hk.symm.trans h9) (by decide)⟩, hM, rfl, by rw [hk]⟩ dX5_skier_45
    · refine lv_aload_n hx hb dX5_skier_25 rfl (lv_at hl 0 rfl) ?_
      refine lv_iconst (v := 1) hx hb dX5_skier_26 (by decide) ?_
      refine g_callV CX HW hl.1 ([]) (wMS cI a (o + 6) (a o) (vh S) (vc S) (sumP S) (vA S 5) (vA S 6) (vA S 8) (vA S 9) (vA S 10) (vA S 11) (vA S 12) (vA S 2) my qu ++ (wMS cI a (o + 17) (a o) (vh T) (vc T) ri2 (vA T 5) (vA T 6) (vA T 8) (vA T 9) (vA T 10) (vA T 11) (vA T 12) (vA T 2) my2 qu2)) (c_X5_no o S (0 : Int32) (1 : Int32)) rfl 0 rfl rfl gX5_skier_X5_no rfl ⟨rfl, hd_X5_no⟩ ⟨rfl, rfl, (Nat.le_of_ble_eq_true rfl), (Nat.le_of_ble_eq_true rfl)⟩ ⟨(Nat.zero_le _), (Nat.zero_le _)⟩ rfl rfl (Nat.le_of_ble_eq_true rfl) dX5_skier_27 (fun v w1 H locs hp HW => ?_)
      obtain ⟨rfl, rfl⟩ := hp
      have HW : Hw D A s (wMo cI a o (1 : Int32) (vA S 0) (vA S 1) (vr S) (vA S 3) (vA S 4) (vs S) (vA S 7) ++ (wMS cI a (o + 6) (a o) (vh S) (vc S) (sumP S) (vA S 5) (vA S 6) (vA S 8) (vA S 9) (vA S 10) (vA S 11) (vA S 12) (vA S 2) my qu ++ (wMS cI a (o + 17) (a o) (vh T) (vc T) ri2 (vA T 5) (vA T 6) (vA T 8) (vA T 9) (vA T 10) (vA T 11) (vA T 12) (vA T 2) my2 qu2))) H locs := HW
      refine W.eq (g2 := F0 m 30 ls [.int (0 : Int32)]) rfl ?_
      have hk : kSki S z y = 1 := by first | (rw [kSki]; rw [if_pos c12]) | (rw [kSki]; rw [if_neg (fun h9 => h9 c12), if_pos c22]) | (rw [kSki]; rw [if_neg (fun h9 => h9 c12), if_neg (fun h9 => h9 c22), if_pos c37])
      exact g_iret CX HW rfl ⟨S, 0, my, qu, T, ri2, my2, qu2, ⟨fun _ => rfl, fun h9 => absurd (hk.symm.trans h9) (by decide)⟩, hM, rfl, by rw [hk]⟩ dX5_skier_30

theorem hd_X5_wax : yX5_wax.cls ≠ "java/lang/invoke/MethodHandle" ∧ yX5_wax.cls ≠ "java/lang/invoke/VarHandle" ∧ (parseMethodDescriptor yX5_wax.desc).map (fun d => d.parameters.length) = some 2 := by decide +kernel
theorem fl_X5_wax_37 : Cond.fieldLink RX5 37 (TX5 0).1 (TX5 0).2.1 (TX5 0).2.2.1 ∈ wsX5_wax := by decide +kernel
theorem in_X5_wax_5 : ∀ x ∈ u_ws RX5 TX5 10, x ∈ wsX5_wax := by decide +kernel
theorem fl_X5_wax_30 : Cond.fieldLink RX5 30 (TX5 8).1 (TX5 8).2.1 (TX5 8).2.2.1 ∈ wsX5_wax := by decide +kernel
theorem in_X5_wax_4 : ∀ x ∈ u_ws RX4 TX4 14, x ∈ wsX5_wax := by decide +kernel
set_option maxRecDepth 100000 in
set_option maxHeartbeats 4000000 in
theorem c_X5_wax {l : Launch} {D : va_G} {cI cL : ClassId} {a : Nat → Nat} (o : Nat) (S : VS) (th : Int32) (my : Nat → Int32) (qu : Nat → Int32) (T : VS) (ri2 : Int32) (my2 : Nat → Int32) (qu2 : Nat → Int32) (x : Int32) (z : Int32) (hI : Inv S) (hM : RepM (vq S) my qu) (hQ : Qk (vs S) (vq S)) (hU : QU (vq S)) (hh : vh S + 100 < 2 ^ 31) : Ct l yX5_wax wsX5_wax { frames := 2, cells := 0, slots := 0, locals := 43 } D (ty2 cI cL) [.ref (a o), .int x, .int z] (wMo cI a o th (vA S 0) (vA S 1) (vr S) (vA S 3) (vA S 4) (vs S) (vA S 7) ++ (wMS cI a (o + 6) (a o) (vh S) (vc S) (sumP S) (vA S 5) (vA S 6) (vA S 8) (vA S 9) (vA S 10) (vA S 11) (vA S 12) (vA S 2) my qu ++ (wMS cI a (o + 17) (a o) (vh T) (vc T) ri2 (vA T 5) (vA T 6) (vA T 8) (vA T 9) (vA T 10) (vA T 11) (vA T 12) (vA T 2) my2 qu2))) (fun v w' => ∃ (Z : VS) (r : Int32) (my' qu' : Nat → Int32) (T' : VS) (ri2' : Int32) (my2' qu2' : Nat → Int32), MOK (kWax S x z) (vA S 8 (natI x) - 2) S (sWax S x z) Z r ∧ RepM (vq Z) my' qu' ∧ v = some (.int r) ∧ w' = wMo cI a o (kWax S x z) (vA Z 0) (vA Z 1) (vr Z) (vA Z 3) (vA Z 4) (vs Z) (vA Z 7) ++ (wMS cI a (o + 6) (a o) (vh Z) (vc Z) (sumP Z) (vA Z 5) (vA Z 6) (vA Z 8) (vA Z 9) (vA Z 10) (vA Z 11) (vA Z 12) (vA Z 2) my' qu' ++ (wMS cI a (o + 17) (a o) (vh T') (vc T') ri2' (vA T' 5) (vA T' 6) (vA T' 8) (vA T' 9) (vA T' 10) (vA T' 11) (vA T' 12) (vA T' 2) my2' qu2'))) 0 0 := by
  refine Ct.of (cc := cX5_wax) (maxL := 3) (ret := (some .int)) (by decide) rfl (Nat.le_of_ble_eq_true rfl) ?_
  intro p e s m below meth c A ls CX hin HW hl
  obtain ⟨hx, hb, hml, hr, hown, hts, hK, hA, hlk⟩ := id CX
  have hl : lv_has ls 3 [(0, .ref (a o)), (1, .int x), (2, .int z)] := hl
  have hn6 := hI.1
  have hn8 := hI.2.1
  refine lv_aload_n hx hb dX5_wax_0 rfl (lv_at hl 0 rfl) ?_
  refine lv_iconst (v := 0) hx hb dX5_wax_1 (by decide) ?_
  refine g_put CX HW in_X5_wax_5 tyX5 tyX5_ok nmX5 0 0 rfl rfl (Nat.le_of_ble_eq_true rfl) fl_X5_wax_37 rfl rfl rfl (Nat.le_of_ble_eq_true rfl) dX5_wax_2 (fun H locs HW => ?_)
  have HW : Hw D A s (wMo cI a o (0 : Int32) (vA S 0) (vA S 1) (vr S) (vA S 3) (vA S 4) (vs S) (vA S 7) ++ (wMS cI a (o + 6) (a o) (vh S) (vc S) (sumP S) (vA S 5) (vA S 6) (vA S 8) (vA S 9) (vA S 10) (vA S 11) (vA S 12) (vA S 2) my qu ++ (wMS cI a (o + 17) (a o) (vh T) (vc T) ri2 (vA T 5) (vA T 6) (vA T 8) (vA T 9) (vA T 10) (vA T 11) (vA T 12) (vA T 2) my2 qu2))) H locs := HW
  refine lv_aload_n hx hb dX5_wax_5 rfl (lv_at hl 0 rfl) ?_
  refine lv_iload_n hx hb dX5_wax_6 rfl (lv_at hl 1 rfl) ?_
  refine g_callV CX HW hl.1 ([]) (wMS cI a (o + 6) (a o) (vh S) (vc S) (sumP S) (vA S 5) (vA S 6) (vA S 8) (vA S 9) (vA S 10) (vA S 11) (vA S 12) (vA S 2) my qu ++ (wMS cI a (o + 17) (a o) (vh T) (vc T) ri2 (vA T 5) (vA T 6) (vA T 8) (vA T 9) (vA T 10) (vA T 11) (vA T 12) (vA T 2) my2 qu2)) (c_X5_isSkier o S (0 : Int32) x (by omega)) rfl 0 rfl rfl gX5_wax_X5_isSkier rfl ⟨rfl, hd_X5_isSkier⟩ ⟨rfl, rfl, (Nat.le_of_ble_eq_true rfl), (Nat.le_of_ble_eq_true rfl)⟩ ⟨(Nat.zero_le _), (Nat.zero_le _)⟩ rfl rfl (Nat.le_of_ble_eq_true rfl) dX5_wax_7 (fun v w1 H locs hp HW => ?_)
  obtain ⟨rfl, rfl⟩ := hp
  have HW : Hw D A s (wMo cI a o (0 : Int32) (vA S 0) (vA S 1) (vr S) (vA S 3) (vA S 4) (vs S) (vA S 7) ++ (wMS cI a (o + 6) (a o) (vh S) (vc S) (sumP S) (vA S 5) (vA S 6) (vA S 8) (vA S 9) (vA S 10) (vA S 11) (vA S 12) (vA S 2) my qu ++ (wMS cI a (o + 17) (a o) (vh T) (vc T) ri2 (vA T 5) (vA T 6) (vA T 8) (vA T 9) (vA T 10) (vA T 11) (vA T 12) (vA T 2) my2 qu2))) H locs := HW
  refine W.eq (g2 := F0 m 10 ls [.int (bI ((0 : Int32) ≤ x ∧ x < nI (vs S)))]) rfl ?_
  refine g_ifne_b (tgt := 19) hx hb dX5_wax_10 (by decide) (fun c10 => ?_) (fun c10 => ?_)
  · refine lv_iload_n hx hb dX5_wax_19 rfl (lv_at hl 2 rfl) ?_
    refine lv_iconst (v := 0) hx hb dX5_wax_20 (by decide) ?_
    refine lv_iconst (v := 3) hx hb dX5_wax_21 (by decide) ?_
    refine g_callS CX HW hl.1 ([]) (wMo cI a o (0 : Int32) (vA S 0) (vA S 1) (vr S) (vA S 3) (vA S 4) (vs S) (vA S 7) ++ (wMS cI a (o + 6) (a o) (vh S) (vc S) (sumP S) (vA S 5) (vA S 6) (vA S 8) (vA S 9) (vA S 10) (vA S 11) (vA S 12) (vA S 2) my qu ++ (wMS cI a (o + 17) (a o) (vh T) (vc T) ri2 (vA T 5) (vA T 6) (vA T 8) (vA T 9) (vA T 10) (vA T 11) (vA T 12) (vA T 2) my2 qu2))) (c_X5_isIn z (0 : Int32) (3 : Int32)) rfl gX5_wax_X5_isIn rfl hd_X5_isIn ⟨rfl, rfl, (Nat.le_of_ble_eq_true rfl), (Nat.le_of_ble_eq_true rfl)⟩ ⟨(Nat.zero_le _), (Nat.zero_le _)⟩ rfl rfl (Nat.le_of_ble_eq_true rfl) dX5_wax_22 (fun v w1 H locs hp HW => ?_)
    obtain ⟨rfl, rfl⟩ := hp
    have HW : Hw D A s (wMo cI a o (0 : Int32) (vA S 0) (vA S 1) (vr S) (vA S 3) (vA S 4) (vs S) (vA S 7) ++ (wMS cI a (o + 6) (a o) (vh S) (vc S) (sumP S) (vA S 5) (vA S 6) (vA S 8) (vA S 9) (vA S 10) (vA S 11) (vA S 12) (vA S 2) my qu ++ (wMS cI a (o + 17) (a o) (vh T) (vc T) ri2 (vA T 5) (vA T 6) (vA T 8) (vA T 9) (vA T 10) (vA T 11) (vA T 12) (vA T 2) my2 qu2))) H locs := HW
    refine W.eq (g2 := F0 m 25 ls [.int (bI ((0 : Int32) ≤ z ∧ z ≤ (3 : Int32)))]) rfl ?_
    refine g_ifne_b (tgt := 34) hx hb dX5_wax_25 (by decide) (fun c25 => ?_) (fun c25 => ?_)
    · obtain ⟨k, hk, rfl⟩ := has_nat (by omega) c10
      have ek : natI (nI k) = k := natI_nI (by omega)
      · refine lv_aload_n hx hb dX5_wax_34 rfl (lv_at hl 0 rfl) ?_
        refine g_get CX HW in_X5_wax_5 0 8 rfl rfl (Nat.le_of_ble_eq_true rfl) fl_X5_wax_30 rfl dX5_wax_35 ?_
        refine g_getN (host := "PommelTowsModel") CX HW in_X5_wax_4 6 5 rfl rfl (Nat.le_of_ble_eq_true rfl) (by decide +kernel) rfl dX5_wax_38 ?_
        refine lv_iload_n hx hb dX5_wax_41 rfl (lv_at hl 1 rfl) ?_
        refine g_ald CX HW 9 (k := k) rfl rfl rfl (by omega) (Nat.le_of_ble_eq_true rfl) dX5_wax_42 ?_
        refine lv_iconst (v := 2) hx hb dX5_wax_43 (by decide) ?_
        refine lv_icmp_ge (tgt := 53) hx hb dX5_wax_44 (by decide) (fun c44 => ?_) (fun c44 => ?_)
        · refine lv_aload_n hx hb dX5_wax_53 rfl (lv_at hl 0 rfl) ?_
          refine g_get CX HW in_X5_wax_5 0 8 rfl rfl (Nat.le_of_ble_eq_true rfl) fl_X5_wax_30 rfl dX5_wax_54 ?_
          refine g_getN (host := "PommelTowsModel") CX HW in_X5_wax_4 6 5 rfl rfl (Nat.le_of_ble_eq_true rfl) (by decide +kernel) rfl dX5_wax_57 ?_
          refine lv_iload_n hx hb dX5_wax_60 rfl (lv_at hl 1 rfl) ?_
          refine lv_dup2_11 hx hb dX5_wax_61 rfl rfl ?_
          refine g_ald CX HW 9 (k := k) rfl rfl rfl (by omega) (Nat.le_of_ble_eq_true rfl) dX5_wax_62 ?_
          refine lv_iconst (v := 2) hx hb dX5_wax_63 (by decide) ?_
          refine lv_isub hx hb dX5_wax_64 ?_
          refine g_ast CX HW 9 (k := k) rfl rfl rfl (by omega) (Nat.le_of_ble_eq_true rfl) dX5_wax_65 (fun H locs HW => ?_)
          have HW : Hw D A s (wMo cI a o (0 : Int32) (vA S 0) (vA S 1) (vr S) (vA S 3) (vA S 4) (vs S) (vA S 7) ++ (wMS cI a (o + 6) (a o) (vh S) (vc S) (sumP S) (vA S 5) (vA S 6) (upd (vA S 8) k ((vA S 8 k) - (2 : Int32))) (vA S 9) (vA S 10) (vA S 11) (vA S 12) (vA S 2) my qu ++ (wMS cI a (o + 17) (a o) (vh T) (vc T) ri2 (vA T 5) (vA T 6) (vA T 8) (vA T 9) (vA T 10) (vA T 11) (vA T 12) (vA T 2) my2 qu2))) H locs := HW
          refine lv_aload_n hx hb dX5_wax_66 rfl (lv_at hl 0 rfl) ?_
          refine g_get CX HW in_X5_wax_5 0 8 rfl rfl (Nat.le_of_ble_eq_true rfl) fl_X5_wax_30 rfl dX5_wax_67 ?_
          refine lv_dup hx hb dX5_wax_70 rfl ?_
          refine g_getN (host := "PommelTowsModel") CX HW in_X5_wax_4 6 1 rfl rfl (Nat.le_of_ble_eq_true rfl) (by decide +kernel) rfl dX5_wax_71 ?_
          refine lv_iconst (v := 2) hx hb dX5_wax_74 (by decide) ?_
          refine lv_iadd hx hb dX5_wax_75 ?_
          refine g_putN (host := "PommelTowsModel") CX HW in_X5_wax_4 tyX4 tyX4_ok nmX4 6 1 rfl rfl (Nat.le_of_ble_eq_true rfl) (by decide +kernel) rfl rfl rfl (Nat.le_of_ble_eq_true rfl) dX5_wax_76 (fun H locs HW => ?_)
          have HW : Hw D A s (wMo cI a o (0 : Int32) (vA S 0) (vA S 1) (vr S) (vA S 3) (vA S 4) (vs S) (vA S 7) ++ (wMS cI a (o + 6) (a o) (vh S) (vc S + (2 : Int32)) (sumP S) (vA S 5) (vA S 6) (upd (vA S 8) k ((vA S 8 k) - (2 : Int32))) (vA S 9) (vA S 10) (vA S 11) (vA S 12) (vA S 2) my qu ++ (wMS cI a (o + 17) (a o) (vh T) (vc T) ri2 (vA T 5) (vA T 6) (vA T 8) (vA T 9) (vA T 10) (vA T 11) (vA T 12) (vA T 2) my2 qu2))) H locs := HW
          refine lv_aload_n hx hb dX5_wax_79 rfl (lv_at hl 0 rfl) ?_
          refine g_get CX HW in_X5_wax_5 0 8 rfl rfl (Nat.le_of_ble_eq_true rfl) fl_X5_wax_30 rfl dX5_wax_80 ?_
          refine g_getN (host := "PommelTowsModel") CX HW in_X5_wax_4 6 6 rfl rfl (Nat.le_of_ble_eq_true rfl) (by decide +kernel) rfl dX5_wax_83 ?_
          refine lv_iload_n hx hb dX5_wax_86 rfl (lv_at hl 1 rfl) ?_
          refine lv_iload_n hx hb dX5_wax_87 rfl (lv_at hl 2 rfl) ?_
          refine g_ast CX HW 10 (k := k) rfl rfl rfl (by omega) (Nat.le_of_ble_eq_true rfl) dX5_wax_88 (fun H locs HW => ?_)
          have HW : Hw D A s (wMo cI a o (0 : Int32) (vA S 0) (vA S 1) (vr S) (vA S 3) (vA S 4) (vs S) (vA S 7) ++ (wMS cI a (o + 6) (a o) (vh S) (vc S + (2 : Int32)) (sumP S) (vA S 5) (vA S 6) (upd (vA S 8) k ((vA S 8 k) - (2 : Int32))) (upd (vA S 9) k z) (vA S 10) (vA S 11) (vA S 12) (vA S 2) my qu ++ (wMS cI a (o + 17) (a o) (vh T) (vc T) ri2 (vA T 5) (vA T 6) (vA T 8) (vA T 9) (vA T 10) (vA T 11) (vA T 12) (vA T 2) my2 qu2))) H locs := HW
          refine lv_aload_n hx hb dX5_wax_89 rfl (lv_at hl 0 rfl) ?_
          refine g_get CX HW in_X5_wax_5 0 8 rfl rfl (Nat.le_of_ble_eq_true rfl) fl_X5_wax_30 rfl dX5_wax_90 ?_
          refine g_getN (host := "PommelTowsModel") CX HW in_X5_wax_4 6 7 rfl rfl (Nat.le_of_ble_eq_true rfl) (by decide +kernel) rfl dX5_wax_93 ?_
          refine lv_iload_n hx hb dX5_wax_96 rfl (lv_at hl 1 rfl) ?_
          refine lv_bipush (v := 10) hx hb dX5_wax_97 (by decide) ?_
          refine g_ast CX HW 11 (k := k) rfl rfl rfl (by omega) (Nat.le_of_ble_eq_true rfl) dX5_wax_99 (fun H locs HW => ?_)
          have HW : Hw D A s (wMo cI a o (0 : Int32) (vA S 0) (vA S 1) (vr S) (vA S 3) (vA S 4) (vs S) (vA S 7) ++ (wMS cI a (o + 6) (a o) (vh S) (vc S + (2 : Int32)) (sumP S) (vA S 5) (vA S 6) (upd (vA S 8) k ((vA S 8 k) - (2 : Int32))) (upd (vA S 9) k z) (upd (vA S 10) k (10 : Int32)) (vA S 11) (vA S 12) (vA S 2) my qu ++ (wMS cI a (o + 17) (a o) (vh T) (vc T) ri2 (vA T 5) (vA T 6) (vA T 8) (vA T 9) (vA T 10) (vA T 11) (vA T 12) (vA T 2) my2 qu2))) H locs := HW
          refine lv_aload_n hx hb dX5_wax_100 rfl (lv_at hl 0 rfl) ?_
          refine g_get CX HW in_X5_wax_5 0 8 rfl rfl (Nat.le_of_ble_eq_true rfl) fl_X5_wax_30 rfl dX5_wax_101 ?_
          refine g_getN (host := "PommelTowsModel") CX HW in_X5_wax_4 6 5 rfl rfl (Nat.le_of_ble_eq_true rfl) (by decide +kernel) rfl dX5_wax_104 ?_
          refine lv_iload_n hx hb dX5_wax_107 rfl (lv_at hl 1 rfl) ?_
          refine g_ald CX HW 9 (k := k) rfl rfl rfl (by omega) (Nat.le_of_ble_eq_true rfl) dX5_wax_108 ?_
          refine g_top (y := (vA S 8 k - (2 : Int32))) pk_us ?_
          have hk : kWax S (nI k) z = 0 := by rw [kWax, ek]; rw [if_neg (fun h9 => h9 c10), if_neg (fun h9 => h9 c25), if_neg (fun h9 => h9 c44)]
          exact g_iret CX HW rfl ⟨sWax S (nI k) z, _, my, qu, T, ri2, my2, qu2, ⟨fun h9 => absurd hk h9, fun _ => ⟨(by rw [ek]), rfl⟩⟩, hM, rfl, by rw [hk, sWax, ek] <;> rfl⟩ dX5_wax_109
        · refine lv_aload_n hx hb dX5_wax_47 rfl (lv_at hl 0 rfl) ?_
          refine lv_iconst (v := 3) hx hb dX5_wax_48 (by decide) ?_
          refine g_callV CX HW hl.1 ([]) (wMS cI a (o + 6) (a o) (vh S) (vc S) (sumP S) (vA S 5) (vA S 6) (vA S 8) (vA S 9) (vA S 10) (vA S 11) (vA S 12) (vA S 2) my qu ++ (wMS cI a (o + 17) (a o) (vh T) (vc T) ri2 (vA T 5) (vA T 6) (vA T 8) (vA T 9) (vA T 10) (vA T 11) (vA T 12) (vA T 2) my2 qu2)) (c_X5_no o S (0 : Int32) (3 : Int32)) rfl 0 rfl rfl gX5_wax_X5_no rfl ⟨rfl, hd_X5_no⟩ ⟨rfl, rfl, (Nat.le_of_ble_eq_true rfl), (Nat.le_of_ble_eq_true rfl)⟩ ⟨(Nat.zero_le _), (Nat.zero_le _)⟩ rfl rfl (Nat.le_of_ble_eq_true rfl) dX5_wax_49 (fun v w1 H locs hp HW => ?_)
          obtain ⟨rfl, rfl⟩ := hp
          have HW : Hw D A s (wMo cI a o (3 : Int32) (vA S 0) (vA S 1) (vr S) (vA S 3) (vA S 4) (vs S) (vA S 7) ++ (wMS cI a (o + 6) (a o) (vh S) (vc S) (sumP S) (vA S 5) (vA S 6) (vA S 8) (vA S 9) (vA S 10) (vA S 11) (vA S 12) (vA S 2) my qu ++ (wMS cI a (o + 17) (a o) (vh T) (vc T) ri2 (vA T 5) (vA T 6) (vA T 8) (vA T 9) (vA T 10) (vA T 11) (vA T 12) (vA T 2) my2 qu2))) H locs := HW
          refine W.eq (g2 := F0 m 52 ls [.int (0 : Int32)]) rfl ?_
          have hk : kWax S (nI k) z = 3 := by first | (rw [kWax]; rw [if_pos c10]) | (rw [kWax]; rw [if_neg (fun h9 => h9 c10), if_pos c25]) | (rw [kWax, ek]; rw [if_neg (fun h9 => h9 c10), if_neg (fun h9 => h9 c25), if_pos c44])
          exact g_iret CX HW rfl ⟨S, 0, my, qu, T, ri2, my2, qu2, ⟨fun _ => rfl, fun h9 => absurd (hk.symm.trans h9) (by decide)⟩, hM, rfl, by rw [hk]⟩ dX5_wax_52
    · refine lv_aload_n hx hb dX5_wax_28 rfl (lv_at hl 0 rfl) ?_
      refine lv_iconst (v := 2) hx hb dX5_wax_29 (by decide) ?_
      refine g_callV CX HW hl.1 ([]) (wMS cI a (o + 6) (a o) (vh S) (vc S) (sumP S) (vA S 5) (vA S 6) (vA S 8) (vA S 9) (vA S 10) (vA S 11) (vA S 12) (vA S 2) my qu ++ (wMS cI a (o + 17) (a o) (vh T) (vc T) ri2 (vA T 5) (vA T 6) (vA T 8) (vA T 9) (vA T 10) (vA T 11) (vA T 12) (vA T 2) my2 qu2)) (c_X5_no o S (0 : Int32) (2 : Int32)) rfl 0 rfl rfl gX5_wax_X5_no rfl ⟨rfl, hd_X5_no⟩ ⟨rfl, rfl, (Nat.le_of_ble_eq_true rfl), (Nat.le_of_ble_eq_true rfl)⟩ ⟨(Nat.zero_le _), (Nat.zero_le _)⟩ rfl rfl (Nat.le_of_ble_eq_true rfl) dX5_wax_30 (fun v w1 H locs hp HW => ?_)
      obtain ⟨rfl, rfl⟩ := hp
      have HW : Hw D A s (wMo cI a o (2 : Int32) (vA S 0) (vA S 1) (vr S) (vA S 3) (vA S 4) (vs S) (vA S 7) ++ (wMS cI a (o + 6) (a o) (vh S) (vc S) (sumP S) (vA S 5) (vA S 6) (vA S 8) (vA S 9) (vA S 10) (vA S 11) (vA S 12) (vA S 2) my qu ++ (wMS cI a (o + 17) (a o) (vh T) (vc T) ri2 (vA T 5) (vA T 6) (vA T 8) (vA T 9) (vA T 10) (vA T 11) (vA T 12) (vA T 2) my2 qu2))) H locs := HW
      refine W.eq (g2 := F0 m 33 ls [.int (0 : Int32)]) rfl ?_
      have hk : kWax S x z = 2 := by first | (rw [kWax]; rw [if_pos c10]) | (rw [kWax]; rw [if_neg (fun h9 => h9 c10), if_pos c25]) | (rw [kWax, ek]; rw [if_neg (fun h9 => h9 c10), if_neg (fun h9 => h9 c25), if_pos c44])
      exact g_iret CX HW rfl ⟨S, 0, my, qu, T, ri2, my2, qu2, ⟨fun _ => rfl, fun h9 => absurd (hk.symm.trans h9) (by decide)⟩, hM, rfl, by rw [hk]⟩ dX5_wax_33
  · refine lv_aload_n hx hb dX5_wax_13 rfl (lv_at hl 0 rfl) ?_
    refine lv_iconst (v := 1) hx hb dX5_wax_14 (by decide) ?_
    refine g_callV CX HW hl.1 ([]) (wMS cI a (o + 6) (a o) (vh S) (vc S) (sumP S) (vA S 5) (vA S 6) (vA S 8) (vA S 9) (vA S 10) (vA S 11) (vA S 12) (vA S 2) my qu ++ (wMS cI a (o + 17) (a o) (vh T) (vc T) ri2 (vA T 5) (vA T 6) (vA T 8) (vA T 9) (vA T 10) (vA T 11) (vA T 12) (vA T 2) my2 qu2)) (c_X5_no o S (0 : Int32) (1 : Int32)) rfl 0 rfl rfl gX5_wax_X5_no rfl ⟨rfl, hd_X5_no⟩ ⟨rfl, rfl, (Nat.le_of_ble_eq_true rfl), (Nat.le_of_ble_eq_true rfl)⟩ ⟨(Nat.zero_le _), (Nat.zero_le _)⟩ rfl rfl (Nat.le_of_ble_eq_true rfl) dX5_wax_15 (fun v w1 H locs hp HW => ?_)
    obtain ⟨rfl, rfl⟩ := hp
    have HW : Hw D A s (wMo cI a o (1 : Int32) (vA S 0) (vA S 1) (vr S) (vA S 3) (vA S 4) (vs S) (vA S 7) ++ (wMS cI a (o + 6) (a o) (vh S) (vc S) (sumP S) (vA S 5) (vA S 6) (vA S 8) (vA S 9) (vA S 10) (vA S 11) (vA S 12) (vA S 2) my qu ++ (wMS cI a (o + 17) (a o) (vh T) (vc T) ri2 (vA T 5) (vA T 6) (vA T 8) (vA T 9) (vA T 10) (vA T 11) (vA T 12) (vA T 2) my2 qu2))) H locs := HW
    refine W.eq (g2 := F0 m 18 ls [.int (0 : Int32)]) rfl ?_
    have hk : kWax S x z = 1 := by first | (rw [kWax]; rw [if_pos c10]) | (rw [kWax]; rw [if_neg (fun h9 => h9 c10), if_pos c25]) | (rw [kWax, ek]; rw [if_neg (fun h9 => h9 c10), if_neg (fun h9 => h9 c25), if_pos c44])
    exact g_iret CX HW rfl ⟨S, 0, my, qu, T, ri2, my2, qu2, ⟨fun _ => rfl, fun h9 => absurd (hk.symm.trans h9) (by decide)⟩, hM, rfl, by rw [hk]⟩ dX5_wax_18
