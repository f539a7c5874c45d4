theorem fN_0 (f : Nat → Int32) (d : Int64) : fN f 0 d = d := rfl
theorem fN_add (g : Nat → Int32) (a : Nat) (d : Int64) : ∀ b, fN g (a + b) d = fN (fun z => g (a + z)) b (fN g a d)
  | 0 => rfl
  | b + 1 => by show mixI (fN g (a + b) d) (g (a + b)) = mixI _ _; rw [fN_add g a d b]
theorem fN_cg {f g : Nat → Int32} {n : Nat} (d : Int64) (h : ∀ z, z < n → f z = g z) : ∀ b, b ≤ n → fN f b d = fN g b d
  | 0, _ => rfl
  | b + 1, hb => by show mixI (fN f b d) (f b) = mixI (fN g b d) (g b); rw [fN_cg d h b (by omega), h b (by omega)]
theorem fN_flat {f : Nat → Nat → Int32} {w : Nat} (hw : 0 < w) (n : Nat) (d : Int64) : fN (fun z => f (z / w) (z % w)) (w * (n + 1)) d = fN (f n) w (fN (fun z => f (z / w) (z % w)) (w * n) d) := by
  rw [show w * (n + 1) = w * n + w from Nat.mul_succ w n, fN_add]
  refine fN_cg (n := w) _ (fun z hz => ?_) w (Nat.le_refl _)
  show f ((w * n + z) / w) ((w * n + z) % w) = f n z
  rw [Nat.mul_add_div hw, Nat.mul_add_mod, Nat.div_eq_of_lt hz, Nat.mod_eq_of_lt hz, Nat.add_zero]
theorem fN_R {S : VS} {d : Int64} : ∀ {n : Nat}, fN (fun z => figR (vA S 3) (vA S 4) (vA S 5) (vA S 6) (z / 5) (z % 5)) (5 * n) d = dgR S n d
  | 0 => rfl
  | n + 1 => by rw [fN_flat (f := fun i j => figR (vA S 3) (vA S 4) (vA S 5) (vA S 6) i j) (by decide), fN_R (n := n)]; rfl
theorem fN_S {S : VS} {d : Int64} : ∀ {n : Nat}, fN (fun z => figK S (z / 7) (z % 7)) (7 * n) d = dgS S n d
  | 0 => rfl
  | n + 1 => by rw [fN_flat (f := fun i j => figK S i j) (by decide), fN_S (n := n)]; rfl
theorem repM_at {q : Nat → List Nat} {my qu : Nat → Int32} (h : RepM q my qu) {t j : Nat} (ht : t < 3) (hj : j < (q t).length) : qu (8 * t + j) = oI ((q t)[j]?) := by
  rw [List.getElem?_eq_getElem hj]
  exact (h t ht).1.2 j _ (List.getElem?_eq_getElem hj)
theorem hd_X5_mean : yX5_mean.cls ≠ "java/lang/invoke/MethodHandle" ∧ yX5_mean.cls ≠ "java/lang/invoke/VarHandle" ∧ (parseMethodDescriptor yX5_mean.desc).map (fun d => d.parameters.length) = some 0 := by decide +kernel
theorem fl_X5_mean_37 : Cond.fieldLink RX5 37 (TX5 0).1 (TX5 0).2.1 (TX5 0).2.2.1 ∈ wsX5_mean := by decide +kernel
theorem in_X5_mean_5 : ∀ x ∈ u_ws RX5 TX5 10, x ∈ wsX5_mean := by decide +kernel
theorem fl_X5_mean_48 : Cond.fieldLink RX5 48 (TX5 6).1 (TX5 6).2.1 (TX5 6).2.2.1 ∈ wsX5_mean := by decide +kernel
theorem fl_X5_mean_30 : Cond.fieldLink RX5 30 (TX5 8).1 (TX5 8).2.1 (TX5 8).2.2.1 ∈ wsX5_mean := by decide +kernel
set_option maxRecDepth 100000 in
set_option maxHeartbeats 4000000 in
theorem c_X5_mean {l : Launch} {D : va_G} {cI cL : ClassId} {a : Nat → Nat} (o : Nat) (S : VS) (th : Int32) (my : Nat → Int32) (qu : Nat → Int32) (T : VS) (ri2 : Int32) (my2 : Nat → Int32) (qu2 : Nat → Int32) (hn8 : vs S ≤ 8) : CtD l yX5_mean wsX5_mean { frames := 1, cells := 0, slots := 0, locals := 22 } D (ty2 cI cL) [.ref (a o)] (wMo cI a o th (vA S 0) (vA S 1) (vr S) (vA S 3) (vA S 4) (vs S) (vA S 7) ++ (wMS cI a (o + 6) (a o) (vh S) (vc S) (sumP S) (vA S 5) (vA S 6) (vA S 8) (vA S 9) (vA S 10) (vA S 11) (vA S 12) (vA S 2) my qu ++ (wMS cI a (o + 17) (a o) (vh T) (vc T) ri2 (vA T 5) (vA T 6) (vA T 8) (vA T 9) (vA T 10) (vA T 11) (vA T 12) (vA T 2) my2 qu2))) (fun v w' => ∃ (r8 : UInt64), (alike64 r8 (meanX S) = true) ∧ v = some (.double r8) ∧ w' = wMo cI a o (0 : Int32) (vA S 0) (vA S 1) (vr S) (vA S 3) (vA S 4) (vs S) (vA S 7) ++ (wMS cI a (o + 6) (a o) (vh S) (vc S) (sumP S) (vA S 5) (vA S 6) (vA S 8) (vA S 9) (vA S 10) (vA S 11) (vA S 12) (vA S 2) my qu ++ (wMS cI a (o + 17) (a o) (vh T) (vc T) ri2 (vA T 5) (vA T 6) (vA T 8) (vA T 9) (vA T 10) (vA T 11) (vA T 12) (vA T 2) my2 qu2))) 0 0 := by
  refine CtD.of (cc := cX5_mean) (maxL := 1) (ret := (some .double)) (by decide) rfl (Nat.le_of_ble_eq_true rfl) ?_
  intro p e s m below meth c A ls CX0 hd0 HW hl
  have CX := CX0.dr s.drawn
  obtain ⟨hx, hb, hml, hr, hown, hts, hK, hA, hlk⟩ := id CX
  have hl : lv_has ls 1 [(0, .ref (a o))] := hl
  refine lv_aload_n hx hb dX5_mean_0 rfl (lv_at hl 0 rfl) ?_
  refine lv_iconst (v := 0) hx hb dX5_mean_1 (by decide) ?_
  refine g_put CX HW in_X5_mean_5 tyX5 tyX5_ok nmX5 0 0 rfl rfl (Nat.le_of_ble_eq_true rfl) fl_X5_mean_37 rfl rfl rfl (Nat.le_of_ble_eq_true rfl) dX5_mean_2 (fun H locs HW => ?_)
  have HW : Hw D A (s.setDrawn s.drawn) (wMo cI a o (0 : Int32) (vA S 0) (vA S 1) (vr S) (vA S 3) (vA S 4) (vs S) (vA S 7) ++ (wMS cI a (o + 6) (a o) (vh S) (vc S) (sumP S) (vA S 5) (vA S 6) (vA S 8) (vA S 9) (vA S 10) (vA S 11) (vA S 12) (vA S 2) my qu ++ (wMS cI a (o + 17) (a o) (vh T) (vc T) ri2 (vA T 5) (vA T 6) (vA T 8) (vA T 9) (vA T 10) (vA T 11) (vA T 12) (vA T 2) my2 qu2))) H locs := HW
  refine lv_aload_n hx hb dX5_mean_5 rfl (lv_at hl 0 rfl) ?_
  refine g_get CX HW in_X5_mean_5 0 6 rfl rfl (Nat.le_of_ble_eq_true rfl) fl_X5_mean_48 rfl dX5_mean_6 ?_
  refine lv_if_ne (tgt := 16) hx hb dX5_mean_9 (by decide) (fun c9 => ?_) (fun c9 => ?_)
  · have c9 : 0 < vs S := by
      rcases Nat.eq_zero_or_pos (vs S) with h9 | h9
      · exact absurd (by rw [h9]; rfl) c9
      · exact h9
    refine lv_aload_n hx hb dX5_mean_16 rfl (lv_at hl 0 rfl) ?_
    refine g_get CX HW in_X5_mean_5 0 8 rfl rfl (Nat.le_of_ble_eq_true rfl) fl_X5_mean_30 rfl dX5_mean_17 ?_
    refine g_callV CX HW hl.1 ([]) (wMS cI a (o + 17) (a o) (vh T) (vc T) ri2 (vA T 5) (vA T 6) (vA T 8) (vA T 9) (vA T 10) (vA T 11) (vA T 12) (vA T 2) my2 qu2) (c_X4_allPoints o (o + 6) S (0 : Int32) (sumP S) my qu hn8) rfl 6 rfl rfl gX5_mean_X4_allPoints rfl ⟨rfl, hd_X4_allPoints⟩ ⟨rfl, rfl, (Nat.le_of_ble_eq_true rfl), (Nat.le_of_ble_eq_true rfl)⟩ ⟨(Nat.zero_le _), (Nat.zero_le _)⟩ rfl rfl (Nat.le_of_ble_eq_true rfl) dX5_mean_20 (fun v w1 H locs hp HW => ?_)
    obtain ⟨rfl, rfl⟩ := hp
    have HW : Hw D A (s.setDrawn s.drawn) (wMo cI a o (0 : Int32) (vA S 0) (vA S 1) (vr S) (vA S 3) (vA S 4) (vs S) (vA S 7) ++ (wMS cI a (o + 6) (a o) (vh S) (vc S) (sumP S) (vA S 5) (vA S 6) (vA S 8) (vA S 9) (vA S 10) (vA S 11) (vA S 12) (vA S 2) my qu ++ (wMS cI a (o + 17) (a o) (vh T) (vc T) ri2 (vA T 5) (vA T 6) (vA T 8) (vA T 9) (vA T 10) (vA T 11) (vA T 12) (vA T 2) my2 qu2))) H locs := HW
    refine W.eq (g2 := F0 m 23 ls [.int (sumN (vA S 11) (vs S))]) rfl ?_
    refine lv_i2d hx hb dX5_mean_23 ?_
    refine lv_aload_n hx hb dX5_mean_24 rfl (lv_at hl 0 rfl) ?_
    refine g_get CX HW in_X5_mean_5 0 6 rfl rfl (Nat.le_of_ble_eq_true rfl) fl_X5_mean_48 rfl dX5_mean_25 ?_
    refine lv_i2d hx hb dX5_mean_28 ?_
    refine lv_ddiv_any hd0 lw_bits hx hb dX5_mean_29 (fun r9 d1 hal hd1 => ?_)
    have CX := CX.dr d1
    refine W.endD hd1 ?_
    exact g_dret CX HW rfl ⟨r9, by rw [meanX, if_neg (by omega)]; exact hal, rfl, rfl⟩ dX5_mean_30
  · have c9 : vs S = 0 := nI_inj (by omega) (by decide) c9
    refine lv_dconst0 hx hb dX5_mean_12 ?_
    refine lv_goto (tgt := 30) hx hb dX5_mean_13 (by decide) ?_
    refine W.endD hd0 ?_
    exact g_dret CX HW rfl ⟨FP.dconst0, by rw [meanX, if_pos c9]; decide, rfl, rfl⟩ dX5_mean_30

theorem hd_X5_digest : yX5_digest.cls ≠ "java/lang/invoke/MethodHandle" ∧ yX5_digest.cls ≠ "java/lang/invoke/VarHandle" ∧ (parseMethodDescriptor yX5_digest.desc).map (fun d => d.parameters.length) = some 0 := by decide +kernel
theorem fl_X5_digest_37 : Cond.fieldLink RX5 37 (TX5 0).1 (TX5 0).2.1 (TX5 0).2.2.1 ∈ wsX5_digest := by decide +kernel
theorem in_X5_digest_5 : ∀ x ∈ u_ws RX5 TX5 10, x ∈ wsX5_digest := by decide +kernel
theorem cl_X5_digest_149 : Cond.constantLong RX5 149 (1481) ∈ wsX5_digest := by decide +kernel
theorem fl_X5_digest_7 : Cond.fieldLink RX5 7 (TX5 1).1 (TX5 1).2.1 (TX5 1).2.2.1 ∈ wsX5_digest := by decide +kernel
theorem fl_X5_digest_45 : Cond.fieldLink RX5 45 (TX5 3).1 (TX5 3).2.1 (TX5 3).2.2.1 ∈ wsX5_digest := by decide +kernel
theorem fl_X5_digest_48 : Cond.fieldLink RX5 48 (TX5 6).1 (TX5 6).2.1 (TX5 6).2.2.1 ∈ wsX5_digest := by decide +kernel
theorem fl_X5_digest_30 : Cond.fieldLink RX5 30 (TX5 8).1 (TX5 8).2.1 (TX5 8).2.2.1 ∈ wsX5_digest := by decide +kernel
theorem in_X5_digest_4 : ∀ x ∈ u_ws RX4 TX4 14, x ∈ wsX5_digest := by decide +kernel
theorem cl_X5_digest_151 : Cond.constantLong RX5 151 (31) ∈ wsX5_digest := by decide +kernel
set_option maxRecDepth 100000 in
set_option maxHeartbeats 4000000 in
theorem c_X5_digest {l : Launch} {D : va_G} {cI cL : ClassId} {a : Nat → Nat} (o : Nat) (S : VS) (th : Int32) (my : Nat → Int32) (qu : Nat → Int32) (T : VS) (ri2 : Int32) (my2 : Nat → Int32) (qu2 : Nat → Int32) (hI : Inv S) (hM : RepM (vq S) my qu) (hQ : Qk (vs S) (vq S)) (hU : QU (vq S)) (hh : vh S + 100 < 2 ^ 31) : Ct l yX5_digest wsX5_digest { frames := 3, cells := 0, slots := 0, locals := 64 } D (ty2 cI cL) [.ref (a o)] (wMo cI a o th (vA S 0) (vA S 1) (vr S) (vA S 3) (vA S 4) (vs S) (vA S 7) ++ (wMS cI a (o + 6) (a o) (vh S) (vc S) (sumP S) (vA S 5) (vA S 6) (vA S 8) (vA S 9) (vA S 10) (vA S 11) (vA S 12) (vA S 2) my qu ++ (wMS cI a (o + 17) (a o) (vh T) (vc T) ri2 (vA T 5) (vA T 6) (vA T 8) (vA T 9) (vA T 10) (vA T 11) (vA T 12) (vA T 2) my2 qu2))) (fun v w' => v = some (.long (dig S)) ∧ w' = wMo cI a o (0 : Int32) (vA S 0) (vA S 1) (vr S) (vA S 3) (vA S 4) (vs S) (vA S 7) ++ (wMS cI a (o + 6) (a o) (vh S) (vc S) (sumP S) (vA S 5) (vA S 6) (vA S 8) (vA S 9) (vA S 10) (vA S 11) (vA S 12) (vA S 2) my qu ++ (wMS cI a (o + 17) (a o) (vh T) (vc T) ri2 (vA T 5) (vA T 6) (vA T 8) (vA T 9) (vA T 10) (vA T 11) (vA T 12) (vA T 2) my2 qu2))) 0 0 := by
  refine Ct.of (cc := cX5_digest) (maxL := 7) (ret := (some .long)) (by decide) rfl (Nat.le_of_ble_eq_true rfl) ?_
  intro p e s m below meth c A ls CX hin HW hl
  obtain ⟨hx, hb, hml, hr, hown, hts, hK, hA, hlk⟩ := id CX
  have hl : lv_has ls 7 [(0, .ref (a o))] := hl
  have hn6 := hI.1
  have hn8 := hI.2.1
  refine lv_aload_n hx hb dX5_digest_0 rfl (lv_at hl 0 rfl) ?_
  refine lv_iconst (v := 0) hx hb dX5_digest_1 (by decide) ?_
  refine g_put CX HW in_X5_digest_5 tyX5 tyX5_ok nmX5 0 0 rfl rfl (Nat.le_of_ble_eq_true rfl) fl_X5_digest_37 rfl rfl rfl (Nat.le_of_ble_eq_true rfl) dX5_digest_2 (fun H locs HW => ?_)
  have HW : Hw D A s (wMo cI a o (0 : Int32) (vA S 0) (vA S 1) (vr S) (vA S 3) (vA S 4) (vs S) (vA S 7) ++ (wMS cI a (o + 6) (a o) (vh S) (vc S) (sumP S) (vA S 5) (vA S 6) (vA S 8) (vA S 9) (vA S 10) (vA S 11) (vA S 12) (vA S 2) my qu ++ (wMS cI a (o + 17) (a o) (vh T) (vc T) ri2 (vA T 5) (vA T 6) (vA T 8) (vA T 9) (vA T 10) (vA T 11) (vA T 12) (vA T 2) my2 qu2))) H locs := HW
  refine lv_ldc2 hx hb hown (hts _ cl_X5_digest_149) dX5_digest_5 ?_
  refine lv_lstore_n (lv' := [(1, .long (1481 : Int64)), (0, .ref (a o))]) hx hb dX5_digest_8 rfl hl (Nat.le_of_ble_eq_true rfl) rfl (fun ls hl => ?_)
  have lp11 : ∀ (d11 : Nat) (i : Nat), 9 - i = d11 → (i ≤ 9) → ∀ (H : Heap) (locs : List Loc) (ls : Array Slot), Hw D A s (wMo cI a o (0 : Int32) (vA S 0) (vA S 1) (vr S) (vA S 3) (vA S 4) (vs S) (vA S 7) ++ (wMS cI a (o + 6) (a o) (vh S) (vc S) (sumP S) (vA S 5) (vA S 6) (vA S 8) (vA S 9) (vA S 10) (vA S 11) (vA S 12) (vA S 2) my qu ++ (wMS cI a (o + 17) (a o) (vh T) (vc T) ri2 (vA T 5) (vA T 6) (vA T 8) (vA T 9) (vA T 10) (vA T 11) (vA T 12) (vA T 2) my2 qu2))) H locs → lv_has ls 7 [(3, .int (nI i)), (1, .long (fN (figV S) i 1481)), (0, .ref (a o))] → W p l e ({ frames := 3, cells := 0, slots := 0, locals := 64 } : Room) s m ([.ref (a o)] : List Value).toArray below meth c H locs 0 0 (MQ below (cQ D A (fun v w' => v = some (.long (dig S)) ∧ w' = wMo cI a o (0 : Int32) (vA S 0) (vA S 1) (vr S) (vA S 3) (vA S 4) (vs S) (vA S 7) ++ (wMS cI a (o + 6) (a o) (vh S) (vc S) (sumP S) (vA S 5) (vA S 6) (vA S 8) (vA S 9) (vA S 10) (vA S 11) (vA S 12) (vA S 2) my qu ++ (wMS cI a (o + 17) (a o) (vh T) (vc T) ri2 (vA T 5) (vA T 6) (vA T 8) (vA T 9) (vA T 10) (vA T 11) (vA T 12) (vA T 2) my2 qu2)))) ([.ref (a o)] : List Value).toArray s 0 0 A) (F0 m 11 ls []) := by
    intro d11
    induction d11 using Nat.strongRecOn with
    | _ d11 ih11 =>
      intro i hd11 hi H locs ls HW hl
      refine lv_iload_n hx hb dX5_digest_11 rfl (lv_at hl 0 rfl) ?_
      refine lv_bipush (v := 9) hx hb dX5_digest_12 (by decide) ?_
      refine lv_icmp_ge (tgt := 39) hx hb dX5_digest_14 (by decide) (fun c14 => ?_) (fun c14 => ?_)
      · have c14 := (nI_leI (a := 9) (b := i) (by decide) (by omega)).mp c14
        obtain rfl : i = 9 := by omega
        refine lv_aload_n hx hb dX5_digest_39 rfl (lv_at hl 2 rfl) ?_
        refine g_get CX HW in_X5_digest_5 0 1 rfl rfl (Nat.le_of_ble_eq_true rfl) fl_X5_digest_7 rfl dX5_digest_40 ?_
        refine lv_astore_n (lv' := [(3, .ref (a (o + 1))), (1, .long (fN (figV S) 9 1481)), (0, .ref (a o))]) hx hb dX5_digest_43 rfl hl (Nat.le_of_ble_eq_true rfl) rfl (fun ls hl => ?_)
        refine lv_aload_n hx hb dX5_digest_44 rfl (lv_at hl 0 rfl) ?_
        refine g_len CX HW 1 rfl rfl dX5_digest_45 ?_
        refine lv_istore (lv' := [(4, .int (nI 6)), (3, .ref (a (o + 1))), (1, .long (fN (figV S) 9 1481)), (0, .ref (a o))]) hx hb dX5_digest_46 hl (Nat.le_of_ble_eq_true rfl) rfl (fun ls hl => ?_)
        have lp51 : ∀ (d51 : Nat) (i : Nat), 6 - i = d51 → (i ≤ 6) → ∀ (H : Heap) (locs : List Loc) (ls : Array Slot), Hw D A s (wMo cI a o (0 : Int32) (vA S 0) (vA S 1) (vr S) (vA S 3) (vA S 4) (vs S) (vA S 7) ++ (wMS cI a (o + 6) (a o) (vh S) (vc S) (sumP S) (vA S 5) (vA S 6) (vA S 8) (vA S 9) (vA S 10) (vA S 11) (vA S 12) (vA S 2) my qu ++ (wMS cI a (o + 17) (a o) (vh T) (vc T) ri2 (vA T 5) (vA T 6) (vA T 8) (vA T 9) (vA T 10) (vA T 11) (vA T 12) (vA T 2) my2 qu2))) H locs → lv_has ls 7 [(5, .int (nI i)), (4, .int (nI 6)), (3, .ref (a (o + 1))), (1, .long (fN (vA S 0) i (fN (figV S) 9 1481))), (0, .ref (a o))] → W p l e ({ frames := 3, cells := 0, slots := 0, locals := 64 } : Room) s m ([.ref (a o)] : List Value).toArray below meth c H locs 0 0 (MQ below (cQ D A (fun v w' => v = some (.long (dig S)) ∧ w' = wMo cI a o (0 : Int32) (vA S 0) (vA S 1) (vr S) (vA S 3) (vA S 4) (vs S) (vA S 7) ++ (wMS cI a (o + 6) (a o) (vh S) (vc S) (sumP S) (vA S 5) (vA S 6) (vA S 8) (vA S 9) (vA S 10) (vA S 11) (vA S 12) (vA S 2) my qu ++ (wMS cI a (o + 17) (a o) (vh T) (vc T) ri2 (vA T 5) (vA T 6) (vA T 8) (vA T 9) (vA T 10) (vA T 11) (vA T 12) (vA T 2) my2 qu2)))) ([.ref (a o)] : List Value).toArray s 0 0 A) (F0 m 51 ls []) := by
          intro d51
          induction d51 using Nat.strongRecOn with
          | _ d51 ih51 =>
            intro i hd51 hi H locs ls HW hl
            refine lv_iload hx hb dX5_digest_51 (lv_at hl 0 rfl) ?_
            refine lv_iload hx hb dX5_digest_53 (lv_at hl 1 rfl) ?_
            refine lv_icmp_ge (tgt := 80) hx hb dX5_digest_55 (by decide) (fun c55 => ?_) (fun c55 => ?_)
            · have c55 := (nI_leI (a := 6) (b := i) (by decide) (by omega)).mp c55
              obtain rfl : i = 6 := by omega
              have lp82 : ∀ (d82 : Nat) (i : Nat), (5 * vr S) - i = d82 → (i ≤ (5 * vr S)) → ∀ (H : Heap) (locs : List Loc) (ls : Array Slot), Hw D A s (wMo cI a o (0 : Int32) (vA S 0) (vA S 1) (vr S) (vA S 3) (vA S 4) (vs S) (vA S 7) ++ (wMS cI a (o + 6) (a o) (vh S) (vc S) (sumP S) (vA S 5) (vA S 6) (vA S 8) (vA S 9) (vA S 10) (vA S 11) (vA S 12) (vA S 2) my qu ++ (wMS cI a (o + 17) (a o) (vh T) (vc T) ri2 (vA T 5) (vA T 6) (vA T 8) (vA T 9) (vA T 10) (vA T 11) (vA T 12) (vA T 2) my2 qu2))) H locs → lv_has ls 7 [(3, .int (nI i)), (1, .long (fN (fun z => figR (vA S 3) (vA S 4) (vA S 5) (vA S 6) (z / 5) (z % 5)) i (fN (vA S 0) 6 (fN (figV S) 9 1481)))), (0, .ref (a o))] → W p l e ({ frames := 3, cells := 0, slots := 0, locals := 64 } : Room) s m ([.ref (a o)] : List Value).toArray below meth c H locs 0 0 (MQ below (cQ D A (fun v w' => v = some (.long (dig S)) ∧ w' = wMo cI a o (0 : Int32) (vA S 0) (vA S 1) (vr S) (vA S 3) (vA S 4) (vs S) (vA S 7) ++ (wMS cI a (o + 6) (a o) (vh S) (vc S) (sumP S) (vA S 5) (vA S 6) (vA S 8) (vA S 9) (vA S 10) (vA S 11) (vA S 12) (vA S 2) my qu ++ (wMS cI a (o + 17) (a o) (vh T) (vc T) ri2 (vA T 5) (vA T 6) (vA T 8) (vA T 9) (vA T 10) (vA T 11) (vA T 12) (vA T 2) my2 qu2)))) ([.ref (a o)] : List Value).toArray s 0 0 A) (F0 m 82 ls []) := by
                intro d82
                induction d82 using Nat.strongRecOn with
                | _ d82 ih82 =>
                  intro i hd82 hi H locs ls HW hl
                  refine lv_iload_n hx hb dX5_digest_82 rfl (lv_at hl 0 rfl) ?_
                  refine lv_iconst (v := 5) hx hb dX5_digest_83 (by decide) ?_
                  refine lv_aload_n hx hb dX5_digest_84 rfl (lv_at hl 2 rfl) ?_
                  refine g_get CX HW in_X5_digest_5 0 3 rfl rfl (Nat.le_of_ble_eq_true rfl) fl_X5_digest_45 rfl dX5_digest_85 ?_
                  refine lv_imul hx hb dX5_digest_88 ?_
                  refine g_top (y := (nI (5 * vr S))) (pk_mul 5 (vr S)) ?_
                  refine lv_icmp_ge (tgt := 116) hx hb dX5_digest_89 (by decide) (fun c89 => ?_) (fun c89 => ?_)
                  · have c89 := (nI_leI (a := (5 * vr S)) (b := i) (by omega) (by omega)).mp c89
                    obtain rfl : i = (5 * vr S) := by omega
                    have hl : lv_has ls 7 [(3, .int (nI ((5 * vr S)))), (1, .long (dgR S (vr S) (fN (vA S 0) 6 (fN (figV S) 9 1481)))), (0, .ref (a o))] := by
                      have h9 := hl
                      rw [fN_R] at h9; exact h9
                    have lp118 : ∀ (d118 : Nat) (i : Nat), (7 * vs S) - i = d118 → (i ≤ (7 * vs S)) → ∀ (H : Heap) (locs : List Loc) (ls : Array Slot), Hw D A s (wMo cI a o (0 : Int32) (vA S 0) (vA S 1) (vr S) (vA S 3) (vA S 4) (vs S) (vA S 7) ++ (wMS cI a (o + 6) (a o) (vh S) (vc S) (sumP S) (vA S 5) (vA S 6) (vA S 8) (vA S 9) (vA S 10) (vA S 11) (vA S 12) (vA S 2) my qu ++ (wMS cI a (o + 17) (a o) (vh T) (vc T) ri2 (vA T 5) (vA T 6) (vA T 8) (vA T 9) (vA T 10) (vA T 11) (vA T 12) (vA T 2) my2 qu2))) H locs → lv_has ls 7 [(3, .int (nI i)), (1, .long (fN (fun z => figK S (z / 7) (z % 7)) i (dgR S (vr S) (fN (vA S 0) 6 (fN (figV S) 9 1481))))), (0, .ref (a o))] → W p l e ({ frames := 3, cells := 0, slots := 0, locals := 64 } : Room) s m ([.ref (a o)] : List Value).toArray below meth c H locs 0 0 (MQ below (cQ D A (fun v w' => v = some (.long (dig S)) ∧ w' = wMo cI a o (0 : Int32) (vA S 0) (vA S 1) (vr S) (vA S 3) (vA S 4) (vs S) (vA S 7) ++ (wMS cI a (o + 6) (a o) (vh S) (vc S) (sumP S) (vA S 5) (vA S 6) (vA S 8) (vA S 9) (vA S 10) (vA S 11) (vA S 12) (vA S 2) my qu ++ (wMS cI a (o + 17) (a o) (vh T) (vc T) ri2 (vA T 5) (vA T 6) (vA T 8) (vA T 9) (vA T 10) (vA T 11) (vA T 12) (vA T 2) my2 qu2)))) ([.ref (a o)] : List Value).toArray s 0 0 A) (F0 m 118 ls []) := by
                      intro d118
                      induction d118 using Nat.strongRecOn with
                      | _ d118 ih118 =>
                        intro i hd118 hi H locs ls HW hl
                        refine lv_iload_n hx hb dX5_digest_118 rfl (lv_at hl 0 rfl) ?_
                        refine lv_bipush (v := 7) hx hb dX5_digest_119 (by decide) ?_
                        refine lv_aload_n hx hb dX5_digest_121 rfl (lv_at hl 2 rfl) ?_
                        refine g_get CX HW in_X5_digest_5 0 6 rfl rfl (Nat.le_of_ble_eq_true rfl) fl_X5_digest_48 rfl dX5_digest_122 ?_
                        refine lv_imul hx hb dX5_digest_125 ?_
                        refine g_top (y := (nI (7 * vs S))) (pk_mul 7 (vs S)) ?_
                        refine lv_icmp_ge (tgt := 155) hx hb dX5_digest_126 (by decide) (fun c126 => ?_) (fun c126 => ?_)
                        · have c126 := (nI_leI (a := (7 * vs S)) (b := i) (by omega) (by omega)).mp c126
                          obtain rfl : i = (7 * vs S) := by omega
                          have hl : lv_has ls 7 [(3, .int (nI ((7 * vs S)))), (1, .long (dgS S (vs S) (dgR S (vr S) (fN (vA S 0) 6 (fN (figV S) 9 1481))))), (0, .ref (a o))] := by
                            have h9 := hl
                            rw [fN_S] at h9; exact h9
                          have lp157 : ∀ (d157 : Nat) (i : Nat), 3 - i = d157 → (i ≤ 3) → ∀ (H : Heap) (locs : List Loc) (ls : Array Slot), Hw D A s (wMo cI a o (0 : Int32) (vA S 0) (vA S 1) (vr S) (vA S 3) (vA S 4) (vs S) (vA S 7) ++ (wMS cI a (o + 6) (a o) (vh S) (vc S) (sumP S) (vA S 5) (vA S 6) (vA S 8) (vA S 9) (vA S 10) (vA S 11) (vA S 12) (vA S 2) my qu ++ (wMS cI a (o + 17) (a o) (vh T) (vc T) ri2 (vA T 5) (vA T 6) (vA T 8) (vA T 9) (vA T 10) (vA T 11) (vA T 12) (vA T 2) my2 qu2))) H locs → lv_has ls 7 [(3, .int (nI i)), (1, .long (dgT S i (dgS S (vs S) (dgR S (vr S) (fN (vA S 0) 6 (fN (figV S) 9 1481)))))), (0, .ref (a o))] → W p l e ({ frames := 3, cells := 0, slots := 0, locals := 64 } : Room) s m ([.ref (a o)] : List Value).toArray below meth c H locs 0 0 (MQ below (cQ D A (fun v w' => v = some (.long (dig S)) ∧ w' = wMo cI a o (0 : Int32) (vA S 0) (vA S 1) (vr S) (vA S 3) (vA S 4) (vs S) (vA S 7) ++ (wMS cI a (o + 6) (a o) (vh S) (vc S) (sumP S) (vA S 5) (vA S 6) (vA S 8) (vA S 9) (vA S 10) (vA S 11) (vA S 12) (vA S 2) my qu ++ (wMS cI a (o + 17) (a o) (vh T) (vc T) ri2 (vA T 5) (vA T 6) (vA T 8) (vA T 9) (vA T 10) (vA T 11) (vA T 12) (vA T 2) my2 qu2)))) ([.ref (a o)] : List Value).toArray s 0 0 A) (F0 m 157 ls []) := by
                            intro d157
                            induction d157 using Nat.strongRecOn with
                            | _ d157 ih157 =>
                              intro i hd157 hi H locs ls HW hl
                              refine lv_iload_n hx hb dX5_digest_157 rfl (lv_at hl 0 rfl) ?_
                              refine lv_iconst (v := 3) hx hb dX5_digest_158 (by decide) ?_
                              refine lv_icmp_ge (tgt := 244) hx hb dX5_digest_159 (by decide) (fun c159 => ?_) (fun c159 => ?_)
                              · have c159 := (nI_leI (a := 3) (b := i) (by decide) (by omega)).mp c159
                                obtain rfl : i = 3 := by omega
                                refine lv_lload_n hx hb dX5_digest_244 rfl (lv_at hl 1 rfl) ?_
                                exact g_lret CX HW rfl ⟨rfl, rfl⟩ dX5_digest_245
                              · have c159 : i < 3 := nI_lt_of (a := 3) (b := i) (by decide) (by omega) c159
                                have lp165 : ∀ (d165 : Nat) (j : Nat), 3 - j = d165 → (j ≤ 3) → ∀ (H : Heap) (locs : List Loc) (ls : Array Slot), Hw D A s (wMo cI a o (0 : Int32) (vA S 0) (vA S 1) (vr S) (vA S 3) (vA S 4) (vs S) (vA S 7) ++ (wMS cI a (o + 6) (a o) (vh S) (vc S) (sumP S) (vA S 5) (vA S 6) (vA S 8) (vA S 9) (vA S 10) (vA S 11) (vA S 12) (vA S 2) my qu ++ (wMS cI a (o + 17) (a o) (vh T) (vc T) ri2 (vA T 5) (vA T 6) (vA T 8) (vA T 9) (vA T 10) (vA T 11) (vA T 12) (vA T 2) my2 qu2))) H locs → lv_has ls 7 [(4, .int (nI j)), (3, .int (nI i)), (1, .long (fN (figT S i) j (dgT S i (dgS S (vs S) (dgR S (vr S) (fN (vA S 0) 6 (fN (figV S) 9 1481))))))), (0, .ref (a o))] → W p l e ({ frames := 3, cells := 0, slots := 0, locals := 64 } : Room) s m ([.ref (a o)] : List Value).toArray below meth c H locs 0 0 (MQ below (cQ D A (fun v w' => v = some (.long (dig S)) ∧ w' = wMo cI a o (0 : Int32) (vA S 0) (vA S 1) (vr S) (vA S 3) (vA S 4) (vs S) (vA S 7) ++ (wMS cI a (o + 6) (a o) (vh S) (vc S) (sumP S) (vA S 5) (vA S 6) (vA S 8) (vA S 9) (vA S 10) (vA S 11) (vA S 12) (vA S 2) my qu ++ (wMS cI a (o + 17) (a o) (vh T) (vc T) ri2 (vA T 5) (vA T 6) (vA T 8) (vA T 9) (vA T 10) (vA T 11) (vA T 12) (vA T 2) my2 qu2)))) ([.ref (a o)] : List Value).toArray s 0 0 A) (F0 m 165 ls []) := by
                                  intro d165
                                  induction d165 using Nat.strongRecOn with
                                  | _ d165 ih165 =>
                                    intro j hd165 hj H locs ls HW hl
                                    refine lv_iload hx hb dX5_digest_165 (lv_at hl 0 rfl) ?_
                                    refine lv_iconst (v := 3) hx hb dX5_digest_167 (by decide) ?_
                                    refine lv_icmp_ge (tgt := 192) hx hb dX5_digest_168 (by decide) (fun c168 => ?_) (fun c168 => ?_)
                                    · have c168 := (nI_leI (a := 3) (b := j) (by decide) (by omega)).mp c168
                                      obtain rfl : j = 3 := by omega
                                      have lp195 : ∀ (d195 : Nat) (j : Nat), (vq S i).length - j = d195 → (j ≤ (vq S i).length) → ∀ (H : Heap) (locs : List Loc) (ls : Array Slot), Hw D A s (wMo cI a o (0 : Int32) (vA S 0) (vA S 1) (vr S) (vA S 3) (vA S 4) (vs S) (vA S 7) ++ (wMS cI a (o + 6) (a o) (vh S) (vc S) (sumP S) (vA S 5) (vA S 6) (vA S 8) (vA S 9) (vA S 10) (vA S 11) (vA S 12) (vA S 2) my qu ++ (wMS cI a (o + 17) (a o) (vh T) (vc T) ri2 (vA T 5) (vA T 6) (vA T 8) (vA T 9) (vA T 10) (vA T 11) (vA T 12) (vA T 2) my2 qu2))) H locs → lv_has ls 7 [(4, .int (nI j)), (3, .int (nI i)), (1, .long (fN (fun z => oI ((vq S i)[z]?)) j (fN (figT S i) 3 (dgT S i (dgS S (vs S) (dgR S (vr S) (fN (vA S 0) 6 (fN (figV S) 9 1481)))))))), (0, .ref (a o))] → W p l e ({ frames := 3, cells := 0, slots := 0, locals := 64 } : Room) s m ([.ref (a o)] : List Value).toArray below meth c H locs 0 0 (MQ below (cQ D A (fun v w' => v = some (.long (dig S)) ∧ w' = wMo cI a o (0 : Int32) (vA S 0) (vA S 1) (vr S) (vA S 3) (vA S 4) (vs S) (vA S 7) ++ (wMS cI a (o + 6) (a o) (vh S) (vc S) (sumP S) (vA S 5) (vA S 6) (vA S 8) (vA S 9) (vA S 10) (vA S 11) (vA S 12) (vA S 2) my qu ++ (wMS cI a (o + 17) (a o) (vh T) (vc T) ri2 (vA T 5) (vA T 6) (vA T 8) (vA T 9) (vA T 10) (vA T 11) (vA T 12) (vA T 2) my2 qu2)))) ([.ref (a o)] : List Value).toArray s 0 0 A) (F0 m 195 ls []) := by
                                        intro d195
                                        induction d195 using Nat.strongRecOn with
                                        | _ d195 ih195 =>
                                          intro j hd195 hj H locs ls HW hl
                                          refine lv_iload hx hb dX5_digest_195 (lv_at hl 0 rfl) ?_
                                          refine lv_aload_n hx hb dX5_digest_197 rfl (lv_at hl 3 rfl) ?_
                                          refine g_get CX HW in_X5_digest_5 0 8 rfl rfl (Nat.le_of_ble_eq_true rfl) fl_X5_digest_30 rfl dX5_digest_198 ?_
                                          refine g_getN (host := "PommelTowsModel") CX HW in_X5_digest_4 6 11 rfl rfl (Nat.le_of_ble_eq_true rfl) (by decide +kernel) rfl dX5_digest_201 ?_
                                          refine lv_iload_n hx hb dX5_digest_204 rfl (lv_at hl 1 rfl) ?_
                                          refine g_ald CX HW 15 (k := i) rfl rfl rfl (by omega) (Nat.le_of_ble_eq_true rfl) dX5_digest_205 ?_
                                          refine g_top (y := (nI (vq S i).length)) (hM i (by omega)).1.1 ?_
                                          refine lv_icmp_ge (tgt := 238) hx hb dX5_digest_206 (by decide) (fun c206 => ?_) (fun c206 => ?_)
                                          · have hlen := (hM i (by omega)).2
                                            have c206 := (nI_leI (a := (vq S i).length) (b := j) (by omega) (by omega)).mp c206
                                            obtain rfl : j = (vq S i).length := by omega
                                            refine lv_iinc (v := (nI (i + 1))) (lv' := [(3, .int (nI (i + 1))), (4, .int (nI ((vq S i).length))), (1, .long (fN (fun z => oI ((vq S i)[z]?)) ((vq S i).length) (fN (figT S i) 3 (dgT S i (dgS S (vs S) (dgR S (vr S) (fN (vA S 0) 6 (fN (figV S) 9 1481)))))))), (0, .ref (a o))]) hx hb dX5_digest_238 hl (k := 1) rfl (inc1 _) (Nat.le_of_ble_eq_true rfl) rfl (fun ls hl => ?_)
                                            refine lv_goto (tgt := 157) hx hb dX5_digest_241 (by decide) ?_
                                            exact ih157 _ (by omega) (i + 1) rfl (by omega) _ _ _ HW (lv_sub hl [0, 2, 3] rfl)
                                          · have hlen := (hM i (by omega)).2
                                            have c206 : j < (vq S i).length := nI_lt_of (by omega) (by omega) c206
                                            refine lv_lload_n hx hb dX5_digest_209 rfl (lv_at hl 2 rfl) ?_
                                            refine lv_ldc2 hx hb hown (hts _ cl_X5_digest_151) dX5_digest_210 ?_
                                            refine lv_lmul hx hb dX5_digest_213 ?_
                                            refine lv_aload_n hx hb dX5_digest_214 rfl (lv_at hl 3 rfl) ?_
                                            refine g_get CX HW in_X5_digest_5 0 8 rfl rfl (Nat.le_of_ble_eq_true rfl) fl_X5_digest_30 rfl dX5_digest_215 ?_
                                            refine g_getN (host := "PommelTowsModel") CX HW in_X5_digest_4 6 12 rfl rfl (Nat.le_of_ble_eq_true rfl) (by decide +kernel) rfl dX5_digest_218 ?_
                                            refine lv_bipush (v := 8) hx hb dX5_digest_221 (by decide) ?_
                                            refine lv_iload_n hx hb dX5_digest_223 rfl (lv_at hl 1 rfl) ?_
                                            refine lv_imul hx hb dX5_digest_224 ?_
                                            refine g_top (y := (nI (8 * i))) (pk_mul 8 i) ?_
                                            refine lv_iload hx hb dX5_digest_225 (lv_at hl 0 rfl) ?_
                                            refine lv_iadd hx hb dX5_digest_227 ?_
                                            refine g_top (y := (nI (8 * i + j))) (nI_add _ _) ?_
                                            refine g_ald CX HW 16 (k := (8 * i + j)) rfl rfl rfl (by omega) (Nat.le_of_ble_eq_true rfl) dX5_digest_228 ?_
                                            refine g_top (y := (oI ((vq S i)[j]?))) (repM_at hM (by omega) c206) ?_
                                            refine lv_i2l (v := Int32.toInt64 (oI ((vq S i)[j]?))) hx hb dX5_digest_229 rfl ?_
                                            refine lv_ladd hx hb dX5_digest_230 ?_
                                            refine lv_lstore_n (lv' := [(1, .long (((fN (fun z => oI ((vq S i)[z]?)) j (fN (figT S i) 3 (dgT S i (dgS S (vs S) (dgR S (vr S) (fN (vA S 0) 6 (fN (figV S) 9 1481))))))) * (31 : Int64)) + (Int32.toInt64 (oI ((vq S i)[j]?))))), (4, .int (nI j)), (3, .int (nI i)), (0, .ref (a o))]) hx hb dX5_digest_231 rfl hl (Nat.le_of_ble_eq_true rfl) rfl (fun ls hl => ?_)
                                            refine lv_iinc (v := (nI (j + 1))) (lv' := [(4, .int (nI (j + 1))), (1, .long (((fN (fun z => oI ((vq S i)[z]?)) j (fN (figT S i) 3 (dgT S i (dgS S (vs S) (dgR S (vr S) (fN (vA S 0) 6 (fN (figV S) 9 1481))))))) * (31 : Int64)) + (Int32.toInt64 (oI ((vq S i)[j]?))))), (3, .int (nI i)), (0, .ref (a o))]) hx hb dX5_digest_232 hl (k := 1) rfl (inc1 _) (Nat.le_of_ble_eq_true rfl) rfl (fun ls hl => ?_)
                                            refine lv_goto (tgt := 195) hx hb dX5_digest_235 (by decide) ?_
                                            exact ih195 _ (by omega) (j + 1) rfl (by omega) _ _ _ HW (lv_sub hl [0, 2, 1, 3] rfl)
                                      refine lv_iconst (v := 0) hx hb dX5_digest_192 (by decide) ?_
                                      refine lv_istore (lv' := [(4, .int (0 : Int32)), (3, .int (nI i)), (1, .long (fN (figT S i) 3 (dgT S i (dgS S (vs S) (dgR S (vr S) (fN (vA S 0) 6 (fN (figV S) 9 1481))))))), (0, .ref (a o))]) hx hb dX5_digest_193 hl (Nat.le_of_ble_eq_true rfl) rfl (fun ls hl => ?_)
                                      exact lp195 _ 0 rfl (by omega) _ _ _ HW (lv_sub hl [0, 1, 2, 3] rfl)
                                    · have c168 : j < 3 := nI_lt_of (a := 3) (b := j) (by decide) (by omega) c168
                                      refine lv_lload_n hx hb dX5_digest_171 rfl (lv_at hl 2 rfl) ?_
                                      refine lv_ldc2 hx hb hown (hts _ cl_X5_digest_151) dX5_digest_172 ?_
                                      refine lv_lmul hx hb dX5_digest_175 ?_
                                      refine lv_aload_n hx hb dX5_digest_176 rfl (lv_at hl 3 rfl) ?_
                                      refine lv_iload_n hx hb dX5_digest_177 rfl (lv_at hl 1 rfl) ?_
                                      refine lv_iload hx hb dX5_digest_178 (lv_at hl 0 rfl) ?_
                                      refine g_callV CX HW hl.1 ([]) ([]) (c_X5_towTold o S (0 : Int32) my qu T ri2 my2 qu2 i j hM (by omega) (by omega)) rfl 0 rfl rfl gX5_digest_X5_towTold rfl ⟨rfl, hd_X5_towTold⟩ ⟨rfl, rfl, (Nat.le_of_ble_eq_true rfl), (Nat.le_of_ble_eq_true rfl)⟩ ⟨(Nat.zero_le _), (Nat.zero_le _)⟩ rfl rfl (Nat.le_of_ble_eq_true rfl) dX5_digest_180 (fun v w1 H locs hp HW => ?_)
                                      obtain ⟨rfl, rfl⟩ := hp
                                      have HW : Hw D A s (wMo cI a o (0 : Int32) (vA S 0) (vA S 1) (vr S) (vA S 3) (vA S 4) (vs S) (vA S 7) ++ (wMS cI a (o + 6) (a o) (vh S) (vc S) (sumP S) (vA S 5) (vA S 6) (vA S 8) (vA S 9) (vA S 10) (vA S 11) (vA S 12) (vA S 2) my qu ++ (wMS cI a (o + 17) (a o) (vh T) (vc T) ri2 (vA T 5) (vA T 6) (vA T 8) (vA T 9) (vA T 10) (vA T 11) (vA T 12) (vA T 2) my2 qu2))) H locs := HW
                                      refine W.eq (g2 := F0 m 183 ls [.int (figT S i j), .long ((fN (figT S i) j (dgT S i (dgS S (vs S) (dgR S (vr S) (fN (vA S 0) 6 (fN (figV S) 9 1481)))))) * (31 : Int64))]) rfl ?_
                                      refine lv_i2l (v := Int32.toInt64 (figT S i j)) hx hb dX5_digest_183 rfl ?_
                                      refine lv_ladd hx hb dX5_digest_184 ?_
                                      refine lv_lstore_n (lv' := [(1, .long (((fN (figT S i) j (dgT S i (dgS S (vs S) (dgR S (vr S) (fN (vA S 0) 6 (fN (figV S) 9 1481)))))) * (31 : Int64)) + (Int32.toInt64 (figT S i j)))), (4, .int (nI j)), (3, .int (nI i)), (0, .ref (a o))]) hx hb dX5_digest_185 rfl hl (Nat.le_of_ble_eq_true rfl) rfl (fun ls hl => ?_)
                                      refine lv_iinc (v := (nI (j + 1))) (lv' := [(4, .int (nI (j + 1))), (1, .long (((fN (figT S i) j (dgT S i (dgS S (vs S) (dgR S (vr S) (fN (vA S 0) 6 (fN (figV S) 9 1481)))))) * (31 : Int64)) + (Int32.toInt64 (figT S i j)))), (3, .int (nI i)), (0, .ref (a o))]) hx hb dX5_digest_186 hl (k := 1) rfl (inc1 _) (Nat.le_of_ble_eq_true rfl) rfl (fun ls hl => ?_)
                                      refine lv_goto (tgt := 165) hx hb dX5_digest_189 (by decide) ?_
                                      exact ih165 _ (by omega) (j + 1) rfl (by omega) _ _ _ HW (lv_sub hl [0, 2, 1, 3] rfl)
                                refine lv_iconst (v := 0) hx hb dX5_digest_162 (by decide) ?_
                                refine lv_istore (lv' := [(4, .int (0 : Int32)), (3, .int (nI i)), (1, .long (dgT S i (dgS S (vs S) (dgR S (vr S) (fN (vA S 0) 6 (fN (figV S) 9 1481)))))), (0, .ref (a o))]) hx hb dX5_digest_163 hl (Nat.le_of_ble_eq_true rfl) rfl (fun ls hl => ?_)
                                exact lp165 _ 0 rfl (by omega) _ _ _ HW (lv_sub hl [0, 1, 2, 3] rfl)
                          refine lv_iconst (v := 0) hx hb dX5_digest_155 (by decide) ?_
                          refine lv_istore_n (lv' := [(3, .int (0 : Int32)), (1, .long (dgS S (vs S) (dgR S (vr S) (fN (vA S 0) 6 (fN (figV S) 9 1481))))), (0, .ref (a o))]) hx hb dX5_digest_156 rfl hl (Nat.le_of_ble_eq_true rfl) rfl (fun ls hl => ?_)
                          exact lp157 _ 0 rfl (by omega) _ _ _ HW (lv_sub hl [0, 1, 2] rfl)
                        · have c126 : i < (7 * vs S) := nI_lt_of (a := (7 * vs S)) (b := i) (by omega) (by omega) c126
                          refine lv_lload_n hx hb dX5_digest_129 rfl (lv_at hl 1 rfl) ?_
                          refine lv_ldc2 hx hb hown (hts _ cl_X5_digest_151) dX5_digest_130 ?_
                          refine lv_lmul hx hb dX5_digest_133 ?_
                          refine lv_aload_n hx hb dX5_digest_134 rfl (lv_at hl 2 rfl) ?_
                          refine lv_iload_n hx hb dX5_digest_135 rfl (lv_at hl 0 rfl) ?_
                          refine lv_bipush (v := 7) hx hb dX5_digest_136 (by decide) ?_
                          refine lv_idiv hx hb dX5_digest_138 (by decide) ?_
                          refine g_top (y := (nI (i / 7))) (pk_div (d := 7) (by omega) (by decide) (by decide)) ?_
                          refine lv_iload_n hx hb dX5_digest_139 rfl (lv_at hl 0 rfl) ?_
                          refine lv_bipush (v := 7) hx hb dX5_digest_140 (by decide) ?_
                          refine lv_irem hx hb dX5_digest_142 (by decide) ?_
                          refine g_top (y := (nI (i % 7))) (pk_rem (d := 7) (by omega) (by decide) (by decide)) ?_
                          refine g_callV CX HW hl.1 ([]) ([]) (c_X5_skierTold o S (0 : Int32) my qu T ri2 my2 qu2 (i / 7) (i % 7) hI hM hQ (by omega) (by omega)) rfl 0 rfl rfl gX5_digest_X5_skierTold rfl ⟨rfl, hd_X5_skierTold⟩ ⟨rfl, rfl, (Nat.le_of_ble_eq_true rfl), (Nat.le_of_ble_eq_true rfl)⟩ ⟨(Nat.zero_le _), (Nat.zero_le _)⟩ rfl rfl (Nat.le_of_ble_eq_true rfl) dX5_digest_143 (fun v w1 H locs hp HW => ?_)
                          obtain ⟨rfl, rfl⟩ := hp
                          have HW : Hw D A s (wMo cI a o (0 : Int32) (vA S 0) (vA S 1) (vr S) (vA S 3) (vA S 4) (vs S) (vA S 7) ++ (wMS cI a (o + 6) (a o) (vh S) (vc S) (sumP S) (vA S 5) (vA S 6) (vA S 8) (vA S 9) (vA S 10) (vA S 11) (vA S 12) (vA S 2) my qu ++ (wMS cI a (o + 17) (a o) (vh T) (vc T) ri2 (vA T 5) (vA T 6) (vA T 8) (vA T 9) (vA T 10) (vA T 11) (vA T 12) (vA T 2) my2 qu2))) H locs := HW
                          refine W.eq (g2 := F0 m 146 ls [.int (figK S (i / 7) (i % 7)), .long ((fN (fun z => figK S (z / 7) (z % 7)) i (dgR S (vr S) (fN (vA S 0) 6 (fN (figV S) 9 1481)))) * (31 : Int64))]) rfl ?_
                          refine lv_i2l (v := Int32.toInt64 (figK S (i / 7) (i % 7))) hx hb dX5_digest_146 rfl ?_
                          refine lv_ladd hx hb dX5_digest_147 ?_
                          refine lv_lstore_n (lv' := [(1, .long (((fN (fun z => figK S (z / 7) (z % 7)) i (dgR S (vr S) (fN (vA S 0) 6 (fN (figV S) 9 1481)))) * (31 : Int64)) + (Int32.toInt64 (figK S (i / 7) (i % 7))))), (3, .int (nI i)), (0, .ref (a o))]) hx hb dX5_digest_148 rfl hl (Nat.le_of_ble_eq_true rfl) rfl (fun ls hl => ?_)
                          refine lv_iinc (v := (nI (i + 1))) (lv' := [(3, .int (nI (i + 1))), (1, .long (((fN (fun z => figK S (z / 7) (z % 7)) i (dgR S (vr S) (fN (vA S 0) 6 (fN (figV S) 9 1481)))) * (31 : Int64)) + (Int32.toInt64 (figK S (i / 7) (i % 7))))), (0, .ref (a o))]) hx hb dX5_digest_149 hl (k := 1) rfl (inc1 _) (Nat.le_of_ble_eq_true rfl) rfl (fun ls hl => ?_)
                          refine lv_goto (tgt := 118) hx hb dX5_digest_152 (by decide) ?_
                          exact ih118 _ (by omega) (i + 1) rfl (by omega) _ _ _ HW (lv_sub hl [0, 1, 2] rfl)
                    refine lv_iconst (v := 0) hx hb dX5_digest_116 (by decide) ?_
                    refine lv_istore_n (lv' := [(3, .int (0 : Int32)), (1, .long (dgR S (vr S) (fN (vA S 0) 6 (fN (figV S) 9 1481)))), (0, .ref (a o))]) hx hb dX5_digest_117 rfl hl (Nat.le_of_ble_eq_true rfl) rfl (fun ls hl => ?_)
                    have hl9 : (dgR S (vr S) (fN (vA S 0) 6 (fN (figV S) 9 1481))) = fN (fun z => figK S (z / 7) (z % 7)) 0 (dgR S (vr S) (fN (vA S 0) 6 (fN (figV S) 9 1481))) := (fN_0 _ _).symm
                    rw [hl9] at hl
                    exact lp118 _ 0 rfl (by omega) _ _ _ HW (lv_sub hl [0, 1, 2] rfl)
                  · have c89 : i < (5 * vr S) := nI_lt_of (a := (5 * vr S)) (b := i) (by omega) (by omega) c89
                    refine lv_lload_n hx hb dX5_digest_92 rfl (lv_at hl 1 rfl) ?_
                    refine lv_ldc2 hx hb hown (hts _ cl_X5_digest_151) dX5_digest_93 ?_
                    refine lv_lmul hx hb dX5_digest_96 ?_
                    refine lv_aload_n hx hb dX5_digest_97 rfl (lv_at hl 2 rfl) ?_
                    refine lv_iload_n hx hb dX5_digest_98 rfl (lv_at hl 0 rfl) ?_
                    refine lv_iconst (v := 5) hx hb dX5_digest_99 (by decide) ?_
                    refine lv_idiv hx hb dX5_digest_100 (by decide) ?_
                    refine g_top (y := (nI (i / 5))) (pk_div (d := 5) (by omega) (by decide) (by decide)) ?_
                    refine lv_iload_n hx hb dX5_digest_101 rfl (lv_at hl 0 rfl) ?_
                    refine lv_iconst (v := 5) hx hb dX5_digest_102 (by decide) ?_
                    refine lv_irem hx hb dX5_digest_103 (by decide) ?_
                    refine g_top (y := (nI (i % 5))) (pk_rem (d := 5) (by omega) (by decide) (by decide)) ?_
                    refine g_callV CX HW hl.1 ([]) ([]) (c_X5_runTold o S (0 : Int32) my qu T ri2 my2 qu2 (i / 5) (i % 5) (by omega) (by omega)) rfl 0 rfl rfl gX5_digest_X5_runTold rfl ⟨rfl, hd_X5_runTold⟩ ⟨rfl, rfl, (Nat.le_of_ble_eq_true rfl), (Nat.le_of_ble_eq_true rfl)⟩ ⟨(Nat.zero_le _), (Nat.zero_le _)⟩ rfl rfl (Nat.le_of_ble_eq_true rfl) dX5_digest_104 (fun v w1 H locs hp HW => ?_)
                    obtain ⟨rfl, rfl⟩ := hp
                    have HW : Hw D A s (wMo cI a o (0 : Int32) (vA S 0) (vA S 1) (vr S) (vA S 3) (vA S 4) (vs S) (vA S 7) ++ (wMS cI a (o + 6) (a o) (vh S) (vc S) (sumP S) (vA S 5) (vA S 6) (vA S 8) (vA S 9) (vA S 10) (vA S 11) (vA S 12) (vA S 2) my qu ++ (wMS cI a (o + 17) (a o) (vh T) (vc T) ri2 (vA T 5) (vA T 6) (vA T 8) (vA T 9) (vA T 10) (vA T 11) (vA T 12) (vA T 2) my2 qu2))) H locs := HW
                    refine W.eq (g2 := F0 m 107 ls [.int (figR (vA S 3) (vA S 4) (vA S 5) (vA S 6) (i / 5) (i % 5)), .long ((fN (fun z => figR (vA S 3) (vA S 4) (vA S 5) (vA S 6) (z / 5) (z % 5)) i (fN (vA S 0) 6 (fN (figV S) 9 1481))) * (31 : Int64))]) rfl ?_
                    refine lv_i2l (v := Int32.toInt64 (figR (vA S 3) (vA S 4) (vA S 5) (vA S 6) (i / 5) (i % 5))) hx hb dX5_digest_107 rfl ?_
                    refine lv_ladd hx hb dX5_digest_108 ?_
                    refine lv_lstore_n (lv' := [(1, .long (((fN (fun z => figR (vA S 3) (vA S 4) (vA S 5) (vA S 6) (z / 5) (z % 5)) i (fN (vA S 0) 6 (fN (figV S) 9 1481))) * (31 : Int64)) + (Int32.toInt64 (figR (vA S 3) (vA S 4) (vA S 5) (vA S 6) (i / 5) (i % 5))))), (3, .int (nI i)), (0, .ref (a o))]) hx hb dX5_digest_109 rfl hl (Nat.le_of_ble_eq_true rfl) rfl (fun ls hl => ?_)
                    refine lv_iinc (v := (nI (i + 1))) (lv' := [(3, .int (nI (i + 1))), (1, .long (((fN (fun z => figR (vA S 3) (vA S 4) (vA S 5) (vA S 6) (z / 5) (z % 5)) i (fN (vA S 0) 6 (fN (figV S) 9 1481))) * (31 : Int64)) + (Int32.toInt64 (figR (vA S 3) (vA S 4) (vA S 5) (vA S 6) (i / 5) (i % 5))))), (0, .ref (a o))]) hx hb dX5_digest_110 hl (k := 1) rfl (inc1 _) (Nat.le_of_ble_eq_true rfl) rfl (fun ls hl => ?_)
                    refine lv_goto (tgt := 82) hx hb dX5_digest_113 (by decide) ?_
                    exact ih82 _ (by omega) (i + 1) rfl (by omega) _ _ _ HW (lv_sub hl [0, 1, 2] rfl)
              refine lv_iconst (v := 0) hx hb dX5_digest_80 (by decide) ?_
              refine lv_istore_n (lv' := [(3, .int (0 : Int32)), (5, .int (nI 6)), (4, .int (nI 6)), (1, .long (fN (vA S 0) 6 (fN (figV S) 9 1481))), (0, .ref (a o))]) hx hb dX5_digest_81 rfl hl (Nat.le_of_ble_eq_true rfl) rfl (fun ls hl => ?_)
              have hl9 : (fN (vA S 0) 6 (fN (figV S) 9 1481)) = fN (fun z => figR (vA S 3) (vA S 4) (vA S 5) (vA S 6) (z / 5) (z % 5)) 0 (fN (vA S 0) 6 (fN (figV S) 9 1481)) := (fN_0 _ _).symm
              rw [hl9] at hl
              exact lp82 _ 0 rfl (by omega) _ _ _ HW (lv_sub hl [0, 3, 4] rfl)
            · have c55 : i < 6 := nI_lt_of (a := 6) (b := i) (by decide) (by omega) c55
              refine lv_aload_n hx hb dX5_digest_58 rfl (lv_at hl 2 rfl) ?_
              refine lv_iload hx hb dX5_digest_59 (lv_at hl 0 rfl) ?_
              refine g_ald CX HW 1 (k := i) rfl rfl rfl (by omega) (Nat.le_of_ble_eq_true rfl) dX5_digest_61 ?_
              refine lv_istore (lv' := [(6, .int (vA S 0 i)), (5, .int (nI i)), (4, .int (nI 6)), (3, .ref (a (o + 1))), (1, .long (fN (vA S 0) i (fN (figV S) 9 1481))), (0, .ref (a o))]) hx hb dX5_digest_62 hl (Nat.le_of_ble_eq_true rfl) rfl (fun ls hl => ?_)
              refine lv_lload_n hx hb dX5_digest_64 rfl (lv_at hl 4 rfl) ?_
              refine lv_ldc2 hx hb hown (hts _ cl_X5_digest_151) dX5_digest_65 ?_
              refine lv_lmul hx hb dX5_digest_68 ?_
              refine lv_iload hx hb dX5_digest_69 (lv_at hl 0 rfl) ?_
              refine lv_i2l (v := Int32.toInt64 (vA S 0 i)) hx hb dX5_digest_71 rfl ?_
              refine lv_ladd hx hb dX5_digest_72 ?_
              refine lv_lstore_n (lv' := [(1, .long (((fN (vA S 0) i (fN (figV S) 9 1481)) * (31 : Int64)) + (Int32.toInt64 (vA S 0 i)))), (6, .int (vA S 0 i)), (5, .int (nI i)), (4, .int (nI 6)), (3, .ref (a (o + 1))), (0, .ref (a o))]) hx hb dX5_digest_73 rfl hl (Nat.le_of_ble_eq_true rfl) rfl (fun ls hl => ?_)
              refine lv_iinc (v := (nI (i + 1))) (lv' := [(5, .int (nI (i + 1))), (1, .long (((fN (vA S 0) i (fN (figV S) 9 1481)) * (31 : Int64)) + (Int32.toInt64 (vA S 0 i)))), (6, .int (vA S 0 i)), (4, .int (nI 6)), (3, .ref (a (o + 1))), (0, .ref (a o))]) hx hb dX5_digest_74 hl (k := 2) rfl (inc1 _) (Nat.le_of_ble_eq_true rfl) rfl (fun ls hl => ?_)
              refine lv_goto (tgt := 51) hx hb dX5_digest_77 (by decide) ?_
              exact ih51 _ (by omega) (i + 1) rfl (by omega) _ _ _ HW (lv_sub hl [0, 3, 4, 1, 5] rfl)
        refine lv_iconst (v := 0) hx hb dX5_digest_48 (by decide) ?_
        refine lv_istore (lv' := [(5, .int (0 : Int32)), (4, .int (nI 6)), (3, .ref (a (o + 1))), (1, .long (fN (figV S) 9 1481)), (0, .ref (a o))]) hx hb dX5_digest_49 hl (Nat.le_of_ble_eq_true rfl) rfl (fun ls hl => ?_)
        exact lp51 _ 0 rfl (by omega) _ _ _ HW (lv_sub hl [0, 1, 2, 3, 4] rfl)
      · have c14 : i < 9 := nI_lt_of (a := 9) (b := i) (by decide) (by omega) c14
        refine lv_lload_n hx hb dX5_digest_17 rfl (lv_at hl 1 rfl) ?_
        refine lv_ldc2 hx hb hown (hts _ cl_X5_digest_151) dX5_digest_18 ?_
        refine lv_lmul hx hb dX5_digest_21 ?_
        refine lv_aload_n hx hb dX5_digest_22 rfl (lv_at hl 2 rfl) ?_
        refine g_get CX HW in_X5_digest_5 0 8 rfl rfl (Nat.le_of_ble_eq_true rfl) fl_X5_digest_30 rfl dX5_digest_23 ?_
        refine lv_iload_n hx hb dX5_digest_26 rfl (lv_at hl 0 rfl) ?_
        refine g_callV CX HW hl.1 ([]) (wMS cI a (o + 17) (a o) (vh T) (vc T) ri2 (vA T 5) (vA T 6) (vA T 8) (vA T 9) (vA T 10) (vA T 11) (vA T 12) (vA T 2) my2 qu2) (c_X4_counted o (o + 6) S (0 : Int32) my qu i hM hn6 hn8 (by omega) (by omega)) rfl 6 rfl rfl gX5_digest_X4_counted rfl ⟨rfl, hd_X4_counted⟩ ⟨rfl, rfl, (Nat.le_of_ble_eq_true rfl), (Nat.le_of_ble_eq_true rfl)⟩ ⟨(Nat.zero_le _), (Nat.zero_le _)⟩ rfl rfl (Nat.le_of_ble_eq_true rfl) dX5_digest_27 (fun v w1 H locs hp HW => ?_)
        obtain ⟨rfl, rfl⟩ := hp
        have HW : Hw D A s (wMo cI a o (0 : Int32) (vA S 0) (vA S 1) (vr S) (vA S 3) (vA S 4) (vs S) (vA S 7) ++ (wMS cI a (o + 6) (a o) (vh S) (vc S) (sumP S) (vA S 5) (vA S 6) (vA S 8) (vA S 9) (vA S 10) (vA S 11) (vA S 12) (vA S 2) my qu ++ (wMS cI a (o + 17) (a o) (vh T) (vc T) ri2 (vA T 5) (vA T 6) (vA T 8) (vA T 9) (vA T 10) (vA T 11) (vA T 12) (vA T 2) my2 qu2))) H locs := HW
        refine W.eq (g2 := F0 m 30 ls [.int (figV S i), .long ((fN (figV S) i 1481) * (31 : Int64))]) rfl ?_
        refine lv_i2l (v := Int32.toInt64 (figV S i)) hx hb dX5_digest_30 rfl ?_
        refine lv_ladd hx hb dX5_digest_31 ?_
        refine lv_lstore_n (lv' := [(1, .long (((fN (figV S) i 1481) * (31 : Int64)) + (Int32.toInt64 (figV S i)))), (3, .int (nI i)), (0, .ref (a o))]) hx hb dX5_digest_32 rfl hl (Nat.le_of_ble_eq_true rfl) rfl (fun ls hl => ?_)
        refine lv_iinc (v := (nI (i + 1))) (lv' := [(3, .int (nI (i + 1))), (1, .long (((fN (figV S) i 1481) * (31 : Int64)) + (Int32.toInt64 (figV S i)))), (0, .ref (a o))]) hx hb dX5_digest_33 hl (k := 1) rfl (inc1 _) (Nat.le_of_ble_eq_true rfl) rfl (fun ls hl => ?_)
        refine lv_goto (tgt := 11) hx hb dX5_digest_36 (by decide) ?_
        exact ih11 _ (by omega) (i + 1) rfl (by omega) _ _ _ HW (lv_sub hl [0, 1, 2] rfl)
  refine lv_iconst (v := 0) hx hb dX5_digest_9 (by decide) ?_
  refine lv_istore_n (lv' := [(3, .int (0 : Int32)), (1, .long (1481 : Int64)), (0, .ref (a o))]) hx hb dX5_digest_10 rfl hl (Nat.le_of_ble_eq_true rfl) rfl (fun ls hl => ?_)
  exact lp11 _ 0 rfl (by omega) _ _ _ HW (lv_sub hl [0, 1, 2] rfl)
