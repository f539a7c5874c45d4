theorem xgood_27 : ∀ w ∈ Cond.classLink RX3 23 exI :: Cond.initialized exI :: vx_atS RX3 27 exI nms, vx_ot w = true := by decide +kernel
theorem xgood_34 : ∀ w ∈ Cond.classLink RX3 30 exA :: Cond.initialized exA :: vx_atS RX3 34 exA nms, vx_ot w = true := by decide +kernel
theorem xgood_49 : ∀ w ∈ Cond.classLink RX3 45 exS :: Cond.initialized exS :: vx_atS RX3 49 exS nms, vx_ot w = true := by decide +kernel
theorem wi_nat {x : Int32} (n : Nat) (hn : n < 2 ^ 31) (h : 0 ≤ x ∧ x ≤ nI n) : ∃ k : Nat, k ≤ n ∧ x = nI k := by
  obtain ⟨j, hj, rfl⟩ := nI_of (Int32.not_lt.mpr h.1)
  exact ⟨j, (nI_leI hj hn).mp h.2, rfl⟩
theorem run_lt {n : Nat} (h6 : n ≤ 6) (h : ¬ 6 ≤ nI n) : n < 6 := by
  rcases Nat.lt_or_ge n 6 with h1 | h1
  · exact h1
  · exact absurd ((nI_leI (a := 6) (b := n) (by decide) (by omega)).mpr h1) h
theorem ski_lt {n : Nat} (h8 : n ≤ 8) (h : ¬ 8 ≤ nI n) : n < 8 := by
  rcases Nat.lt_or_ge n 8 with h1 | h1
  · exact h1
  · exact absurd ((nI_leI (a := 8) (b := n) (by decide) (by omega)).mpr h1) h
theorem rep_new {ns : Nat} {q : Nat → List Nat} {qt qp : Nat → Int32} (h : Rep ns q qt qp) : Rep (ns + 1) q (upd qt ns (-1)) qp := by
  have hne : ∀ j, j < ns → j ≠ ns := fun j hj => by omega
  refine ⟨fun k hk => ?_, fun t p k ht hp => ?_, fun t ht => ?_⟩
  · by_cases hkn : k = ns
    · left; rw [hkn]; exact pk_us
    · rw [pk_un hkn]; exact h.1 k (by omega)
  · obtain ⟨h1, h2, h3⟩ := h.2.1 t p k ht hp
    exact ⟨by omega, by rw [pk_un (hne k h1)]; exact h2, h3⟩
  · simp only [cntE, cntE_out (Nat.le_refl ns), pk_us]
    rw [if_neg (nI_nm1' (by omega))]; exact h.2.2 t ht
def kRun (S : VS) (t z : Int32) : Int32 := if ¬ (0 ≤ t ∧ t ≤ 2) then 1 else if ¬ (1 ≤ z ∧ z ≤ 9) then 2 else if 6 ≤ nI (vr S) then 3 else 0
def sRun (S : VS) (t z : Int32) : VS := mkV (vh S) (vr S + 1) (vs S) (vc S) (setR (setR (setR (vA S) 3 (upd (vA S 3) (vr S) t)) 4 (upd (vA S 4) (vr S) z)) 5 (upd (vA S 5) (vr S) 30)) (vq S)
def kSetP (t z : Int32) : Int32 := if ¬ (0 ≤ t ∧ t ≤ 2) then 1 else if ¬ (1 ≤ z ∧ z ≤ 4) then 2 else 0
def sSetP (S : VS) (t z : Int32) : VS := mkV (vh S) (vr S) (vs S) (vc S) (setR (vA S) 1 (upd (vA S 1) (natI t) z)) (vq S)
def kSetF (t z : Int32) : Int32 := if ¬ (0 ≤ t ∧ t ≤ 5) then 1 else if ¬ (0 ≤ z ∧ z ≤ 3) then 2 else 0
def sSetF (S : VS) (t z : Int32) : VS := mkV (vh S) (vr S) (vs S) (vc S) (setR (vA S) 0 (upd (vA S 0) (natI t) z)) (vq S)
def kCan (S : VS) (x : Int32) : Int32 := if ¬ (0 ≤ x ∧ x < nI (vr S)) then 1 else if ¬ 3 ≤ vc S then 2 else if ¬ vA S 5 (natI x) < 90 then 2 else 0
def sCan (S : VS) (x : Int32) : VS := mkV (vh S) (vr S) (vs S) (vc S - 3) (setR (vA S) 5 (upd (vA S 5) (natI x) (heldI (vA S 5 (natI x) + 12) 0 90))) (vq S)
def kBla (S : VS) (x : Int32) : Int32 := if ¬ (0 ≤ x ∧ x < nI (vr S)) then 1 else if ¬ 300 ≤ vA S 5 (natI x) * vA S 4 (natI x) then 2 else 0
def sBla (S : VS) (x : Int32) : VS := mkV (vh S) (vr S) (vs S) (vc S) (setR (vA S) 5 (upd (vA S 5) (natI x) (vA S 5 (natI x) / 2))) (vq S)
def kSki (S : VS) (z y : Int32) : Int32 := if ¬ (1 ≤ z ∧ z ≤ 9) then 1 else if ¬ (0 ≤ y ∧ y ≤ 60) then 1 else if 8 ≤ nI (vs S) then 2 else 0
def sSki (S : VS) (z y : Int32) : VS := mkV (vh S) (vr S) (vs S + 1) (vc S) (setR (setR (vA S) 7 (upd (vA S 7) (vs S) z)) 8 (upd (vA S 8) (vs S) y)) (vq S)
def kWax (S : VS) (x z : Int32) : Int32 := if ¬ (0 ≤ x ∧ x < nI (vs S)) then 1 else if ¬ (0 ≤ z ∧ z ≤ 3) then 2 else if ¬ 2 ≤ vA S 8 (natI x) then 3 else 0
def sWax (S : VS) (x z : Int32) : VS := mkV (vh S) (vr S) (vs S) (vc S + 2) (setR (setR (setR (vA S) 8 (upd (vA S 8) (natI x) (vA S 8 (natI x) - 2))) 9 (upd (vA S 9) (natI x) z)) 10 (upd (vA S 10) (natI x) 10)) (vq S)
theorem hd_X3_run : yX3_run.cls ≠ "java/lang/invoke/MethodHandle" ∧ yX3_run.cls ≠ "java/lang/invoke/VarHandle" ∧ (parseMethodDescriptor yX3_run.desc).map (fun d => d.parameters.length) = some 2 := by decide +kernel
theorem fl_X3_run_10 : Cond.fieldLink RX3 10 (TX3 0).1 (TX3 0).2.1 (TX3 0).2.2.1 ∈ wsX3_run := by decide +kernel
theorem in_X3_run_3 : ∀ x ∈ u_ws RX3 TX3 2, x ∈ wsX3_run := by decide +kernel
theorem fl_X3_run_35 : Cond.fieldLink RX3 35 (TX2 5).1 (TX2 5).2.1 (TX2 5).2.2.1 ∈ wsX3_run := by decide +kernel
theorem in_X3_run_2 : ∀ x ∈ u_ws RX2 TX2 7, x ∈ wsX3_run := by decide +kernel
theorem xk_X3_run_exS : Cond.classLink RX3 45 exS ∈ wsX3_run ∧ Cond.initialized exS ∈ wsX3_run := ⟨by decide +kernel, by decide +kernel⟩
theorem xa_X3_run_exS : ∀ x ∈ (vx_atS RX3 49 exS nms).filter goodWord, x ∈ wsX3_run := by decide +kernel
theorem xk_X3_run_exA : Cond.classLink RX3 30 exA ∈ wsX3_run ∧ Cond.initialized exA ∈ wsX3_run := ⟨by decide +kernel, by decide +kernel⟩
theorem xa_X3_run_exA : ∀ x ∈ (vx_atS RX3 34 exA nms).filter goodWord, x ∈ wsX3_run := by decide +kernel
theorem xk_X3_run_exI : Cond.classLink RX3 23 exI ∈ wsX3_run ∧ Cond.initialized exI ∈ wsX3_run := ⟨by decide +kernel, by decide +kernel⟩
theorem xa_X3_run_exI : ∀ x ∈ (vx_atS RX3 27 exI nms).filter goodWord, x ∈ wsX3_run := by decide +kernel
set_option maxRecDepth 100000 in
set_option maxHeartbeats 4000000 in
theorem c_X3_run {l : Launch} {D : va_G} {cI cL : ClassId} {a : Nat → Nat} (hst : l.stackTraces = false) (o : Nat) (S : VS) (qt : Nat → Int32) (qp : Nat → Int32) (T : VS) (qt2 : Nat → Int32) (qp2 : Nat → Int32) (t : Int32) (z : Int32) (hn6 : vr S ≤ 6) (hn8 : vs S ≤ 8) : CtX l yX3_run wsX3_run { frames := 6, cells := 1, slots := 6, locals := 92 } D (ty2 cI cL) [.ref (a o), .int t, .int z] (wXo cI a o  ++ (wVo cI a (o + 1) (vh S) (vc S) (vA S 0) (vA S 1) (vA S 2) ++ (wR cI a ((o + 1) + 4) (vr S) (vA S 3) (vA S 4) (vA S 5) (vA S 6) ++ (wS cI a ((o + 1) + 9) (vs S) (vA S 7) (vA S 8) (vA S 9) (vA S 10) (vA S 11) (vA S 12) qt qp ++ (wVo cI a (o + 19) (vh T) (vc T) (vA T 0) (vA T 1) (vA T 2) ++ (wR cI a ((o + 19) + 4) (vr T) (vA T 3) (vA T 4) (vA T 5) (vA T 6) ++ (wS cI a ((o + 19) + 9) (vs T) (vA T 7) (vA T 8) (vA T 9) (vA T 10) (vA T 11) (vA T 12) qt2 qp2))))))) (fun v w' => kRun S t z = 0 ∧ v = some (.int (nI (vr S))) ∧ w' = wXo cI a o  ++ (wVo cI a (o + 1) (vh (sRun S t z)) (vc (sRun S t z)) (vA (sRun S t z) 0) (vA (sRun S t z) 1) (vA (sRun S t z) 2) ++ (wR cI a ((o + 1) + 4) (vr (sRun S t z)) (vA (sRun S t z) 3) (vA (sRun S t z) 4) (vA (sRun S t z) 5) (vA (sRun S t z) 6) ++ (wS cI a ((o + 1) + 9) (vs (sRun S t z)) (vA (sRun S t z) 7) (vA (sRun S t z) 8) (vA (sRun S t z) 9) (vA (sRun S t z) 10) (vA (sRun S t z) 11) (vA (sRun S t z) 12) qt qp ++ (wVo cI a (o + 19) (vh T) (vc T) (vA T 0) (vA T 1) (vA T 2) ++ (wR cI a ((o + 19) + 4) (vr T) (vA T 3) (vA T 4) (vA T 5) (vA T 6) ++ (wS cI a ((o + 19) + 9) (vs T) (vA T 7) (vA T 8) (vA T 9) (vA T 10) (vA T 11) (vA T 12) qt2 qp2))))))) (fun E w' => ((E = exI ∧ kRun S t z = 1) ∨ (E = exA ∧ kRun S t z = 2) ∨ (E = exS ∧ kRun S t z = 3)) ∧ w' = wXo cI a o  ++ (wVo cI a (o + 1) (vh S) (vc S) (vA S 0) (vA S 1) (vA S 2) ++ (wR cI a ((o + 1) + 4) (vr S) (vA S 3) (vA S 4) (vA S 5) (vA S 6) ++ (wS cI a ((o + 1) + 9) (vs S) (vA S 7) (vA S 8) (vA S 9) (vA S 10) (vA S 11) (vA S 12) qt qp ++ (wVo cI a (o + 19) (vh T) (vc T) (vA T 0) (vA T 1) (vA T 2) ++ (wR cI a ((o + 19) + 4) (vr T) (vA T 3) (vA T 4) (vA T 5) (vA T 6) ++ (wS cI a ((o + 19) + 9) (vs T) (vA T 7) (vA T 8) (vA T 9) (vA T 10) (vA T 11) (vA T 12) qt2 qp2))))))) := by
  refine CtX.of (cc := cX3_run) (maxL := 3) (ret := (some .int)) (by decide) rfl (Nat.le_of_ble_eq_true rfl) ?_
  intro p e s m below meth c A ls CX hext hZ HW hl
  obtain ⟨hx, hb, hml, hr, hown, hts, hK, hA, hlk⟩ := id CX
  have hl : lv_has ls 3 [(0, .ref (a o)), (1, .int t), (2, .int z)] := hl
  refine lv_iload_n hx hb dX3_run_0 rfl (lv_at hl 1 rfl) ?_
  refine lv_iconst (v := 0) hx hb dX3_run_1 (by decide) ?_
  refine lv_iconst (v := 2) hx hb dX3_run_2 (by decide) ?_
  refine g_callS CX HW hl.1 ([]) (wXo cI a o  ++ (wVo cI a (o + 1) (vh S) (vc S) (vA S 0) (vA S 1) (vA S 2) ++ (wR cI a ((o + 1) + 4) (vr S) (vA S 3) (vA S 4) (vA S 5) (vA S 6) ++ (wS cI a ((o + 1) + 9) (vs S) (vA S 7) (vA S 8) (vA S 9) (vA S 10) (vA S 11) (vA S 12) qt qp ++ (wVo cI a (o + 19) (vh T) (vc T) (vA T 0) (vA T 1) (vA T 2) ++ (wR cI a ((o + 19) + 4) (vr T) (vA T 3) (vA T 4) (vA T 5) (vA T 6) ++ (wS cI a ((o + 19) + 9) (vs T) (vA T 7) (vA T 8) (vA T 9) (vA T 10) (vA T 11) (vA T 12) qt2 qp2))))))) (c_X3_isWithin t (0 : Int32) (2 : Int32)) rfl gX3_run_X3_isWithin rfl hd_X3_isWithin ⟨rfl, rfl, (Nat.le_of_ble_eq_true rfl), (Nat.le_of_ble_eq_true rfl)⟩ ⟨(Nat.zero_le _), (Nat.zero_le _)⟩ rfl rfl (Nat.le_of_ble_eq_true rfl) dX3_run_3 (fun v w1 H locs hp HW => ?_)
  obtain ⟨rfl, rfl⟩ := hp
  have HW : Hw D A s (wXo cI a o  ++ (wVo cI a (o + 1) (vh S) (vc S) (vA S 0) (vA S 1) (vA S 2) ++ (wR cI a ((o + 1) + 4) (vr S) (vA S 3) (vA S 4) (vA S 5) (vA S 6) ++ (wS cI a ((o + 1) + 9) (vs S) (vA S 7) (vA S 8) (vA S 9) (vA S 10) (vA S 11) (vA S 12) qt qp ++ (wVo cI a (o + 19) (vh T) (vc T) (vA T 0) (vA T 1) (vA T 2) ++ (wR cI a ((o + 19) + 4) (vr T) (vA T 3) (vA T 4) (vA T 5) (vA T 6) ++ (wS cI a ((o + 19) + 9) (vs T) (vA T 7) (vA T 8) (vA T 9) (vA T 10) (vA T 11) (vA T 12) qt2 qp2))))))) H locs := HW
  refine W.eq (g2 := F0 m 6 ls [.int (bI ((0 : Int32) ≤ t ∧ t ≤ (2 : Int32)))]) rfl ?_
  refine g_ifne_b (tgt := 19) hx hb dX3_run_6 (by decide) (fun c6 => ?_) (fun c6 => ?_)
  · refine lv_iload_n hx hb dX3_run_19 rfl (lv_at hl 2 rfl) ?_
    refine lv_iconst (v := 1) hx hb dX3_run_20 (by decide) ?_
    refine lv_bipush (v := 9) hx hb dX3_run_21 (by decide) ?_
    refine g_callS CX HW hl.1 ([]) (wXo cI a o  ++ (wVo cI a (o + 1) (vh S) (vc S) (vA S 0) (vA S 1) (vA S 2) ++ (wR cI a ((o + 1) + 4) (vr S) (vA S 3) (vA S 4) (vA S 5) (vA S 6) ++ (wS cI a ((o + 1) + 9) (vs S) (vA S 7) (vA S 8) (vA S 9) (vA S 10) (vA S 11) (vA S 12) qt qp ++ (wVo cI a (o + 19) (vh T) (vc T) (vA T 0) (vA T 1) (vA T 2) ++ (wR cI a ((o + 19) + 4) (vr T) (vA T 3) (vA T 4) (vA T 5) (vA T 6) ++ (wS cI a ((o + 19) + 9) (vs T) (vA T 7) (vA T 8) (vA T 9) (vA T 10) (vA T 11) (vA T 12) qt2 qp2))))))) (c_X3_isWithin z (1 : Int32) (9 : Int32)) rfl gX3_run_X3_isWithin rfl hd_X3_isWithin ⟨rfl, rfl, (Nat.le_of_ble_eq_true rfl), (Nat.le_of_ble_eq_true rfl)⟩ ⟨(Nat.zero_le _), (Nat.zero_le _)⟩ rfl rfl (Nat.le_of_ble_eq_true rfl) dX3_run_23 (fun v w1 H locs hp HW => ?_)
    obtain ⟨rfl, rfl⟩ := hp
    have HW : Hw D A s (wXo cI a o  ++ (wVo cI a (o + 1) (vh S) (vc S) (vA S 0) (vA S 1) (vA S 2) ++ (wR cI a ((o + 1) + 4) (vr S) (vA S 3) (vA S 4) (vA S 5) (vA S 6) ++ (wS cI a ((o + 1) + 9) (vs S) (vA S 7) (vA S 8) (vA S 9) (vA S 10) (vA S 11) (vA S 12) qt qp ++ (wVo cI a (o + 19) (vh T) (vc T) (vA T 0) (vA T 1) (vA T 2) ++ (wR cI a ((o + 19) + 4) (vr T) (vA T 3) (vA T 4) (vA T 5) (vA T 6) ++ (wS cI a ((o + 19) + 9) (vs T) (vA T 7) (vA T 8) (vA T 9) (vA T 10) (vA T 11) (vA T 12) qt2 qp2))))))) H locs := HW
    refine W.eq (g2 := F0 m 26 ls [.int (bI ((1 : Int32) ≤ z ∧ z ≤ (9 : Int32)))]) rfl ?_
    refine g_ifne_b (tgt := 39) hx hb dX3_run_26 (by decide) (fun c26 => ?_) (fun c26 => ?_)
    · refine lv_aload_n hx hb dX3_run_39 rfl (lv_at hl 0 rfl) ?_
      refine g_get CX HW in_X3_run_3 0 0 rfl rfl (Nat.le_of_ble_eq_true rfl) fl_X3_run_10 rfl dX3_run_40 ?_
      refine g_get CX HW in_X3_run_2 1 5 rfl rfl (Nat.le_of_ble_eq_true rfl) fl_X3_run_35 rfl dX3_run_43 ?_
      refine g_callV CX HW hl.1 (wXo cI a o  ++ (wVo cI a (o + 1) (vh S) (vc S) (vA S 0) (vA S 1) (vA S 2))) (wS cI a ((o + 1) + 9) (vs S) (vA S 7) (vA S 8) (vA S 9) (vA S 10) (vA S 11) (vA S 12) qt qp ++ (wVo cI a (o + 19) (vh T) (vc T) (vA T 0) (vA T 1) (vA T 2) ++ (wR cI a ((o + 19) + 4) (vr T) (vA T 3) (vA T 4) (vA T 5) (vA T 6) ++ (wS cI a ((o + 19) + 9) (vs T) (vA T 7) (vA T 8) (vA T 9) (vA T 10) (vA T 11) (vA T 12) qt2 qp2)))) (c_X0_isFull ((o + 1) + 4) (vr S) (vA S 3) (vA S 4) (vA S 5) (vA S 6)) rfl 0 rfl rfl gX3_run_X0_isFull rfl ⟨rfl, hd_X0_isFull⟩ ⟨rfl, rfl, (Nat.le_of_ble_eq_true rfl), (Nat.le_of_ble_eq_true rfl)⟩ ⟨(Nat.zero_le _), (Nat.zero_le _)⟩ rfl rfl (Nat.le_of_ble_eq_true rfl) dX3_run_46 (fun v w1 H locs hp HW => ?_)
      obtain ⟨rfl, rfl⟩ := hp
      have HW : Hw D A s (wXo cI a o  ++ (wVo cI a (o + 1) (vh S) (vc S) (vA S 0) (vA S 1) (vA S 2) ++ (wR cI a ((o + 1) + 4) (vr S) (vA S 3) (vA S 4) (vA S 5) (vA S 6) ++ (wS cI a ((o + 1) + 9) (vs S) (vA S 7) (vA S 8) (vA S 9) (vA S 10) (vA S 11) (vA S 12) qt qp ++ (wVo cI a (o + 19) (vh T) (vc T) (vA T 0) (vA T 1) (vA T 2) ++ (wR cI a ((o + 19) + 4) (vr T) (vA T 3) (vA T 4) (vA T 5) (vA T 6) ++ (wS cI a ((o + 19) + 9) (vs T) (vA T 7) (vA T 8) (vA T 9) (vA T 10) (vA T 11) (vA T 12) qt2 qp2))))))) H locs := HW
      refine W.eq (g2 := F0 m 49 ls [.int (bI (6 ≤ nI (vr S)))]) rfl ?_
      refine g_ifeq_b (tgt := 62) hx hb dX3_run_49 (by decide) (fun c49 => ?_) (fun c49 => ?_)
      · refine lv_aload_n hx hb dX3_run_62 rfl (lv_at hl 0 rfl) ?_
        refine g_get CX HW in_X3_run_3 0 0 rfl rfl (Nat.le_of_ble_eq_true rfl) fl_X3_run_10 rfl dX3_run_63 ?_
        refine g_get CX HW in_X3_run_2 1 5 rfl rfl (Nat.le_of_ble_eq_true rfl) fl_X3_run_35 rfl dX3_run_66 ?_
        refine lv_iload_n hx hb dX3_run_69 rfl (lv_at hl 1 rfl) ?_
        refine lv_iload_n hx hb dX3_run_70 rfl (lv_at hl 2 rfl) ?_
        refine g_callV CX HW hl.1 (wXo cI a o  ++ (wVo cI a (o + 1) (vh S) (vc S) (vA S 0) (vA S 1) (vA S 2))) (wS cI a ((o + 1) + 9) (vs S) (vA S 7) (vA S 8) (vA S 9) (vA S 10) (vA S 11) (vA S 12) qt qp ++ (wVo cI a (o + 19) (vh T) (vc T) (vA T 0) (vA T 1) (vA T 2) ++ (wR cI a ((o + 19) + 4) (vr T) (vA T 3) (vA T 4) (vA T 5) (vA T 6) ++ (wS cI a ((o + 19) + 9) (vs T) (vA T 7) (vA T 8) (vA T 9) (vA T 10) (vA T 11) (vA T 12) qt2 qp2)))) (c_X0_add ((o + 1) + 4) (vr S) (vA S 3) (vA S 4) (vA S 5) (vA S 6) t z (run_lt hn6 c49)) rfl 0 rfl rfl gX3_run_X0_add rfl ⟨rfl, hd_X0_add⟩ ⟨rfl, rfl, (Nat.le_of_ble_eq_true rfl), (Nat.le_of_ble_eq_true rfl)⟩ ⟨(Nat.zero_le _), (Nat.zero_le _)⟩ rfl rfl (Nat.le_of_ble_eq_true rfl) dX3_run_71 (fun v w1 H locs hp HW => ?_)
        obtain ⟨rfl, rfl⟩ := hp
        have HW : Hw D A s (wXo cI a o  ++ (wVo cI a (o + 1) (vh S) (vc S) (vA S 0) (vA S 1) (vA S 2) ++ (wR cI a ((o + 1) + 4) ((vr S) + 1) (upd (vA S 3) (vr S) t) (upd (vA S 4) (vr S) z) (upd (vA S 5) (vr S) 30) (vA S 6) ++ (wS cI a ((o + 1) + 9) (vs S) (vA S 7) (vA S 8) (vA S 9) (vA S 10) (vA S 11) (vA S 12) qt qp ++ (wVo cI a (o + 19) (vh T) (vc T) (vA T 0) (vA T 1) (vA T 2) ++ (wR cI a ((o + 19) + 4) (vr T) (vA T 3) (vA T 4) (vA T 5) (vA T 6) ++ (wS cI a ((o + 19) + 9) (vs T) (vA T 7) (vA T 8) (vA T 9) (vA T 10) (vA T 11) (vA T 12) qt2 qp2))))))) H locs := HW
        refine W.eq (g2 := F0 m 74 ls [.int (nI (vr S))]) rfl ?_
        exact gx_ret (Nat.le_of_ble_eq_true rfl) (Nat.le_of_ble_eq_true rfl) (g_iret CX HW rfl ⟨(by rw [kRun]; rw [if_neg (fun h9 => h9 c6), if_neg (fun h9 => h9 c26), if_neg c49]), rfl, rfl⟩ dX3_run_74)
      · exact gx_throw CX hext hZ HW hl.1 hst (cls := exS) (text := "there are 6 runs") (ik := 45) (is := 47) (ic := 49) (by decide +kernel) xk_X3_run_exS.1 xk_X3_run_exS.2 (by decide +kernel) xa_X3_run_exS xbad_49 xgood_49 dX3_run_52 dX3_run_55 dX3_run_56 dX3_run_58 dX3_run_61 (Nat.le_of_ble_eq_true rfl) (Nat.le_of_ble_eq_true rfl) (Nat.le_of_ble_eq_true rfl) (Nat.le_of_ble_eq_true rfl) (Nat.le_of_ble_eq_true rfl) (Nat.le_of_ble_eq_true rfl) (⟨Or.inr (Or.inr (⟨rfl, by rw [kRun]; rw [if_neg (fun h9 => h9 c6), if_neg (fun h9 => h9 c26), if_pos c49]⟩)), rfl⟩)
    · exact gx_throw CX hext hZ HW hl.1 hst (cls := exA) (text := "slope is not 1 to 9") (ik := 30) (is := 32) (ic := 34) (by decide +kernel) xk_X3_run_exA.1 xk_X3_run_exA.2 (by decide +kernel) xa_X3_run_exA xbad_34 xgood_34 dX3_run_29 dX3_run_32 dX3_run_33 dX3_run_35 dX3_run_38 (Nat.le_of_ble_eq_true rfl) (Nat.le_of_ble_eq_true rfl) (Nat.le_of_ble_eq_true rfl) (Nat.le_of_ble_eq_true rfl) (Nat.le_of_ble_eq_true rfl) (Nat.le_of_ble_eq_true rfl) (⟨Or.inr (Or.inl ⟨rfl, by rw [kRun]; rw [if_neg (fun h9 => h9 c6), if_pos c26]⟩), rfl⟩)
  · exact gx_throw CX hext hZ HW hl.1 hst (cls := exI) (text := "no such tow") (ik := 23) (is := 25) (ic := 27) (by decide +kernel) xk_X3_run_exI.1 xk_X3_run_exI.2 (by decide +kernel) xa_X3_run_exI xbad_27 xgood_27 dX3_run_9 dX3_run_12 dX3_run_13 dX3_run_15 dX3_run_18 (Nat.le_of_ble_eq_true rfl) (Nat.le_of_ble_eq_true rfl) (Nat.le_of_ble_eq_true rfl) (Nat.le_of_ble_eq_true rfl) (Nat.le_of_ble_eq_true rfl) (Nat.le_of_ble_eq_true rfl) (⟨Or.inl ⟨rfl, by rw [kRun]; rw [if_pos c6]⟩, rfl⟩)

theorem hd_X3_setPommels : yX3_setPommels.cls ≠ "java/lang/invoke/MethodHandle" ∧ yX3_setPommels.cls ≠ "java/lang/invoke/VarHandle" ∧ (parseMethodDescriptor yX3_setPommels.desc).map (fun d => d.parameters.length) = some 2 := by decide +kernel
theorem fl_X3_setPommels_10 : Cond.fieldLink RX3 10 (TX3 0).1 (TX3 0).2.1 (TX3 0).2.2.1 ∈ wsX3_setPommels := by decide +kernel
theorem in_X3_setPommels_3 : ∀ x ∈ u_ws RX3 TX3 2, x ∈ wsX3_setPommels := by decide +kernel
theorem fl_X3_setPommels_56 : Cond.fieldLink RX3 56 (TX2 3).1 (TX2 3).2.1 (TX2 3).2.2.1 ∈ wsX3_setPommels := by decide +kernel
theorem in_X3_setPommels_2 : ∀ x ∈ u_ws RX2 TX2 7, x ∈ wsX3_setPommels := by decide +kernel
theorem xk_X3_setPommels_exA : Cond.classLink RX3 30 exA ∈ wsX3_setPommels ∧ Cond.initialized exA ∈ wsX3_setPommels := ⟨by decide +kernel, by decide +kernel⟩
theorem xa_X3_setPommels_exA : ∀ x ∈ (vx_atS RX3 34 exA nms).filter goodWord, x ∈ wsX3_setPommels := by decide +kernel
theorem xk_X3_setPommels_exI : Cond.classLink RX3 23 exI ∈ wsX3_setPommels ∧ Cond.initialized exI ∈ wsX3_setPommels := ⟨by decide +kernel, by decide +kernel⟩
theorem xa_X3_setPommels_exI : ∀ x ∈ (vx_atS RX3 27 exI nms).filter goodWord, x ∈ wsX3_setPommels := by decide +kernel
set_option maxRecDepth 100000 in
set_option maxHeartbeats 4000000 in
theorem c_X3_setPommels {l : Launch} {D : va_G} {cI cL : ClassId} {a : Nat → Nat} (hst : l.stackTraces = false) (o : Nat) (S : VS) (qt : Nat → Int32) (qp : Nat → Int32) (T : VS) (qt2 : Nat → Int32) (qp2 : Nat → Int32) (t : Int32) (z : Int32) : CtX l yX3_setPommels wsX3_setPommels { frames := 6, cells := 1, slots := 6, locals := 92 } D (ty2 cI cL) [.ref (a o), .int t, .int z] (wXo cI a o  ++ (wVo cI a (o + 1) (vh S) (vc S) (vA S 0) (vA S 1) (vA S 2) ++ (wR cI a ((o + 1) + 4) (vr S) (vA S 3) (vA S 4) (vA S 5) (vA S 6) ++ (wS cI a ((o + 1) + 9) (vs S) (vA S 7) (vA S 8) (vA S 9) (vA S 10) (vA S 11) (vA S 12) qt qp ++ (wVo cI a (o + 19) (vh T) (vc T) (vA T 0) (vA T 1) (vA T 2) ++ (wR cI a ((o + 19) + 4) (vr T) (vA T 3) (vA T 4) (vA T 5) (vA T 6) ++ (wS cI a ((o + 19) + 9) (vs T) (vA T 7) (vA T 8) (vA T 9) (vA T 10) (vA T 11) (vA T 12) qt2 qp2))))))) (fun v w' => kSetP t z = 0 ∧ v = some (.int (vA S 1 (natI t))) ∧ w' = wXo cI a o  ++ (wVo cI a (o + 1) (vh (sSetP S t z)) (vc (sSetP S t z)) (vA (sSetP S t z) 0) (vA (sSetP S t z) 1) (vA (sSetP S t z) 2) ++ (wR cI a ((o + 1) + 4) (vr (sSetP S t z)) (vA (sSetP S t z) 3) (vA (sSetP S t z) 4) (vA (sSetP S t z) 5) (vA (sSetP S t z) 6) ++ (wS cI a ((o + 1) + 9) (vs (sSetP S t z)) (vA (sSetP S t z) 7) (vA (sSetP S t z) 8) (vA (sSetP S t z) 9) (vA (sSetP S t z) 10) (vA (sSetP S t z) 11) (vA (sSetP S t z) 12) qt qp ++ (wVo cI a (o + 19) (vh T) (vc T) (vA T 0) (vA T 1) (vA T 2) ++ (wR cI a ((o + 19) + 4) (vr T) (vA T 3) (vA T 4) (vA T 5) (vA T 6) ++ (wS cI a ((o + 19) + 9) (vs T) (vA T 7) (vA T 8) (vA T 9) (vA T 10) (vA T 11) (vA T 12) qt2 qp2))))))) (fun E w' => ((E = exI ∧ kSetP t z = 1) ∨ (E = exA ∧ kSetP t z = 2)) ∧ w' = wXo cI a o  ++ (wVo cI a (o + 1) (vh S) (vc S) (vA S 0) (vA S 1) (vA S 2) ++ (wR cI a ((o + 1) + 4) (vr S) (vA S 3) (vA S 4) (vA S 5) (vA S 6) ++ (wS cI a ((o + 1) + 9) (vs S) (vA S 7) (vA S 8) (vA S 9) (vA S 10) (vA S 11) (vA S 12) qt qp ++ (wVo cI a (o + 19) (vh T) (vc T) (vA T 0) (vA T 1) (vA T 2) ++ (wR cI a ((o + 19) + 4) (vr T) (vA T 3) (vA T 4) (vA T 5) (vA T 6) ++ (wS cI a ((o + 19) + 9) (vs T) (vA T 7) (vA T 8) (vA T 9) (vA T 10) (vA T 11) (vA T 12) qt2 qp2))))))) := by
  refine CtX.of (cc := cX3_setPommels) (maxL := 4) (ret := (some .int)) (by decide) rfl (Nat.le_of_ble_eq_true rfl) ?_
  intro p e s m below meth c A ls CX hext hZ HW hl
  obtain ⟨hx, hb, hml, hr, hown, hts, hK, hA, hlk⟩ := id CX
  have hl : lv_has ls 4 [(0, .ref (a o)), (1, .int t), (2, .int z)] := hl
  refine lv_iload_n hx hb dX3_setPommels_0 rfl (lv_at hl 1 rfl) ?_
  refine lv_iconst (v := 0) hx hb dX3_setPommels_1 (by decide) ?_
  refine lv_iconst (v := 2) hx hb dX3_setPommels_2 (by decide) ?_
  refine g_callS CX HW hl.1 ([]) (wXo cI a o  ++ (wVo cI a (o + 1) (vh S) (vc S) (vA S 0) (vA S 1) (vA S 2) ++ (wR cI a ((o + 1) + 4) (vr S) (vA S 3) (vA S 4) (vA S 5) (vA S 6) ++ (wS cI a ((o + 1) + 9) (vs S) (vA S 7) (vA S 8) (vA S 9) (vA S 10) (vA S 11) (vA S 12) qt qp ++ (wVo cI a (o + 19) (vh T) (vc T) (vA T 0) (vA T 1) (vA T 2) ++ (wR cI a ((o + 19) + 4) (vr T) (vA T 3) (vA T 4) (vA T 5) (vA T 6) ++ (wS cI a ((o + 19) + 9) (vs T) (vA T 7) (vA T 8) (vA T 9) (vA T 10) (vA T 11) (vA T 12) qt2 qp2))))))) (c_X3_isWithin t (0 : Int32) (2 : Int32)) rfl gX3_setPommels_X3_isWithin rfl hd_X3_isWithin ⟨rfl, rfl, (Nat.le_of_ble_eq_true rfl), (Nat.le_of_ble_eq_true rfl)⟩ ⟨(Nat.zero_le _), (Nat.zero_le _)⟩ rfl rfl (Nat.le_of_ble_eq_true rfl) dX3_setPommels_3 (fun v w1 H locs hp HW => ?_)
  obtain ⟨rfl, rfl⟩ := hp
  have HW : Hw D A s (wXo cI a o  ++ (wVo cI a (o + 1) (vh S) (vc S) (vA S 0) (vA S 1) (vA S 2) ++ (wR cI a ((o + 1) + 4) (vr S) (vA S 3) (vA S 4) (vA S 5) (vA S 6) ++ (wS cI a ((o + 1) + 9) (vs S) (vA S 7) (vA S 8) (vA S 9) (vA S 10) (vA S 11) (vA S 12) qt qp ++ (wVo cI a (o + 19) (vh T) (vc T) (vA T 0) (vA T 1) (vA T 2) ++ (wR cI a ((o + 19) + 4) (vr T) (vA T 3) (vA T 4) (vA T 5) (vA T 6) ++ (wS cI a ((o + 19) + 9) (vs T) (vA T 7) (vA T 8) (vA T 9) (vA T 10) (vA T 11) (vA T 12) qt2 qp2))))))) H locs := HW
  refine W.eq (g2 := F0 m 6 ls [.int (bI ((0 : Int32) ≤ t ∧ t ≤ (2 : Int32)))]) rfl ?_
  refine g_ifne_b (tgt := 19) hx hb dX3_setPommels_6 (by decide) (fun c6 => ?_) (fun c6 => ?_)
  · refine lv_iload_n hx hb dX3_setPommels_19 rfl (lv_at hl 2 rfl) ?_
    refine lv_iconst (v := 1) hx hb dX3_setPommels_20 (by decide) ?_
    refine lv_iconst (v := 4) hx hb dX3_setPommels_21 (by decide) ?_
    refine g_callS CX HW hl.1 ([]) (wXo cI a o  ++ (wVo cI a (o + 1) (vh S) (vc S) (vA S 0) (vA S 1) (vA S 2) ++ (wR cI a ((o + 1) + 4) (vr S) (vA S 3) (vA S 4) (vA S 5) (vA S 6) ++ (wS cI a ((o + 1) + 9) (vs S) (vA S 7) (vA S 8) (vA S 9) (vA S 10) (vA S 11) (vA S 12) qt qp ++ (wVo cI a (o + 19) (vh T) (vc T) (vA T 0) (vA T 1) (vA T 2) ++ (wR cI a ((o + 19) + 4) (vr T) (vA T 3) (vA T 4) (vA T 5) (vA T 6) ++ (wS cI a ((o + 19) + 9) (vs T) (vA T 7) (vA T 8) (vA T 9) (vA T 10) (vA T 11) (vA T 12) qt2 qp2))))))) (c_X3_isWithin z (1 : Int32) (4 : Int32)) rfl gX3_setPommels_X3_isWithin rfl hd_X3_isWithin ⟨rfl, rfl, (Nat.le_of_ble_eq_true rfl), (Nat.le_of_ble_eq_true rfl)⟩ ⟨(Nat.zero_le _), (Nat.zero_le _)⟩ rfl rfl (Nat.le_of_ble_eq_true rfl) dX3_setPommels_22 (fun v w1 H locs hp HW => ?_)
    obtain ⟨rfl, rfl⟩ := hp
    have HW : Hw D A s (wXo cI a o  ++ (wVo cI a (o + 1) (vh S) (vc S) (vA S 0) (vA S 1) (vA S 2) ++ (wR cI a ((o + 1) + 4) (vr S) (vA S 3) (vA S 4) (vA S 5) (vA S 6) ++ (wS cI a ((o + 1) + 9) (vs S) (vA S 7) (vA S 8) (vA S 9) (vA S 10) (vA S 11) (vA S 12) qt qp ++ (wVo cI a (o + 19) (vh T) (vc T) (vA T 0) (vA T 1) (vA T 2) ++ (wR cI a ((o + 19) + 4) (vr T) (vA T 3) (vA T 4) (vA T 5) (vA T 6) ++ (wS cI a ((o + 19) + 9) (vs T) (vA T 7) (vA T 8) (vA T 9) (vA T 10) (vA T 11) (vA T 12) qt2 qp2))))))) H locs := HW
    refine W.eq (g2 := F0 m 25 ls [.int (bI ((1 : Int32) ≤ z ∧ z ≤ (4 : Int32)))]) rfl ?_
    refine g_ifne_b (tgt := 38) hx hb dX3_setPommels_25 (by decide) (fun c25 => ?_) (fun c25 => ?_)
    · obtain ⟨j, hj, rfl⟩ := wi_nat 2 (by decide) c6
      have ej : natI (nI j) = j := natI_nI (by omega)
      · refine lv_aload_n hx hb dX3_setPommels_38 rfl (lv_at hl 0 rfl) ?_
        refine g_get CX HW in_X3_setPommels_3 0 0 rfl rfl (Nat.le_of_ble_eq_true rfl) fl_X3_setPommels_10 rfl dX3_setPommels_39 ?_
        refine g_get CX HW in_X3_setPommels_2 1 3 rfl rfl (Nat.le_of_ble_eq_true rfl) fl_X3_setPommels_56 rfl dX3_setPommels_42 ?_
        refine lv_iload_n hx hb dX3_setPommels_45 rfl (lv_at hl 1 rfl) ?_
        refine g_ald CX HW 3 (k := j) rfl rfl rfl (by omega) (Nat.le_of_ble_eq_true rfl) dX3_setPommels_46 ?_
        refine lv_istore_n (lv' := [(3, .int (vA S 1 j)), (0, .ref (a o)), (1, .int (nI j)), (2, .int z)]) hx hb dX3_setPommels_47 rfl hl (Nat.le_of_ble_eq_true rfl) rfl (fun ls hl => ?_)
        refine lv_aload_n hx hb dX3_setPommels_48 rfl (lv_at hl 1 rfl) ?_
        refine g_get CX HW in_X3_setPommels_3 0 0 rfl rfl (Nat.le_of_ble_eq_true rfl) fl_X3_setPommels_10 rfl dX3_setPommels_49 ?_
        refine g_get CX HW in_X3_setPommels_2 1 3 rfl rfl (Nat.le_of_ble_eq_true rfl) fl_X3_setPommels_56 rfl dX3_setPommels_52 ?_
        refine lv_iload_n hx hb dX3_setPommels_55 rfl (lv_at hl 2 rfl) ?_
        refine lv_iload_n hx hb dX3_setPommels_56 rfl (lv_at hl 3 rfl) ?_
        refine g_ast CX HW 3 (k := j) rfl rfl rfl (by omega) (Nat.le_of_ble_eq_true rfl) dX3_setPommels_57 (fun H locs HW => ?_)
        have HW : Hw D A s (wXo cI a o  ++ (wVo cI a (o + 1) (vh S) (vc S) (vA S 0) (upd (vA S 1) j z) (vA S 2) ++ (wR cI a ((o + 1) + 4) (vr S) (vA S 3) (vA S 4) (vA S 5) (vA S 6) ++ (wS cI a ((o + 1) + 9) (vs S) (vA S 7) (vA S 8) (vA S 9) (vA S 10) (vA S 11) (vA S 12) qt qp ++ (wVo cI a (o + 19) (vh T) (vc T) (vA T 0) (vA T 1) (vA T 2) ++ (wR cI a ((o + 19) + 4) (vr T) (vA T 3) (vA T 4) (vA T 5) (vA T 6) ++ (wS cI a ((o + 19) + 9) (vs T) (vA T 7) (vA T 8) (vA T 9) (vA T 10) (vA T 11) (vA T 12) qt2 qp2))))))) H locs := HW
        refine lv_iload_n hx hb dX3_setPommels_58 rfl (lv_at hl 0 rfl) ?_
        exact gx_ret (Nat.le_of_ble_eq_true rfl) (Nat.le_of_ble_eq_true rfl) (g_iret CX HW rfl ⟨(by rw [kSetP]; rw [if_neg (fun h9 => h9 c6), if_neg (fun h9 => h9 c25)]), by rw [ej], by rw [sSetP, ej]; rfl⟩ dX3_setPommels_59)
    · exact gx_throw CX hext hZ HW hl.1 hst (cls := exA) (text := "pommels is not 1 to 4") (ik := 30) (is := 54) (ic := 34) (by decide +kernel) xk_X3_setPommels_exA.1 xk_X3_setPommels_exA.2 (by decide +kernel) xa_X3_setPommels_exA xbad_34 xgood_34 dX3_setPommels_28 dX3_setPommels_31 dX3_setPommels_32 dX3_setPommels_34 dX3_setPommels_37 (Nat.le_of_ble_eq_true rfl) (Nat.le_of_ble_eq_true rfl) (Nat.le_of_ble_eq_true rfl) (Nat.le_of_ble_eq_true rfl) (Nat.le_of_ble_eq_true rfl) (Nat.le_of_ble_eq_true rfl) (⟨Or.inr (⟨rfl, by rw [kSetP]; rw [if_neg (fun h9 => h9 c6), if_pos c25]⟩), rfl⟩)
  · exact gx_throw CX hext hZ HW hl.1 hst (cls := exI) (text := "no such tow") (ik := 23) (is := 25) (ic := 27) (by decide +kernel) xk_X3_setPommels_exI.1 xk_X3_setPommels_exI.2 (by decide +kernel) xa_X3_setPommels_exI xbad_27 xgood_27 dX3_setPommels_9 dX3_setPommels_12 dX3_setPommels_13 dX3_setPommels_15 dX3_setPommels_18 (Nat.le_of_ble_eq_true rfl) (Nat.le_of_ble_eq_true rfl) (Nat.le_of_ble_eq_true rfl) (Nat.le_of_ble_eq_true rfl) (Nat.le_of_ble_eq_true rfl) (Nat.le_of_ble_eq_true rfl) (⟨Or.inl ⟨rfl, by rw [kSetP]; rw [if_pos c6]⟩, rfl⟩)

theorem hd_X3_setFlake : yX3_setFlake.cls ≠ "java/lang/invoke/MethodHandle" ∧ yX3_setFlake.cls ≠ "java/lang/invoke/VarHandle" ∧ (parseMethodDescriptor yX3_setFlake.desc).map (fun d => d.parameters.length) = some 2 := by decide +kernel
theorem fl_X3_setFlake_10 : Cond.fieldLink RX3 10 (TX3 0).1 (TX3 0).2.1 (TX3 0).2.2.1 ∈ wsX3_setFlake := by decide +kernel
theorem in_X3_setFlake_3 : ∀ x ∈ u_ws RX3 TX3 2, x ∈ wsX3_setFlake := by decide +kernel
theorem fl_X3_setFlake_64 : Cond.fieldLink RX3 64 (TX2 2).1 (TX2 2).2.1 (TX2 2).2.2.1 ∈ wsX3_setFlake := by decide +kernel
theorem in_X3_setFlake_2 : ∀ x ∈ u_ws RX2 TX2 7, x ∈ wsX3_setFlake := by decide +kernel
theorem xk_X3_setFlake_exA : Cond.classLink RX3 30 exA ∈ wsX3_setFlake ∧ Cond.initialized exA ∈ wsX3_setFlake := ⟨by decide +kernel, by decide +kernel⟩
theorem xa_X3_setFlake_exA : ∀ x ∈ (vx_atS RX3 34 exA nms).filter goodWord, x ∈ wsX3_setFlake := by decide +kernel
theorem xk_X3_setFlake_exI : Cond.classLink RX3 23 exI ∈ wsX3_setFlake ∧ Cond.initialized exI ∈ wsX3_setFlake := ⟨by decide +kernel, by decide +kernel⟩
theorem xa_X3_setFlake_exI : ∀ x ∈ (vx_atS RX3 27 exI nms).filter goodWord, x ∈ wsX3_setFlake := by decide +kernel
set_option maxRecDepth 100000 in
set_option maxHeartbeats 4000000 in
theorem c_X3_setFlake {l : Launch} {D : va_G} {cI cL : ClassId} {a : Nat → Nat} (hst : l.stackTraces = false) (o : Nat) (S : VS) (qt : Nat → Int32) (qp : Nat → Int32) (T : VS) (qt2 : Nat → Int32) (qp2 : Nat → Int32) (t : Int32) (z : Int32) : CtX l yX3_setFlake wsX3_setFlake { frames := 6, cells := 1, slots := 6, locals := 92 } D (ty2 cI cL) [.ref (a o), .int t, .int z] (wXo cI a o  ++ (wVo cI a (o + 1) (vh S) (vc S) (vA S 0) (vA S 1) (vA S 2) ++ (wR cI a ((o + 1) + 4) (vr S) (vA S 3) (vA S 4) (vA S 5) (vA S 6) ++ (wS cI a ((o + 1) + 9) (vs S) (vA S 7) (vA S 8) (vA S 9) (vA S 10) (vA S 11) (vA S 12) qt qp ++ (wVo cI a (o + 19) (vh T) (vc T) (vA T 0) (vA T 1) (vA T 2) ++ (wR cI a ((o + 19) + 4) (vr T) (vA T 3) (vA T 4) (vA T 5) (vA T 6) ++ (wS cI a ((o + 19) + 9) (vs T) (vA T 7) (vA T 8) (vA T 9) (vA T 10) (vA T 11) (vA T 12) qt2 qp2))))))) (fun v w' => kSetF t z = 0 ∧ v = some (.int (vA S 0 (natI t))) ∧ w' = wXo cI a o  ++ (wVo cI a (o + 1) (vh (sSetF S t z)) (vc (sSetF S t z)) (vA (sSetF S t z) 0) (vA (sSetF S t z) 1) (vA (sSetF S t z) 2) ++ (wR cI a ((o + 1) + 4) (vr (sSetF S t z)) (vA (sSetF S t z) 3) (vA (sSetF S t z) 4) (vA (sSetF S t z) 5) (vA (sSetF S t z) 6) ++ (wS cI a ((o + 1) + 9) (vs (sSetF S t z)) (vA (sSetF S t z) 7) (vA (sSetF S t z) 8) (vA (sSetF S t z) 9) (vA (sSetF S t z) 10) (vA (sSetF S t z) 11) (vA (sSetF S t z) 12) qt qp ++ (wVo cI a (o + 19) (vh T) (vc T) (vA T 0) (vA T 1) (vA T 2) ++ (wR cI a ((o + 19) + 4) (vr T) (vA T 3) (vA T 4) (vA T 5) (vA T 6) ++ (wS cI a ((o + 19) + 9) (vs T) (vA T 7) (vA T 8) (vA T 9) (vA T 10) (vA T 11) (vA T 12) qt2 qp2))))))) (fun E w' => ((E = exI ∧ kSetF t z = 1) ∨ (E = exA ∧ kSetF t z = 2)) ∧ w' = wXo cI a o  ++ (wVo cI a (o + 1) (vh S) (vc S) (vA S 0) (vA S 1) (vA S 2) ++ (wR cI a ((o + 1) + 4) (vr S) (vA S 3) (vA S 4) (vA S 5) (vA S 6) ++ (wS cI a ((o + 1) + 9) (vs S) (vA S 7) (vA S 8) (vA S 9) (vA S 10) (vA S 11) (vA S 12) qt qp ++ (wVo cI a (o + 19) (vh T) (vc T) (vA T 0) (vA T 1) (vA T 2) ++ (wR cI a ((o + 19) + 4) (vr T) (vA T 3) (vA T 4) (vA T 5) (vA T 6) ++ (wS cI a ((o + 19) + 9) (vs T) (vA T 7) (vA T 8) (vA T 9) (vA T 10) (vA T 11) (vA T 12) qt2 qp2))))))) := by
  refine CtX.of (cc := cX3_setFlake) (maxL := 4) (ret := (some .int)) (by decide) rfl (Nat.le_of_ble_eq_true rfl) ?_
  intro p e s m below meth c A ls CX hext hZ HW hl
  obtain ⟨hx, hb, hml, hr, hown, hts, hK, hA, hlk⟩ := id CX
  have hl : lv_has ls 4 [(0, .ref (a o)), (1, .int t), (2, .int z)] := hl
  refine lv_iload_n hx hb dX3_setFlake_0 rfl (lv_at hl 1 rfl) ?_
  refine lv_iconst (v := 0) hx hb dX3_setFlake_1 (by decide) ?_
  refine lv_iconst (v := 5) hx hb dX3_setFlake_2 (by decide) ?_
  refine g_callS CX HW hl.1 ([]) (wXo cI a o  ++ (wVo cI a (o + 1) (vh S) (vc S) (vA S 0) (vA S 1) (vA S 2) ++ (wR cI a ((o + 1) + 4) (vr S) (vA S 3) (vA S 4) (vA S 5) (vA S 6) ++ (wS cI a ((o + 1) + 9) (vs S) (vA S 7) (vA S 8) (vA S 9) (vA S 10) (vA S 11) (vA S 12) qt qp ++ (wVo cI a (o + 19) (vh T) (vc T) (vA T 0) (vA T 1) (vA T 2) ++ (wR cI a ((o + 19) + 4) (vr T) (vA T 3) (vA T 4) (vA T 5) (vA T 6) ++ (wS cI a ((o + 19) + 9) (vs T) (vA T 7) (vA T 8) (vA T 9) (vA T 10) (vA T 11) (vA T 12) qt2 qp2))))))) (c_X3_isWithin t (0 : Int32) (5 : Int32)) rfl gX3_setFlake_X3_isWithin rfl hd_X3_isWithin ⟨rfl, rfl, (Nat.le_of_ble_eq_true rfl), (Nat.le_of_ble_eq_true rfl)⟩ ⟨(Nat.zero_le _), (Nat.zero_le _)⟩ rfl rfl (Nat.le_of_ble_eq_true rfl) dX3_setFlake_3 (fun v w1 H locs hp HW => ?_)
  obtain ⟨rfl, rfl⟩ := hp
  have HW : Hw D A s (wXo cI a o  ++ (wVo cI a (o + 1) (vh S) (vc S) (vA S 0) (vA S 1) (vA S 2) ++ (wR cI a ((o + 1) + 4) (vr S) (vA S 3) (vA S 4) (vA S 5) (vA S 6) ++ (wS cI a ((o + 1) + 9) (vs S) (vA S 7) (vA S 8) (vA S 9) (vA S 10) (vA S 11) (vA S 12) qt qp ++ (wVo cI a (o + 19) (vh T) (vc T) (vA T 0) (vA T 1) (vA T 2) ++ (wR cI a ((o + 19) + 4) (vr T) (vA T 3) (vA T 4) (vA T 5) (vA T 6) ++ (wS cI a ((o + 19) + 9) (vs T) (vA T 7) (vA T 8) (vA T 9) (vA T 10) (vA T 11) (vA T 12) qt2 qp2))))))) H locs := HW
  refine W.eq (g2 := F0 m 6 ls [.int (bI ((0 : Int32) ≤ t ∧ t ≤ (5 : Int32)))]) rfl ?_
  refine g_ifne_b (tgt := 19) hx hb dX3_setFlake_6 (by decide) (fun c6 => ?_) (fun c6 => ?_)
  · refine lv_iload_n hx hb dX3_setFlake_19 rfl (lv_at hl 2 rfl) ?_
    refine lv_iconst (v := 0) hx hb dX3_setFlake_20 (by decide) ?_
    refine lv_iconst (v := 3) hx hb dX3_setFlake_21 (by decide) ?_
    refine g_callS CX HW hl.1 ([]) (wXo cI a o  ++ (wVo cI a (o + 1) (vh S) (vc S) (vA S 0) (vA S 1) (vA S 2) ++ (wR cI a ((o + 1) + 4) (vr S) (vA S 3) (vA S 4) (vA S 5) (vA S 6) ++ (wS cI a ((o + 1) + 9) (vs S) (vA S 7) (vA S 8) (vA S 9) (vA S 10) (vA S 11) (vA S 12) qt qp ++ (wVo cI a (o + 19) (vh T) (vc T) (vA T 0) (vA T 1) (vA T 2) ++ (wR cI a ((o + 19) + 4) (vr T) (vA T 3) (vA T 4) (vA T 5) (vA T 6) ++ (wS cI a ((o + 19) + 9) (vs T) (vA T 7) (vA T 8) (vA T 9) (vA T 10) (vA T 11) (vA T 12) qt2 qp2))))))) (c_X3_isWithin z (0 : Int32) (3 : Int32)) rfl gX3_setFlake_X3_isWithin rfl hd_X3_isWithin ⟨rfl, rfl, (Nat.le_of_ble_eq_true rfl), (Nat.le_of_ble_eq_true rfl)⟩ ⟨(Nat.zero_le _), (Nat.zero_le _)⟩ rfl rfl (Nat.le_of_ble_eq_true rfl) dX3_setFlake_22 (fun v w1 H locs hp HW => ?_)
    obtain ⟨rfl, rfl⟩ := hp
    have HW : Hw D A s (wXo cI a o  ++ (wVo cI a (o + 1) (vh S) (vc S) (vA S 0) (vA S 1) (vA S 2) ++ (wR cI a ((o + 1) + 4) (vr S) (vA S 3) (vA S 4) (vA S 5) (vA S 6) ++ (wS cI a ((o + 1) + 9) (vs S) (vA S 7) (vA S 8) (vA S 9) (vA S 10) (vA S 11) (vA S 12) qt qp ++ (wVo cI a (o + 19) (vh T) (vc T) (vA T 0) (vA T 1) (vA T 2) ++ (wR cI a ((o + 19) + 4) (vr T) (vA T 3) (vA T 4) (vA T 5) (vA T 6) ++ (wS cI a ((o + 19) + 9) (vs T) (vA T 7) (vA T 8) (vA T 9) (vA T 10) (vA T 11) (vA T 12) qt2 qp2))))))) H locs := HW
    refine W.eq (g2 := F0 m 25 ls [.int (bI ((0 : Int32) ≤ z ∧ z ≤ (3 : Int32)))]) rfl ?_
    refine g_ifne_b (tgt := 38) hx hb dX3_setFlake_25 (by decide) (fun c25 => ?_) (fun c25 => ?_)
    · obtain ⟨j, hj, rfl⟩ := wi_nat 5 (by decide) c6
      have ej : natI (nI j) = j := natI_nI (by omega)
      · refine lv_aload_n hx hb dX3_setFlake_38 rfl (lv_at hl 0 rfl) ?_
        refine g_get CX HW in_X3_setFlake_3 0 0 rfl rfl (Nat.le_of_ble_eq_true rfl) fl_X3_setFlake_10 rfl dX3_setFlake_39 ?_
        refine g_get CX HW in_X3_setFlake_2 1 2 rfl rfl (Nat.le_of_ble_eq_true rfl) fl_X3_setFlake_64 rfl dX3_setFlake_42 ?_
        refine lv_iload_n hx hb dX3_setFlake_45 rfl (lv_at hl 1 rfl) ?_
        refine g_ald CX HW 2 (k := j) rfl rfl rfl (by omega) (Nat.le_of_ble_eq_true rfl) dX3_setFlake_46 ?_
        refine lv_istore_n (lv' := [(3, .int (vA S 0 j)), (0, .ref (a o)), (1, .int (nI j)), (2, .int z)]) hx hb dX3_setFlake_47 rfl hl (Nat.le_of_ble_eq_true rfl) rfl (fun ls hl => ?_)
        refine lv_aload_n hx hb dX3_setFlake_48 rfl (lv_at hl 1 rfl) ?_
        refine g_get CX HW in_X3_setFlake_3 0 0 rfl rfl (Nat.le_of_ble_eq_true rfl) fl_X3_setFlake_10 rfl dX3_setFlake_49 ?_
        refine g_get CX HW in_X3_setFlake_2 1 2 rfl rfl (Nat.le_of_ble_eq_true rfl) fl_X3_setFlake_64 rfl dX3_setFlake_52 ?_
        refine lv_iload_n hx hb dX3_setFlake_55 rfl (lv_at hl 2 rfl) ?_
        refine lv_iload_n hx hb dX3_setFlake_56 rfl (lv_at hl 3 rfl) ?_
        refine g_ast CX HW 2 (k := j) rfl rfl rfl (by omega) (Nat.le_of_ble_eq_true rfl) dX3_setFlake_57 (fun H locs HW => ?_)
        have HW : Hw D A s (wXo cI a o  ++ (wVo cI a (o + 1) (vh S) (vc S) (upd (vA S 0) j z) (vA S 1) (vA S 2) ++ (wR cI a ((o + 1) + 4) (vr S) (vA S 3) (vA S 4) (vA S 5) (vA S 6) ++ (wS cI a ((o + 1) + 9) (vs S) (vA S 7) (vA S 8) (vA S 9) (vA S 10) (vA S 11) (vA S 12) qt qp ++ (wVo cI a (o + 19) (vh T) (vc T) (vA T 0) (vA T 1) (vA T 2) ++ (wR cI a ((o + 19) + 4) (vr T) (vA T 3) (vA T 4) (vA T 5) (vA T 6) ++ (wS cI a ((o + 19) + 9) (vs T) (vA T 7) (vA T 8) (vA T 9) (vA T 10) (vA T 11) (vA T 12) qt2 qp2))))))) H locs := HW
        refine lv_iload_n hx hb dX3_setFlake_58 rfl (lv_at hl 0 rfl) ?_
        exact gx_ret (Nat.le_of_ble_eq_true rfl) (Nat.le_of_ble_eq_true rfl) (g_iret CX HW rfl ⟨(by rw [kSetF]; rw [if_neg (fun h9 => h9 c6), if_neg (fun h9 => h9 c25)]), by rw [ej], by rw [sSetF, ej]; rfl⟩ dX3_setFlake_59)
    · exact gx_throw CX hext hZ HW hl.1 hst (cls := exA) (text := "flake is not 0 to 3") (ik := 30) (is := 62) (ic := 34) (by decide +kernel) xk_X3_setFlake_exA.1 xk_X3_setFlake_exA.2 (by decide +kernel) xa_X3_setFlake_exA xbad_34 xgood_34 dX3_setFlake_28 dX3_setFlake_31 dX3_setFlake_32 dX3_setFlake_34 dX3_setFlake_37 (Nat.le_of_ble_eq_true rfl) (Nat.le_of_ble_eq_true rfl) (Nat.le_of_ble_eq_true rfl) (Nat.le_of_ble_eq_true rfl) (Nat.le_of_ble_eq_true rfl) (Nat.le_of_ble_eq_true rfl) (⟨Or.inr (⟨rfl, by rw [kSetF]; rw [if_neg (fun h9 => h9 c6), if_pos c25]⟩), rfl⟩)
  · exact gx_throw CX hext hZ HW hl.1 hst (cls := exI) (text := "hour is not 0 to 5") (ik := 23) (is := 60) (ic := 27) (by decide +kernel) xk_X3_setFlake_exI.1 xk_X3_setFlake_exI.2 (by decide +kernel) xa_X3_setFlake_exI xbad_27 xgood_27 dX3_setFlake_9 dX3_setFlake_12 dX3_setFlake_13 dX3_setFlake_15 dX3_setFlake_18 (Nat.le_of_ble_eq_true rfl) (Nat.le_of_ble_eq_true rfl) (Nat.le_of_ble_eq_true rfl) (Nat.le_of_ble_eq_true rfl) (Nat.le_of_ble_eq_true rfl) (Nat.le_of_ble_eq_true rfl) (⟨Or.inl ⟨rfl, by rw [kSetF]; rw [if_pos c6]⟩, rfl⟩)

theorem hd_X3_cannon : yX3_cannon.cls ≠ "java/lang/invoke/MethodHandle" ∧ yX3_cannon.cls ≠ "java/lang/invoke/VarHandle" ∧ (parseMethodDescriptor yX3_cannon.desc).map (fun d => d.parameters.length) = some 1 := by decide +kernel
theorem fl_X3_cannon_10 : Cond.fieldLink RX3 10 (TX3 0).1 (TX3 0).2.1 (TX3 0).2.2.1 ∈ wsX3_cannon := by decide +kernel
theorem in_X3_cannon_3 : ∀ x ∈ u_ws RX3 TX3 2, x ∈ wsX3_cannon := by decide +kernel
theorem fl_X3_cannon_35 : Cond.fieldLink RX3 35 (TX2 5).1 (TX2 5).2.1 (TX2 5).2.2.1 ∈ wsX3_cannon := by decide +kernel
theorem in_X3_cannon_2 : ∀ x ∈ u_ws RX2 TX2 7, x ∈ wsX3_cannon := by decide +kernel
theorem fl_X3_cannon_73 : Cond.fieldLink RX3 73 (TX2 1).1 (TX2 1).2.1 (TX2 1).2.2.1 ∈ wsX3_cannon := by decide +kernel
theorem fl_X3_cannon_79 : Cond.fieldLink RX3 79 (TX0 3).1 (TX0 3).2.1 (TX0 3).2.2.1 ∈ wsX3_cannon := by decide +kernel
theorem in_X3_cannon_0 : ∀ x ∈ u_ws RX0 TX0 5, x ∈ wsX3_cannon := by decide +kernel
theorem xk_X3_cannon_exS : Cond.classLink RX3 45 exS ∈ wsX3_cannon ∧ Cond.initialized exS ∈ wsX3_cannon := ⟨by decide +kernel, by decide +kernel⟩
theorem xa_X3_cannon_exS : ∀ x ∈ (vx_atS RX3 49 exS nms).filter goodWord, x ∈ wsX3_cannon := by decide +kernel
theorem xk_X3_cannon_exI : Cond.classLink RX3 23 exI ∈ wsX3_cannon ∧ Cond.initialized exI ∈ wsX3_cannon := ⟨by decide +kernel, by decide +kernel⟩
theorem xa_X3_cannon_exI : ∀ x ∈ (vx_atS RX3 27 exI nms).filter goodWord, x ∈ wsX3_cannon := by decide +kernel
set_option maxRecDepth 100000 in
set_option maxHeartbeats 4000000 in
theorem c_X3_cannon {l : Launch} {D : va_G} {cI cL : ClassId} {a : Nat → Nat} (hst : l.stackTraces = false) (o : Nat) (S : VS) (qt : Nat → Int32) (qp : Nat → Int32) (T : VS) (qt2 : Nat → Int32) (qp2 : Nat → Int32) (x : Int32) (hn6 : vr S ≤ 6) (hn8 : vs S ≤ 8) : CtX l yX3_cannon wsX3_cannon { frames := 6, cells := 1, slots := 6, locals := 92 } D (ty2 cI cL) [.ref (a o), .int x] (wXo cI a o  ++ (wVo cI a (o + 1) (vh S) (vc S) (vA S 0) (vA S 1) (vA S 2) ++ (wR cI a ((o + 1) + 4) (vr S) (vA S 3) (vA S 4) (vA S 5) (vA S 6) ++ (wS cI a ((o + 1) + 9) (vs S) (vA S 7) (vA S 8) (vA S 9) (vA S 10) (vA S 11) (vA S 12) qt qp ++ (wVo cI a (o + 19) (vh T) (vc T) (vA T 0) (vA T 1) (vA T 2) ++ (wR cI a ((o + 19) + 4) (vr T) (vA T 3) (vA T 4) (vA T 5) (vA T 6) ++ (wS cI a ((o + 19) + 9) (vs T) (vA T 7) (vA T 8) (vA T 9) (vA T 10) (vA T 11) (vA T 12) qt2 qp2))))))) (fun v w' => kCan S x = 0 ∧ v = some (.int (vA (sCan S x) 5 (natI x))) ∧ w' = wXo cI a o  ++ (wVo cI a (o + 1) (vh (sCan S x)) (vc (sCan S x)) (vA (sCan S x) 0) (vA (sCan S x) 1) (vA (sCan S x) 2) ++ (wR cI a ((o + 1) + 4) (vr (sCan S x)) (vA (sCan S x) 3) (vA (sCan S x) 4) (vA (sCan S x) 5) (vA (sCan S x) 6) ++ (wS cI a ((o + 1) + 9) (vs (sCan S x)) (vA (sCan S x) 7) (vA (sCan S x) 8) (vA (sCan S x) 9) (vA (sCan S x) 10) (vA (sCan S x) 11) (vA (sCan S x) 12) qt qp ++ (wVo cI a (o + 19) (vh T) (vc T) (vA T 0) (vA T 1) (vA T 2) ++ (wR cI a ((o + 19) + 4) (vr T) (vA T 3) (vA T 4) (vA T 5) (vA T 6) ++ (wS cI a ((o + 19) + 9) (vs T) (vA T 7) (vA T 8) (vA T 9) (vA T 10) (vA T 11) (vA T 12) qt2 qp2))))))) (fun E w' => ((E = exI ∧ kCan S x = 1) ∨ (E = exS ∧ kCan S x = 2)) ∧ w' = wXo cI a o  ++ (wVo cI a (o + 1) (vh S) (vc S) (vA S 0) (vA S 1) (vA S 2) ++ (wR cI a ((o + 1) + 4) (vr S) (vA S 3) (vA S 4) (vA S 5) (vA S 6) ++ (wS cI a ((o + 1) + 9) (vs S) (vA S 7) (vA S 8) (vA S 9) (vA S 10) (vA S 11) (vA S 12) qt qp ++ (wVo cI a (o + 19) (vh T) (vc T) (vA T 0) (vA T 1) (vA T 2) ++ (wR cI a ((o + 19) + 4) (vr T) (vA T 3) (vA T 4) (vA T 5) (vA T 6) ++ (wS cI a ((o + 19) + 9) (vs T) (vA T 7) (vA T 8) (vA T 9) (vA T 10) (vA T 11) (vA T 12) qt2 qp2))))))) := by
  refine CtX.of (cc := cX3_cannon) (maxL := 2) (ret := (some .int)) (by decide) rfl (Nat.le_of_ble_eq_true rfl) ?_
  intro p e s m below meth c A ls CX hext hZ HW hl
  obtain ⟨hx, hb, hml, hr, hown, hts, hK, hA, hlk⟩ := id CX
  have hl : lv_has ls 2 [(0, .ref (a o)), (1, .int x)] := hl
  refine lv_aload_n hx hb dX3_cannon_0 rfl (lv_at hl 0 rfl) ?_
  refine g_get CX HW in_X3_cannon_3 0 0 rfl rfl (Nat.le_of_ble_eq_true rfl) fl_X3_cannon_10 rfl dX3_cannon_1 ?_
  refine g_get CX HW in_X3_cannon_2 1 5 rfl rfl (Nat.le_of_ble_eq_true rfl) fl_X3_cannon_35 rfl dX3_cannon_4 ?_
  refine lv_iload_n hx hb dX3_cannon_7 rfl (lv_at hl 1 rfl) ?_
  refine g_callV CX HW hl.1 (wXo cI a o  ++ (wVo cI a (o + 1) (vh S) (vc S) (vA S 0) (vA S 1) (vA S 2))) (wS cI a ((o + 1) + 9) (vs S) (vA S 7) (vA S 8) (vA S 9) (vA S 10) (vA S 11) (vA S 12) qt qp ++ (wVo cI a (o + 19) (vh T) (vc T) (vA T 0) (vA T 1) (vA T 2) ++ (wR cI a ((o + 19) + 4) (vr T) (vA T 3) (vA T 4) (vA T 5) (vA T 6) ++ (wS cI a ((o + 19) + 9) (vs T) (vA T 7) (vA T 8) (vA T 9) (vA T 10) (vA T 11) (vA T 12) qt2 qp2)))) (c_X0_has ((o + 1) + 4) (vr S) (vA S 3) (vA S 4) (vA S 5) (vA S 6) x) rfl 0 rfl rfl gX3_cannon_X0_has rfl ⟨rfl, hd_X0_has⟩ ⟨rfl, rfl, (Nat.le_of_ble_eq_true rfl), (Nat.le_of_ble_eq_true rfl)⟩ ⟨(Nat.zero_le _), (Nat.zero_le _)⟩ rfl rfl (Nat.le_of_ble_eq_true rfl) dX3_cannon_8 (fun v w1 H locs hp HW => ?_)
  obtain ⟨rfl, rfl⟩ := hp
  have HW : Hw D A s (wXo cI a o  ++ (wVo cI a (o + 1) (vh S) (vc S) (vA S 0) (vA S 1) (vA S 2) ++ (wR cI a ((o + 1) + 4) (vr S) (vA S 3) (vA S 4) (vA S 5) (vA S 6) ++ (wS cI a ((o + 1) + 9) (vs S) (vA S 7) (vA S 8) (vA S 9) (vA S 10) (vA S 11) (vA S 12) qt qp ++ (wVo cI a (o + 19) (vh T) (vc T) (vA T 0) (vA T 1) (vA T 2) ++ (wR cI a ((o + 19) + 4) (vr T) (vA T 3) (vA T 4) (vA T 5) (vA T 6) ++ (wS cI a ((o + 19) + 9) (vs T) (vA T 7) (vA T 8) (vA T 9) (vA T 10) (vA T 11) (vA T 12) qt2 qp2))))))) H locs := HW
  refine W.eq (g2 := F0 m 11 ls [.int (bI (0 ≤ x ∧ x < nI (vr S)))]) rfl ?_
  refine g_ifne_b (tgt := 24) hx hb dX3_cannon_11 (by decide) (fun c11 => ?_) (fun c11 => ?_)
  · obtain ⟨r, hr, rfl⟩ := has_nat (by omega) c11
    have er : natI (nI r) = r := natI_nI (by omega)
    · refine lv_aload_n hx hb dX3_cannon_24 rfl (lv_at hl 0 rfl) ?_
      refine g_get CX HW in_X3_cannon_3 0 0 rfl rfl (Nat.le_of_ble_eq_true rfl) fl_X3_cannon_10 rfl dX3_cannon_25 ?_
      refine g_get CX HW in_X3_cannon_2 1 1 rfl rfl (Nat.le_of_ble_eq_true rfl) fl_X3_cannon_73 rfl dX3_cannon_28 ?_
      refine lv_iconst (v := 3) hx hb dX3_cannon_31 (by decide) ?_
      refine lv_icmp_ge (tgt := 45) hx hb dX3_cannon_32 (by decide) (fun c32 => ?_) (fun c32 => ?_)
      · refine lv_aload_n hx hb dX3_cannon_45 rfl (lv_at hl 0 rfl) ?_
        refine g_get CX HW in_X3_cannon_3 0 0 rfl rfl (Nat.le_of_ble_eq_true rfl) fl_X3_cannon_10 rfl dX3_cannon_46 ?_
        refine g_get CX HW in_X3_cannon_2 1 5 rfl rfl (Nat.le_of_ble_eq_true rfl) fl_X3_cannon_35 rfl dX3_cannon_49 ?_
        refine g_get CX HW in_X3_cannon_0 5 3 rfl rfl (Nat.le_of_ble_eq_true rfl) fl_X3_cannon_79 rfl dX3_cannon_52 ?_
        refine lv_iload_n hx hb dX3_cannon_55 rfl (lv_at hl 1 rfl) ?_
        refine g_ald CX HW 8 (k := r) rfl rfl rfl (by omega) (Nat.le_of_ble_eq_true rfl) dX3_cannon_56 ?_
        refine lv_bipush (v := 90) hx hb dX3_cannon_57 (by decide) ?_
        refine lv_icmp_lt (tgt := 72) hx hb dX3_cannon_59 (by decide) (fun c59 => ?_) (fun c59 => ?_)
        · refine lv_aload_n hx hb dX3_cannon_72 rfl (lv_at hl 0 rfl) ?_
          refine g_get CX HW in_X3_cannon_3 0 0 rfl rfl (Nat.le_of_ble_eq_true rfl) fl_X3_cannon_10 rfl dX3_cannon_73 ?_
          refine lv_dup hx hb dX3_cannon_76 rfl ?_
          refine g_get CX HW in_X3_cannon_2 1 1 rfl rfl (Nat.le_of_ble_eq_true rfl) fl_X3_cannon_73 rfl dX3_cannon_77 ?_
          refine lv_iconst (v := 3) hx hb dX3_cannon_80 (by decide) ?_
          refine lv_isub hx hb dX3_cannon_81 ?_
          refine g_put CX HW in_X3_cannon_2 tyX2 tyX2_ok nmX2 1 1 rfl rfl (Nat.le_of_ble_eq_true rfl) fl_X3_cannon_73 rfl rfl rfl (Nat.le_of_ble_eq_true rfl) dX3_cannon_82 (fun H locs HW => ?_)
          have HW : Hw D A s (wXo cI a o  ++ (wVo cI a (o + 1) (vh S) (vc S - (3 : Int32)) (vA S 0) (vA S 1) (vA S 2) ++ (wR cI a ((o + 1) + 4) (vr S) (vA S 3) (vA S 4) (vA S 5) (vA S 6) ++ (wS cI a ((o + 1) + 9) (vs S) (vA S 7) (vA S 8) (vA S 9) (vA S 10) (vA S 11) (vA S 12) qt qp ++ (wVo cI a (o + 19) (vh T) (vc T) (vA T 0) (vA T 1) (vA T 2) ++ (wR cI a ((o + 19) + 4) (vr T) (vA T 3) (vA T 4) (vA T 5) (vA T 6) ++ (wS cI a ((o + 19) + 9) (vs T) (vA T 7) (vA T 8) (vA T 9) (vA T 10) (vA T 11) (vA T 12) qt2 qp2))))))) H locs := HW
          refine lv_aload_n hx hb dX3_cannon_85 rfl (lv_at hl 0 rfl) ?_
          refine g_get CX HW in_X3_cannon_3 0 0 rfl rfl (Nat.le_of_ble_eq_true rfl) fl_X3_cannon_10 rfl dX3_cannon_86 ?_
          refine g_get CX HW in_X3_cannon_2 1 5 rfl rfl (Nat.le_of_ble_eq_true rfl) fl_X3_cannon_35 rfl dX3_cannon_89 ?_
          refine lv_iload_n hx hb dX3_cannon_92 rfl (lv_at hl 1 rfl) ?_
          refine lv_bipush (v := 12) hx hb dX3_cannon_93 (by decide) ?_
          refine g_callV CX HW hl.1 (wXo cI a o  ++ (wVo cI a (o + 1) (vh S) (vc S - (3 : Int32)) (vA S 0) (vA S 1) (vA S 2))) (wS cI a ((o + 1) + 9) (vs S) (vA S 7) (vA S 8) (vA S 9) (vA S 10) (vA S 11) (vA S 12) qt qp ++ (wVo cI a (o + 19) (vh T) (vc T) (vA T 0) (vA T 1) (vA T 2) ++ (wR cI a ((o + 19) + 4) (vr T) (vA T 3) (vA T 4) (vA T 5) (vA T 6) ++ (wS cI a ((o + 19) + 9) (vs T) (vA T 7) (vA T 8) (vA T 9) (vA T 10) (vA T 11) (vA T 12) qt2 qp2)))) (c_X0_deepen ((o + 1) + 4) (vr S) (vA S 3) (vA S 4) (vA S 5) (vA S 6) r (12 : Int32) (by omega)) rfl 0 rfl rfl gX3_cannon_X0_deepen rfl ⟨rfl, hd_X0_deepen⟩ ⟨rfl, rfl, (Nat.le_of_ble_eq_true rfl), (Nat.le_of_ble_eq_true rfl)⟩ ⟨(Nat.zero_le _), (Nat.zero_le _)⟩ rfl rfl (Nat.le_of_ble_eq_true rfl) dX3_cannon_95 (fun v w1 H locs hp HW => ?_)
          obtain ⟨rfl, rfl⟩ := hp
          have HW : Hw D A s (wXo cI a o  ++ (wVo cI a (o + 1) (vh S) (vc S - (3 : Int32)) (vA S 0) (vA S 1) (vA S 2) ++ (wR cI a ((o + 1) + 4) (vr S) (vA S 3) (vA S 4) (upd (vA S 5) r (heldI ((vA S 5) r + (12 : Int32)) 0 90)) (vA S 6) ++ (wS cI a ((o + 1) + 9) (vs S) (vA S 7) (vA S 8) (vA S 9) (vA S 10) (vA S 11) (vA S 12) qt qp ++ (wVo cI a (o + 19) (vh T) (vc T) (vA T 0) (vA T 1) (vA T 2) ++ (wR cI a ((o + 19) + 4) (vr T) (vA T 3) (vA T 4) (vA T 5) (vA T 6) ++ (wS cI a ((o + 19) + 9) (vs T) (vA T 7) (vA T 8) (vA T 9) (vA T 10) (vA T 11) (vA T 12) qt2 qp2))))))) H locs := HW
          refine W.eq (g2 := F0 m 98 ls []) rfl ?_
          refine lv_aload_n hx hb dX3_cannon_98 rfl (lv_at hl 0 rfl) ?_
          refine g_get CX HW in_X3_cannon_3 0 0 rfl rfl (Nat.le_of_ble_eq_true rfl) fl_X3_cannon_10 rfl dX3_cannon_99 ?_
          refine g_get CX HW in_X3_cannon_2 1 5 rfl rfl (Nat.le_of_ble_eq_true rfl) fl_X3_cannon_35 rfl dX3_cannon_102 ?_
          refine g_get CX HW in_X3_cannon_0 5 3 rfl rfl (Nat.le_of_ble_eq_true rfl) fl_X3_cannon_79 rfl dX3_cannon_105 ?_
          refine lv_iload_n hx hb dX3_cannon_108 rfl (lv_at hl 1 rfl) ?_
          refine g_ald CX HW 8 (k := r) rfl rfl rfl (by omega) (Nat.le_of_ble_eq_true rfl) dX3_cannon_109 ?_
          exact gx_ret (Nat.le_of_ble_eq_true rfl) (Nat.le_of_ble_eq_true rfl) (g_iret CX HW rfl ⟨(by rw [kCan, er]; rw [if_neg (fun h9 => h9 c11), if_neg (fun h9 => h9 c32), if_neg (fun h9 => h9 c59)]), by rw [er, sCan, er]; rfl, by rw [sCan, er]; rfl⟩ dX3_cannon_110)
        · exact gx_throw CX hext hZ HW hl.1 hst (cls := exS) (text := "the run is 90 deep") (ik := 45) (is := 82) (ic := 49) (by decide +kernel) xk_X3_cannon_exS.1 xk_X3_cannon_exS.2 (by decide +kernel) xa_X3_cannon_exS xbad_49 xgood_49 dX3_cannon_62 dX3_cannon_65 dX3_cannon_66 dX3_cannon_68 dX3_cannon_71 (Nat.le_of_ble_eq_true rfl) (Nat.le_of_ble_eq_true rfl) (Nat.le_of_ble_eq_true rfl) (Nat.le_of_ble_eq_true rfl) (Nat.le_of_ble_eq_true rfl) (Nat.le_of_ble_eq_true rfl) (⟨Or.inr (⟨rfl, by rw [kCan, er]; rw [if_neg (fun h9 => h9 c11), if_neg (fun h9 => h9 c32), if_pos c59]⟩), rfl⟩)
      · exact gx_throw CX hext hZ HW hl.1 hst (cls := exS) (text := "the village has fewer than 3 coins") (ik := 45) (is := 77) (ic := 49) (by decide +kernel) xk_X3_cannon_exS.1 xk_X3_cannon_exS.2 (by decide +kernel) xa_X3_cannon_exS xbad_49 xgood_49 dX3_cannon_35 dX3_cannon_38 dX3_cannon_39 dX3_cannon_41 dX3_cannon_44 (Nat.le_of_ble_eq_true rfl) (Nat.le_of_ble_eq_true rfl) (Nat.le_of_ble_eq_true rfl) (Nat.le_of_ble_eq_true rfl) (Nat.le_of_ble_eq_true rfl) (Nat.le_of_ble_eq_true rfl) (⟨Or.inr (⟨rfl, by rw [kCan]; rw [if_neg (fun h9 => h9 c11), if_pos c32]⟩), rfl⟩)
  · exact gx_throw CX hext hZ HW hl.1 hst (cls := exI) (text := "no such run") (ik := 23) (is := 71) (ic := 27) (by decide +kernel) xk_X3_cannon_exI.1 xk_X3_cannon_exI.2 (by decide +kernel) xa_X3_cannon_exI xbad_27 xgood_27 dX3_cannon_14 dX3_cannon_17 dX3_cannon_18 dX3_cannon_20 dX3_cannon_23 (Nat.le_of_ble_eq_true rfl) (Nat.le_of_ble_eq_true rfl) (Nat.le_of_ble_eq_true rfl) (Nat.le_of_ble_eq_true rfl) (Nat.le_of_ble_eq_true rfl) (Nat.le_of_ble_eq_true rfl) (⟨Or.inl ⟨rfl, by rw [kCan]; rw [if_pos c11]⟩, rfl⟩)

theorem hd_X3_blast : yX3_blast.cls ≠ "java/lang/invoke/MethodHandle" ∧ yX3_blast.cls ≠ "java/lang/invoke/VarHandle" ∧ (parseMethodDescriptor yX3_blast.desc).map (fun d => d.parameters.length) = some 1 := by decide +kernel
theorem fl_X3_blast_10 : Cond.fieldLink RX3 10 (TX3 0).1 (TX3 0).2.1 (TX3 0).2.2.1 ∈ wsX3_blast := by decide +kernel
theorem in_X3_blast_3 : ∀ x ∈ u_ws RX3 TX3 2, x ∈ wsX3_blast := by decide +kernel
theorem fl_X3_blast_35 : Cond.fieldLink RX3 35 (TX2 5).1 (TX2 5).2.1 (TX2 5).2.2.1 ∈ wsX3_blast := by decide +kernel
theorem in_X3_blast_2 : ∀ x ∈ u_ws RX2 TX2 7, x ∈ wsX3_blast := by decide +kernel
theorem fl_X3_blast_79 : Cond.fieldLink RX3 79 (TX0 3).1 (TX0 3).2.1 (TX0 3).2.2.1 ∈ wsX3_blast := by decide +kernel
theorem in_X3_blast_0 : ∀ x ∈ u_ws RX0 TX0 5, x ∈ wsX3_blast := by decide +kernel
theorem fl_X3_blast_88 : Cond.fieldLink RX3 88 (TX0 2).1 (TX0 2).2.1 (TX0 2).2.2.1 ∈ wsX3_blast := by decide +kernel
theorem xk_X3_blast_exS : Cond.classLink RX3 45 exS ∈ wsX3_blast ∧ Cond.initialized exS ∈ wsX3_blast := ⟨by decide +kernel, by decide +kernel⟩
theorem xa_X3_blast_exS : ∀ x ∈ (vx_atS RX3 49 exS nms).filter goodWord, x ∈ wsX3_blast := by decide +kernel
theorem xk_X3_blast_exI : Cond.classLink RX3 23 exI ∈ wsX3_blast ∧ Cond.initialized exI ∈ wsX3_blast := ⟨by decide +kernel, by decide +kernel⟩
theorem xa_X3_blast_exI : ∀ x ∈ (vx_atS RX3 27 exI nms).filter goodWord, x ∈ wsX3_blast := by decide +kernel
set_option maxRecDepth 100000 in
set_option maxHeartbeats 4000000 in
theorem c_X3_blast {l : Launch} {D : va_G} {cI cL : ClassId} {a : Nat → Nat} (hst : l.stackTraces = false) (o : Nat) (S : VS) (qt : Nat → Int32) (qp : Nat → Int32) (T : VS) (qt2 : Nat → Int32) (qp2 : Nat → Int32) (x : Int32) (hn6 : vr S ≤ 6) (hn8 : vs S ≤ 8) : CtX l yX3_blast wsX3_blast { frames := 6, cells := 1, slots := 6, locals := 92 } D (ty2 cI cL) [.ref (a o), .int x] (wXo cI a o  ++ (wVo cI a (o + 1) (vh S) (vc S) (vA S 0) (vA S 1) (vA S 2) ++ (wR cI a ((o + 1) + 4) (vr S) (vA S 3) (vA S 4) (vA S 5) (vA S 6) ++ (wS cI a ((o + 1) + 9) (vs S) (vA S 7) (vA S 8) (vA S 9) (vA S 10) (vA S 11) (vA S 12) qt qp ++ (wVo cI a (o + 19) (vh T) (vc T) (vA T 0) (vA T 1) (vA T 2) ++ (wR cI a ((o + 19) + 4) (vr T) (vA T 3) (vA T 4) (vA T 5) (vA T 6) ++ (wS cI a ((o + 19) + 9) (vs T) (vA T 7) (vA T 8) (vA T 9) (vA T 10) (vA T 11) (vA T 12) qt2 qp2))))))) (fun v w' => kBla S x = 0 ∧ v = some (.int (vA S 5 (natI x) - vA S 5 (natI x) / 2)) ∧ w' = wXo cI a o  ++ (wVo cI a (o + 1) (vh (sBla S x)) (vc (sBla S x)) (vA (sBla S x) 0) (vA (sBla S x) 1) (vA (sBla S x) 2) ++ (wR cI a ((o + 1) + 4) (vr (sBla S x)) (vA (sBla S x) 3) (vA (sBla S x) 4) (vA (sBla S x) 5) (vA (sBla S x) 6) ++ (wS cI a ((o + 1) + 9) (vs (sBla S x)) (vA (sBla S x) 7) (vA (sBla S x) 8) (vA (sBla S x) 9) (vA (sBla S x) 10) (vA (sBla S x) 11) (vA (sBla S x) 12) qt qp ++ (wVo cI a (o + 19) (vh T) (vc T) (vA T 0) (vA T 1) (vA T 2) ++ (wR cI a ((o + 19) + 4) (vr T) (vA T 3) (vA T 4) (vA T 5) (vA T 6) ++ (wS cI a ((o + 19) + 9) (vs T) (vA T 7) (vA T 8) (vA T 9) (vA T 10) (vA T 11) (vA T 12) qt2 qp2))))))) (fun E w' => ((E = exI ∧ kBla S x = 1) ∨ (E = exS ∧ kBla S x = 2)) ∧ w' = wXo cI a o  ++ (wVo cI a (o + 1) (vh S) (vc S) (vA S 0) (vA S 1) (vA S 2) ++ (wR cI a ((o + 1) + 4) (vr S) (vA S 3) (vA S 4) (vA S 5) (vA S 6) ++ (wS cI a ((o + 1) + 9) (vs S) (vA S 7) (vA S 8) (vA S 9) (vA S 10) (vA S 11) (vA S 12) qt qp ++ (wVo cI a (o + 19) (vh T) (vc T) (vA T 0) (vA T 1) (vA T 2) ++ (wR cI a ((o + 19) + 4) (vr T) (vA T 3) (vA T 4) (vA T 5) (vA T 6) ++ (wS cI a ((o + 19) + 9) (vs T) (vA T 7) (vA T 8) (vA T 9) (vA T 10) (vA T 11) (vA T 12) qt2 qp2))))))) := by
  refine CtX.of (cc := cX3_blast) (maxL := 3) (ret := (some .int)) (by decide) rfl (Nat.le_of_ble_eq_true rfl) ?_
  intro p e s m below meth c A ls CX hext hZ HW hl
  obtain ⟨hx, hb, hml, hr, hown, hts, hK, hA, hlk⟩ := id CX
  have hl : lv_has ls 3 [(0, .ref (a o)), (1, .int x)] := hl
  refine lv_aload_n hx hb dX3_blast_0 rfl (lv_at hl 0 rfl) ?_
  refine g_get CX HW in_X3_blast_3 0 0 rfl rfl (Nat.le_of_ble_eq_true rfl) fl_X3_blast_10 rfl dX3_blast_1 ?_
  refine g_get CX HW in_X3_blast_2 1 5 rfl rfl (Nat.le_of_ble_eq_true rfl) fl_X3_blast_35 rfl dX3_blast_4 ?_
  refine lv_iload_n hx hb dX3_blast_7 rfl (lv_at hl 1 rfl) ?_
  refine g_callV CX HW hl.1 (wXo cI a o  ++ (wVo cI a (o + 1) (vh S) (vc S) (vA S 0) (vA S 1) (vA S 2))) (wS cI a ((o + 1) + 9) (vs S) (vA S 7) (vA S 8) (vA S 9) (vA S 10) (vA S 11) (vA S 12) qt qp ++ (wVo cI a (o + 19) (vh T) (vc T) (vA T 0) (vA T 1) (vA T 2) ++ (wR cI a ((o + 19) + 4) (vr T) (vA T 3) (vA T 4) (vA T 5) (vA T 6) ++ (wS cI a ((o + 19) + 9) (vs T) (vA T 7) (vA T 8) (vA T 9) (vA T 10) (vA T 11) (vA T 12) qt2 qp2)))) (c_X0_has ((o + 1) + 4) (vr S) (vA S 3) (vA S 4) (vA S 5) (vA S 6) x) rfl 0 rfl rfl gX3_blast_X0_has rfl ⟨rfl, hd_X0_has⟩ ⟨rfl, rfl, (Nat.le_of_ble_eq_true rfl), (Nat.le_of_ble_eq_true rfl)⟩ ⟨(Nat.zero_le _), (Nat.zero_le _)⟩ rfl rfl (Nat.le_of_ble_eq_true rfl) dX3_blast_8 (fun v w1 H locs hp HW => ?_)
  obtain ⟨rfl, rfl⟩ := hp
  have HW : Hw D A s (wXo cI a o  ++ (wVo cI a (o + 1) (vh S) (vc S) (vA S 0) (vA S 1) (vA S 2) ++ (wR cI a ((o + 1) + 4) (vr S) (vA S 3) (vA S 4) (vA S 5) (vA S 6) ++ (wS cI a ((o + 1) + 9) (vs S) (vA S 7) (vA S 8) (vA S 9) (vA S 10) (vA S 11) (vA S 12) qt qp ++ (wVo cI a (o + 19) (vh T) (vc T) (vA T 0) (vA T 1) (vA T 2) ++ (wR cI a ((o + 19) + 4) (vr T) (vA T 3) (vA T 4) (vA T 5) (vA T 6) ++ (wS cI a ((o + 19) + 9) (vs T) (vA T 7) (vA T 8) (vA T 9) (vA T 10) (vA T 11) (vA T 12) qt2 qp2))))))) H locs := HW
  refine W.eq (g2 := F0 m 11 ls [.int (bI (0 ≤ x ∧ x < nI (vr S)))]) rfl ?_
  refine g_ifne_b (tgt := 24) hx hb dX3_blast_11 (by decide) (fun c11 => ?_) (fun c11 => ?_)
  · obtain ⟨r, hr, rfl⟩ := has_nat (by omega) c11
    have er : natI (nI r) = r := natI_nI (by omega)
    · refine lv_aload_n hx hb dX3_blast_24 rfl (lv_at hl 0 rfl) ?_
      refine g_get CX HW in_X3_blast_3 0 0 rfl rfl (Nat.le_of_ble_eq_true rfl) fl_X3_blast_10 rfl dX3_blast_25 ?_
      refine g_get CX HW in_X3_blast_2 1 5 rfl rfl (Nat.le_of_ble_eq_true rfl) fl_X3_blast_35 rfl dX3_blast_28 ?_
      refine g_get CX HW in_X3_blast_0 5 3 rfl rfl (Nat.le_of_ble_eq_true rfl) fl_X3_blast_79 rfl dX3_blast_31 ?_
      refine lv_iload_n hx hb dX3_blast_34 rfl (lv_at hl 1 rfl) ?_
      refine g_ald CX HW 8 (k := r) rfl rfl rfl (by omega) (Nat.le_of_ble_eq_true rfl) dX3_blast_35 ?_
      refine lv_istore_n (lv' := [(2, .int ((vA S 5) r)), (0, .ref (a o)), (1, .int (nI r))]) hx hb dX3_blast_36 rfl hl (Nat.le_of_ble_eq_true rfl) rfl (fun ls hl => ?_)
      refine lv_iload_n hx hb dX3_blast_37 rfl (lv_at hl 0 rfl) ?_
      refine lv_aload_n hx hb dX3_blast_38 rfl (lv_at hl 1 rfl) ?_
      refine g_get CX HW in_X3_blast_3 0 0 rfl rfl (Nat.le_of_ble_eq_true rfl) fl_X3_blast_10 rfl dX3_blast_39 ?_
      refine g_get CX HW in_X3_blast_2 1 5 rfl rfl (Nat.le_of_ble_eq_true rfl) fl_X3_blast_35 rfl dX3_blast_42 ?_
      refine g_get CX HW in_X3_blast_0 5 2 rfl rfl (Nat.le_of_ble_eq_true rfl) fl_X3_blast_88 rfl dX3_blast_45 ?_
      refine lv_iload_n hx hb dX3_blast_48 rfl (lv_at hl 2 rfl) ?_
      refine g_ald CX HW 7 (k := r) rfl rfl rfl (by omega) (Nat.le_of_ble_eq_true rfl) dX3_blast_49 ?_
      refine lv_imul hx hb dX3_blast_50 ?_
      refine lv_sipush (v := 300) hx hb dX3_blast_51 (by decide) ?_
      refine lv_icmp_ge (tgt := 67) hx hb dX3_blast_54 (by decide) (fun c54 => ?_) (fun c54 => ?_)
      · refine lv_aload_n hx hb dX3_blast_67 rfl (lv_at hl 1 rfl) ?_
        refine g_get CX HW in_X3_blast_3 0 0 rfl rfl (Nat.le_of_ble_eq_true rfl) fl_X3_blast_10 rfl dX3_blast_68 ?_
        refine g_get CX HW in_X3_blast_2 1 5 rfl rfl (Nat.le_of_ble_eq_true rfl) fl_X3_blast_35 rfl dX3_blast_71 ?_
        refine g_get CX HW in_X3_blast_0 5 3 rfl rfl (Nat.le_of_ble_eq_true rfl) fl_X3_blast_79 rfl dX3_blast_74 ?_
        refine lv_iload_n hx hb dX3_blast_77 rfl (lv_at hl 2 rfl) ?_
        refine lv_iload_n hx hb dX3_blast_78 rfl (lv_at hl 0 rfl) ?_
        refine lv_iconst (v := 2) hx hb dX3_blast_79 (by decide) ?_
        refine lv_idiv hx hb dX3_blast_80 (by decide) ?_
        refine g_ast CX HW 8 (k := r) rfl rfl rfl (by omega) (Nat.le_of_ble_eq_true rfl) dX3_blast_81 (fun H locs HW => ?_)
        have HW : Hw D A s (wXo cI a o  ++ (wVo cI a (o + 1) (vh S) (vc S) (vA S 0) (vA S 1) (vA S 2) ++ (wR cI a ((o + 1) + 4) (vr S) (vA S 3) (vA S 4) (upd (vA S 5) r (((vA S 5) r) / (2 : Int32))) (vA S 6) ++ (wS cI a ((o + 1) + 9) (vs S) (vA S 7) (vA S 8) (vA S 9) (vA S 10) (vA S 11) (vA S 12) qt qp ++ (wVo cI a (o + 19) (vh T) (vc T) (vA T 0) (vA T 1) (vA T 2) ++ (wR cI a ((o + 19) + 4) (vr T) (vA T 3) (vA T 4) (vA T 5) (vA T 6) ++ (wS cI a ((o + 19) + 9) (vs T) (vA T 7) (vA T 8) (vA T 9) (vA T 10) (vA T 11) (vA T 12) qt2 qp2))))))) H locs := HW
        refine lv_iload_n hx hb dX3_blast_82 rfl (lv_at hl 0 rfl) ?_
        refine lv_aload_n hx hb dX3_blast_83 rfl (lv_at hl 1 rfl) ?_
        refine g_get CX HW in_X3_blast_3 0 0 rfl rfl (Nat.le_of_ble_eq_true rfl) fl_X3_blast_10 rfl dX3_blast_84 ?_
        refine g_get CX HW in_X3_blast_2 1 5 rfl rfl (Nat.le_of_ble_eq_true rfl) fl_X3_blast_35 rfl dX3_blast_87 ?_
        refine g_get CX HW in_X3_blast_0 5 3 rfl rfl (Nat.le_of_ble_eq_true rfl) fl_X3_blast_79 rfl dX3_blast_90 ?_
        refine lv_iload_n hx hb dX3_blast_93 rfl (lv_at hl 2 rfl) ?_
        refine g_ald CX HW 8 (k := r) rfl rfl rfl (by omega) (Nat.le_of_ble_eq_true rfl) dX3_blast_94 ?_
        refine g_top (y := (vA S 5 r / (2 : Int32))) pk_us ?_
        refine lv_isub hx hb dX3_blast_95 ?_
        exact gx_ret (Nat.le_of_ble_eq_true rfl) (Nat.le_of_ble_eq_true rfl) (g_iret CX HW rfl ⟨(by rw [kBla, er]; rw [if_neg (fun h9 => h9 c11), if_neg (fun h9 => h9 c54)]), by rw [er], by rw [sBla, er]; rfl⟩ dX3_blast_96)
      · exact gx_throw CX hext hZ HW hl.1 hst (cls := exS) (text := "not too much snow lies on the run") (ik := 45) (is := 91) (ic := 49) (by decide +kernel) xk_X3_blast_exS.1 xk_X3_blast_exS.2 (by decide +kernel) xa_X3_blast_exS xbad_49 xgood_49 dX3_blast_57 dX3_blast_60 dX3_blast_61 dX3_blast_63 dX3_blast_66 (Nat.le_of_ble_eq_true rfl) (Nat.le_of_ble_eq_true rfl) (Nat.le_of_ble_eq_true rfl) (Nat.le_of_ble_eq_true rfl) (Nat.le_of_ble_eq_true rfl) (Nat.le_of_ble_eq_true rfl) (⟨Or.inr (⟨rfl, by rw [kBla, er]; rw [if_neg (fun h9 => h9 c11), if_pos c54]⟩), rfl⟩)
  · exact gx_throw CX hext hZ HW hl.1 hst (cls := exI) (text := "no such run") (ik := 23) (is := 71) (ic := 27) (by decide +kernel) xk_X3_blast_exI.1 xk_X3_blast_exI.2 (by decide +kernel) xa_X3_blast_exI xbad_27 xgood_27 dX3_blast_14 dX3_blast_17 dX3_blast_18 dX3_blast_20 dX3_blast_23 (Nat.le_of_ble_eq_true rfl) (Nat.le_of_ble_eq_true rfl) (Nat.le_of_ble_eq_true rfl) (Nat.le_of_ble_eq_true rfl) (Nat.le_of_ble_eq_true rfl) (Nat.le_of_ble_eq_true rfl) (⟨Or.inl ⟨rfl, by rw [kBla]; rw [if_pos c11]⟩, rfl⟩)

theorem hd_X3_skier : yX3_skier.cls ≠ "java/lang/invoke/MethodHandle" ∧ yX3_skier.cls ≠ "java/lang/invoke/VarHandle" ∧ (parseMethodDescriptor yX3_skier.desc).map (fun d => d.parameters.length) = some 2 := by decide +kernel
theorem fl_X3_skier_10 : Cond.fieldLink RX3 10 (TX3 0).1 (TX3 0).2.1 (TX3 0).2.2.1 ∈ wsX3_skier := by decide +kernel
theorem in_X3_skier_3 : ∀ x ∈ u_ws RX3 TX3 2, x ∈ wsX3_skier := by decide +kernel
theorem fl_X3_skier_97 : Cond.fieldLink RX3 97 (TX2 6).1 (TX2 6).2.1 (TX2 6).2.2.1 ∈ wsX3_skier := by decide +kernel
theorem in_X3_skier_2 : ∀ x ∈ u_ws RX2 TX2 7, x ∈ wsX3_skier := by decide +kernel
theorem xk_X3_skier_exS : Cond.classLink RX3 45 exS ∈ wsX3_skier ∧ Cond.initialized exS ∈ wsX3_skier := ⟨by decide +kernel, by decide +kernel⟩
theorem xa_X3_skier_exS : ∀ x ∈ (vx_atS RX3 49 exS nms).filter goodWord, x ∈ wsX3_skier := by decide +kernel
theorem xk_X3_skier_exA : Cond.classLink RX3 30 exA ∈ wsX3_skier ∧ Cond.initialized exA ∈ wsX3_skier := ⟨by decide +kernel, by decide +kernel⟩
theorem xa_X3_skier_exA : ∀ x ∈ (vx_atS RX3 34 exA nms).filter goodWord, x ∈ wsX3_skier := by decide +kernel
set_option maxRecDepth 100000 in
set_option maxHeartbeats 4000000 in
theorem c_X3_skier {l : Launch} {D : va_G} {cI cL : ClassId} {a : Nat → Nat} (hst : l.stackTraces = false) (o : Nat) (S : VS) (qt : Nat → Int32) (qp : Nat → Int32) (T : VS) (qt2 : Nat → Int32) (qp2 : Nat → Int32) (z : Int32) (y : Int32) (hn6 : vr S ≤ 6) (hn8 : vs S ≤ 8) (hR : Rep (vs S) (vq S) qt qp) : CtX l yX3_skier wsX3_skier { frames := 6, cells := 1, slots := 6, locals := 92 } D (ty2 cI cL) [.ref (a o), .int z, .int y] (wXo cI a o  ++ (wVo cI a (o + 1) (vh S) (vc S) (vA S 0) (vA S 1) (vA S 2) ++ (wR cI a ((o + 1) + 4) (vr S) (vA S 3) (vA S 4) (vA S 5) (vA S 6) ++ (wS cI a ((o + 1) + 9) (vs S) (vA S 7) (vA S 8) (vA S 9) (vA S 10) (vA S 11) (vA S 12) qt qp ++ (wVo cI a (o + 19) (vh T) (vc T) (vA T 0) (vA T 1) (vA T 2) ++ (wR cI a ((o + 19) + 4) (vr T) (vA T 3) (vA T 4) (vA T 5) (vA T 6) ++ (wS cI a ((o + 19) + 9) (vs T) (vA T 7) (vA T 8) (vA T 9) (vA T 10) (vA T 11) (vA T 12) qt2 qp2))))))) (fun v w' => ∃ (qt' : Nat → Int32) (qp' : Nat → Int32), Rep (vs (sSki S z y)) (vq (sSki S z y)) qt' qp' ∧ kSki S z y = 0 ∧ v = some (.int (nI (vs S))) ∧ w' = wXo cI a o  ++ (wVo cI a (o + 1) (vh (sSki S z y)) (vc (sSki S z y)) (vA (sSki S z y) 0) (vA (sSki S z y) 1) (vA (sSki S z y) 2) ++ (wR cI a ((o + 1) + 4) (vr (sSki S z y)) (vA (sSki S z y) 3) (vA (sSki S z y) 4) (vA (sSki S z y) 5) (vA (sSki S z y) 6) ++ (wS cI a ((o + 1) + 9) (vs (sSki S z y)) (vA (sSki S z y) 7) (vA (sSki S z y) 8) (vA (sSki S z y) 9) (vA (sSki S z y) 10) (vA (sSki S z y) 11) (vA (sSki S z y) 12) qt' qp' ++ (wVo cI a (o + 19) (vh T) (vc T) (vA T 0) (vA T 1) (vA T 2) ++ (wR cI a ((o + 19) + 4) (vr T) (vA T 3) (vA T 4) (vA T 5) (vA T 6) ++ (wS cI a ((o + 19) + 9) (vs T) (vA T 7) (vA T 8) (vA T 9) (vA T 10) (vA T 11) (vA T 12) qt2 qp2))))))) (fun E w' => ((E = exA ∧ kSki S z y = 1) ∨ (E = exS ∧ kSki S z y = 2)) ∧ w' = wXo cI a o  ++ (wVo cI a (o + 1) (vh S) (vc S) (vA S 0) (vA S 1) (vA S 2) ++ (wR cI a ((o + 1) + 4) (vr S) (vA S 3) (vA S 4) (vA S 5) (vA S 6) ++ (wS cI a ((o + 1) + 9) (vs S) (vA S 7) (vA S 8) (vA S 9) (vA S 10) (vA S 11) (vA S 12) qt qp ++ (wVo cI a (o + 19) (vh T) (vc T) (vA T 0) (vA T 1) (vA T 2) ++ (wR cI a ((o + 19) + 4) (vr T) (vA T 3) (vA T 4) (vA T 5) (vA T 6) ++ (wS cI a ((o + 19) + 9) (vs T) (vA T 7) (vA T 8) (vA T 9) (vA T 10) (vA T 11) (vA T 12) qt2 qp2))))))) := by
  refine CtX.of (cc := cX3_skier) (maxL := 3) (ret := (some .int)) (by decide) rfl (Nat.le_of_ble_eq_true rfl) ?_
  intro p e s m below meth c A ls CX hext hZ HW hl
  obtain ⟨hx, hb, hml, hr, hown, hts, hK, hA, hlk⟩ := id CX
  have hl : lv_has ls 3 [(0, .ref (a o)), (1, .int z), (2, .int y)] := hl
  refine lv_iload_n hx hb dX3_skier_0 rfl (lv_at hl 1 rfl) ?_
  refine lv_iconst (v := 1) hx hb dX3_skier_1 (by decide) ?_
  refine lv_bipush (v := 9) hx hb dX3_skier_2 (by decide) ?_
  refine g_callS CX HW hl.1 ([]) (wXo cI a o  ++ (wVo cI a (o + 1) (vh S) (vc S) (vA S 0) (vA S 1) (vA S 2) ++ (wR cI a ((o + 1) + 4) (vr S) (vA S 3) (vA S 4) (vA S 5) (vA S 6) ++ (wS cI a ((o + 1) + 9) (vs S) (vA S 7) (vA S 8) (vA S 9) (vA S 10) (vA S 11) (vA S 12) qt qp ++ (wVo cI a (o + 19) (vh T) (vc T) (vA T 0) (vA T 1) (vA T 2) ++ (wR cI a ((o + 19) + 4) (vr T) (vA T 3) (vA T 4) (vA T 5) (vA T 6) ++ (wS cI a ((o + 19) + 9) (vs T) (vA T 7) (vA T 8) (vA T 9) (vA T 10) (vA T 11) (vA T 12) qt2 qp2))))))) (c_X3_isWithin z (1 : Int32) (9 : Int32)) rfl gX3_skier_X3_isWithin rfl hd_X3_isWithin ⟨rfl, rfl, (Nat.le_of_ble_eq_true rfl), (Nat.le_of_ble_eq_true rfl)⟩ ⟨(Nat.zero_le _), (Nat.zero_le _)⟩ rfl rfl (Nat.le_of_ble_eq_true rfl) dX3_skier_4 (fun v w1 H locs hp HW => ?_)
  obtain ⟨rfl, rfl⟩ := hp
  have HW : Hw D A s (wXo cI a o  ++ (wVo cI a (o + 1) (vh S) (vc S) (vA S 0) (vA S 1) (vA S 2) ++ (wR cI a ((o + 1) + 4) (vr S) (vA S 3) (vA S 4) (vA S 5) (vA S 6) ++ (wS cI a ((o + 1) + 9) (vs S) (vA S 7) (vA S 8) (vA S 9) (vA S 10) (vA S 11) (vA S 12) qt qp ++ (wVo cI a (o + 19) (vh T) (vc T) (vA T 0) (vA T 1) (vA T 2) ++ (wR cI a ((o + 19) + 4) (vr T) (vA T 3) (vA T 4) (vA T 5) (vA T 6) ++ (wS cI a ((o + 19) + 9) (vs T) (vA T 7) (vA T 8) (vA T 9) (vA T 10) (vA T 11) (vA T 12) qt2 qp2))))))) H locs := HW
  refine W.eq (g2 := F0 m 7 ls [.int (bI ((1 : Int32) ≤ z ∧ z ≤ (9 : Int32)))]) rfl ?_
  refine g_ifne_b (tgt := 20) hx hb dX3_skier_7 (by decide) (fun c7 => ?_) (fun c7 => ?_)
  · refine lv_iload_n hx hb dX3_skier_20 rfl (lv_at hl 2 rfl) ?_
    refine lv_iconst (v := 0) hx hb dX3_skier_21 (by decide) ?_
    refine lv_bipush (v := 60) hx hb dX3_skier_22 (by decide) ?_
    refine g_callS CX HW hl.1 ([]) (wXo cI a o  ++ (wVo cI a (o + 1) (vh S) (vc S) (vA S 0) (vA S 1) (vA S 2) ++ (wR cI a ((o + 1) + 4) (vr S) (vA S 3) (vA S 4) (vA S 5) (vA S 6) ++ (wS cI a ((o + 1) + 9) (vs S) (vA S 7) (vA S 8) (vA S 9) (vA S 10) (vA S 11) (vA S 12) qt qp ++ (wVo cI a (o + 19) (vh T) (vc T) (vA T 0) (vA T 1) (vA T 2) ++ (wR cI a ((o + 19) + 4) (vr T) (vA T 3) (vA T 4) (vA T 5) (vA T 6) ++ (wS cI a ((o + 19) + 9) (vs T) (vA T 7) (vA T 8) (vA T 9) (vA T 10) (vA T 11) (vA T 12) qt2 qp2))))))) (c_X3_isWithin y (0 : Int32) (60 : Int32)) rfl gX3_skier_X3_isWithin rfl hd_X3_isWithin ⟨rfl, rfl, (Nat.le_of_ble_eq_true rfl), (Nat.le_of_ble_eq_true rfl)⟩ ⟨(Nat.zero_le _), (Nat.zero_le _)⟩ rfl rfl (Nat.le_of_ble_eq_true rfl) dX3_skier_24 (fun v w1 H locs hp HW => ?_)
    obtain ⟨rfl, rfl⟩ := hp
    have HW : Hw D A s (wXo cI a o  ++ (wVo cI a (o + 1) (vh S) (vc S) (vA S 0) (vA S 1) (vA S 2) ++ (wR cI a ((o + 1) + 4) (vr S) (vA S 3) (vA S 4) (vA S 5) (vA S 6) ++ (wS cI a ((o + 1) + 9) (vs S) (vA S 7) (vA S 8) (vA S 9) (vA S 10) (vA S 11) (vA S 12) qt qp ++ (wVo cI a (o + 19) (vh T) (vc T) (vA T 0) (vA T 1) (vA T 2) ++ (wR cI a ((o + 19) + 4) (vr T) (vA T 3) (vA T 4) (vA T 5) (vA T 6) ++ (wS cI a ((o + 19) + 9) (vs T) (vA T 7) (vA T 8) (vA T 9) (vA T 10) (vA T 11) (vA T 12) qt2 qp2))))))) H locs := HW
    refine W.eq (g2 := F0 m 27 ls [.int (bI ((0 : Int32) ≤ y ∧ y ≤ (60 : Int32)))]) rfl ?_
    refine g_ifne_b (tgt := 40) hx hb dX3_skier_27 (by decide) (fun c27 => ?_) (fun c27 => ?_)
    · refine lv_aload_n hx hb dX3_skier_40 rfl (lv_at hl 0 rfl) ?_
      refine g_get CX HW in_X3_skier_3 0 0 rfl rfl (Nat.le_of_ble_eq_true rfl) fl_X3_skier_10 rfl dX3_skier_41 ?_
      refine g_get CX HW in_X3_skier_2 1 6 rfl rfl (Nat.le_of_ble_eq_true rfl) fl_X3_skier_97 rfl dX3_skier_44 ?_
      refine g_callV CX HW hl.1 (wXo cI a o  ++ (wVo cI a (o + 1) (vh S) (vc S) (vA S 0) (vA S 1) (vA S 2) ++ (wR cI a ((o + 1) + 4) (vr S) (vA S 3) (vA S 4) (vA S 5) (vA S 6)))) (wVo cI a (o + 19) (vh T) (vc T) (vA T 0) (vA T 1) (vA T 2) ++ (wR cI a ((o + 19) + 4) (vr T) (vA T 3) (vA T 4) (vA T 5) (vA T 6) ++ (wS cI a ((o + 19) + 9) (vs T) (vA T 7) (vA T 8) (vA T 9) (vA T 10) (vA T 11) (vA T 12) qt2 qp2))) (c_X1_isFull ((o + 1) + 9) (vs S) (vA S 7) (vA S 8) (vA S 9) (vA S 10) (vA S 11) (vA S 12) qt qp) rfl 0 rfl rfl gX3_skier_X1_isFull rfl ⟨rfl, hd_X1_isFull⟩ ⟨rfl, rfl, (Nat.le_of_ble_eq_true rfl), (Nat.le_of_ble_eq_true rfl)⟩ ⟨(Nat.zero_le _), (Nat.zero_le _)⟩ rfl rfl (Nat.le_of_ble_eq_true rfl) dX3_skier_47 (fun v w1 H locs hp HW => ?_)
      obtain ⟨rfl, rfl⟩ := hp
      have HW : Hw D A s (wXo cI a o  ++ (wVo cI a (o + 1) (vh S) (vc S) (vA S 0) (vA S 1) (vA S 2) ++ (wR cI a ((o + 1) + 4) (vr S) (vA S 3) (vA S 4) (vA S 5) (vA S 6) ++ (wS cI a ((o + 1) + 9) (vs S) (vA S 7) (vA S 8) (vA S 9) (vA S 10) (vA S 11) (vA S 12) qt qp ++ (wVo cI a (o + 19) (vh T) (vc T) (vA T 0) (vA T 1) (vA T 2) ++ (wR cI a ((o + 19) + 4) (vr T) (vA T 3) (vA T 4) (vA T 5) (vA T 6) ++ (wS cI a ((o + 19) + 9) (vs T) (vA T 7) (vA T 8) (vA T 9) (vA T 10) (vA T 11) (vA T 12) qt2 qp2))))))) H locs := HW
      refine W.eq (g2 := F0 m 50 ls [.int (bI (8 ≤ nI (vs S)))]) rfl ?_
      refine g_ifeq_b (tgt := 63) hx hb dX3_skier_50 (by decide) (fun c50 => ?_) (fun c50 => ?_)
      · refine lv_aload_n hx hb dX3_skier_63 rfl (lv_at hl 0 rfl) ?_
        refine g_get CX HW in_X3_skier_3 0 0 rfl rfl (Nat.le_of_ble_eq_true rfl) fl_X3_skier_10 rfl dX3_skier_64 ?_
        refine g_get CX HW in_X3_skier_2 1 6 rfl rfl (Nat.le_of_ble_eq_true rfl) fl_X3_skier_97 rfl dX3_skier_67 ?_
        refine lv_iload_n hx hb dX3_skier_70 rfl (lv_at hl 1 rfl) ?_
        refine lv_iload_n hx hb dX3_skier_71 rfl (lv_at hl 2 rfl) ?_
        refine g_callV CX HW hl.1 (wXo cI a o  ++ (wVo cI a (o + 1) (vh S) (vc S) (vA S 0) (vA S 1) (vA S 2) ++ (wR cI a ((o + 1) + 4) (vr S) (vA S 3) (vA S 4) (vA S 5) (vA S 6)))) (wVo cI a (o + 19) (vh T) (vc T) (vA T 0) (vA T 1) (vA T 2) ++ (wR cI a ((o + 19) + 4) (vr T) (vA T 3) (vA T 4) (vA T 5) (vA T 6) ++ (wS cI a ((o + 19) + 9) (vs T) (vA T 7) (vA T 8) (vA T 9) (vA T 10) (vA T 11) (vA T 12) qt2 qp2))) (c_X1_add ((o + 1) + 9) (vs S) (vA S 7) (vA S 8) (vA S 9) (vA S 10) (vA S 11) (vA S 12) qt qp z y (ski_lt hn8 c50)) rfl 0 rfl rfl gX3_skier_X1_add rfl ⟨rfl, hd_X1_add⟩ ⟨rfl, rfl, (Nat.le_of_ble_eq_true rfl), (Nat.le_of_ble_eq_true rfl)⟩ ⟨(Nat.zero_le _), (Nat.zero_le _)⟩ rfl rfl (Nat.le_of_ble_eq_true rfl) dX3_skier_72 (fun v w1 H locs hp HW => ?_)
        obtain ⟨rfl, rfl⟩ := hp
        have HW : Hw D A s (wXo cI a o  ++ (wVo cI a (o + 1) (vh S) (vc S) (vA S 0) (vA S 1) (vA S 2) ++ (wR cI a ((o + 1) + 4) (vr S) (vA S 3) (vA S 4) (vA S 5) (vA S 6) ++ (wS cI a ((o + 1) + 9) ((vs S) + 1) (upd (vA S 7) (vs S) z) (upd (vA S 8) (vs S) y) (vA S 9) (vA S 10) (vA S 11) (vA S 12) (upd qt (vs S) (-1)) qp ++ (wVo cI a (o + 19) (vh T) (vc T) (vA T 0) (vA T 1) (vA T 2) ++ (wR cI a ((o + 19) + 4) (vr T) (vA T 3) (vA T 4) (vA T 5) (vA T 6) ++ (wS cI a ((o + 19) + 9) (vs T) (vA T 7) (vA T 8) (vA T 9) (vA T 10) (vA T 11) (vA T 12) qt2 qp2))))))) H locs := HW
        refine W.eq (g2 := F0 m 75 ls [.int (nI (vs S))]) rfl ?_
        exact gx_ret (Nat.le_of_ble_eq_true rfl) (Nat.le_of_ble_eq_true rfl) (g_iret CX HW rfl ⟨_, _, rep_new hR, (by rw [kSki]; rw [if_neg (fun h9 => h9 c7), if_neg (fun h9 => h9 c27), if_neg c50]), rfl, rfl⟩ dX3_skier_75)
      · exact gx_throw CX hext hZ HW hl.1 hst (cls := exS) (text := "there are 8 skiers") (ik := 45) (is := 104) (ic := 49) (by decide +kernel) xk_X3_skier_exS.1 xk_X3_skier_exS.2 (by decide +kernel) xa_X3_skier_exS xbad_49 xgood_49 dX3_skier_53 dX3_skier_56 dX3_skier_57 dX3_skier_59 dX3_skier_62 (Nat.le_of_ble_eq_true rfl) (Nat.le_of_ble_eq_true rfl) (Nat.le_of_ble_eq_true rfl) (Nat.le_of_ble_eq_true rfl) (Nat.le_of_ble_eq_true rfl) (Nat.le_of_ble_eq_true rfl) (⟨Or.inr (⟨rfl, by rw [kSki]; rw [if_neg (fun h9 => h9 c7), if_neg (fun h9 => h9 c27), if_pos c50]⟩), rfl⟩)
    · exact gx_throw CX hext hZ HW hl.1 hst (cls := exA) (text := "coins is not 0 to 60") (ik := 30) (is := 95) (ic := 34) (by decide +kernel) xk_X3_skier_exA.1 xk_X3_skier_exA.2 (by decide +kernel) xa_X3_skier_exA xbad_34 xgood_34 dX3_skier_30 dX3_skier_33 dX3_skier_34 dX3_skier_36 dX3_skier_39 (Nat.le_of_ble_eq_true rfl) (Nat.le_of_ble_eq_true rfl) (Nat.le_of_ble_eq_true rfl) (Nat.le_of_ble_eq_true rfl) (Nat.le_of_ble_eq_true rfl) (Nat.le_of_ble_eq_true rfl) (⟨Or.inl ⟨rfl, by rw [kSki]; rw [if_neg (fun h9 => h9 c7), if_pos c27]⟩, rfl⟩)
  · exact gx_throw CX hext hZ HW hl.1 hst (cls := exA) (text := "skill is not 1 to 9") (ik := 30) (is := 93) (ic := 34) (by decide +kernel) xk_X3_skier_exA.1 xk_X3_skier_exA.2 (by decide +kernel) xa_X3_skier_exA xbad_34 xgood_34 dX3_skier_10 dX3_skier_13 dX3_skier_14 dX3_skier_16 dX3_skier_19 (Nat.le_of_ble_eq_true rfl) (Nat.le_of_ble_eq_true rfl) (Nat.le_of_ble_eq_true rfl) (Nat.le_of_ble_eq_true rfl) (Nat.le_of_ble_eq_true rfl) (Nat.le_of_ble_eq_true rfl) (⟨Or.inl ⟨rfl, by rw [kSki]; rw [if_pos c7]⟩, rfl⟩)

theorem hd_X3_wax : yX3_wax.cls ≠ "java/lang/invoke/MethodHandle" ∧ yX3_wax.cls ≠ "java/lang/invoke/VarHandle" ∧ (parseMethodDescriptor yX3_wax.desc).map (fun d => d.parameters.length) = some 2 := by decide +kernel
theorem fl_X3_wax_10 : Cond.fieldLink RX3 10 (TX3 0).1 (TX3 0).2.1 (TX3 0).2.2.1 ∈ wsX3_wax := by decide +kernel
theorem in_X3_wax_3 : ∀ x ∈ u_ws RX3 TX3 2, x ∈ wsX3_wax := by decide +kernel
theorem fl_X3_wax_97 : Cond.fieldLink RX3 97 (TX2 6).1 (TX2 6).2.1 (TX2 6).2.2.1 ∈ wsX3_wax := by decide +kernel
theorem in_X3_wax_2 : ∀ x ∈ u_ws RX2 TX2 7, x ∈ wsX3_wax := by decide +kernel
theorem fl_X3_wax_112 : Cond.fieldLink RX3 112 (TX1 2).1 (TX1 2).2.1 (TX1 2).2.2.1 ∈ wsX3_wax := by decide +kernel
theorem in_X3_wax_1 : ∀ x ∈ u_ws RX1 TX1 9, x ∈ wsX3_wax := by decide +kernel
theorem fl_X3_wax_73 : Cond.fieldLink RX3 73 (TX2 1).1 (TX2 1).2.1 (TX2 1).2.2.1 ∈ wsX3_wax := by decide +kernel
theorem xk_X3_wax_exS : Cond.classLink RX3 45 exS ∈ wsX3_wax ∧ Cond.initialized exS ∈ wsX3_wax := ⟨by decide +kernel, by decide +kernel⟩
theorem xa_X3_wax_exS : ∀ x ∈ (vx_atS RX3 49 exS nms).filter goodWord, x ∈ wsX3_wax := by decide +kernel
theorem xk_X3_wax_exA : Cond.classLink RX3 30 exA ∈ wsX3_wax ∧ Cond.initialized exA ∈ wsX3_wax := ⟨by decide +kernel, by decide +kernel⟩
theorem xa_X3_wax_exA : ∀ x ∈ (vx_atS RX3 34 exA nms).filter goodWord, x ∈ wsX3_wax := by decide +kernel
theorem xk_X3_wax_exI : Cond.classLink RX3 23 exI ∈ wsX3_wax ∧ Cond.initialized exI ∈ wsX3_wax := ⟨by decide +kernel, by decide +kernel⟩
theorem xa_X3_wax_exI : ∀ x ∈ (vx_atS RX3 27 exI nms).filter goodWord, x ∈ wsX3_wax := by decide +kernel
set_option maxRecDepth 100000 in
set_option maxHeartbeats 4000000 in
theorem c_X3_wax {l : Launch} {D : va_G} {cI cL : ClassId} {a : Nat → Nat} (hst : l.stackTraces = false) (o : Nat) (S : VS) (qt : Nat → Int32) (qp : Nat → Int32) (T : VS) (qt2 : Nat → Int32) (qp2 : Nat → Int32) (x : Int32) (z : Int32) (hn6 : vr S ≤ 6) (hn8 : vs S ≤ 8) : CtX l yX3_wax wsX3_wax { frames := 6, cells := 1, slots := 6, locals := 92 } D (ty2 cI cL) [.ref (a o), .int x, .int z] (wXo cI a o  ++ (wVo cI a (o + 1) (vh S) (vc S) (vA S 0) (vA S 1) (vA S 2) ++ (wR cI a ((o + 1) + 4) (vr S) (vA S 3) (vA S 4) (vA S 5) (vA S 6) ++ (wS cI a ((o + 1) + 9) (vs S) (vA S 7) (vA S 8) (vA S 9) (vA S 10) (vA S 11) (vA S 12) qt qp ++ (wVo cI a (o + 19) (vh T) (vc T) (vA T 0) (vA T 1) (vA T 2) ++ (wR cI a ((o + 19) + 4) (vr T) (vA T 3) (vA T 4) (vA T 5) (vA T 6) ++ (wS cI a ((o + 19) + 9) (vs T) (vA T 7) (vA T 8) (vA T 9) (vA T 10) (vA T 11) (vA T 12) qt2 qp2))))))) (fun v w' => kWax S x z = 0 ∧ v = some (.int (vA S 8 (natI x) - 2)) ∧ w' = wXo cI a o  ++ (wVo cI a (o + 1) (vh (sWax S x z)) (vc (sWax S x z)) (vA (sWax S x z) 0) (vA (sWax S x z) 1) (vA (sWax S x z) 2) ++ (wR cI a ((o + 1) + 4) (vr (sWax S x z)) (vA (sWax S x z) 3) (vA (sWax S x z) 4) (vA (sWax S x z) 5) (vA (sWax S x z) 6) ++ (wS cI a ((o + 1) + 9) (vs (sWax S x z)) (vA (sWax S x z) 7) (vA (sWax S x z) 8) (vA (sWax S x z) 9) (vA (sWax S x z) 10) (vA (sWax S x z) 11) (vA (sWax S x z) 12) qt qp ++ (wVo cI a (o + 19) (vh T) (vc T) (vA T 0) (vA T 1) (vA T 2) ++ (wR cI a ((o + 19) + 4) (vr T) (vA T 3) (vA T 4) (vA T 5) (vA T 6) ++ (wS cI a ((o + 19) + 9) (vs T) (vA T 7) (vA T 8) (vA T 9) (vA T 10) (vA T 11) (vA T 12) qt2 qp2))))))) (fun E w' => ((E = exI ∧ kWax S x z = 1) ∨ (E = exA ∧ kWax S x z = 2) ∨ (E = exS ∧ kWax S x z = 3)) ∧ w' = wXo cI a o  ++ (wVo cI a (o + 1) (vh S) (vc S) (vA S 0) (vA S 1) (vA S 2) ++ (wR cI a ((o + 1) + 4) (vr S) (vA S 3) (vA S 4) (vA S 5) (vA S 6) ++ (wS cI a ((o + 1) + 9) (vs S) (vA S 7) (vA S 8) (vA S 9) (vA S 10) (vA S 11) (vA S 12) qt qp ++ (wVo cI a (o + 19) (vh T) (vc T) (vA T 0) (vA T 1) (vA T 2) ++ (wR cI a ((o + 19) + 4) (vr T) (vA T 3) (vA T 4) (vA T 5) (vA T 6) ++ (wS cI a ((o + 19) + 9) (vs T) (vA T 7) (vA T 8) (vA T 9) (vA T 10) (vA T 11) (vA T 12) qt2 qp2))))))) := by
  refine CtX.of (cc := cX3_wax) (maxL := 3) (ret := (some .int)) (by decide) rfl (Nat.le_of_ble_eq_true rfl) ?_
  intro p e s m below meth c A ls CX hext hZ HW hl
  obtain ⟨hx, hb, hml, hr, hown, hts, hK, hA, hlk⟩ := id CX
  have hl : lv_has ls 3 [(0, .ref (a o)), (1, .int x), (2, .int z)] := hl
  refine lv_aload_n hx hb dX3_wax_0 rfl (lv_at hl 0 rfl) ?_
  refine g_get CX HW in_X3_wax_3 0 0 rfl rfl (Nat.le_of_ble_eq_true rfl) fl_X3_wax_10 rfl dX3_wax_1 ?_
  refine g_get CX HW in_X3_wax_2 1 6 rfl rfl (Nat.le_of_ble_eq_true rfl) fl_X3_wax_97 rfl dX3_wax_4 ?_
  refine lv_iload_n hx hb dX3_wax_7 rfl (lv_at hl 1 rfl) ?_
  refine g_callV CX HW hl.1 (wXo cI a o  ++ (wVo cI a (o + 1) (vh S) (vc S) (vA S 0) (vA S 1) (vA S 2) ++ (wR cI a ((o + 1) + 4) (vr S) (vA S 3) (vA S 4) (vA S 5) (vA S 6)))) (wVo cI a (o + 19) (vh T) (vc T) (vA T 0) (vA T 1) (vA T 2) ++ (wR cI a ((o + 19) + 4) (vr T) (vA T 3) (vA T 4) (vA T 5) (vA T 6) ++ (wS cI a ((o + 19) + 9) (vs T) (vA T 7) (vA T 8) (vA T 9) (vA T 10) (vA T 11) (vA T 12) qt2 qp2))) (c_X1_has ((o + 1) + 9) (vs S) (vA S 7) (vA S 8) (vA S 9) (vA S 10) (vA S 11) (vA S 12) qt qp x) rfl 0 rfl rfl gX3_wax_X1_has rfl ⟨rfl, hd_X1_has⟩ ⟨rfl, rfl, (Nat.le_of_ble_eq_true rfl), (Nat.le_of_ble_eq_true rfl)⟩ ⟨(Nat.zero_le _), (Nat.zero_le _)⟩ rfl rfl (Nat.le_of_ble_eq_true rfl) dX3_wax_8 (fun v w1 H locs hp HW => ?_)
  obtain ⟨rfl, rfl⟩ := hp
  have HW : Hw D A s (wXo cI a o  ++ (wVo cI a (o + 1) (vh S) (vc S) (vA S 0) (vA S 1) (vA S 2) ++ (wR cI a ((o + 1) + 4) (vr S) (vA S 3) (vA S 4) (vA S 5) (vA S 6) ++ (wS cI a ((o + 1) + 9) (vs S) (vA S 7) (vA S 8) (vA S 9) (vA S 10) (vA S 11) (vA S 12) qt qp ++ (wVo cI a (o + 19) (vh T) (vc T) (vA T 0) (vA T 1) (vA T 2) ++ (wR cI a ((o + 19) + 4) (vr T) (vA T 3) (vA T 4) (vA T 5) (vA T 6) ++ (wS cI a ((o + 19) + 9) (vs T) (vA T 7) (vA T 8) (vA T 9) (vA T 10) (vA T 11) (vA T 12) qt2 qp2))))))) H locs := HW
  refine W.eq (g2 := F0 m 11 ls [.int (bI (0 ≤ x ∧ x < nI (vs S)))]) rfl ?_
  refine g_ifne_b (tgt := 24) hx hb dX3_wax_11 (by decide) (fun c11 => ?_) (fun c11 => ?_)
  · obtain ⟨k, hk, rfl⟩ := has_nat (by omega) c11
    have ek : natI (nI k) = k := natI_nI (by omega)
    · refine lv_iload_n hx hb dX3_wax_24 rfl (lv_at hl 2 rfl) ?_
      refine lv_iconst (v := 0) hx hb dX3_wax_25 (by decide) ?_
      refine lv_iconst (v := 3) hx hb dX3_wax_26 (by decide) ?_
      refine g_callS CX HW hl.1 ([]) (wXo cI a o  ++ (wVo cI a (o + 1) (vh S) (vc S) (vA S 0) (vA S 1) (vA S 2) ++ (wR cI a ((o + 1) + 4) (vr S) (vA S 3) (vA S 4) (vA S 5) (vA S 6) ++ (wS cI a ((o + 1) + 9) (vs S) (vA S 7) (vA S 8) (vA S 9) (vA S 10) (vA S 11) (vA S 12) qt qp ++ (wVo cI a (o + 19) (vh T) (vc T) (vA T 0) (vA T 1) (vA T 2) ++ (wR cI a ((o + 19) + 4) (vr T) (vA T 3) (vA T 4) (vA T 5) (vA T 6) ++ (wS cI a ((o + 19) + 9) (vs T) (vA T 7) (vA T 8) (vA T 9) (vA T 10) (vA T 11) (vA T 12) qt2 qp2))))))) (c_X3_isWithin z (0 : Int32) (3 : Int32)) rfl gX3_wax_X3_isWithin rfl hd_X3_isWithin ⟨rfl, rfl, (Nat.le_of_ble_eq_true rfl), (Nat.le_of_ble_eq_true rfl)⟩ ⟨(Nat.zero_le _), (Nat.zero_le _)⟩ rfl rfl (Nat.le_of_ble_eq_true rfl) dX3_wax_27 (fun v w1 H locs hp HW => ?_)
      obtain ⟨rfl, rfl⟩ := hp
      have HW : Hw D A s (wXo cI a o  ++ (wVo cI a (o + 1) (vh S) (vc S) (vA S 0) (vA S 1) (vA S 2) ++ (wR cI a ((o + 1) + 4) (vr S) (vA S 3) (vA S 4) (vA S 5) (vA S 6) ++ (wS cI a ((o + 1) + 9) (vs S) (vA S 7) (vA S 8) (vA S 9) (vA S 10) (vA S 11) (vA S 12) qt qp ++ (wVo cI a (o + 19) (vh T) (vc T) (vA T 0) (vA T 1) (vA T 2) ++ (wR cI a ((o + 19) + 4) (vr T) (vA T 3) (vA T 4) (vA T 5) (vA T 6) ++ (wS cI a ((o + 19) + 9) (vs T) (vA T 7) (vA T 8) (vA T 9) (vA T 10) (vA T 11) (vA T 12) qt2 qp2))))))) H locs := HW
      refine W.eq (g2 := F0 m 30 ls [.int (bI ((0 : Int32) ≤ z ∧ z ≤ (3 : Int32)))]) rfl ?_
      refine g_ifne_b (tgt := 43) hx hb dX3_wax_30 (by decide) (fun c30 => ?_) (fun c30 => ?_)
      · refine lv_aload_n hx hb dX3_wax_43 rfl (lv_at hl 0 rfl) ?_
        refine g_get CX HW in_X3_wax_3 0 0 rfl rfl (Nat.le_of_ble_eq_true rfl) fl_X3_wax_10 rfl dX3_wax_44 ?_
        refine g_get CX HW in_X3_wax_2 1 6 rfl rfl (Nat.le_of_ble_eq_true rfl) fl_X3_wax_97 rfl dX3_wax_47 ?_
        refine g_get CX HW in_X3_wax_1 10 2 rfl rfl (Nat.le_of_ble_eq_true rfl) fl_X3_wax_112 rfl dX3_wax_50 ?_
        refine lv_iload_n hx hb dX3_wax_53 rfl (lv_at hl 1 rfl) ?_
        refine g_ald CX HW 12 (k := k) rfl rfl rfl (by omega) (Nat.le_of_ble_eq_true rfl) dX3_wax_54 ?_
        refine lv_iconst (v := 2) hx hb dX3_wax_55 (by decide) ?_
        refine lv_icmp_ge (tgt := 69) hx hb dX3_wax_56 (by decide) (fun c56 => ?_) (fun c56 => ?_)
        · refine lv_aload_n hx hb dX3_wax_69 rfl (lv_at hl 0 rfl) ?_
          refine g_get CX HW in_X3_wax_3 0 0 rfl rfl (Nat.le_of_ble_eq_true rfl) fl_X3_wax_10 rfl dX3_wax_70 ?_
          refine g_get CX HW in_X3_wax_2 1 6 rfl rfl (Nat.le_of_ble_eq_true rfl) fl_X3_wax_97 rfl dX3_wax_73 ?_
          refine g_get CX HW in_X3_wax_1 10 2 rfl rfl (Nat.le_of_ble_eq_true rfl) fl_X3_wax_112 rfl dX3_wax_76 ?_
          refine lv_iload_n hx hb dX3_wax_79 rfl (lv_at hl 1 rfl) ?_
          refine lv_dup2_11 hx hb dX3_wax_80 rfl rfl ?_
          refine g_ald CX HW 12 (k := k) rfl rfl rfl (by omega) (Nat.le_of_ble_eq_true rfl) dX3_wax_81 ?_
          refine lv_iconst (v := 2) hx hb dX3_wax_82 (by decide) ?_
          refine lv_isub hx hb dX3_wax_83 ?_
          refine g_ast CX HW 12 (k := k) rfl rfl rfl (by omega) (Nat.le_of_ble_eq_true rfl) dX3_wax_84 (fun H locs HW => ?_)
          have HW : Hw D A s (wXo cI a o  ++ (wVo cI a (o + 1) (vh S) (vc S) (vA S 0) (vA S 1) (vA S 2) ++ (wR cI a ((o + 1) + 4) (vr S) (vA S 3) (vA S 4) (vA S 5) (vA S 6) ++ (wS cI a ((o + 1) + 9) (vs S) (vA S 7) (upd (vA S 8) k (((vA S 8) k) - (2 : Int32))) (vA S 9) (vA S 10) (vA S 11) (vA S 12) qt qp ++ (wVo cI a (o + 19) (vh T) (vc T) (vA T 0) (vA T 1) (vA T 2) ++ (wR cI a ((o + 19) + 4) (vr T) (vA T 3) (vA T 4) (vA T 5) (vA T 6) ++ (wS cI a ((o + 19) + 9) (vs T) (vA T 7) (vA T 8) (vA T 9) (vA T 10) (vA T 11) (vA T 12) qt2 qp2))))))) H locs := HW
          refine lv_aload_n hx hb dX3_wax_85 rfl (lv_at hl 0 rfl) ?_
          refine g_get CX HW in_X3_wax_3 0 0 rfl rfl (Nat.le_of_ble_eq_true rfl) fl_X3_wax_10 rfl dX3_wax_86 ?_
          refine lv_dup hx hb dX3_wax_89 rfl ?_
          refine g_get CX HW in_X3_wax_2 1 1 rfl rfl (Nat.le_of_ble_eq_true rfl) fl_X3_wax_73 rfl dX3_wax_90 ?_
          refine lv_iconst (v := 2) hx hb dX3_wax_93 (by decide) ?_
          refine lv_iadd hx hb dX3_wax_94 ?_
          refine g_put CX HW in_X3_wax_2 tyX2 tyX2_ok nmX2 1 1 rfl rfl (Nat.le_of_ble_eq_true rfl) fl_X3_wax_73 rfl rfl rfl (Nat.le_of_ble_eq_true rfl) dX3_wax_95 (fun H locs HW => ?_)
          have HW : Hw D A s (wXo cI a o  ++ (wVo cI a (o + 1) (vh S) (vc S + (2 : Int32)) (vA S 0) (vA S 1) (vA S 2) ++ (wR cI a ((o + 1) + 4) (vr S) (vA S 3) (vA S 4) (vA S 5) (vA S 6) ++ (wS cI a ((o + 1) + 9) (vs S) (vA S 7) (upd (vA S 8) k (((vA S 8) k) - (2 : Int32))) (vA S 9) (vA S 10) (vA S 11) (vA S 12) qt qp ++ (wVo cI a (o + 19) (vh T) (vc T) (vA T 0) (vA T 1) (vA T 2) ++ (wR cI a ((o + 19) + 4) (vr T) (vA T 3) (vA T 4) (vA T 5) (vA T 6) ++ (wS cI a ((o + 19) + 9) (vs T) (vA T 7) (vA T 8) (vA T 9) (vA T 10) (vA T 11) (vA T 12) qt2 qp2))))))) H locs := HW
          refine lv_aload_n hx hb dX3_wax_98 rfl (lv_at hl 0 rfl) ?_
          refine g_get CX HW in_X3_wax_3 0 0 rfl rfl (Nat.le_of_ble_eq_true rfl) fl_X3_wax_10 rfl dX3_wax_99 ?_
          refine g_get CX HW in_X3_wax_2 1 6 rfl rfl (Nat.le_of_ble_eq_true rfl) fl_X3_wax_97 rfl dX3_wax_102 ?_
          refine lv_iload_n hx hb dX3_wax_105 rfl (lv_at hl 1 rfl) ?_
          refine lv_iload_n hx hb dX3_wax_106 rfl (lv_at hl 2 rfl) ?_
          refine g_callV CX HW hl.1 (wXo cI a o  ++ (wVo cI a (o + 1) (vh S) (vc S + (2 : Int32)) (vA S 0) (vA S 1) (vA S 2) ++ (wR cI a ((o + 1) + 4) (vr S) (vA S 3) (vA S 4) (vA S 5) (vA S 6)))) (wVo cI a (o + 19) (vh T) (vc T) (vA T 0) (vA T 1) (vA T 2) ++ (wR cI a ((o + 19) + 4) (vr T) (vA T 3) (vA T 4) (vA T 5) (vA T 6) ++ (wS cI a ((o + 19) + 9) (vs T) (vA T 7) (vA T 8) (vA T 9) (vA T 10) (vA T 11) (vA T 12) qt2 qp2))) (c_X1_putWaxOn ((o + 1) + 9) (vs S) (vA S 7) (upd (vA S 8) k (((vA S 8) k) - (2 : Int32))) (vA S 9) (vA S 10) (vA S 11) (vA S 12) qt qp k z (by omega)) rfl 0 rfl rfl gX3_wax_X1_putWaxOn rfl ⟨rfl, hd_X1_putWaxOn⟩ ⟨rfl, rfl, (Nat.le_of_ble_eq_true rfl), (Nat.le_of_ble_eq_true rfl)⟩ ⟨(Nat.zero_le _), (Nat.zero_le _)⟩ rfl rfl (Nat.le_of_ble_eq_true rfl) dX3_wax_107 (fun v w1 H locs hp HW => ?_)
          obtain ⟨rfl, rfl⟩ := hp
          have HW : Hw D A s (wXo cI a o  ++ (wVo cI a (o + 1) (vh S) (vc S + (2 : Int32)) (vA S 0) (vA S 1) (vA S 2) ++ (wR cI a ((o + 1) + 4) (vr S) (vA S 3) (vA S 4) (vA S 5) (vA S 6) ++ (wS cI a ((o + 1) + 9) (vs S) (vA S 7) (upd (vA S 8) k (((vA S 8) k) - (2 : Int32))) (upd (vA S 9) k z) (upd (vA S 10) k 10) (vA S 11) (vA S 12) qt qp ++ (wVo cI a (o + 19) (vh T) (vc T) (vA T 0) (vA T 1) (vA T 2) ++ (wR cI a ((o + 19) + 4) (vr T) (vA T 3) (vA T 4) (vA T 5) (vA T 6) ++ (wS cI a ((o + 19) + 9) (vs T) (vA T 7) (vA T 8) (vA T 9) (vA T 10) (vA T 11) (vA T 12) qt2 qp2))))))) H locs := HW
          refine W.eq (g2 := F0 m 110 ls []) rfl ?_
          refine lv_aload_n hx hb dX3_wax_110 rfl (lv_at hl 0 rfl) ?_
          refine g_get CX HW in_X3_wax_3 0 0 rfl rfl (Nat.le_of_ble_eq_true rfl) fl_X3_wax_10 rfl dX3_wax_111 ?_
          refine g_get CX HW in_X3_wax_2 1 6 rfl rfl (Nat.le_of_ble_eq_true rfl) fl_X3_wax_97 rfl dX3_wax_114 ?_
          refine g_get CX HW in_X3_wax_1 10 2 rfl rfl (Nat.le_of_ble_eq_true rfl) fl_X3_wax_112 rfl dX3_wax_117 ?_
          refine lv_iload_n hx hb dX3_wax_120 rfl (lv_at hl 1 rfl) ?_
          refine g_ald CX HW 12 (k := k) rfl rfl rfl (by omega) (Nat.le_of_ble_eq_true rfl) dX3_wax_121 ?_
          refine g_top (y := (vA S 8 k - (2 : Int32))) pk_us ?_
          exact gx_ret (Nat.le_of_ble_eq_true rfl) (Nat.le_of_ble_eq_true rfl) (g_iret CX HW rfl ⟨(by rw [kWax, ek]; rw [if_neg (fun h9 => h9 c11), if_neg (fun h9 => h9 c30), if_neg (fun h9 => h9 c56)]), by rw [ek], by rw [sWax, ek]; rfl⟩ dX3_wax_122)
        · exact gx_throw CX hext hZ HW hl.1 hst (cls := exS) (text := "the skier has fewer than 2 coins") (ik := 45) (is := 114) (ic := 49) (by decide +kernel) xk_X3_wax_exS.1 xk_X3_wax_exS.2 (by decide +kernel) xa_X3_wax_exS xbad_49 xgood_49 dX3_wax_59 dX3_wax_62 dX3_wax_63 dX3_wax_65 dX3_wax_68 (Nat.le_of_ble_eq_true rfl) (Nat.le_of_ble_eq_true rfl) (Nat.le_of_ble_eq_true rfl) (Nat.le_of_ble_eq_true rfl) (Nat.le_of_ble_eq_true rfl) (Nat.le_of_ble_eq_true rfl) (⟨Or.inr (Or.inr (⟨rfl, by rw [kWax, ek]; rw [if_neg (fun h9 => h9 c11), if_neg (fun h9 => h9 c30), if_pos c56]⟩)), rfl⟩)
      · exact gx_throw CX hext hZ HW hl.1 hst (cls := exA) (text := "wax is not 0 to 3") (ik := 30) (is := 110) (ic := 34) (by decide +kernel) xk_X3_wax_exA.1 xk_X3_wax_exA.2 (by decide +kernel) xa_X3_wax_exA xbad_34 xgood_34 dX3_wax_33 dX3_wax_36 dX3_wax_37 dX3_wax_39 dX3_wax_42 (Nat.le_of_ble_eq_true rfl) (Nat.le_of_ble_eq_true rfl) (Nat.le_of_ble_eq_true rfl) (Nat.le_of_ble_eq_true rfl) (Nat.le_of_ble_eq_true rfl) (Nat.le_of_ble_eq_true rfl) (⟨Or.inr (Or.inl ⟨rfl, by rw [kWax]; rw [if_neg (fun h9 => h9 c11), if_pos c30]⟩), rfl⟩)
  · exact gx_throw CX hext hZ HW hl.1 hst (cls := exI) (text := "no such skier") (ik := 23) (is := 108) (ic := 27) (by decide +kernel) xk_X3_wax_exI.1 xk_X3_wax_exI.2 (by decide +kernel) xa_X3_wax_exI xbad_27 xgood_27 dX3_wax_14 dX3_wax_17 dX3_wax_18 dX3_wax_20 dX3_wax_23 (Nat.le_of_ble_eq_true rfl) (Nat.le_of_ble_eq_true rfl) (Nat.le_of_ble_eq_true rfl) (Nat.le_of_ble_eq_true rfl) (Nat.le_of_ble_eq_true rfl) (Nat.le_of_ble_eq_true rfl) (⟨Or.inl ⟨rfl, by rw [kWax]; rw [if_pos c11]⟩, rfl⟩)
