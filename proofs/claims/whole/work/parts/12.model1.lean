/-- the queues as the model's rows have them -/
def RepM (q : Nat → List Nat) (my qu : Nat → Int32) : Prop := ∀ t : Nat, t < 3 → (my t = nI (q t).length ∧ ∀ p k : Nat, (q t)[p]? = some k → qu (8 * t + p) = nI k) ∧ (q t).length ≤ 8
def shQ (qu : Nat → Int32) (b p i : Nat) : Nat → Int32 := fun j => if b + p ≤ j ∧ j < b + i then qu (j + 1) else qu j
theorem shQ_0 (qu : Nat → Int32) (b p : Nat) : shQ qu b p p = qu := by
  funext j; simp only [shQ]; rw [if_neg (by omega)]
theorem shQ_at (qu : Nat → Int32) (b p i : Nat) : shQ qu b p i (b + i + 1) = qu (b + i + 1) := by
  simp only [shQ]; rw [if_neg (by omega)]
theorem shQ_s {qu : Nat → Int32} {b p i : Nat} (h : p ≤ i) : upd (shQ qu b p i) (b + i) (qu (b + i + 1)) = shQ qu b p (i + 1) := by
  funext j
  simp only [upd, shQ]
  by_cases h1 : j = b + i
  · subst h1; rw [if_pos rfl, if_pos (by omega)]
  · rw [if_neg h1]
    by_cases h2 : b + p ≤ j ∧ j < b + i
    · rw [if_pos h2, if_pos (by omega)]
    · rw [if_neg h2, if_neg (by omega)]
theorem repM_out {q : Nat → List Nat} {my qu : Nat → Int32} (hM : RepM q my qu) {t p k n : Nat} (ht : t < 3) (hp : (q t)[p]? = some k) (hn : (q t).length = n + 1) (hn8 : n < 8) : RepM (setQ q t ((q t).eraseIdx p)) (upd my t (nI n)) (shQ qu (8 * t) p n) := by
  have hpl := (List.getElem?_eq_some_iff.mp hp).1
  intro t1 ht1
  by_cases h : t1 = t
  · subst h
    simp only [setQ, if_true]
    refine ⟨⟨by rw [pk_us, List.length_eraseIdx_of_lt hpl, hn]; rfl, fun p1 k1 h1 => ?_⟩, by rw [List.length_eraseIdx_of_lt hpl, hn]; omega⟩
    have hl1 := (List.getElem?_eq_some_iff.mp h1).1
    rw [List.length_eraseIdx_of_lt hpl, hn] at hl1
    simp only [shQ]
    by_cases h2 : p1 < p
    · rw [List.getElem?_eraseIdx_of_lt h2] at h1
      rw [if_neg (by omega)]
      exact (hM t1 ht1).1.2 p1 k1 h1
    · rw [List.getElem?_eraseIdx_of_ge (by omega)] at h1
      rw [if_pos (by omega)]
      exact (hM t1 ht1).1.2 (p1 + 1) k1 h1
  · simp only [setQ, if_neg h]
    refine ⟨⟨by rw [pk_un h]; exact (hM t1 ht1).1.1, fun p1 k1 h1 => ?_⟩, (hM t1 ht1).2⟩
    have h9 := (hM t1 ht1).1.2 p1 k1 h1
    have hl := (List.getElem?_eq_some_iff.mp h1).1
    have h8 := (hM t1 ht1).2
    simp only [shQ]
    rw [if_neg (by omega)]
    exact h9
theorem repM_in {q : Nat → List Nat} {my qu : Nat → Int32} (hM : RepM q my qu) {t k : Nat} (ht : t < 3) (h8 : (q t).length < 8) : RepM (setQ q t (q t ++ [k])) (upd my t (nI ((q t).length + 1))) (upd qu (8 * t + (q t).length) (nI k)) := by
  intro t1 ht1
  by_cases h : t1 = t
  · subst h
    simp only [setQ, if_true]
    refine ⟨⟨by rw [pk_us, List.length_append]; rfl, fun p1 k1 h1 => ?_⟩, by rw [List.length_append]; exact h8⟩
    by_cases h2 : p1 < (q t1).length
    · rw [List.getElem?_append_left h2] at h1
      rw [pk_un (by omega)]
      exact (hM t1 ht1).1.2 p1 k1 h1
    · rw [List.getElem?_append_right (by omega)] at h1
      have hz := (List.getElem?_eq_some_iff.mp h1).1
      simp only [List.length_cons, List.length_nil] at hz
      have hp1 : p1 = (q t1).length := by omega
      rw [hp1, Nat.sub_self] at h1
      cases h1
      rw [hp1, pk_us]
  · simp only [setQ, if_neg h]
    refine ⟨⟨by rw [pk_un h]; exact (hM t1 ht1).1.1, fun p1 k1 h1 => ?_⟩, (hM t1 ht1).2⟩
    have h9 := (hM t1 ht1).1.2 p1 k1 h1
    have hl := (List.getElem?_eq_some_iff.mp h1).1
    have h8' := (hM t1 ht1).2
    rw [pk_un (by omega)]
    exact h9
theorem pos_of_ne {x : Int32} (h1 : ¬ x < 0) (h2 : ¬ x = 0) : 0 < x := by
  rcases Int32.lt_or_eq_of_le (Int32.not_lt.mp h1) with h | h
  · exact h
  · exact absurd h.symm h2
theorem sl_pos {S : VS} (h : Inv S) : ∀ r, r < vr S → 0 < vA S 4 r := fun r hr => by
  obtain ⟨z, h1, h2, h3⟩ := (h.2.2.2.2.1 r hr).2.1
  rw [h3]; exact (nI_ltI (a := 0) (b := z) (by decide) (by omega)).mpr (by omega)
theorem bestR_opn {tw sl dp : Nat → Int32} {t lim : Int32} : ∀ {n r : Nat}, bestR tw sl dp t lim n = some r → opn dp sl r := by
  intro n
  induction n with
  | zero => intro r h; simp [bestR] at h
  | succ n ih =>
    intro r h
    simp only [bestR] at h
    split at h
    · rename_i hc; cases h; exact hc.2.2.1
    · exact ih h
theorem held_dec {S : VS} (hI : Inv S) {r : Nat} (hr : r < vr S) (ho : opn (vA S 5) (vA S 4) r) : vA S 5 r - 1 = heldI (vA S 5 r + -1) 0 90 := by
  obtain ⟨d, h1, h2⟩ := (hI.2.2.2.2.1 r hr).2.2
  have h3 := ho.1
  rw [h2] at h3 ⊢
  have h4 : 5 ≤ d := (nI_leI (a := 5) (b := d) (by decide) (by omega)).mp h3
  obtain ⟨z, rfl⟩ : ∃ z, d = z + 1 := ⟨d - 1, by omega⟩
  rw [pk_m1, nI_pred]
  unfold heldI
  rw [if_pos (show nI z < 90 from (nI_ltI (a := z) (b := 90) (by omega) (by decide)).mpr (by omega)), if_pos (show 0 < nI z from (nI_ltI (a := 0) (b := z) (by decide) (by omega)).mpr (by omega))]
theorem hd_X4_flake : yX4_flake.cls ≠ "java/lang/invoke/MethodHandle" ∧ yX4_flake.cls ≠ "java/lang/invoke/VarHandle" ∧ (parseMethodDescriptor yX4_flake.desc).map (fun d => d.parameters.length) = some 0 := by decide +kernel
theorem fl_X4_flake_3 : Cond.fieldLink RX4 3 (TX4 13).1 (TX4 13).2.1 (TX4 13).2.2.1 ∈ wsX4_flake := by decide +kernel
theorem in_X4_flake_4 : ∀ x ∈ u_ws RX4 TX4 14, x ∈ wsX4_flake := by decide +kernel
theorem in_X4_flake_5 : ∀ x ∈ u_ws RX5 TX5 10, x ∈ wsX4_flake := by decide +kernel
theorem fl_X4_flake_46 : Cond.fieldLink RX4 46 (TX4 0).1 (TX4 0).2.1 (TX4 0).2.2.1 ∈ wsX4_flake := by decide +kernel
set_option maxRecDepth 100000 in
set_option maxHeartbeats 4000000 in
theorem c_X4_flake {l : Launch} {D : va_G} {cI cL : ClassId} {a : Nat → Nat} (om : Nat) (o : Nat) (S : VS) (th : Int32) (ri : Int32) (my : Nat → Int32) (qu : Nat → Int32) (hh : vh S < 2 ^ 31) : Ct l yX4_flake wsX4_flake { frames := 0, cells := 0, slots := 0, locals := 0 } D (ty2 cI cL) [.ref (a o)] (wMo cI a om th (vA S 0) (vA S 1) (vr S) (vA S 3) (vA S 4) (vs S) (vA S 7) ++ (wMS cI a o (a om) (vh S) (vc S) ri (vA S 5) (vA S 6) (vA S 8) (vA S 9) (vA S 10) (vA S 11) (vA S 12) (vA S 2) my qu)) (fun v w' => v = some (.int (vA S 0 (vh S % 6))) ∧ w' = wMo cI a om th (vA S 0) (vA S 1) (vr S) (vA S 3) (vA S 4) (vs S) (vA S 7) ++ (wMS cI a o (a om) (vh S) (vc S) ri (vA S 5) (vA S 6) (vA S 8) (vA S 9) (vA S 10) (vA S 11) (vA S 12) (vA S 2) my qu)) 0 0 := by
  refine Ct.of (cc := cX4_flake) (maxL := 1) (ret := (some .int)) (by decide) rfl (Nat.le_of_ble_eq_true rfl) ?_
  intro p e s m below meth c A ls CX hin HW hl
  obtain ⟨hx, hb, hml, hr, hown, hts, hK, hA, hlk⟩ := id CX
  have hl : lv_has ls 1 [(0, .ref (a o))] := hl
  refine lv_aload_n hx hb dX4_flake_0 rfl (lv_at hl 0 rfl) ?_
  refine g_get CX HW in_X4_flake_4 6 13 rfl rfl (Nat.le_of_ble_eq_true rfl) fl_X4_flake_3 rfl dX4_flake_1 ?_
  refine g_getN (host := "PommelTowsModel") CX HW in_X4_flake_5 0 1 rfl rfl (Nat.le_of_ble_eq_true rfl) (by decide +kernel) rfl dX4_flake_4 ?_
  refine lv_aload_n hx hb dX4_flake_7 rfl (lv_at hl 0 rfl) ?_
  refine g_get CX HW in_X4_flake_4 6 0 rfl rfl (Nat.le_of_ble_eq_true rfl) fl_X4_flake_46 rfl dX4_flake_8 ?_
  refine lv_bipush (v := 6) hx hb dX4_flake_11 (by decide) ?_
  refine lv_irem hx hb dX4_flake_13 (by decide) ?_
  refine g_top (y := (nI (vh S % 6))) (pk_rem hh (by decide) (by decide)) ?_
  refine g_ald CX HW 1 (k := vh S % 6) rfl rfl rfl (Nat.mod_lt _ (by decide)) (Nat.le_of_ble_eq_true rfl) dX4_flake_14 ?_
  exact g_iret CX HW rfl ⟨rfl, rfl⟩ dX4_flake_15

theorem hd_X4_isFlagged : yX4_isFlagged.cls ≠ "java/lang/invoke/MethodHandle" ∧ yX4_isFlagged.cls ≠ "java/lang/invoke/VarHandle" ∧ (parseMethodDescriptor yX4_isFlagged.desc).map (fun d => d.parameters.length) = some 1 := by decide +kernel
theorem fl_X4_isFlagged_15 : Cond.fieldLink RX4 15 (TX4 3).1 (TX4 3).2.1 (TX4 3).2.2.1 ∈ wsX4_isFlagged := by decide +kernel
theorem in_X4_isFlagged_4 : ∀ x ∈ u_ws RX4 TX4 14, x ∈ wsX4_isFlagged := by decide +kernel
theorem fl_X4_isFlagged_3 : Cond.fieldLink RX4 3 (TX4 13).1 (TX4 13).2.1 (TX4 13).2.2.1 ∈ wsX4_isFlagged := by decide +kernel
theorem in_X4_isFlagged_5 : ∀ x ∈ u_ws RX5 TX5 10, x ∈ wsX4_isFlagged := by decide +kernel
set_option maxRecDepth 100000 in
set_option maxHeartbeats 4000000 in
theorem c_X4_isFlagged {l : Launch} {D : va_G} {cI cL : ClassId} {a : Nat → Nat} (om : Nat) (o : Nat) (S : VS) (th : Int32) (ri : Int32) (my : Nat → Int32) (qu : Nat → Int32) (r : Nat) (hr6 : r < 6) : Ct l yX4_isFlagged wsX4_isFlagged { frames := 0, cells := 0, slots := 0, locals := 0 } D (ty2 cI cL) [.ref (a o), .int (nI r)] (wMo cI a om th (vA S 0) (vA S 1) (vr S) (vA S 3) (vA S 4) (vs S) (vA S 7) ++ (wMS cI a o (a om) (vh S) (vc S) ri (vA S 5) (vA S 6) (vA S 8) (vA S 9) (vA S 10) (vA S 11) (vA S 12) (vA S 2) my qu)) (fun v w' => v = some (.int (bI (¬ opn (vA S 5) (vA S 4) r))) ∧ w' = wMo cI a om th (vA S 0) (vA S 1) (vr S) (vA S 3) (vA S 4) (vs S) (vA S 7) ++ (wMS cI a o (a om) (vh S) (vc S) ri (vA S 5) (vA S 6) (vA S 8) (vA S 9) (vA S 10) (vA S 11) (vA S 12) (vA S 2) my qu)) 0 0 := by
  refine Ct.of (cc := cX4_isFlagged) (maxL := 2) (ret := (some .boolean)) (by decide) rfl (Nat.le_of_ble_eq_true rfl) ?_
  intro p e s m below meth c A ls CX hin HW hl
  obtain ⟨hx, hb, hml, hr, hown, hts, hK, hA, hlk⟩ := id CX
  have hl : lv_has ls 2 [(0, .ref (a o)), (1, .int (nI r))] := hl
  refine lv_aload_n hx hb dX4_isFlagged_0 rfl (lv_at hl 0 rfl) ?_
  refine g_get CX HW in_X4_isFlagged_4 6 3 rfl rfl (Nat.le_of_ble_eq_true rfl) fl_X4_isFlagged_15 rfl dX4_isFlagged_1 ?_
  refine lv_iload_n hx hb dX4_isFlagged_4 rfl (lv_at hl 1 rfl) ?_
  refine g_ald CX HW 7 (k := r) rfl rfl rfl (by omega) (Nat.le_of_ble_eq_true rfl) dX4_isFlagged_5 ?_
  refine lv_iconst (v := 5) hx hb dX4_isFlagged_6 (by decide) ?_
  refine lv_icmp_lt (tgt := 32) hx hb dX4_isFlagged_7 (by decide) (fun c7 => ?_) (fun c7 => ?_)
  · refine lv_iconst (v := 1) hx hb dX4_isFlagged_32 (by decide) ?_
    refine lv_goto (tgt := 37) hx hb dX4_isFlagged_33 (by decide) ?_
    exact g_zret CX HW rfl (Or.inr rfl) ⟨pI_t (by intro h9; first | exact absurd c7 (Int32.not_lt.mpr h9.1) | exact absurd h9.2 c29), rfl⟩ dX4_isFlagged_37
  · refine lv_aload_n hx hb dX4_isFlagged_10 rfl (lv_at hl 0 rfl) ?_
    refine g_get CX HW in_X4_isFlagged_4 6 3 rfl rfl (Nat.le_of_ble_eq_true rfl) fl_X4_isFlagged_15 rfl dX4_isFlagged_11 ?_
    refine lv_iload_n hx hb dX4_isFlagged_14 rfl (lv_at hl 1 rfl) ?_
    refine g_ald CX HW 7 (k := r) rfl rfl rfl (by omega) (Nat.le_of_ble_eq_true rfl) dX4_isFlagged_15 ?_
    refine lv_aload_n hx hb dX4_isFlagged_16 rfl (lv_at hl 0 rfl) ?_
    refine g_get CX HW in_X4_isFlagged_4 6 13 rfl rfl (Nat.le_of_ble_eq_true rfl) fl_X4_isFlagged_3 rfl dX4_isFlagged_17 ?_
    refine g_getN (host := "PommelTowsModel") CX HW in_X4_isFlagged_5 0 5 rfl rfl (Nat.le_of_ble_eq_true rfl) (by decide +kernel) rfl dX4_isFlagged_20 ?_
    refine lv_iload_n hx hb dX4_isFlagged_23 rfl (lv_at hl 1 rfl) ?_
    refine g_ald CX HW 4 (k := r) rfl rfl rfl (by omega) (Nat.le_of_ble_eq_true rfl) dX4_isFlagged_24 ?_
    refine lv_imul hx hb dX4_isFlagged_25 ?_
    refine lv_sipush (v := 300) hx hb dX4_isFlagged_26 (by decide) ?_
    refine lv_icmp_lt (tgt := 36) hx hb dX4_isFlagged_29 (by decide) (fun c29 => ?_) (fun c29 => ?_)
    · refine lv_iconst (v := 0) hx hb dX4_isFlagged_36 (by decide) ?_
      exact g_zret CX HW rfl (Or.inl rfl) ⟨pI_f (fun h9 => h9 ⟨Int32.not_lt.mp c7, c29⟩), rfl⟩ dX4_isFlagged_37
    · refine lv_iconst (v := 1) hx hb dX4_isFlagged_32 (by decide) ?_
      refine lv_goto (tgt := 37) hx hb dX4_isFlagged_33 (by decide) ?_
      exact g_zret CX HW rfl (Or.inr rfl) ⟨pI_t (by intro h9; first | exact absurd c7 (Int32.not_lt.mpr h9.1) | exact absurd h9.2 c29), rfl⟩ dX4_isFlagged_37

theorem hd_X4_choice : yX4_choice.cls ≠ "java/lang/invoke/MethodHandle" ∧ yX4_choice.cls ≠ "java/lang/invoke/VarHandle" ∧ (parseMethodDescriptor yX4_choice.desc).map (fun d => d.parameters.length) = some 2 := by decide +kernel
theorem fl_X4_choice_3 : Cond.fieldLink RX4 3 (TX4 13).1 (TX4 13).2.1 (TX4 13).2.2.1 ∈ wsX4_choice := by decide +kernel
theorem in_X4_choice_4 : ∀ x ∈ u_ws RX4 TX4 14, x ∈ wsX4_choice := by decide +kernel
theorem in_X4_choice_5 : ∀ x ∈ u_ws RX5 TX5 10, x ∈ wsX4_choice := by decide +kernel
set_option maxRecDepth 100000 in
set_option maxHeartbeats 4000000 in
theorem c_X4_choice {l : Launch} {D : va_G} {cI cL : ClassId} {a : Nat → Nat} (om : Nat) (o : Nat) (S : VS) (th : Int32) (ri : Int32) (my : Nat → Int32) (qu : Nat → Int32) (k : Nat) (t : Int32) (hk8 : k < 8) (hn : vr S ≤ 6) (hsl : ∀ r, r < vr S → 0 < vA S 4 r) : Ct l yX4_choice wsX4_choice { frames := 1, cells := 0, slots := 0, locals := 21 } D (ty2 cI cL) [.ref (a o), .int (nI k), .int t] (wMo cI a om th (vA S 0) (vA S 1) (vr S) (vA S 3) (vA S 4) (vs S) (vA S 7) ++ (wMS cI a o (a om) (vh S) (vc S) ri (vA S 5) (vA S 6) (vA S 8) (vA S 9) (vA S 10) (vA S 11) (vA S 12) (vA S 2) my qu)) (fun v w' => v = some (.int (oI (bestR (vA S 3) (vA S 4) (vA S 5) t (vA S 7 k + 1) (vr S)))) ∧ w' = wMo cI a om th (vA S 0) (vA S 1) (vr S) (vA S 3) (vA S 4) (vs S) (vA S 7) ++ (wMS cI a o (a om) (vh S) (vc S) ri (vA S 5) (vA S 6) (vA S 8) (vA S 9) (vA S 10) (vA S 11) (vA S 12) (vA S 2) my qu)) 0 0 := by
  refine Ct.of (cc := cX4_choice) (maxL := 5) (ret := (some .int)) (by decide) rfl (Nat.le_of_ble_eq_true rfl) ?_
  intro p e s m below meth c A ls CX hin HW hl
  obtain ⟨hx, hb, hml, hr, hown, hts, hK, hA, hlk⟩ := id CX
  have hl : lv_has ls 5 [(0, .ref (a o)), (1, .int (nI k)), (2, .int t)] := hl
  have loop : ∀ (d0 : Nat) (i : Nat), vr S - i = d0 → (i ≤ vr S) → ∀ (H : Heap) (locs : List Loc) (ls : Array Slot), Hw D A s (wMo cI a om th (vA S 0) (vA S 1) (vr S) (vA S 3) (vA S 4) (vs S) (vA S 7) ++ (wMS cI a o (a om) (vh S) (vc S) ri (vA S 5) (vA S 6) (vA S 8) (vA S 9) (vA S 10) (vA S 11) (vA S 12) (vA S 2) my qu)) H locs → lv_has ls 5 [(4, .int (nI i)), (3, .int (oI (bestR (vA S 3) (vA S 4) (vA S 5) t (vA S 7 k + 1) i))), (2, .int t), (1, .int (nI k)), (0, .ref (a o))] → W p l e ({ frames := 1, cells := 0, slots := 0, locals := 21 } : Room) s m ([.ref (a o), .int (nI k), .int t] : List Value).toArray below meth c H locs 0 0 (MQ below (cQ D A (fun v w' => v = some (.int (oI (bestR (vA S 3) (vA S 4) (vA S 5) t (vA S 7 k + 1) (vr S)))) ∧ w' = wMo cI a om th (vA S 0) (vA S 1) (vr S) (vA S 3) (vA S 4) (vs S) (vA S 7) ++ (wMS cI a o (a om) (vh S) (vc S) ri (vA S 5) (vA S 6) (vA S 8) (vA S 9) (vA S 10) (vA S 11) (vA S 12) (vA S 2) my qu))) ([.ref (a o), .int (nI k), .int t] : List Value).toArray s 0 0 A) (F0 m 5 ls []) := by
    intro d0
    induction d0 using Nat.strongRecOn with
    | _ d0 ih =>
      intro i hd0 hi H locs ls HW hl
      have j97 : ∀ (x3 : Int32), (i < vr S) → (x3 = oI (bestR (vA S 3) (vA S 4) (vA S 5) t (vA S 7 k + 1) (i + 1))) → ∀ (H : Heap) (locs : List Loc) (ls : Array Slot), Hw D A s (wMo cI a om th (vA S 0) (vA S 1) (vr S) (vA S 3) (vA S 4) (vs S) (vA S 7) ++ (wMS cI a o (a om) (vh S) (vc S) ri (vA S 5) (vA S 6) (vA S 8) (vA S 9) (vA S 10) (vA S 11) (vA S 12) (vA S 2) my qu)) H locs → lv_has ls 5 [(4, .int (nI i)), (3, .int x3), (2, .int t), (1, .int (nI k)), (0, .ref (a o))] → W p l e ({ frames := 1, cells := 0, slots := 0, locals := 21 } : Room) s m ([.ref (a o), .int (nI k), .int t] : List Value).toArray below meth c H locs 0 0 (MQ below (cQ D A (fun v w' => v = some (.int (oI (bestR (vA S 3) (vA S 4) (vA S 5) t (vA S 7 k + 1) (vr S)))) ∧ w' = wMo cI a om th (vA S 0) (vA S 1) (vr S) (vA S 3) (vA S 4) (vs S) (vA S 7) ++ (wMS cI a o (a om) (vh S) (vc S) ri (vA S 5) (vA S 6) (vA S 8) (vA S 9) (vA S 10) (vA S 11) (vA S 12) (vA S 2) my qu))) ([.ref (a o), .int (nI k), .int t] : List Value).toArray s 0 0 A) (F0 m 97 ls []) := by
        intro x3 hlt h3 H locs ls HW hl
        subst h3
        refine lv_iinc (v := (nI (i + 1))) (lv' := [(4, .int (nI (i + 1))), (3, .int (oI (bestR (vA S 3) (vA S 4) (vA S 5) t (vA S 7 k + 1) (i + 1)))), (2, .int t), (1, .int (nI k)), (0, .ref (a o))]) hx hb dX4_choice_97 hl (k := 0) rfl (inc1 _) (Nat.le_of_ble_eq_true rfl) rfl (fun ls hl => ?_)
        refine lv_goto (tgt := 5) hx hb dX4_choice_100 (by decide) ?_
        exact ih _ (by omega) (i + 1) rfl (by omega) _ _ _ HW (lv_sub hl [0, 1, 2, 3, 4] rfl)
      refine lv_iload hx hb dX4_choice_5 (lv_at hl 0 rfl) ?_
      refine lv_aload_n hx hb dX4_choice_7 rfl (lv_at hl 4 rfl) ?_
      refine g_get CX HW in_X4_choice_4 6 13 rfl rfl (Nat.le_of_ble_eq_true rfl) fl_X4_choice_3 rfl dX4_choice_8 ?_
      refine g_getN (host := "PommelTowsModel") CX HW in_X4_choice_5 0 3 rfl rfl (Nat.le_of_ble_eq_true rfl) (by decide +kernel) rfl dX4_choice_11 ?_
      refine lv_icmp_ge (tgt := 103) hx hb dX4_choice_14 (by decide) (fun c14 => ?_) (fun c14 => ?_)
      · have c14 := (nI_leI (by omega) (by omega)).mp c14
        obtain rfl : i = vr S := by omega
        refine lv_iload_n hx hb dX4_choice_103 rfl (lv_at hl 1 rfl) ?_
        exact g_iret CX HW rfl ⟨rfl, rfl⟩ dX4_choice_104
      · have hlt : i < vr S := nI_lt_of (by omega) (by omega) c14
        refine lv_aload_n hx hb dX4_choice_17 rfl (lv_at hl 4 rfl) ?_
        refine g_get CX HW in_X4_choice_4 6 13 rfl rfl (Nat.le_of_ble_eq_true rfl) fl_X4_choice_3 rfl dX4_choice_18 ?_
        refine g_getN (host := "PommelTowsModel") CX HW in_X4_choice_5 0 4 rfl rfl (Nat.le_of_ble_eq_true rfl) (by decide +kernel) rfl dX4_choice_21 ?_
        refine lv_iload hx hb dX4_choice_24 (lv_at hl 0 rfl) ?_
        refine g_ald CX HW 3 (k := i) rfl rfl rfl (by omega) (Nat.le_of_ble_eq_true rfl) dX4_choice_26 ?_
        refine lv_iload_n hx hb dX4_choice_27 rfl (lv_at hl 2 rfl) ?_
        refine lv_icmp_ne (tgt := 97) hx hb dX4_choice_28 (by decide) (fun c28 => ?_) (fun c28 => ?_)
        · exact j97 (oI (bestR (vA S 3) (vA S 4) (vA S 5) t (vA S 7 k + 1) i)) hlt (by simp only [bestR]; rw [if_neg (by intro h9; first | exact absurd h9.1 c28 | exact absurd h9.2.2.1 c37 | exact absurd h9.2.1 c61)]) _ _ _ HW (lv_sub hl [0, 1, 2, 3, 4] rfl)
        · refine lv_aload_n hx hb dX4_choice_31 rfl (lv_at hl 4 rfl) ?_
          refine lv_iload hx hb dX4_choice_32 (lv_at hl 0 rfl) ?_
          refine g_callV CX HW hl.1 ([]) ([]) (c_X4_isFlagged om o S th ri my qu i (by omega)) rfl 6 rfl rfl gX4_choice_X4_isFlagged rfl ⟨rfl, hd_X4_isFlagged⟩ ⟨rfl, rfl, (Nat.le_of_ble_eq_true rfl), (Nat.le_of_ble_eq_true rfl)⟩ ⟨(Nat.zero_le _), (Nat.zero_le _)⟩ rfl rfl (Nat.le_of_ble_eq_true rfl) dX4_choice_34 (fun v w1 H locs hp HW => ?_)
          obtain ⟨rfl, rfl⟩ := hp
          have HW : Hw D A s (wMo cI a om th (vA S 0) (vA S 1) (vr S) (vA S 3) (vA S 4) (vs S) (vA S 7) ++ (wMS cI a o (a om) (vh S) (vc S) ri (vA S 5) (vA S 6) (vA S 8) (vA S 9) (vA S 10) (vA S 11) (vA S 12) (vA S 2) my qu)) H locs := HW
          refine W.eq (g2 := F0 m 37 ls [.int (bI (¬ opn (vA S 5) (vA S 4) i))]) rfl ?_
          refine g_ifne_b (tgt := 97) hx hb dX4_choice_37 (by decide) (fun c37 => ?_) (fun c37 => ?_)
          · exact j97 (oI (bestR (vA S 3) (vA S 4) (vA S 5) t (vA S 7 k + 1) i)) hlt (by simp only [bestR]; rw [if_neg (by intro h9; first | exact absurd h9.1 c28 | exact absurd h9.2.2.1 c37 | exact absurd h9.2.1 c61)]) _ _ _ HW (lv_sub hl [0, 1, 2, 3, 4] rfl)
          · refine lv_aload_n hx hb dX4_choice_40 rfl (lv_at hl 4 rfl) ?_
            refine g_get CX HW in_X4_choice_4 6 13 rfl rfl (Nat.le_of_ble_eq_true rfl) fl_X4_choice_3 rfl dX4_choice_41 ?_
            refine g_getN (host := "PommelTowsModel") CX HW in_X4_choice_5 0 5 rfl rfl (Nat.le_of_ble_eq_true rfl) (by decide +kernel) rfl dX4_choice_44 ?_
            refine lv_iload hx hb dX4_choice_47 (lv_at hl 0 rfl) ?_
            refine g_ald CX HW 4 (k := i) rfl rfl rfl (by omega) (Nat.le_of_ble_eq_true rfl) dX4_choice_49 ?_
            refine lv_aload_n hx hb dX4_choice_50 rfl (lv_at hl 4 rfl) ?_
            refine g_get CX HW in_X4_choice_4 6 13 rfl rfl (Nat.le_of_ble_eq_true rfl) fl_X4_choice_3 rfl dX4_choice_51 ?_
            refine g_getN (host := "PommelTowsModel") CX HW in_X4_choice_5 0 7 rfl rfl (Nat.le_of_ble_eq_true rfl) (by decide +kernel) rfl dX4_choice_54 ?_
            refine lv_iload_n hx hb dX4_choice_57 rfl (lv_at hl 3 rfl) ?_
            refine g_ald CX HW 5 (k := k) rfl rfl rfl (by omega) (Nat.le_of_ble_eq_true rfl) dX4_choice_58 ?_
            refine lv_iconst (v := 1) hx hb dX4_choice_59 (by decide) ?_
            refine lv_iadd hx hb dX4_choice_60 ?_
            refine lv_icmp_le (tgt := 67) hx hb dX4_choice_61 (by decide) (fun c61 => ?_) (fun c61 => ?_)
            · generalize hb9 : (bestR (vA S 3) (vA S 4) (vA S 5) t (vA S 7 k + 1) i) = b9 at hl
              rcases b9 with _ | r
              · have hl : lv_has ls 5 [(4, .int (nI i)), (3, .int (-1 : Int32)), (2, .int t), (1, .int (nI k)), (0, .ref (a o))] := hl
                refine lv_iload_n hx hb dX4_choice_67 rfl (lv_at hl 1 rfl) ?_
                refine lv_iconst (v := (-1)) hx hb dX4_choice_68 (by decide) ?_
                refine lv_icmp_eq (tgt := 94) hx hb dX4_choice_69 (by decide) (fun c69 => ?_) (fun c69 => ?_)
                · refine lv_iload hx hb dX4_choice_94 (lv_at hl 0 rfl) ?_
                  refine lv_istore_n (lv' := [(3, .int (nI i)), (4, .int (nI i)), (2, .int t), (1, .int (nI k)), (0, .ref (a o))]) hx hb dX4_choice_96 rfl hl (Nat.le_of_ble_eq_true rfl) rfl (fun ls hl => ?_)
                  exact j97 (nI i) hlt (by simp only [bestR]; rw [hb9, if_pos ⟨c28, Int32.not_lt.mp (Int32.not_lt.mpr c61), Decidable.byContradiction c37, hsl i hlt⟩]; rfl) _ _ _ HW (lv_sub hl [1, 0, 2, 3, 4] rfl)
                · exact absurd c69 (by decide)
              · have hl : lv_has ls 5 [(4, .int (nI i)), (3, .int (nI r)), (2, .int t), (1, .int (nI k)), (0, .ref (a o))] := hl
                have hr9 : r < i := bestR_lt hb9
                refine lv_iload_n hx hb dX4_choice_67 rfl (lv_at hl 1 rfl) ?_
                refine lv_iconst (v := (-1)) hx hb dX4_choice_68 (by decide) ?_
                refine lv_icmp_eq (tgt := 94) hx hb dX4_choice_69 (by decide) (fun c69 => ?_) (fun c69 => ?_)
                · exact absurd c69 (nI_nm1 (by omega))
                · refine lv_aload_n hx hb dX4_choice_72 rfl (lv_at hl 4 rfl) ?_
                  refine g_get CX HW in_X4_choice_4 6 13 rfl rfl (Nat.le_of_ble_eq_true rfl) fl_X4_choice_3 rfl dX4_choice_73 ?_
                  refine g_getN (host := "PommelTowsModel") CX HW in_X4_choice_5 0 5 rfl rfl (Nat.le_of_ble_eq_true rfl) (by decide +kernel) rfl dX4_choice_76 ?_
                  refine lv_iload hx hb dX4_choice_79 (lv_at hl 0 rfl) ?_
                  refine g_ald CX HW 4 (k := i) rfl rfl rfl (by omega) (Nat.le_of_ble_eq_true rfl) dX4_choice_81 ?_
                  refine lv_aload_n hx hb dX4_choice_82 rfl (lv_at hl 4 rfl) ?_
                  refine g_get CX HW in_X4_choice_4 6 13 rfl rfl (Nat.le_of_ble_eq_true rfl) fl_X4_choice_3 rfl dX4_choice_83 ?_
                  refine g_getN (host := "PommelTowsModel") CX HW in_X4_choice_5 0 5 rfl rfl (Nat.le_of_ble_eq_true rfl) (by decide +kernel) rfl dX4_choice_86 ?_
                  refine lv_iload_n hx hb dX4_choice_89 rfl (lv_at hl 1 rfl) ?_
                  refine g_ald CX HW 4 (k := r) rfl rfl rfl (by omega) (Nat.le_of_ble_eq_true rfl) dX4_choice_90 ?_
                  refine lv_icmp_le (tgt := 97) hx hb dX4_choice_91 (by decide) (fun c91 => ?_) (fun c91 => ?_)
                  · exact j97 (nI r) hlt (by simp only [bestR]; rw [hb9, if_neg (by intro h9; exact absurd h9.2.2.2 (Int32.not_lt.mpr c91))]; rfl) _ _ _ HW (lv_sub hl [0, 1, 2, 3, 4] rfl)
                  · refine lv_iload hx hb dX4_choice_94 (lv_at hl 0 rfl) ?_
                    refine lv_istore_n (lv' := [(3, .int (nI i)), (4, .int (nI i)), (2, .int t), (1, .int (nI k)), (0, .ref (a o))]) hx hb dX4_choice_96 rfl hl (Nat.le_of_ble_eq_true rfl) rfl (fun ls hl => ?_)
                    exact j97 (nI i) hlt (by simp only [bestR]; rw [hb9, if_pos ⟨c28, c61, Decidable.byContradiction c37, Int32.not_le.mp c91⟩]; rfl) _ _ _ HW (lv_sub hl [1, 0, 2, 3, 4] rfl)
            · refine lv_goto (tgt := 97) hx hb dX4_choice_64 (by decide) ?_
              exact j97 (oI (bestR (vA S 3) (vA S 4) (vA S 5) t (vA S 7 k + 1) i)) hlt (by simp only [bestR]; rw [if_neg (by intro h9; first | exact absurd h9.1 c28 | exact absurd h9.2.2.1 c37 | exact absurd h9.2.1 c61)]) _ _ _ HW (lv_sub hl [0, 1, 2, 3, 4] rfl)
  refine lv_iconst (v := (-1)) hx hb dX4_choice_0 (by decide) ?_
  refine lv_istore_n (lv' := [(3, .int (-1 : Int32)), (0, .ref (a o)), (1, .int (nI k)), (2, .int t)]) hx hb dX4_choice_1 rfl hl (Nat.le_of_ble_eq_true rfl) rfl (fun ls hl => ?_)
  refine lv_iconst (v := 0) hx hb dX4_choice_2 (by decide) ?_
  refine lv_istore (lv' := [(4, .int (0 : Int32)), (3, .int (-1 : Int32)), (0, .ref (a o)), (1, .int (nI k)), (2, .int t)]) hx hb dX4_choice_3 hl (Nat.le_of_ble_eq_true rfl) rfl (fun ls hl => ?_)
  exact loop _ 0 rfl (by omega) _ _ _ HW (lv_sub hl [0, 1, 4, 3, 2] rfl)

theorem hd_X4_glide : yX4_glide.cls ≠ "java/lang/invoke/MethodHandle" ∧ yX4_glide.cls ≠ "java/lang/invoke/VarHandle" ∧ (parseMethodDescriptor yX4_glide.desc).map (fun d => d.parameters.length) = some 1 := by decide +kernel
theorem fl_X4_glide_28 : Cond.fieldLink RX4 28 (TX4 7).1 (TX4 7).2.1 (TX4 7).2.2.1 ∈ wsX4_glide := by decide +kernel
theorem in_X4_glide_4 : ∀ x ∈ u_ws RX4 TX4 14, x ∈ wsX4_glide := by decide +kernel
theorem fl_X4_glide_25 : Cond.fieldLink RX4 25 (TX4 6).1 (TX4 6).2.1 (TX4 6).2.2.1 ∈ wsX4_glide := by decide +kernel
theorem mm_X4_glide_93 : Cond.methodLink RX4 93 Lib.Math.abs.name ∈ wsX4_glide ∧ Cond.static Lib.Math.abs.name ∈ wsX4_glide ∧ Cond.initialized "java/lang/Math" ∈ wsX4_glide ∧ Cond.code Lib.Math.abs.name Lib.Math.abs.code 1 (some .int) ∈ wsX4_glide := ⟨by decide +kernel, by decide +kernel, by decide +kernel, by decide +kernel⟩
set_option maxRecDepth 100000 in
set_option maxHeartbeats 4000000 in
theorem c_X4_glide {l : Launch} {D : va_G} {cI cL : ClassId} {a : Nat → Nat} (om : Nat) (o : Nat) (S : VS) (th : Int32) (ri : Int32) (my : Nat → Int32) (qu : Nat → Int32) (k : Nat) (hk8 : k < 8) (hly : ¬ vA S 10 k < 0) (hh : vh S < 2 ^ 31) : Ct l yX4_glide wsX4_glide { frames := 1, cells := 0, slots := 0, locals := 24 } D (ty2 cI cL) [.ref (a o), .int (nI k)] (wMo cI a om th (vA S 0) (vA S 1) (vr S) (vA S 3) (vA S 4) (vs S) (vA S 7) ++ (wMS cI a o (a om) (vh S) (vc S) ri (vA S 5) (vA S 6) (vA S 8) (vA S 9) (vA S 10) (vA S 11) (vA S 12) (vA S 2) my qu)) (fun v w' => v = some (.int (glR (vA S 9) (vA S 10) k (vA S 0 (vh S % 6)))) ∧ w' = wMo cI a om th (vA S 0) (vA S 1) (vr S) (vA S 3) (vA S 4) (vs S) (vA S 7) ++ (wMS cI a o (a om) (vh S) (vc S) ri (vA S 5) (vA S 6) (vA S 8) (vA S 9) (glL (vA S 10) k) (vA S 11) (vA S 12) (vA S 2) my qu)) 0 0 := by
  refine Ct.of (cc := cX4_glide) (maxL := 2) (ret := (some .int)) (by decide) rfl (Nat.le_of_ble_eq_true rfl) ?_
  intro p e s m below meth c A ls CX hin HW hl
  obtain ⟨hx, hb, hml, hr, hown, hts, hK, hA, hlk⟩ := id CX
  have hl : lv_has ls 2 [(0, .ref (a o)), (1, .int (nI k))] := hl
  refine lv_aload_n hx hb dX4_glide_0 rfl (lv_at hl 0 rfl) ?_
  refine g_get CX HW in_X4_glide_4 6 7 rfl rfl (Nat.le_of_ble_eq_true rfl) fl_X4_glide_28 rfl dX4_glide_1 ?_
  refine lv_iload_n hx hb dX4_glide_4 rfl (lv_at hl 1 rfl) ?_
  refine g_ald CX HW 11 (k := k) rfl rfl rfl (by omega) (Nat.le_of_ble_eq_true rfl) dX4_glide_5 ?_
  refine lv_if_ne (tgt := 12) hx hb dX4_glide_6 (by decide) (fun c6 => ?_) (fun c6 => ?_)
  · refine lv_aload_n hx hb dX4_glide_12 rfl (lv_at hl 0 rfl) ?_
    refine g_get CX HW in_X4_glide_4 6 7 rfl rfl (Nat.le_of_ble_eq_true rfl) fl_X4_glide_28 rfl dX4_glide_13 ?_
    refine lv_iload_n hx hb dX4_glide_16 rfl (lv_at hl 1 rfl) ?_
    refine lv_dup2_11 hx hb dX4_glide_17 rfl rfl ?_
    refine g_ald CX HW 11 (k := k) rfl rfl rfl (by omega) (Nat.le_of_ble_eq_true rfl) dX4_glide_18 ?_
    refine lv_iconst (v := 1) hx hb dX4_glide_19 (by decide) ?_
    refine lv_isub hx hb dX4_glide_20 ?_
    refine g_ast CX HW 11 (k := k) rfl rfl rfl (by omega) (Nat.le_of_ble_eq_true rfl) dX4_glide_21 (fun H locs HW => ?_)
    have HW : Hw D A s (wMo cI a om th (vA S 0) (vA S 1) (vr S) (vA S 3) (vA S 4) (vs S) (vA S 7) ++ (wMS cI a o (a om) (vh S) (vc S) ri (vA S 5) (vA S 6) (vA S 8) (vA S 9) (upd (vA S 10) k ((vA S 10 k) - (1 : Int32))) (vA S 11) (vA S 12) (vA S 2) my qu)) H locs := HW
    refine lv_iconst (v := 4) hx hb dX4_glide_22 (by decide) ?_
    refine lv_iconst (v := 2) hx hb dX4_glide_23 (by decide) ?_
    refine lv_aload_n hx hb dX4_glide_24 rfl (lv_at hl 0 rfl) ?_
    refine g_get CX HW in_X4_glide_4 6 6 rfl rfl (Nat.le_of_ble_eq_true rfl) fl_X4_glide_25 rfl dX4_glide_25 ?_
    refine lv_iload_n hx hb dX4_glide_28 rfl (lv_at hl 1 rfl) ?_
    refine g_ald CX HW 10 (k := k) rfl rfl rfl (by omega) (Nat.le_of_ble_eq_true rfl) dX4_glide_29 ?_
    refine lv_aload_n hx hb dX4_glide_30 rfl (lv_at hl 0 rfl) ?_
    refine g_callV CX HW hl.1 ([]) ([]) (c_X4_flake om o (mkV (vh S) (vr S) (vs S) (vc S) (setR (vA S) 10 (upd (vA S 10) k (vA S 10 k - 1))) (vq S)) th ri my qu hh) rfl 6 rfl rfl gX4_glide_X4_flake rfl ⟨rfl, hd_X4_flake⟩ ⟨rfl, rfl, (Nat.le_of_ble_eq_true rfl), (Nat.le_of_ble_eq_true rfl)⟩ ⟨(Nat.zero_le _), (Nat.zero_le _)⟩ rfl rfl (Nat.le_of_ble_eq_true rfl) dX4_glide_31 (fun v w1 H locs hp HW => ?_)
    obtain ⟨rfl, rfl⟩ := hp
    have HW : Hw D A s (wMo cI a om th (vA (mkV (vh S) (vr S) (vs S) (vc S) (setR (vA S) 10 (upd (vA S 10) k (vA S 10 k - 1))) (vq S)) 0) (vA (mkV (vh S) (vr S) (vs S) (vc S) (setR (vA S) 10 (upd (vA S 10) k (vA S 10 k - 1))) (vq S)) 1) (vr (mkV (vh S) (vr S) (vs S) (vc S) (setR (vA S) 10 (upd (vA S 10) k (vA S 10 k - 1))) (vq S))) (vA (mkV (vh S) (vr S) (vs S) (vc S) (setR (vA S) 10 (upd (vA S 10) k (vA S 10 k - 1))) (vq S)) 3) (vA (mkV (vh S) (vr S) (vs S) (vc S) (setR (vA S) 10 (upd (vA S 10) k (vA S 10 k - 1))) (vq S)) 4) (vs (mkV (vh S) (vr S) (vs S) (vc S) (setR (vA S) 10 (upd (vA S 10) k (vA S 10 k - 1))) (vq S))) (vA (mkV (vh S) (vr S) (vs S) (vc S) (setR (vA S) 10 (upd (vA S 10) k (vA S 10 k - 1))) (vq S)) 7) ++ (wMS cI a o (a om) (vh (mkV (vh S) (vr S) (vs S) (vc S) (setR (vA S) 10 (upd (vA S 10) k (vA S 10 k - 1))) (vq S))) (vc (mkV (vh S) (vr S) (vs S) (vc S) (setR (vA S) 10 (upd (vA S 10) k (vA S 10 k - 1))) (vq S))) ri (vA (mkV (vh S) (vr S) (vs S) (vc S) (setR (vA S) 10 (upd (vA S 10) k (vA S 10 k - 1))) (vq S)) 5) (vA (mkV (vh S) (vr S) (vs S) (vc S) (setR (vA S) 10 (upd (vA S 10) k (vA S 10 k - 1))) (vq S)) 6) (vA (mkV (vh S) (vr S) (vs S) (vc S) (setR (vA S) 10 (upd (vA S 10) k (vA S 10 k - 1))) (vq S)) 8) (vA (mkV (vh S) (vr S) (vs S) (vc S) (setR (vA S) 10 (upd (vA S 10) k (vA S 10 k - 1))) (vq S)) 9) (vA (mkV (vh S) (vr S) (vs S) (vc S) (setR (vA S) 10 (upd (vA S 10) k (vA S 10 k - 1))) (vq S)) 10) (vA (mkV (vh S) (vr S) (vs S) (vc S) (setR (vA S) 10 (upd (vA S 10) k (vA S 10 k - 1))) (vq S)) 11) (vA (mkV (vh S) (vr S) (vs S) (vc S) (setR (vA S) 10 (upd (vA S 10) k (vA S 10 k - 1))) (vq S)) 12) (vA (mkV (vh S) (vr S) (vs S) (vc S) (setR (vA S) 10 (upd (vA S 10) k (vA S 10 k - 1))) (vq S)) 2) my qu)) H locs := HW
    refine W.eq (g2 := F0 m 34 ls [.int (vA (mkV (vh S) (vr S) (vs S) (vc S) (setR (vA S) 10 (upd (vA S 10) k (vA S 10 k - 1))) (vq S)) 0 (vh (mkV (vh S) (vr S) (vs S) (vc S) (setR (vA S) 10 (upd (vA S 10) k (vA S 10 k - 1))) (vq S)) % 6)), .int (vA S 9 k), .int (2 : Int32), .int (4 : Int32)]) rfl ?_
    refine lv_isub hx hb dX4_glide_34 ?_
    refine va_mabs hx hb (hml.trans hl.1.symm) hown (hts _ mm_X4_glide_93.1) (hts _ mm_X4_glide_93.2.1) (hts _ mm_X4_glide_93.2.2.1) (hts _ mm_X4_glide_93.2.2.2) (Nat.le_of_ble_eq_true rfl) (Nat.le_of_ble_eq_true rfl) (Nat.zero_le _) (Nat.zero_le _) dX4_glide_35 ?_
    refine lv_imul hx hb dX4_glide_38 ?_
    refine lv_isub hx hb dX4_glide_39 ?_
    exact g_iret CX HW rfl ⟨by rw [glR, if_pos (pos_of_ne hly c6)]; rfl, by rw [glL, if_pos (pos_of_ne hly c6)]; rfl⟩ dX4_glide_40
  · refine lv_bipush (v := (-4)) hx hb dX4_glide_9 (by decide) ?_
    exact g_iret CX HW rfl ⟨by rw [glR, if_neg (show ¬ 0 < vA S 10 k by rw [c6]; decide)], by rw [glL, if_neg (show ¬ 0 < vA S 10 k by rw [c6]; decide)]⟩ dX4_glide_11

theorem hd_X4_ski : yX4_ski.cls ≠ "java/lang/invoke/MethodHandle" ∧ yX4_ski.cls ≠ "java/lang/invoke/VarHandle" ∧ (parseMethodDescriptor yX4_ski.desc).map (fun d => d.parameters.length) = some 2 := by decide +kernel
theorem fl_X4_ski_3 : Cond.fieldLink RX4 3 (TX4 13).1 (TX4 13).2.1 (TX4 13).2.2.1 ∈ wsX4_ski := by decide +kernel
theorem in_X4_ski_4 : ∀ x ∈ u_ws RX4 TX4 14, x ∈ wsX4_ski := by decide +kernel
theorem in_X4_ski_5 : ∀ x ∈ u_ws RX5 TX5 10, x ∈ wsX4_ski := by decide +kernel
theorem fl_X4_ski_31 : Cond.fieldLink RX4 31 (TX4 8).1 (TX4 8).2.1 (TX4 8).2.2.1 ∈ wsX4_ski := by decide +kernel
theorem mm_X4_ski_104 : Cond.methodLink RX4 104 Lib.Math.min.name ∈ wsX4_ski ∧ Cond.static Lib.Math.min.name ∈ wsX4_ski ∧ Cond.initialized "java/lang/Math" ∈ wsX4_ski ∧ Cond.code Lib.Math.min.name Lib.Math.min.code 2 (some .int) ∈ wsX4_ski := ⟨by decide +kernel, by decide +kernel, by decide +kernel, by decide +kernel⟩
theorem mm_X4_ski_107 : Cond.methodLink RX4 107 Lib.Math.max.name ∈ wsX4_ski ∧ Cond.static Lib.Math.max.name ∈ wsX4_ski ∧ Cond.initialized "java/lang/Math" ∈ wsX4_ski ∧ Cond.code Lib.Math.max.name Lib.Math.max.code 2 (some .int) ∈ wsX4_ski := ⟨by decide +kernel, by decide +kernel, by decide +kernel, by decide +kernel⟩
theorem fl_X4_ski_15 : Cond.fieldLink RX4 15 (TX4 3).1 (TX4 3).2.1 (TX4 3).2.2.1 ∈ wsX4_ski := by decide +kernel
theorem fl_X4_ski_19 : Cond.fieldLink RX4 19 (TX4 4).1 (TX4 4).2.1 (TX4 4).2.2.1 ∈ wsX4_ski := by decide +kernel
set_option maxRecDepth 100000 in
set_option maxHeartbeats 4000000 in
theorem c_X4_ski {l : Launch} {D : va_G} {cI cL : ClassId} {a : Nat → Nat} (om : Nat) (o : Nat) (S : VS) (th : Int32) (ri : Int32) (my : Nat → Int32) (qu : Nat → Int32) (k : Nat) (t : Nat) (hI : Inv S) (hk : k < vs S) (hh : vh S < 2 ^ 31) : Ct l yX4_ski wsX4_ski { frames := 2, cells := 0, slots := 0, locals := 45 } D (ty2 cI cL) [.ref (a o), .int (nI k), .int (nI t)] (wMo cI a om th (vA S 0) (vA S 1) (vr S) (vA S 3) (vA S 4) (vs S) (vA S 7) ++ (wMS cI a o (a om) (vh S) (vc S) ri (vA S 5) (vA S 6) (vA S 8) (vA S 9) (vA S 10) (vA S 11) (vA S 12) (vA S 2) my qu)) (fun v w' => v = none ∧ w' = wMo cI a om th (vA (skiS t k S) 0) (vA (skiS t k S) 1) (vr (skiS t k S)) (vA (skiS t k S) 3) (vA (skiS t k S) 4) (vs (skiS t k S)) (vA (skiS t k S) 7) ++ (wMS cI a o (a om) (vh (skiS t k S)) (vc (skiS t k S)) ri (vA (skiS t k S) 5) (vA (skiS t k S) 6) (vA (skiS t k S) 8) (vA (skiS t k S) 9) (vA (skiS t k S) 10) (vA (skiS t k S) 11) (vA (skiS t k S) 12) (vA (skiS t k S) 2) my qu)) 0 0 := by
  refine Ct.of (cc := cX4_ski) (maxL := 5) (ret := none) (by decide) rfl (Nat.le_of_ble_eq_true rfl) ?_
  intro p e s m below meth c A ls CX hin HW hl
  obtain ⟨hx, hb, hml, hr, hown, hts, hK, hA, hlk⟩ := id CX
  have hl : lv_has ls 5 [(0, .ref (a o)), (1, .int (nI k)), (2, .int (nI t))] := hl
  have hk8 : k < 8 := Nat.lt_of_lt_of_le hk hI.2.1
  have hly : ¬ vA S 10 k < 0 := by
    obtain ⟨z, hz, ez⟩ := (hI.2.2.2.2.2 k hk).2.2
    rw [ez]; exact nI_pos (by omega)
  refine lv_aload_n hx hb dX4_ski_0 rfl (lv_at hl 0 rfl) ?_
  refine lv_iload_n hx hb dX4_ski_1 rfl (lv_at hl 1 rfl) ?_
  refine lv_iload_n hx hb dX4_ski_2 rfl (lv_at hl 2 rfl) ?_
  refine g_callV CX HW hl.1 ([]) ([]) (c_X4_choice om o S th ri my qu k (nI t) hk8 hI.1 (sl_pos hI)) rfl 6 rfl rfl gX4_ski_X4_choice rfl ⟨rfl, hd_X4_choice⟩ ⟨rfl, rfl, (Nat.le_of_ble_eq_true rfl), (Nat.le_of_ble_eq_true rfl)⟩ ⟨(Nat.zero_le _), (Nat.zero_le _)⟩ rfl rfl (Nat.le_of_ble_eq_true rfl) dX4_ski_3 (fun v w1 H locs hp HW => ?_)
  obtain ⟨rfl, rfl⟩ := hp
  have HW : Hw D A s (wMo cI a om th (vA S 0) (vA S 1) (vr S) (vA S 3) (vA S 4) (vs S) (vA S 7) ++ (wMS cI a o (a om) (vh S) (vc S) ri (vA S 5) (vA S 6) (vA S 8) (vA S 9) (vA S 10) (vA S 11) (vA S 12) (vA S 2) my qu)) H locs := HW
  refine W.eq (g2 := F0 m 6 ls [.int (oI (bestR (vA S 3) (vA S 4) (vA S 5) (nI t) (vA S 7 k + 1) (vr S)))]) rfl ?_
  refine lv_istore_n (lv' := [(3, .int (oI (bestR (vA S 3) (vA S 4) (vA S 5) (nI t) (vA S 7 k + 1) (vr S)))), (0, .ref (a o)), (1, .int (nI k)), (2, .int (nI t))]) hx hb dX4_ski_6 rfl hl (Nat.le_of_ble_eq_true rfl) rfl (fun ls hl => ?_)
  generalize hb9 : (bestR (vA S 3) (vA S 4) (vA S 5) (nI t) (vA S 7 k + 1) (vr S)) = b9 at hl
  rcases b9 with _ | r
  · have hl : lv_has ls 5 [(3, .int (-1 : Int32)), (0, .ref (a o)), (1, .int (nI k)), (2, .int (nI t))] := hl
    refine lv_iload_n hx hb dX4_ski_7 rfl (lv_at hl 0 rfl) ?_
    refine lv_iconst (v := (-1)) hx hb dX4_ski_8 (by decide) ?_
    refine lv_icmp_ne (tgt := 13) hx hb dX4_ski_9 (by decide) (fun c9 => ?_) (fun c9 => ?_)
    · exact absurd c9 (by decide)
    · exact g_vret CX HW rfl ⟨rfl, by rw [skiS_none hb9]⟩ dX4_ski_12
  · have hl : lv_has ls 5 [(3, .int (nI r)), (0, .ref (a o)), (1, .int (nI k)), (2, .int (nI t))] := hl
    have hr9 : r < vr S := bestR_lt hb9
    have hr6 : r < 6 := Nat.lt_of_lt_of_le hr9 hI.1
    refine lv_iload_n hx hb dX4_ski_7 rfl (lv_at hl 0 rfl) ?_
    refine lv_iconst (v := (-1)) hx hb dX4_ski_8 (by decide) ?_
    refine lv_icmp_ne (tgt := 13) hx hb dX4_ski_9 (by decide) (fun c9 => ?_) (fun c9 => ?_)
    · refine lv_iconst (v := 3) hx hb dX4_ski_13 (by decide) ?_
      refine lv_aload_n hx hb dX4_ski_14 rfl (lv_at hl 1 rfl) ?_
      refine g_get CX HW in_X4_ski_4 6 13 rfl rfl (Nat.le_of_ble_eq_true rfl) fl_X4_ski_3 rfl dX4_ski_15 ?_
      refine g_getN (host := "PommelTowsModel") CX HW in_X4_ski_5 0 5 rfl rfl (Nat.le_of_ble_eq_true rfl) (by decide +kernel) rfl dX4_ski_18 ?_
      refine lv_iload_n hx hb dX4_ski_21 rfl (lv_at hl 0 rfl) ?_
      refine g_ald CX HW 4 (k := r) rfl rfl rfl (by omega) (Nat.le_of_ble_eq_true rfl) dX4_ski_22 ?_
      refine lv_imul hx hb dX4_ski_23 ?_
      refine lv_aload_n hx hb dX4_ski_24 rfl (lv_at hl 1 rfl) ?_
      refine g_get CX HW in_X4_ski_4 6 13 rfl rfl (Nat.le_of_ble_eq_true rfl) fl_X4_ski_3 rfl dX4_ski_25 ?_
      refine g_getN (host := "PommelTowsModel") CX HW in_X4_ski_5 0 7 rfl rfl (Nat.le_of_ble_eq_true rfl) (by decide +kernel) rfl dX4_ski_28 ?_
      refine lv_iload_n hx hb dX4_ski_31 rfl (lv_at hl 2 rfl) ?_
      refine g_ald CX HW 5 (k := k) rfl rfl rfl (by omega) (Nat.le_of_ble_eq_true rfl) dX4_ski_32 ?_
      refine lv_iadd hx hb dX4_ski_33 ?_
      refine lv_aload_n hx hb dX4_ski_34 rfl (lv_at hl 1 rfl) ?_
      refine lv_iload_n hx hb dX4_ski_35 rfl (lv_at hl 2 rfl) ?_
      refine g_callV CX HW hl.1 ([]) ([]) (c_X4_glide om o S th ri my qu k hk8 hly hh) rfl 6 rfl rfl gX4_ski_X4_glide rfl ⟨rfl, hd_X4_glide⟩ ⟨rfl, rfl, (Nat.le_of_ble_eq_true rfl), (Nat.le_of_ble_eq_true rfl)⟩ ⟨(Nat.zero_le _), (Nat.zero_le _)⟩ rfl rfl (Nat.le_of_ble_eq_true rfl) dX4_ski_36 (fun v w1 H locs hp HW => ?_)
      obtain ⟨rfl, rfl⟩ := hp
      have HW : Hw D A s (wMo cI a om th (vA S 0) (vA S 1) (vr S) (vA S 3) (vA S 4) (vs S) (vA S 7) ++ (wMS cI a o (a om) (vh S) (vc S) ri (vA S 5) (vA S 6) (vA S 8) (vA S 9) (glL (vA S 10) k) (vA S 11) (vA S 12) (vA S 2) my qu)) H locs := HW
      refine W.eq (g2 := F0 m 39 ls [.int (glR (vA S 9) (vA S 10) k (vA S 0 (vh S % 6))), .int (((3 : Int32) * ((vA S 4) r)) + ((vA S 7) k))]) rfl ?_
      refine lv_iadd hx hb dX4_ski_39 ?_
      refine lv_istore (lv' := [(4, .int ((((3 : Int32) * ((vA S 4) r)) + ((vA S 7) k)) + (glR (vA S 9) (vA S 10) k (vA S 0 (vh S % 6))))), (3, .int (nI r)), (0, .ref (a o)), (1, .int (nI k)), (2, .int (nI t))]) hx hb dX4_ski_40 hl (Nat.le_of_ble_eq_true rfl) rfl (fun ls hl => ?_)
      refine lv_aload_n hx hb dX4_ski_42 rfl (lv_at hl 2 rfl) ?_
      refine g_get CX HW in_X4_ski_4 6 8 rfl rfl (Nat.le_of_ble_eq_true rfl) fl_X4_ski_31 rfl dX4_ski_43 ?_
      refine lv_iload_n hx hb dX4_ski_46 rfl (lv_at hl 3 rfl) ?_
      refine lv_iconst (v := 0) hx hb dX4_ski_47 (by decide) ?_
      refine lv_sipush (v := 999) hx hb dX4_ski_48 (by decide) ?_
      refine lv_aload_n hx hb dX4_ski_51 rfl (lv_at hl 2 rfl) ?_
      refine g_get CX HW in_X4_ski_4 6 8 rfl rfl (Nat.le_of_ble_eq_true rfl) fl_X4_ski_31 rfl dX4_ski_52 ?_
      refine lv_iload_n hx hb dX4_ski_55 rfl (lv_at hl 3 rfl) ?_
      refine g_ald CX HW 12 (k := k) rfl rfl rfl (by omega) (Nat.le_of_ble_eq_true rfl) dX4_ski_56 ?_
      refine lv_iload hx hb dX4_ski_57 (lv_at hl 0 rfl) ?_
      refine lv_iadd hx hb dX4_ski_59 ?_
      refine va_mmin hx hb (hml.trans hl.1.symm) hown (hts _ mm_X4_ski_104.1) (hts _ mm_X4_ski_104.2.1) (hts _ mm_X4_ski_104.2.2.1) (hts _ mm_X4_ski_104.2.2.2) (Nat.le_of_ble_eq_true rfl) (Nat.le_of_ble_eq_true rfl) (Nat.zero_le _) (Nat.zero_le _) dX4_ski_60 ?_
      refine va_mmax hx hb (hml.trans hl.1.symm) hown (hts _ mm_X4_ski_107.1) (hts _ mm_X4_ski_107.2.1) (hts _ mm_X4_ski_107.2.2.1) (hts _ mm_X4_ski_107.2.2.2) (Nat.le_of_ble_eq_true rfl) (Nat.le_of_ble_eq_true rfl) (Nat.zero_le _) (Nat.zero_le _) dX4_ski_63 ?_
      refine g_ast CX HW 12 (k := k) rfl rfl rfl (by omega) (Nat.le_of_ble_eq_true rfl) dX4_ski_66 (fun H locs HW => ?_)
      have HW : Hw D A s (wMo cI a om th (vA S 0) (vA S 1) (vr S) (vA S 3) (vA S 4) (vs S) (vA S 7) ++ (wMS cI a o (a om) (vh S) (vc S) ri (vA S 5) (vA S 6) (vA S 8) (vA S 9) (glL (vA S 10) k) (upd (vA S 11) k (if (0 : Int32) < (if (((vA S 11) k) + ((((3 : Int32) * ((vA S 4) r)) + ((vA S 7) k)) + (glR (vA S 9) (vA S 10) k (vA S 0 (vh S % 6))))) < (999 : Int32) then (((vA S 11) k) + ((((3 : Int32) * ((vA S 4) r)) + ((vA S 7) k)) + (glR (vA S 9) (vA S 10) k (vA S 0 (vh S % 6))))) else (999 : Int32)) then (if (((vA S 11) k) + ((((3 : Int32) * ((vA S 4) r)) + ((vA S 7) k)) + (glR (vA S 9) (vA S 10) k (vA S 0 (vh S % 6))))) < (999 : Int32) then (((vA S 11) k) + ((((3 : Int32) * ((vA S 4) r)) + ((vA S 7) k)) + (glR (vA S 9) (vA S 10) k (vA S 0 (vh S % 6))))) else (999 : Int32)) else (0 : Int32))) (vA S 12) (vA S 2) my qu)) H locs := HW
      refine lv_aload_n hx hb dX4_ski_67 rfl (lv_at hl 2 rfl) ?_
      refine g_get CX HW in_X4_ski_4 6 3 rfl rfl (Nat.le_of_ble_eq_true rfl) fl_X4_ski_15 rfl dX4_ski_68 ?_
      refine lv_iload_n hx hb dX4_ski_71 rfl (lv_at hl 1 rfl) ?_
      refine lv_dup2_11 hx hb dX4_ski_72 rfl rfl ?_
      refine g_ald CX HW 7 (k := r) rfl rfl rfl (by omega) (Nat.le_of_ble_eq_true rfl) dX4_ski_73 ?_
      refine lv_iconst (v := 1) hx hb dX4_ski_74 (by decide) ?_
      refine lv_isub hx hb dX4_ski_75 ?_
      refine g_ast CX HW 7 (k := r) rfl rfl rfl (by omega) (Nat.le_of_ble_eq_true rfl) dX4_ski_76 (fun H locs HW => ?_)
      have HW : Hw D A s (wMo cI a om th (vA S 0) (vA S 1) (vr S) (vA S 3) (vA S 4) (vs S) (vA S 7) ++ (wMS cI a o (a om) (vh S) (vc S) ri (upd (vA S 5) r (((vA S 5) r) - (1 : Int32))) (vA S 6) (vA S 8) (vA S 9) (glL (vA S 10) k) (upd (vA S 11) k (if (0 : Int32) < (if (((vA S 11) k) + ((((3 : Int32) * ((vA S 4) r)) + ((vA S 7) k)) + (glR (vA S 9) (vA S 10) k (vA S 0 (vh S % 6))))) < (999 : Int32) then (((vA S 11) k) + ((((3 : Int32) * ((vA S 4) r)) + ((vA S 7) k)) + (glR (vA S 9) (vA S 10) k (vA S 0 (vh S % 6))))) else (999 : Int32)) then (if (((vA S 11) k) + ((((3 : Int32) * ((vA S 4) r)) + ((vA S 7) k)) + (glR (vA S 9) (vA S 10) k (vA S 0 (vh S % 6))))) < (999 : Int32) then (((vA S 11) k) + ((((3 : Int32) * ((vA S 4) r)) + ((vA S 7) k)) + (glR (vA S 9) (vA S 10) k (vA S 0 (vh S % 6))))) else (999 : Int32)) else (0 : Int32))) (vA S 12) (vA S 2) my qu)) H locs := HW
      have hwe : (upd (vA S 5) r (((vA S 5) r) - (1 : Int32))) = (upd (vA S 5) r (heldI (vA S 5 r + -1) 0 90)) := (by rw [held_dec hI hr9 (bestR_opn hb9)])
      rw [hwe] at HW; clear hwe
      refine lv_aload_n hx hb dX4_ski_77 rfl (lv_at hl 2 rfl) ?_
      refine g_get CX HW in_X4_ski_4 6 4 rfl rfl (Nat.le_of_ble_eq_true rfl) fl_X4_ski_19 rfl dX4_ski_78 ?_
      refine lv_iload_n hx hb dX4_ski_81 rfl (lv_at hl 1 rfl) ?_
      refine lv_dup2_11 hx hb dX4_ski_82 rfl rfl ?_
      refine g_ald CX HW 8 (k := r) rfl rfl rfl (by omega) (Nat.le_of_ble_eq_true rfl) dX4_ski_83 ?_
      refine lv_iconst (v := 1) hx hb dX4_ski_84 (by decide) ?_
      refine lv_iadd hx hb dX4_ski_85 ?_
      refine g_ast CX HW 8 (k := r) rfl rfl rfl (by omega) (Nat.le_of_ble_eq_true rfl) dX4_ski_86 (fun H locs HW => ?_)
      have HW : Hw D A s (wMo cI a om th (vA S 0) (vA S 1) (vr S) (vA S 3) (vA S 4) (vs S) (vA S 7) ++ (wMS cI a o (a om) (vh S) (vc S) ri (upd (vA S 5) r (heldI (vA S 5 r + -1) 0 90)) (upd (vA S 6) r (((vA S 6) r) + (1 : Int32))) (vA S 8) (vA S 9) (glL (vA S 10) k) (upd (vA S 11) k (if (0 : Int32) < (if (((vA S 11) k) + ((((3 : Int32) * ((vA S 4) r)) + ((vA S 7) k)) + (glR (vA S 9) (vA S 10) k (vA S 0 (vh S % 6))))) < (999 : Int32) then (((vA S 11) k) + ((((3 : Int32) * ((vA S 4) r)) + ((vA S 7) k)) + (glR (vA S 9) (vA S 10) k (vA S 0 (vh S % 6))))) else (999 : Int32)) then (if (((vA S 11) k) + ((((3 : Int32) * ((vA S 4) r)) + ((vA S 7) k)) + (glR (vA S 9) (vA S 10) k (vA S 0 (vh S % 6))))) < (999 : Int32) then (((vA S 11) k) + ((((3 : Int32) * ((vA S 4) r)) + ((vA S 7) k)) + (glR (vA S 9) (vA S 10) k (vA S 0 (vh S % 6))))) else (999 : Int32)) else (0 : Int32))) (vA S 12) (vA S 2) my qu)) H locs := HW
      exact g_vret CX HW rfl ⟨rfl, by rw [skiS_some hb9]; rfl⟩ dX4_ski_87
    · exact absurd c9 (nI_nm1 (by omega))

theorem hd_X4_out : yX4_out.cls ≠ "java/lang/invoke/MethodHandle" ∧ yX4_out.cls ≠ "java/lang/invoke/VarHandle" ∧ (parseMethodDescriptor yX4_out.desc).map (fun d => d.parameters.length) = some 2 := by decide +kernel
theorem fl_X4_out_40 : Cond.fieldLink RX4 40 (TX4 11).1 (TX4 11).2.1 (TX4 11).2.2.1 ∈ wsX4_out := by decide +kernel
theorem in_X4_out_4 : ∀ x ∈ u_ws RX4 TX4 14, x ∈ wsX4_out := by decide +kernel
theorem fl_X4_out_43 : Cond.fieldLink RX4 43 (TX4 12).1 (TX4 12).2.1 (TX4 12).2.2.1 ∈ wsX4_out := by decide +kernel
set_option maxRecDepth 100000 in
set_option maxHeartbeats 4000000 in
theorem c_X4_out {l : Launch} {D : va_G} {cI cL : ClassId} {a : Nat → Nat} (om : Nat) (o : Nat) (S : VS) (th : Int32) (ri : Int32) (my : Nat → Int32) (qu : Nat → Int32) (t : Nat) (j : Nat) (q : Nat → List Nat) (k : Nat) (ht : t < 3) (hM : RepM q my qu) (hp : (q t)[j]? = some k) : Ct l yX4_out wsX4_out { frames := 0, cells := 0, slots := 0, locals := 0 } D (ty2 cI cL) [.ref (a o), .int (nI t), .int (nI j)] (wMo cI a om th (vA S 0) (vA S 1) (vr S) (vA S 3) (vA S 4) (vs S) (vA S 7) ++ (wMS cI a o (a om) (vh S) (vc S) ri (vA S 5) (vA S 6) (vA S 8) (vA S 9) (vA S 10) (vA S 11) (vA S 12) (vA S 2) my qu)) (fun v w' => ∃ (my' : Nat → Int32) (qu' : Nat → Int32), (RepM (setQ q t ((q t).eraseIdx j)) my' qu') ∧ v = some (.int (nI k)) ∧ w' = wMo cI a om th (vA S 0) (vA S 1) (vr S) (vA S 3) (vA S 4) (vs S) (vA S 7) ++ (wMS cI a o (a om) (vh S) (vc S) ri (vA S 5) (vA S 6) (vA S 8) (vA S 9) (vA S 10) (vA S 11) (vA S 12) (vA S 2) my' qu')) 0 0 := by
  refine Ct.of (cc := cX4_out) (maxL := 6) (ret := (some .int)) (by decide) rfl (Nat.le_of_ble_eq_true rfl) ?_
  intro p e s m below meth c A ls CX hin HW hl
  obtain ⟨hx, hb, hml, hr, hown, hts, hK, hA, hlk⟩ := id CX
  have hl : lv_has ls 6 [(0, .ref (a o)), (1, .int (nI t)), (2, .int (nI j))] := hl
  have hpl := (List.getElem?_eq_some_iff.mp hp).1
  have hq8 := (hM t ht).2
  obtain ⟨n, hn⟩ : ∃ n : Nat, (q t).length = n + 1 := ⟨(q t).length - 1, by omega⟩
  have hmy : my t = nI (n + 1) := by rw [(hM t ht).1.1, hn]
  have loop : ∀ (d0 : Nat) (i : Nat), n - i = d0 → (i ≤ n) → (j ≤ i) → ∀ (H : Heap) (locs : List Loc) (ls : Array Slot), Hw D A s (wMo cI a om th (vA S 0) (vA S 1) (vr S) (vA S 3) (vA S 4) (vs S) (vA S 7) ++ (wMS cI a o (a om) (vh S) (vc S) ri (vA S 5) (vA S 6) (vA S 8) (vA S 9) (vA S 10) (vA S 11) (vA S 12) (vA S 2) (upd my t (nI n)) (shQ qu (8 * t) j i))) H locs → lv_has ls 6 [(5, .int (nI i)), (4, .int (nI k)), (3, .int (nI (8 * t))), (2, .int (nI j)), (1, .int (nI t)), (0, .ref (a o))] → W p l e ({ frames := 0, cells := 0, slots := 0, locals := 0 } : Room) s m ([.ref (a o), .int (nI t), .int (nI j)] : List Value).toArray below meth c H locs 0 0 (MQ below (cQ D A (fun v w' => ∃ (my' : Nat → Int32) (qu' : Nat → Int32), (RepM (setQ q t ((q t).eraseIdx j)) my' qu') ∧ v = some (.int (nI k)) ∧ w' = wMo cI a om th (vA S 0) (vA S 1) (vr S) (vA S 3) (vA S 4) (vs S) (vA S 7) ++ (wMS cI a o (a om) (vh S) (vc S) ri (vA S 5) (vA S 6) (vA S 8) (vA S 9) (vA S 10) (vA S 11) (vA S 12) (vA S 2) my' qu'))) ([.ref (a o), .int (nI t), .int (nI j)] : List Value).toArray s 0 0 A) (F0 m 28 ls []) := by
    intro d0
    induction d0 using Nat.strongRecOn with
    | _ d0 ih =>
      intro i hd0 hi hpi H locs ls HW hl
      refine lv_iload hx hb dX4_out_28 (lv_at hl 0 rfl) ?_
      refine lv_aload_n hx hb dX4_out_30 rfl (lv_at hl 5 rfl) ?_
      refine g_get CX HW in_X4_out_4 6 11 rfl rfl (Nat.le_of_ble_eq_true rfl) fl_X4_out_40 rfl dX4_out_31 ?_
      refine lv_iload_n hx hb dX4_out_34 rfl (lv_at hl 4 rfl) ?_
      refine g_ald CX HW 15 (k := t) rfl rfl rfl (by omega) (Nat.le_of_ble_eq_true rfl) dX4_out_35 ?_
      refine g_top (y := (nI n)) pk_us ?_
      refine lv_icmp_ge (tgt := 65) hx hb dX4_out_36 (by decide) (fun c36 => ?_) (fun c36 => ?_)
      · have c36 := (nI_leI (by omega) (by omega)).mp c36
        obtain rfl : i = n := by omega
        refine lv_iload hx hb dX4_out_65 (lv_at hl 1 rfl) ?_
        exact g_iret CX HW rfl ⟨_, _, repM_out hM ht hp hn (by omega), rfl, rfl⟩ dX4_out_67
      · have c36 : i < n := nI_lt_of (by omega) (by omega) c36
        refine lv_aload_n hx hb dX4_out_39 rfl (lv_at hl 5 rfl) ?_
        refine g_get CX HW in_X4_out_4 6 12 rfl rfl (Nat.le_of_ble_eq_true rfl) fl_X4_out_43 rfl dX4_out_40 ?_
        refine lv_iload_n hx hb dX4_out_43 rfl (lv_at hl 2 rfl) ?_
        refine lv_iload hx hb dX4_out_44 (lv_at hl 0 rfl) ?_
        refine lv_iadd hx hb dX4_out_46 ?_
        refine g_top (y := (nI (8 * t + i))) (nI_add _ _) ?_
        refine lv_aload_n hx hb dX4_out_47 rfl (lv_at hl 5 rfl) ?_
        refine g_get CX HW in_X4_out_4 6 12 rfl rfl (Nat.le_of_ble_eq_true rfl) fl_X4_out_43 rfl dX4_out_48 ?_
        refine lv_iload_n hx hb dX4_out_51 rfl (lv_at hl 2 rfl) ?_
        refine lv_iload hx hb dX4_out_52 (lv_at hl 0 rfl) ?_
        refine lv_iadd hx hb dX4_out_54 ?_
        refine g_top (y := (nI (8 * t + i))) (nI_add _ _) ?_
        refine lv_iconst (v := 1) hx hb dX4_out_55 (by decide) ?_
        refine lv_iadd hx hb dX4_out_56 ?_
        refine g_top (y := (nI (8 * t + i + 1))) (nI_1 _) ?_
        refine g_ald CX HW 16 (k := (8 * t + i + 1)) rfl rfl rfl (by omega) (Nat.le_of_ble_eq_true rfl) dX4_out_57 ?_
        refine g_top (y := (qu (8 * t + i + 1))) (shQ_at _ _ _ _) ?_
        refine g_ast CX HW 16 (k := (8 * t + i)) rfl rfl rfl (by omega) (Nat.le_of_ble_eq_true rfl) dX4_out_58 (fun H locs HW => ?_)
        have HW : Hw D A s (wMo cI a om th (vA S 0) (vA S 1) (vr S) (vA S 3) (vA S 4) (vs S) (vA S 7) ++ (wMS cI a o (a om) (vh S) (vc S) ri (vA S 5) (vA S 6) (vA S 8) (vA S 9) (vA S 10) (vA S 11) (vA S 12) (vA S 2) (upd my t (nI n)) (upd (shQ qu (8 * t) j i) (8 * t + i) (qu (8 * t + i + 1))))) H locs := HW
        have hwe : (upd (shQ qu (8 * t) j i) (8 * t + i) (qu (8 * t + i + 1))) = (shQ qu (8 * t) j (i + 1)) := (shQ_s hpi)
        rw [hwe] at HW; clear hwe
        refine lv_iinc (v := (nI (i + 1))) (lv' := [(5, .int (nI (i + 1))), (4, .int (nI k)), (3, .int (nI (8 * t))), (2, .int (nI j)), (1, .int (nI t)), (0, .ref (a o))]) hx hb dX4_out_59 hl (k := 0) rfl (inc1 _) (Nat.le_of_ble_eq_true rfl) rfl (fun ls hl => ?_)
        refine lv_goto (tgt := 28) hx hb dX4_out_62 (by decide) ?_
        exact ih _ (by omega) (i + 1) rfl (by omega) (by omega) _ _ _ HW (lv_sub hl [0, 1, 2, 3, 4, 5] rfl)
  refine lv_bipush (v := 8) hx hb dX4_out_0 (by decide) ?_
  refine lv_iload_n hx hb dX4_out_2 rfl (lv_at hl 1 rfl) ?_
  refine lv_imul hx hb dX4_out_3 ?_
  refine g_top (y := (nI (8 * t))) (pk_mul 8 t) ?_
  refine lv_istore_n (lv' := [(3, .int (nI (8 * t))), (0, .ref (a o)), (1, .int (nI t)), (2, .int (nI j))]) hx hb dX4_out_4 rfl hl (Nat.le_of_ble_eq_true rfl) rfl (fun ls hl => ?_)
  refine lv_aload_n hx hb dX4_out_5 rfl (lv_at hl 1 rfl) ?_
  refine g_get CX HW in_X4_out_4 6 12 rfl rfl (Nat.le_of_ble_eq_true rfl) fl_X4_out_43 rfl dX4_out_6 ?_
  refine lv_iload_n hx hb dX4_out_9 rfl (lv_at hl 0 rfl) ?_
  refine lv_iload_n hx hb dX4_out_10 rfl (lv_at hl 3 rfl) ?_
  refine lv_iadd hx hb dX4_out_11 ?_
  refine g_top (y := (nI (8 * t + j))) (nI_add _ _) ?_
  refine g_ald CX HW 16 (k := (8 * t + j)) rfl rfl rfl (by omega) (Nat.le_of_ble_eq_true rfl) dX4_out_12 ?_
  refine g_top (y := (nI k)) ((hM t ht).1.2 j k hp) ?_
  refine lv_istore (lv' := [(4, .int (nI k)), (3, .int (nI (8 * t))), (0, .ref (a o)), (1, .int (nI t)), (2, .int (nI j))]) hx hb dX4_out_13 hl (Nat.le_of_ble_eq_true rfl) rfl (fun ls hl => ?_)
  refine lv_aload_n hx hb dX4_out_15 rfl (lv_at hl 2 rfl) ?_
  refine g_get CX HW in_X4_out_4 6 11 rfl rfl (Nat.le_of_ble_eq_true rfl) fl_X4_out_40 rfl dX4_out_16 ?_
  refine lv_iload_n hx hb dX4_out_19 rfl (lv_at hl 3 rfl) ?_
  refine lv_dup2_11 hx hb dX4_out_20 rfl rfl ?_
  refine g_ald CX HW 15 (k := t) rfl rfl rfl (by omega) (Nat.le_of_ble_eq_true rfl) dX4_out_21 ?_
  refine g_top (y := (nI (n + 1))) hmy ?_
  refine lv_iconst (v := 1) hx hb dX4_out_22 (by decide) ?_
  refine lv_isub hx hb dX4_out_23 ?_
  refine g_top (y := (nI n)) (pk_sub (a := n + 1) (b := 1) (by omega)) ?_
  refine g_ast CX HW 15 (k := t) rfl rfl rfl (by omega) (Nat.le_of_ble_eq_true rfl) dX4_out_24 (fun H locs HW => ?_)
  have HW : Hw D A s (wMo cI a om th (vA S 0) (vA S 1) (vr S) (vA S 3) (vA S 4) (vs S) (vA S 7) ++ (wMS cI a o (a om) (vh S) (vc S) ri (vA S 5) (vA S 6) (vA S 8) (vA S 9) (vA S 10) (vA S 11) (vA S 12) (vA S 2) (upd my t (nI n)) qu)) H locs := HW
  refine lv_iload_n hx hb dX4_out_25 rfl (lv_at hl 4 rfl) ?_
  refine lv_istore (lv' := [(5, .int (nI j)), (4, .int (nI k)), (3, .int (nI (8 * t))), (0, .ref (a o)), (1, .int (nI t)), (2, .int (nI j))]) hx hb dX4_out_26 hl (Nat.le_of_ble_eq_true rfl) rfl (fun ls hl => ?_)
  have hwe : qu = shQ qu (8 * t) j j := (shQ_0 _ _ _).symm
  rw [hwe] at HW; clear hwe
  exact loop _ j rfl (by omega) (by omega) _ _ _ HW (lv_sub hl [0, 1, 2, 5, 4, 3] rfl)

theorem hd_X4_in : yX4_in.cls ≠ "java/lang/invoke/MethodHandle" ∧ yX4_in.cls ≠ "java/lang/invoke/VarHandle" ∧ (parseMethodDescriptor yX4_in.desc).map (fun d => d.parameters.length) = some 2 := by decide +kernel
theorem fl_X4_in_43 : Cond.fieldLink RX4 43 (TX4 12).1 (TX4 12).2.1 (TX4 12).2.2.1 ∈ wsX4_in := by decide +kernel
theorem in_X4_in_4 : ∀ x ∈ u_ws RX4 TX4 14, x ∈ wsX4_in := by decide +kernel
theorem fl_X4_in_40 : Cond.fieldLink RX4 40 (TX4 11).1 (TX4 11).2.1 (TX4 11).2.2.1 ∈ wsX4_in := by decide +kernel
set_option maxRecDepth 100000 in
set_option maxHeartbeats 4000000 in
theorem c_X4_in {l : Launch} {D : va_G} {cI cL : ClassId} {a : Nat → Nat} (om : Nat) (o : Nat) (S : VS) (th : Int32) (ri : Int32) (my : Nat → Int32) (qu : Nat → Int32) (t : Nat) (k : Nat) (q : Nat → List Nat) (ht : t < 3) (hM : RepM q my qu) (hq8 : (q t).length < 8) : Ct l yX4_in wsX4_in { frames := 0, cells := 0, slots := 0, locals := 0 } D (ty2 cI cL) [.ref (a o), .int (nI t), .int (nI k)] (wMo cI a om th (vA S 0) (vA S 1) (vr S) (vA S 3) (vA S 4) (vs S) (vA S 7) ++ (wMS cI a o (a om) (vh S) (vc S) ri (vA S 5) (vA S 6) (vA S 8) (vA S 9) (vA S 10) (vA S 11) (vA S 12) (vA S 2) my qu)) (fun v w' => ∃ (my' : Nat → Int32) (qu' : Nat → Int32), (RepM (setQ q t (q t ++ [k])) my' qu') ∧ v = none ∧ w' = wMo cI a om th (vA S 0) (vA S 1) (vr S) (vA S 3) (vA S 4) (vs S) (vA S 7) ++ (wMS cI a o (a om) (vh S) (vc S) ri (vA S 5) (vA S 6) (vA S 8) (vA S 9) (vA S 10) (vA S 11) (vA S 12) (vA S 2) my' qu')) 0 0 := by
  refine Ct.of (cc := cX4_in) (maxL := 3) (ret := none) (by decide) rfl (Nat.le_of_ble_eq_true rfl) ?_
  intro p e s m below meth c A ls CX hin HW hl
  obtain ⟨hx, hb, hml, hr, hown, hts, hK, hA, hlk⟩ := id CX
  have hl : lv_has ls 3 [(0, .ref (a o)), (1, .int (nI t)), (2, .int (nI k))] := hl
  refine lv_aload_n hx hb dX4_in_0 rfl (lv_at hl 0 rfl) ?_
  refine g_get CX HW in_X4_in_4 6 12 rfl rfl (Nat.le_of_ble_eq_true rfl) fl_X4_in_43 rfl dX4_in_1 ?_
  refine lv_bipush (v := 8) hx hb dX4_in_4 (by decide) ?_
  refine lv_iload_n hx hb dX4_in_6 rfl (lv_at hl 1 rfl) ?_
  refine lv_imul hx hb dX4_in_7 ?_
  refine g_top (y := (nI (8 * t))) (pk_mul 8 t) ?_
  refine lv_aload_n hx hb dX4_in_8 rfl (lv_at hl 0 rfl) ?_
  refine g_get CX HW in_X4_in_4 6 11 rfl rfl (Nat.le_of_ble_eq_true rfl) fl_X4_in_40 rfl dX4_in_9 ?_
  refine lv_iload_n hx hb dX4_in_12 rfl (lv_at hl 1 rfl) ?_
  refine g_ald CX HW 15 (k := t) rfl rfl rfl (by omega) (Nat.le_of_ble_eq_true rfl) dX4_in_13 ?_
  refine g_top (y := (nI (q t).length)) (hM t ht).1.1 ?_
  refine lv_iadd hx hb dX4_in_14 ?_
  refine g_top (y := (nI (8 * t + (q t).length))) (nI_add _ _) ?_
  refine lv_iload_n hx hb dX4_in_15 rfl (lv_at hl 2 rfl) ?_
  refine g_ast CX HW 16 (k := (8 * t + (q t).length)) rfl rfl rfl (by omega) (Nat.le_of_ble_eq_true rfl) dX4_in_16 (fun H locs HW => ?_)
  have HW : Hw D A s (wMo cI a om th (vA S 0) (vA S 1) (vr S) (vA S 3) (vA S 4) (vs S) (vA S 7) ++ (wMS cI a o (a om) (vh S) (vc S) ri (vA S 5) (vA S 6) (vA S 8) (vA S 9) (vA S 10) (vA S 11) (vA S 12) (vA S 2) my (upd qu (8 * t + (q t).length) (nI k)))) H locs := HW
  refine lv_aload_n hx hb dX4_in_17 rfl (lv_at hl 0 rfl) ?_
  refine g_get CX HW in_X4_in_4 6 11 rfl rfl (Nat.le_of_ble_eq_true rfl) fl_X4_in_40 rfl dX4_in_18 ?_
  refine lv_iload_n hx hb dX4_in_21 rfl (lv_at hl 1 rfl) ?_
  refine lv_dup2_11 hx hb dX4_in_22 rfl rfl ?_
  refine g_ald CX HW 15 (k := t) rfl rfl rfl (by omega) (Nat.le_of_ble_eq_true rfl) dX4_in_23 ?_
  refine g_top (y := (nI (q t).length)) (hM t ht).1.1 ?_
  refine lv_iconst (v := 1) hx hb dX4_in_24 (by decide) ?_
  refine lv_iadd hx hb dX4_in_25 ?_
  refine g_top (y := (nI ((q t).length + 1))) (nI_1 _) ?_
  refine g_ast CX HW 15 (k := t) rfl rfl rfl (by omega) (Nat.le_of_ble_eq_true rfl) dX4_in_26 (fun H locs HW => ?_)
  have HW : Hw D A s (wMo cI a om th (vA S 0) (vA S 1) (vr S) (vA S 3) (vA S 4) (vs S) (vA S 7) ++ (wMS cI a o (a om) (vh S) (vc S) ri (vA S 5) (vA S 6) (vA S 8) (vA S 9) (vA S 10) (vA S 11) (vA S 12) (vA S 2) (upd my t (nI ((q t).length + 1))) (upd qu (8 * t + (q t).length) (nI k)))) H locs := HW
  exact g_vret CX HW rfl ⟨_, _, repM_in hM ht hq8, rfl, rfl⟩ dX4_in_27
