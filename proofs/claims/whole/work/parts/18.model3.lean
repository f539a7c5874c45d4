theorem towQ_is {q : Nat → List Nat} {t k : Nat} (ht : t < 3) (h1 : k ∈ q t) (h2 : ∀ z, z < t → k ∉ q z) : towQ q k = nI t := by
  unfold towQ
  rcases (by omega : t = 0 ∨ t = 1 ∨ t = 2) with rfl | rfl | rfl
  · rw [if_pos h1]; rfl
  · rw [if_neg (h2 0 (by decide)), if_pos h1]; rfl
  · rw [if_neg (h2 0 (by decide)), if_neg (h2 1 (by decide)), if_pos h1]; rfl
theorem towQ_not {q : Nat → List Nat} {k : Nat} (h2 : ∀ z, z < 3 → k ∉ q z) : towQ q k = -1 := by
  unfold towQ
  rw [if_neg (h2 0 (by decide)), if_neg (h2 1 (by decide)), if_neg (h2 2 (by decide))]
theorem first_at : ∀ {l : List Nat} {k : Nat}, k ∈ l → ∃ p : Nat, l[p]? = some k ∧ ∀ p1, p1 < p → ¬ l[p1]? = some k
  | [], k, h => by simp at h
  | a :: l, k, h => by
    by_cases ha : a = k
    · exact ⟨0, by rw [ha]; rfl, fun p1 h1 => absurd h1 (Nat.not_lt_zero p1)⟩
    · rcases List.mem_cons.mp h with h1 | h1
      · exact absurd h1.symm ha
      · obtain ⟨p, h2, h3⟩ := first_at h1
        refine ⟨p + 1, h2, fun p1 h4 => ?_⟩
        cases p1 with
        | zero => intro h5; exact ha (Option.some.inj h5)
        | succ p1 => exact h3 p1 (by omega)
theorem towQ_cases (q : Nat → List Nat) (k : Nat) : ((∀ t, t < 3 → k ∉ q t) ∧ towQ q k = -1) ∨ ∃ t p : Nat, t < 3 ∧ (q t)[p]? = some k ∧ towQ q k = nI t ∧ ∀ p1, p1 < p → ¬ (q t)[p1]? = some k := by
  by_cases h0 : k ∈ q 0
  · obtain ⟨p, h1, h2⟩ := first_at h0
    exact Or.inr ⟨0, p, by decide, h1, towQ_is (by decide) h0 (fun z hz => absurd hz (Nat.not_lt_zero z)), h2⟩
  · by_cases h1 : k ∈ q 1
    · obtain ⟨p, h2, h3⟩ := first_at h1
      exact Or.inr ⟨1, p, by decide, h2, towQ_is (by decide) h1 (fun z hz => by rw [show z = 0 by omega]; exact h0), h3⟩
    · by_cases h2 : k ∈ q 2
      · obtain ⟨p, h3, h4⟩ := first_at h2
        exact Or.inr ⟨2, p, by decide, h3, towQ_is (by decide) h2 (fun z hz => by rcases (by omega : z = 0 ∨ z = 1) with rfl | rfl; (· exact h0); (· exact h1)), h4⟩
      · left
        have h : ∀ t, t < 3 → k ∉ q t := fun t ht => by
          rcases (by omega : t = 0 ∨ t = 1 ∨ t = 2) with rfl | rfl | rfl
          · exact h0
          · exact h1
          · exact h2
        exact ⟨h, towQ_not h⟩
theorem inQ_of {q : Nat → List Nat} {t k : Nat} (ht : t < 3) (h : k ∈ q t) : inQ q k := by
  rcases (by omega : t = 0 ∨ t = 1 ∨ t = 2) with rfl | rfl | rfl
  · exact Or.inl h
  · exact Or.inr (Or.inl h)
  · exact Or.inr (Or.inr h)
theorem hd_X4_towAt : yX4_towAt.cls ≠ "java/lang/invoke/MethodHandle" ∧ yX4_towAt.cls ≠ "java/lang/invoke/VarHandle" ∧ (parseMethodDescriptor yX4_towAt.desc).map (fun d => d.parameters.length) = some 1 := by decide +kernel
theorem fl_X4_towAt_40 : Cond.fieldLink RX4 40 (TX4 11).1 (TX4 11).2.1 (TX4 11).2.2.1 ∈ wsX4_towAt := by decide +kernel
theorem in_X4_towAt_4 : ∀ x ∈ u_ws RX4 TX4 14, x ∈ wsX4_towAt := by decide +kernel
theorem fl_X4_towAt_43 : Cond.fieldLink RX4 43 (TX4 12).1 (TX4 12).2.1 (TX4 12).2.2.1 ∈ wsX4_towAt := by decide +kernel
set_option maxRecDepth 100000 in
set_option maxHeartbeats 4000000 in
theorem c_X4_towAt {l : Launch} {D : va_G} {cI cL : ClassId} {a : Nat → Nat} (om : Nat) (o : Nat) (S : VS) (th : Int32) (ri : Int32) (my : Nat → Int32) (qu : Nat → Int32) (k : Nat) (hM : RepM (vq S) my qu) (hQ : Qk (vs S) (vq S)) (hn : vs S ≤ 8) (hk8 : k < 8) : Ct l yX4_towAt wsX4_towAt { frames := 0, cells := 0, slots := 0, locals := 0 } D (ty2 cI cL) [.ref (a o), .int (nI k)] (wMo cI a om th (vA S 0) (vA S 1) (vr S) (vA S 3) (vA S 4) (vs S) (vA S 7) ++ (wMS cI a o (a om) (vh S) (vc S) ri (vA S 5) (vA S 6) (vA S 8) (vA S 9) (vA S 10) (vA S 11) (vA S 12) (vA S 2) my qu)) (fun v w' => v = some (.int (towQ (vq S) k)) ∧ w' = wMo cI a om th (vA S 0) (vA S 1) (vr S) (vA S 3) (vA S 4) (vs S) (vA S 7) ++ (wMS cI a o (a om) (vh S) (vc S) ri (vA S 5) (vA S 6) (vA S 8) (vA S 9) (vA S 10) (vA S 11) (vA S 12) (vA S 2) my qu)) 0 0 := by
  refine Ct.of (cc := cX4_towAt) (maxL := 4) (ret := (some .int)) (by decide) rfl (Nat.le_of_ble_eq_true rfl) ?_
  intro p e s m below meth c A ls CX hin HW hl
  obtain ⟨hx, hb, hml, hr, hown, hts, hK, hA, hlk⟩ := id CX
  have hl : lv_has ls 4 [(0, .ref (a o)), (1, .int (nI k))] := hl
  have lp2 : ∀ (d2 : Nat) (t : Nat), 3 - t = d2 → (t ≤ 3) → (∀ z, z < t → k ∉ vq S z) → ∀ (H : Heap) (locs : List Loc) (ls : Array Slot), Hw D A s (wMo cI a om th (vA S 0) (vA S 1) (vr S) (vA S 3) (vA S 4) (vs S) (vA S 7) ++ (wMS cI a o (a om) (vh S) (vc S) ri (vA S 5) (vA S 6) (vA S 8) (vA S 9) (vA S 10) (vA S 11) (vA S 12) (vA S 2) my qu)) H locs → lv_has ls 4 [(2, .int (nI t)), (1, .int (nI k)), (0, .ref (a o))] → W p l e ({ frames := 0, cells := 0, slots := 0, locals := 0 } : Room) s m ([.ref (a o), .int (nI k)] : List Value).toArray below meth c H locs 0 0 (MQ below (cQ D A (fun v w' => v = some (.int (towQ (vq S) k)) ∧ w' = wMo cI a om th (vA S 0) (vA S 1) (vr S) (vA S 3) (vA S 4) (vs S) (vA S 7) ++ (wMS cI a o (a om) (vh S) (vc S) ri (vA S 5) (vA S 6) (vA S 8) (vA S 9) (vA S 10) (vA S 11) (vA S 12) (vA S 2) my qu))) ([.ref (a o), .int (nI k)] : List Value).toArray s 0 0 A) (F0 m 2 ls []) := by
    intro d2
    induction d2 using Nat.strongRecOn with
    | _ d2 ih2 =>
      intro t hd2 ht3 hno H locs ls HW hl
      refine lv_iload_n hx hb dX4_towAt_2 rfl (lv_at hl 0 rfl) ?_
      refine lv_iconst (v := 3) hx hb dX4_towAt_3 (by decide) ?_
      refine lv_icmp_ge (tgt := 48) hx hb dX4_towAt_4 (by decide) (fun c4 => ?_) (fun c4 => ?_)
      · have c4 : 3 ≤ t := (nI_leI (a := 3) (b := t) (by decide) (by omega)).mp c4
        refine lv_iconst (v := (-1)) hx hb dX4_towAt_48 (by decide) ?_
        exact g_iret CX HW rfl ⟨by rw [towQ_not (fun z hz => hno z (by omega))], rfl⟩ dX4_towAt_49
      · have ht : t < 3 := nI_lt_of (a := 3) (b := t) (by decide) (by omega) c4
        have hlen := (hM t ht).2
        have lp9 : ∀ (d9 : Nat) (j : Nat), (vq S t).length - j = d9 → (j ≤ (vq S t).length) → (∀ z, z < j → ¬ (vq S t)[z]? = some k) → ∀ (H : Heap) (locs : List Loc) (ls : Array Slot), Hw D A s (wMo cI a om th (vA S 0) (vA S 1) (vr S) (vA S 3) (vA S 4) (vs S) (vA S 7) ++ (wMS cI a o (a om) (vh S) (vc S) ri (vA S 5) (vA S 6) (vA S 8) (vA S 9) (vA S 10) (vA S 11) (vA S 12) (vA S 2) my qu)) H locs → lv_has ls 4 [(3, .int (nI j)), (2, .int (nI t)), (1, .int (nI k)), (0, .ref (a o))] → W p l e ({ frames := 0, cells := 0, slots := 0, locals := 0 } : Room) s m ([.ref (a o), .int (nI k)] : List Value).toArray below meth c H locs 0 0 (MQ below (cQ D A (fun v w' => v = some (.int (towQ (vq S) k)) ∧ w' = wMo cI a om th (vA S 0) (vA S 1) (vr S) (vA S 3) (vA S 4) (vs S) (vA S 7) ++ (wMS cI a o (a om) (vh S) (vc S) ri (vA S 5) (vA S 6) (vA S 8) (vA S 9) (vA S 10) (vA S 11) (vA S 12) (vA S 2) my qu))) ([.ref (a o), .int (nI k)] : List Value).toArray s 0 0 A) (F0 m 9 ls []) := by
          intro d9
          induction d9 using Nat.strongRecOn with
          | _ d9 ih9 =>
            intro j hd9 hj hnj H locs ls HW hl
            refine lv_iload_n hx hb dX4_towAt_9 rfl (lv_at hl 0 rfl) ?_
            refine lv_aload_n hx hb dX4_towAt_10 rfl (lv_at hl 3 rfl) ?_
            refine g_get CX HW in_X4_towAt_4 6 11 rfl rfl (Nat.le_of_ble_eq_true rfl) fl_X4_towAt_40 rfl dX4_towAt_11 ?_
            refine lv_iload_n hx hb dX4_towAt_14 rfl (lv_at hl 1 rfl) ?_
            refine g_ald CX HW 15 (k := t) rfl rfl rfl (by omega) (Nat.le_of_ble_eq_true rfl) dX4_towAt_15 ?_
            refine g_top (y := (nI (vq S t).length)) (hM t ht).1.1 ?_
            refine lv_icmp_ge (tgt := 42) hx hb dX4_towAt_16 (by decide) (fun c16 => ?_) (fun c16 => ?_)
            · have c16 := (nI_leI (by omega) (by omega)).mp c16
              obtain rfl : j = (vq S t).length := by omega
              refine lv_iinc (v := (nI (t + 1))) (lv' := [(2, .int (nI (t + 1))), (3, .int (nI ((vq S t).length))), (1, .int (nI k)), (0, .ref (a o))]) hx hb dX4_towAt_42 hl (k := 1) rfl (inc1 _) (Nat.le_of_ble_eq_true rfl) rfl (fun ls hl => ?_)
              refine lv_goto (tgt := 2) hx hb dX4_towAt_45 (by decide) ?_
              exact ih2 _ (by omega) (t + 1) rfl (by omega) (fun z hz h9 => by by_cases hz9 : z = t; (· subst hz9; obtain ⟨i9, hi9⟩ := List.getElem?_of_mem h9; exact hnj i9 (List.getElem?_eq_some_iff.mp hi9).1 hi9); (· exact hno z (by omega) h9)) _ _ _ HW (lv_sub hl [0, 2, 3] rfl)
            · have c16 : j < (vq S t).length := nI_lt_of (by omega) (by omega) c16
              obtain ⟨y, hy⟩ : ∃ y, (vq S t)[j]? = some y := ⟨_, List.getElem?_eq_getElem c16⟩
              have hy8 : y < vs S := hQ t ht y (List.mem_of_getElem? hy)
              refine lv_aload_n hx hb dX4_towAt_19 rfl (lv_at hl 3 rfl) ?_
              refine g_get CX HW in_X4_towAt_4 6 12 rfl rfl (Nat.le_of_ble_eq_true rfl) fl_X4_towAt_43 rfl dX4_towAt_20 ?_
              refine lv_bipush (v := 8) hx hb dX4_towAt_23 (by decide) ?_
              refine lv_iload_n hx hb dX4_towAt_25 rfl (lv_at hl 1 rfl) ?_
              refine lv_imul hx hb dX4_towAt_26 ?_
              refine g_top (y := (nI (8 * t))) (pk_mul 8 t) ?_
              refine lv_iload_n hx hb dX4_towAt_27 rfl (lv_at hl 0 rfl) ?_
              refine lv_iadd hx hb dX4_towAt_28 ?_
              refine g_top (y := (nI (8 * t + j))) (nI_add _ _) ?_
              refine g_ald CX HW 16 (k := (8 * t + j)) rfl rfl rfl (by omega) (Nat.le_of_ble_eq_true rfl) dX4_towAt_29 ?_
              refine g_top (y := (nI y)) ((hM t ht).1.2 j y hy) ?_
              refine lv_iload_n hx hb dX4_towAt_30 rfl (lv_at hl 2 rfl) ?_
              refine lv_icmp_ne (tgt := 36) hx hb dX4_towAt_31 (by decide) (fun c31 => ?_) (fun c31 => ?_)
              · have c31 : ¬ y = k := fun h9 => c31 (by rw [h9])
                refine lv_iinc (v := (nI (j + 1))) (lv' := [(3, .int (nI (j + 1))), (2, .int (nI t)), (1, .int (nI k)), (0, .ref (a o))]) hx hb dX4_towAt_36 hl (k := 0) rfl (inc1 _) (Nat.le_of_ble_eq_true rfl) rfl (fun ls hl => ?_)
                refine lv_goto (tgt := 9) hx hb dX4_towAt_39 (by decide) ?_
                exact ih9 _ (by omega) (j + 1) rfl (by omega) (fun z hz h9 => by by_cases hz9 : z = j; (· subst hz9; rw [hy] at h9; exact c31 (Option.some.inj h9)); (· exact hnj z (by omega) h9)) _ _ _ HW (lv_sub hl [0, 1, 2, 3] rfl)
              · have c31 : y = k := nI_inj (by omega) (by omega) c31
                refine lv_iload_n hx hb dX4_towAt_34 rfl (lv_at hl 1 rfl) ?_
                exact g_iret CX HW rfl ⟨by rw [towQ_is ht (List.mem_of_getElem? (c31 ▸ hy)) hno], rfl⟩ dX4_towAt_35
        refine lv_iconst (v := 0) hx hb dX4_towAt_7 (by decide) ?_
        refine lv_istore_n (lv' := [(3, .int (0 : Int32)), (2, .int (nI t)), (1, .int (nI k)), (0, .ref (a o))]) hx hb dX4_towAt_8 rfl hl (Nat.le_of_ble_eq_true rfl) rfl (fun ls hl => ?_)
        exact lp9 _ 0 rfl (by omega) (fun z hz => absurd hz (Nat.not_lt_zero z)) _ _ _ HW (lv_sub hl [0, 1, 2, 3] rfl)
  refine lv_iconst (v := 0) hx hb dX4_towAt_0 (by decide) ?_
  refine lv_istore_n (lv' := [(2, .int (0 : Int32)), (0, .ref (a o)), (1, .int (nI k))]) hx hb dX4_towAt_1 rfl hl (Nat.le_of_ble_eq_true rfl) rfl (fun ls hl => ?_)
  exact lp2 _ 0 rfl (by omega) (fun z hz => absurd hz (Nat.not_lt_zero z)) _ _ _ HW (lv_sub hl [0, 2, 1] rfl)

theorem hd_X4_leave : yX4_leave.cls ≠ "java/lang/invoke/MethodHandle" ∧ yX4_leave.cls ≠ "java/lang/invoke/VarHandle" ∧ (parseMethodDescriptor yX4_leave.desc).map (fun d => d.parameters.length) = some 1 := by decide +kernel
theorem fl_X4_leave_43 : Cond.fieldLink RX4 43 (TX4 12).1 (TX4 12).2.1 (TX4 12).2.2.1 ∈ wsX4_leave := by decide +kernel
theorem in_X4_leave_4 : ∀ x ∈ u_ws RX4 TX4 14, x ∈ wsX4_leave := by decide +kernel
set_option maxRecDepth 100000 in
set_option maxHeartbeats 4000000 in
theorem c_X4_leave {l : Launch} {D : va_G} {cI cL : ClassId} {a : Nat → Nat} (om : Nat) (o : Nat) (S : VS) (th : Int32) (ri : Int32) (my : Nat → Int32) (qu : Nat → Int32) (k : Nat) (hM : RepM (vq S) my qu) (hQ : Qk (vs S) (vq S)) (hn : vs S ≤ 8) (hk8 : k < 8) (hU : QU (vq S)) : Ct l yX4_leave wsX4_leave { frames := 1, cells := 0, slots := 0, locals := 25 } D (ty2 cI cL) [.ref (a o), .int (nI k)] (wMo cI a om th (vA S 0) (vA S 1) (vr S) (vA S 3) (vA S 4) (vs S) (vA S 7) ++ (wMS cI a o (a om) (vh S) (vc S) ri (vA S 5) (vA S 6) (vA S 8) (vA S 9) (vA S 10) (vA S 11) (vA S 12) (vA S 2) my qu)) (fun v w' => ∃ (my' : Nat → Int32) (qu' : Nat → Int32), (RepM (takeQ (vq S) k) my' qu') ∧ v = some (.int (bI (inQ (vq S) k))) ∧ w' = wMo cI a om th (vA S 0) (vA S 1) (vr S) (vA S 3) (vA S 4) (vs S) (vA S 7) ++ (wMS cI a o (a om) (vh S) (vc S) ri (vA S 5) (vA S 6) (vA S 8) (vA S 9) (vA S 10) (vA S 11) (vA S 12) (vA S 2) my' qu')) 0 0 := by
  refine Ct.of (cc := cX4_leave) (maxL := 4) (ret := (some .boolean)) (by decide) rfl (Nat.le_of_ble_eq_true rfl) ?_
  intro p e s m below meth c A ls CX hin HW hl
  obtain ⟨hx, hb, hml, hr, hown, hts, hK, hA, hlk⟩ := id CX
  have hl : lv_has ls 4 [(0, .ref (a o)), (1, .int (nI k))] := hl
  refine lv_aload_n hx hb dX4_leave_0 rfl (lv_at hl 0 rfl) ?_
  refine lv_iload_n hx hb dX4_leave_1 rfl (lv_at hl 1 rfl) ?_
  refine g_callV CX HW hl.1 ([]) ([]) (c_X4_towAt om o S th ri my qu k hM hQ hn hk8) rfl 6 rfl rfl gX4_leave_X4_towAt rfl ⟨rfl, hd_X4_towAt⟩ ⟨rfl, rfl, (Nat.le_of_ble_eq_true rfl), (Nat.le_of_ble_eq_true rfl)⟩ ⟨(Nat.zero_le _), (Nat.zero_le _)⟩ rfl rfl (Nat.le_of_ble_eq_true rfl) dX4_leave_2 (fun v w1 H locs hp HW => ?_)
  obtain ⟨rfl, rfl⟩ := hp
  have HW : Hw D A s (wMo cI a om th (vA S 0) (vA S 1) (vr S) (vA S 3) (vA S 4) (vs S) (vA S 7) ++ (wMS cI a o (a om) (vh S) (vc S) ri (vA S 5) (vA S 6) (vA S 8) (vA S 9) (vA S 10) (vA S 11) (vA S 12) (vA S 2) my qu)) H locs := HW
  refine W.eq (g2 := F0 m 5 ls [.int (towQ (vq S) k)]) rfl ?_
  rcases towQ_cases (vq S) k with ⟨hno, he⟩ | ⟨t, p9, ht, hp, he, hfirst⟩
  · refine g_top he ?_
    refine lv_istore_n (lv' := [(2, .int (-1 : Int32)), (0, .ref (a o)), (1, .int (nI k))]) hx hb dX4_leave_5 rfl hl (Nat.le_of_ble_eq_true rfl) rfl (fun ls hl => ?_)
    refine lv_iload_n hx hb dX4_leave_6 rfl (lv_at hl 0 rfl) ?_
    refine lv_iconst (v := (-1)) hx hb dX4_leave_7 (by decide) ?_
    refine lv_icmp_ne (tgt := 13) hx hb dX4_leave_8 (by decide) (fun c8 => ?_) (fun c8 => ?_)
    · exact absurd c8 (by decide)
    · refine lv_iconst (v := 0) hx hb dX4_leave_11 (by decide) ?_
      exact g_zret CX HW rfl (Or.inl rfl) ⟨my, qu, by rw [takeQ_no hno]; exact hM, pI_f (fun h9 => by rcases h9 with h9 | h9 | h9; (· exact hno 0 (by decide) h9); (· exact hno 1 (by decide) h9); (· exact hno 2 (by decide) h9)), rfl⟩ dX4_leave_12
  · refine g_top he ?_
    have hlen := (hM t ht).2
    have hp9 := (List.getElem?_eq_some_iff.mp hp).1
    refine lv_istore_n (lv' := [(2, .int (nI t)), (0, .ref (a o)), (1, .int (nI k))]) hx hb dX4_leave_5 rfl hl (Nat.le_of_ble_eq_true rfl) rfl (fun ls hl => ?_)
    refine lv_iload_n hx hb dX4_leave_6 rfl (lv_at hl 0 rfl) ?_
    refine lv_iconst (v := (-1)) hx hb dX4_leave_7 (by decide) ?_
    refine lv_icmp_ne (tgt := 13) hx hb dX4_leave_8 (by decide) (fun c8 => ?_) (fun c8 => ?_)
    · have lp15 : ∀ (d0 : Nat) (j : Nat), p9 - j = d0 → (j ≤ p9) → ∀ (H : Heap) (locs : List Loc) (ls : Array Slot), Hw D A s (wMo cI a om th (vA S 0) (vA S 1) (vr S) (vA S 3) (vA S 4) (vs S) (vA S 7) ++ (wMS cI a o (a om) (vh S) (vc S) ri (vA S 5) (vA S 6) (vA S 8) (vA S 9) (vA S 10) (vA S 11) (vA S 12) (vA S 2) my qu)) H locs → lv_has ls 4 [(3, .int (nI j)), (2, .int (nI t)), (1, .int (nI k)), (0, .ref (a o))] → W p l e ({ frames := 1, cells := 0, slots := 0, locals := 25 } : Room) s m ([.ref (a o), .int (nI k)] : List Value).toArray below meth c H locs 0 0 (MQ below (cQ D A (fun v w' => ∃ (my' : Nat → Int32) (qu' : Nat → Int32), (RepM (takeQ (vq S) k) my' qu') ∧ v = some (.int (bI (inQ (vq S) k))) ∧ w' = wMo cI a om th (vA S 0) (vA S 1) (vr S) (vA S 3) (vA S 4) (vs S) (vA S 7) ++ (wMS cI a o (a om) (vh S) (vc S) ri (vA S 5) (vA S 6) (vA S 8) (vA S 9) (vA S 10) (vA S 11) (vA S 12) (vA S 2) my' qu'))) ([.ref (a o), .int (nI k)] : List Value).toArray s 0 0 A) (F0 m 15 ls []) := by
        intro d0
        induction d0 using Nat.strongRecOn with
        | _ d0 ih =>
          intro j hd0 hj H locs ls HW hl
          obtain ⟨y, hy⟩ : ∃ y, (vq S t)[j]? = some y := ⟨_, List.getElem?_eq_getElem (by omega)⟩
          have hy8 : y < vs S := hQ t ht y (List.mem_of_getElem? hy)
          refine lv_aload_n hx hb dX4_leave_15 rfl (lv_at hl 3 rfl) ?_
          refine g_get CX HW in_X4_leave_4 6 12 rfl rfl (Nat.le_of_ble_eq_true rfl) fl_X4_leave_43 rfl dX4_leave_16 ?_
          refine lv_bipush (v := 8) hx hb dX4_leave_19 (by decide) ?_
          refine lv_iload_n hx hb dX4_leave_21 rfl (lv_at hl 1 rfl) ?_
          refine lv_imul hx hb dX4_leave_22 ?_
          refine g_top (y := (nI (8 * t))) (pk_mul 8 t) ?_
          refine lv_iload_n hx hb dX4_leave_23 rfl (lv_at hl 0 rfl) ?_
          refine lv_iadd hx hb dX4_leave_24 ?_
          refine g_top (y := (nI (8 * t + j))) (nI_add _ _) ?_
          refine g_ald CX HW 16 (k := (8 * t + j)) rfl rfl rfl (by omega) (Nat.le_of_ble_eq_true rfl) dX4_leave_25 ?_
          refine g_top (y := (nI y)) ((hM t ht).1.2 j y hy) ?_
          refine lv_iload_n hx hb dX4_leave_26 rfl (lv_at hl 2 rfl) ?_
          refine lv_icmp_eq (tgt := 36) hx hb dX4_leave_27 (by decide) (fun c27 => ?_) (fun c27 => ?_)
          · have c27 : y = k := nI_inj (by omega) (by omega) c27
            subst c27
            have hj9 : j = p9 := by
              rcases Nat.lt_or_ge j p9 with h9 | h9
              · exact absurd hy (hfirst j h9)
              · omega
            refine lv_aload_n hx hb dX4_leave_36 rfl (lv_at hl 3 rfl) ?_
            refine lv_iload_n hx hb dX4_leave_37 rfl (lv_at hl 1 rfl) ?_
            refine lv_iload_n hx hb dX4_leave_38 rfl (lv_at hl 0 rfl) ?_
            refine g_callV CX HW hl.1 ([]) ([]) (c_X4_out om o S th ri my qu t j (vq S) y ht hM hy) rfl 6 rfl rfl gX4_leave_X4_out rfl ⟨rfl, hd_X4_out⟩ ⟨rfl, rfl, (Nat.le_of_ble_eq_true rfl), (Nat.le_of_ble_eq_true rfl)⟩ ⟨(Nat.zero_le _), (Nat.zero_le _)⟩ rfl rfl (Nat.le_of_ble_eq_true rfl) dX4_leave_39 (fun v w1 H locs hp HW => ?_)
            obtain ⟨my'_1, qu'_1, hM9_1, rfl, rfl⟩ := hp
            have HW : Hw D A s (wMo cI a om th (vA S 0) (vA S 1) (vr S) (vA S 3) (vA S 4) (vs S) (vA S 7) ++ (wMS cI a o (a om) (vh S) (vc S) ri (vA S 5) (vA S 6) (vA S 8) (vA S 9) (vA S 10) (vA S 11) (vA S 12) (vA S 2) my'_1 qu'_1)) H locs := HW
            refine W.eq (g2 := F0 m 42 ls [.int (nI y)]) rfl ?_
            refine lv_pop hx hb dX4_leave_42 rfl ?_
            refine lv_iconst (v := 1) hx hb dX4_leave_43 (by decide) ?_
            exact g_zret CX HW rfl (Or.inr rfl) ⟨_, _, by rw [takeQ_at hU ht hy]; exact hM9_1, pI_t (inQ_of ht (List.mem_of_getElem? hy)), rfl⟩ dX4_leave_44
          · have c27 : ¬ y = k := fun h9 => c27 (by rw [h9])
            have hj9 : j < p9 := by
              rcases Nat.lt_or_ge j p9 with h9 | h9
              · exact h9
              · exact absurd (by rw [show j = p9 by omega, hp] at hy; exact (Option.some.inj hy).symm) c27
            refine lv_iinc (v := (nI (j + 1))) (lv' := [(3, .int (nI (j + 1))), (2, .int (nI t)), (1, .int (nI k)), (0, .ref (a o))]) hx hb dX4_leave_30 hl (k := 0) rfl (inc1 _) (Nat.le_of_ble_eq_true rfl) rfl (fun ls hl => ?_)
            refine lv_goto (tgt := 15) hx hb dX4_leave_33 (by decide) ?_
            exact ih _ (by omega) (j + 1) rfl (by omega) _ _ _ HW (lv_sub hl [0, 1, 2, 3] rfl)
      refine lv_iconst (v := 0) hx hb dX4_leave_13 (by decide) ?_
      refine lv_istore_n (lv' := [(3, .int (0 : Int32)), (2, .int (nI t)), (0, .ref (a o)), (1, .int (nI k))]) hx hb dX4_leave_14 rfl hl (Nat.le_of_ble_eq_true rfl) rfl (fun ls hl => ?_)
      exact lp15 _ 0 rfl (by omega) _ _ _ HW (lv_sub hl [0, 1, 3, 2] rfl)
    · exact absurd c8 (nI_nm1 (by omega))
