theorem dec1 (n : Nat) : nI (n + 1) + Int32.ofInt (-1) = nI n := pk_m1 n
theorem setQ_at (q : Nat → List Nat) (t : Nat) (x : List Nat) : setQ q t x t = x := by simp [setQ]
theorem purse_ge {T : VS} (h : Inv T) {k : Nat} (hk : k < vs T) (hc : ¬ vA T 8 k = 0) : ¬ vA T 8 k < 1 := by
  obtain ⟨z, h1, h2⟩ := (h.2.2.2.2.2 k hk).2.1
  rw [h2] at hc ⊢
  intro h3
  have h4 : z < 1 := (nI_ltI (a := z) (b := 1) (by omega) (by decide)).mp h3
  exact hc (by rw [show z = 0 by omega]; rfl)
theorem Qk_ride {T : VS} {t k : Nat} {rest : List Nat} (ht : t < 3) (hq : vq T t = k :: rest) (h : Qk (vs T) (vq T)) : Qk (vs (quS (skiS t k (payS t k (quS T t rest))) t (rest ++ [k]))) (vq (quS (skiS t k (payS t k (quS T t rest))) t (rest ++ [k]))) := by
  show Qk (vs (skiS t k (payS t k (quS T t rest)))) (setQ (vq (skiS t k (payS t k (quS T t rest)))) t (rest ++ [k]))
  rw [vs_ride, vq_ride]
  have hr : ∀ j, j ∈ rest → j < vs T := fun j hj => h t ht j (by rw [hq]; exact List.mem_cons_of_mem _ hj)
  refine Qk_set (Qk_set h hr) (fun j hj => ?_)
  rcases List.mem_append.mp hj with h5 | h5
  · exact hr j h5
  · rw [List.mem_singleton.mp h5]; exact h t ht k (by rw [hq]; exact List.mem_cons_self)
theorem sumP_ride {T : VS} {t k : Nat} {x y : List Nat} (ht : t < 3) : sumP (quS (skiS t k (payS t k (quS T t x))) t y) = sumP T + 1 := by
  show 0 + vA (skiS t k (payS t k (quS T t x))) 2 0 + vA (skiS t k (payS t k (quS T t x))) 2 1 + vA (skiS t k (payS t k (quS T t x))) 2 2 = sumP T + 1
  rw [vA_skiS (by decide)]
  show 0 + upd (vA T 2) t (vA T 2 t + 1) 0 + upd (vA T 2) t (vA T 2 t + 1) 1 + upd (vA T 2) t (vA T 2 t + 1) 2 = 0 + vA T 2 0 + vA T 2 1 + vA T 2 2 + 1
  rcases (by omega : t = 0 ∨ t = 1 ∨ t = 2) with rfl | rfl | rfl
  · rw [pk_us, pk_un (by decide), pk_un (by decide)]; ac_rfl
  · rw [pk_us, pk_un (by decide), pk_un (by decide)]; ac_rfl
  · rw [pk_us, pk_un (by decide), pk_un (by decide)]; ac_rfl
theorem hwm_inc {cI : ClassId} {a : Nat → Nat} {om o : Nat} {th : Int32} {my qu : Nat → Int32} (S : VS) : wMo cI a om th (vA S 0) (vA S 1) (vr S) (vA S 3) (vA S 4) (vs S) (vA S 7) ++ (wMS cI a o (a om) (vh S + 1) (vc S) (sumP S) (vA S 5) (vA S 6) (vA S 8) (vA S 9) (vA S 10) (vA S 11) (vA S 12) (vA S 2) my qu) = wMo cI a om th (vA (incS S) 0) (vA (incS S) 1) (vr (incS S)) (vA (incS S) 3) (vA (incS S) 4) (vs (incS S)) (vA (incS S) 7) ++ (wMS cI a o (a om) (vh (incS S)) (vc (incS S)) (sumP (incS S)) (vA (incS S) 5) (vA (incS S) 6) (vA (incS S) 8) (vA (incS S) 9) (vA (incS S) 10) (vA (incS S) 11) (vA (incS S) 12) (vA (incS S) 2) my qu) := rfl
theorem hd_X4_pull : yX4_pull.cls ≠ "java/lang/invoke/MethodHandle" ∧ yX4_pull.cls ≠ "java/lang/invoke/VarHandle" ∧ (parseMethodDescriptor yX4_pull.desc).map (fun d => d.parameters.length) = some 1 := by decide +kernel
theorem fl_X4_pull_22 : Cond.fieldLink RX4 22 (TX4 5).1 (TX4 5).2.1 (TX4 5).2.2.1 ∈ wsX4_pull := by decide +kernel
theorem in_X4_pull_4 : ∀ x ∈ u_ws RX4 TX4 14, x ∈ wsX4_pull := by decide +kernel
theorem fl_X4_pull_50 : Cond.fieldLink RX4 50 (TX4 1).1 (TX4 1).2.1 (TX4 1).2.2.1 ∈ wsX4_pull := by decide +kernel
theorem fl_X4_pull_34 : Cond.fieldLink RX4 34 (TX4 9).1 (TX4 9).2.1 (TX4 9).2.2.1 ∈ wsX4_pull := by decide +kernel
theorem fl_X4_pull_53 : Cond.fieldLink RX4 53 (TX4 2).1 (TX4 2).2.1 (TX4 2).2.2.1 ∈ wsX4_pull := by decide +kernel
theorem fl_X4_pull_37 : Cond.fieldLink RX4 37 (TX4 10).1 (TX4 10).2.1 (TX4 10).2.2.1 ∈ wsX4_pull := by decide +kernel
theorem fl_X4_pull_40 : Cond.fieldLink RX4 40 (TX4 11).1 (TX4 11).2.1 (TX4 11).2.2.1 ∈ wsX4_pull := by decide +kernel
theorem fl_X4_pull_3 : Cond.fieldLink RX4 3 (TX4 13).1 (TX4 13).2.1 (TX4 13).2.2.1 ∈ wsX4_pull := by decide +kernel
theorem in_X4_pull_5 : ∀ x ∈ u_ws RX5 TX5 10, x ∈ wsX4_pull := by decide +kernel
set_option maxRecDepth 100000 in
set_option maxHeartbeats 4000000 in
theorem c_X4_pull {l : Launch} {D : va_G} {cI cL : ClassId} {a : Nat → Nat} (om : Nat) (o : Nat) (S : VS) (th : Int32) (my : Nat → Int32) (qu : Nat → Int32) (t : Nat) (hI : Inv S) (hQ : Qk (vs S) (vq S)) (hM : RepM (vq S) my qu) (ht : t < 3) (hh : vh S < 2 ^ 31) : Ct l yX4_pull wsX4_pull { frames := 3, cells := 0, slots := 0, locals := 69 } D (ty2 cI cL) [.ref (a o), .int (nI t)] (wMo cI a om th (vA S 0) (vA S 1) (vr S) (vA S 3) (vA S 4) (vs S) (vA S 7) ++ (wMS cI a o (a om) (vh S) (vc S) (sumP S) (vA S 5) (vA S 6) (vA S 8) (vA S 9) (vA S 10) (vA S 11) (vA S 12) (vA S 2) my qu)) (fun v w' => ∃ (my' : Nat → Int32) (qu' : Nat → Int32), (RepM (vq (pullS t S)) my' qu') ∧ v = none ∧ w' = wMo cI a om th (vA (pullS t S) 0) (vA (pullS t S) 1) (vr (pullS t S)) (vA (pullS t S) 3) (vA (pullS t S) 4) (vs (pullS t S)) (vA (pullS t S) 7) ++ (wMS cI a o (a om) (vh (pullS t S)) (vc (pullS t S)) (sumP (pullS t S)) (vA (pullS t S) 5) (vA (pullS t S) 6) (vA (pullS t S) 8) (vA (pullS t S) 9) (vA (pullS t S) 10) (vA (pullS t S) 11) (vA (pullS t S) 12) (vA (pullS t S) 2) my' qu')) 0 0 := by
  refine Ct.of (cc := cX4_pull) (maxL := 5) (ret := none) (by decide) rfl (Nat.le_of_ble_eq_true rfl) ?_
  intro p e s m below meth c A ls CX hin HW hl
  obtain ⟨hx, hb, hml, hr, hown, hts, hK, hA, hlk⟩ := id CX
  have hl : lv_has ls 5 [(0, .ref (a o)), (1, .int (nI t))] := hl
  obtain ⟨P, hP1, hP4, hP⟩ := hI.2.2.2.1 t ht
  have loop : ∀ (d0 : Nat) (T : VS) (my : Nat → Int32) (qu : Nat → Int32) (j : Nat) (r : Nat), j = d0 → (pullN t j r T = pullS t S) → (j ≤ 8) → (r ≤ 4) → (j ≤ (vq T t).length) → (Inv T) → (Qk (vs T) (vq T)) → (RepM (vq T) my qu) → (vh T < 2 ^ 31) → ∀ (H : Heap) (locs : List Loc) (ls : Array Slot), Hw D A s (wMo cI a om th (vA T 0) (vA T 1) (vr T) (vA T 3) (vA T 4) (vs T) (vA T 7) ++ (wMS cI a o (a om) (vh T) (vc T) (sumP T) (vA T 5) (vA T 6) (vA T 8) (vA T 9) (vA T 10) (vA T 11) (vA T 12) (vA T 2) my qu)) H locs → lv_has ls 5 [(3, .int (nI r)), (2, .int (nI j)), (1, .int (nI t)), (0, .ref (a o))] → W p l e ({ frames := 3, cells := 0, slots := 0, locals := 69 } : Room) s m ([.ref (a o), .int (nI t)] : List Value).toArray below meth c H locs 0 0 (MQ below (cQ D A (fun v w' => ∃ (my' : Nat → Int32) (qu' : Nat → Int32), (RepM (vq (pullS t S)) my' qu') ∧ v = none ∧ w' = wMo cI a om th (vA (pullS t S) 0) (vA (pullS t S) 1) (vr (pullS t S)) (vA (pullS t S) 3) (vA (pullS t S) 4) (vs (pullS t S)) (vA (pullS t S) 7) ++ (wMS cI a o (a om) (vh (pullS t S)) (vc (pullS t S)) (sumP (pullS t S)) (vA (pullS t S) 5) (vA (pullS t S) 6) (vA (pullS t S) 8) (vA (pullS t S) 9) (vA (pullS t S) 10) (vA (pullS t S) 11) (vA (pullS t S) 12) (vA (pullS t S) 2) my' qu'))) ([.ref (a o), .int (nI t)] : List Value).toArray s 0 0 A) (F0 m 17 ls []) := by
    intro d0
    induction d0 using Nat.strongRecOn with
    | _ d0 ih =>
      intro T my qu j r hd0 hTT hj8 hr4 hlen hIT hQT hM hhT H locs ls HW hl
      refine lv_iload_n hx hb dX4_pull_17 rfl (lv_at hl 1 rfl) ?_
      refine lv_if_le (tgt := 121) hx hb dX4_pull_18 (by decide) (fun c18 => ?_) (fun c18 => ?_)
      · have c18 : j = 0 := by have h9 := (nI_leI (a := j) (b := 0) (by omega) (by decide)).mp c18; omega
        exact g_vret CX HW rfl ⟨my, qu, by subst c18; rw [← hTT]; exact hM, rfl, by subst c18; rw [← hTT]; rfl⟩ dX4_pull_121
      · have c18 : 0 < j := nI_lt_of (a := j) (b := 0) (by omega) (by decide) c18
        refine lv_iload_n hx hb dX4_pull_21 rfl (lv_at hl 0 rfl) ?_
        refine lv_if_le (tgt := 121) hx hb dX4_pull_22 (by decide) (fun c22 => ?_) (fun c22 => ?_)
        · have c22 : r = 0 := by have h9 := (nI_leI (a := r) (b := 0) (by omega) (by decide)).mp c22; omega
          exact g_vret CX HW rfl ⟨my, qu, by subst c22; rw [pullN_p0] at hTT; rw [← hTT]; exact hM, rfl, by subst c22; rw [pullN_p0] at hTT; rw [← hTT]⟩ dX4_pull_121
        · have c22 : 0 < r := nI_lt_of (a := r) (b := 0) (by omega) (by decide) c22
          obtain ⟨j, rfl⟩ : ∃ z, j = z + 1 := ⟨j - 1, by omega⟩
          obtain ⟨r, rfl⟩ : ∃ z, r = z + 1 := ⟨r - 1, by omega⟩
          obtain ⟨k, rest, hq⟩ : ∃ k rest, vq T t = k :: rest := by
            cases hq9 : vq T t with
            | nil => rw [hq9] at hlen; simp only [List.length_nil] at hlen; omega
            | cons k rest => exact ⟨k, rest, rfl⟩
          have hk : k < vs T := hQT t ht k (by rw [hq]; exact List.mem_cons_self)
          have hk8 : k < 8 := Nat.lt_of_lt_of_le hk hIT.2.1
          have hrest : ∀ z, z ∈ rest → z < vs T := fun z hz => hQT t ht z (by rw [hq]; exact List.mem_cons_of_mem _ hz)
          · refine lv_aload_n hx hb dX4_pull_25 rfl (lv_at hl 3 rfl) ?_
            refine lv_iload_n hx hb dX4_pull_26 rfl (lv_at hl 2 rfl) ?_
            refine lv_iconst (v := 0) hx hb dX4_pull_27 (by decide) ?_
            refine g_callV CX HW hl.1 ([]) ([]) (c_X4_out om o T th (sumP T) my qu t 0 (vq T) k ht hM (by rw [hq]; rfl)) rfl 6 rfl rfl gX4_pull_X4_out rfl ⟨rfl, hd_X4_out⟩ ⟨rfl, rfl, (Nat.le_of_ble_eq_true rfl), (Nat.le_of_ble_eq_true rfl)⟩ ⟨(Nat.zero_le _), (Nat.zero_le _)⟩ rfl rfl (Nat.le_of_ble_eq_true rfl) dX4_pull_28 (fun v w1 H locs hp HW => ?_)
            obtain ⟨my'_1, qu'_1, hM9_1, rfl, rfl⟩ := hp
            have HW : Hw D A s (wMo cI a om th (vA T 0) (vA T 1) (vr T) (vA T 3) (vA T 4) (vs T) (vA T 7) ++ (wMS cI a o (a om) (vh T) (vc T) (sumP T) (vA T 5) (vA T 6) (vA T 8) (vA T 9) (vA T 10) (vA T 11) (vA T 12) (vA T 2) my'_1 qu'_1)) H locs := HW
            refine W.eq (g2 := F0 m 31 ls [.int (nI k)]) rfl ?_
            have hM2 : RepM (setQ (vq T) t rest) my'_1 qu'_1 := by
              have h9 := hM9_1
              rw [hq] at h9; exact h9
            refine lv_istore (lv' := [(4, .int (nI k)), (3, .int (nI (r + 1))), (2, .int (nI (j + 1))), (1, .int (nI t)), (0, .ref (a o))]) hx hb dX4_pull_31 hl (Nat.le_of_ble_eq_true rfl) rfl (fun ls hl => ?_)
            refine lv_aload_n hx hb dX4_pull_33 rfl (lv_at hl 4 rfl) ?_
            refine g_get CX HW in_X4_pull_4 6 5 rfl rfl (Nat.le_of_ble_eq_true rfl) fl_X4_pull_22 rfl dX4_pull_34 ?_
            refine lv_iload hx hb dX4_pull_37 (lv_at hl 0 rfl) ?_
            refine g_ald CX HW 9 (k := k) rfl rfl rfl hk8 (Nat.le_of_ble_eq_true rfl) dX4_pull_39 ?_
            refine lv_if_ne (tgt := 46) hx hb dX4_pull_40 (by decide) (fun c40 => ?_) (fun c40 => ?_)
            · have hc1 : ¬ vA T 8 k < 1 := purse_ge hIT hk c40
              refine lv_iinc (v := (nI r)) (lv' := [(3, .int (nI r)), (4, .int (nI k)), (2, .int (nI (j + 1))), (1, .int (nI t)), (0, .ref (a o))]) hx hb dX4_pull_46 hl (k := 1) rfl (dec1 _) (Nat.le_of_ble_eq_true rfl) rfl (fun ls hl => ?_)
              refine lv_aload_n hx hb dX4_pull_49 rfl (lv_at hl 4 rfl) ?_
              refine g_get CX HW in_X4_pull_4 6 5 rfl rfl (Nat.le_of_ble_eq_true rfl) fl_X4_pull_22 rfl dX4_pull_50 ?_
              refine lv_iload hx hb dX4_pull_53 (lv_at hl 1 rfl) ?_
              refine lv_dup2_11 hx hb dX4_pull_55 rfl rfl ?_
              refine g_ald CX HW 9 (k := k) rfl rfl rfl hk8 (Nat.le_of_ble_eq_true rfl) dX4_pull_56 ?_
              refine lv_iconst (v := 1) hx hb dX4_pull_57 (by decide) ?_
              refine lv_isub hx hb dX4_pull_58 ?_
              refine g_ast CX HW 9 (k := k) rfl rfl rfl hk8 (Nat.le_of_ble_eq_true rfl) dX4_pull_59 (fun H locs HW => ?_)
              have HW : Hw D A s (wMo cI a om th (vA T 0) (vA T 1) (vr T) (vA T 3) (vA T 4) (vs T) (vA T 7) ++ (wMS cI a o (a om) (vh T) (vc T) (sumP T) (vA T 5) (vA T 6) (upd (vA T 8) k (((vA T 8) k) - (1 : Int32))) (vA T 9) (vA T 10) (vA T 11) (vA T 12) (vA T 2) my'_1 qu'_1)) H locs := HW
              refine lv_aload_n hx hb dX4_pull_60 rfl (lv_at hl 4 rfl) ?_
              refine lv_dup hx hb dX4_pull_61 rfl ?_
              refine g_get CX HW in_X4_pull_4 6 1 rfl rfl (Nat.le_of_ble_eq_true rfl) fl_X4_pull_50 rfl dX4_pull_62 ?_
              refine lv_iconst (v := 1) hx hb dX4_pull_65 (by decide) ?_
              refine lv_iadd hx hb dX4_pull_66 ?_
              refine g_put CX HW in_X4_pull_4 tyX4 tyX4_ok nmX4 6 1 rfl rfl (Nat.le_of_ble_eq_true rfl) fl_X4_pull_50 rfl rfl rfl (Nat.le_of_ble_eq_true rfl) dX4_pull_67 (fun H locs HW => ?_)
              have HW : Hw D A s (wMo cI a om th (vA T 0) (vA T 1) (vr T) (vA T 3) (vA T 4) (vs T) (vA T 7) ++ (wMS cI a o (a om) (vh T) ((vc T) + (1 : Int32)) (sumP T) (vA T 5) (vA T 6) (upd (vA T 8) k (((vA T 8) k) - (1 : Int32))) (vA T 9) (vA T 10) (vA T 11) (vA T 12) (vA T 2) my'_1 qu'_1)) H locs := HW
              refine lv_aload_n hx hb dX4_pull_70 rfl (lv_at hl 4 rfl) ?_
              refine g_get CX HW in_X4_pull_4 6 9 rfl rfl (Nat.le_of_ble_eq_true rfl) fl_X4_pull_34 rfl dX4_pull_71 ?_
              refine lv_iload hx hb dX4_pull_74 (lv_at hl 1 rfl) ?_
              refine lv_dup2_11 hx hb dX4_pull_76 rfl rfl ?_
              refine g_ald CX HW 13 (k := k) rfl rfl rfl hk8 (Nat.le_of_ble_eq_true rfl) dX4_pull_77 ?_
              refine lv_iconst (v := 1) hx hb dX4_pull_78 (by decide) ?_
              refine lv_iadd hx hb dX4_pull_79 ?_
              refine g_ast CX HW 13 (k := k) rfl rfl rfl hk8 (Nat.le_of_ble_eq_true rfl) dX4_pull_80 (fun H locs HW => ?_)
              have HW : Hw D A s (wMo cI a om th (vA T 0) (vA T 1) (vr T) (vA T 3) (vA T 4) (vs T) (vA T 7) ++ (wMS cI a o (a om) (vh T) ((vc T) + (1 : Int32)) (sumP T) (vA T 5) (vA T 6) (upd (vA T 8) k (((vA T 8) k) - (1 : Int32))) (vA T 9) (vA T 10) (vA T 11) (upd (vA T 12) k (((vA T 12) k) + (1 : Int32))) (vA T 2) my'_1 qu'_1)) H locs := HW
              refine lv_aload_n hx hb dX4_pull_81 rfl (lv_at hl 4 rfl) ?_
              refine lv_dup hx hb dX4_pull_82 rfl ?_
              refine g_get CX HW in_X4_pull_4 6 2 rfl rfl (Nat.le_of_ble_eq_true rfl) fl_X4_pull_53 rfl dX4_pull_83 ?_
              refine lv_iconst (v := 1) hx hb dX4_pull_86 (by decide) ?_
              refine lv_iadd hx hb dX4_pull_87 ?_
              refine g_put CX HW in_X4_pull_4 tyX4 tyX4_ok nmX4 6 2 rfl rfl (Nat.le_of_ble_eq_true rfl) fl_X4_pull_53 rfl rfl rfl (Nat.le_of_ble_eq_true rfl) dX4_pull_88 (fun H locs HW => ?_)
              have HW : Hw D A s (wMo cI a om th (vA T 0) (vA T 1) (vr T) (vA T 3) (vA T 4) (vs T) (vA T 7) ++ (wMS cI a o (a om) (vh T) ((vc T) + (1 : Int32)) ((sumP T) + (1 : Int32)) (vA T 5) (vA T 6) (upd (vA T 8) k (((vA T 8) k) - (1 : Int32))) (vA T 9) (vA T 10) (vA T 11) (upd (vA T 12) k (((vA T 12) k) + (1 : Int32))) (vA T 2) my'_1 qu'_1)) H locs := HW
              refine lv_aload_n hx hb dX4_pull_91 rfl (lv_at hl 4 rfl) ?_
              refine g_get CX HW in_X4_pull_4 6 10 rfl rfl (Nat.le_of_ble_eq_true rfl) fl_X4_pull_37 rfl dX4_pull_92 ?_
              refine lv_iload_n hx hb dX4_pull_95 rfl (lv_at hl 3 rfl) ?_
              refine lv_dup2_11 hx hb dX4_pull_96 rfl rfl ?_
              refine g_ald CX HW 14 (k := t) rfl rfl rfl (by omega) (Nat.le_of_ble_eq_true rfl) dX4_pull_97 ?_
              refine lv_iconst (v := 1) hx hb dX4_pull_98 (by decide) ?_
              refine lv_iadd hx hb dX4_pull_99 ?_
              refine g_ast CX HW 14 (k := t) rfl rfl rfl (by omega) (Nat.le_of_ble_eq_true rfl) dX4_pull_100 (fun H locs HW => ?_)
              have HW : Hw D A s (wMo cI a om th (vA T 0) (vA T 1) (vr T) (vA T 3) (vA T 4) (vs T) (vA T 7) ++ (wMS cI a o (a om) (vh T) ((vc T) + (1 : Int32)) ((sumP T) + (1 : Int32)) (vA T 5) (vA T 6) (upd (vA T 8) k (((vA T 8) k) - (1 : Int32))) (vA T 9) (vA T 10) (vA T 11) (upd (vA T 12) k (((vA T 12) k) + (1 : Int32))) (upd (vA T 2) t (((vA T 2) t) + (1 : Int32))) my'_1 qu'_1)) H locs := HW
              refine lv_aload_n hx hb dX4_pull_101 rfl (lv_at hl 4 rfl) ?_
              refine lv_iload hx hb dX4_pull_102 (lv_at hl 1 rfl) ?_
              refine lv_iload_n hx hb dX4_pull_104 rfl (lv_at hl 3 rfl) ?_
              refine g_callV CX HW hl.1 ([]) ([]) (c_X4_ski om o (payS t k (quS T t rest)) th ((sumP T) + (1 : Int32)) my'_1 qu'_1 k t (Inv_payS hk hc1 (Inv_quS hIT)) hk hhT) rfl 6 rfl rfl gX4_pull_X4_ski rfl ⟨rfl, hd_X4_ski⟩ ⟨rfl, rfl, (Nat.le_of_ble_eq_true rfl), (Nat.le_of_ble_eq_true rfl)⟩ ⟨(Nat.zero_le _), (Nat.zero_le _)⟩ rfl rfl (Nat.le_of_ble_eq_true rfl) dX4_pull_105 (fun v w1 H locs hp HW => ?_)
              obtain ⟨rfl, rfl⟩ := hp
              have HW : Hw D A s (wMo cI a om th (vA (skiS t k (payS t k (quS T t rest))) 0) (vA (skiS t k (payS t k (quS T t rest))) 1) (vr (skiS t k (payS t k (quS T t rest)))) (vA (skiS t k (payS t k (quS T t rest))) 3) (vA (skiS t k (payS t k (quS T t rest))) 4) (vs (skiS t k (payS t k (quS T t rest)))) (vA (skiS t k (payS t k (quS T t rest))) 7) ++ (wMS cI a o (a om) (vh (skiS t k (payS t k (quS T t rest)))) (vc (skiS t k (payS t k (quS T t rest)))) ((sumP T) + (1 : Int32)) (vA (skiS t k (payS t k (quS T t rest))) 5) (vA (skiS t k (payS t k (quS T t rest))) 6) (vA (skiS t k (payS t k (quS T t rest))) 8) (vA (skiS t k (payS t k (quS T t rest))) 9) (vA (skiS t k (payS t k (quS T t rest))) 10) (vA (skiS t k (payS t k (quS T t rest))) 11) (vA (skiS t k (payS t k (quS T t rest))) 12) (vA (skiS t k (payS t k (quS T t rest))) 2) my'_1 qu'_1)) H locs := HW
              refine W.eq (g2 := F0 m 108 ls []) rfl ?_
              have hQ3 : Qk (vs (quS (skiS t k (payS t k (quS T t rest))) t (rest ++ [k]))) (vq (quS (skiS t k (payS t k (quS T t rest))) t (rest ++ [k]))) := Qk_ride ht hq hQT
              refine lv_aload_n hx hb dX4_pull_108 rfl (lv_at hl 4 rfl) ?_
              refine lv_iload_n hx hb dX4_pull_109 rfl (lv_at hl 3 rfl) ?_
              refine lv_iload hx hb dX4_pull_110 (lv_at hl 1 rfl) ?_
              refine g_callV CX HW hl.1 ([]) ([]) (c_X4_in om o (skiS t k (payS t k (quS T t rest))) th ((sumP T) + (1 : Int32)) my'_1 qu'_1 t k (setQ (vq T) t rest) ht hM2 (by rw [setQ_at]; have h9 := (hM t ht).2; rw [hq] at h9; simp only [List.length_cons] at h9; omega)) rfl 6 rfl rfl gX4_pull_X4_in rfl ⟨rfl, hd_X4_in⟩ ⟨rfl, rfl, (Nat.le_of_ble_eq_true rfl), (Nat.le_of_ble_eq_true rfl)⟩ ⟨(Nat.zero_le _), (Nat.zero_le _)⟩ rfl rfl (Nat.le_of_ble_eq_true rfl) dX4_pull_112 (fun v w1 H locs hp HW => ?_)
              obtain ⟨my'_2, qu'_2, hM9_2, rfl, rfl⟩ := hp
              have HW : Hw D A s (wMo cI a om th (vA (skiS t k (payS t k (quS T t rest))) 0) (vA (skiS t k (payS t k (quS T t rest))) 1) (vr (skiS t k (payS t k (quS T t rest)))) (vA (skiS t k (payS t k (quS T t rest))) 3) (vA (skiS t k (payS t k (quS T t rest))) 4) (vs (skiS t k (payS t k (quS T t rest)))) (vA (skiS t k (payS t k (quS T t rest))) 7) ++ (wMS cI a o (a om) (vh (skiS t k (payS t k (quS T t rest)))) (vc (skiS t k (payS t k (quS T t rest)))) ((sumP T) + (1 : Int32)) (vA (skiS t k (payS t k (quS T t rest))) 5) (vA (skiS t k (payS t k (quS T t rest))) 6) (vA (skiS t k (payS t k (quS T t rest))) 8) (vA (skiS t k (payS t k (quS T t rest))) 9) (vA (skiS t k (payS t k (quS T t rest))) 10) (vA (skiS t k (payS t k (quS T t rest))) 11) (vA (skiS t k (payS t k (quS T t rest))) 12) (vA (skiS t k (payS t k (quS T t rest))) 2) my'_2 qu'_2)) H locs := HW
              refine W.eq (g2 := F0 m 115 ls []) rfl ?_
              have hwe : ((sumP T) + (1 : Int32)) = (sumP (quS (skiS t k (payS t k (quS T t rest))) t (rest ++ [k]))) := (sumP_ride ht).symm
              rw [hwe] at HW; clear hwe
              refine lv_iinc (v := (nI j)) (lv' := [(2, .int (nI j)), (3, .int (nI r)), (4, .int (nI k)), (1, .int (nI t)), (0, .ref (a o))]) hx hb dX4_pull_115 hl (k := 2) rfl (dec1 _) (Nat.le_of_ble_eq_true rfl) rfl (fun ls hl => ?_)
              refine lv_goto (tgt := 17) hx hb dX4_pull_118 (by decide) ?_
              exact ih _ (by omega) (quS (skiS t k (payS t k (quS T t rest))) t (rest ++ [k])) _ _ j r rfl (by rw [← hTT, pullN_yes hq hc1]) (by omega) (by omega) (by rw [quS_len]; rw [hq] at hlen; simp only [List.length_cons, List.length_append] at hlen ⊢; omega) (Inv_quS (Inv_skiS hk (Inv_payS hk hc1 (Inv_quS hIT)))) hQ3 (by show RepM (setQ (vq (skiS t k (payS t k (quS T t rest)))) t (rest ++ [k])) _ _; rw [vq_ride]; have h9 := hM9_2; rw [setQ_at] at h9; exact h9) (by show vh (skiS t k (payS t k (quS T t rest))) < _; rw [vh_skiS]; exact hhT) _ _ _ HW (lv_sub hl [1, 0, 3, 4] rfl)
            · refine lv_goto (tgt := 115) hx hb dX4_pull_43 (by decide) ?_
              refine lv_iinc (v := (nI j)) (lv' := [(2, .int (nI j)), (4, .int (nI k)), (3, .int (nI (r + 1))), (1, .int (nI t)), (0, .ref (a o))]) hx hb dX4_pull_115 hl (k := 2) rfl (dec1 _) (Nat.le_of_ble_eq_true rfl) rfl (fun ls hl => ?_)
              refine lv_goto (tgt := 17) hx hb dX4_pull_118 (by decide) ?_
              exact ih _ (by omega) (quS T t rest) _ _ j (r + 1) rfl (by rw [← hTT, pullN_no hq (show vA T 8 k < 1 by rw [c40]; decide)]) (by omega) (by omega) (by rw [quS_len]; rw [hq] at hlen; simp only [List.length_cons] at hlen; omega) (Inv_quS hIT) (Qk_set hQT hrest) hM2 hhT _ _ _ HW (lv_sub hl [2, 0, 3, 4] rfl)
  refine lv_aload_n hx hb dX4_pull_0 rfl (lv_at hl 0 rfl) ?_
  refine g_get CX HW in_X4_pull_4 6 11 rfl rfl (Nat.le_of_ble_eq_true rfl) fl_X4_pull_40 rfl dX4_pull_1 ?_
  refine lv_iload_n hx hb dX4_pull_4 rfl (lv_at hl 1 rfl) ?_
  refine g_ald CX HW 15 (k := t) rfl rfl rfl (by omega) (Nat.le_of_ble_eq_true rfl) dX4_pull_5 ?_
  refine g_top (y := (nI (vq S t).length)) (hM t ht).1.1 ?_
  refine lv_istore_n (lv' := [(2, .int (nI (vq S t).length)), (0, .ref (a o)), (1, .int (nI t))]) hx hb dX4_pull_6 rfl hl (Nat.le_of_ble_eq_true rfl) rfl (fun ls hl => ?_)
  refine lv_aload_n hx hb dX4_pull_7 rfl (lv_at hl 1 rfl) ?_
  refine g_get CX HW in_X4_pull_4 6 13 rfl rfl (Nat.le_of_ble_eq_true rfl) fl_X4_pull_3 rfl dX4_pull_8 ?_
  refine g_getN (host := "PommelTowsModel") CX HW in_X4_pull_5 0 2 rfl rfl (Nat.le_of_ble_eq_true rfl) (by decide +kernel) rfl dX4_pull_11 ?_
  refine lv_iload_n hx hb dX4_pull_14 rfl (lv_at hl 2 rfl) ?_
  refine g_ald CX HW 2 (k := t) rfl rfl rfl (by omega) (Nat.le_of_ble_eq_true rfl) dX4_pull_15 ?_
  refine g_top (y := (nI P)) hP ?_
  refine lv_istore_n (lv' := [(3, .int (nI P)), (2, .int (nI (vq S t).length)), (0, .ref (a o)), (1, .int (nI t))]) hx hb dX4_pull_16 rfl hl (Nat.le_of_ble_eq_true rfl) rfl (fun ls hl => ?_)
  exact loop _ S my qu ((vq S t).length) P rfl (by unfold pullS; rw [hP, natI_nI (by omega)]) (hM t ht).2 (by omega) (Nat.le_refl _) hI hQ hM hh _ _ _ HW (lv_sub hl [0, 1, 3, 2] rfl)

theorem hd_X4_pass : yX4_pass.cls ≠ "java/lang/invoke/MethodHandle" ∧ yX4_pass.cls ≠ "java/lang/invoke/VarHandle" ∧ (parseMethodDescriptor yX4_pass.desc).map (fun d => d.parameters.length) = some 0 := by decide +kernel
theorem fl_X4_pass_46 : Cond.fieldLink RX4 46 (TX4 0).1 (TX4 0).2.1 (TX4 0).2.2.1 ∈ wsX4_pass := by decide +kernel
theorem in_X4_pass_4 : ∀ x ∈ u_ws RX4 TX4 14, x ∈ wsX4_pass := by decide +kernel
theorem fl_X4_pass_3 : Cond.fieldLink RX4 3 (TX4 13).1 (TX4 13).2.1 (TX4 13).2.2.1 ∈ wsX4_pass := by decide +kernel
theorem in_X4_pass_5 : ∀ x ∈ u_ws RX5 TX5 10, x ∈ wsX4_pass := by decide +kernel
theorem fl_X4_pass_15 : Cond.fieldLink RX4 15 (TX4 3).1 (TX4 3).2.1 (TX4 3).2.2.1 ∈ wsX4_pass := by decide +kernel
theorem mm_X4_pass_104 : Cond.methodLink RX4 104 Lib.Math.min.name ∈ wsX4_pass ∧ Cond.static Lib.Math.min.name ∈ wsX4_pass ∧ Cond.initialized "java/lang/Math" ∈ wsX4_pass ∧ Cond.code Lib.Math.min.name Lib.Math.min.code 2 (some .int) ∈ wsX4_pass := ⟨by decide +kernel, by decide +kernel, by decide +kernel, by decide +kernel⟩
theorem mm_X4_pass_107 : Cond.methodLink RX4 107 Lib.Math.max.name ∈ wsX4_pass ∧ Cond.static Lib.Math.max.name ∈ wsX4_pass ∧ Cond.initialized "java/lang/Math" ∈ wsX4_pass ∧ Cond.code Lib.Math.max.name Lib.Math.max.code 2 (some .int) ∈ wsX4_pass := ⟨by decide +kernel, by decide +kernel, by decide +kernel, by decide +kernel⟩
set_option maxRecDepth 100000 in
set_option maxHeartbeats 4000000 in
theorem c_X4_pass {l : Launch} {D : va_G} {cI cL : ClassId} {a : Nat → Nat} (om : Nat) (o : Nat) (S : VS) (th : Int32) (my : Nat → Int32) (qu : Nat → Int32) (hI : Inv S) (hQ : Qk (vs S) (vq S)) (hM : RepM (vq S) my qu) (hh : vh S < 2 ^ 31) : Ct l yX4_pass wsX4_pass { frames := 4, cells := 0, slots := 0, locals := 93 } D (ty2 cI cL) [.ref (a o)] (wMo cI a om th (vA S 0) (vA S 1) (vr S) (vA S 3) (vA S 4) (vs S) (vA S 7) ++ (wMS cI a o (a om) (vh S) (vc S) (sumP S) (vA S 5) (vA S 6) (vA S 8) (vA S 9) (vA S 10) (vA S 11) (vA S 12) (vA S 2) my qu)) (fun v w' => ∃ (my' : Nat → Int32) (qu' : Nat → Int32), (RepM (vq (hourS S)) my' qu') ∧ v = none ∧ w' = wMo cI a om th (vA (hourS S) 0) (vA (hourS S) 1) (vr (hourS S)) (vA (hourS S) 3) (vA (hourS S) 4) (vs (hourS S)) (vA (hourS S) 7) ++ (wMS cI a o (a om) (vh (hourS S)) (vc (hourS S)) (sumP (hourS S)) (vA (hourS S) 5) (vA (hourS S) 6) (vA (hourS S) 8) (vA (hourS S) 9) (vA (hourS S) 10) (vA (hourS S) 11) (vA (hourS S) 12) (vA (hourS S) 2) my' qu')) 0 0 := by
  refine Ct.of (cc := cX4_pass) (maxL := 3) (ret := none) (by decide) rfl (Nat.le_of_ble_eq_true rfl) ?_
  intro p e s m below meth c A ls CX hin HW hl
  obtain ⟨hx, hb, hml, hr, hown, hts, hK, hA, hlk⟩ := id CX
  have hl : lv_has ls 3 [(0, .ref (a o))] := hl
  have hr6 := hI.1
  have j80 : ∀ (_u : Unit), ∀ (H : Heap) (locs : List Loc) (ls : Array Slot), Hw D A s (wMo cI a om th (vA (snowS S) 0) (vA (snowS S) 1) (vr (snowS S)) (vA (snowS S) 3) (vA (snowS S) 4) (vs (snowS S)) (vA (snowS S) 7) ++ (wMS cI a o (a om) (vh (snowS S)) (vc (snowS S)) (sumP (snowS S)) (vA (snowS S) 5) (vA (snowS S) 6) (vA (snowS S) 8) (vA (snowS S) 9) (vA (snowS S) 10) (vA (snowS S) 11) (vA (snowS S) 12) (vA (snowS S) 2) my qu)) H locs → lv_has ls 3 [(1, .int (snowI (natI (vA S 0 (vh S % 6))))), (0, .ref (a o))] → W p l e ({ frames := 4, cells := 0, slots := 0, locals := 93 } : Room) s m ([.ref (a o)] : List Value).toArray below meth c H locs 0 0 (MQ below (cQ D A (fun v w' => ∃ (my' : Nat → Int32) (qu' : Nat → Int32), (RepM (vq (hourS S)) my' qu') ∧ v = none ∧ w' = wMo cI a om th (vA (hourS S) 0) (vA (hourS S) 1) (vr (hourS S)) (vA (hourS S) 3) (vA (hourS S) 4) (vs (hourS S)) (vA (hourS S) 7) ++ (wMS cI a o (a om) (vh (hourS S)) (vc (hourS S)) (sumP (hourS S)) (vA (hourS S) 5) (vA (hourS S) 6) (vA (hourS S) 8) (vA (hourS S) 9) (vA (hourS S) 10) (vA (hourS S) 11) (vA (hourS S) 12) (vA (hourS S) 2) my' qu'))) ([.ref (a o)] : List Value).toArray s 0 0 A) (F0 m 80 ls []) := by
    intro _u H locs ls HW hl
    refine lv_iconst (v := 0) hx hb dX4_pass_80 (by decide) ?_
    refine lv_istore_n (lv' := [(2, .int (0 : Int32)), (1, .int (snowI (natI (vA S 0 (vh S % 6))))), (0, .ref (a o))]) hx hb dX4_pass_81 rfl hl (Nat.le_of_ble_eq_true rfl) rfl (fun ls hl => ?_)
    refine lv_iload_n hx hb dX4_pass_82 rfl (lv_at hl 0 rfl) ?_
    refine lv_iconst (v := 3) hx hb dX4_pass_83 (by decide) ?_
    refine lv_icmp_ge (tgt := 98) hx hb dX4_pass_84 (by decide) (fun c84 => ?_) (fun c84 => ?_)
    · exact absurd c84 (by decide)
    · refine lv_aload_n hx hb dX4_pass_87 rfl (lv_at hl 2 rfl) ?_
      refine lv_iload_n hx hb dX4_pass_88 rfl (lv_at hl 0 rfl) ?_
      refine g_callV CX HW hl.1 ([]) ([]) (c_X4_pull om o (snowS S) th my qu 0 (Inv_snowS hI) hQ hM (by omega) hh) rfl 6 rfl rfl gX4_pass_X4_pull rfl ⟨rfl, hd_X4_pull⟩ ⟨rfl, rfl, (Nat.le_of_ble_eq_true rfl), (Nat.le_of_ble_eq_true rfl)⟩ ⟨(Nat.zero_le _), (Nat.zero_le _)⟩ rfl rfl (Nat.le_of_ble_eq_true rfl) dX4_pass_89 (fun v w1 H locs hp HW => ?_)
      obtain ⟨my'_1, qu'_1, hM9_1, rfl, rfl⟩ := hp
      have HW : Hw D A s (wMo cI a om th (vA (pullS 0 (snowS S)) 0) (vA (pullS 0 (snowS S)) 1) (vr (pullS 0 (snowS S))) (vA (pullS 0 (snowS S)) 3) (vA (pullS 0 (snowS S)) 4) (vs (pullS 0 (snowS S))) (vA (pullS 0 (snowS S)) 7) ++ (wMS cI a o (a om) (vh (pullS 0 (snowS S))) (vc (pullS 0 (snowS S))) (sumP (pullS 0 (snowS S))) (vA (pullS 0 (snowS S)) 5) (vA (pullS 0 (snowS S)) 6) (vA (pullS 0 (snowS S)) 8) (vA (pullS 0 (snowS S)) 9) (vA (pullS 0 (snowS S)) 10) (vA (pullS 0 (snowS S)) 11) (vA (pullS 0 (snowS S)) 12) (vA (pullS 0 (snowS S)) 2) my'_1 qu'_1)) H locs := HW
      refine W.eq (g2 := F0 m 92 ls []) rfl ?_
      have hI1 := Inv_pullS (t := 0) (Inv_snowS hI) hQ
      have hQ1 := Qk_pullS (t := 0) (Inv_snowS hI) hQ
      refine lv_iinc (v := (1 : Int32)) (lv' := [(2, .int (1 : Int32)), (1, .int (snowI (natI (vA S 0 (vh S % 6))))), (0, .ref (a o))]) hx hb dX4_pass_92 hl (k := 0) rfl (by decide) (Nat.le_of_ble_eq_true rfl) rfl (fun ls hl => ?_)
      refine lv_goto (tgt := 82) hx hb dX4_pass_95 (by decide) ?_
      refine lv_iload_n hx hb dX4_pass_82 rfl (lv_at hl 0 rfl) ?_
      refine lv_iconst (v := 3) hx hb dX4_pass_83 (by decide) ?_
      refine lv_icmp_ge (tgt := 98) hx hb dX4_pass_84 (by decide) (fun c84 => ?_) (fun c84 => ?_)
      · exact absurd c84 (by decide)
      · refine lv_aload_n hx hb dX4_pass_87 rfl (lv_at hl 2 rfl) ?_
        refine lv_iload_n hx hb dX4_pass_88 rfl (lv_at hl 0 rfl) ?_
        refine g_callV CX HW hl.1 ([]) ([]) (c_X4_pull om o (pullS 0 (snowS S)) th my'_1 qu'_1 1 hI1 hQ1 hM9_1 (by omega) (by rw [vh_pullS]; exact hh)) rfl 6 rfl rfl gX4_pass_X4_pull rfl ⟨rfl, hd_X4_pull⟩ ⟨rfl, rfl, (Nat.le_of_ble_eq_true rfl), (Nat.le_of_ble_eq_true rfl)⟩ ⟨(Nat.zero_le _), (Nat.zero_le _)⟩ rfl rfl (Nat.le_of_ble_eq_true rfl) dX4_pass_89 (fun v w1 H locs hp HW => ?_)
        obtain ⟨my'_2, qu'_2, hM9_2, rfl, rfl⟩ := hp
        have HW : Hw D A s (wMo cI a om th (vA (pullS 1 (pullS 0 (snowS S))) 0) (vA (pullS 1 (pullS 0 (snowS S))) 1) (vr (pullS 1 (pullS 0 (snowS S)))) (vA (pullS 1 (pullS 0 (snowS S))) 3) (vA (pullS 1 (pullS 0 (snowS S))) 4) (vs (pullS 1 (pullS 0 (snowS S)))) (vA (pullS 1 (pullS 0 (snowS S))) 7) ++ (wMS cI a o (a om) (vh (pullS 1 (pullS 0 (snowS S)))) (vc (pullS 1 (pullS 0 (snowS S)))) (sumP (pullS 1 (pullS 0 (snowS S)))) (vA (pullS 1 (pullS 0 (snowS S))) 5) (vA (pullS 1 (pullS 0 (snowS S))) 6) (vA (pullS 1 (pullS 0 (snowS S))) 8) (vA (pullS 1 (pullS 0 (snowS S))) 9) (vA (pullS 1 (pullS 0 (snowS S))) 10) (vA (pullS 1 (pullS 0 (snowS S))) 11) (vA (pullS 1 (pullS 0 (snowS S))) 12) (vA (pullS 1 (pullS 0 (snowS S))) 2) my'_2 qu'_2)) H locs := HW
        refine W.eq (g2 := F0 m 92 ls []) rfl ?_
        have hI2 := Inv_pullS (t := 1) hI1 hQ1
        have hQ2 := Qk_pullS (t := 1) hI1 hQ1
        refine lv_iinc (v := (2 : Int32)) (lv' := [(2, .int (2 : Int32)), (1, .int (snowI (natI (vA S 0 (vh S % 6))))), (0, .ref (a o))]) hx hb dX4_pass_92 hl (k := 0) rfl (by decide) (Nat.le_of_ble_eq_true rfl) rfl (fun ls hl => ?_)
        refine lv_goto (tgt := 82) hx hb dX4_pass_95 (by decide) ?_
        refine lv_iload_n hx hb dX4_pass_82 rfl (lv_at hl 0 rfl) ?_
        refine lv_iconst (v := 3) hx hb dX4_pass_83 (by decide) ?_
        refine lv_icmp_ge (tgt := 98) hx hb dX4_pass_84 (by decide) (fun c84 => ?_) (fun c84 => ?_)
        · exact absurd c84 (by decide)
        · refine lv_aload_n hx hb dX4_pass_87 rfl (lv_at hl 2 rfl) ?_
          refine lv_iload_n hx hb dX4_pass_88 rfl (lv_at hl 0 rfl) ?_
          refine g_callV CX HW hl.1 ([]) ([]) (c_X4_pull om o (pullS 1 (pullS 0 (snowS S))) th my'_2 qu'_2 2 hI2 hQ2 hM9_2 (by omega) (by rw [vh_pullS, vh_pullS]; exact hh)) rfl 6 rfl rfl gX4_pass_X4_pull rfl ⟨rfl, hd_X4_pull⟩ ⟨rfl, rfl, (Nat.le_of_ble_eq_true rfl), (Nat.le_of_ble_eq_true rfl)⟩ ⟨(Nat.zero_le _), (Nat.zero_le _)⟩ rfl rfl (Nat.le_of_ble_eq_true rfl) dX4_pass_89 (fun v w1 H locs hp HW => ?_)
          obtain ⟨my'_3, qu'_3, hM9_3, rfl, rfl⟩ := hp
          have HW : Hw D A s (wMo cI a om th (vA (pullS 2 (pullS 1 (pullS 0 (snowS S)))) 0) (vA (pullS 2 (pullS 1 (pullS 0 (snowS S)))) 1) (vr (pullS 2 (pullS 1 (pullS 0 (snowS S))))) (vA (pullS 2 (pullS 1 (pullS 0 (snowS S)))) 3) (vA (pullS 2 (pullS 1 (pullS 0 (snowS S)))) 4) (vs (pullS 2 (pullS 1 (pullS 0 (snowS S))))) (vA (pullS 2 (pullS 1 (pullS 0 (snowS S)))) 7) ++ (wMS cI a o (a om) (vh (pullS 2 (pullS 1 (pullS 0 (snowS S))))) (vc (pullS 2 (pullS 1 (pullS 0 (snowS S))))) (sumP (pullS 2 (pullS 1 (pullS 0 (snowS S))))) (vA (pullS 2 (pullS 1 (pullS 0 (snowS S)))) 5) (vA (pullS 2 (pullS 1 (pullS 0 (snowS S)))) 6) (vA (pullS 2 (pullS 1 (pullS 0 (snowS S)))) 8) (vA (pullS 2 (pullS 1 (pullS 0 (snowS S)))) 9) (vA (pullS 2 (pullS 1 (pullS 0 (snowS S)))) 10) (vA (pullS 2 (pullS 1 (pullS 0 (snowS S)))) 11) (vA (pullS 2 (pullS 1 (pullS 0 (snowS S)))) 12) (vA (pullS 2 (pullS 1 (pullS 0 (snowS S)))) 2) my'_3 qu'_3)) H locs := HW
          refine W.eq (g2 := F0 m 92 ls []) rfl ?_
          refine lv_iinc (v := (3 : Int32)) (lv' := [(2, .int (3 : Int32)), (1, .int (snowI (natI (vA S 0 (vh S % 6))))), (0, .ref (a o))]) hx hb dX4_pass_92 hl (k := 0) rfl (by decide) (Nat.le_of_ble_eq_true rfl) rfl (fun ls hl => ?_)
          refine lv_goto (tgt := 82) hx hb dX4_pass_95 (by decide) ?_
          refine lv_iload_n hx hb dX4_pass_82 rfl (lv_at hl 0 rfl) ?_
          refine lv_iconst (v := 3) hx hb dX4_pass_83 (by decide) ?_
          refine lv_icmp_ge (tgt := 98) hx hb dX4_pass_84 (by decide) (fun c84 => ?_) (fun c84 => ?_)
          · refine lv_aload_n hx hb dX4_pass_98 rfl (lv_at hl 2 rfl) ?_
            refine lv_dup hx hb dX4_pass_99 rfl ?_
            refine g_get CX HW in_X4_pass_4 6 0 rfl rfl (Nat.le_of_ble_eq_true rfl) fl_X4_pass_46 rfl dX4_pass_100 ?_
            refine lv_iconst (v := 1) hx hb dX4_pass_103 (by decide) ?_
            refine lv_iadd hx hb dX4_pass_104 ?_
            refine g_top (y := (nI (vh (pullS 2 (pullS 1 (pullS 0 (snowS S)))) + 1))) (nI_1 _) ?_
            refine g_put CX HW in_X4_pass_4 tyX4 tyX4_ok nmX4 6 0 rfl rfl (Nat.le_of_ble_eq_true rfl) fl_X4_pass_46 rfl rfl rfl (Nat.le_of_ble_eq_true rfl) dX4_pass_105 (fun H locs HW => ?_)
            have HW : Hw D A s (wMo cI a om th (vA (pullS 2 (pullS 1 (pullS 0 (snowS S)))) 0) (vA (pullS 2 (pullS 1 (pullS 0 (snowS S)))) 1) (vr (pullS 2 (pullS 1 (pullS 0 (snowS S))))) (vA (pullS 2 (pullS 1 (pullS 0 (snowS S)))) 3) (vA (pullS 2 (pullS 1 (pullS 0 (snowS S)))) 4) (vs (pullS 2 (pullS 1 (pullS 0 (snowS S))))) (vA (pullS 2 (pullS 1 (pullS 0 (snowS S)))) 7) ++ (wMS cI a o (a om) (vh (pullS 2 (pullS 1 (pullS 0 (snowS S)))) + 1) (vc (pullS 2 (pullS 1 (pullS 0 (snowS S))))) (sumP (pullS 2 (pullS 1 (pullS 0 (snowS S))))) (vA (pullS 2 (pullS 1 (pullS 0 (snowS S)))) 5) (vA (pullS 2 (pullS 1 (pullS 0 (snowS S)))) 6) (vA (pullS 2 (pullS 1 (pullS 0 (snowS S)))) 8) (vA (pullS 2 (pullS 1 (pullS 0 (snowS S)))) 9) (vA (pullS 2 (pullS 1 (pullS 0 (snowS S)))) 10) (vA (pullS 2 (pullS 1 (pullS 0 (snowS S)))) 11) (vA (pullS 2 (pullS 1 (pullS 0 (snowS S)))) 12) (vA (pullS 2 (pullS 1 (pullS 0 (snowS S)))) 2) my'_3 qu'_3)) H locs := HW
            exact g_vret CX HW rfl ⟨_, _, hM9_3, rfl, hwm_inc (pullS 2 (pullS 1 (pullS 0 (snowS S))))⟩ dX4_pass_108
          · exact absurd c84 (by decide)
  have j37 : ∀ (x : Int32), (x = (snowI (natI (vA S 0 (vh S % 6))))) → ∀ (H : Heap) (locs : List Loc) (ls : Array Slot), Hw D A s (wMo cI a om th (vA S 0) (vA S 1) (vr S) (vA S 3) (vA S 4) (vs S) (vA S 7) ++ (wMS cI a o (a om) (vh S) (vc S) (sumP S) (vA S 5) (vA S 6) (vA S 8) (vA S 9) (vA S 10) (vA S 11) (vA S 12) (vA S 2) my qu)) H locs → lv_has ls 3 [(0, .ref (a o))] → W p l e ({ frames := 4, cells := 0, slots := 0, locals := 93 } : Room) s m ([.ref (a o)] : List Value).toArray below meth c H locs 0 0 (MQ below (cQ D A (fun v w' => ∃ (my' : Nat → Int32) (qu' : Nat → Int32), (RepM (vq (hourS S)) my' qu') ∧ v = none ∧ w' = wMo cI a om th (vA (hourS S) 0) (vA (hourS S) 1) (vr (hourS S)) (vA (hourS S) 3) (vA (hourS S) 4) (vs (hourS S)) (vA (hourS S) 7) ++ (wMS cI a o (a om) (vh (hourS S)) (vc (hourS S)) (sumP (hourS S)) (vA (hourS S) 5) (vA (hourS S) 6) (vA (hourS S) 8) (vA (hourS S) 9) (vA (hourS S) 10) (vA (hourS S) 11) (vA (hourS S) 12) (vA (hourS S) 2) my' qu'))) ([.ref (a o)] : List Value).toArray s 0 0 A) (F0 m 37 ls [.int x]) := by
    intro x h9 H locs ls HW hl
    subst h9
    have loop : ∀ (d0 : Nat) (i : Nat), vr S - i = d0 → (i ≤ vr S) → ∀ (H : Heap) (locs : List Loc) (ls : Array Slot), Hw D A s (wMo cI a om th (vA S 0) (vA S 1) (vr S) (vA S 3) (vA S 4) (vs S) (vA S 7) ++ (wMS cI a o (a om) (vh S) (vc S) (sumP S) (dpAll (vA S 5) (snowI (natI (vA S 0 (vh S % 6)))) i) (vA S 6) (vA S 8) (vA S 9) (vA S 10) (vA S 11) (vA S 12) (vA S 2) my qu)) H locs → lv_has ls 3 [(2, .int (nI i)), (1, .int (snowI (natI (vA S 0 (vh S % 6))))), (0, .ref (a o))] → W p l e ({ frames := 4, cells := 0, slots := 0, locals := 93 } : Room) s m ([.ref (a o)] : List Value).toArray below meth c H locs 0 0 (MQ below (cQ D A (fun v w' => ∃ (my' : Nat → Int32) (qu' : Nat → Int32), (RepM (vq (hourS S)) my' qu') ∧ v = none ∧ w' = wMo cI a om th (vA (hourS S) 0) (vA (hourS S) 1) (vr (hourS S)) (vA (hourS S) 3) (vA (hourS S) 4) (vs (hourS S)) (vA (hourS S) 7) ++ (wMS cI a o (a om) (vh (hourS S)) (vc (hourS S)) (sumP (hourS S)) (vA (hourS S) 5) (vA (hourS S) 6) (vA (hourS S) 8) (vA (hourS S) 9) (vA (hourS S) 10) (vA (hourS S) 11) (vA (hourS S) 12) (vA (hourS S) 2) my' qu'))) ([.ref (a o)] : List Value).toArray s 0 0 A) (F0 m 40 ls []) := by
      intro d0
      induction d0 using Nat.strongRecOn with
      | _ d0 ih =>
        intro i hd0 hi H locs ls HW hl
        refine lv_iload_n hx hb dX4_pass_40 rfl (lv_at hl 0 rfl) ?_
        refine lv_aload_n hx hb dX4_pass_41 rfl (lv_at hl 2 rfl) ?_
        refine g_get CX HW in_X4_pass_4 6 13 rfl rfl (Nat.le_of_ble_eq_true rfl) fl_X4_pass_3 rfl dX4_pass_42 ?_
        refine g_getN (host := "PommelTowsModel") CX HW in_X4_pass_5 0 3 rfl rfl (Nat.le_of_ble_eq_true rfl) (by decide +kernel) rfl dX4_pass_45 ?_
        refine lv_icmp_ge (tgt := 80) hx hb dX4_pass_48 (by decide) (fun c48 => ?_) (fun c48 => ?_)
        · have c48 := (nI_leI (by have := hI.1; omega) (by omega)).mp c48
          obtain rfl : i = vr S := by omega
          exact j80 ()  _ _ _ HW (lv_sub hl [1, 2] rfl)
        · have c48 : i < vr S := nI_lt_of (by have := hI.1; omega) (by omega) c48
          have hi6 : i < 6 := Nat.lt_of_lt_of_le c48 hI.1
          refine lv_aload_n hx hb dX4_pass_51 rfl (lv_at hl 2 rfl) ?_
          refine g_get CX HW in_X4_pass_4 6 3 rfl rfl (Nat.le_of_ble_eq_true rfl) fl_X4_pass_15 rfl dX4_pass_52 ?_
          refine lv_iload_n hx hb dX4_pass_55 rfl (lv_at hl 0 rfl) ?_
          refine lv_iconst (v := 0) hx hb dX4_pass_56 (by decide) ?_
          refine lv_bipush (v := 90) hx hb dX4_pass_57 (by decide) ?_
          refine lv_aload_n hx hb dX4_pass_59 rfl (lv_at hl 2 rfl) ?_
          refine g_get CX HW in_X4_pass_4 6 3 rfl rfl (Nat.le_of_ble_eq_true rfl) fl_X4_pass_15 rfl dX4_pass_60 ?_
          refine lv_iload_n hx hb dX4_pass_63 rfl (lv_at hl 0 rfl) ?_
          refine g_ald CX HW 7 (k := i) rfl rfl rfl (by omega) (Nat.le_of_ble_eq_true rfl) dX4_pass_64 ?_
          refine lv_iload_n hx hb dX4_pass_65 rfl (lv_at hl 1 rfl) ?_
          refine lv_iadd hx hb dX4_pass_66 ?_
          refine va_mmin hx hb (hml.trans hl.1.symm) hown (hts _ mm_X4_pass_104.1) (hts _ mm_X4_pass_104.2.1) (hts _ mm_X4_pass_104.2.2.1) (hts _ mm_X4_pass_104.2.2.2) (Nat.le_of_ble_eq_true rfl) (Nat.le_of_ble_eq_true rfl) (Nat.zero_le _) (Nat.zero_le _) dX4_pass_67 ?_
          refine va_mmax hx hb (hml.trans hl.1.symm) hown (hts _ mm_X4_pass_107.1) (hts _ mm_X4_pass_107.2.1) (hts _ mm_X4_pass_107.2.2.1) (hts _ mm_X4_pass_107.2.2.2) (Nat.le_of_ble_eq_true rfl) (Nat.le_of_ble_eq_true rfl) (Nat.zero_le _) (Nat.zero_le _) dX4_pass_70 ?_
          refine g_ast CX HW 7 (k := i) rfl rfl rfl (by omega) (Nat.le_of_ble_eq_true rfl) dX4_pass_73 (fun H locs HW => ?_)
          have HW : Hw D A s (wMo cI a om th (vA S 0) (vA S 1) (vr S) (vA S 3) (vA S 4) (vs S) (vA S 7) ++ (wMS cI a o (a om) (vh S) (vc S) (sumP S) (upd (dpAll (vA S 5) (snowI (natI (vA S 0 (vh S % 6)))) i) i (if (0 : Int32) < (if (((dpAll (vA S 5) (snowI (natI (vA S 0 (vh S % 6)))) i) i) + (snowI (natI (vA S 0 (vh S % 6))))) < (90 : Int32) then (((dpAll (vA S 5) (snowI (natI (vA S 0 (vh S % 6)))) i) i) + (snowI (natI (vA S 0 (vh S % 6))))) else (90 : Int32)) then (if (((dpAll (vA S 5) (snowI (natI (vA S 0 (vh S % 6)))) i) i) + (snowI (natI (vA S 0 (vh S % 6))))) < (90 : Int32) then (((dpAll (vA S 5) (snowI (natI (vA S 0 (vh S % 6)))) i) i) + (snowI (natI (vA S 0 (vh S % 6))))) else (90 : Int32)) else (0 : Int32))) (vA S 6) (vA S 8) (vA S 9) (vA S 10) (vA S 11) (vA S 12) (vA S 2) my qu)) H locs := HW
          have hwe : (upd (dpAll (vA S 5) (snowI (natI (vA S 0 (vh S % 6)))) i) i (if (0 : Int32) < (if (((dpAll (vA S 5) (snowI (natI (vA S 0 (vh S % 6)))) i) i) + (snowI (natI (vA S 0 (vh S % 6))))) < (90 : Int32) then (((dpAll (vA S 5) (snowI (natI (vA S 0 (vh S % 6)))) i) i) + (snowI (natI (vA S 0 (vh S % 6))))) else (90 : Int32)) then (if (((dpAll (vA S 5) (snowI (natI (vA S 0 (vh S % 6)))) i) i) + (snowI (natI (vA S 0 (vh S % 6))))) < (90 : Int32) then (((dpAll (vA S 5) (snowI (natI (vA S 0 (vh S % 6)))) i) i) + (snowI (natI (vA S 0 (vh S % 6))))) else (90 : Int32)) else (0 : Int32))) = (dpAll (vA S 5) (snowI (natI (vA S 0 (vh S % 6)))) (i + 1)) := dpAll_s (vA S 5) (snowI (natI (vA S 0 (vh S % 6)))) i
          rw [hwe] at HW; clear hwe
          refine lv_iinc (v := (nI (i + 1))) (lv' := [(2, .int (nI (i + 1))), (1, .int (snowI (natI (vA S 0 (vh S % 6))))), (0, .ref (a o))]) hx hb dX4_pass_74 hl (k := 0) rfl (inc1 _) (Nat.le_of_ble_eq_true rfl) rfl (fun ls hl => ?_)
          refine lv_goto (tgt := 40) hx hb dX4_pass_77 (by decide) ?_
          exact ih _ (by omega) (i + 1) rfl (by omega) _ _ _ HW (lv_sub hl [0, 1, 2] rfl)
    refine lv_istore_n (lv' := [(1, .int (snowI (natI (vA S 0 (vh S % 6))))), (0, .ref (a o))]) hx hb dX4_pass_37 rfl hl (Nat.le_of_ble_eq_true rfl) rfl (fun ls hl => ?_)
    refine lv_iconst (v := 0) hx hb dX4_pass_38 (by decide) ?_
    refine lv_istore_n (lv' := [(2, .int (0 : Int32)), (1, .int (snowI (natI (vA S 0 (vh S % 6))))), (0, .ref (a o))]) hx hb dX4_pass_39 rfl hl (Nat.le_of_ble_eq_true rfl) rfl (fun ls hl => ?_)
    rw [← dpAll_0 (vA S 5) (snowI (natI (vA S 0 (vh S % 6))))] at HW
    exact loop _ 0 rfl (by omega) _ _ _ HW (lv_sub hl [0, 1, 2] rfl)
  obtain ⟨f, hf, ef⟩ := hI.2.2.1 (vh S % 6) (Nat.mod_lt _ (by decide))
  rcases (by omega : f = 0 ∨ f = 1 ∨ f = 2 ∨ f = 3) with rfl | rfl | rfl | rfl
  · refine lv_aload_n hx hb dX4_pass_0 rfl (lv_at hl 0 rfl) ?_
    refine g_callV CX HW hl.1 ([]) ([]) (c_X4_flake om o S th (sumP S) my qu hh) rfl 6 rfl rfl gX4_pass_X4_flake rfl ⟨rfl, hd_X4_flake⟩ ⟨rfl, rfl, (Nat.le_of_ble_eq_true rfl), (Nat.le_of_ble_eq_true rfl)⟩ ⟨(Nat.zero_le _), (Nat.zero_le _)⟩ rfl rfl (Nat.le_of_ble_eq_true rfl) dX4_pass_1 (fun v w1 H locs hp HW => ?_)
    obtain ⟨rfl, rfl⟩ := hp
    have HW : Hw D A s (wMo cI a om th (vA S 0) (vA S 1) (vr S) (vA S 3) (vA S 4) (vs S) (vA S 7) ++ (wMS cI a o (a om) (vh S) (vc S) (sumP S) (vA S 5) (vA S 6) (vA S 8) (vA S 9) (vA S 10) (vA S 11) (vA S 12) (vA S 2) my qu)) H locs := HW
    refine W.eq (g2 := F0 m 4 ls [.int (vA S 0 (vh S % 6))]) rfl ?_
    refine g_top (y := (0 : Int32)) ef ?_
    refine lv_if_ne (tgt := 11) hx hb dX4_pass_4 (by decide) (fun c4 => ?_) (fun c4 => ?_)
    · exact absurd c4 (by decide)
    · refine lv_iconst (v := 4) hx hb dX4_pass_7 (by decide) ?_
      refine lv_goto (tgt := 37) hx hb dX4_pass_8 (by decide) ?_
      exact j37 (4 : Int32) (by rw [ef, natI_nI (by decide)]; rfl) _ _ _ HW (lv_sub hl [0] rfl)
  · refine lv_aload_n hx hb dX4_pass_0 rfl (lv_at hl 0 rfl) ?_
    refine g_callV CX HW hl.1 ([]) ([]) (c_X4_flake om o S th (sumP S) my qu hh) rfl 6 rfl rfl gX4_pass_X4_flake rfl ⟨rfl, hd_X4_flake⟩ ⟨rfl, rfl, (Nat.le_of_ble_eq_true rfl), (Nat.le_of_ble_eq_true rfl)⟩ ⟨(Nat.zero_le _), (Nat.zero_le _)⟩ rfl rfl (Nat.le_of_ble_eq_true rfl) dX4_pass_1 (fun v w1 H locs hp HW => ?_)
    obtain ⟨rfl, rfl⟩ := hp
    have HW : Hw D A s (wMo cI a om th (vA S 0) (vA S 1) (vr S) (vA S 3) (vA S 4) (vs S) (vA S 7) ++ (wMS cI a o (a om) (vh S) (vc S) (sumP S) (vA S 5) (vA S 6) (vA S 8) (vA S 9) (vA S 10) (vA S 11) (vA S 12) (vA S 2) my qu)) H locs := HW
    refine W.eq (g2 := F0 m 4 ls [.int (vA S 0 (vh S % 6))]) rfl ?_
    refine g_top (y := (1 : Int32)) ef ?_
    refine lv_if_ne (tgt := 11) hx hb dX4_pass_4 (by decide) (fun c4 => ?_) (fun c4 => ?_)
    · refine lv_aload_n hx hb dX4_pass_11 rfl (lv_at hl 0 rfl) ?_
      refine g_callV CX HW hl.1 ([]) ([]) (c_X4_flake om o S th (sumP S) my qu hh) rfl 6 rfl rfl gX4_pass_X4_flake rfl ⟨rfl, hd_X4_flake⟩ ⟨rfl, rfl, (Nat.le_of_ble_eq_true rfl), (Nat.le_of_ble_eq_true rfl)⟩ ⟨(Nat.zero_le _), (Nat.zero_le _)⟩ rfl rfl (Nat.le_of_ble_eq_true rfl) dX4_pass_12 (fun v w1 H locs hp HW => ?_)
      obtain ⟨rfl, rfl⟩ := hp
      have HW : Hw D A s (wMo cI a om th (vA S 0) (vA S 1) (vr S) (vA S 3) (vA S 4) (vs S) (vA S 7) ++ (wMS cI a o (a om) (vh S) (vc S) (sumP S) (vA S 5) (vA S 6) (vA S 8) (vA S 9) (vA S 10) (vA S 11) (vA S 12) (vA S 2) my qu)) H locs := HW
      refine W.eq (g2 := F0 m 15 ls [.int (vA S 0 (vh S % 6))]) rfl ?_
      refine g_top (y := (1 : Int32)) ef ?_
      refine lv_iconst (v := 1) hx hb dX4_pass_15 (by decide) ?_
      refine lv_icmp_ne (tgt := 23) hx hb dX4_pass_16 (by decide) (fun c16 => ?_) (fun c16 => ?_)
      · exact absurd c16 (by decide)
      · refine lv_iconst (v := 0) hx hb dX4_pass_19 (by decide) ?_
        refine lv_goto (tgt := 37) hx hb dX4_pass_20 (by decide) ?_
        exact j37 (0 : Int32) (by rw [ef, natI_nI (by decide)]; rfl) _ _ _ HW (lv_sub hl [0] rfl)
    · exact absurd c4 (by decide)
  · refine lv_aload_n hx hb dX4_pass_0 rfl (lv_at hl 0 rfl) ?_
    refine g_callV CX HW hl.1 ([]) ([]) (c_X4_flake om o S th (sumP S) my qu hh) rfl 6 rfl rfl gX4_pass_X4_flake rfl ⟨rfl, hd_X4_flake⟩ ⟨rfl, rfl, (Nat.le_of_ble_eq_true rfl), (Nat.le_of_ble_eq_true rfl)⟩ ⟨(Nat.zero_le _), (Nat.zero_le _)⟩ rfl rfl (Nat.le_of_ble_eq_true rfl) dX4_pass_1 (fun v w1 H locs hp HW => ?_)
    obtain ⟨rfl, rfl⟩ := hp
    have HW : Hw D A s (wMo cI a om th (vA S 0) (vA S 1) (vr S) (vA S 3) (vA S 4) (vs S) (vA S 7) ++ (wMS cI a o (a om) (vh S) (vc S) (sumP S) (vA S 5) (vA S 6) (vA S 8) (vA S 9) (vA S 10) (vA S 11) (vA S 12) (vA S 2) my qu)) H locs := HW
    refine W.eq (g2 := F0 m 4 ls [.int (vA S 0 (vh S % 6))]) rfl ?_
    refine g_top (y := (2 : Int32)) ef ?_
    refine lv_if_ne (tgt := 11) hx hb dX4_pass_4 (by decide) (fun c4 => ?_) (fun c4 => ?_)
    · refine lv_aload_n hx hb dX4_pass_11 rfl (lv_at hl 0 rfl) ?_
      refine g_callV CX HW hl.1 ([]) ([]) (c_X4_flake om o S th (sumP S) my qu hh) rfl 6 rfl rfl gX4_pass_X4_flake rfl ⟨rfl, hd_X4_flake⟩ ⟨rfl, rfl, (Nat.le_of_ble_eq_true rfl), (Nat.le_of_ble_eq_true rfl)⟩ ⟨(Nat.zero_le _), (Nat.zero_le _)⟩ rfl rfl (Nat.le_of_ble_eq_true rfl) dX4_pass_12 (fun v w1 H locs hp HW => ?_)
      obtain ⟨rfl, rfl⟩ := hp
      have HW : Hw D A s (wMo cI a om th (vA S 0) (vA S 1) (vr S) (vA S 3) (vA S 4) (vs S) (vA S 7) ++ (wMS cI a o (a om) (vh S) (vc S) (sumP S) (vA S 5) (vA S 6) (vA S 8) (vA S 9) (vA S 10) (vA S 11) (vA S 12) (vA S 2) my qu)) H locs := HW
      refine W.eq (g2 := F0 m 15 ls [.int (vA S 0 (vh S % 6))]) rfl ?_
      refine g_top (y := (2 : Int32)) ef ?_
      refine lv_iconst (v := 1) hx hb dX4_pass_15 (by decide) ?_
      refine lv_icmp_ne (tgt := 23) hx hb dX4_pass_16 (by decide) (fun c16 => ?_) (fun c16 => ?_)
      · refine lv_aload_n hx hb dX4_pass_23 rfl (lv_at hl 0 rfl) ?_
        refine g_callV CX HW hl.1 ([]) ([]) (c_X4_flake om o S th (sumP S) my qu hh) rfl 6 rfl rfl gX4_pass_X4_flake rfl ⟨rfl, hd_X4_flake⟩ ⟨rfl, rfl, (Nat.le_of_ble_eq_true rfl), (Nat.le_of_ble_eq_true rfl)⟩ ⟨(Nat.zero_le _), (Nat.zero_le _)⟩ rfl rfl (Nat.le_of_ble_eq_true rfl) dX4_pass_24 (fun v w1 H locs hp HW => ?_)
        obtain ⟨rfl, rfl⟩ := hp
        have HW : Hw D A s (wMo cI a om th (vA S 0) (vA S 1) (vr S) (vA S 3) (vA S 4) (vs S) (vA S 7) ++ (wMS cI a o (a om) (vh S) (vc S) (sumP S) (vA S 5) (vA S 6) (vA S 8) (vA S 9) (vA S 10) (vA S 11) (vA S 12) (vA S 2) my qu)) H locs := HW
        refine W.eq (g2 := F0 m 27 ls [.int (vA S 0 (vh S % 6))]) rfl ?_
        refine g_top (y := (2 : Int32)) ef ?_
        refine lv_iconst (v := 2) hx hb dX4_pass_27 (by decide) ?_
        refine lv_icmp_ne (tgt := 36) hx hb dX4_pass_28 (by decide) (fun c28 => ?_) (fun c28 => ?_)
        · exact absurd c28 (by decide)
        · refine lv_bipush (v := (-2)) hx hb dX4_pass_31 (by decide) ?_
          refine lv_goto (tgt := 37) hx hb dX4_pass_33 (by decide) ?_
          exact j37 (-2 : Int32) (by rw [ef, natI_nI (by decide)]; rfl) _ _ _ HW (lv_sub hl [0] rfl)
      · exact absurd c16 (by decide)
    · exact absurd c4 (by decide)
  · refine lv_aload_n hx hb dX4_pass_0 rfl (lv_at hl 0 rfl) ?_
    refine g_callV CX HW hl.1 ([]) ([]) (c_X4_flake om o S th (sumP S) my qu hh) rfl 6 rfl rfl gX4_pass_X4_flake rfl ⟨rfl, hd_X4_flake⟩ ⟨rfl, rfl, (Nat.le_of_ble_eq_true rfl), (Nat.le_of_ble_eq_true rfl)⟩ ⟨(Nat.zero_le _), (Nat.zero_le _)⟩ rfl rfl (Nat.le_of_ble_eq_true rfl) dX4_pass_1 (fun v w1 H locs hp HW => ?_)
    obtain ⟨rfl, rfl⟩ := hp
    have HW : Hw D A s (wMo cI a om th (vA S 0) (vA S 1) (vr S) (vA S 3) (vA S 4) (vs S) (vA S 7) ++ (wMS cI a o (a om) (vh S) (vc S) (sumP S) (vA S 5) (vA S 6) (vA S 8) (vA S 9) (vA S 10) (vA S 11) (vA S 12) (vA S 2) my qu)) H locs := HW
    refine W.eq (g2 := F0 m 4 ls [.int (vA S 0 (vh S % 6))]) rfl ?_
    refine g_top (y := (3 : Int32)) ef ?_
    refine lv_if_ne (tgt := 11) hx hb dX4_pass_4 (by decide) (fun c4 => ?_) (fun c4 => ?_)
    · refine lv_aload_n hx hb dX4_pass_11 rfl (lv_at hl 0 rfl) ?_
      refine g_callV CX HW hl.1 ([]) ([]) (c_X4_flake om o S th (sumP S) my qu hh) rfl 6 rfl rfl gX4_pass_X4_flake rfl ⟨rfl, hd_X4_flake⟩ ⟨rfl, rfl, (Nat.le_of_ble_eq_true rfl), (Nat.le_of_ble_eq_true rfl)⟩ ⟨(Nat.zero_le _), (Nat.zero_le _)⟩ rfl rfl (Nat.le_of_ble_eq_true rfl) dX4_pass_12 (fun v w1 H locs hp HW => ?_)
      obtain ⟨rfl, rfl⟩ := hp
      have HW : Hw D A s (wMo cI a om th (vA S 0) (vA S 1) (vr S) (vA S 3) (vA S 4) (vs S) (vA S 7) ++ (wMS cI a o (a om) (vh S) (vc S) (sumP S) (vA S 5) (vA S 6) (vA S 8) (vA S 9) (vA S 10) (vA S 11) (vA S 12) (vA S 2) my qu)) H locs := HW
      refine W.eq (g2 := F0 m 15 ls [.int (vA S 0 (vh S % 6))]) rfl ?_
      refine g_top (y := (3 : Int32)) ef ?_
      refine lv_iconst (v := 1) hx hb dX4_pass_15 (by decide) ?_
      refine lv_icmp_ne (tgt := 23) hx hb dX4_pass_16 (by decide) (fun c16 => ?_) (fun c16 => ?_)
      · refine lv_aload_n hx hb dX4_pass_23 rfl (lv_at hl 0 rfl) ?_
        refine g_callV CX HW hl.1 ([]) ([]) (c_X4_flake om o S th (sumP S) my qu hh) rfl 6 rfl rfl gX4_pass_X4_flake rfl ⟨rfl, hd_X4_flake⟩ ⟨rfl, rfl, (Nat.le_of_ble_eq_true rfl), (Nat.le_of_ble_eq_true rfl)⟩ ⟨(Nat.zero_le _), (Nat.zero_le _)⟩ rfl rfl (Nat.le_of_ble_eq_true rfl) dX4_pass_24 (fun v w1 H locs hp HW => ?_)
        obtain ⟨rfl, rfl⟩ := hp
        have HW : Hw D A s (wMo cI a om th (vA S 0) (vA S 1) (vr S) (vA S 3) (vA S 4) (vs S) (vA S 7) ++ (wMS cI a o (a om) (vh S) (vc S) (sumP S) (vA S 5) (vA S 6) (vA S 8) (vA S 9) (vA S 10) (vA S 11) (vA S 12) (vA S 2) my qu)) H locs := HW
        refine W.eq (g2 := F0 m 27 ls [.int (vA S 0 (vh S % 6))]) rfl ?_
        refine g_top (y := (3 : Int32)) ef ?_
        refine lv_iconst (v := 2) hx hb dX4_pass_27 (by decide) ?_
        refine lv_icmp_ne (tgt := 36) hx hb dX4_pass_28 (by decide) (fun c28 => ?_) (fun c28 => ?_)
        · refine lv_iconst (v := (-1)) hx hb dX4_pass_36 (by decide) ?_
          exact j37 (-1 : Int32) (by rw [ef, natI_nI (by decide)]; rfl) _ _ _ HW (lv_sub hl [0] rfl)
        · exact absurd c28 (by decide)
      · exact absurd c16 (by decide)
    · exact absurd c4 (by decide)

theorem hd_X4_pass_ : yX4_pass_.cls ≠ "java/lang/invoke/MethodHandle" ∧ yX4_pass_.cls ≠ "java/lang/invoke/VarHandle" ∧ (parseMethodDescriptor yX4_pass_.desc).map (fun d => d.parameters.length) = some 1 := by decide +kernel
set_option maxRecDepth 100000 in
set_option maxHeartbeats 4000000 in
theorem c_X4_pass_ {l : Launch} {D : va_G} {cI cL : ClassId} {a : Nat → Nat} (om : Nat) (o : Nat) (S : VS) (th : Int32) (my : Nat → Int32) (qu : Nat → Int32) (h : Nat) (hI : Inv S) (hQ : Qk (vs S) (vq S)) (hM : RepM (vq S) my qu) (hh9 : h ≤ 90) (hh : vh S + h < 2 ^ 31) : Ct l yX4_pass_ wsX4_pass_ { frames := 5, cells := 0, slots := 0, locals := 115 } D (ty2 cI cL) [.ref (a o), .int (nI h)] (wMo cI a om th (vA S 0) (vA S 1) (vr S) (vA S 3) (vA S 4) (vs S) (vA S 7) ++ (wMS cI a o (a om) (vh S) (vc S) (sumP S) (vA S 5) (vA S 6) (vA S 8) (vA S 9) (vA S 10) (vA S 11) (vA S 12) (vA S 2) my qu)) (fun v w' => ∃ (my' : Nat → Int32) (qu' : Nat → Int32), (RepM (vq (hoursS h S)) my' qu') ∧ v = none ∧ w' = wMo cI a om th (vA (hoursS h S) 0) (vA (hoursS h S) 1) (vr (hoursS h S)) (vA (hoursS h S) 3) (vA (hoursS h S) 4) (vs (hoursS h S)) (vA (hoursS h S) 7) ++ (wMS cI a o (a om) (vh (hoursS h S)) (vc (hoursS h S)) (sumP (hoursS h S)) (vA (hoursS h S) 5) (vA (hoursS h S) 6) (vA (hoursS h S) 8) (vA (hoursS h S) 9) (vA (hoursS h S) 10) (vA (hoursS h S) 11) (vA (hoursS h S) 12) (vA (hoursS h S) 2) my' qu')) 0 0 := by
  refine Ct.of (cc := cX4_pass_) (maxL := 3) (ret := none) (by decide) rfl (Nat.le_of_ble_eq_true rfl) ?_
  intro p e s m below meth c A ls CX hin HW hl
  obtain ⟨hx, hb, hml, hr, hown, hts, hK, hA, hlk⟩ := id CX
  have hl : lv_has ls 3 [(0, .ref (a o)), (1, .int (nI h))] := hl
  have loop : ∀ (d0 : Nat) (i : Nat) (my : Nat → Int32) (qu : Nat → Int32), h - i = d0 → (i ≤ h) → (RepM (vq (hoursS i S)) my qu) → ∀ (H : Heap) (locs : List Loc) (ls : Array Slot), Hw D A s (wMo cI a om th (vA (hoursS i S) 0) (vA (hoursS i S) 1) (vr (hoursS i S)) (vA (hoursS i S) 3) (vA (hoursS i S) 4) (vs (hoursS i S)) (vA (hoursS i S) 7) ++ (wMS cI a o (a om) (vh (hoursS i S)) (vc (hoursS i S)) (sumP (hoursS i S)) (vA (hoursS i S) 5) (vA (hoursS i S) 6) (vA (hoursS i S) 8) (vA (hoursS i S) 9) (vA (hoursS i S) 10) (vA (hoursS i S) 11) (vA (hoursS i S) 12) (vA (hoursS i S) 2) my qu)) H locs → lv_has ls 3 [(2, .int (nI i)), (1, .int (nI h)), (0, .ref (a o))] → W p l e ({ frames := 5, cells := 0, slots := 0, locals := 115 } : Room) s m ([.ref (a o), .int (nI h)] : List Value).toArray below meth c H locs 0 0 (MQ below (cQ D A (fun v w' => ∃ (my' : Nat → Int32) (qu' : Nat → Int32), (RepM (vq (hoursS h S)) my' qu') ∧ v = none ∧ w' = wMo cI a om th (vA (hoursS h S) 0) (vA (hoursS h S) 1) (vr (hoursS h S)) (vA (hoursS h S) 3) (vA (hoursS h S) 4) (vs (hoursS h S)) (vA (hoursS h S) 7) ++ (wMS cI a o (a om) (vh (hoursS h S)) (vc (hoursS h S)) (sumP (hoursS h S)) (vA (hoursS h S) 5) (vA (hoursS h S) 6) (vA (hoursS h S) 8) (vA (hoursS h S) 9) (vA (hoursS h S) 10) (vA (hoursS h S) 11) (vA (hoursS h S) 12) (vA (hoursS h S) 2) my' qu'))) ([.ref (a o), .int (nI h)] : List Value).toArray s 0 0 A) (F0 m 2 ls []) := by
    intro d0
    induction d0 using Nat.strongRecOn with
    | _ d0 ih =>
      intro i my qu hd0 hi hM H locs ls HW hl
      refine lv_iload_n hx hb dX4_pass__2 rfl (lv_at hl 0 rfl) ?_
      refine lv_iload_n hx hb dX4_pass__3 rfl (lv_at hl 1 rfl) ?_
      refine lv_icmp_ge (tgt := 17) hx hb dX4_pass__4 (by decide) (fun c4 => ?_) (fun c4 => ?_)
      · have c4 := (nI_leI (by omega) (by omega)).mp c4
        obtain rfl : i = h := by omega
        exact g_vret CX HW rfl ⟨my, qu, hM, rfl, rfl⟩ dX4_pass__17
      · have c4 : i < h := nI_lt_of (by omega) (by omega) c4
        have hIQ := InvQ_hoursS hI hQ i
        refine lv_aload_n hx hb dX4_pass__7 rfl (lv_at hl 2 rfl) ?_
        refine g_callV CX HW hl.1 ([]) ([]) (c_X4_pass om o (hoursS i S) th my qu hIQ.1 hIQ.2 hM (by rw [vh_hoursS]; omega)) rfl 6 rfl rfl gX4_pass__X4_pass rfl ⟨rfl, hd_X4_pass⟩ ⟨rfl, rfl, (Nat.le_of_ble_eq_true rfl), (Nat.le_of_ble_eq_true rfl)⟩ ⟨(Nat.zero_le _), (Nat.zero_le _)⟩ rfl rfl (Nat.le_of_ble_eq_true rfl) dX4_pass__8 (fun v w1 H locs hp HW => ?_)
        obtain ⟨my'_1, qu'_1, hM9_1, rfl, rfl⟩ := hp
        have HW : Hw D A s (wMo cI a om th (vA (hourS (hoursS i S)) 0) (vA (hourS (hoursS i S)) 1) (vr (hourS (hoursS i S))) (vA (hourS (hoursS i S)) 3) (vA (hourS (hoursS i S)) 4) (vs (hourS (hoursS i S))) (vA (hourS (hoursS i S)) 7) ++ (wMS cI a o (a om) (vh (hourS (hoursS i S))) (vc (hourS (hoursS i S))) (sumP (hourS (hoursS i S))) (vA (hourS (hoursS i S)) 5) (vA (hourS (hoursS i S)) 6) (vA (hourS (hoursS i S)) 8) (vA (hourS (hoursS i S)) 9) (vA (hourS (hoursS i S)) 10) (vA (hourS (hoursS i S)) 11) (vA (hourS (hoursS i S)) 12) (vA (hourS (hoursS i S)) 2) my'_1 qu'_1)) H locs := HW
        refine W.eq (g2 := F0 m 11 ls []) rfl ?_
        refine lv_iinc (v := (nI (i + 1))) (lv' := [(2, .int (nI (i + 1))), (1, .int (nI h)), (0, .ref (a o))]) hx hb dX4_pass__11 hl (k := 0) rfl (inc1 _) (Nat.le_of_ble_eq_true rfl) rfl (fun ls hl => ?_)
        refine lv_goto (tgt := 2) hx hb dX4_pass__14 (by decide) ?_
        exact ih _ (by omega) (i + 1) _ _ rfl (by omega) hM9_1 _ _ _ HW (lv_sub hl [0, 1, 2] rfl)
  refine lv_iconst (v := 0) hx hb dX4_pass__0 (by decide) ?_
  refine lv_istore_n (lv' := [(2, .int (0 : Int32)), (0, .ref (a o)), (1, .int (nI h))]) hx hb dX4_pass__1 rfl hl (Nat.le_of_ble_eq_true rfl) rfl (fun ls hl => ?_)
  exact loop _ 0 my qu rfl (by omega) hM _ _ _ HW (lv_sub hl [0, 2, 1] rfl)

theorem hd_X4_flagged : yX4_flagged.cls ≠ "java/lang/invoke/MethodHandle" ∧ yX4_flagged.cls ≠ "java/lang/invoke/VarHandle" ∧ (parseMethodDescriptor yX4_flagged.desc).map (fun d => d.parameters.length) = some 0 := by decide +kernel
theorem fl_X4_flagged_3 : Cond.fieldLink RX4 3 (TX4 13).1 (TX4 13).2.1 (TX4 13).2.2.1 ∈ wsX4_flagged := by decide +kernel
theorem in_X4_flagged_4 : ∀ x ∈ u_ws RX4 TX4 14, x ∈ wsX4_flagged := by decide +kernel
theorem in_X4_flagged_5 : ∀ x ∈ u_ws RX5 TX5 10, x ∈ wsX4_flagged := by decide +kernel
set_option maxRecDepth 100000 in
set_option maxHeartbeats 4000000 in
theorem c_X4_flagged {l : Launch} {D : va_G} {cI cL : ClassId} {a : Nat → Nat} (om : Nat) (o : Nat) (S : VS) (th : Int32) (ri : Int32) (my : Nat → Int32) (qu : Nat → Int32) (hn : vr S ≤ 6) : Ct l yX4_flagged wsX4_flagged { frames := 1, cells := 0, slots := 0, locals := 21 } D (ty2 cI cL) [.ref (a o)] (wMo cI a om th (vA S 0) (vA S 1) (vr S) (vA S 3) (vA S 4) (vs S) (vA S 7) ++ (wMS cI a o (a om) (vh S) (vc S) ri (vA S 5) (vA S 6) (vA S 8) (vA S 9) (vA S 10) (vA S 11) (vA S 12) (vA S 2) my qu)) (fun v w' => v = some (.int (flagN (vA S 5) (vA S 4) (vr S))) ∧ w' = wMo cI a om th (vA S 0) (vA S 1) (vr S) (vA S 3) (vA S 4) (vs S) (vA S 7) ++ (wMS cI a o (a om) (vh S) (vc S) ri (vA S 5) (vA S 6) (vA S 8) (vA S 9) (vA S 10) (vA S 11) (vA S 12) (vA S 2) my qu)) 0 0 := by
  refine Ct.of (cc := cX4_flagged) (maxL := 3) (ret := (some .int)) (by decide) rfl (Nat.le_of_ble_eq_true rfl) ?_
  intro p e s m below meth c A ls CX hin HW hl
  obtain ⟨hx, hb, hml, hr, hown, hts, hK, hA, hlk⟩ := id CX
  have hl : lv_has ls 3 [(0, .ref (a o))] := hl
  have loop : ∀ (d0 : Nat) (i : Nat), vr S - i = d0 → (i ≤ vr S) → ∀ (H : Heap) (locs : List Loc) (ls : Array Slot), Hw D A s (wMo cI a om th (vA S 0) (vA S 1) (vr S) (vA S 3) (vA S 4) (vs S) (vA S 7) ++ (wMS cI a o (a om) (vh S) (vc S) ri (vA S 5) (vA S 6) (vA S 8) (vA S 9) (vA S 10) (vA S 11) (vA S 12) (vA S 2) my qu)) H locs → lv_has ls 3 [(2, .int (nI i)), (1, .int (flagN (vA S 5) (vA S 4) i)), (0, .ref (a o))] → W p l e ({ frames := 1, cells := 0, slots := 0, locals := 21 } : Room) s m ([.ref (a o)] : List Value).toArray below meth c H locs 0 0 (MQ below (cQ D A (fun v w' => v = some (.int (flagN (vA S 5) (vA S 4) (vr S))) ∧ w' = wMo cI a om th (vA S 0) (vA S 1) (vr S) (vA S 3) (vA S 4) (vs S) (vA S 7) ++ (wMS cI a o (a om) (vh S) (vc S) ri (vA S 5) (vA S 6) (vA S 8) (vA S 9) (vA S 10) (vA S 11) (vA S 12) (vA S 2) my qu))) ([.ref (a o)] : List Value).toArray s 0 0 A) (F0 m 4 ls []) := by
    intro d0
    induction d0 using Nat.strongRecOn with
    | _ d0 ih =>
      intro i hd0 hi H locs ls HW hl
      refine lv_iload_n hx hb dX4_flagged_4 rfl (lv_at hl 0 rfl) ?_
      refine lv_aload_n hx hb dX4_flagged_5 rfl (lv_at hl 2 rfl) ?_
      refine g_get CX HW in_X4_flagged_4 6 13 rfl rfl (Nat.le_of_ble_eq_true rfl) fl_X4_flagged_3 rfl dX4_flagged_6 ?_
      refine g_getN (host := "PommelTowsModel") CX HW in_X4_flagged_5 0 3 rfl rfl (Nat.le_of_ble_eq_true rfl) (by decide +kernel) rfl dX4_flagged_9 ?_
      refine lv_icmp_ge (tgt := 37) hx hb dX4_flagged_12 (by decide) (fun c12 => ?_) (fun c12 => ?_)
      · have c12 := (nI_leI (by omega) (by omega)).mp c12
        obtain rfl : i = vr S := by omega
        refine lv_iload_n hx hb dX4_flagged_37 rfl (lv_at hl 1 rfl) ?_
        exact g_iret CX HW rfl ⟨rfl, rfl⟩ dX4_flagged_38
      · have c12 : i < vr S := nI_lt_of (by omega) (by omega) c12
        refine lv_iload_n hx hb dX4_flagged_15 rfl (lv_at hl 1 rfl) ?_
        refine lv_aload_n hx hb dX4_flagged_16 rfl (lv_at hl 2 rfl) ?_
        refine lv_iload_n hx hb dX4_flagged_17 rfl (lv_at hl 0 rfl) ?_
        refine g_callV CX HW hl.1 ([]) ([]) (c_X4_isFlagged om o S th ri my qu i (by omega)) rfl 6 rfl rfl gX4_flagged_X4_isFlagged rfl ⟨rfl, hd_X4_isFlagged⟩ ⟨rfl, rfl, (Nat.le_of_ble_eq_true rfl), (Nat.le_of_ble_eq_true rfl)⟩ ⟨(Nat.zero_le _), (Nat.zero_le _)⟩ rfl rfl (Nat.le_of_ble_eq_true rfl) dX4_flagged_18 (fun v w1 H locs hp HW => ?_)
        obtain ⟨rfl, rfl⟩ := hp
        have HW : Hw D A s (wMo cI a om th (vA S 0) (vA S 1) (vr S) (vA S 3) (vA S 4) (vs S) (vA S 7) ++ (wMS cI a o (a om) (vh S) (vc S) ri (vA S 5) (vA S 6) (vA S 8) (vA S 9) (vA S 10) (vA S 11) (vA S 12) (vA S 2) my qu)) H locs := HW
        refine W.eq (g2 := F0 m 21 ls [.int (bI (¬ opn (vA S 5) (vA S 4) i)), .int (flagN (vA S 5) (vA S 4) i)]) rfl ?_
        refine g_ifeq_b (tgt := 28) hx hb dX4_flagged_21 (by decide) (fun c21 => ?_) (fun c21 => ?_)
        · refine lv_iconst (v := 0) hx hb dX4_flagged_28 (by decide) ?_
          refine lv_iadd hx hb dX4_flagged_29 ?_
          refine lv_istore_n (lv' := [(1, .int ((flagN (vA S 5) (vA S 4) i) + (0 : Int32))), (2, .int (nI i)), (0, .ref (a o))]) hx hb dX4_flagged_30 rfl hl (Nat.le_of_ble_eq_true rfl) rfl (fun ls hl => ?_)
          refine lv_iinc (v := (nI (i + 1))) (lv' := [(2, .int (nI (i + 1))), (1, .int ((flagN (vA S 5) (vA S 4) i) + (0 : Int32))), (0, .ref (a o))]) hx hb dX4_flagged_31 hl (k := 1) rfl (inc1 _) (Nat.le_of_ble_eq_true rfl) rfl (fun ls hl => ?_)
          refine lv_goto (tgt := 4) hx hb dX4_flagged_34 (by decide) ?_
          have hl9 : ((flagN (vA S 5) (vA S 4) i) + (0 : Int32)) = (flagN (vA S 5) (vA S 4) (i + 1)) := by simp only [flagN]; rw [if_pos (Decidable.byContradiction c21), Int32.add_zero]
          rw [hl9] at hl
          exact ih _ (by omega) (i + 1) rfl (by omega) _ _ _ HW (lv_sub hl [0, 1, 2] rfl)
        · refine lv_iconst (v := 1) hx hb dX4_flagged_24 (by decide) ?_
          refine lv_goto (tgt := 29) hx hb dX4_flagged_25 (by decide) ?_
          refine lv_iadd hx hb dX4_flagged_29 ?_
          refine lv_istore_n (lv' := [(1, .int ((flagN (vA S 5) (vA S 4) i) + (1 : Int32))), (2, .int (nI i)), (0, .ref (a o))]) hx hb dX4_flagged_30 rfl hl (Nat.le_of_ble_eq_true rfl) rfl (fun ls hl => ?_)
          refine lv_iinc (v := (nI (i + 1))) (lv' := [(2, .int (nI (i + 1))), (1, .int ((flagN (vA S 5) (vA S 4) i) + (1 : Int32))), (0, .ref (a o))]) hx hb dX4_flagged_31 hl (k := 1) rfl (inc1 _) (Nat.le_of_ble_eq_true rfl) rfl (fun ls hl => ?_)
          refine lv_goto (tgt := 4) hx hb dX4_flagged_34 (by decide) ?_
          have hl9 : ((flagN (vA S 5) (vA S 4) i) + (1 : Int32)) = (flagN (vA S 5) (vA S 4) (i + 1)) := by simp only [flagN]; rw [if_neg c21]
          rw [hl9] at hl
          exact ih _ (by omega) (i + 1) rfl (by omega) _ _ _ HW (lv_sub hl [0, 1, 2] rfl)
  refine lv_iconst (v := 0) hx hb dX4_flagged_0 (by decide) ?_
  refine lv_istore_n (lv' := [(1, .int (0 : Int32)), (0, .ref (a o))]) hx hb dX4_flagged_1 rfl hl (Nat.le_of_ble_eq_true rfl) rfl (fun ls hl => ?_)
  refine lv_iconst (v := 0) hx hb dX4_flagged_2 (by decide) ?_
  refine lv_istore_n (lv' := [(2, .int (0 : Int32)), (1, .int (0 : Int32)), (0, .ref (a o))]) hx hb dX4_flagged_3 rfl hl (Nat.le_of_ble_eq_true rfl) rfl (fun ls hl => ?_)
  exact loop _ 0 rfl (by omega) _ _ _ HW (lv_sub hl [0, 1, 2] rfl)

theorem hd_X4_standing : yX4_standing.cls ≠ "java/lang/invoke/MethodHandle" ∧ yX4_standing.cls ≠ "java/lang/invoke/VarHandle" ∧ (parseMethodDescriptor yX4_standing.desc).map (fun d => d.parameters.length) = some 0 := by decide +kernel
theorem fl_X4_standing_40 : Cond.fieldLink RX4 40 (TX4 11).1 (TX4 11).2.1 (TX4 11).2.2.1 ∈ wsX4_standing := by decide +kernel
theorem in_X4_standing_4 : ∀ x ∈ u_ws RX4 TX4 14, x ∈ wsX4_standing := by decide +kernel
set_option maxRecDepth 100000 in
set_option maxHeartbeats 4000000 in
theorem c_X4_standing {l : Launch} {D : va_G} {cI cL : ClassId} {a : Nat → Nat} (om : Nat) (o : Nat) (S : VS) (th : Int32) (ri : Int32) (my : Nat → Int32) (qu : Nat → Int32) (hM : RepM (vq S) my qu) : Ct l yX4_standing wsX4_standing { frames := 0, cells := 0, slots := 0, locals := 0 } D (ty2 cI cL) [.ref (a o)] (wMo cI a om th (vA S 0) (vA S 1) (vr S) (vA S 3) (vA S 4) (vs S) (vA S 7) ++ (wMS cI a o (a om) (vh S) (vc S) ri (vA S 5) (vA S 6) (vA S 8) (vA S 9) (vA S 10) (vA S 11) (vA S 12) (vA S 2) my qu)) (fun v w' => v = some (.int (nI ((vq S 0).length + (vq S 1).length + (vq S 2).length))) ∧ w' = wMo cI a om th (vA S 0) (vA S 1) (vr S) (vA S 3) (vA S 4) (vs S) (vA S 7) ++ (wMS cI a o (a om) (vh S) (vc S) ri (vA S 5) (vA S 6) (vA S 8) (vA S 9) (vA S 10) (vA S 11) (vA S 12) (vA S 2) my qu)) 0 0 := by
  refine Ct.of (cc := cX4_standing) (maxL := 1) (ret := (some .int)) (by decide) rfl (Nat.le_of_ble_eq_true rfl) ?_
  intro p e s m below meth c A ls CX hin HW hl
  obtain ⟨hx, hb, hml, hr, hown, hts, hK, hA, hlk⟩ := id CX
  have hl : lv_has ls 1 [(0, .ref (a o))] := hl
  refine lv_aload_n hx hb dX4_standing_0 rfl (lv_at hl 0 rfl) ?_
  refine g_get CX HW in_X4_standing_4 6 11 rfl rfl (Nat.le_of_ble_eq_true rfl) fl_X4_standing_40 rfl dX4_standing_1 ?_
  refine lv_iconst (v := 0) hx hb dX4_standing_4 (by decide) ?_
  refine g_ald CX HW 15 (k := 0) rfl rfl rfl (Nat.le_of_ble_eq_true rfl) (Nat.le_of_ble_eq_true rfl) dX4_standing_5 ?_
  refine g_top (y := (nI (vq S 0).length)) (hM 0 (by decide)).1.1 ?_
  refine lv_aload_n hx hb dX4_standing_6 rfl (lv_at hl 0 rfl) ?_
  refine g_get CX HW in_X4_standing_4 6 11 rfl rfl (Nat.le_of_ble_eq_true rfl) fl_X4_standing_40 rfl dX4_standing_7 ?_
  refine lv_iconst (v := 1) hx hb dX4_standing_10 (by decide) ?_
  refine g_ald CX HW 15 (k := 1) rfl rfl rfl (Nat.le_of_ble_eq_true rfl) (Nat.le_of_ble_eq_true rfl) dX4_standing_11 ?_
  refine g_top (y := (nI (vq S 1).length)) (hM 1 (by decide)).1.1 ?_
  refine lv_iadd hx hb dX4_standing_12 ?_
  refine g_top (y := (nI ((vq S 0).length + (vq S 1).length))) (nI_add _ _) ?_
  refine lv_aload_n hx hb dX4_standing_13 rfl (lv_at hl 0 rfl) ?_
  refine g_get CX HW in_X4_standing_4 6 11 rfl rfl (Nat.le_of_ble_eq_true rfl) fl_X4_standing_40 rfl dX4_standing_14 ?_
  refine lv_iconst (v := 2) hx hb dX4_standing_17 (by decide) ?_
  refine g_ald CX HW 15 (k := 2) rfl rfl rfl (Nat.le_of_ble_eq_true rfl) (Nat.le_of_ble_eq_true rfl) dX4_standing_18 ?_
  refine g_top (y := (nI (vq S 2).length)) (hM 2 (by decide)).1.1 ?_
  refine lv_iadd hx hb dX4_standing_19 ?_
  refine g_top (y := (nI ((vq S 0).length + (vq S 1).length + (vq S 2).length))) (nI_add _ _) ?_
  exact g_iret CX HW rfl ⟨rfl, rfl⟩ dX4_standing_20

theorem hd_X4_allPoints : yX4_allPoints.cls ≠ "java/lang/invoke/MethodHandle" ∧ yX4_allPoints.cls ≠ "java/lang/invoke/VarHandle" ∧ (parseMethodDescriptor yX4_allPoints.desc).map (fun d => d.parameters.length) = some 0 := by decide +kernel
theorem fl_X4_allPoints_3 : Cond.fieldLink RX4 3 (TX4 13).1 (TX4 13).2.1 (TX4 13).2.2.1 ∈ wsX4_allPoints := by decide +kernel
theorem in_X4_allPoints_4 : ∀ x ∈ u_ws RX4 TX4 14, x ∈ wsX4_allPoints := by decide +kernel
theorem in_X4_allPoints_5 : ∀ x ∈ u_ws RX5 TX5 10, x ∈ wsX4_allPoints := by decide +kernel
theorem fl_X4_allPoints_31 : Cond.fieldLink RX4 31 (TX4 8).1 (TX4 8).2.1 (TX4 8).2.2.1 ∈ wsX4_allPoints := by decide +kernel
set_option maxRecDepth 100000 in
set_option maxHeartbeats 4000000 in
theorem c_X4_allPoints {l : Launch} {D : va_G} {cI cL : ClassId} {a : Nat → Nat} (om : Nat) (o : Nat) (S : VS) (th : Int32) (ri : Int32) (my : Nat → Int32) (qu : Nat → Int32) (hn : vs S ≤ 8) : Ct l yX4_allPoints wsX4_allPoints { frames := 0, cells := 0, slots := 0, locals := 0 } D (ty2 cI cL) [.ref (a o)] (wMo cI a om th (vA S 0) (vA S 1) (vr S) (vA S 3) (vA S 4) (vs S) (vA S 7) ++ (wMS cI a o (a om) (vh S) (vc S) ri (vA S 5) (vA S 6) (vA S 8) (vA S 9) (vA S 10) (vA S 11) (vA S 12) (vA S 2) my qu)) (fun v w' => v = some (.int (sumN (vA S 11) (vs S))) ∧ w' = wMo cI a om th (vA S 0) (vA S 1) (vr S) (vA S 3) (vA S 4) (vs S) (vA S 7) ++ (wMS cI a o (a om) (vh S) (vc S) ri (vA S 5) (vA S 6) (vA S 8) (vA S 9) (vA S 10) (vA S 11) (vA S 12) (vA S 2) my qu)) 0 0 := by
  refine Ct.of (cc := cX4_allPoints) (maxL := 3) (ret := (some .int)) (by decide) rfl (Nat.le_of_ble_eq_true rfl) ?_
  intro p e s m below meth c A ls CX hin HW hl
  obtain ⟨hx, hb, hml, hr, hown, hts, hK, hA, hlk⟩ := id CX
  have hl : lv_has ls 3 [(0, .ref (a o))] := hl
  have loop : ∀ (d0 : Nat) (i : Nat), vs S - i = d0 → (i ≤ vs S) → ∀ (H : Heap) (locs : List Loc) (ls : Array Slot), Hw D A s (wMo cI a om th (vA S 0) (vA S 1) (vr S) (vA S 3) (vA S 4) (vs S) (vA S 7) ++ (wMS cI a o (a om) (vh S) (vc S) ri (vA S 5) (vA S 6) (vA S 8) (vA S 9) (vA S 10) (vA S 11) (vA S 12) (vA S 2) my qu)) H locs → lv_has ls 3 [(2, .int (nI i)), (1, .int (sumN (vA S 11) i)), (0, .ref (a o))] → W p l e ({ frames := 0, cells := 0, slots := 0, locals := 0 } : Room) s m ([.ref (a o)] : List Value).toArray below meth c H locs 0 0 (MQ below (cQ D A (fun v w' => v = some (.int (sumN (vA S 11) (vs S))) ∧ w' = wMo cI a om th (vA S 0) (vA S 1) (vr S) (vA S 3) (vA S 4) (vs S) (vA S 7) ++ (wMS cI a o (a om) (vh S) (vc S) ri (vA S 5) (vA S 6) (vA S 8) (vA S 9) (vA S 10) (vA S 11) (vA S 12) (vA S 2) my qu))) ([.ref (a o)] : List Value).toArray s 0 0 A) (F0 m 4 ls []) := by
    intro d0
    induction d0 using Nat.strongRecOn with
    | _ d0 ih =>
      intro i hd0 hi H locs ls HW hl
      refine lv_iload_n hx hb dX4_allPoints_4 rfl (lv_at hl 0 rfl) ?_
      refine lv_aload_n hx hb dX4_allPoints_5 rfl (lv_at hl 2 rfl) ?_
      refine g_get CX HW in_X4_allPoints_4 6 13 rfl rfl (Nat.le_of_ble_eq_true rfl) fl_X4_allPoints_3 rfl dX4_allPoints_6 ?_
      refine g_getN (host := "PommelTowsModel") CX HW in_X4_allPoints_5 0 6 rfl rfl (Nat.le_of_ble_eq_true rfl) (by decide +kernel) rfl dX4_allPoints_9 ?_
      refine lv_icmp_ge (tgt := 30) hx hb dX4_allPoints_12 (by decide) (fun c12 => ?_) (fun c12 => ?_)
      · have c12 := (nI_leI (by omega) (by omega)).mp c12
        obtain rfl : i = vs S := by omega
        refine lv_iload_n hx hb dX4_allPoints_30 rfl (lv_at hl 1 rfl) ?_
        exact g_iret CX HW rfl ⟨rfl, rfl⟩ dX4_allPoints_31
      · have c12 : i < vs S := nI_lt_of (by omega) (by omega) c12
        refine lv_iload_n hx hb dX4_allPoints_15 rfl (lv_at hl 1 rfl) ?_
        refine lv_aload_n hx hb dX4_allPoints_16 rfl (lv_at hl 2 rfl) ?_
        refine g_get CX HW in_X4_allPoints_4 6 8 rfl rfl (Nat.le_of_ble_eq_true rfl) fl_X4_allPoints_31 rfl dX4_allPoints_17 ?_
        refine lv_iload_n hx hb dX4_allPoints_20 rfl (lv_at hl 0 rfl) ?_
        refine g_ald CX HW 12 (k := i) rfl rfl rfl (by omega) (Nat.le_of_ble_eq_true rfl) dX4_allPoints_21 ?_
        refine lv_iadd hx hb dX4_allPoints_22 ?_
        refine lv_istore_n (lv' := [(1, .int ((sumN (vA S 11) i) + (vA S 11 i))), (2, .int (nI i)), (0, .ref (a o))]) hx hb dX4_allPoints_23 rfl hl (Nat.le_of_ble_eq_true rfl) rfl (fun ls hl => ?_)
        refine lv_iinc (v := (nI (i + 1))) (lv' := [(2, .int (nI (i + 1))), (1, .int ((sumN (vA S 11) i) + (vA S 11 i))), (0, .ref (a o))]) hx hb dX4_allPoints_24 hl (k := 1) rfl (inc1 _) (Nat.le_of_ble_eq_true rfl) rfl (fun ls hl => ?_)
        refine lv_goto (tgt := 4) hx hb dX4_allPoints_27 (by decide) ?_
        exact ih _ (by omega) (i + 1) rfl (by omega) _ _ _ HW (lv_sub hl [0, 1, 2] rfl)
  refine lv_iconst (v := 0) hx hb dX4_allPoints_0 (by decide) ?_
  refine lv_istore_n (lv' := [(1, .int (0 : Int32)), (0, .ref (a o))]) hx hb dX4_allPoints_1 rfl hl (Nat.le_of_ble_eq_true rfl) rfl (fun ls hl => ?_)
  refine lv_iconst (v := 0) hx hb dX4_allPoints_2 (by decide) ?_
  refine lv_istore_n (lv' := [(2, .int (0 : Int32)), (1, .int (0 : Int32)), (0, .ref (a o))]) hx hb dX4_allPoints_3 rfl hl (Nat.le_of_ble_eq_true rfl) rfl (fun ls hl => ?_)
  exact loop _ 0 rfl (by omega) _ _ _ HW (lv_sub hl [0, 1, 2] rfl)

theorem hd_X4_counted : yX4_counted.cls ≠ "java/lang/invoke/MethodHandle" ∧ yX4_counted.cls ≠ "java/lang/invoke/VarHandle" ∧ (parseMethodDescriptor yX4_counted.desc).map (fun d => d.parameters.length) = some 1 := by decide +kernel
theorem fl_X4_counted_46 : Cond.fieldLink RX4 46 (TX4 0).1 (TX4 0).2.1 (TX4 0).2.2.1 ∈ wsX4_counted := by decide +kernel
theorem in_X4_counted_4 : ∀ x ∈ u_ws RX4 TX4 14, x ∈ wsX4_counted := by decide +kernel
theorem fl_X4_counted_50 : Cond.fieldLink RX4 50 (TX4 1).1 (TX4 1).2.1 (TX4 1).2.2.1 ∈ wsX4_counted := by decide +kernel
theorem fl_X4_counted_3 : Cond.fieldLink RX4 3 (TX4 13).1 (TX4 13).2.1 (TX4 13).2.2.1 ∈ wsX4_counted := by decide +kernel
theorem in_X4_counted_5 : ∀ x ∈ u_ws RX5 TX5 10, x ∈ wsX4_counted := by decide +kernel
theorem fl_X4_counted_53 : Cond.fieldLink RX4 53 (TX4 2).1 (TX4 2).2.1 (TX4 2).2.2.1 ∈ wsX4_counted := by decide +kernel
set_option maxRecDepth 100000 in
set_option maxHeartbeats 4000000 in
theorem c_X4_counted {l : Launch} {D : va_G} {cI cL : ClassId} {a : Nat → Nat} (om : Nat) (o : Nat) (S : VS) (th : Int32) (my : Nat → Int32) (qu : Nat → Int32) (what : Nat) (hM : RepM (vq S) my qu) (hr6 : vr S ≤ 6) (hn : vs S ≤ 8) (hh : vh S < 2 ^ 31) (hw9 : what < 9) : Ct l yX4_counted wsX4_counted { frames := 2, cells := 0, slots := 0, locals := 43 } D (ty2 cI cL) [.ref (a o), .int (nI what)] (wMo cI a om th (vA S 0) (vA S 1) (vr S) (vA S 3) (vA S 4) (vs S) (vA S 7) ++ (wMS cI a o (a om) (vh S) (vc S) (sumP S) (vA S 5) (vA S 6) (vA S 8) (vA S 9) (vA S 10) (vA S 11) (vA S 12) (vA S 2) my qu)) (fun v w' => v = some (.int (figV S what)) ∧ w' = wMo cI a om th (vA S 0) (vA S 1) (vr S) (vA S 3) (vA S 4) (vs S) (vA S 7) ++ (wMS cI a o (a om) (vh S) (vc S) (sumP S) (vA S 5) (vA S 6) (vA S 8) (vA S 9) (vA S 10) (vA S 11) (vA S 12) (vA S 2) my qu)) 0 0 := by
  refine Ct.of (cc := cX4_counted) (maxL := 2) (ret := (some .int)) (by decide) rfl (Nat.le_of_ble_eq_true rfl) ?_
  intro p e s m below meth c A ls CX hin HW hl
  obtain ⟨hx, hb, hml, hr, hown, hts, hK, hA, hlk⟩ := id CX
  have hl : lv_has ls 2 [(0, .ref (a o)), (1, .int (nI what))] := hl
  refine lv_iload_n hx hb dX4_counted_0 rfl (lv_at hl 1 rfl) ?_
  rcases (by omega : what = 0 ∨ what = 1 ∨ what = 2 ∨ what = 3 ∨ what = 4 ∨ what = 5 ∨ what = 6 ∨ what = 7 ∨ what = 8) with rfl | rfl | rfl | rfl | rfl | rfl | rfl | rfl | rfl
  · refine lv_tableIn (off := 47) (tgt := 48) hx hb dX4_counted_1 (by decide) (by decide) (by decide) (by decide) ?_
    refine lv_aload_n hx hb dX4_counted_48 rfl (lv_at hl 0 rfl) ?_
    refine g_get CX HW in_X4_counted_4 6 0 rfl rfl (Nat.le_of_ble_eq_true rfl) fl_X4_counted_46 rfl dX4_counted_49 ?_
    exact g_iret CX HW rfl ⟨rfl, rfl⟩ dX4_counted_52
  · refine lv_tableIn (off := 52) (tgt := 53) hx hb dX4_counted_1 (by decide) (by decide) (by decide) (by decide) ?_
    refine lv_aload_n hx hb dX4_counted_53 rfl (lv_at hl 0 rfl) ?_
    refine g_callV CX HW hl.1 ([]) ([]) (c_X4_flake om o S th (sumP S) my qu hh) rfl 6 rfl rfl gX4_counted_X4_flake rfl ⟨rfl, hd_X4_flake⟩ ⟨rfl, rfl, (Nat.le_of_ble_eq_true rfl), (Nat.le_of_ble_eq_true rfl)⟩ ⟨(Nat.zero_le _), (Nat.zero_le _)⟩ rfl rfl (Nat.le_of_ble_eq_true rfl) dX4_counted_54 (fun v w1 H locs hp HW => ?_)
    obtain ⟨rfl, rfl⟩ := hp
    have HW : Hw D A s (wMo cI a om th (vA S 0) (vA S 1) (vr S) (vA S 3) (vA S 4) (vs S) (vA S 7) ++ (wMS cI a o (a om) (vh S) (vc S) (sumP S) (vA S 5) (vA S 6) (vA S 8) (vA S 9) (vA S 10) (vA S 11) (vA S 12) (vA S 2) my qu)) H locs := HW
    refine W.eq (g2 := F0 m 57 ls [.int (vA S 0 (vh S % 6))]) rfl ?_
    exact g_iret CX HW rfl ⟨rfl, rfl⟩ dX4_counted_57
  · refine lv_tableIn (off := 57) (tgt := 58) hx hb dX4_counted_1 (by decide) (by decide) (by decide) (by decide) ?_
    refine lv_aload_n hx hb dX4_counted_58 rfl (lv_at hl 0 rfl) ?_
    refine g_get CX HW in_X4_counted_4 6 1 rfl rfl (Nat.le_of_ble_eq_true rfl) fl_X4_counted_50 rfl dX4_counted_59 ?_
    exact g_iret CX HW rfl ⟨rfl, rfl⟩ dX4_counted_62
  · refine lv_tableIn (off := 62) (tgt := 63) hx hb dX4_counted_1 (by decide) (by decide) (by decide) (by decide) ?_
    refine lv_aload_n hx hb dX4_counted_63 rfl (lv_at hl 0 rfl) ?_
    refine g_get CX HW in_X4_counted_4 6 13 rfl rfl (Nat.le_of_ble_eq_true rfl) fl_X4_counted_3 rfl dX4_counted_64 ?_
    refine g_getN (host := "PommelTowsModel") CX HW in_X4_counted_5 0 3 rfl rfl (Nat.le_of_ble_eq_true rfl) (by decide +kernel) rfl dX4_counted_67 ?_
    exact g_iret CX HW rfl ⟨rfl, rfl⟩ dX4_counted_70
  · refine lv_tableIn (off := 70) (tgt := 71) hx hb dX4_counted_1 (by decide) (by decide) (by decide) (by decide) ?_
    refine lv_aload_n hx hb dX4_counted_71 rfl (lv_at hl 0 rfl) ?_
    refine g_get CX HW in_X4_counted_4 6 13 rfl rfl (Nat.le_of_ble_eq_true rfl) fl_X4_counted_3 rfl dX4_counted_72 ?_
    refine g_getN (host := "PommelTowsModel") CX HW in_X4_counted_5 0 6 rfl rfl (Nat.le_of_ble_eq_true rfl) (by decide +kernel) rfl dX4_counted_75 ?_
    exact g_iret CX HW rfl ⟨rfl, rfl⟩ dX4_counted_78
  · refine lv_tableIn (off := 78) (tgt := 79) hx hb dX4_counted_1 (by decide) (by decide) (by decide) (by decide) ?_
    refine lv_aload_n hx hb dX4_counted_79 rfl (lv_at hl 0 rfl) ?_
    refine g_callV CX HW hl.1 ([]) ([]) (c_X4_flagged om o S th (sumP S) my qu hr6) rfl 6 rfl rfl gX4_counted_X4_flagged rfl ⟨rfl, hd_X4_flagged⟩ ⟨rfl, rfl, (Nat.le_of_ble_eq_true rfl), (Nat.le_of_ble_eq_true rfl)⟩ ⟨(Nat.zero_le _), (Nat.zero_le _)⟩ rfl rfl (Nat.le_of_ble_eq_true rfl) dX4_counted_80 (fun v w1 H locs hp HW => ?_)
    obtain ⟨rfl, rfl⟩ := hp
    have HW : Hw D A s (wMo cI a om th (vA S 0) (vA S 1) (vr S) (vA S 3) (vA S 4) (vs S) (vA S 7) ++ (wMS cI a o (a om) (vh S) (vc S) (sumP S) (vA S 5) (vA S 6) (vA S 8) (vA S 9) (vA S 10) (vA S 11) (vA S 12) (vA S 2) my qu)) H locs := HW
    refine W.eq (g2 := F0 m 83 ls [.int (flagN (vA S 5) (vA S 4) (vr S))]) rfl ?_
    exact g_iret CX HW rfl ⟨rfl, rfl⟩ dX4_counted_83
  · refine lv_tableIn (off := 83) (tgt := 84) hx hb dX4_counted_1 (by decide) (by decide) (by decide) (by decide) ?_
    refine lv_aload_n hx hb dX4_counted_84 rfl (lv_at hl 0 rfl) ?_
    refine g_get CX HW in_X4_counted_4 6 2 rfl rfl (Nat.le_of_ble_eq_true rfl) fl_X4_counted_53 rfl dX4_counted_85 ?_
    exact g_iret CX HW rfl ⟨rfl, rfl⟩ dX4_counted_88
  · refine lv_tableIn (off := 88) (tgt := 89) hx hb dX4_counted_1 (by decide) (by decide) (by decide) (by decide) ?_
    refine lv_aload_n hx hb dX4_counted_89 rfl (lv_at hl 0 rfl) ?_
    refine g_callV CX HW hl.1 ([]) ([]) (c_X4_standing om o S th (sumP S) my qu hM) rfl 6 rfl rfl gX4_counted_X4_standing rfl ⟨rfl, hd_X4_standing⟩ ⟨rfl, rfl, (Nat.le_of_ble_eq_true rfl), (Nat.le_of_ble_eq_true rfl)⟩ ⟨(Nat.zero_le _), (Nat.zero_le _)⟩ rfl rfl (Nat.le_of_ble_eq_true rfl) dX4_counted_90 (fun v w1 H locs hp HW => ?_)
    obtain ⟨rfl, rfl⟩ := hp
    have HW : Hw D A s (wMo cI a om th (vA S 0) (vA S 1) (vr S) (vA S 3) (vA S 4) (vs S) (vA S 7) ++ (wMS cI a o (a om) (vh S) (vc S) (sumP S) (vA S 5) (vA S 6) (vA S 8) (vA S 9) (vA S 10) (vA S 11) (vA S 12) (vA S 2) my qu)) H locs := HW
    refine W.eq (g2 := F0 m 93 ls [.int (nI ((vq S 0).length + (vq S 1).length + (vq S 2).length))]) rfl ?_
    exact g_iret CX HW rfl ⟨rfl, rfl⟩ dX4_counted_93
  · refine lv_tableOut (tgt := 94) hx hb dX4_counted_1 (by decide) (by decide) ?_
    refine lv_aload_n hx hb dX4_counted_94 rfl (lv_at hl 0 rfl) ?_
    refine g_callV CX HW hl.1 ([]) ([]) (c_X4_allPoints om o S th (sumP S) my qu hn) rfl 6 rfl rfl gX4_counted_X4_allPoints rfl ⟨rfl, hd_X4_allPoints⟩ ⟨rfl, rfl, (Nat.le_of_ble_eq_true rfl), (Nat.le_of_ble_eq_true rfl)⟩ ⟨(Nat.zero_le _), (Nat.zero_le _)⟩ rfl rfl (Nat.le_of_ble_eq_true rfl) dX4_counted_95 (fun v w1 H locs hp HW => ?_)
    obtain ⟨rfl, rfl⟩ := hp
    have HW : Hw D A s (wMo cI a om th (vA S 0) (vA S 1) (vr S) (vA S 3) (vA S 4) (vs S) (vA S 7) ++ (wMS cI a o (a om) (vh S) (vc S) (sumP S) (vA S 5) (vA S 6) (vA S 8) (vA S 9) (vA S 10) (vA S 11) (vA S 12) (vA S 2) my qu)) H locs := HW
    refine W.eq (g2 := F0 m 98 ls [.int (sumN (vA S 11) (vs S))]) rfl ?_
    exact g_iret CX HW rfl ⟨rfl, rfl⟩ dX4_counted_98

theorem hd_X4_become : yX4_become.cls ≠ "java/lang/invoke/MethodHandle" ∧ yX4_become.cls ≠ "java/lang/invoke/VarHandle" ∧ (parseMethodDescriptor yX4_become.desc).map (fun d => d.parameters.length) = some 1 := by decide +kernel
theorem fl_X4_become_46 : Cond.fieldLink RX4 46 (TX4 0).1 (TX4 0).2.1 (TX4 0).2.2.1 ∈ wsX4_become := by decide +kernel
theorem in_X4_become_4 : ∀ x ∈ u_ws RX4 TX4 14, x ∈ wsX4_become := by decide +kernel
theorem fl_X4_become_50 : Cond.fieldLink RX4 50 (TX4 1).1 (TX4 1).2.1 (TX4 1).2.2.1 ∈ wsX4_become := by decide +kernel
theorem fl_X4_become_53 : Cond.fieldLink RX4 53 (TX4 2).1 (TX4 2).2.1 (TX4 2).2.2.1 ∈ wsX4_become := by decide +kernel
theorem fl_X4_become_15 : Cond.fieldLink RX4 15 (TX4 3).1 (TX4 3).2.1 (TX4 3).2.2.1 ∈ wsX4_become := by decide +kernel
theorem ac_X4_become_56 : Cond.methodLink RX4 56 arraycopyName ∈ wsX4_become ∧ Cond.native arraycopyName ∈ wsX4_become ∧ Cond.static arraycopyName ∈ wsX4_become ∧ Cond.initialized "java/lang/System" ∈ wsX4_become := ⟨by decide +kernel, by decide +kernel, by decide +kernel, by decide +kernel⟩
theorem fl_X4_become_19 : Cond.fieldLink RX4 19 (TX4 4).1 (TX4 4).2.1 (TX4 4).2.2.1 ∈ wsX4_become := by decide +kernel
theorem fl_X4_become_22 : Cond.fieldLink RX4 22 (TX4 5).1 (TX4 5).2.1 (TX4 5).2.2.1 ∈ wsX4_become := by decide +kernel
theorem fl_X4_become_25 : Cond.fieldLink RX4 25 (TX4 6).1 (TX4 6).2.1 (TX4 6).2.2.1 ∈ wsX4_become := by decide +kernel
theorem fl_X4_become_28 : Cond.fieldLink RX4 28 (TX4 7).1 (TX4 7).2.1 (TX4 7).2.2.1 ∈ wsX4_become := by decide +kernel
theorem fl_X4_become_31 : Cond.fieldLink RX4 31 (TX4 8).1 (TX4 8).2.1 (TX4 8).2.2.1 ∈ wsX4_become := by decide +kernel
theorem fl_X4_become_34 : Cond.fieldLink RX4 34 (TX4 9).1 (TX4 9).2.1 (TX4 9).2.2.1 ∈ wsX4_become := by decide +kernel
theorem fl_X4_become_37 : Cond.fieldLink RX4 37 (TX4 10).1 (TX4 10).2.1 (TX4 10).2.2.1 ∈ wsX4_become := by decide +kernel
theorem fl_X4_become_40 : Cond.fieldLink RX4 40 (TX4 11).1 (TX4 11).2.1 (TX4 11).2.2.1 ∈ wsX4_become := by decide +kernel
theorem fl_X4_become_43 : Cond.fieldLink RX4 43 (TX4 12).1 (TX4 12).2.1 (TX4 12).2.2.1 ∈ wsX4_become := by decide +kernel
set_option maxRecDepth 100000 in
set_option maxHeartbeats 4000000 in
theorem c_X4_become {l : Launch} {D : va_G} {cI cL : ClassId} {a : Nat → Nat} (om : Nat) (o2 : Nat) (o : Nat) (S : VS) (T : VS) (ri2 : Int32) (my : Nat → Int32) (qu : Nat → Int32) (my2 : Nat → Int32) (qu2 : Nat → Int32) : Ct l yX4_become wsX4_become { frames := 1, cells := 0, slots := 0, locals := 60 } D (ty2 cI cL) [.ref (a o), .ref (a o2)] (wMS cI a o2 (a om) (vh S) (vc S) (sumP S) (vA S 5) (vA S 6) (vA S 8) (vA S 9) (vA S 10) (vA S 11) (vA S 12) (vA S 2) my qu ++ (wMS cI a o (a om) (vh T) (vc T) ri2 (vA T 5) (vA T 6) (vA T 8) (vA T 9) (vA T 10) (vA T 11) (vA T 12) (vA T 2) my2 qu2)) (fun v w' => v = none ∧ w' = wMS cI a o2 (a om) (vh S) (vc S) (sumP S) (vA S 5) (vA S 6) (vA S 8) (vA S 9) (vA S 10) (vA S 11) (vA S 12) (vA S 2) my qu ++ (wMS cI a o (a om) (vh S) (vc S) (sumP S) (vA S 5) (vA S 6) (vA S 8) (vA S 9) (vA S 10) (vA S 11) (vA S 12) (vA S 2) my qu)) 0 0 := by
  refine Ct.of (cc := cX4_become) (maxL := 2) (ret := none) (by decide) rfl (Nat.le_of_ble_eq_true rfl) ?_
  intro p e s m below meth c A ls CX hin HW hl
  obtain ⟨hx, hb, hml, hr, hown, hts, hK, hA, hlk⟩ := id CX
  have hl : lv_has ls 2 [(0, .ref (a o)), (1, .ref (a o2))] := hl
  refine lv_aload_n hx hb dX4_become_0 rfl (lv_at hl 0 rfl) ?_
  refine lv_aload_n hx hb dX4_become_1 rfl (lv_at hl 1 rfl) ?_
  refine g_get CX HW in_X4_become_4 0 0 rfl rfl (Nat.le_of_ble_eq_true rfl) fl_X4_become_46 rfl dX4_become_2 ?_
  refine g_put CX HW in_X4_become_4 tyX4 tyX4_ok nmX4 11 0 rfl rfl (Nat.le_of_ble_eq_true rfl) fl_X4_become_46 rfl rfl rfl (Nat.le_of_ble_eq_true rfl) dX4_become_5 (fun H locs HW => ?_)
  have HW : Hw D A s (wMS cI a o2 (a om) (vh S) (vc S) (sumP S) (vA S 5) (vA S 6) (vA S 8) (vA S 9) (vA S 10) (vA S 11) (vA S 12) (vA S 2) my qu ++ (wMS cI a o (a om) (vh S) (vc T) ri2 (vA T 5) (vA T 6) (vA T 8) (vA T 9) (vA T 10) (vA T 11) (vA T 12) (vA T 2) my2 qu2)) H locs := HW
  refine lv_aload_n hx hb dX4_become_8 rfl (lv_at hl 0 rfl) ?_
  refine lv_aload_n hx hb dX4_become_9 rfl (lv_at hl 1 rfl) ?_
  refine g_get CX HW in_X4_become_4 0 1 rfl rfl (Nat.le_of_ble_eq_true rfl) fl_X4_become_50 rfl dX4_become_10 ?_
  refine g_put CX HW in_X4_become_4 tyX4 tyX4_ok nmX4 11 1 rfl rfl (Nat.le_of_ble_eq_true rfl) fl_X4_become_50 rfl rfl rfl (Nat.le_of_ble_eq_true rfl) dX4_become_13 (fun H locs HW => ?_)
  have HW : Hw D A s (wMS cI a o2 (a om) (vh S) (vc S) (sumP S) (vA S 5) (vA S 6) (vA S 8) (vA S 9) (vA S 10) (vA S 11) (vA S 12) (vA S 2) my qu ++ (wMS cI a o (a om) (vh S) (vc S) ri2 (vA T 5) (vA T 6) (vA T 8) (vA T 9) (vA T 10) (vA T 11) (vA T 12) (vA T 2) my2 qu2)) H locs := HW
  refine lv_aload_n hx hb dX4_become_16 rfl (lv_at hl 0 rfl) ?_
  refine lv_aload_n hx hb dX4_become_17 rfl (lv_at hl 1 rfl) ?_
  refine g_get CX HW in_X4_become_4 0 2 rfl rfl (Nat.le_of_ble_eq_true rfl) fl_X4_become_53 rfl dX4_become_18 ?_
  refine g_put CX HW in_X4_become_4 tyX4 tyX4_ok nmX4 11 2 rfl rfl (Nat.le_of_ble_eq_true rfl) fl_X4_become_53 rfl rfl rfl (Nat.le_of_ble_eq_true rfl) dX4_become_21 (fun H locs HW => ?_)
  have HW : Hw D A s (wMS cI a o2 (a om) (vh S) (vc S) (sumP S) (vA S 5) (vA S 6) (vA S 8) (vA S 9) (vA S 10) (vA S 11) (vA S 12) (vA S 2) my qu ++ (wMS cI a o (a om) (vh S) (vc S) (sumP S) (vA T 5) (vA T 6) (vA T 8) (vA T 9) (vA T 10) (vA T 11) (vA T 12) (vA T 2) my2 qu2)) H locs := HW
  refine lv_aload_n hx hb dX4_become_24 rfl (lv_at hl 1 rfl) ?_
  refine g_get CX HW in_X4_become_4 0 3 rfl rfl (Nat.le_of_ble_eq_true rfl) fl_X4_become_15 rfl dX4_become_25 ?_
  refine lv_iconst (v := 0) hx hb dX4_become_28 (by decide) ?_
  refine lv_aload_n hx hb dX4_become_29 rfl (lv_at hl 0 rfl) ?_
  refine g_get CX HW in_X4_become_4 11 3 rfl rfl (Nat.le_of_ble_eq_true rfl) fl_X4_become_15 rfl dX4_become_30 ?_
  refine lv_iconst (v := 0) hx hb dX4_become_33 (by decide) ?_
  refine lv_bipush (v := 6) hx hb dX4_become_34 (by decide) ?_
  refine g_copy (n := 6) CX HW hl.1 1 12 rfl rfl rfl (Nat.le_of_ble_eq_true rfl) ac_X4_become_56.1 ac_X4_become_56.2.1 ac_X4_become_56.2.2.1 ac_X4_become_56.2.2.2 (Nat.le_of_ble_eq_true rfl) (Nat.le_of_ble_eq_true rfl) dX4_become_36 (fun H locs HW => ?_)
  have HW : Hw D A s (wMS cI a o2 (a om) (vh S) (vc S) (sumP S) (vA S 5) (vA S 6) (vA S 8) (vA S 9) (vA S 10) (vA S 11) (vA S 12) (vA S 2) my qu ++ (wMS cI a o (a om) (vh S) (vc S) (sumP S) (vA S 5) (vA T 6) (vA T 8) (vA T 9) (vA T 10) (vA T 11) (vA T 12) (vA T 2) my2 qu2)) H locs := HW
  refine lv_aload_n hx hb dX4_become_39 rfl (lv_at hl 1 rfl) ?_
  refine g_get CX HW in_X4_become_4 0 4 rfl rfl (Nat.le_of_ble_eq_true rfl) fl_X4_become_19 rfl dX4_become_40 ?_
  refine lv_iconst (v := 0) hx hb dX4_become_43 (by decide) ?_
  refine lv_aload_n hx hb dX4_become_44 rfl (lv_at hl 0 rfl) ?_
  refine g_get CX HW in_X4_become_4 11 4 rfl rfl (Nat.le_of_ble_eq_true rfl) fl_X4_become_19 rfl dX4_become_45 ?_
  refine lv_iconst (v := 0) hx hb dX4_become_48 (by decide) ?_
  refine lv_bipush (v := 6) hx hb dX4_become_49 (by decide) ?_
  refine g_copy (n := 6) CX HW hl.1 2 13 rfl rfl rfl (Nat.le_of_ble_eq_true rfl) ac_X4_become_56.1 ac_X4_become_56.2.1 ac_X4_become_56.2.2.1 ac_X4_become_56.2.2.2 (Nat.le_of_ble_eq_true rfl) (Nat.le_of_ble_eq_true rfl) dX4_become_51 (fun H locs HW => ?_)
  have HW : Hw D A s (wMS cI a o2 (a om) (vh S) (vc S) (sumP S) (vA S 5) (vA S 6) (vA S 8) (vA S 9) (vA S 10) (vA S 11) (vA S 12) (vA S 2) my qu ++ (wMS cI a o (a om) (vh S) (vc S) (sumP S) (vA S 5) (vA S 6) (vA T 8) (vA T 9) (vA T 10) (vA T 11) (vA T 12) (vA T 2) my2 qu2)) H locs := HW
  refine lv_aload_n hx hb dX4_become_54 rfl (lv_at hl 1 rfl) ?_
  refine g_get CX HW in_X4_become_4 0 5 rfl rfl (Nat.le_of_ble_eq_true rfl) fl_X4_become_22 rfl dX4_become_55 ?_
  refine lv_iconst (v := 0) hx hb dX4_become_58 (by decide) ?_
  refine lv_aload_n hx hb dX4_become_59 rfl (lv_at hl 0 rfl) ?_
  refine g_get CX HW in_X4_become_4 11 5 rfl rfl (Nat.le_of_ble_eq_true rfl) fl_X4_become_22 rfl dX4_become_60 ?_
  refine lv_iconst (v := 0) hx hb dX4_become_63 (by decide) ?_
  refine lv_bipush (v := 8) hx hb dX4_become_64 (by decide) ?_
  refine g_copy (n := 8) CX HW hl.1 3 14 rfl rfl rfl (Nat.le_of_ble_eq_true rfl) ac_X4_become_56.1 ac_X4_become_56.2.1 ac_X4_become_56.2.2.1 ac_X4_become_56.2.2.2 (Nat.le_of_ble_eq_true rfl) (Nat.le_of_ble_eq_true rfl) dX4_become_66 (fun H locs HW => ?_)
  have HW : Hw D A s (wMS cI a o2 (a om) (vh S) (vc S) (sumP S) (vA S 5) (vA S 6) (vA S 8) (vA S 9) (vA S 10) (vA S 11) (vA S 12) (vA S 2) my qu ++ (wMS cI a o (a om) (vh S) (vc S) (sumP S) (vA S 5) (vA S 6) (vA S 8) (vA T 9) (vA T 10) (vA T 11) (vA T 12) (vA T 2) my2 qu2)) H locs := HW
  refine lv_aload_n hx hb dX4_become_69 rfl (lv_at hl 1 rfl) ?_
  refine g_get CX HW in_X4_become_4 0 6 rfl rfl (Nat.le_of_ble_eq_true rfl) fl_X4_become_25 rfl dX4_become_70 ?_
  refine lv_iconst (v := 0) hx hb dX4_become_73 (by decide) ?_
  refine lv_aload_n hx hb dX4_become_74 rfl (lv_at hl 0 rfl) ?_
  refine g_get CX HW in_X4_become_4 11 6 rfl rfl (Nat.le_of_ble_eq_true rfl) fl_X4_become_25 rfl dX4_become_75 ?_
  refine lv_iconst (v := 0) hx hb dX4_become_78 (by decide) ?_
  refine lv_bipush (v := 8) hx hb dX4_become_79 (by decide) ?_
  refine g_copy (n := 8) CX HW hl.1 4 15 rfl rfl rfl (Nat.le_of_ble_eq_true rfl) ac_X4_become_56.1 ac_X4_become_56.2.1 ac_X4_become_56.2.2.1 ac_X4_become_56.2.2.2 (Nat.le_of_ble_eq_true rfl) (Nat.le_of_ble_eq_true rfl) dX4_become_81 (fun H locs HW => ?_)
  have HW : Hw D A s (wMS cI a o2 (a om) (vh S) (vc S) (sumP S) (vA S 5) (vA S 6) (vA S 8) (vA S 9) (vA S 10) (vA S 11) (vA S 12) (vA S 2) my qu ++ (wMS cI a o (a om) (vh S) (vc S) (sumP S) (vA S 5) (vA S 6) (vA S 8) (vA S 9) (vA T 10) (vA T 11) (vA T 12) (vA T 2) my2 qu2)) H locs := HW
  refine lv_aload_n hx hb dX4_become_84 rfl (lv_at hl 1 rfl) ?_
  refine g_get CX HW in_X4_become_4 0 7 rfl rfl (Nat.le_of_ble_eq_true rfl) fl_X4_become_28 rfl dX4_become_85 ?_
  refine lv_iconst (v := 0) hx hb dX4_become_88 (by decide) ?_
  refine lv_aload_n hx hb dX4_become_89 rfl (lv_at hl 0 rfl) ?_
  refine g_get CX HW in_X4_become_4 11 7 rfl rfl (Nat.le_of_ble_eq_true rfl) fl_X4_become_28 rfl dX4_become_90 ?_
  refine lv_iconst (v := 0) hx hb dX4_become_93 (by decide) ?_
  refine lv_bipush (v := 8) hx hb dX4_become_94 (by decide) ?_
  refine g_copy (n := 8) CX HW hl.1 5 16 rfl rfl rfl (Nat.le_of_ble_eq_true rfl) ac_X4_become_56.1 ac_X4_become_56.2.1 ac_X4_become_56.2.2.1 ac_X4_become_56.2.2.2 (Nat.le_of_ble_eq_true rfl) (Nat.le_of_ble_eq_true rfl) dX4_become_96 (fun H locs HW => ?_)
  have HW : Hw D A s (wMS cI a o2 (a om) (vh S) (vc S) (sumP S) (vA S 5) (vA S 6) (vA S 8) (vA S 9) (vA S 10) (vA S 11) (vA S 12) (vA S 2) my qu ++ (wMS cI a o (a om) (vh S) (vc S) (sumP S) (vA S 5) (vA S 6) (vA S 8) (vA S 9) (vA S 10) (vA T 11) (vA T 12) (vA T 2) my2 qu2)) H locs := HW
  refine lv_aload_n hx hb dX4_become_99 rfl (lv_at hl 1 rfl) ?_
  refine g_get CX HW in_X4_become_4 0 8 rfl rfl (Nat.le_of_ble_eq_true rfl) fl_X4_become_31 rfl dX4_become_100 ?_
  refine lv_iconst (v := 0) hx hb dX4_become_103 (by decide) ?_
  refine lv_aload_n hx hb dX4_become_104 rfl (lv_at hl 0 rfl) ?_
  refine g_get CX HW in_X4_become_4 11 8 rfl rfl (Nat.le_of_ble_eq_true rfl) fl_X4_become_31 rfl dX4_become_105 ?_
  refine lv_iconst (v := 0) hx hb dX4_become_108 (by decide) ?_
  refine lv_bipush (v := 8) hx hb dX4_become_109 (by decide) ?_
  refine g_copy (n := 8) CX HW hl.1 6 17 rfl rfl rfl (Nat.le_of_ble_eq_true rfl) ac_X4_become_56.1 ac_X4_become_56.2.1 ac_X4_become_56.2.2.1 ac_X4_become_56.2.2.2 (Nat.le_of_ble_eq_true rfl) (Nat.le_of_ble_eq_true rfl) dX4_become_111 (fun H locs HW => ?_)
  have HW : Hw D A s (wMS cI a o2 (a om) (vh S) (vc S) (sumP S) (vA S 5) (vA S 6) (vA S 8) (vA S 9) (vA S 10) (vA S 11) (vA S 12) (vA S 2) my qu ++ (wMS cI a o (a om) (vh S) (vc S) (sumP S) (vA S 5) (vA S 6) (vA S 8) (vA S 9) (vA S 10) (vA S 11) (vA T 12) (vA T 2) my2 qu2)) H locs := HW
  refine lv_aload_n hx hb dX4_become_114 rfl (lv_at hl 1 rfl) ?_
  refine g_get CX HW in_X4_become_4 0 9 rfl rfl (Nat.le_of_ble_eq_true rfl) fl_X4_become_34 rfl dX4_become_115 ?_
  refine lv_iconst (v := 0) hx hb dX4_become_118 (by decide) ?_
  refine lv_aload_n hx hb dX4_become_119 rfl (lv_at hl 0 rfl) ?_
  refine g_get CX HW in_X4_become_4 11 9 rfl rfl (Nat.le_of_ble_eq_true rfl) fl_X4_become_34 rfl dX4_become_120 ?_
  refine lv_iconst (v := 0) hx hb dX4_become_123 (by decide) ?_
  refine lv_bipush (v := 8) hx hb dX4_become_124 (by decide) ?_
  refine g_copy (n := 8) CX HW hl.1 7 18 rfl rfl rfl (Nat.le_of_ble_eq_true rfl) ac_X4_become_56.1 ac_X4_become_56.2.1 ac_X4_become_56.2.2.1 ac_X4_become_56.2.2.2 (Nat.le_of_ble_eq_true rfl) (Nat.le_of_ble_eq_true rfl) dX4_become_126 (fun H locs HW => ?_)
  have HW : Hw D A s (wMS cI a o2 (a om) (vh S) (vc S) (sumP S) (vA S 5) (vA S 6) (vA S 8) (vA S 9) (vA S 10) (vA S 11) (vA S 12) (vA S 2) my qu ++ (wMS cI a o (a om) (vh S) (vc S) (sumP S) (vA S 5) (vA S 6) (vA S 8) (vA S 9) (vA S 10) (vA S 11) (vA S 12) (vA T 2) my2 qu2)) H locs := HW
  refine lv_aload_n hx hb dX4_become_129 rfl (lv_at hl 1 rfl) ?_
  refine g_get CX HW in_X4_become_4 0 10 rfl rfl (Nat.le_of_ble_eq_true rfl) fl_X4_become_37 rfl dX4_become_130 ?_
  refine lv_iconst (v := 0) hx hb dX4_become_133 (by decide) ?_
  refine lv_aload_n hx hb dX4_become_134 rfl (lv_at hl 0 rfl) ?_
  refine g_get CX HW in_X4_become_4 11 10 rfl rfl (Nat.le_of_ble_eq_true rfl) fl_X4_become_37 rfl dX4_become_135 ?_
  refine lv_iconst (v := 0) hx hb dX4_become_138 (by decide) ?_
  refine lv_iconst (v := 3) hx hb dX4_become_139 (by decide) ?_
  refine g_copy (n := 3) CX HW hl.1 8 19 rfl rfl rfl (Nat.le_of_ble_eq_true rfl) ac_X4_become_56.1 ac_X4_become_56.2.1 ac_X4_become_56.2.2.1 ac_X4_become_56.2.2.2 (Nat.le_of_ble_eq_true rfl) (Nat.le_of_ble_eq_true rfl) dX4_become_140 (fun H locs HW => ?_)
  have HW : Hw D A s (wMS cI a o2 (a om) (vh S) (vc S) (sumP S) (vA S 5) (vA S 6) (vA S 8) (vA S 9) (vA S 10) (vA S 11) (vA S 12) (vA S 2) my qu ++ (wMS cI a o (a om) (vh S) (vc S) (sumP S) (vA S 5) (vA S 6) (vA S 8) (vA S 9) (vA S 10) (vA S 11) (vA S 12) (vA S 2) my2 qu2)) H locs := HW
  refine lv_aload_n hx hb dX4_become_143 rfl (lv_at hl 1 rfl) ?_
  refine g_get CX HW in_X4_become_4 0 11 rfl rfl (Nat.le_of_ble_eq_true rfl) fl_X4_become_40 rfl dX4_become_144 ?_
  refine lv_iconst (v := 0) hx hb dX4_become_147 (by decide) ?_
  refine lv_aload_n hx hb dX4_become_148 rfl (lv_at hl 0 rfl) ?_
  refine g_get CX HW in_X4_become_4 11 11 rfl rfl (Nat.le_of_ble_eq_true rfl) fl_X4_become_40 rfl dX4_become_149 ?_
  refine lv_iconst (v := 0) hx hb dX4_become_152 (by decide) ?_
  refine lv_iconst (v := 3) hx hb dX4_become_153 (by decide) ?_
  refine g_copy (n := 3) CX HW hl.1 9 20 rfl rfl rfl (Nat.le_of_ble_eq_true rfl) ac_X4_become_56.1 ac_X4_become_56.2.1 ac_X4_become_56.2.2.1 ac_X4_become_56.2.2.2 (Nat.le_of_ble_eq_true rfl) (Nat.le_of_ble_eq_true rfl) dX4_become_154 (fun H locs HW => ?_)
  have HW : Hw D A s (wMS cI a o2 (a om) (vh S) (vc S) (sumP S) (vA S 5) (vA S 6) (vA S 8) (vA S 9) (vA S 10) (vA S 11) (vA S 12) (vA S 2) my qu ++ (wMS cI a o (a om) (vh S) (vc S) (sumP S) (vA S 5) (vA S 6) (vA S 8) (vA S 9) (vA S 10) (vA S 11) (vA S 12) (vA S 2) my qu2)) H locs := HW
  refine lv_aload_n hx hb dX4_become_157 rfl (lv_at hl 1 rfl) ?_
  refine g_get CX HW in_X4_become_4 0 12 rfl rfl (Nat.le_of_ble_eq_true rfl) fl_X4_become_43 rfl dX4_become_158 ?_
  refine lv_iconst (v := 0) hx hb dX4_become_161 (by decide) ?_
  refine lv_aload_n hx hb dX4_become_162 rfl (lv_at hl 0 rfl) ?_
  refine g_get CX HW in_X4_become_4 11 12 rfl rfl (Nat.le_of_ble_eq_true rfl) fl_X4_become_43 rfl dX4_become_163 ?_
  refine lv_iconst (v := 0) hx hb dX4_become_166 (by decide) ?_
  refine lv_aload_n hx hb dX4_become_167 rfl (lv_at hl 0 rfl) ?_
  refine g_get CX HW in_X4_become_4 11 12 rfl rfl (Nat.le_of_ble_eq_true rfl) fl_X4_become_43 rfl dX4_become_168 ?_
  refine g_len CX HW 21 rfl rfl dX4_become_171 ?_
  refine g_copy (n := 24) CX HW hl.1 10 21 rfl rfl rfl (Nat.le_of_ble_eq_true rfl) ac_X4_become_56.1 ac_X4_become_56.2.1 ac_X4_become_56.2.2.1 ac_X4_become_56.2.2.2 (Nat.le_of_ble_eq_true rfl) (Nat.le_of_ble_eq_true rfl) dX4_become_172 (fun H locs HW => ?_)
  have HW : Hw D A s (wMS cI a o2 (a om) (vh S) (vc S) (sumP S) (vA S 5) (vA S 6) (vA S 8) (vA S 9) (vA S 10) (vA S 11) (vA S 12) (vA S 2) my qu ++ (wMS cI a o (a om) (vh S) (vc S) (sumP S) (vA S 5) (vA S 6) (vA S 8) (vA S 9) (vA S 10) (vA S 11) (vA S 12) (vA S 2) my qu)) H locs := HW
  exact g_vret CX HW rfl ⟨rfl, rfl⟩ dX4_become_175
