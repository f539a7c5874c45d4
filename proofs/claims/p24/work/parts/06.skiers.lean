/-- how many of the first n are at t -/
def cntE (f : Nat → Int32) (t : Int32) : Nat → Nat
  | 0 => 0
  | k + 1 => if f k = t then cntE f t k + 1 else cntE f t k
def cntN (f : Nat → Int32) : Nat → Nat
  | 0 => 0
  | k + 1 => if f k = -1 then cntN f k else cntN f k + 1
/-- the first of the first n who is at t with the place p -/
def fnd (qt qp : Nat → Int32) (t p : Int32) : Nat → Option Nat
  | 0 => none
  | k + 1 => match fnd qt qp t p k with
    | some j => some j
    | none => if qt k = t ∧ qp k = p then some k else none
theorem fnd_up {qt qp : Nat → Int32} {t p : Int32} {i j : Nat} (h : fnd qt qp t p i = some j) : ∀ {n : Nat}, i ≤ n → fnd qt qp t p n = some j := by
  intro n
  induction n with
  | zero => intro h2; rw [show i = 0 by omega] at h; exact h
  | succ n ih =>
    intro h2
    by_cases h3 : i = n + 1
    · rw [← h3]; exact h
    · simp only [fnd]; rw [ih (by omega)]
def tkP (qt qp : Nat → Int32) (T P : Int32) (i : Nat) : Nat → Int32 := fun j => if j < i ∧ qt j = T ∧ P < qp j then qp j - 1 else qp j
theorem tkP_0 (qt qp : Nat → Int32) (T P : Int32) : tkP qt qp T P 0 = qp := by funext j; simp [tkP]
theorem tkP_at (qt qp : Nat → Int32) (T P : Int32) (i : Nat) : tkP qt qp T P i i = qp i := by simp [tkP]
theorem tkP_s {qt qp : Nat → Int32} {T P : Int32} {i : Nat} (h1 : qt i = T) (h2 : P < qp i) : upd (tkP qt qp T P i) i (qp i - 1) = tkP qt qp T P (i + 1) := by
  funext j
  simp only [upd, tkP]
  by_cases h : j = i
  · subst h; simp [h1, h2]
  · simp only [h, if_false]
    by_cases h3 : j < i
    · simp [h3, show j < i + 1 by omega]
    · simp [h3, show ¬ j < i + 1 by omega]
theorem tkP_n {qt qp : Nat → Int32} {T P : Int32} {i : Nat} (h1 : ¬ (qt i = T ∧ P < qp i)) : tkP qt qp T P i = tkP qt qp T P (i + 1) := by
  funext j
  simp only [tkP]
  by_cases h : j = i
  · subst h; simp [h1]
  · by_cases h3 : j < i
    · simp [h3, show j < i + 1 by omega]
    · simp [h3, show ¬ j < i + 1 by omega]
def tkT (qt : Nat → Int32) (k : Nat) : Nat → Int32 := if qt k = -1 then qt else upd qt k (-1)
def tkQ (n : Nat) (qt qp : Nat → Int32) (k : Nat) : Nat → Int32 := if qt k = -1 then qp else tkP (upd qt k (-1)) qp (qt k) (qp k) n
def absI (x : Int32) : Int32 := if 0 ≤ x then x else 0 - x
def glR (wx ly : Nat → Int32) (k : Nat) (f : Int32) : Int32 := if 0 < ly k then 4 - 2 * absI (wx k - f) else -4
def glL (ly : Nat → Int32) (k : Nat) : Nat → Int32 := if 0 < ly k then upd ly k (ly k - 1) else ly
def sumN (f : Nat → Int32) : Nat → Int32
  | 0 => 0
  | k + 1 => sumN f k + f k
def figS (sk cn wx ly pt rd qt : Nat → Int32) (k what : Nat) : Int32 := match what with
  | 0 => sk k
  | 1 => cn k
  | 2 => if 0 < ly k then wx k else -1
  | 3 => ly k
  | 4 => pt k
  | 5 => rd k
  | _ => qt k

theorem hd_X1_has : yX1_has.cls ≠ "java/lang/invoke/MethodHandle" ∧ yX1_has.cls ≠ "java/lang/invoke/VarHandle" ∧ (parseMethodDescriptor yX1_has.desc).map (fun d => d.parameters.length) = some 1 := by decide +kernel
theorem fl_X1_has_9 : Cond.fieldLink RX1 9 (TX1 0).1 (TX1 0).2.1 (TX1 0).2.2.1 ∈ wsX1_has := by decide +kernel
theorem in_X1_has_1 : ∀ x ∈ u_ws RX1 TX1 9, x ∈ wsX1_has := by decide +kernel
set_option maxRecDepth 100000 in
set_option maxHeartbeats 4000000 in
theorem c_X1_has {l : Launch} {D : va_G} {cI cL : ClassId} {a : Nat → Nat} (o : Nat) (n : Nat) (sk : Nat → Int32) (cn : Nat → Int32) (wx : Nat → Int32) (ly : Nat → Int32) (pt : Nat → Int32) (rd : Nat → Int32) (qt : Nat → Int32) (qp : Nat → Int32) (x : Int32) : Ct l yX1_has wsX1_has { frames := 0, cells := 0, slots := 0, locals := 0 } D (ty2 cI cL) [.ref (a o), .int x] (wS cI a o n sk cn wx ly pt rd qt qp) (fun v w' => v = some (.int (bI (0 ≤ x ∧ x < nI n))) ∧ w' = wS cI a o n sk cn wx ly pt rd qt qp) 0 0 := by
  refine Ct.of (cc := cX1_has) (maxL := 2) (ret := (some .boolean)) (by decide) rfl (Nat.le_of_ble_eq_true rfl) ?_
  intro p e s m below meth c A ls CX hin HW hl
  obtain ⟨hx, hb, hml, hr, hown, hts, hK, hA, hlk⟩ := id CX
  have hl : lv_has ls 2 [(0, .ref (a o)), (1, .int x)] := hl
  refine lv_iload_n hx hb dX1_has_0 rfl (lv_at hl 1 rfl) ?_
  refine lv_if_lt (tgt := 16) hx hb dX1_has_1 (by decide) (fun c1 => ?_) (fun c1 => ?_)
  · refine lv_iconst (v := 0) hx hb dX1_has_16 (by decide) ?_
    exact g_zret CX HW rfl (Or.inl rfl) ⟨pI_f (by intro h9; first | exact absurd c1 (Int32.not_lt.mpr h9.1) | exact absurd c9 (Int32.not_le.mpr h9.2)), rfl⟩ dX1_has_17
  · refine lv_iload_n hx hb dX1_has_4 rfl (lv_at hl 1 rfl) ?_
    refine lv_aload_n hx hb dX1_has_5 rfl (lv_at hl 0 rfl) ?_
    refine g_get CX HW in_X1_has_1 0 0 rfl rfl (Nat.le_of_ble_eq_true rfl) fl_X1_has_9 rfl dX1_has_6 ?_
    refine lv_icmp_ge (tgt := 16) hx hb dX1_has_9 (by decide) (fun c9 => ?_) (fun c9 => ?_)
    · refine lv_iconst (v := 0) hx hb dX1_has_16 (by decide) ?_
      exact g_zret CX HW rfl (Or.inl rfl) ⟨pI_f (by intro h9; first | exact absurd c1 (Int32.not_lt.mpr h9.1) | exact absurd c9 (Int32.not_le.mpr h9.2)), rfl⟩ dX1_has_17
    · refine lv_iconst (v := 1) hx hb dX1_has_12 (by decide) ?_
      refine lv_goto (tgt := 17) hx hb dX1_has_13 (by decide) ?_
      exact g_zret CX HW rfl (Or.inr rfl) ⟨pI_t ⟨Int32.not_lt.mp c1, Int32.not_le.mp c9⟩, rfl⟩ dX1_has_17

theorem hd_X1_isFull : yX1_isFull.cls ≠ "java/lang/invoke/MethodHandle" ∧ yX1_isFull.cls ≠ "java/lang/invoke/VarHandle" ∧ (parseMethodDescriptor yX1_isFull.desc).map (fun d => d.parameters.length) = some 0 := by decide +kernel
theorem fl_X1_isFull_9 : Cond.fieldLink RX1 9 (TX1 0).1 (TX1 0).2.1 (TX1 0).2.2.1 ∈ wsX1_isFull := by decide +kernel
theorem in_X1_isFull_1 : ∀ x ∈ u_ws RX1 TX1 9, x ∈ wsX1_isFull := by decide +kernel
set_option maxRecDepth 100000 in
set_option maxHeartbeats 4000000 in
theorem c_X1_isFull {l : Launch} {D : va_G} {cI cL : ClassId} {a : Nat → Nat} (o : Nat) (n : Nat) (sk : Nat → Int32) (cn : Nat → Int32) (wx : Nat → Int32) (ly : Nat → Int32) (pt : Nat → Int32) (rd : Nat → Int32) (qt : Nat → Int32) (qp : Nat → Int32) : Ct l yX1_isFull wsX1_isFull { frames := 0, cells := 0, slots := 0, locals := 0 } D (ty2 cI cL) [.ref (a o)] (wS cI a o n sk cn wx ly pt rd qt qp) (fun v w' => v = some (.int (bI (8 ≤ nI n))) ∧ w' = wS cI a o n sk cn wx ly pt rd qt qp) 0 0 := by
  refine Ct.of (cc := cX1_isFull) (maxL := 1) (ret := (some .boolean)) (by decide) rfl (Nat.le_of_ble_eq_true rfl) ?_
  intro p e s m below meth c A ls CX hin HW hl
  obtain ⟨hx, hb, hml, hr, hown, hts, hK, hA, hlk⟩ := id CX
  have hl : lv_has ls 1 [(0, .ref (a o))] := hl
  refine lv_aload_n hx hb dX1_isFull_0 rfl (lv_at hl 0 rfl) ?_
  refine g_get CX HW in_X1_isFull_1 0 0 rfl rfl (Nat.le_of_ble_eq_true rfl) fl_X1_isFull_9 rfl dX1_isFull_1 ?_
  refine lv_bipush (v := 8) hx hb dX1_isFull_4 (by decide) ?_
  refine lv_icmp_lt (tgt := 13) hx hb dX1_isFull_6 (by decide) (fun c6 => ?_) (fun c6 => ?_)
  · refine lv_iconst (v := 0) hx hb dX1_isFull_13 (by decide) ?_
    exact g_zret CX HW rfl (Or.inl rfl) ⟨pI_f (Int32.not_le.mpr c6), rfl⟩ dX1_isFull_14
  · refine lv_iconst (v := 1) hx hb dX1_isFull_9 (by decide) ?_
    refine lv_goto (tgt := 14) hx hb dX1_isFull_10 (by decide) ?_
    exact g_zret CX HW rfl (Or.inr rfl) ⟨pI_t (Int32.not_lt.mp c6), rfl⟩ dX1_isFull_14

theorem hd_X1_add : yX1_add.cls ≠ "java/lang/invoke/MethodHandle" ∧ yX1_add.cls ≠ "java/lang/invoke/VarHandle" ∧ (parseMethodDescriptor yX1_add.desc).map (fun d => d.parameters.length) = some 2 := by decide +kernel
theorem fl_X1_add_9 : Cond.fieldLink RX1 9 (TX1 0).1 (TX1 0).2.1 (TX1 0).2.2.1 ∈ wsX1_add := by decide +kernel
theorem in_X1_add_1 : ∀ x ∈ u_ws RX1 TX1 9, x ∈ wsX1_add := by decide +kernel
theorem fl_X1_add_15 : Cond.fieldLink RX1 15 (TX1 1).1 (TX1 1).2.1 (TX1 1).2.2.1 ∈ wsX1_add := by decide +kernel
theorem fl_X1_add_19 : Cond.fieldLink RX1 19 (TX1 2).1 (TX1 2).2.1 (TX1 2).2.2.1 ∈ wsX1_add := by decide +kernel
theorem fl_X1_add_34 : Cond.fieldLink RX1 34 (TX1 7).1 (TX1 7).2.1 (TX1 7).2.2.1 ∈ wsX1_add := by decide +kernel
set_option maxRecDepth 100000 in
set_option maxHeartbeats 4000000 in
theorem c_X1_add {l : Launch} {D : va_G} {cI cL : ClassId} {a : Nat → Nat} (o : Nat) (n : Nat) (sk : Nat → Int32) (cn : Nat → Int32) (wx : Nat → Int32) (ly : Nat → Int32) (pt : Nat → Int32) (rd : Nat → Int32) (qt : Nat → Int32) (qp : Nat → Int32) (sv : Int32) (cv : Int32) (hn : n < 8) : Ct l yX1_add wsX1_add { frames := 0, cells := 0, slots := 0, locals := 0 } D (ty2 cI cL) [.ref (a o), .int sv, .int cv] (wS cI a o n sk cn wx ly pt rd qt qp) (fun v w' => v = some (.int (nI n)) ∧ w' = wS cI a o (n + 1) (upd sk n sv) (upd cn n cv) wx ly pt rd (upd qt n (-1)) qp) 0 0 := by
  refine Ct.of (cc := cX1_add) (maxL := 4) (ret := (some .int)) (by decide) rfl (Nat.le_of_ble_eq_true rfl) ?_
  intro p e s m below meth c A ls CX hin HW hl
  obtain ⟨hx, hb, hml, hr, hown, hts, hK, hA, hlk⟩ := id CX
  have hl : lv_has ls 4 [(0, .ref (a o)), (1, .int sv), (2, .int cv)] := hl
  refine lv_aload_n hx hb dX1_add_0 rfl (lv_at hl 0 rfl) ?_
  refine g_get CX HW in_X1_add_1 0 0 rfl rfl (Nat.le_of_ble_eq_true rfl) fl_X1_add_9 rfl dX1_add_1 ?_
  refine lv_istore_n (lv' := [(3, .int (nI n)), (0, .ref (a o)), (1, .int sv), (2, .int cv)]) hx hb dX1_add_4 rfl hl (Nat.le_of_ble_eq_true rfl) rfl (fun ls hl => ?_)
  refine lv_aload_n hx hb dX1_add_5 rfl (lv_at hl 1 rfl) ?_
  refine g_get CX HW in_X1_add_1 0 1 rfl rfl (Nat.le_of_ble_eq_true rfl) fl_X1_add_15 rfl dX1_add_6 ?_
  refine lv_iload_n hx hb dX1_add_9 rfl (lv_at hl 0 rfl) ?_
  refine lv_iload_n hx hb dX1_add_10 rfl (lv_at hl 2 rfl) ?_
  refine g_ast CX HW 1 (k := n) rfl rfl rfl (by omega) (Nat.le_of_ble_eq_true rfl) dX1_add_11 (fun H locs HW => ?_)
  have HW : Hw D A s (wS cI a o n (upd sk n sv) cn wx ly pt rd qt qp) H locs := HW
  refine lv_aload_n hx hb dX1_add_12 rfl (lv_at hl 1 rfl) ?_
  refine g_get CX HW in_X1_add_1 0 2 rfl rfl (Nat.le_of_ble_eq_true rfl) fl_X1_add_19 rfl dX1_add_13 ?_
  refine lv_iload_n hx hb dX1_add_16 rfl (lv_at hl 0 rfl) ?_
  refine lv_iload_n hx hb dX1_add_17 rfl (lv_at hl 3 rfl) ?_
  refine g_ast CX HW 2 (k := n) rfl rfl rfl (by omega) (Nat.le_of_ble_eq_true rfl) dX1_add_18 (fun H locs HW => ?_)
  have HW : Hw D A s (wS cI a o n (upd sk n sv) (upd cn n cv) wx ly pt rd qt qp) H locs := HW
  refine lv_aload_n hx hb dX1_add_19 rfl (lv_at hl 1 rfl) ?_
  refine g_get CX HW in_X1_add_1 0 7 rfl rfl (Nat.le_of_ble_eq_true rfl) fl_X1_add_34 rfl dX1_add_20 ?_
  refine lv_iload_n hx hb dX1_add_23 rfl (lv_at hl 0 rfl) ?_
  refine lv_iconst (v := (-1)) hx hb dX1_add_24 (by decide) ?_
  refine g_ast CX HW 7 (k := n) rfl rfl rfl (by omega) (Nat.le_of_ble_eq_true rfl) dX1_add_25 (fun H locs HW => ?_)
  have HW : Hw D A s (wS cI a o n (upd sk n sv) (upd cn n cv) wx ly pt rd (upd qt n (-1 : Int32)) qp) H locs := HW
  refine lv_aload_n hx hb dX1_add_26 rfl (lv_at hl 1 rfl) ?_
  refine lv_dup hx hb dX1_add_27 rfl ?_
  refine g_get CX HW in_X1_add_1 0 0 rfl rfl (Nat.le_of_ble_eq_true rfl) fl_X1_add_9 rfl dX1_add_28 ?_
  refine lv_iconst (v := 1) hx hb dX1_add_31 (by decide) ?_
  refine lv_iadd hx hb dX1_add_32 ?_
  refine g_top (y := (nI (n + 1))) (nI_1 _) ?_
  refine g_put CX HW in_X1_add_1 tyX1 tyX1_ok nmX1 0 0 rfl rfl (Nat.le_of_ble_eq_true rfl) fl_X1_add_9 rfl rfl rfl (Nat.le_of_ble_eq_true rfl) dX1_add_33 (fun H locs HW => ?_)
  have HW : Hw D A s (wS cI a o (n + 1) (upd sk n sv) (upd cn n cv) wx ly pt rd (upd qt n (-1 : Int32)) qp) H locs := HW
  refine lv_iload_n hx hb dX1_add_36 rfl (lv_at hl 0 rfl) ?_
  exact g_iret CX HW rfl ⟨rfl, rfl⟩ dX1_add_37

theorem hd_X1_putWaxOn : yX1_putWaxOn.cls ≠ "java/lang/invoke/MethodHandle" ∧ yX1_putWaxOn.cls ≠ "java/lang/invoke/VarHandle" ∧ (parseMethodDescriptor yX1_putWaxOn.desc).map (fun d => d.parameters.length) = some 2 := by decide +kernel
theorem fl_X1_putWaxOn_22 : Cond.fieldLink RX1 22 (TX1 3).1 (TX1 3).2.1 (TX1 3).2.2.1 ∈ wsX1_putWaxOn := by decide +kernel
theorem in_X1_putWaxOn_1 : ∀ x ∈ u_ws RX1 TX1 9, x ∈ wsX1_putWaxOn := by decide +kernel
theorem fl_X1_putWaxOn_25 : Cond.fieldLink RX1 25 (TX1 4).1 (TX1 4).2.1 (TX1 4).2.2.1 ∈ wsX1_putWaxOn := by decide +kernel
set_option maxRecDepth 100000 in
set_option maxHeartbeats 4000000 in
theorem c_X1_putWaxOn {l : Launch} {D : va_G} {cI cL : ClassId} {a : Nat → Nat} (o : Nat) (n : Nat) (sk : Nat → Int32) (cn : Nat → Int32) (wx : Nat → Int32) (ly : Nat → Int32) (pt : Nat → Int32) (rd : Nat → Int32) (qt : Nat → Int32) (qp : Nat → Int32) (k : Nat) (f : Int32) (hk8 : k < 8) : Ct l yX1_putWaxOn wsX1_putWaxOn { frames := 0, cells := 0, slots := 0, locals := 0 } D (ty2 cI cL) [.ref (a o), .int (nI k), .int f] (wS cI a o n sk cn wx ly pt rd qt qp) (fun v w' => v = none ∧ w' = wS cI a o n sk cn (upd wx k f) (upd ly k 10) pt rd qt qp) 0 0 := by
  refine Ct.of (cc := cX1_putWaxOn) (maxL := 3) (ret := none) (by decide) rfl (Nat.le_of_ble_eq_true rfl) ?_
  intro p e s m below meth c A ls CX hin HW hl
  obtain ⟨hx, hb, hml, hr, hown, hts, hK, hA, hlk⟩ := id CX
  have hl : lv_has ls 3 [(0, .ref (a o)), (1, .int (nI k)), (2, .int f)] := hl
  refine lv_aload_n hx hb dX1_putWaxOn_0 rfl (lv_at hl 0 rfl) ?_
  refine g_get CX HW in_X1_putWaxOn_1 0 3 rfl rfl (Nat.le_of_ble_eq_true rfl) fl_X1_putWaxOn_22 rfl dX1_putWaxOn_1 ?_
  refine lv_iload_n hx hb dX1_putWaxOn_4 rfl (lv_at hl 1 rfl) ?_
  refine lv_iload_n hx hb dX1_putWaxOn_5 rfl (lv_at hl 2 rfl) ?_
  refine g_ast CX HW 3 (k := k) rfl rfl rfl (by omega) (Nat.le_of_ble_eq_true rfl) dX1_putWaxOn_6 (fun H locs HW => ?_)
  have HW : Hw D A s (wS cI a o n sk cn (upd wx k f) ly pt rd qt qp) H locs := HW
  refine lv_aload_n hx hb dX1_putWaxOn_7 rfl (lv_at hl 0 rfl) ?_
  refine g_get CX HW in_X1_putWaxOn_1 0 4 rfl rfl (Nat.le_of_ble_eq_true rfl) fl_X1_putWaxOn_25 rfl dX1_putWaxOn_8 ?_
  refine lv_iload_n hx hb dX1_putWaxOn_11 rfl (lv_at hl 1 rfl) ?_
  refine lv_bipush (v := 10) hx hb dX1_putWaxOn_12 (by decide) ?_
  refine g_ast CX HW 4 (k := k) rfl rfl rfl (by omega) (Nat.le_of_ble_eq_true rfl) dX1_putWaxOn_14 (fun H locs HW => ?_)
  have HW : Hw D A s (wS cI a o n sk cn (upd wx k f) (upd ly k (10 : Int32)) pt rd qt qp) H locs := HW
  exact g_vret CX HW rfl ⟨rfl, rfl⟩ dX1_putWaxOn_15

theorem hd_X1_waitingAt : yX1_waitingAt.cls ≠ "java/lang/invoke/MethodHandle" ∧ yX1_waitingAt.cls ≠ "java/lang/invoke/VarHandle" ∧ (parseMethodDescriptor yX1_waitingAt.desc).map (fun d => d.parameters.length) = some 1 := by decide +kernel
theorem fl_X1_waitingAt_9 : Cond.fieldLink RX1 9 (TX1 0).1 (TX1 0).2.1 (TX1 0).2.2.1 ∈ wsX1_waitingAt := by decide +kernel
theorem in_X1_waitingAt_1 : ∀ x ∈ u_ws RX1 TX1 9, x ∈ wsX1_waitingAt := by decide +kernel
theorem fl_X1_waitingAt_34 : Cond.fieldLink RX1 34 (TX1 7).1 (TX1 7).2.1 (TX1 7).2.2.1 ∈ wsX1_waitingAt := by decide +kernel
set_option maxRecDepth 100000 in
set_option maxHeartbeats 4000000 in
theorem c_X1_waitingAt {l : Launch} {D : va_G} {cI cL : ClassId} {a : Nat → Nat} (o : Nat) (n : Nat) (sk : Nat → Int32) (cn : Nat → Int32) (wx : Nat → Int32) (ly : Nat → Int32) (pt : Nat → Int32) (rd : Nat → Int32) (qt : Nat → Int32) (qp : Nat → Int32) (t : Int32) (hn : n ≤ 8) : Ct l yX1_waitingAt wsX1_waitingAt { frames := 0, cells := 0, slots := 0, locals := 0 } D (ty2 cI cL) [.ref (a o), .int t] (wS cI a o n sk cn wx ly pt rd qt qp) (fun v w' => v = some (.int (nI (cntE qt t n))) ∧ w' = wS cI a o n sk cn wx ly pt rd qt qp) 0 0 := by
  refine Ct.of (cc := cX1_waitingAt) (maxL := 4) (ret := (some .int)) (by decide) rfl (Nat.le_of_ble_eq_true rfl) ?_
  intro p e s m below meth c A ls CX hin HW hl
  obtain ⟨hx, hb, hml, hr, hown, hts, hK, hA, hlk⟩ := id CX
  have hl : lv_has ls 4 [(0, .ref (a o)), (1, .int t)] := hl
  have loop : ∀ (d0 : Nat) (i : Nat), n - i = d0 → (i ≤ n) → ∀ (H : Heap) (locs : List Loc) (ls : Array Slot), Hw D A s (wS cI a o n sk cn wx ly pt rd qt qp) H locs → lv_has ls 4 [(3, .int (nI i)), (2, .int (nI (cntE qt t i))), (1, .int t), (0, .ref (a o))] → W p l e ({ frames := 0, cells := 0, slots := 0, locals := 0 } : Room) s m ([.ref (a o), .int t] : List Value).toArray below meth c H locs 0 0 (MQ below (cQ D A (fun v w' => v = some (.int (nI (cntE qt t n))) ∧ w' = wS cI a o n sk cn wx ly pt rd qt qp)) ([.ref (a o), .int t] : List Value).toArray s 0 0 A) (F0 m 4 ls []) := by
    intro d0
    induction d0 using Nat.strongRecOn with
    | _ d0 ih =>
      intro i hd0 hi H locs ls HW hl
      have j25 : ∀ (x2 : Int32), (i < n) → (x2 = nI (cntE qt t (i + 1))) → ∀ (H : Heap) (locs : List Loc) (ls : Array Slot), Hw D A s (wS cI a o n sk cn wx ly pt rd qt qp) H locs → lv_has ls 4 [(3, .int (nI i)), (2, .int x2), (1, .int t), (0, .ref (a o))] → W p l e ({ frames := 0, cells := 0, slots := 0, locals := 0 } : Room) s m ([.ref (a o), .int t] : List Value).toArray below meth c H locs 0 0 (MQ below (cQ D A (fun v w' => v = some (.int (nI (cntE qt t n))) ∧ w' = wS cI a o n sk cn wx ly pt rd qt qp)) ([.ref (a o), .int t] : List Value).toArray s 0 0 A) (F0 m 25 ls []) := by
        intro x2 hlt h2 H locs ls HW hl
        subst h2
        refine lv_iinc (v := (nI (i + 1))) (lv' := [(3, .int (nI (i + 1))), (2, .int (nI (cntE qt t (i + 1)))), (1, .int t), (0, .ref (a o))]) hx hb dX1_waitingAt_25 hl (k := 0) rfl (inc1 _) (Nat.le_of_ble_eq_true rfl) rfl (fun ls hl => ?_)
        refine lv_goto (tgt := 4) hx hb dX1_waitingAt_28 (by decide) ?_
        exact ih _ (by omega) (i + 1) rfl (by omega) _ _ _ HW (lv_sub hl [0, 1, 2, 3] rfl)
      refine lv_iload_n hx hb dX1_waitingAt_4 rfl (lv_at hl 0 rfl) ?_
      refine lv_aload_n hx hb dX1_waitingAt_5 rfl (lv_at hl 3 rfl) ?_
      refine g_get CX HW in_X1_waitingAt_1 0 0 rfl rfl (Nat.le_of_ble_eq_true rfl) fl_X1_waitingAt_9 rfl dX1_waitingAt_6 ?_
      refine lv_icmp_ge (tgt := 31) hx hb dX1_waitingAt_9 (by decide) (fun c9 => ?_) (fun c9 => ?_)
      · have c9 := (nI_leI (by omega) (by omega)).mp c9
        obtain rfl : i = n := by omega
        refine lv_iload_n hx hb dX1_waitingAt_31 rfl (lv_at hl 1 rfl) ?_
        exact g_iret CX HW rfl ⟨rfl, rfl⟩ dX1_waitingAt_32
      · have c9 : i < n := nI_lt_of (by omega) (by omega) c9
        refine lv_aload_n hx hb dX1_waitingAt_12 rfl (lv_at hl 3 rfl) ?_
        refine g_get CX HW in_X1_waitingAt_1 0 7 rfl rfl (Nat.le_of_ble_eq_true rfl) fl_X1_waitingAt_34 rfl dX1_waitingAt_13 ?_
        refine lv_iload_n hx hb dX1_waitingAt_16 rfl (lv_at hl 0 rfl) ?_
        refine g_ald CX HW 7 (k := i) rfl rfl rfl (by omega) (Nat.le_of_ble_eq_true rfl) dX1_waitingAt_17 ?_
        refine lv_iload_n hx hb dX1_waitingAt_18 rfl (lv_at hl 2 rfl) ?_
        refine lv_icmp_ne (tgt := 25) hx hb dX1_waitingAt_19 (by decide) (fun c19 => ?_) (fun c19 => ?_)
        · exact j25 (nI (cntE qt t i)) (by omega) (by simp only [cntE]; rw [if_neg c19]) _ _ _ HW (lv_sub hl [0, 1, 2, 3] rfl)
        · refine lv_iinc (v := (nI ((cntE qt t i) + 1))) (lv' := [(2, .int (nI ((cntE qt t i) + 1))), (3, .int (nI i)), (1, .int t), (0, .ref (a o))]) hx hb dX1_waitingAt_22 hl (k := 1) rfl (inc1 _) (Nat.le_of_ble_eq_true rfl) rfl (fun ls hl => ?_)
          exact j25 (nI ((cntE qt t i) + 1)) (by omega) (by simp only [cntE]; rw [if_pos c19]) _ _ _ HW (lv_sub hl [1, 0, 2, 3] rfl)
  refine lv_iconst (v := 0) hx hb dX1_waitingAt_0 (by decide) ?_
  refine lv_istore_n (lv' := [(2, .int (0 : Int32)), (0, .ref (a o)), (1, .int t)]) hx hb dX1_waitingAt_1 rfl hl (Nat.le_of_ble_eq_true rfl) rfl (fun ls hl => ?_)
  refine lv_iconst (v := 0) hx hb dX1_waitingAt_2 (by decide) ?_
  refine lv_istore_n (lv' := [(3, .int (0 : Int32)), (2, .int (0 : Int32)), (0, .ref (a o)), (1, .int t)]) hx hb dX1_waitingAt_3 rfl hl (Nat.le_of_ble_eq_true rfl) rfl (fun ls hl => ?_)
  exact loop _ 0 rfl (by omega) _ _ _ HW (lv_sub hl [0, 1, 3, 2] rfl)

theorem hd_X1_waitingAnywhere : yX1_waitingAnywhere.cls ≠ "java/lang/invoke/MethodHandle" ∧ yX1_waitingAnywhere.cls ≠ "java/lang/invoke/VarHandle" ∧ (parseMethodDescriptor yX1_waitingAnywhere.desc).map (fun d => d.parameters.length) = some 0 := by decide +kernel
theorem fl_X1_waitingAnywhere_9 : Cond.fieldLink RX1 9 (TX1 0).1 (TX1 0).2.1 (TX1 0).2.2.1 ∈ wsX1_waitingAnywhere := by decide +kernel
theorem in_X1_waitingAnywhere_1 : ∀ x ∈ u_ws RX1 TX1 9, x ∈ wsX1_waitingAnywhere := by decide +kernel
theorem fl_X1_waitingAnywhere_34 : Cond.fieldLink RX1 34 (TX1 7).1 (TX1 7).2.1 (TX1 7).2.2.1 ∈ wsX1_waitingAnywhere := by decide +kernel
set_option maxRecDepth 100000 in
set_option maxHeartbeats 4000000 in
theorem c_X1_waitingAnywhere {l : Launch} {D : va_G} {cI cL : ClassId} {a : Nat → Nat} (o : Nat) (n : Nat) (sk : Nat → Int32) (cn : Nat → Int32) (wx : Nat → Int32) (ly : Nat → Int32) (pt : Nat → Int32) (rd : Nat → Int32) (qt : Nat → Int32) (qp : Nat → Int32) (hn : n ≤ 8) : Ct l yX1_waitingAnywhere wsX1_waitingAnywhere { frames := 0, cells := 0, slots := 0, locals := 0 } D (ty2 cI cL) [.ref (a o)] (wS cI a o n sk cn wx ly pt rd qt qp) (fun v w' => v = some (.int (nI (cntN qt n))) ∧ w' = wS cI a o n sk cn wx ly pt rd qt qp) 0 0 := by
  refine Ct.of (cc := cX1_waitingAnywhere) (maxL := 3) (ret := (some .int)) (by decide) rfl (Nat.le_of_ble_eq_true rfl) ?_
  intro p e s m below meth c A ls CX hin HW hl
  obtain ⟨hx, hb, hml, hr, hown, hts, hK, hA, hlk⟩ := id CX
  have hl : lv_has ls 3 [(0, .ref (a o))] := hl
  have loop : ∀ (d0 : Nat) (i : Nat), n - i = d0 → (i ≤ n) → ∀ (H : Heap) (locs : List Loc) (ls : Array Slot), Hw D A s (wS cI a o n sk cn wx ly pt rd qt qp) H locs → lv_has ls 3 [(2, .int (nI i)), (1, .int (nI (cntN qt i))), (0, .ref (a o))] → W p l e ({ frames := 0, cells := 0, slots := 0, locals := 0 } : Room) s m ([.ref (a o)] : List Value).toArray below meth c H locs 0 0 (MQ below (cQ D A (fun v w' => v = some (.int (nI (cntN qt n))) ∧ w' = wS cI a o n sk cn wx ly pt rd qt qp)) ([.ref (a o)] : List Value).toArray s 0 0 A) (F0 m 4 ls []) := by
    intro d0
    induction d0 using Nat.strongRecOn with
    | _ d0 ih =>
      intro i hd0 hi H locs ls HW hl
      have j25 : ∀ (x2 : Int32), (i < n) → (x2 = nI (cntN qt (i + 1))) → ∀ (H : Heap) (locs : List Loc) (ls : Array Slot), Hw D A s (wS cI a o n sk cn wx ly pt rd qt qp) H locs → lv_has ls 3 [(2, .int (nI i)), (1, .int x2), (0, .ref (a o))] → W p l e ({ frames := 0, cells := 0, slots := 0, locals := 0 } : Room) s m ([.ref (a o)] : List Value).toArray below meth c H locs 0 0 (MQ below (cQ D A (fun v w' => v = some (.int (nI (cntN qt n))) ∧ w' = wS cI a o n sk cn wx ly pt rd qt qp)) ([.ref (a o)] : List Value).toArray s 0 0 A) (F0 m 25 ls []) := by
        intro x2 hlt h2 H locs ls HW hl
        subst h2
        refine lv_iinc (v := (nI (i + 1))) (lv' := [(2, .int (nI (i + 1))), (1, .int (nI (cntN qt (i + 1)))), (0, .ref (a o))]) hx hb dX1_waitingAnywhere_25 hl (k := 0) rfl (inc1 _) (Nat.le_of_ble_eq_true rfl) rfl (fun ls hl => ?_)
        refine lv_goto (tgt := 4) hx hb dX1_waitingAnywhere_28 (by decide) ?_
        exact ih _ (by omega) (i + 1) rfl (by omega) _ _ _ HW (lv_sub hl [0, 1, 2] rfl)
      refine lv_iload_n hx hb dX1_waitingAnywhere_4 rfl (lv_at hl 0 rfl) ?_
      refine lv_aload_n hx hb dX1_waitingAnywhere_5 rfl (lv_at hl 2 rfl) ?_
      refine g_get CX HW in_X1_waitingAnywhere_1 0 0 rfl rfl (Nat.le_of_ble_eq_true rfl) fl_X1_waitingAnywhere_9 rfl dX1_waitingAnywhere_6 ?_
      refine lv_icmp_ge (tgt := 31) hx hb dX1_waitingAnywhere_9 (by decide) (fun c9 => ?_) (fun c9 => ?_)
      · have c9 := (nI_leI (by omega) (by omega)).mp c9
        obtain rfl : i = n := by omega
        refine lv_iload_n hx hb dX1_waitingAnywhere_31 rfl (lv_at hl 1 rfl) ?_
        exact g_iret CX HW rfl ⟨rfl, rfl⟩ dX1_waitingAnywhere_32
      · have c9 : i < n := nI_lt_of (by omega) (by omega) c9
        refine lv_aload_n hx hb dX1_waitingAnywhere_12 rfl (lv_at hl 2 rfl) ?_
        refine g_get CX HW in_X1_waitingAnywhere_1 0 7 rfl rfl (Nat.le_of_ble_eq_true rfl) fl_X1_waitingAnywhere_34 rfl dX1_waitingAnywhere_13 ?_
        refine lv_iload_n hx hb dX1_waitingAnywhere_16 rfl (lv_at hl 0 rfl) ?_
        refine g_ald CX HW 7 (k := i) rfl rfl rfl (by omega) (Nat.le_of_ble_eq_true rfl) dX1_waitingAnywhere_17 ?_
        refine lv_iconst (v := (-1)) hx hb dX1_waitingAnywhere_18 (by decide) ?_
        refine lv_icmp_eq (tgt := 25) hx hb dX1_waitingAnywhere_19 (by decide) (fun c19 => ?_) (fun c19 => ?_)
        · exact j25 (nI (cntN qt i)) (by omega) (by simp only [cntN]; rw [if_pos c19]) _ _ _ HW (lv_sub hl [0, 1, 2] rfl)
        · refine lv_iinc (v := (nI ((cntN qt i) + 1))) (lv' := [(1, .int (nI ((cntN qt i) + 1))), (2, .int (nI i)), (0, .ref (a o))]) hx hb dX1_waitingAnywhere_22 hl (k := 1) rfl (inc1 _) (Nat.le_of_ble_eq_true rfl) rfl (fun ls hl => ?_)
          exact j25 (nI ((cntN qt i) + 1)) (by omega) (by simp only [cntN]; rw [if_neg c19]) _ _ _ HW (lv_sub hl [1, 0, 2] rfl)
  refine lv_iconst (v := 0) hx hb dX1_waitingAnywhere_0 (by decide) ?_
  refine lv_istore_n (lv' := [(1, .int (0 : Int32)), (0, .ref (a o))]) hx hb dX1_waitingAnywhere_1 rfl hl (Nat.le_of_ble_eq_true rfl) rfl (fun ls hl => ?_)
  refine lv_iconst (v := 0) hx hb dX1_waitingAnywhere_2 (by decide) ?_
  refine lv_istore_n (lv' := [(2, .int (0 : Int32)), (1, .int (0 : Int32)), (0, .ref (a o))]) hx hb dX1_waitingAnywhere_3 rfl hl (Nat.le_of_ble_eq_true rfl) rfl (fun ls hl => ?_)
  exact loop _ 0 rfl (by omega) _ _ _ HW (lv_sub hl [0, 1, 2] rfl)

theorem hd_X1_at : yX1_at.cls ≠ "java/lang/invoke/MethodHandle" ∧ yX1_at.cls ≠ "java/lang/invoke/VarHandle" ∧ (parseMethodDescriptor yX1_at.desc).map (fun d => d.parameters.length) = some 2 := by decide +kernel
theorem fl_X1_at_9 : Cond.fieldLink RX1 9 (TX1 0).1 (TX1 0).2.1 (TX1 0).2.2.1 ∈ wsX1_at := by decide +kernel
theorem in_X1_at_1 : ∀ x ∈ u_ws RX1 TX1 9, x ∈ wsX1_at := by decide +kernel
theorem fl_X1_at_34 : Cond.fieldLink RX1 34 (TX1 7).1 (TX1 7).2.1 (TX1 7).2.2.1 ∈ wsX1_at := by decide +kernel
theorem fl_X1_at_37 : Cond.fieldLink RX1 37 (TX1 8).1 (TX1 8).2.1 (TX1 8).2.2.1 ∈ wsX1_at := by decide +kernel
set_option maxRecDepth 100000 in
set_option maxHeartbeats 4000000 in
theorem c_X1_at {l : Launch} {D : va_G} {cI cL : ClassId} {a : Nat → Nat} (o : Nat) (n : Nat) (sk : Nat → Int32) (cn : Nat → Int32) (wx : Nat → Int32) (ly : Nat → Int32) (pt : Nat → Int32) (rd : Nat → Int32) (qt : Nat → Int32) (qp : Nat → Int32) (t : Int32) (pl : Int32) (hn : n ≤ 8) : Ct l yX1_at wsX1_at { frames := 0, cells := 0, slots := 0, locals := 0 } D (ty2 cI cL) [.ref (a o), .int t, .int pl] (wS cI a o n sk cn wx ly pt rd qt qp) (fun v w' => v = some (.int (oI (fnd qt qp t pl n))) ∧ w' = wS cI a o n sk cn wx ly pt rd qt qp) 0 0 := by
  refine Ct.of (cc := cX1_at) (maxL := 4) (ret := (some .int)) (by decide) rfl (Nat.le_of_ble_eq_true rfl) ?_
  intro p e s m below meth c A ls CX hin HW hl
  obtain ⟨hx, hb, hml, hr, hown, hts, hK, hA, hlk⟩ := id CX
  have hl : lv_has ls 4 [(0, .ref (a o)), (1, .int t), (2, .int pl)] := hl
  have loop : ∀ (d0 : Nat) (i : Nat), n - i = d0 → (i ≤ n) → (fnd qt qp t pl i = none) → ∀ (H : Heap) (locs : List Loc) (ls : Array Slot), Hw D A s (wS cI a o n sk cn wx ly pt rd qt qp) H locs → lv_has ls 4 [(3, .int (nI i)), (2, .int pl), (1, .int t), (0, .ref (a o))] → W p l e ({ frames := 0, cells := 0, slots := 0, locals := 0 } : Room) s m ([.ref (a o), .int t, .int pl] : List Value).toArray below meth c H locs 0 0 (MQ below (cQ D A (fun v w' => v = some (.int (oI (fnd qt qp t pl n))) ∧ w' = wS cI a o n sk cn wx ly pt rd qt qp)) ([.ref (a o), .int t, .int pl] : List Value).toArray s 0 0 A) (F0 m 2 ls []) := by
    intro d0
    induction d0 using Nat.strongRecOn with
    | _ d0 ih =>
      intro i hd0 hi hf H locs ls HW hl
      have j32 : ∀ (_u : Unit), (i < n) → (fnd qt qp t pl (i + 1) = none) → ∀ (H : Heap) (locs : List Loc) (ls : Array Slot), Hw D A s (wS cI a o n sk cn wx ly pt rd qt qp) H locs → lv_has ls 4 [(3, .int (nI i)), (2, .int pl), (1, .int t), (0, .ref (a o))] → W p l e ({ frames := 0, cells := 0, slots := 0, locals := 0 } : Room) s m ([.ref (a o), .int t, .int pl] : List Value).toArray below meth c H locs 0 0 (MQ below (cQ D A (fun v w' => v = some (.int (oI (fnd qt qp t pl n))) ∧ w' = wS cI a o n sk cn wx ly pt rd qt qp)) ([.ref (a o), .int t, .int pl] : List Value).toArray s 0 0 A) (F0 m 32 ls []) := by
        intro _u hlt hf2 H locs ls HW hl
        refine lv_iinc (v := (nI (i + 1))) (lv' := [(3, .int (nI (i + 1))), (2, .int pl), (1, .int t), (0, .ref (a o))]) hx hb dX1_at_32 hl (k := 0) rfl (inc1 _) (Nat.le_of_ble_eq_true rfl) rfl (fun ls hl => ?_)
        refine lv_goto (tgt := 2) hx hb dX1_at_35 (by decide) ?_
        exact ih _ (by omega) (i + 1) rfl (by omega) hf2 _ _ _ HW (lv_sub hl [0, 1, 2, 3] rfl)
      refine lv_iload_n hx hb dX1_at_2 rfl (lv_at hl 0 rfl) ?_
      refine lv_aload_n hx hb dX1_at_3 rfl (lv_at hl 3 rfl) ?_
      refine g_get CX HW in_X1_at_1 0 0 rfl rfl (Nat.le_of_ble_eq_true rfl) fl_X1_at_9 rfl dX1_at_4 ?_
      refine lv_icmp_ge (tgt := 38) hx hb dX1_at_7 (by decide) (fun c7 => ?_) (fun c7 => ?_)
      · have c7 := (nI_leI (by omega) (by omega)).mp c7
        obtain rfl : i = n := by omega
        refine lv_iconst (v := (-1)) hx hb dX1_at_38 (by decide) ?_
        exact g_iret CX HW rfl ⟨by rw [hf]; rfl, rfl⟩ dX1_at_39
      · have c7 : i < n := nI_lt_of (by omega) (by omega) c7
        refine lv_aload_n hx hb dX1_at_10 rfl (lv_at hl 3 rfl) ?_
        refine g_get CX HW in_X1_at_1 0 7 rfl rfl (Nat.le_of_ble_eq_true rfl) fl_X1_at_34 rfl dX1_at_11 ?_
        refine lv_iload_n hx hb dX1_at_14 rfl (lv_at hl 0 rfl) ?_
        refine g_ald CX HW 7 (k := i) rfl rfl rfl (by omega) (Nat.le_of_ble_eq_true rfl) dX1_at_15 ?_
        refine lv_iload_n hx hb dX1_at_16 rfl (lv_at hl 2 rfl) ?_
        refine lv_icmp_ne (tgt := 32) hx hb dX1_at_17 (by decide) (fun c17 => ?_) (fun c17 => ?_)
        · exact j32 () (by omega) (by simp only [fnd]; rw [hf]; exact if_neg (by intro h9; first | exact c17 h9.1 | exact c27 h9.2)) _ _ _ HW (lv_sub hl [0, 1, 2, 3] rfl)
        · refine lv_aload_n hx hb dX1_at_20 rfl (lv_at hl 3 rfl) ?_
          refine g_get CX HW in_X1_at_1 0 8 rfl rfl (Nat.le_of_ble_eq_true rfl) fl_X1_at_37 rfl dX1_at_21 ?_
          refine lv_iload_n hx hb dX1_at_24 rfl (lv_at hl 0 rfl) ?_
          refine g_ald CX HW 8 (k := i) rfl rfl rfl (by omega) (Nat.le_of_ble_eq_true rfl) dX1_at_25 ?_
          refine lv_iload_n hx hb dX1_at_26 rfl (lv_at hl 1 rfl) ?_
          refine lv_icmp_ne (tgt := 32) hx hb dX1_at_27 (by decide) (fun c27 => ?_) (fun c27 => ?_)
          · exact j32 () (by omega) (by simp only [fnd]; rw [hf]; exact if_neg (by intro h9; first | exact c17 h9.1 | exact c27 h9.2)) _ _ _ HW (lv_sub hl [0, 1, 2, 3] rfl)
          · refine lv_iload_n hx hb dX1_at_30 rfl (lv_at hl 0 rfl) ?_
            exact g_iret CX HW rfl ⟨by rw [fnd_up (show fnd qt qp t pl (i + 1) = some i by simp only [fnd]; rw [hf]; exact if_pos ⟨c17, c27⟩) (by omega)]; rfl, rfl⟩ dX1_at_31
  refine lv_iconst (v := 0) hx hb dX1_at_0 (by decide) ?_
  refine lv_istore_n (lv' := [(3, .int (0 : Int32)), (0, .ref (a o)), (1, .int t), (2, .int pl)]) hx hb dX1_at_1 rfl hl (Nat.le_of_ble_eq_true rfl) rfl (fun ls hl => ?_)
  exact loop _ 0 rfl (by omega) rfl _ _ _ HW (lv_sub hl [0, 3, 2, 1] rfl)

theorem hd_X1_takeOutOfQueue : yX1_takeOutOfQueue.cls ≠ "java/lang/invoke/MethodHandle" ∧ yX1_takeOutOfQueue.cls ≠ "java/lang/invoke/VarHandle" ∧ (parseMethodDescriptor yX1_takeOutOfQueue.desc).map (fun d => d.parameters.length) = some 1 := by decide +kernel
theorem fl_X1_takeOutOfQueue_9 : Cond.fieldLink RX1 9 (TX1 0).1 (TX1 0).2.1 (TX1 0).2.2.1 ∈ wsX1_takeOutOfQueue := by decide +kernel
theorem in_X1_takeOutOfQueue_1 : ∀ x ∈ u_ws RX1 TX1 9, x ∈ wsX1_takeOutOfQueue := by decide +kernel
theorem fl_X1_takeOutOfQueue_34 : Cond.fieldLink RX1 34 (TX1 7).1 (TX1 7).2.1 (TX1 7).2.2.1 ∈ wsX1_takeOutOfQueue := by decide +kernel
theorem fl_X1_takeOutOfQueue_37 : Cond.fieldLink RX1 37 (TX1 8).1 (TX1 8).2.1 (TX1 8).2.2.1 ∈ wsX1_takeOutOfQueue := by decide +kernel
set_option maxRecDepth 100000 in
set_option maxHeartbeats 4000000 in
theorem c_X1_takeOutOfQueue {l : Launch} {D : va_G} {cI cL : ClassId} {a : Nat → Nat} (o : Nat) (n : Nat) (sk : Nat → Int32) (cn : Nat → Int32) (wx : Nat → Int32) (ly : Nat → Int32) (pt : Nat → Int32) (rd : Nat → Int32) (qt : Nat → Int32) (qp : Nat → Int32) (k : Nat) (hn : n ≤ 8) (hk8 : k < 8) : Ct l yX1_takeOutOfQueue wsX1_takeOutOfQueue { frames := 0, cells := 0, slots := 0, locals := 0 } D (ty2 cI cL) [.ref (a o), .int (nI k)] (wS cI a o n sk cn wx ly pt rd qt qp) (fun v w' => v = none ∧ w' = wS cI a o n sk cn wx ly pt rd (tkT qt k) (tkQ n qt qp k)) 0 0 := by
  refine Ct.of (cc := cX1_takeOutOfQueue) (maxL := 5) (ret := none) (by decide) rfl (Nat.le_of_ble_eq_true rfl) ?_
  intro p e s m below meth c A ls CX hin HW hl
  obtain ⟨hx, hb, hml, hr, hown, hts, hK, hA, hlk⟩ := id CX
  have hl : lv_has ls 5 [(0, .ref (a o)), (1, .int (nI k))] := hl
  have loop : ∀ (d0 : Nat) (i : Nat), n - i = d0 → (¬ qt k = -1) → (i ≤ n) → ∀ (H : Heap) (locs : List Loc) (ls : Array Slot), Hw D A s (wS cI a o n sk cn wx ly pt rd (upd qt k (-1)) (tkP (upd qt k (-1)) qp (qt k) (qp k) i)) H locs → lv_has ls 5 [(4, .int (nI i)), (3, .int (qp k)), (2, .int (qt k)), (1, .int (nI k)), (0, .ref (a o))] → W p l e ({ frames := 0, cells := 0, slots := 0, locals := 0 } : Room) s m ([.ref (a o), .int (nI k)] : List Value).toArray below meth c H locs 0 0 (MQ below (cQ D A (fun v w' => v = none ∧ w' = wS cI a o n sk cn wx ly pt rd (tkT qt k) (tkQ n qt qp k))) ([.ref (a o), .int (nI k)] : List Value).toArray s 0 0 A) (F0 m 30 ls []) := by
    intro d0
    induction d0 using Nat.strongRecOn with
    | _ d0 ih =>
      intro i hd0 hne hi H locs ls HW hl
      have j72 : ∀ (q9 : Nat → Int32), (i < n) → (q9 = tkP (upd qt k (-1)) qp (qt k) (qp k) (i + 1)) → ∀ (H : Heap) (locs : List Loc) (ls : Array Slot), Hw D A s (wS cI a o n sk cn wx ly pt rd (upd qt k (-1)) q9) H locs → lv_has ls 5 [(4, .int (nI i)), (3, .int (qp k)), (2, .int (qt k)), (1, .int (nI k)), (0, .ref (a o))] → W p l e ({ frames := 0, cells := 0, slots := 0, locals := 0 } : Room) s m ([.ref (a o), .int (nI k)] : List Value).toArray below meth c H locs 0 0 (MQ below (cQ D A (fun v w' => v = none ∧ w' = wS cI a o n sk cn wx ly pt rd (tkT qt k) (tkQ n qt qp k))) ([.ref (a o), .int (nI k)] : List Value).toArray s 0 0 A) (F0 m 72 ls []) := by
        intro q9 hlt h9 H locs ls HW hl
        subst h9
        refine lv_iinc (v := (nI (i + 1))) (lv' := [(4, .int (nI (i + 1))), (3, .int (qp k)), (2, .int (qt k)), (1, .int (nI k)), (0, .ref (a o))]) hx hb dX1_takeOutOfQueue_72 hl (k := 0) rfl (inc1 _) (Nat.le_of_ble_eq_true rfl) rfl (fun ls hl => ?_)
        refine lv_goto (tgt := 30) hx hb dX1_takeOutOfQueue_75 (by decide) ?_
        exact ih _ (by omega) (i + 1) rfl hne (by omega) _ _ _ HW (lv_sub hl [0, 1, 2, 3, 4] rfl)
      refine lv_iload hx hb dX1_takeOutOfQueue_30 (lv_at hl 0 rfl) ?_
      refine lv_aload_n hx hb dX1_takeOutOfQueue_32 rfl (lv_at hl 4 rfl) ?_
      refine g_get CX HW in_X1_takeOutOfQueue_1 0 0 rfl rfl (Nat.le_of_ble_eq_true rfl) fl_X1_takeOutOfQueue_9 rfl dX1_takeOutOfQueue_33 ?_
      refine lv_icmp_ge (tgt := 78) hx hb dX1_takeOutOfQueue_36 (by decide) (fun c36 => ?_) (fun c36 => ?_)
      · have c36 := (nI_leI (by omega) (by omega)).mp c36
        obtain rfl : i = n := by omega
        exact g_vret CX HW rfl ⟨rfl, by rw [tkT, tkQ, if_neg hne, if_neg hne]⟩ dX1_takeOutOfQueue_78
      · have c36 : i < n := nI_lt_of (by omega) (by omega) c36
        refine lv_aload_n hx hb dX1_takeOutOfQueue_39 rfl (lv_at hl 4 rfl) ?_
        refine g_get CX HW in_X1_takeOutOfQueue_1 0 7 rfl rfl (Nat.le_of_ble_eq_true rfl) fl_X1_takeOutOfQueue_34 rfl dX1_takeOutOfQueue_40 ?_
        refine lv_iload hx hb dX1_takeOutOfQueue_43 (lv_at hl 0 rfl) ?_
        refine g_ald CX HW 7 (k := i) rfl rfl rfl (by omega) (Nat.le_of_ble_eq_true rfl) dX1_takeOutOfQueue_45 ?_
        refine lv_iload_n hx hb dX1_takeOutOfQueue_46 rfl (lv_at hl 2 rfl) ?_
        refine lv_icmp_ne (tgt := 72) hx hb dX1_takeOutOfQueue_47 (by decide) (fun c47 => ?_) (fun c47 => ?_)
        · exact j72 (tkP (upd qt k (-1)) qp (qt k) (qp k) i) (by omega) (tkP_n (by intro h9; first | exact c47 h9.1 | exact absurd h9.2 (Int32.not_lt.mpr c58))) _ _ _ HW (lv_sub hl [0, 1, 2, 3, 4] rfl)
        · refine lv_aload_n hx hb dX1_takeOutOfQueue_50 rfl (lv_at hl 4 rfl) ?_
          refine g_get CX HW in_X1_takeOutOfQueue_1 0 8 rfl rfl (Nat.le_of_ble_eq_true rfl) fl_X1_takeOutOfQueue_37 rfl dX1_takeOutOfQueue_51 ?_
          refine lv_iload hx hb dX1_takeOutOfQueue_54 (lv_at hl 0 rfl) ?_
          refine g_ald CX HW 8 (k := i) rfl rfl rfl (by omega) (Nat.le_of_ble_eq_true rfl) dX1_takeOutOfQueue_56 ?_
          refine g_top (y := (qp i)) (tkP_at _ _ _ _ _) ?_
          refine lv_iload_n hx hb dX1_takeOutOfQueue_57 rfl (lv_at hl 1 rfl) ?_
          refine lv_icmp_le (tgt := 72) hx hb dX1_takeOutOfQueue_58 (by decide) (fun c58 => ?_) (fun c58 => ?_)
          · exact j72 (tkP (upd qt k (-1)) qp (qt k) (qp k) i) (by omega) (tkP_n (by intro h9; first | exact c47 h9.1 | exact absurd h9.2 (Int32.not_lt.mpr c58))) _ _ _ HW (lv_sub hl [0, 1, 2, 3, 4] rfl)
          · have c58 := Int32.not_le.mp c58
            refine lv_aload_n hx hb dX1_takeOutOfQueue_61 rfl (lv_at hl 4 rfl) ?_
            refine g_get CX HW in_X1_takeOutOfQueue_1 0 8 rfl rfl (Nat.le_of_ble_eq_true rfl) fl_X1_takeOutOfQueue_37 rfl dX1_takeOutOfQueue_62 ?_
            refine lv_iload hx hb dX1_takeOutOfQueue_65 (lv_at hl 0 rfl) ?_
            refine lv_dup2_11 hx hb dX1_takeOutOfQueue_67 rfl rfl ?_
            refine g_ald CX HW 8 (k := i) rfl rfl rfl (by omega) (Nat.le_of_ble_eq_true rfl) dX1_takeOutOfQueue_68 ?_
            refine g_top (y := (qp i)) (tkP_at _ _ _ _ _) ?_
            refine lv_iconst (v := 1) hx hb dX1_takeOutOfQueue_69 (by decide) ?_
            refine lv_isub hx hb dX1_takeOutOfQueue_70 ?_
            refine g_ast CX HW 8 (k := i) rfl rfl rfl (by omega) (Nat.le_of_ble_eq_true rfl) dX1_takeOutOfQueue_71 (fun H locs HW => ?_)
            have HW : Hw D A s (wS cI a o n sk cn wx ly pt rd (upd qt k (-1)) (upd (tkP (upd qt k (-1)) qp (qt k) (qp k) i) i ((qp i) - (1 : Int32)))) H locs := HW
            exact j72 (upd (tkP (upd qt k (-1)) qp (qt k) (qp k) i) i ((qp i) - (1 : Int32))) (by omega) (tkP_s c47 c58) _ _ _ HW (lv_sub hl [0, 1, 2, 3, 4] rfl)
  refine lv_aload_n hx hb dX1_takeOutOfQueue_0 rfl (lv_at hl 0 rfl) ?_
  refine g_get CX HW in_X1_takeOutOfQueue_1 0 7 rfl rfl (Nat.le_of_ble_eq_true rfl) fl_X1_takeOutOfQueue_34 rfl dX1_takeOutOfQueue_1 ?_
  refine lv_iload_n hx hb dX1_takeOutOfQueue_4 rfl (lv_at hl 1 rfl) ?_
  refine g_ald CX HW 7 (k := k) rfl rfl rfl (by omega) (Nat.le_of_ble_eq_true rfl) dX1_takeOutOfQueue_5 ?_
  refine lv_istore_n (lv' := [(2, .int (qt k)), (0, .ref (a o)), (1, .int (nI k))]) hx hb dX1_takeOutOfQueue_6 rfl hl (Nat.le_of_ble_eq_true rfl) rfl (fun ls hl => ?_)
  refine lv_aload_n hx hb dX1_takeOutOfQueue_7 rfl (lv_at hl 1 rfl) ?_
  refine g_get CX HW in_X1_takeOutOfQueue_1 0 8 rfl rfl (Nat.le_of_ble_eq_true rfl) fl_X1_takeOutOfQueue_37 rfl dX1_takeOutOfQueue_8 ?_
  refine lv_iload_n hx hb dX1_takeOutOfQueue_11 rfl (lv_at hl 2 rfl) ?_
  refine g_ald CX HW 8 (k := k) rfl rfl rfl (by omega) (Nat.le_of_ble_eq_true rfl) dX1_takeOutOfQueue_12 ?_
  refine lv_istore_n (lv' := [(3, .int (qp k)), (2, .int (qt k)), (0, .ref (a o)), (1, .int (nI k))]) hx hb dX1_takeOutOfQueue_13 rfl hl (Nat.le_of_ble_eq_true rfl) rfl (fun ls hl => ?_)
  refine lv_iload_n hx hb dX1_takeOutOfQueue_14 rfl (lv_at hl 1 rfl) ?_
  refine lv_iconst (v := (-1)) hx hb dX1_takeOutOfQueue_15 (by decide) ?_
  refine lv_icmp_ne (tgt := 20) hx hb dX1_takeOutOfQueue_16 (by decide) (fun c16 => ?_) (fun c16 => ?_)
  · refine lv_aload_n hx hb dX1_takeOutOfQueue_20 rfl (lv_at hl 2 rfl) ?_
    refine g_get CX HW in_X1_takeOutOfQueue_1 0 7 rfl rfl (Nat.le_of_ble_eq_true rfl) fl_X1_takeOutOfQueue_34 rfl dX1_takeOutOfQueue_21 ?_
    refine lv_iload_n hx hb dX1_takeOutOfQueue_24 rfl (lv_at hl 3 rfl) ?_
    refine lv_iconst (v := (-1)) hx hb dX1_takeOutOfQueue_25 (by decide) ?_
    refine g_ast CX HW 7 (k := k) rfl rfl rfl (by omega) (Nat.le_of_ble_eq_true rfl) dX1_takeOutOfQueue_26 (fun H locs HW => ?_)
    have HW : Hw D A s (wS cI a o n sk cn wx ly pt rd (upd qt k (-1 : Int32)) qp) H locs := HW
    have hwe : qp = (tkP (upd qt k (-1)) qp (qt k) (qp k) 0) := (tkP_0 _ _ _ _).symm
    rw [hwe] at HW; clear hwe
    refine lv_iconst (v := 0) hx hb dX1_takeOutOfQueue_27 (by decide) ?_
    refine lv_istore (lv' := [(4, .int (0 : Int32)), (3, .int (qp k)), (2, .int (qt k)), (0, .ref (a o)), (1, .int (nI k))]) hx hb dX1_takeOutOfQueue_28 hl (Nat.le_of_ble_eq_true rfl) rfl (fun ls hl => ?_)
    exact loop _ 0 rfl c16 (by omega) _ _ _ HW (lv_sub hl [0, 1, 2, 4, 3] rfl)
  · exact g_vret CX HW rfl ⟨rfl, by rw [tkT, tkQ, if_pos c16, if_pos c16]⟩ dX1_takeOutOfQueue_19

theorem hd_X1_putAtEnd : yX1_putAtEnd.cls ≠ "java/lang/invoke/MethodHandle" ∧ yX1_putAtEnd.cls ≠ "java/lang/invoke/VarHandle" ∧ (parseMethodDescriptor yX1_putAtEnd.desc).map (fun d => d.parameters.length) = some 2 := by decide +kernel
theorem fl_X1_putAtEnd_34 : Cond.fieldLink RX1 34 (TX1 7).1 (TX1 7).2.1 (TX1 7).2.2.1 ∈ wsX1_putAtEnd := by decide +kernel
theorem in_X1_putAtEnd_1 : ∀ x ∈ u_ws RX1 TX1 9, x ∈ wsX1_putAtEnd := by decide +kernel
theorem fl_X1_putAtEnd_37 : Cond.fieldLink RX1 37 (TX1 8).1 (TX1 8).2.1 (TX1 8).2.2.1 ∈ wsX1_putAtEnd := by decide +kernel
set_option maxRecDepth 100000 in
set_option maxHeartbeats 4000000 in
theorem c_X1_putAtEnd {l : Launch} {D : va_G} {cI cL : ClassId} {a : Nat → Nat} (o : Nat) (n : Nat) (sk : Nat → Int32) (cn : Nat → Int32) (wx : Nat → Int32) (ly : Nat → Int32) (pt : Nat → Int32) (rd : Nat → Int32) (qt : Nat → Int32) (qp : Nat → Int32) (k : Nat) (t : Int32) (hn : n ≤ 8) (hk8 : k < 8) : Ct l yX1_putAtEnd wsX1_putAtEnd { frames := 1, cells := 0, slots := 0, locals := 23 } D (ty2 cI cL) [.ref (a o), .int (nI k), .int t] (wS cI a o n sk cn wx ly pt rd qt qp) (fun v w' => v = none ∧ w' = wS cI a o n sk cn wx ly pt rd (upd qt k t) (upd qp k (nI (cntE qt t n)))) 0 0 := by
  refine Ct.of (cc := cX1_putAtEnd) (maxL := 4) (ret := none) (by decide) rfl (Nat.le_of_ble_eq_true rfl) ?_
  intro p e s m below meth c A ls CX hin HW hl
  obtain ⟨hx, hb, hml, hr, hown, hts, hK, hA, hlk⟩ := id CX
  have hl : lv_has ls 4 [(0, .ref (a o)), (1, .int (nI k)), (2, .int t)] := hl
  refine lv_aload_n hx hb dX1_putAtEnd_0 rfl (lv_at hl 0 rfl) ?_
  refine lv_iload_n hx hb dX1_putAtEnd_1 rfl (lv_at hl 2 rfl) ?_
  refine g_callV CX HW hl.1 ([]) ([]) (c_X1_waitingAt o n sk cn wx ly pt rd qt qp t (by omega)) rfl 0 rfl rfl gX1_putAtEnd_X1_waitingAt rfl ⟨rfl, hd_X1_waitingAt⟩ ⟨rfl, rfl, (Nat.le_of_ble_eq_true rfl), (Nat.le_of_ble_eq_true rfl)⟩ ⟨(Nat.zero_le _), (Nat.zero_le _)⟩ rfl rfl (Nat.le_of_ble_eq_true rfl) dX1_putAtEnd_2 (fun v w1 H locs hp HW => ?_)
  obtain ⟨rfl, rfl⟩ := hp
  have HW : Hw D A s (wS cI a o n sk cn wx ly pt rd qt qp) H locs := HW
  refine W.eq (g2 := F0 m 5 ls [.int (nI (cntE qt t n))]) rfl ?_
  refine lv_istore_n (lv' := [(3, .int (nI (cntE qt t n))), (0, .ref (a o)), (1, .int (nI k)), (2, .int t)]) hx hb dX1_putAtEnd_5 rfl hl (Nat.le_of_ble_eq_true rfl) rfl (fun ls hl => ?_)
  refine lv_aload_n hx hb dX1_putAtEnd_6 rfl (lv_at hl 1 rfl) ?_
  refine g_get CX HW in_X1_putAtEnd_1 0 7 rfl rfl (Nat.le_of_ble_eq_true rfl) fl_X1_putAtEnd_34 rfl dX1_putAtEnd_7 ?_
  refine lv_iload_n hx hb dX1_putAtEnd_10 rfl (lv_at hl 2 rfl) ?_
  refine lv_iload_n hx hb dX1_putAtEnd_11 rfl (lv_at hl 3 rfl) ?_
  refine g_ast CX HW 7 (k := k) rfl rfl rfl (by omega) (Nat.le_of_ble_eq_true rfl) dX1_putAtEnd_12 (fun H locs HW => ?_)
  have HW : Hw D A s (wS cI a o n sk cn wx ly pt rd (upd qt k t) qp) H locs := HW
  refine lv_aload_n hx hb dX1_putAtEnd_13 rfl (lv_at hl 1 rfl) ?_
  refine g_get CX HW in_X1_putAtEnd_1 0 8 rfl rfl (Nat.le_of_ble_eq_true rfl) fl_X1_putAtEnd_37 rfl dX1_putAtEnd_14 ?_
  refine lv_iload_n hx hb dX1_putAtEnd_17 rfl (lv_at hl 2 rfl) ?_
  refine lv_iload_n hx hb dX1_putAtEnd_18 rfl (lv_at hl 0 rfl) ?_
  refine g_ast CX HW 8 (k := k) rfl rfl rfl (by omega) (Nat.le_of_ble_eq_true rfl) dX1_putAtEnd_19 (fun H locs HW => ?_)
  have HW : Hw D A s (wS cI a o n sk cn wx ly pt rd (upd qt k t) (upd qp k (nI (cntE qt t n)))) H locs := HW
  exact g_vret CX HW rfl ⟨rfl, rfl⟩ dX1_putAtEnd_20

theorem hd_X1_glide : yX1_glide.cls ≠ "java/lang/invoke/MethodHandle" ∧ yX1_glide.cls ≠ "java/lang/invoke/VarHandle" ∧ (parseMethodDescriptor yX1_glide.desc).map (fun d => d.parameters.length) = some 2 := by decide +kernel
theorem fl_X1_glide_25 : Cond.fieldLink RX1 25 (TX1 4).1 (TX1 4).2.1 (TX1 4).2.2.1 ∈ wsX1_glide := by decide +kernel
theorem in_X1_glide_1 : ∀ x ∈ u_ws RX1 TX1 9, x ∈ wsX1_glide := by decide +kernel
theorem fl_X1_glide_22 : Cond.fieldLink RX1 22 (TX1 3).1 (TX1 3).2.1 (TX1 3).2.2.1 ∈ wsX1_glide := by decide +kernel
theorem mm_X1_glide_44 : Cond.methodLink RX1 44 Lib.Math.abs.name ∈ wsX1_glide ∧ Cond.static Lib.Math.abs.name ∈ wsX1_glide ∧ Cond.initialized "java/lang/Math" ∈ wsX1_glide ∧ Cond.code Lib.Math.abs.name Lib.Math.abs.code 1 (some .int) ∈ wsX1_glide := ⟨by decide +kernel, by decide +kernel, by decide +kernel, by decide +kernel⟩
set_option maxRecDepth 100000 in
set_option maxHeartbeats 4000000 in
theorem c_X1_glide {l : Launch} {D : va_G} {cI cL : ClassId} {a : Nat → Nat} (o : Nat) (n : Nat) (sk : Nat → Int32) (cn : Nat → Int32) (wx : Nat → Int32) (ly : Nat → Int32) (pt : Nat → Int32) (rd : Nat → Int32) (qt : Nat → Int32) (qp : Nat → Int32) (k : Nat) (f : Int32) (hk8 : k < 8) : Ct l yX1_glide wsX1_glide { frames := 1, cells := 0, slots := 0, locals := 24 } D (ty2 cI cL) [.ref (a o), .int (nI k), .int f] (wS cI a o n sk cn wx ly pt rd qt qp) (fun v w' => v = some (.int (glR wx ly k f)) ∧ w' = wS cI a o n sk cn wx (glL ly k) pt rd qt qp) 0 0 := by
  refine Ct.of (cc := cX1_glide) (maxL := 3) (ret := (some .int)) (by decide) rfl (Nat.le_of_ble_eq_true rfl) ?_
  intro p e s m below meth c A ls CX hin HW hl
  obtain ⟨hx, hb, hml, hr, hown, hts, hK, hA, hlk⟩ := id CX
  have hl : lv_has ls 3 [(0, .ref (a o)), (1, .int (nI k)), (2, .int f)] := hl
  refine lv_aload_n hx hb dX1_glide_0 rfl (lv_at hl 0 rfl) ?_
  refine g_get CX HW in_X1_glide_1 0 4 rfl rfl (Nat.le_of_ble_eq_true rfl) fl_X1_glide_25 rfl dX1_glide_1 ?_
  refine lv_iload_n hx hb dX1_glide_4 rfl (lv_at hl 1 rfl) ?_
  refine g_ald CX HW 4 (k := k) rfl rfl rfl (by omega) (Nat.le_of_ble_eq_true rfl) dX1_glide_5 ?_
  refine lv_if_gt (tgt := 12) hx hb dX1_glide_6 (by decide) (fun c6 => ?_) (fun c6 => ?_)
  · refine lv_aload_n hx hb dX1_glide_12 rfl (lv_at hl 0 rfl) ?_
    refine g_get CX HW in_X1_glide_1 0 4 rfl rfl (Nat.le_of_ble_eq_true rfl) fl_X1_glide_25 rfl dX1_glide_13 ?_
    refine lv_iload_n hx hb dX1_glide_16 rfl (lv_at hl 1 rfl) ?_
    refine lv_dup2_11 hx hb dX1_glide_17 rfl rfl ?_
    refine g_ald CX HW 4 (k := k) rfl rfl rfl (by omega) (Nat.le_of_ble_eq_true rfl) dX1_glide_18 ?_
    refine lv_iconst (v := 1) hx hb dX1_glide_19 (by decide) ?_
    refine lv_isub hx hb dX1_glide_20 ?_
    refine g_ast CX HW 4 (k := k) rfl rfl rfl (by omega) (Nat.le_of_ble_eq_true rfl) dX1_glide_21 (fun H locs HW => ?_)
    have HW : Hw D A s (wS cI a o n sk cn wx (upd ly k ((ly k) - (1 : Int32))) pt rd qt qp) H locs := HW
    refine lv_iconst (v := 4) hx hb dX1_glide_22 (by decide) ?_
    refine lv_iconst (v := 2) hx hb dX1_glide_23 (by decide) ?_
    refine lv_aload_n hx hb dX1_glide_24 rfl (lv_at hl 0 rfl) ?_
    refine g_get CX HW in_X1_glide_1 0 3 rfl rfl (Nat.le_of_ble_eq_true rfl) fl_X1_glide_22 rfl dX1_glide_25 ?_
    refine lv_iload_n hx hb dX1_glide_28 rfl (lv_at hl 1 rfl) ?_
    refine g_ald CX HW 3 (k := k) rfl rfl rfl (by omega) (Nat.le_of_ble_eq_true rfl) dX1_glide_29 ?_
    refine lv_iload_n hx hb dX1_glide_30 rfl (lv_at hl 2 rfl) ?_
    refine lv_isub hx hb dX1_glide_31 ?_
    refine va_mabs hx hb (hml.trans hl.1.symm) hown (hts _ mm_X1_glide_44.1) (hts _ mm_X1_glide_44.2.1) (hts _ mm_X1_glide_44.2.2.1) (hts _ mm_X1_glide_44.2.2.2) (Nat.le_of_ble_eq_true rfl) (Nat.le_of_ble_eq_true rfl) (Nat.zero_le _) (Nat.zero_le _) dX1_glide_32 ?_
    refine lv_imul hx hb dX1_glide_35 ?_
    refine lv_isub hx hb dX1_glide_36 ?_
    exact g_iret CX HW rfl ⟨by rw [glR, if_pos c6]; rfl, by rw [glL, if_pos c6]⟩ dX1_glide_37
  · refine lv_bipush (v := (-4)) hx hb dX1_glide_9 (by decide) ?_
    exact g_iret CX HW rfl ⟨by rw [glR, if_neg c6], by rw [glL, if_neg c6]⟩ dX1_glide_11

theorem hd_X1_addPoints : yX1_addPoints.cls ≠ "java/lang/invoke/MethodHandle" ∧ yX1_addPoints.cls ≠ "java/lang/invoke/VarHandle" ∧ (parseMethodDescriptor yX1_addPoints.desc).map (fun d => d.parameters.length) = some 2 := by decide +kernel
theorem fl_X1_addPoints_28 : Cond.fieldLink RX1 28 (TX1 5).1 (TX1 5).2.1 (TX1 5).2.2.1 ∈ wsX1_addPoints := by decide +kernel
theorem in_X1_addPoints_1 : ∀ x ∈ u_ws RX1 TX1 9, x ∈ wsX1_addPoints := by decide +kernel
theorem sn_X1_addPoints_X3_held : Cond.initialized yX3_held.cls ∈ wsX1_addPoints ∧ Cond.static yX3_held ∈ wsX1_addPoints := ⟨by decide +kernel, by decide +kernel⟩
set_option maxRecDepth 100000 in
set_option maxHeartbeats 4000000 in
theorem c_X1_addPoints {l : Launch} {D : va_G} {cI cL : ClassId} {a : Nat → Nat} (o : Nat) (n : Nat) (sk : Nat → Int32) (cn : Nat → Int32) (wx : Nat → Int32) (ly : Nat → Int32) (pt : Nat → Int32) (rd : Nat → Int32) (qt : Nat → Int32) (qp : Nat → Int32) (k : Nat) (x : Int32) (hk8 : k < 8) : Ct l yX1_addPoints wsX1_addPoints { frames := 2, cells := 0, slots := 0, locals := 46 } D (ty2 cI cL) [.ref (a o), .int (nI k), .int x] (wS cI a o n sk cn wx ly pt rd qt qp) (fun v w' => v = none ∧ w' = wS cI a o n sk cn wx ly (upd pt k (heldI (pt k + x) 0 999)) rd qt qp) 0 0 := by
  refine Ct.of (cc := cX1_addPoints) (maxL := 3) (ret := none) (by decide) rfl (Nat.le_of_ble_eq_true rfl) ?_
  intro p e s m below meth c A ls CX hin HW hl
  obtain ⟨hx, hb, hml, hr, hown, hts, hK, hA, hlk⟩ := id CX
  have hl : lv_has ls 3 [(0, .ref (a o)), (1, .int (nI k)), (2, .int x)] := hl
  refine lv_aload_n hx hb dX1_addPoints_0 rfl (lv_at hl 0 rfl) ?_
  refine g_get CX HW in_X1_addPoints_1 0 5 rfl rfl (Nat.le_of_ble_eq_true rfl) fl_X1_addPoints_28 rfl dX1_addPoints_1 ?_
  refine lv_iload_n hx hb dX1_addPoints_4 rfl (lv_at hl 1 rfl) ?_
  refine lv_aload_n hx hb dX1_addPoints_5 rfl (lv_at hl 0 rfl) ?_
  refine g_get CX HW in_X1_addPoints_1 0 5 rfl rfl (Nat.le_of_ble_eq_true rfl) fl_X1_addPoints_28 rfl dX1_addPoints_6 ?_
  refine lv_iload_n hx hb dX1_addPoints_9 rfl (lv_at hl 1 rfl) ?_
  refine g_ald CX HW 5 (k := k) rfl rfl rfl (by omega) (Nat.le_of_ble_eq_true rfl) dX1_addPoints_10 ?_
  refine lv_iload_n hx hb dX1_addPoints_11 rfl (lv_at hl 2 rfl) ?_
  refine lv_iadd hx hb dX1_addPoints_12 ?_
  refine lv_iconst (v := 0) hx hb dX1_addPoints_13 (by decide) ?_
  refine lv_sipush (v := 999) hx hb dX1_addPoints_14 (by decide) ?_
  refine g_callSN (host := "PommelTows") CX HW hl.1 ([]) (wS cI a o n sk cn wx ly pt rd qt qp) (c_X3_held ((pt k) + x) (0 : Int32) (999 : Int32)) rfl gX1_addPoints_X3_held_n49 sn_X1_addPoints_X3_held (by decide +kernel) rfl hd_X3_held ⟨rfl, rfl, (Nat.le_of_ble_eq_true rfl), (Nat.le_of_ble_eq_true rfl)⟩ ⟨(Nat.zero_le _), (Nat.zero_le _)⟩ rfl rfl (Nat.le_of_ble_eq_true rfl) dX1_addPoints_17 (fun v w1 H locs hp HW => ?_)
  obtain ⟨rfl, rfl⟩ := hp
  have HW : Hw D A s (wS cI a o n sk cn wx ly pt rd qt qp) H locs := HW
  refine W.eq (g2 := F0 m 20 ls [.int (heldI ((pt k) + x) (0 : Int32) (999 : Int32)), .int (nI k), .ref (a (o + 5))]) rfl ?_
  refine g_ast CX HW 5 (k := k) rfl rfl rfl (by omega) (Nat.le_of_ble_eq_true rfl) dX1_addPoints_20 (fun H locs HW => ?_)
  have HW : Hw D A s (wS cI a o n sk cn wx ly (upd pt k (heldI ((pt k) + x) (0 : Int32) (999 : Int32))) rd qt qp) H locs := HW
  exact g_vret CX HW rfl ⟨rfl, rfl⟩ dX1_addPoints_21

theorem hd_X1_allPoints : yX1_allPoints.cls ≠ "java/lang/invoke/MethodHandle" ∧ yX1_allPoints.cls ≠ "java/lang/invoke/VarHandle" ∧ (parseMethodDescriptor yX1_allPoints.desc).map (fun d => d.parameters.length) = some 0 := by decide +kernel
theorem fl_X1_allPoints_9 : Cond.fieldLink RX1 9 (TX1 0).1 (TX1 0).2.1 (TX1 0).2.2.1 ∈ wsX1_allPoints := by decide +kernel
theorem in_X1_allPoints_1 : ∀ x ∈ u_ws RX1 TX1 9, x ∈ wsX1_allPoints := by decide +kernel
theorem fl_X1_allPoints_28 : Cond.fieldLink RX1 28 (TX1 5).1 (TX1 5).2.1 (TX1 5).2.2.1 ∈ wsX1_allPoints := by decide +kernel
set_option maxRecDepth 100000 in
set_option maxHeartbeats 4000000 in
theorem c_X1_allPoints {l : Launch} {D : va_G} {cI cL : ClassId} {a : Nat → Nat} (o : Nat) (n : Nat) (sk : Nat → Int32) (cn : Nat → Int32) (wx : Nat → Int32) (ly : Nat → Int32) (pt : Nat → Int32) (rd : Nat → Int32) (qt : Nat → Int32) (qp : Nat → Int32) (hn : n ≤ 8) : Ct l yX1_allPoints wsX1_allPoints { frames := 0, cells := 0, slots := 0, locals := 0 } D (ty2 cI cL) [.ref (a o)] (wS cI a o n sk cn wx ly pt rd qt qp) (fun v w' => v = some (.int (sumN pt n)) ∧ w' = wS cI a o n sk cn wx ly pt rd qt qp) 0 0 := by
  refine Ct.of (cc := cX1_allPoints) (maxL := 3) (ret := (some .int)) (by decide) rfl (Nat.le_of_ble_eq_true rfl) ?_
  intro p e s m below meth c A ls CX hin HW hl
  obtain ⟨hx, hb, hml, hr, hown, hts, hK, hA, hlk⟩ := id CX
  have hl : lv_has ls 3 [(0, .ref (a o))] := hl
  have loop : ∀ (d0 : Nat) (i : Nat), n - i = d0 → (i ≤ n) → ∀ (H : Heap) (locs : List Loc) (ls : Array Slot), Hw D A s (wS cI a o n sk cn wx ly pt rd qt qp) H locs → lv_has ls 3 [(2, .int (nI i)), (1, .int (sumN pt i)), (0, .ref (a o))] → W p l e ({ frames := 0, cells := 0, slots := 0, locals := 0 } : Room) s m ([.ref (a o)] : List Value).toArray below meth c H locs 0 0 (MQ below (cQ D A (fun v w' => v = some (.int (sumN pt n)) ∧ w' = wS cI a o n sk cn wx ly pt rd qt qp)) ([.ref (a o)] : List Value).toArray s 0 0 A) (F0 m 4 ls []) := by
    intro d0
    induction d0 using Nat.strongRecOn with
    | _ d0 ih =>
      intro i hd0 hi H locs ls HW hl
      refine lv_iload_n hx hb dX1_allPoints_4 rfl (lv_at hl 0 rfl) ?_
      refine lv_aload_n hx hb dX1_allPoints_5 rfl (lv_at hl 2 rfl) ?_
      refine g_get CX HW in_X1_allPoints_1 0 0 rfl rfl (Nat.le_of_ble_eq_true rfl) fl_X1_allPoints_9 rfl dX1_allPoints_6 ?_
      refine lv_icmp_ge (tgt := 27) hx hb dX1_allPoints_9 (by decide) (fun c9 => ?_) (fun c9 => ?_)
      · have c9 := (nI_leI (by omega) (by omega)).mp c9
        obtain rfl : i = n := by omega
        refine lv_iload_n hx hb dX1_allPoints_27 rfl (lv_at hl 1 rfl) ?_
        exact g_iret CX HW rfl ⟨rfl, rfl⟩ dX1_allPoints_28
      · have c9 : i < n := nI_lt_of (by omega) (by omega) c9
        refine lv_iload_n hx hb dX1_allPoints_12 rfl (lv_at hl 1 rfl) ?_
        refine lv_aload_n hx hb dX1_allPoints_13 rfl (lv_at hl 2 rfl) ?_
        refine g_get CX HW in_X1_allPoints_1 0 5 rfl rfl (Nat.le_of_ble_eq_true rfl) fl_X1_allPoints_28 rfl dX1_allPoints_14 ?_
        refine lv_iload_n hx hb dX1_allPoints_17 rfl (lv_at hl 0 rfl) ?_
        refine g_ald CX HW 5 (k := i) rfl rfl rfl (by omega) (Nat.le_of_ble_eq_true rfl) dX1_allPoints_18 ?_
        refine lv_iadd hx hb dX1_allPoints_19 ?_
        refine lv_istore_n (lv' := [(1, .int ((sumN pt i) + (pt i))), (2, .int (nI i)), (0, .ref (a o))]) hx hb dX1_allPoints_20 rfl hl (Nat.le_of_ble_eq_true rfl) rfl (fun ls hl => ?_)
        refine lv_iinc (v := (nI (i + 1))) (lv' := [(2, .int (nI (i + 1))), (1, .int ((sumN pt i) + (pt i))), (0, .ref (a o))]) hx hb dX1_allPoints_21 hl (k := 1) rfl (inc1 _) (Nat.le_of_ble_eq_true rfl) rfl (fun ls hl => ?_)
        refine lv_goto (tgt := 4) hx hb dX1_allPoints_24 (by decide) ?_
        exact ih _ (by omega) (i + 1) rfl (by omega) _ _ _ HW (lv_sub hl [0, 1, 2] rfl)
  refine lv_iconst (v := 0) hx hb dX1_allPoints_0 (by decide) ?_
  refine lv_istore_n (lv' := [(1, .int (0 : Int32)), (0, .ref (a o))]) hx hb dX1_allPoints_1 rfl hl (Nat.le_of_ble_eq_true rfl) rfl (fun ls hl => ?_)
  refine lv_iconst (v := 0) hx hb dX1_allPoints_2 (by decide) ?_
  refine lv_istore_n (lv' := [(2, .int (0 : Int32)), (1, .int (0 : Int32)), (0, .ref (a o))]) hx hb dX1_allPoints_3 rfl hl (Nat.le_of_ble_eq_true rfl) rfl (fun ls hl => ?_)
  exact loop _ 0 rfl (by omega) _ _ _ HW (lv_sub hl [0, 1, 2] rfl)

theorem hd_X1_figure : yX1_figure.cls ≠ "java/lang/invoke/MethodHandle" ∧ yX1_figure.cls ≠ "java/lang/invoke/VarHandle" ∧ (parseMethodDescriptor yX1_figure.desc).map (fun d => d.parameters.length) = some 2 := by decide +kernel
theorem fl_X1_figure_15 : Cond.fieldLink RX1 15 (TX1 1).1 (TX1 1).2.1 (TX1 1).2.2.1 ∈ wsX1_figure := by decide +kernel
theorem in_X1_figure_1 : ∀ x ∈ u_ws RX1 TX1 9, x ∈ wsX1_figure := by decide +kernel
theorem fl_X1_figure_19 : Cond.fieldLink RX1 19 (TX1 2).1 (TX1 2).2.1 (TX1 2).2.2.1 ∈ wsX1_figure := by decide +kernel
theorem fl_X1_figure_25 : Cond.fieldLink RX1 25 (TX1 4).1 (TX1 4).2.1 (TX1 4).2.2.1 ∈ wsX1_figure := by decide +kernel
theorem fl_X1_figure_22 : Cond.fieldLink RX1 22 (TX1 3).1 (TX1 3).2.1 (TX1 3).2.2.1 ∈ wsX1_figure := by decide +kernel
theorem fl_X1_figure_28 : Cond.fieldLink RX1 28 (TX1 5).1 (TX1 5).2.1 (TX1 5).2.2.1 ∈ wsX1_figure := by decide +kernel
theorem fl_X1_figure_31 : Cond.fieldLink RX1 31 (TX1 6).1 (TX1 6).2.1 (TX1 6).2.2.1 ∈ wsX1_figure := by decide +kernel
theorem fl_X1_figure_34 : Cond.fieldLink RX1 34 (TX1 7).1 (TX1 7).2.1 (TX1 7).2.2.1 ∈ wsX1_figure := by decide +kernel
set_option maxRecDepth 100000 in
set_option maxHeartbeats 4000000 in
theorem c_X1_figure {l : Launch} {D : va_G} {cI cL : ClassId} {a : Nat → Nat} (o : Nat) (n : Nat) (sk : Nat → Int32) (cn : Nat → Int32) (wx : Nat → Int32) (ly : Nat → Int32) (pt : Nat → Int32) (rd : Nat → Int32) (qt : Nat → Int32) (qp : Nat → Int32) (k : Nat) (what : Nat) (hk8 : k < 8) (hw7 : what < 7) : Ct l yX1_figure wsX1_figure { frames := 0, cells := 0, slots := 0, locals := 0 } D (ty2 cI cL) [.ref (a o), .int (nI k), .int (nI what)] (wS cI a o n sk cn wx ly pt rd qt qp) (fun v w' => v = some (.int (figS sk cn wx ly pt rd qt k what)) ∧ w' = wS cI a o n sk cn wx ly pt rd qt qp) 0 0 := by
  refine Ct.of (cc := cX1_figure) (maxL := 3) (ret := (some .int)) (by decide) rfl (Nat.le_of_ble_eq_true rfl) ?_
  intro p e s m below meth c A ls CX hin HW hl
  obtain ⟨hx, hb, hml, hr, hown, hts, hK, hA, hlk⟩ := id CX
  have hl : lv_has ls 3 [(0, .ref (a o)), (1, .int (nI k)), (2, .int (nI what))] := hl
  refine lv_iload_n hx hb dX1_figure_0 rfl (lv_at hl 2 rfl) ?_
  rcases (by omega : what = 0 ∨ what = 1 ∨ what = 2 ∨ what = 3 ∨ what = 4 ∨ what = 5 ∨ what = 6) with rfl | rfl | rfl | rfl | rfl | rfl | rfl
  · refine lv_tableIn (off := 39) (tgt := 40) hx hb dX1_figure_1 (by decide) (by decide) (by decide) (by decide) ?_
    refine lv_aload_n hx hb dX1_figure_40 rfl (lv_at hl 0 rfl) ?_
    refine g_get CX HW in_X1_figure_1 0 1 rfl rfl (Nat.le_of_ble_eq_true rfl) fl_X1_figure_15 rfl dX1_figure_41 ?_
    refine lv_iload_n hx hb dX1_figure_44 rfl (lv_at hl 1 rfl) ?_
    refine g_ald CX HW 1 (k := k) rfl rfl rfl (by omega) (Nat.le_of_ble_eq_true rfl) dX1_figure_45 ?_
    exact g_iret CX HW rfl ⟨rfl, rfl⟩ dX1_figure_46
  · refine lv_tableIn (off := 46) (tgt := 47) hx hb dX1_figure_1 (by decide) (by decide) (by decide) (by decide) ?_
    refine lv_aload_n hx hb dX1_figure_47 rfl (lv_at hl 0 rfl) ?_
    refine g_get CX HW in_X1_figure_1 0 2 rfl rfl (Nat.le_of_ble_eq_true rfl) fl_X1_figure_19 rfl dX1_figure_48 ?_
    refine lv_iload_n hx hb dX1_figure_51 rfl (lv_at hl 1 rfl) ?_
    refine g_ald CX HW 2 (k := k) rfl rfl rfl (by omega) (Nat.le_of_ble_eq_true rfl) dX1_figure_52 ?_
    exact g_iret CX HW rfl ⟨rfl, rfl⟩ dX1_figure_53
  · refine lv_tableIn (off := 53) (tgt := 54) hx hb dX1_figure_1 (by decide) (by decide) (by decide) (by decide) ?_
    refine lv_aload_n hx hb dX1_figure_54 rfl (lv_at hl 0 rfl) ?_
    refine g_get CX HW in_X1_figure_1 0 4 rfl rfl (Nat.le_of_ble_eq_true rfl) fl_X1_figure_25 rfl dX1_figure_55 ?_
    refine lv_iload_n hx hb dX1_figure_58 rfl (lv_at hl 1 rfl) ?_
    refine g_ald CX HW 4 (k := k) rfl rfl rfl (by omega) (Nat.le_of_ble_eq_true rfl) dX1_figure_59 ?_
    refine lv_if_gt (tgt := 67) hx hb dX1_figure_60 (by decide) (fun c60 => ?_) (fun c60 => ?_)
    · refine lv_aload_n hx hb dX1_figure_67 rfl (lv_at hl 0 rfl) ?_
      refine g_get CX HW in_X1_figure_1 0 3 rfl rfl (Nat.le_of_ble_eq_true rfl) fl_X1_figure_22 rfl dX1_figure_68 ?_
      refine lv_iload_n hx hb dX1_figure_71 rfl (lv_at hl 1 rfl) ?_
      refine g_ald CX HW 3 (k := k) rfl rfl rfl (by omega) (Nat.le_of_ble_eq_true rfl) dX1_figure_72 ?_
      exact g_iret CX HW rfl ⟨by simp only [figS]; rw [if_pos c60], rfl⟩ dX1_figure_73
    · refine lv_iconst (v := (-1)) hx hb dX1_figure_63 (by decide) ?_
      refine lv_goto (tgt := 73) hx hb dX1_figure_64 (by decide) ?_
      exact g_iret CX HW rfl ⟨by simp only [figS]; rw [if_neg c60], rfl⟩ dX1_figure_73
  · refine lv_tableIn (off := 73) (tgt := 74) hx hb dX1_figure_1 (by decide) (by decide) (by decide) (by decide) ?_
    refine lv_aload_n hx hb dX1_figure_74 rfl (lv_at hl 0 rfl) ?_
    refine g_get CX HW in_X1_figure_1 0 4 rfl rfl (Nat.le_of_ble_eq_true rfl) fl_X1_figure_25 rfl dX1_figure_75 ?_
    refine lv_iload_n hx hb dX1_figure_78 rfl (lv_at hl 1 rfl) ?_
    refine g_ald CX HW 4 (k := k) rfl rfl rfl (by omega) (Nat.le_of_ble_eq_true rfl) dX1_figure_79 ?_
    exact g_iret CX HW rfl ⟨rfl, rfl⟩ dX1_figure_80
  · refine lv_tableIn (off := 80) (tgt := 81) hx hb dX1_figure_1 (by decide) (by decide) (by decide) (by decide) ?_
    refine lv_aload_n hx hb dX1_figure_81 rfl (lv_at hl 0 rfl) ?_
    refine g_get CX HW in_X1_figure_1 0 5 rfl rfl (Nat.le_of_ble_eq_true rfl) fl_X1_figure_28 rfl dX1_figure_82 ?_
    refine lv_iload_n hx hb dX1_figure_85 rfl (lv_at hl 1 rfl) ?_
    refine g_ald CX HW 5 (k := k) rfl rfl rfl (by omega) (Nat.le_of_ble_eq_true rfl) dX1_figure_86 ?_
    exact g_iret CX HW rfl ⟨rfl, rfl⟩ dX1_figure_87
  · refine lv_tableIn (off := 87) (tgt := 88) hx hb dX1_figure_1 (by decide) (by decide) (by decide) (by decide) ?_
    refine lv_aload_n hx hb dX1_figure_88 rfl (lv_at hl 0 rfl) ?_
    refine g_get CX HW in_X1_figure_1 0 6 rfl rfl (Nat.le_of_ble_eq_true rfl) fl_X1_figure_31 rfl dX1_figure_89 ?_
    refine lv_iload_n hx hb dX1_figure_92 rfl (lv_at hl 1 rfl) ?_
    refine g_ald CX HW 6 (k := k) rfl rfl rfl (by omega) (Nat.le_of_ble_eq_true rfl) dX1_figure_93 ?_
    exact g_iret CX HW rfl ⟨rfl, rfl⟩ dX1_figure_94
  · refine lv_tableOut (tgt := 95) hx hb dX1_figure_1 (by decide) (by decide) ?_
    refine lv_aload_n hx hb dX1_figure_95 rfl (lv_at hl 0 rfl) ?_
    refine g_get CX HW in_X1_figure_1 0 7 rfl rfl (Nat.le_of_ble_eq_true rfl) fl_X1_figure_34 rfl dX1_figure_96 ?_
    refine lv_iload_n hx hb dX1_figure_99 rfl (lv_at hl 1 rfl) ?_
    refine g_ald CX HW 7 (k := k) rfl rfl rfl (by omega) (Nat.le_of_ble_eq_true rfl) dX1_figure_100 ?_
    exact g_iret CX HW rfl ⟨rfl, rfl⟩ dX1_figure_101
