abbrev ty2 (cI _cL : ClassId) : List (ClassId × FieldType) := [(cI, .int)]
theorem inc1 (n : Nat) : nI n + Int32.ofInt 1 = nI (n + 1) := nI_1 n
theorem inc1x (x : Int32) : x + Int32.ofInt 1 = x + 1 := rfl
theorem nI_lt_of {a b : Nat} (ha : a < 2 ^ 31) (hb : b < 2 ^ 31) (h : ¬ nI a ≤ nI b) : b < a := Nat.lt_of_not_le fun h2 => h ((nI_leI ha hb).mpr h2)
/-- a truth as the machine has it -/
def bI (P : Prop) [Decidable P] : Int32 := if P then 1 else 0
theorem bI_t {P : Prop} [Decidable P] (h : P) : bI P = 1 := if_pos h
theorem bI_f {P : Prop} [Decidable P] (h : ¬ P) : bI P = 0 := if_neg h
theorem bI_01 (P : Prop) [Decidable P] : bI P = 0 ∨ bI P = 1 := by by_cases h : P <;> simp [bI, h]
theorem bI_iff {P : Prop} [Decidable P] : bI P = 0 ↔ ¬ P := by by_cases h : P <;> simp [bI, h]
theorem bI_c {P R : Prop} [Decidable P] [Decidable R] (h : P ↔ R) : bI P = bI R := by by_cases h1 : P <;> simp [bI, h1, ← h]
/-- a number or none, as the machine has it -/
def oI (r : Option Nat) : Int32 := match r with
  | none => -1
  | some k => nI k
section GB
variable {p : Program} {l : Launch} {e : Env} {R : Room} {s : State} {m : MethodId} {args : Array Value} {below : List Frame} {meth : Method} {c : Code} {H : Heap} {locs : List Loc} {cells slots : Nat} {Q : State → Prop} {cc : ByteArray} {pc : Nat} {ls : Array Slot} {rest : List Value}
theorem g_top {x y : Int32} (h : x = y) (kk : W p l e R s m args below meth c H locs cells slots Q (F0 m pc ls (.int y :: rest))) : W p l e R s m args below meth c H locs cells slots Q (F0 m pc ls (.int x :: rest)) := by
  rw [h]; exact kk
theorem g_ifne_b {P : Prop} [Decidable P] (hx : p.tables.exec = Jvm.exec) (hb : c.code = cc) {off : Int} {tgt : Nat} (hdg : decode cc pc = .ok (.ifCond .ne off, 3)) (ht : (pc : Int) + off = (tgt : Int))
    (kt : P → W p l e R s m args below meth c H locs cells slots Q (F0 m tgt ls rest)) (kf : ¬ P → W p l e R s m args below meth c H locs cells slots Q (F0 m (pc + 3) ls rest)) : W p l e R s m args below meth c H locs cells slots Q (F0 m pc ls (.int (bI P) :: rest)) :=
  lv_if_ne hx hb hdg ht (fun h => kt (Decidable.byContradiction fun q => h (bI_f q))) (fun h => kf (fun q => absurd h (by rw [bI_t q]; decide)))
theorem g_ifeq_b {P : Prop} [Decidable P] (hx : p.tables.exec = Jvm.exec) (hb : c.code = cc) {off : Int} {tgt : Nat} (hdg : decode cc pc = .ok (.ifCond .eq off, 3)) (ht : (pc : Int) + off = (tgt : Int))
    (kt : ¬ P → W p l e R s m args below meth c H locs cells slots Q (F0 m tgt ls rest)) (kf : P → W p l e R s m args below meth c H locs cells slots Q (F0 m (pc + 3) ls rest)) : W p l e R s m args below meth c H locs cells slots Q (F0 m pc ls (.int (bI P) :: rest)) :=
  lv_if_eq hx hb hdg ht (fun h => kt (fun q => by rw [bI_t q] at h; exact absurd h (by decide))) (fun h => kf (Decidable.byContradiction fun q => h (bI_f q)))
end GB
def wR (cI : ClassId) (a : Nat → Nat) (o : Nat) (n : Nat) (tw : Nat → Int32) (sl : Nat → Int32) (dp : Nat → Int32) (kd : Nat → Int32) : va_W := [((a o), .inr (0, [.int (nI n), .ref (a (o + 1)), .ref (a (o + 2)), .ref (a (o + 3)), .ref (a (o + 4))])), ((a (o + 1)), .inl (cI, 6, .inl tw)), ((a (o + 2)), .inl (cI, 6, .inl sl)), ((a (o + 3)), .inl (cI, 6, .inl dp)), ((a (o + 4)), .inl (cI, 6, .inl kd))]
def wS (cI : ClassId) (a : Nat → Nat) (o : Nat) (n : Nat) (sk : Nat → Int32) (cn : Nat → Int32) (wx : Nat → Int32) (ly : Nat → Int32) (pt : Nat → Int32) (rd : Nat → Int32) (qt : Nat → Int32) (qp : Nat → Int32) : va_W := [((a o), .inr (1, [.int (nI n), .ref (a (o + 1)), .ref (a (o + 2)), .ref (a (o + 3)), .ref (a (o + 4)), .ref (a (o + 5)), .ref (a (o + 6)), .ref (a (o + 7)), .ref (a (o + 8))])), ((a (o + 1)), .inl (cI, 8, .inl sk)), ((a (o + 2)), .inl (cI, 8, .inl cn)), ((a (o + 3)), .inl (cI, 8, .inl wx)), ((a (o + 4)), .inl (cI, 8, .inl ly)), ((a (o + 5)), .inl (cI, 8, .inl pt)), ((a (o + 6)), .inl (cI, 8, .inl rd)), ((a (o + 7)), .inl (cI, 8, .inl qt)), ((a (o + 8)), .inl (cI, 8, .inl qp))]
def wVo (cI : ClassId) (a : Nat → Nat) (o : Nat) (hr : Nat) (co : Int32) (fl : Nat → Int32) (po : Nat → Int32) (pu : Nat → Int32) : va_W := [((a o), .inr (2, [.int (nI hr), .int co, .ref (a (o + 1)), .ref (a (o + 2)), .ref (a (o + 3)), .ref (a (o + 4)), .ref (a (o + 9))])), ((a (o + 1)), .inl (cI, 6, .inl fl)), ((a (o + 2)), .inl (cI, 3, .inl po)), ((a (o + 3)), .inl (cI, 3, .inl pu))]
def wXo (cI : ClassId) (a : Nat → Nat) (o : Nat) : va_W := [((a o), .inr (3, [.ref (a (o + 1)), .ref (a (o + 19))]))]
def wMo (cI : ClassId) (a : Nat → Nat) (o : Nat) (th : Int32) (fl : Nat → Int32) (po : Nat → Int32) (nr : Nat) (tw : Nat → Int32) (sl : Nat → Int32) (ns : Nat) (sk : Nat → Int32) : va_W := [((a o), .inr (5, [.int th, .ref (a (o + 1)), .ref (a (o + 2)), .int (nI nr), .ref (a (o + 3)), .ref (a (o + 4)), .int (nI ns), .ref (a (o + 5)), .ref (a (o + 6)), .ref (a (o + 17))])), ((a (o + 1)), .inl (cI, 6, .inl fl)), ((a (o + 2)), .inl (cI, 3, .inl po)), ((a (o + 3)), .inl (cI, 6, .inl tw)), ((a (o + 4)), .inl (cI, 6, .inl sl)), ((a (o + 5)), .inl (cI, 8, .inl sk))]
def wMS (cI : ClassId) (a : Nat → Nat) (o : Nat) (mo : Nat) (hr : Nat) (co : Int32) (ri : Int32) (dp : Nat → Int32) (kd : Nat → Int32) (cn : Nat → Int32) (wx : Nat → Int32) (ly : Nat → Int32) (pt : Nat → Int32) (rd : Nat → Int32) (pu : Nat → Int32) (my : Nat → Int32) (qu : Nat → Int32) : va_W := [((a o), .inr (4, [.int (nI hr), .int co, .int ri, .ref (a (o + 1)), .ref (a (o + 2)), .ref (a (o + 3)), .ref (a (o + 4)), .ref (a (o + 5)), .ref (a (o + 6)), .ref (a (o + 7)), .ref (a (o + 8)), .ref (a (o + 9)), .ref (a (o + 10)), .ref mo])), ((a (o + 1)), .inl (cI, 6, .inl dp)), ((a (o + 2)), .inl (cI, 6, .inl kd)), ((a (o + 3)), .inl (cI, 8, .inl cn)), ((a (o + 4)), .inl (cI, 8, .inl wx)), ((a (o + 5)), .inl (cI, 8, .inl ly)), ((a (o + 6)), .inl (cI, 8, .inl pt)), ((a (o + 7)), .inl (cI, 8, .inl rd)), ((a (o + 8)), .inl (cI, 3, .inl pu)), ((a (o + 9)), .inl (cI, 3, .inl my)), ((a (o + 10)), .inl (cI, 24, .inl qu))]
theorem pI_t {P : Prop} [Decidable P] (h : P) : some (Value.int 1) = some (Value.int (bI P)) := by rw [bI_t h]
theorem pI_f {P : Prop} [Decidable P] (h : ¬ P) : some (Value.int 0) = some (Value.int (bI P)) := by rw [bI_f h]
theorem has_nat {x : Int32} {n : Nat} (hn : n < 2 ^ 31) (h : 0 ≤ x ∧ x < nI n) : ∃ k : Nat, k < n ∧ x = nI k := by
  obtain ⟨j, hj, rfl⟩ := nI_of (Int32.not_lt.mpr h.1)
  exact ⟨j, (nI_ltI hj hn).mp h.2, rfl⟩
/-- held between two numbers -/
def heldI (x lo hi : Int32) : Int32 := if lo < (if x < hi then x else hi) then (if x < hi then x else hi) else lo
/-- a run is open -/
abbrev opn (dp sl : Nat → Int32) (r : Nat) : Prop := 5 ≤ dp r ∧ dp r * sl r < 300
def bsl (sl : Nat → Int32) (b : Option Nat) : Int32 := match b with
  | none => 0
  | some k => sl k
/-- of the first n runs the choice at the tow t up to the slope lim -/
def bestR (tw sl dp : Nat → Int32) (t lim : Int32) : Nat → Option Nat
  | 0 => none
  | r + 1 => if tw r = t ∧ sl r ≤ lim ∧ opn dp sl r ∧ bsl sl (bestR tw sl dp t lim r) < sl r then some r else bestR tw sl dp t lim r
theorem bestR_lt {tw sl dp : Nat → Int32} {t lim : Int32} : ∀ {n r : Nat}, bestR tw sl dp t lim n = some r → r < n := by
  intro n
  induction n with
  | zero => intro r h; simp [bestR] at h
  | succ n ih =>
    intro r h
    simp only [bestR] at h
    split at h
    · cases h; omega
    · have := ih h; omega
/-- of the first n runs those that are flagged -/
def flagN (dp sl : Nat → Int32) : Nat → Int32
  | 0 => 0
  | r + 1 => if opn dp sl r then flagN dp sl r else flagN dp sl r + 1
/-- the first n runs are deeper by x -/
def dpAll (dp : Nat → Int32) (x : Int32) (n : Nat) : Nat → Int32 := fun r => if r < n then heldI (dp r + x) 0 90 else dp r
theorem dpAll_0 (dp : Nat → Int32) (x : Int32) : dpAll dp x 0 = dp := by
  funext r; simp [dpAll]
theorem dpAll_s (dp : Nat → Int32) (x : Int32) (i : Nat) : upd (dpAll dp x i) i (heldI (dpAll dp x i i + x) 0 90) = dpAll dp x (i + 1) := by
  funext r
  simp only [upd, dpAll]
  by_cases h : r = i
  · subst h; simp
  · simp only [h, if_false]
    by_cases h2 : r < i
    · simp [h2, show r < i + 1 by omega]
    · simp [h2, show ¬ r < i + 1 by omega]
def snowI (f : Nat) : Int32 := if f = 0 then 4 else if f = 1 then 0 else if f = 2 then -2 else -1
def mixI (d : Int64) (x : Int32) : Int64 := d * 31 + x.toInt64
def rI (f : Nat → Int32) : Nat → Int32 := f
def figR (tw sl dp kd : Nat → Int32) (r what : Nat) : Int32 := match what with
  | 0 => tw r
  | 1 => sl r
  | 2 => dp r
  | 3 => if opn dp sl r then 0 else 1
  | _ => kd r

theorem hd_X3_isWithin : yX3_isWithin.cls ≠ "java/lang/invoke/MethodHandle" ∧ yX3_isWithin.cls ≠ "java/lang/invoke/VarHandle" ∧ (parseMethodDescriptor yX3_isWithin.desc).map (fun d => d.parameters.length) = some 3 := by decide +kernel
set_option maxRecDepth 100000 in
set_option maxHeartbeats 4000000 in
theorem c_X3_isWithin {l : Launch} {D : va_G} {cI cL : ClassId} (x : Int32) (lo : Int32) (hi : Int32) : Ct l yX3_isWithin wsX3_isWithin { frames := 0, cells := 0, slots := 0, locals := 0 } D (ty2 cI cL) [.int x, .int lo, .int hi] ([]) (fun v w' => v = some (.int (bI (lo ≤ x ∧ x ≤ hi))) ∧ w' = []) 0 0 := by
  refine Ct.of (cc := cX3_isWithin) (maxL := 3) (ret := (some .boolean)) (by decide) rfl (Nat.le_of_ble_eq_true rfl) ?_
  intro p e s m below meth c A ls CX hin HW hl
  obtain ⟨hx, hb, hml, hr, hown, hts, hK, hA, hlk⟩ := id CX
  have hl : lv_has ls 3 [(0, .int x), (1, .int lo), (2, .int hi)] := hl
  refine lv_iload_n hx hb dX3_isWithin_0 rfl (lv_at hl 0 rfl) ?_
  refine lv_iload_n hx hb dX3_isWithin_1 rfl (lv_at hl 1 rfl) ?_
  refine lv_icmp_lt (tgt := 14) hx hb dX3_isWithin_2 (by decide) (fun c2 => ?_) (fun c2 => ?_)
  · refine lv_iconst (v := 0) hx hb dX3_isWithin_14 (by decide) ?_
    exact g_zret CX HW rfl (Or.inl rfl) ⟨pI_f (by intro h9; first | exact absurd c2 (Int32.not_lt.mpr h9.1) | exact absurd c7 (Int32.not_lt.mpr h9.2)), rfl⟩ dX3_isWithin_15
  · refine lv_iload_n hx hb dX3_isWithin_5 rfl (lv_at hl 0 rfl) ?_
    refine lv_iload_n hx hb dX3_isWithin_6 rfl (lv_at hl 2 rfl) ?_
    refine lv_icmp_gt (tgt := 14) hx hb dX3_isWithin_7 (by decide) (fun c7 => ?_) (fun c7 => ?_)
    · refine lv_iconst (v := 0) hx hb dX3_isWithin_14 (by decide) ?_
      exact g_zret CX HW rfl (Or.inl rfl) ⟨pI_f (by intro h9; first | exact absurd c2 (Int32.not_lt.mpr h9.1) | exact absurd c7 (Int32.not_lt.mpr h9.2)), rfl⟩ dX3_isWithin_15
    · refine lv_iconst (v := 1) hx hb dX3_isWithin_10 (by decide) ?_
      refine lv_goto (tgt := 15) hx hb dX3_isWithin_11 (by decide) ?_
      exact g_zret CX HW rfl (Or.inr rfl) ⟨pI_t ⟨Int32.not_lt.mp c2, Int32.not_lt.mp c7⟩, rfl⟩ dX3_isWithin_15

theorem hd_X3_held : yX3_held.cls ≠ "java/lang/invoke/MethodHandle" ∧ yX3_held.cls ≠ "java/lang/invoke/VarHandle" ∧ (parseMethodDescriptor yX3_held.desc).map (fun d => d.parameters.length) = some 3 := by decide +kernel
theorem mm_X3_held_194 : Cond.methodLink RX3 194 Lib.Math.min.name ∈ wsX3_held ∧ Cond.static Lib.Math.min.name ∈ wsX3_held ∧ Cond.initialized "java/lang/Math" ∈ wsX3_held ∧ Cond.code Lib.Math.min.name Lib.Math.min.code 2 (some .int) ∈ wsX3_held := ⟨by decide +kernel, by decide +kernel, by decide +kernel, by decide +kernel⟩
theorem mm_X3_held_199 : Cond.methodLink RX3 199 Lib.Math.max.name ∈ wsX3_held ∧ Cond.static Lib.Math.max.name ∈ wsX3_held ∧ Cond.initialized "java/lang/Math" ∈ wsX3_held ∧ Cond.code Lib.Math.max.name Lib.Math.max.code 2 (some .int) ∈ wsX3_held := ⟨by decide +kernel, by decide +kernel, by decide +kernel, by decide +kernel⟩
set_option maxRecDepth 100000 in
set_option maxHeartbeats 4000000 in
theorem c_X3_held {l : Launch} {D : va_G} {cI cL : ClassId} (x : Int32) (lo : Int32) (hi : Int32) : Ct l yX3_held wsX3_held { frames := 1, cells := 0, slots := 0, locals := 24 } D (ty2 cI cL) [.int x, .int lo, .int hi] ([]) (fun v w' => v = some (.int (heldI x lo hi)) ∧ w' = []) 0 0 := by
  refine Ct.of (cc := cX3_held) (maxL := 3) (ret := (some .int)) (by decide) rfl (Nat.le_of_ble_eq_true rfl) ?_
  intro p e s m below meth c A ls CX hin HW hl
  obtain ⟨hx, hb, hml, hr, hown, hts, hK, hA, hlk⟩ := id CX
  have hl : lv_has ls 3 [(0, .int x), (1, .int lo), (2, .int hi)] := hl
  refine lv_iload_n hx hb dX3_held_0 rfl (lv_at hl 1 rfl) ?_
  refine lv_iload_n hx hb dX3_held_1 rfl (lv_at hl 2 rfl) ?_
  refine lv_iload_n hx hb dX3_held_2 rfl (lv_at hl 0 rfl) ?_
  refine va_mmin hx hb (hml.trans hl.1.symm) hown (hts _ mm_X3_held_194.1) (hts _ mm_X3_held_194.2.1) (hts _ mm_X3_held_194.2.2.1) (hts _ mm_X3_held_194.2.2.2) (Nat.le_of_ble_eq_true rfl) (Nat.le_of_ble_eq_true rfl) (Nat.zero_le _) (Nat.zero_le _) dX3_held_3 ?_
  refine va_mmax hx hb (hml.trans hl.1.symm) hown (hts _ mm_X3_held_199.1) (hts _ mm_X3_held_199.2.1) (hts _ mm_X3_held_199.2.2.1) (hts _ mm_X3_held_199.2.2.2) (Nat.le_of_ble_eq_true rfl) (Nat.le_of_ble_eq_true rfl) (Nat.zero_le _) (Nat.zero_le _) dX3_held_6 ?_
  exact g_iret CX HW rfl ⟨rfl, rfl⟩ dX3_held_9

theorem hd_X3_snowOf : yX3_snowOf.cls ≠ "java/lang/invoke/MethodHandle" ∧ yX3_snowOf.cls ≠ "java/lang/invoke/VarHandle" ∧ (parseMethodDescriptor yX3_snowOf.desc).map (fun d => d.parameters.length) = some 1 := by decide +kernel
set_option maxRecDepth 100000 in
set_option maxHeartbeats 4000000 in
theorem c_X3_snowOf {l : Launch} {D : va_G} {cI cL : ClassId} (f : Nat) (hf : f < 4) : Ct l yX3_snowOf wsX3_snowOf { frames := 0, cells := 0, slots := 0, locals := 0 } D (ty2 cI cL) [.int (nI f)] ([]) (fun v w' => v = some (.int (snowI f)) ∧ w' = []) 0 0 := by
  refine Ct.of (cc := cX3_snowOf) (maxL := 1) (ret := (some .int)) (by decide) rfl (Nat.le_of_ble_eq_true rfl) ?_
  intro p e s m below meth c A ls CX hin HW hl
  obtain ⟨hx, hb, hml, hr, hown, hts, hK, hA, hlk⟩ := id CX
  have hl : lv_has ls 1 [(0, .int (nI f))] := hl
  refine lv_iload_n hx hb dX3_snowOf_0 rfl (lv_at hl 0 rfl) ?_
  rcases (by omega : f = 0 ∨ f = 1 ∨ f = 2 ∨ f = 3) with rfl | rfl | rfl | rfl
  · refine lv_tableIn (off := 31) (tgt := 32) hx hb dX3_snowOf_1 (by decide) (by decide) (by decide) (by decide) ?_
    refine lv_iconst (v := 4) hx hb dX3_snowOf_32 (by decide) ?_
    exact g_iret CX HW rfl ⟨rfl, rfl⟩ dX3_snowOf_33
  · refine lv_tableIn (off := 38) (tgt := 39) hx hb dX3_snowOf_1 (by decide) (by decide) (by decide) (by decide) ?_
    refine lv_iconst (v := 0) hx hb dX3_snowOf_39 (by decide) ?_
    exact g_iret CX HW rfl ⟨rfl, rfl⟩ dX3_snowOf_40
  · refine lv_tableIn (off := 33) (tgt := 34) hx hb dX3_snowOf_1 (by decide) (by decide) (by decide) (by decide) ?_
    refine lv_bipush (v := (-2)) hx hb dX3_snowOf_34 (by decide) ?_
    exact g_iret CX HW rfl ⟨rfl, rfl⟩ dX3_snowOf_36
  · refine lv_tableIn (off := 36) (tgt := 37) hx hb dX3_snowOf_1 (by decide) (by decide) (by decide) (by decide) ?_
    refine lv_iconst (v := (-1)) hx hb dX3_snowOf_37 (by decide) ?_
    exact g_iret CX HW rfl ⟨rfl, rfl⟩ dX3_snowOf_38

theorem hd_X3_mixed : yX3_mixed.cls ≠ "java/lang/invoke/MethodHandle" ∧ yX3_mixed.cls ≠ "java/lang/invoke/VarHandle" ∧ (parseMethodDescriptor yX3_mixed.desc).map (fun d => d.parameters.length) = some 2 := by decide +kernel
theorem cl_X3_mixed_192 : Cond.constantLong RX3 192 (31) ∈ wsX3_mixed := by decide +kernel
set_option maxRecDepth 100000 in
set_option maxHeartbeats 4000000 in
theorem c_X3_mixed {l : Launch} {D : va_G} {cI cL : ClassId} (d : Int64) (x : Int32) : Ct l yX3_mixed wsX3_mixed { frames := 0, cells := 0, slots := 0, locals := 0 } D (ty2 cI cL) [.long d, .int x] ([]) (fun v w' => v = some (.long (mixI d x)) ∧ w' = []) 0 0 := by
  refine Ct.of (cc := cX3_mixed) (maxL := 3) (ret := (some .long)) (by decide) rfl (Nat.le_of_ble_eq_true rfl) ?_
  intro p e s m below meth c A ls CX hin HW hl
  obtain ⟨hx, hb, hml, hr, hown, hts, hK, hA, hlk⟩ := id CX
  have hl : lv_has ls 3 [(0, .long d), (2, .int x)] := hl
  refine lv_lload_n hx hb dX3_mixed_0 rfl (lv_at hl 0 rfl) ?_
  refine lv_ldc2 hx hb hown (hts _ cl_X3_mixed_192) dX3_mixed_1 ?_
  refine lv_lmul hx hb dX3_mixed_4 ?_
  refine lv_iload_n hx hb dX3_mixed_5 rfl (lv_at hl 1 rfl) ?_
  refine lv_i2l (v := Int32.toInt64 x) hx hb dX3_mixed_6 rfl ?_
  refine lv_ladd hx hb dX3_mixed_7 ?_
  exact g_lret CX HW rfl ⟨rfl, rfl⟩ dX3_mixed_8

theorem hd_X0_has : yX0_has.cls ≠ "java/lang/invoke/MethodHandle" ∧ yX0_has.cls ≠ "java/lang/invoke/VarHandle" ∧ (parseMethodDescriptor yX0_has.desc).map (fun d => d.parameters.length) = some 1 := by decide +kernel
theorem fl_X0_has_9 : Cond.fieldLink RX0 9 (TX0 0).1 (TX0 0).2.1 (TX0 0).2.2.1 ∈ wsX0_has := by decide +kernel
theorem in_X0_has_0 : ∀ x ∈ u_ws RX0 TX0 5, x ∈ wsX0_has := by decide +kernel
set_option maxRecDepth 100000 in
set_option maxHeartbeats 4000000 in
theorem c_X0_has {l : Launch} {D : va_G} {cI cL : ClassId} {a : Nat → Nat} (o : Nat) (n : Nat) (tw : Nat → Int32) (sl : Nat → Int32) (dp : Nat → Int32) (kd : Nat → Int32) (x : Int32) : Ct l yX0_has wsX0_has { frames := 0, cells := 0, slots := 0, locals := 0 } D (ty2 cI cL) [.ref (a o), .int x] (wR cI a o n tw sl dp kd) (fun v w' => v = some (.int (bI (0 ≤ x ∧ x < nI n))) ∧ w' = wR cI a o n tw sl dp kd) 0 0 := by
  refine Ct.of (cc := cX0_has) (maxL := 2) (ret := (some .boolean)) (by decide) rfl (Nat.le_of_ble_eq_true rfl) ?_
  intro p e s m below meth c A ls CX hin HW hl
  obtain ⟨hx, hb, hml, hr, hown, hts, hK, hA, hlk⟩ := id CX
  have hl : lv_has ls 2 [(0, .ref (a o)), (1, .int x)] := hl
  refine lv_iload_n hx hb dX0_has_0 rfl (lv_at hl 1 rfl) ?_
  refine lv_if_lt (tgt := 16) hx hb dX0_has_1 (by decide) (fun c1 => ?_) (fun c1 => ?_)
  · refine lv_iconst (v := 0) hx hb dX0_has_16 (by decide) ?_
    exact g_zret CX HW rfl (Or.inl rfl) ⟨pI_f (by intro h9; first | exact absurd c1 (Int32.not_lt.mpr h9.1) | exact absurd c9 (Int32.not_le.mpr h9.2)), rfl⟩ dX0_has_17
  · refine lv_iload_n hx hb dX0_has_4 rfl (lv_at hl 1 rfl) ?_
    refine lv_aload_n hx hb dX0_has_5 rfl (lv_at hl 0 rfl) ?_
    refine g_get CX HW in_X0_has_0 0 0 rfl rfl (Nat.le_of_ble_eq_true rfl) fl_X0_has_9 rfl dX0_has_6 ?_
    refine lv_icmp_ge (tgt := 16) hx hb dX0_has_9 (by decide) (fun c9 => ?_) (fun c9 => ?_)
    · refine lv_iconst (v := 0) hx hb dX0_has_16 (by decide) ?_
      exact g_zret CX HW rfl (Or.inl rfl) ⟨pI_f (by intro h9; first | exact absurd c1 (Int32.not_lt.mpr h9.1) | exact absurd c9 (Int32.not_le.mpr h9.2)), rfl⟩ dX0_has_17
    · refine lv_iconst (v := 1) hx hb dX0_has_12 (by decide) ?_
      refine lv_goto (tgt := 17) hx hb dX0_has_13 (by decide) ?_
      exact g_zret CX HW rfl (Or.inr rfl) ⟨pI_t ⟨Int32.not_lt.mp c1, Int32.not_le.mp c9⟩, rfl⟩ dX0_has_17

theorem hd_X0_isFull : yX0_isFull.cls ≠ "java/lang/invoke/MethodHandle" ∧ yX0_isFull.cls ≠ "java/lang/invoke/VarHandle" ∧ (parseMethodDescriptor yX0_isFull.desc).map (fun d => d.parameters.length) = some 0 := by decide +kernel
theorem fl_X0_isFull_9 : Cond.fieldLink RX0 9 (TX0 0).1 (TX0 0).2.1 (TX0 0).2.2.1 ∈ wsX0_isFull := by decide +kernel
theorem in_X0_isFull_0 : ∀ x ∈ u_ws RX0 TX0 5, x ∈ wsX0_isFull := by decide +kernel
set_option maxRecDepth 100000 in
set_option maxHeartbeats 4000000 in
theorem c_X0_isFull {l : Launch} {D : va_G} {cI cL : ClassId} {a : Nat → Nat} (o : Nat) (n : Nat) (tw : Nat → Int32) (sl : Nat → Int32) (dp : Nat → Int32) (kd : Nat → Int32) : Ct l yX0_isFull wsX0_isFull { frames := 0, cells := 0, slots := 0, locals := 0 } D (ty2 cI cL) [.ref (a o)] (wR cI a o n tw sl dp kd) (fun v w' => v = some (.int (bI (6 ≤ nI n))) ∧ w' = wR cI a o n tw sl dp kd) 0 0 := by
  refine Ct.of (cc := cX0_isFull) (maxL := 1) (ret := (some .boolean)) (by decide) rfl (Nat.le_of_ble_eq_true rfl) ?_
  intro p e s m below meth c A ls CX hin HW hl
  obtain ⟨hx, hb, hml, hr, hown, hts, hK, hA, hlk⟩ := id CX
  have hl : lv_has ls 1 [(0, .ref (a o))] := hl
  refine lv_aload_n hx hb dX0_isFull_0 rfl (lv_at hl 0 rfl) ?_
  refine g_get CX HW in_X0_isFull_0 0 0 rfl rfl (Nat.le_of_ble_eq_true rfl) fl_X0_isFull_9 rfl dX0_isFull_1 ?_
  refine lv_bipush (v := 6) hx hb dX0_isFull_4 (by decide) ?_
  refine lv_icmp_lt (tgt := 13) hx hb dX0_isFull_6 (by decide) (fun c6 => ?_) (fun c6 => ?_)
  · refine lv_iconst (v := 0) hx hb dX0_isFull_13 (by decide) ?_
    exact g_zret CX HW rfl (Or.inl rfl) ⟨pI_f (Int32.not_le.mpr c6), rfl⟩ dX0_isFull_14
  · refine lv_iconst (v := 1) hx hb dX0_isFull_9 (by decide) ?_
    refine lv_goto (tgt := 14) hx hb dX0_isFull_10 (by decide) ?_
    exact g_zret CX HW rfl (Or.inr rfl) ⟨pI_t (Int32.not_lt.mp c6), rfl⟩ dX0_isFull_14

theorem hd_X0_add : yX0_add.cls ≠ "java/lang/invoke/MethodHandle" ∧ yX0_add.cls ≠ "java/lang/invoke/VarHandle" ∧ (parseMethodDescriptor yX0_add.desc).map (fun d => d.parameters.length) = some 2 := by decide +kernel
theorem fl_X0_add_9 : Cond.fieldLink RX0 9 (TX0 0).1 (TX0 0).2.1 (TX0 0).2.2.1 ∈ wsX0_add := by decide +kernel
theorem in_X0_add_0 : ∀ x ∈ u_ws RX0 TX0 5, x ∈ wsX0_add := by decide +kernel
theorem fl_X0_add_15 : Cond.fieldLink RX0 15 (TX0 1).1 (TX0 1).2.1 (TX0 1).2.2.1 ∈ wsX0_add := by decide +kernel
theorem fl_X0_add_19 : Cond.fieldLink RX0 19 (TX0 2).1 (TX0 2).2.1 (TX0 2).2.2.1 ∈ wsX0_add := by decide +kernel
theorem fl_X0_add_22 : Cond.fieldLink RX0 22 (TX0 3).1 (TX0 3).2.1 (TX0 3).2.2.1 ∈ wsX0_add := by decide +kernel
set_option maxRecDepth 100000 in
set_option maxHeartbeats 4000000 in
theorem c_X0_add {l : Launch} {D : va_G} {cI cL : ClassId} {a : Nat → Nat} (o : Nat) (n : Nat) (tw : Nat → Int32) (sl : Nat → Int32) (dp : Nat → Int32) (kd : Nat → Int32) (t : Int32) (sv : Int32) (hn : n < 6) : Ct l yX0_add wsX0_add { frames := 0, cells := 0, slots := 0, locals := 0 } D (ty2 cI cL) [.ref (a o), .int t, .int sv] (wR cI a o n tw sl dp kd) (fun v w' => v = some (.int (nI n)) ∧ w' = wR cI a o (n + 1) (upd tw n t) (upd sl n sv) (upd dp n 30) kd) 0 0 := by
  refine Ct.of (cc := cX0_add) (maxL := 4) (ret := (some .int)) (by decide) rfl (Nat.le_of_ble_eq_true rfl) ?_
  intro p e s m below meth c A ls CX hin HW hl
  obtain ⟨hx, hb, hml, hr, hown, hts, hK, hA, hlk⟩ := id CX
  have hl : lv_has ls 4 [(0, .ref (a o)), (1, .int t), (2, .int sv)] := hl
  refine lv_aload_n hx hb dX0_add_0 rfl (lv_at hl 0 rfl) ?_
  refine g_get CX HW in_X0_add_0 0 0 rfl rfl (Nat.le_of_ble_eq_true rfl) fl_X0_add_9 rfl dX0_add_1 ?_
  refine lv_istore_n (lv' := [(3, .int (nI n)), (0, .ref (a o)), (1, .int t), (2, .int sv)]) hx hb dX0_add_4 rfl hl (Nat.le_of_ble_eq_true rfl) rfl (fun ls hl => ?_)
  refine lv_aload_n hx hb dX0_add_5 rfl (lv_at hl 1 rfl) ?_
  refine g_get CX HW in_X0_add_0 0 1 rfl rfl (Nat.le_of_ble_eq_true rfl) fl_X0_add_15 rfl dX0_add_6 ?_
  refine lv_iload_n hx hb dX0_add_9 rfl (lv_at hl 0 rfl) ?_
  refine lv_iload_n hx hb dX0_add_10 rfl (lv_at hl 2 rfl) ?_
  refine g_ast CX HW 1 (k := n) rfl rfl rfl (by omega) (Nat.le_of_ble_eq_true rfl) dX0_add_11 (fun H locs HW => ?_)
  have HW : Hw D A s (wR cI a o n (upd tw n t) sl dp kd) H locs := HW
  refine lv_aload_n hx hb dX0_add_12 rfl (lv_at hl 1 rfl) ?_
  refine g_get CX HW in_X0_add_0 0 2 rfl rfl (Nat.le_of_ble_eq_true rfl) fl_X0_add_19 rfl dX0_add_13 ?_
  refine lv_iload_n hx hb dX0_add_16 rfl (lv_at hl 0 rfl) ?_
  refine lv_iload_n hx hb dX0_add_17 rfl (lv_at hl 3 rfl) ?_
  refine g_ast CX HW 2 (k := n) rfl rfl rfl (by omega) (Nat.le_of_ble_eq_true rfl) dX0_add_18 (fun H locs HW => ?_)
  have HW : Hw D A s (wR cI a o n (upd tw n t) (upd sl n sv) dp kd) H locs := HW
  refine lv_aload_n hx hb dX0_add_19 rfl (lv_at hl 1 rfl) ?_
  refine g_get CX HW in_X0_add_0 0 3 rfl rfl (Nat.le_of_ble_eq_true rfl) fl_X0_add_22 rfl dX0_add_20 ?_
  refine lv_iload_n hx hb dX0_add_23 rfl (lv_at hl 0 rfl) ?_
  refine lv_bipush (v := 30) hx hb dX0_add_24 (by decide) ?_
  refine g_ast CX HW 3 (k := n) rfl rfl rfl (by omega) (Nat.le_of_ble_eq_true rfl) dX0_add_26 (fun H locs HW => ?_)
  have HW : Hw D A s (wR cI a o n (upd tw n t) (upd sl n sv) (upd dp n (30 : Int32)) kd) H locs := HW
  refine lv_aload_n hx hb dX0_add_27 rfl (lv_at hl 1 rfl) ?_
  refine lv_dup hx hb dX0_add_28 rfl ?_
  refine g_get CX HW in_X0_add_0 0 0 rfl rfl (Nat.le_of_ble_eq_true rfl) fl_X0_add_9 rfl dX0_add_29 ?_
  refine lv_iconst (v := 1) hx hb dX0_add_32 (by decide) ?_
  refine lv_iadd hx hb dX0_add_33 ?_
  refine g_top (y := (nI (n + 1))) (nI_1 _) ?_
  refine g_put CX HW in_X0_add_0 tyX0 tyX0_ok nmX0 0 0 rfl rfl (Nat.le_of_ble_eq_true rfl) fl_X0_add_9 rfl rfl rfl (Nat.le_of_ble_eq_true rfl) dX0_add_34 (fun H locs HW => ?_)
  have HW : Hw D A s (wR cI a o (n + 1) (upd tw n t) (upd sl n sv) (upd dp n (30 : Int32)) kd) H locs := HW
  refine lv_iload_n hx hb dX0_add_37 rfl (lv_at hl 0 rfl) ?_
  exact g_iret CX HW rfl ⟨rfl, rfl⟩ dX0_add_38

theorem hd_X0_deepen : yX0_deepen.cls ≠ "java/lang/invoke/MethodHandle" ∧ yX0_deepen.cls ≠ "java/lang/invoke/VarHandle" ∧ (parseMethodDescriptor yX0_deepen.desc).map (fun d => d.parameters.length) = some 2 := by decide +kernel
theorem fl_X0_deepen_22 : Cond.fieldLink RX0 22 (TX0 3).1 (TX0 3).2.1 (TX0 3).2.2.1 ∈ wsX0_deepen := by decide +kernel
theorem in_X0_deepen_0 : ∀ x ∈ u_ws RX0 TX0 5, x ∈ wsX0_deepen := by decide +kernel
theorem sn_X0_deepen_X3_held : Cond.initialized yX3_held.cls ∈ wsX0_deepen ∧ Cond.static yX3_held ∈ wsX0_deepen := ⟨by decide +kernel, by decide +kernel⟩
set_option maxRecDepth 100000 in
set_option maxHeartbeats 4000000 in
theorem c_X0_deepen {l : Launch} {D : va_G} {cI cL : ClassId} {a : Nat → Nat} (o : Nat) (n : Nat) (tw : Nat → Int32) (sl : Nat → Int32) (dp : Nat → Int32) (kd : Nat → Int32) (r : Nat) (x : Int32) (hr6 : r < 6) : Ct l yX0_deepen wsX0_deepen { frames := 2, cells := 0, slots := 0, locals := 46 } D (ty2 cI cL) [.ref (a o), .int (nI r), .int x] (wR cI a o n tw sl dp kd) (fun v w' => v = none ∧ w' = wR cI a o n tw sl (upd dp r (heldI (dp r + x) 0 90)) kd) 0 0 := by
  refine Ct.of (cc := cX0_deepen) (maxL := 3) (ret := none) (by decide) rfl (Nat.le_of_ble_eq_true rfl) ?_
  intro p e s m below meth c A ls CX hin HW hl
  obtain ⟨hx, hb, hml, hr, hown, hts, hK, hA, hlk⟩ := id CX
  have hl : lv_has ls 3 [(0, .ref (a o)), (1, .int (nI r)), (2, .int x)] := hl
  refine lv_aload_n hx hb dX0_deepen_0 rfl (lv_at hl 0 rfl) ?_
  refine g_get CX HW in_X0_deepen_0 0 3 rfl rfl (Nat.le_of_ble_eq_true rfl) fl_X0_deepen_22 rfl dX0_deepen_1 ?_
  refine lv_iload_n hx hb dX0_deepen_4 rfl (lv_at hl 1 rfl) ?_
  refine lv_aload_n hx hb dX0_deepen_5 rfl (lv_at hl 0 rfl) ?_
  refine g_get CX HW in_X0_deepen_0 0 3 rfl rfl (Nat.le_of_ble_eq_true rfl) fl_X0_deepen_22 rfl dX0_deepen_6 ?_
  refine lv_iload_n hx hb dX0_deepen_9 rfl (lv_at hl 1 rfl) ?_
  refine g_ald CX HW 3 (k := r) rfl rfl rfl (by omega) (Nat.le_of_ble_eq_true rfl) dX0_deepen_10 ?_
  refine lv_iload_n hx hb dX0_deepen_11 rfl (lv_at hl 2 rfl) ?_
  refine lv_iadd hx hb dX0_deepen_12 ?_
  refine lv_iconst (v := 0) hx hb dX0_deepen_13 (by decide) ?_
  refine lv_bipush (v := 90) hx hb dX0_deepen_14 (by decide) ?_
  refine g_callSN (host := "PommelTows") CX HW hl.1 ([]) (wR cI a o n tw sl dp kd) (c_X3_held ((dp r) + x) (0 : Int32) (90 : Int32)) rfl gX0_deepen_X3_held_n28 sn_X0_deepen_X3_held (by decide +kernel) rfl hd_X3_held ⟨rfl, rfl, (Nat.le_of_ble_eq_true rfl), (Nat.le_of_ble_eq_true rfl)⟩ ⟨(Nat.zero_le _), (Nat.zero_le _)⟩ rfl rfl (Nat.le_of_ble_eq_true rfl) dX0_deepen_16 (fun v w1 H locs hp HW => ?_)
  obtain ⟨rfl, rfl⟩ := hp
  have HW : Hw D A s (wR cI a o n tw sl dp kd) H locs := HW
  refine W.eq (g2 := F0 m 19 ls [.int (heldI ((dp r) + x) (0 : Int32) (90 : Int32)), .int (nI r), .ref (a (o + 3))]) rfl ?_
  refine g_ast CX HW 3 (k := r) rfl rfl rfl (by omega) (Nat.le_of_ble_eq_true rfl) dX0_deepen_19 (fun H locs HW => ?_)
  have HW : Hw D A s (wR cI a o n tw sl (upd dp r (heldI ((dp r) + x) (0 : Int32) (90 : Int32))) kd) H locs := HW
  exact g_vret CX HW rfl ⟨rfl, rfl⟩ dX0_deepen_20

theorem hd_X0_isOpen : yX0_isOpen.cls ≠ "java/lang/invoke/MethodHandle" ∧ yX0_isOpen.cls ≠ "java/lang/invoke/VarHandle" ∧ (parseMethodDescriptor yX0_isOpen.desc).map (fun d => d.parameters.length) = some 1 := by decide +kernel
theorem fl_X0_isOpen_22 : Cond.fieldLink RX0 22 (TX0 3).1 (TX0 3).2.1 (TX0 3).2.2.1 ∈ wsX0_isOpen := by decide +kernel
theorem in_X0_isOpen_0 : ∀ x ∈ u_ws RX0 TX0 5, x ∈ wsX0_isOpen := by decide +kernel
theorem fl_X0_isOpen_19 : Cond.fieldLink RX0 19 (TX0 2).1 (TX0 2).2.1 (TX0 2).2.2.1 ∈ wsX0_isOpen := by decide +kernel
set_option maxRecDepth 100000 in
set_option maxHeartbeats 4000000 in
theorem c_X0_isOpen {l : Launch} {D : va_G} {cI cL : ClassId} {a : Nat → Nat} (o : Nat) (n : Nat) (tw : Nat → Int32) (sl : Nat → Int32) (dp : Nat → Int32) (kd : Nat → Int32) (r : Nat) (hr6 : r < 6) : Ct l yX0_isOpen wsX0_isOpen { frames := 0, cells := 0, slots := 0, locals := 0 } D (ty2 cI cL) [.ref (a o), .int (nI r)] (wR cI a o n tw sl dp kd) (fun v w' => v = some (.int (bI (opn dp sl r))) ∧ w' = wR cI a o n tw sl dp kd) 0 0 := by
  refine Ct.of (cc := cX0_isOpen) (maxL := 2) (ret := (some .boolean)) (by decide) rfl (Nat.le_of_ble_eq_true rfl) ?_
  intro p e s m below meth c A ls CX hin HW hl
  obtain ⟨hx, hb, hml, hr, hown, hts, hK, hA, hlk⟩ := id CX
  have hl : lv_has ls 2 [(0, .ref (a o)), (1, .int (nI r))] := hl
  refine lv_aload_n hx hb dX0_isOpen_0 rfl (lv_at hl 0 rfl) ?_
  refine g_get CX HW in_X0_isOpen_0 0 3 rfl rfl (Nat.le_of_ble_eq_true rfl) fl_X0_isOpen_22 rfl dX0_isOpen_1 ?_
  refine lv_iload_n hx hb dX0_isOpen_4 rfl (lv_at hl 1 rfl) ?_
  refine g_ald CX HW 3 (k := r) rfl rfl rfl (by omega) (Nat.le_of_ble_eq_true rfl) dX0_isOpen_5 ?_
  refine lv_iconst (v := 5) hx hb dX0_isOpen_6 (by decide) ?_
  refine lv_icmp_lt (tgt := 33) hx hb dX0_isOpen_7 (by decide) (fun c7 => ?_) (fun c7 => ?_)
  · refine lv_iconst (v := 0) hx hb dX0_isOpen_33 (by decide) ?_
    exact g_zret CX HW rfl (Or.inl rfl) ⟨pI_f (by intro h9; first | exact absurd c7 (Int32.not_lt.mpr h9.1) | exact absurd c26 (Int32.not_le.mpr h9.2)), rfl⟩ dX0_isOpen_34
  · refine lv_aload_n hx hb dX0_isOpen_10 rfl (lv_at hl 0 rfl) ?_
    refine g_get CX HW in_X0_isOpen_0 0 3 rfl rfl (Nat.le_of_ble_eq_true rfl) fl_X0_isOpen_22 rfl dX0_isOpen_11 ?_
    refine lv_iload_n hx hb dX0_isOpen_14 rfl (lv_at hl 1 rfl) ?_
    refine g_ald CX HW 3 (k := r) rfl rfl rfl (by omega) (Nat.le_of_ble_eq_true rfl) dX0_isOpen_15 ?_
    refine lv_aload_n hx hb dX0_isOpen_16 rfl (lv_at hl 0 rfl) ?_
    refine g_get CX HW in_X0_isOpen_0 0 2 rfl rfl (Nat.le_of_ble_eq_true rfl) fl_X0_isOpen_19 rfl dX0_isOpen_17 ?_
    refine lv_iload_n hx hb dX0_isOpen_20 rfl (lv_at hl 1 rfl) ?_
    refine g_ald CX HW 2 (k := r) rfl rfl rfl (by omega) (Nat.le_of_ble_eq_true rfl) dX0_isOpen_21 ?_
    refine lv_imul hx hb dX0_isOpen_22 ?_
    refine lv_sipush (v := 300) hx hb dX0_isOpen_23 (by decide) ?_
    refine lv_icmp_ge (tgt := 33) hx hb dX0_isOpen_26 (by decide) (fun c26 => ?_) (fun c26 => ?_)
    · refine lv_iconst (v := 0) hx hb dX0_isOpen_33 (by decide) ?_
      exact g_zret CX HW rfl (Or.inl rfl) ⟨pI_f (by intro h9; first | exact absurd c7 (Int32.not_lt.mpr h9.1) | exact absurd c26 (Int32.not_le.mpr h9.2)), rfl⟩ dX0_isOpen_34
    · refine lv_iconst (v := 1) hx hb dX0_isOpen_29 (by decide) ?_
      refine lv_goto (tgt := 34) hx hb dX0_isOpen_30 (by decide) ?_
      exact g_zret CX HW rfl (Or.inr rfl) ⟨pI_t ⟨Int32.not_lt.mp c7, Int32.not_le.mp c26⟩, rfl⟩ dX0_isOpen_34

theorem hd_X0_deepenAll : yX0_deepenAll.cls ≠ "java/lang/invoke/MethodHandle" ∧ yX0_deepenAll.cls ≠ "java/lang/invoke/VarHandle" ∧ (parseMethodDescriptor yX0_deepenAll.desc).map (fun d => d.parameters.length) = some 1 := by decide +kernel
theorem fl_X0_deepenAll_9 : Cond.fieldLink RX0 9 (TX0 0).1 (TX0 0).2.1 (TX0 0).2.2.1 ∈ wsX0_deepenAll := by decide +kernel
theorem in_X0_deepenAll_0 : ∀ x ∈ u_ws RX0 TX0 5, x ∈ wsX0_deepenAll := by decide +kernel
set_option maxRecDepth 100000 in
set_option maxHeartbeats 4000000 in
theorem c_X0_deepenAll {l : Launch} {D : va_G} {cI cL : ClassId} {a : Nat → Nat} (o : Nat) (n : Nat) (tw : Nat → Int32) (sl : Nat → Int32) (dp : Nat → Int32) (kd : Nat → Int32) (x : Int32) (hn : n ≤ 6) : Ct l yX0_deepenAll wsX0_deepenAll { frames := 3, cells := 0, slots := 0, locals := 68 } D (ty2 cI cL) [.ref (a o), .int x] (wR cI a o n tw sl dp kd) (fun v w' => v = none ∧ w' = wR cI a o n tw sl (dpAll dp x n) kd) 0 0 := by
  refine Ct.of (cc := cX0_deepenAll) (maxL := 3) (ret := none) (by decide) rfl (Nat.le_of_ble_eq_true rfl) ?_
  intro p e s m below meth c A ls CX hin HW hl
  obtain ⟨hx, hb, hml, hr, hown, hts, hK, hA, hlk⟩ := id CX
  have hl : lv_has ls 3 [(0, .ref (a o)), (1, .int x)] := hl
  have loop : ∀ (d0 : Nat) (i : Nat), n - i = d0 → (i ≤ n) → ∀ (H : Heap) (locs : List Loc) (ls : Array Slot), Hw D A s (wR cI a o n tw sl (dpAll dp x i) kd) H locs → lv_has ls 3 [(2, .int (nI i)), (1, .int x), (0, .ref (a o))] → W p l e ({ frames := 3, cells := 0, slots := 0, locals := 68 } : Room) s m ([.ref (a o), .int x] : List Value).toArray below meth c H locs 0 0 (MQ below (cQ D A (fun v w' => v = none ∧ w' = wR cI a o n tw sl (dpAll dp x n) kd)) ([.ref (a o), .int x] : List Value).toArray s 0 0 A) (F0 m 2 ls []) := by
    intro d0
    induction d0 using Nat.strongRecOn with
    | _ d0 ih =>
      intro i hd0 hi H locs ls HW hl
      refine lv_iload_n hx hb dX0_deepenAll_2 rfl (lv_at hl 0 rfl) ?_
      refine lv_aload_n hx hb dX0_deepenAll_3 rfl (lv_at hl 2 rfl) ?_
      refine g_get CX HW in_X0_deepenAll_0 0 0 rfl rfl (Nat.le_of_ble_eq_true rfl) fl_X0_deepenAll_9 rfl dX0_deepenAll_4 ?_
      refine lv_icmp_ge (tgt := 22) hx hb dX0_deepenAll_7 (by decide) (fun c7 => ?_) (fun c7 => ?_)
      · have c7 := (nI_leI (by omega) (by omega)).mp c7
        obtain rfl : i = n := by omega
        exact g_vret CX HW rfl ⟨rfl, rfl⟩ dX0_deepenAll_22
      · have c7 : i < n := nI_lt_of (by omega) (by omega) c7
        refine lv_aload_n hx hb dX0_deepenAll_10 rfl (lv_at hl 2 rfl) ?_
        refine lv_iload_n hx hb dX0_deepenAll_11 rfl (lv_at hl 0 rfl) ?_
        refine lv_iload_n hx hb dX0_deepenAll_12 rfl (lv_at hl 1 rfl) ?_
        refine g_callV CX HW hl.1 ([]) ([]) (c_X0_deepen o n tw sl (dpAll dp x i) kd i x (by omega)) rfl 0 rfl rfl gX0_deepenAll_X0_deepen rfl ⟨rfl, hd_X0_deepen⟩ ⟨rfl, rfl, (Nat.le_of_ble_eq_true rfl), (Nat.le_of_ble_eq_true rfl)⟩ ⟨(Nat.zero_le _), (Nat.zero_le _)⟩ rfl rfl (Nat.le_of_ble_eq_true rfl) dX0_deepenAll_13 (fun v w1 H locs hp HW => ?_)
        obtain ⟨rfl, rfl⟩ := hp
        have HW : Hw D A s (wR cI a o n tw sl (upd (dpAll dp x i) i (heldI ((dpAll dp x i) i + x) 0 90)) kd) H locs := HW
        refine W.eq (g2 := F0 m 16 ls []) rfl ?_
        have hwe : (upd (dpAll dp x i) i (heldI ((dpAll dp x i) i + x) 0 90)) = (dpAll dp x (i + 1)) := dpAll_s dp x i
        rw [hwe] at HW; clear hwe
        refine lv_iinc (v := (nI (i + 1))) (lv' := [(2, .int (nI (i + 1))), (1, .int x), (0, .ref (a o))]) hx hb dX0_deepenAll_16 hl (k := 0) rfl (inc1 _) (Nat.le_of_ble_eq_true rfl) rfl (fun ls hl => ?_)
        refine lv_goto (tgt := 2) hx hb dX0_deepenAll_19 (by decide) ?_
        exact ih _ (by omega) (i + 1) rfl (by omega) _ _ _ HW (lv_sub hl [0, 1, 2] rfl)
  rw [← dpAll_0 dp x] at HW
  refine lv_iconst (v := 0) hx hb dX0_deepenAll_0 (by decide) ?_
  refine lv_istore_n (lv' := [(2, .int (0 : Int32)), (0, .ref (a o)), (1, .int x)]) hx hb dX0_deepenAll_1 rfl hl (Nat.le_of_ble_eq_true rfl) rfl (fun ls hl => ?_)
  exact loop _ 0 rfl (by omega) _ _ _ HW (lv_sub hl [0, 2, 1] rfl)

theorem hd_X0_steepestOpen : yX0_steepestOpen.cls ≠ "java/lang/invoke/MethodHandle" ∧ yX0_steepestOpen.cls ≠ "java/lang/invoke/VarHandle" ∧ (parseMethodDescriptor yX0_steepestOpen.desc).map (fun d => d.parameters.length) = some 2 := by decide +kernel
theorem fl_X0_steepestOpen_9 : Cond.fieldLink RX0 9 (TX0 0).1 (TX0 0).2.1 (TX0 0).2.2.1 ∈ wsX0_steepestOpen := by decide +kernel
theorem in_X0_steepestOpen_0 : ∀ x ∈ u_ws RX0 TX0 5, x ∈ wsX0_steepestOpen := by decide +kernel
theorem fl_X0_steepestOpen_15 : Cond.fieldLink RX0 15 (TX0 1).1 (TX0 1).2.1 (TX0 1).2.2.1 ∈ wsX0_steepestOpen := by decide +kernel
theorem fl_X0_steepestOpen_19 : Cond.fieldLink RX0 19 (TX0 2).1 (TX0 2).2.1 (TX0 2).2.2.1 ∈ wsX0_steepestOpen := by decide +kernel
set_option maxRecDepth 100000 in
set_option maxHeartbeats 4000000 in
theorem c_X0_steepestOpen {l : Launch} {D : va_G} {cI cL : ClassId} {a : Nat → Nat} (o : Nat) (n : Nat) (tw : Nat → Int32) (sl : Nat → Int32) (dp : Nat → Int32) (kd : Nat → Int32) (t : Int32) (lim : Int32) (hn : n ≤ 6) : Ct l yX0_steepestOpen wsX0_steepestOpen { frames := 1, cells := 0, slots := 0, locals := 21 } D (ty2 cI cL) [.ref (a o), .int t, .int lim] (wR cI a o n tw sl dp kd) (fun v w' => v = some (.int (oI (bestR tw sl dp t lim n))) ∧ w' = wR cI a o n tw sl dp kd) 0 0 := by
  refine Ct.of (cc := cX0_steepestOpen) (maxL := 7) (ret := (some .int)) (by decide) rfl (Nat.le_of_ble_eq_true rfl) ?_
  intro p e s m below meth c A ls CX hin HW hl
  obtain ⟨hx, hb, hml, hr, hown, hts, hK, hA, hlk⟩ := id CX
  have hl : lv_has ls 7 [(0, .ref (a o)), (1, .int t), (2, .int lim)] := hl
  have loop : ∀ (d0 : Nat) (i : Nat), n - i = d0 → (i ≤ n) → ∀ (H : Heap) (locs : List Loc) (ls : Array Slot), Hw D A s (wR cI a o n tw sl dp kd) H locs → lv_has ls 7 [(5, .int (nI i)), (4, .int (bsl sl (bestR tw sl dp t lim i))), (3, .int (oI (bestR tw sl dp t lim i))), (2, .int lim), (1, .int t), (0, .ref (a o))] → W p l e ({ frames := 1, cells := 0, slots := 0, locals := 21 } : Room) s m ([.ref (a o), .int t, .int lim] : List Value).toArray below meth c H locs 0 0 (MQ below (cQ D A (fun v w' => v = some (.int (oI (bestR tw sl dp t lim n))) ∧ w' = wR cI a o n tw sl dp kd)) ([.ref (a o), .int t, .int lim] : List Value).toArray s 0 0 A) (F0 m 8 ls []) := by
    intro d0
    induction d0 using Nat.strongRecOn with
    | _ d0 ih =>
      intro i hd0 hi H locs ls HW hl
      have j84 : ∀ (x3 : Int32) (x4 : Int32), (i < n) → (x3 = oI (bestR tw sl dp t lim (i + 1))) → (x4 = bsl sl (bestR tw sl dp t lim (i + 1))) → ∀ (H : Heap) (locs : List Loc) (ls : Array Slot), Hw D A s (wR cI a o n tw sl dp kd) H locs → lv_has ls 7 [(5, .int (nI i)), (4, .int x4), (3, .int x3), (2, .int lim), (1, .int t), (0, .ref (a o))] → W p l e ({ frames := 1, cells := 0, slots := 0, locals := 21 } : Room) s m ([.ref (a o), .int t, .int lim] : List Value).toArray below meth c H locs 0 0 (MQ below (cQ D A (fun v w' => v = some (.int (oI (bestR tw sl dp t lim n))) ∧ w' = wR cI a o n tw sl dp kd)) ([.ref (a o), .int t, .int lim] : List Value).toArray s 0 0 A) (F0 m 84 ls []) := by
        intro x3 x4 hlt h3 h4 H locs ls HW hl
        subst h3; subst h4
        refine lv_iinc (v := (nI (i + 1))) (lv' := [(5, .int (nI (i + 1))), (4, .int (bsl sl (bestR tw sl dp t lim (i + 1)))), (3, .int (oI (bestR tw sl dp t lim (i + 1)))), (2, .int lim), (1, .int t), (0, .ref (a o))]) hx hb dX0_steepestOpen_84 hl (k := 0) rfl (inc1 _) (Nat.le_of_ble_eq_true rfl) rfl (fun ls hl => ?_)
        refine lv_goto (tgt := 8) hx hb dX0_steepestOpen_87 (by decide) ?_
        exact ih _ (by omega) (i + 1) rfl (by omega) _ _ _ HW (lv_sub hl [0, 1, 2, 3, 4, 5] rfl)
      refine lv_iload hx hb dX0_steepestOpen_8 (lv_at hl 0 rfl) ?_
      refine lv_aload_n hx hb dX0_steepestOpen_10 rfl (lv_at hl 5 rfl) ?_
      refine g_get CX HW in_X0_steepestOpen_0 0 0 rfl rfl (Nat.le_of_ble_eq_true rfl) fl_X0_steepestOpen_9 rfl dX0_steepestOpen_11 ?_
      refine lv_icmp_ge (tgt := 90) hx hb dX0_steepestOpen_14 (by decide) (fun c14 => ?_) (fun c14 => ?_)
      · have c14 := (nI_leI (by omega) (by omega)).mp c14
        obtain rfl : i = n := by omega
        refine lv_iload_n hx hb dX0_steepestOpen_90 rfl (lv_at hl 2 rfl) ?_
        exact g_iret CX HW rfl ⟨rfl, rfl⟩ dX0_steepestOpen_91
      · have c14 : i < n := nI_lt_of (by omega) (by omega) c14
        refine lv_aload_n hx hb dX0_steepestOpen_17 rfl (lv_at hl 5 rfl) ?_
        refine g_get CX HW in_X0_steepestOpen_0 0 1 rfl rfl (Nat.le_of_ble_eq_true rfl) fl_X0_steepestOpen_15 rfl dX0_steepestOpen_18 ?_
        refine lv_iload hx hb dX0_steepestOpen_21 (lv_at hl 0 rfl) ?_
        refine g_ald CX HW 1 (k := i) rfl rfl rfl (by omega) (Nat.le_of_ble_eq_true rfl) dX0_steepestOpen_23 ?_
        refine lv_iload_n hx hb dX0_steepestOpen_24 rfl (lv_at hl 4 rfl) ?_
        refine lv_icmp_ne (tgt := 52) hx hb dX0_steepestOpen_25 (by decide) (fun c25 => ?_) (fun c25 => ?_)
        · refine lv_iconst (v := 0) hx hb dX0_steepestOpen_52 (by decide) ?_
          refine lv_istore (lv' := [(6, .int (0 : Int32)), (5, .int (nI i)), (4, .int (bsl sl (bestR tw sl dp t lim i))), (3, .int (oI (bestR tw sl dp t lim i))), (2, .int lim), (1, .int t), (0, .ref (a o))]) hx hb dX0_steepestOpen_53 hl (Nat.le_of_ble_eq_true rfl) rfl (fun ls hl => ?_)
          refine lv_iload hx hb dX0_steepestOpen_55 (lv_at hl 0 rfl) ?_
          refine lv_if_eq (tgt := 84) hx hb dX0_steepestOpen_57 (by decide) (fun c57 => ?_) (fun c57 => ?_)
          · exact j84 (oI (bestR tw sl dp t lim i)) (bsl sl (bestR tw sl dp t lim i)) (by omega) (by simp only [bestR]; rw [if_neg (by intro h9; first | exact absurd h9.1 c25 | exact absurd c36 (Int32.not_lt.mpr h9.2.1) | exact absurd h9.2.2.1 c45 | exact absurd h9.2.2.2 (Int32.not_lt.mpr c69))]) (by simp only [bestR]; rw [if_neg (by intro h9; first | exact absurd h9.1 c25 | exact absurd c36 (Int32.not_lt.mpr h9.2.1) | exact absurd h9.2.2.1 c45 | exact absurd h9.2.2.2 (Int32.not_lt.mpr c69))]) _ _ _ HW (lv_sub hl [1, 2, 3, 4, 5, 6] rfl)
          · exact absurd c57 (by decide)
        · refine lv_aload_n hx hb dX0_steepestOpen_28 rfl (lv_at hl 5 rfl) ?_
          refine g_get CX HW in_X0_steepestOpen_0 0 2 rfl rfl (Nat.le_of_ble_eq_true rfl) fl_X0_steepestOpen_19 rfl dX0_steepestOpen_29 ?_
          refine lv_iload hx hb dX0_steepestOpen_32 (lv_at hl 0 rfl) ?_
          refine g_ald CX HW 2 (k := i) rfl rfl rfl (by omega) (Nat.le_of_ble_eq_true rfl) dX0_steepestOpen_34 ?_
          refine lv_iload_n hx hb dX0_steepestOpen_35 rfl (lv_at hl 3 rfl) ?_
          refine lv_icmp_gt (tgt := 52) hx hb dX0_steepestOpen_36 (by decide) (fun c36 => ?_) (fun c36 => ?_)
          · refine lv_iconst (v := 0) hx hb dX0_steepestOpen_52 (by decide) ?_
            refine lv_istore (lv' := [(6, .int (0 : Int32)), (5, .int (nI i)), (4, .int (bsl sl (bestR tw sl dp t lim i))), (3, .int (oI (bestR tw sl dp t lim i))), (2, .int lim), (1, .int t), (0, .ref (a o))]) hx hb dX0_steepestOpen_53 hl (Nat.le_of_ble_eq_true rfl) rfl (fun ls hl => ?_)
            refine lv_iload hx hb dX0_steepestOpen_55 (lv_at hl 0 rfl) ?_
            refine lv_if_eq (tgt := 84) hx hb dX0_steepestOpen_57 (by decide) (fun c57 => ?_) (fun c57 => ?_)
            · exact j84 (oI (bestR tw sl dp t lim i)) (bsl sl (bestR tw sl dp t lim i)) (by omega) (by simp only [bestR]; rw [if_neg (by intro h9; first | exact absurd h9.1 c25 | exact absurd c36 (Int32.not_lt.mpr h9.2.1) | exact absurd h9.2.2.1 c45 | exact absurd h9.2.2.2 (Int32.not_lt.mpr c69))]) (by simp only [bestR]; rw [if_neg (by intro h9; first | exact absurd h9.1 c25 | exact absurd c36 (Int32.not_lt.mpr h9.2.1) | exact absurd h9.2.2.1 c45 | exact absurd h9.2.2.2 (Int32.not_lt.mpr c69))]) _ _ _ HW (lv_sub hl [1, 2, 3, 4, 5, 6] rfl)
            · exact absurd c57 (by decide)
          · refine lv_aload_n hx hb dX0_steepestOpen_39 rfl (lv_at hl 5 rfl) ?_
            refine lv_iload hx hb dX0_steepestOpen_40 (lv_at hl 0 rfl) ?_
            refine g_callV CX HW hl.1 ([]) ([]) (c_X0_isOpen o n tw sl dp kd i (by omega)) rfl 0 rfl rfl gX0_steepestOpen_X0_isOpen rfl ⟨rfl, hd_X0_isOpen⟩ ⟨rfl, rfl, (Nat.le_of_ble_eq_true rfl), (Nat.le_of_ble_eq_true rfl)⟩ ⟨(Nat.zero_le _), (Nat.zero_le _)⟩ rfl rfl (Nat.le_of_ble_eq_true rfl) dX0_steepestOpen_42 (fun v w1 H locs hp HW => ?_)
            obtain ⟨rfl, rfl⟩ := hp
            have HW : Hw D A s (wR cI a o n tw sl dp kd) H locs := HW
            refine W.eq (g2 := F0 m 45 ls [.int (bI (opn dp sl i))]) rfl ?_
            refine g_ifeq_b (tgt := 52) hx hb dX0_steepestOpen_45 (by decide) (fun c45 => ?_) (fun c45 => ?_)
            · refine lv_iconst (v := 0) hx hb dX0_steepestOpen_52 (by decide) ?_
              refine lv_istore (lv' := [(6, .int (0 : Int32)), (5, .int (nI i)), (4, .int (bsl sl (bestR tw sl dp t lim i))), (3, .int (oI (bestR tw sl dp t lim i))), (2, .int lim), (1, .int t), (0, .ref (a o))]) hx hb dX0_steepestOpen_53 hl (Nat.le_of_ble_eq_true rfl) rfl (fun ls hl => ?_)
              refine lv_iload hx hb dX0_steepestOpen_55 (lv_at hl 0 rfl) ?_
              refine lv_if_eq (tgt := 84) hx hb dX0_steepestOpen_57 (by decide) (fun c57 => ?_) (fun c57 => ?_)
              · exact j84 (oI (bestR tw sl dp t lim i)) (bsl sl (bestR tw sl dp t lim i)) (by omega) (by simp only [bestR]; rw [if_neg (by intro h9; first | exact absurd h9.1 c25 | exact absurd c36 (Int32.not_lt.mpr h9.2.1) | exact absurd h9.2.2.1 c45 | exact absurd h9.2.2.2 (Int32.not_lt.mpr c69))]) (by simp only [bestR]; rw [if_neg (by intro h9; first | exact absurd h9.1 c25 | exact absurd c36 (Int32.not_lt.mpr h9.2.1) | exact absurd h9.2.2.1 c45 | exact absurd h9.2.2.2 (Int32.not_lt.mpr c69))]) _ _ _ HW (lv_sub hl [1, 2, 3, 4, 5, 6] rfl)
              · exact absurd c57 (by decide)
            · refine lv_iconst (v := 1) hx hb dX0_steepestOpen_48 (by decide) ?_
              refine lv_goto (tgt := 53) hx hb dX0_steepestOpen_49 (by decide) ?_
              refine lv_istore (lv' := [(6, .int (1 : Int32)), (5, .int (nI i)), (4, .int (bsl sl (bestR tw sl dp t lim i))), (3, .int (oI (bestR tw sl dp t lim i))), (2, .int lim), (1, .int t), (0, .ref (a o))]) hx hb dX0_steepestOpen_53 hl (Nat.le_of_ble_eq_true rfl) rfl (fun ls hl => ?_)
              refine lv_iload hx hb dX0_steepestOpen_55 (lv_at hl 0 rfl) ?_
              refine lv_if_eq (tgt := 84) hx hb dX0_steepestOpen_57 (by decide) (fun c57 => ?_) (fun c57 => ?_)
              · exact absurd c57 (by decide)
              · refine lv_aload_n hx hb dX0_steepestOpen_60 rfl (lv_at hl 6 rfl) ?_
                refine g_get CX HW in_X0_steepestOpen_0 0 2 rfl rfl (Nat.le_of_ble_eq_true rfl) fl_X0_steepestOpen_19 rfl dX0_steepestOpen_61 ?_
                refine lv_iload hx hb dX0_steepestOpen_64 (lv_at hl 1 rfl) ?_
                refine g_ald CX HW 2 (k := i) rfl rfl rfl (by omega) (Nat.le_of_ble_eq_true rfl) dX0_steepestOpen_66 ?_
                refine lv_iload hx hb dX0_steepestOpen_67 (lv_at hl 2 rfl) ?_
                refine lv_icmp_le (tgt := 84) hx hb dX0_steepestOpen_69 (by decide) (fun c69 => ?_) (fun c69 => ?_)
                · exact j84 (oI (bestR tw sl dp t lim i)) (bsl sl (bestR tw sl dp t lim i)) (by omega) (by simp only [bestR]; rw [if_neg (by intro h9; first | exact absurd h9.1 c25 | exact absurd c36 (Int32.not_lt.mpr h9.2.1) | exact absurd h9.2.2.1 c45 | exact absurd h9.2.2.2 (Int32.not_lt.mpr c69))]) (by simp only [bestR]; rw [if_neg (by intro h9; first | exact absurd h9.1 c25 | exact absurd c36 (Int32.not_lt.mpr h9.2.1) | exact absurd h9.2.2.1 c45 | exact absurd h9.2.2.2 (Int32.not_lt.mpr c69))]) _ _ _ HW (lv_sub hl [1, 2, 3, 4, 5, 6] rfl)
                · have c69 := Int32.not_le.mp c69
                  refine lv_iload hx hb dX0_steepestOpen_72 (lv_at hl 1 rfl) ?_
                  refine lv_istore_n (lv' := [(3, .int (nI i)), (6, .int (1 : Int32)), (5, .int (nI i)), (4, .int (bsl sl (bestR tw sl dp t lim i))), (2, .int lim), (1, .int t), (0, .ref (a o))]) hx hb dX0_steepestOpen_74 rfl hl (Nat.le_of_ble_eq_true rfl) rfl (fun ls hl => ?_)
                  refine lv_aload_n hx hb dX0_steepestOpen_75 rfl (lv_at hl 6 rfl) ?_
                  refine g_get CX HW in_X0_steepestOpen_0 0 2 rfl rfl (Nat.le_of_ble_eq_true rfl) fl_X0_steepestOpen_19 rfl dX0_steepestOpen_76 ?_
                  refine lv_iload hx hb dX0_steepestOpen_79 (lv_at hl 2 rfl) ?_
                  refine g_ald CX HW 2 (k := i) rfl rfl rfl (by omega) (Nat.le_of_ble_eq_true rfl) dX0_steepestOpen_81 ?_
                  refine lv_istore (lv' := [(4, .int (sl i)), (3, .int (nI i)), (6, .int (1 : Int32)), (5, .int (nI i)), (2, .int lim), (1, .int t), (0, .ref (a o))]) hx hb dX0_steepestOpen_82 hl (Nat.le_of_ble_eq_true rfl) rfl (fun ls hl => ?_)
                  exact j84 (nI i) (sl i) (by omega) (by simp only [bestR]; rw [if_pos ⟨c25, Int32.not_lt.mp c36, c45, c69⟩]; rfl) (by simp only [bestR]; rw [if_pos ⟨c25, Int32.not_lt.mp c36, c45, c69⟩]; rfl) _ _ _ HW (lv_sub hl [3, 0, 1, 4, 5, 6] rfl)
  refine lv_iconst (v := (-1)) hx hb dX0_steepestOpen_0 (by decide) ?_
  refine lv_istore_n (lv' := [(3, .int (-1 : Int32)), (0, .ref (a o)), (1, .int t), (2, .int lim)]) hx hb dX0_steepestOpen_1 rfl hl (Nat.le_of_ble_eq_true rfl) rfl (fun ls hl => ?_)
  refine lv_iconst (v := 0) hx hb dX0_steepestOpen_2 (by decide) ?_
  refine lv_istore (lv' := [(4, .int (0 : Int32)), (3, .int (-1 : Int32)), (0, .ref (a o)), (1, .int t), (2, .int lim)]) hx hb dX0_steepestOpen_3 hl (Nat.le_of_ble_eq_true rfl) rfl (fun ls hl => ?_)
  refine lv_iconst (v := 0) hx hb dX0_steepestOpen_5 (by decide) ?_
  refine lv_istore (lv' := [(5, .int (0 : Int32)), (4, .int (0 : Int32)), (3, .int (-1 : Int32)), (0, .ref (a o)), (1, .int t), (2, .int lim)]) hx hb dX0_steepestOpen_6 hl (Nat.le_of_ble_eq_true rfl) rfl (fun ls hl => ?_)
  exact loop _ 0 rfl (by omega) _ _ _ HW (lv_sub hl [0, 1, 2, 5, 4, 3] rfl)

theorem hd_X0_flagged : yX0_flagged.cls ≠ "java/lang/invoke/MethodHandle" ∧ yX0_flagged.cls ≠ "java/lang/invoke/VarHandle" ∧ (parseMethodDescriptor yX0_flagged.desc).map (fun d => d.parameters.length) = some 0 := by decide +kernel
theorem fl_X0_flagged_9 : Cond.fieldLink RX0 9 (TX0 0).1 (TX0 0).2.1 (TX0 0).2.2.1 ∈ wsX0_flagged := by decide +kernel
theorem in_X0_flagged_0 : ∀ x ∈ u_ws RX0 TX0 5, x ∈ wsX0_flagged := by decide +kernel
set_option maxRecDepth 100000 in
set_option maxHeartbeats 4000000 in
theorem c_X0_flagged {l : Launch} {D : va_G} {cI cL : ClassId} {a : Nat → Nat} (o : Nat) (n : Nat) (tw : Nat → Int32) (sl : Nat → Int32) (dp : Nat → Int32) (kd : Nat → Int32) (hn : n ≤ 6) : Ct l yX0_flagged wsX0_flagged { frames := 1, cells := 0, slots := 0, locals := 21 } D (ty2 cI cL) [.ref (a o)] (wR cI a o n tw sl dp kd) (fun v w' => v = some (.int (flagN dp sl n)) ∧ w' = wR cI a o n tw sl dp kd) 0 0 := by
  refine Ct.of (cc := cX0_flagged) (maxL := 3) (ret := (some .int)) (by decide) rfl (Nat.le_of_ble_eq_true rfl) ?_
  intro p e s m below meth c A ls CX hin HW hl
  obtain ⟨hx, hb, hml, hr, hown, hts, hK, hA, hlk⟩ := id CX
  have hl : lv_has ls 3 [(0, .ref (a o))] := hl
  have loop : ∀ (d0 : Nat) (i : Nat), n - i = d0 → (i ≤ n) → ∀ (H : Heap) (locs : List Loc) (ls : Array Slot), Hw D A s (wR cI a o n tw sl dp kd) H locs → lv_has ls 3 [(2, .int (nI i)), (1, .int (flagN dp sl i)), (0, .ref (a o))] → W p l e ({ frames := 1, cells := 0, slots := 0, locals := 21 } : Room) s m ([.ref (a o)] : List Value).toArray below meth c H locs 0 0 (MQ below (cQ D A (fun v w' => v = some (.int (flagN dp sl n)) ∧ w' = wR cI a o n tw sl dp kd)) ([.ref (a o)] : List Value).toArray s 0 0 A) (F0 m 4 ls []) := by
    intro d0
    induction d0 using Nat.strongRecOn with
    | _ d0 ih =>
      intro i hd0 hi H locs ls HW hl
      have j23 : ∀ (x1 : Int32), (i < n) → (x1 = flagN dp sl (i + 1)) → ∀ (H : Heap) (locs : List Loc) (ls : Array Slot), Hw D A s (wR cI a o n tw sl dp kd) H locs → lv_has ls 3 [(2, .int (nI i)), (1, .int x1), (0, .ref (a o))] → W p l e ({ frames := 1, cells := 0, slots := 0, locals := 21 } : Room) s m ([.ref (a o)] : List Value).toArray below meth c H locs 0 0 (MQ below (cQ D A (fun v w' => v = some (.int (flagN dp sl n)) ∧ w' = wR cI a o n tw sl dp kd)) ([.ref (a o)] : List Value).toArray s 0 0 A) (F0 m 23 ls []) := by
        intro x1 hlt h1 H locs ls HW hl
        subst h1
        refine lv_iinc (v := (nI (i + 1))) (lv' := [(2, .int (nI (i + 1))), (1, .int (flagN dp sl (i + 1))), (0, .ref (a o))]) hx hb dX0_flagged_23 hl (k := 0) rfl (inc1 _) (Nat.le_of_ble_eq_true rfl) rfl (fun ls hl => ?_)
        refine lv_goto (tgt := 4) hx hb dX0_flagged_26 (by decide) ?_
        exact ih _ (by omega) (i + 1) rfl (by omega) _ _ _ HW (lv_sub hl [0, 1, 2] rfl)
      refine lv_iload_n hx hb dX0_flagged_4 rfl (lv_at hl 0 rfl) ?_
      refine lv_aload_n hx hb dX0_flagged_5 rfl (lv_at hl 2 rfl) ?_
      refine g_get CX HW in_X0_flagged_0 0 0 rfl rfl (Nat.le_of_ble_eq_true rfl) fl_X0_flagged_9 rfl dX0_flagged_6 ?_
      refine lv_icmp_ge (tgt := 29) hx hb dX0_flagged_9 (by decide) (fun c9 => ?_) (fun c9 => ?_)
      · have c9 := (nI_leI (by omega) (by omega)).mp c9
        obtain rfl : i = n := by omega
        refine lv_iload_n hx hb dX0_flagged_29 rfl (lv_at hl 1 rfl) ?_
        exact g_iret CX HW rfl ⟨rfl, rfl⟩ dX0_flagged_30
      · have c9 : i < n := nI_lt_of (by omega) (by omega) c9
        refine lv_aload_n hx hb dX0_flagged_12 rfl (lv_at hl 2 rfl) ?_
        refine lv_iload_n hx hb dX0_flagged_13 rfl (lv_at hl 0 rfl) ?_
        refine g_callV CX HW hl.1 ([]) ([]) (c_X0_isOpen o n tw sl dp kd i (by omega)) rfl 0 rfl rfl gX0_flagged_X0_isOpen rfl ⟨rfl, hd_X0_isOpen⟩ ⟨rfl, rfl, (Nat.le_of_ble_eq_true rfl), (Nat.le_of_ble_eq_true rfl)⟩ ⟨(Nat.zero_le _), (Nat.zero_le _)⟩ rfl rfl (Nat.le_of_ble_eq_true rfl) dX0_flagged_14 (fun v w1 H locs hp HW => ?_)
        obtain ⟨rfl, rfl⟩ := hp
        have HW : Hw D A s (wR cI a o n tw sl dp kd) H locs := HW
        refine W.eq (g2 := F0 m 17 ls [.int (bI (opn dp sl i))]) rfl ?_
        refine g_ifne_b (tgt := 23) hx hb dX0_flagged_17 (by decide) (fun c17 => ?_) (fun c17 => ?_)
        · exact j23 (flagN dp sl i) (by omega) (by simp only [flagN]; rw [if_pos c17]) _ _ _ HW (lv_sub hl [0, 1, 2] rfl)
        · refine lv_iinc (v := ((flagN dp sl i) + (1 : Int32))) (lv' := [(1, .int ((flagN dp sl i) + (1 : Int32))), (2, .int (nI i)), (0, .ref (a o))]) hx hb dX0_flagged_20 hl (k := 1) rfl (inc1x _) (Nat.le_of_ble_eq_true rfl) rfl (fun ls hl => ?_)
          exact j23 ((flagN dp sl i) + (1 : Int32)) (by omega) (by simp only [flagN]; rw [if_neg c17]) _ _ _ HW (lv_sub hl [1, 0, 2] rfl)
  refine lv_iconst (v := 0) hx hb dX0_flagged_0 (by decide) ?_
  refine lv_istore_n (lv' := [(1, .int (0 : Int32)), (0, .ref (a o))]) hx hb dX0_flagged_1 rfl hl (Nat.le_of_ble_eq_true rfl) rfl (fun ls hl => ?_)
  refine lv_iconst (v := 0) hx hb dX0_flagged_2 (by decide) ?_
  refine lv_istore_n (lv' := [(2, .int (0 : Int32)), (1, .int (0 : Int32)), (0, .ref (a o))]) hx hb dX0_flagged_3 rfl hl (Nat.le_of_ble_eq_true rfl) rfl (fun ls hl => ?_)
  exact loop _ 0 rfl (by omega) _ _ _ HW (lv_sub hl [0, 1, 2] rfl)

theorem hd_X0_figure : yX0_figure.cls ≠ "java/lang/invoke/MethodHandle" ∧ yX0_figure.cls ≠ "java/lang/invoke/VarHandle" ∧ (parseMethodDescriptor yX0_figure.desc).map (fun d => d.parameters.length) = some 2 := by decide +kernel
theorem fl_X0_figure_15 : Cond.fieldLink RX0 15 (TX0 1).1 (TX0 1).2.1 (TX0 1).2.2.1 ∈ wsX0_figure := by decide +kernel
theorem in_X0_figure_0 : ∀ x ∈ u_ws RX0 TX0 5, x ∈ wsX0_figure := by decide +kernel
theorem fl_X0_figure_19 : Cond.fieldLink RX0 19 (TX0 2).1 (TX0 2).2.1 (TX0 2).2.2.1 ∈ wsX0_figure := by decide +kernel
theorem fl_X0_figure_22 : Cond.fieldLink RX0 22 (TX0 3).1 (TX0 3).2.1 (TX0 3).2.2.1 ∈ wsX0_figure := by decide +kernel
theorem fl_X0_figure_25 : Cond.fieldLink RX0 25 (TX0 4).1 (TX0 4).2.1 (TX0 4).2.2.1 ∈ wsX0_figure := by decide +kernel
set_option maxRecDepth 100000 in
set_option maxHeartbeats 4000000 in
theorem c_X0_figure {l : Launch} {D : va_G} {cI cL : ClassId} {a : Nat → Nat} (o : Nat) (n : Nat) (tw : Nat → Int32) (sl : Nat → Int32) (dp : Nat → Int32) (kd : Nat → Int32) (r : Nat) (what : Nat) (hr6 : r < 6) (hw5 : what < 5) : Ct l yX0_figure wsX0_figure { frames := 1, cells := 0, slots := 0, locals := 21 } D (ty2 cI cL) [.ref (a o), .int (nI r), .int (nI what)] (wR cI a o n tw sl dp kd) (fun v w' => v = some (.int (figR tw sl dp kd r what)) ∧ w' = wR cI a o n tw sl dp kd) 0 0 := by
  refine Ct.of (cc := cX0_figure) (maxL := 3) (ret := (some .int)) (by decide) rfl (Nat.le_of_ble_eq_true rfl) ?_
  intro p e s m below meth c A ls CX hin HW hl
  obtain ⟨hx, hb, hml, hr, hown, hts, hK, hA, hlk⟩ := id CX
  have hl : lv_has ls 3 [(0, .ref (a o)), (1, .int (nI r)), (2, .int (nI what))] := hl
  refine lv_iload_n hx hb dX0_figure_0 rfl (lv_at hl 2 rfl) ?_
  rcases (by omega : what = 0 ∨ what = 1 ∨ what = 2 ∨ what = 3 ∨ what = 4) with rfl | rfl | rfl | rfl | rfl
  · refine lv_tableIn (off := 31) (tgt := 32) hx hb dX0_figure_1 (by decide) (by decide) (by decide) (by decide) ?_
    refine lv_aload_n hx hb dX0_figure_32 rfl (lv_at hl 0 rfl) ?_
    refine g_get CX HW in_X0_figure_0 0 1 rfl rfl (Nat.le_of_ble_eq_true rfl) fl_X0_figure_15 rfl dX0_figure_33 ?_
    refine lv_iload_n hx hb dX0_figure_36 rfl (lv_at hl 1 rfl) ?_
    refine g_ald CX HW 1 (k := r) rfl rfl rfl (by omega) (Nat.le_of_ble_eq_true rfl) dX0_figure_37 ?_
    exact g_iret CX HW rfl ⟨rfl, rfl⟩ dX0_figure_38
  · refine lv_tableIn (off := 38) (tgt := 39) hx hb dX0_figure_1 (by decide) (by decide) (by decide) (by decide) ?_
    refine lv_aload_n hx hb dX0_figure_39 rfl (lv_at hl 0 rfl) ?_
    refine g_get CX HW in_X0_figure_0 0 2 rfl rfl (Nat.le_of_ble_eq_true rfl) fl_X0_figure_19 rfl dX0_figure_40 ?_
    refine lv_iload_n hx hb dX0_figure_43 rfl (lv_at hl 1 rfl) ?_
    refine g_ald CX HW 2 (k := r) rfl rfl rfl (by omega) (Nat.le_of_ble_eq_true rfl) dX0_figure_44 ?_
    exact g_iret CX HW rfl ⟨rfl, rfl⟩ dX0_figure_45
  · refine lv_tableIn (off := 45) (tgt := 46) hx hb dX0_figure_1 (by decide) (by decide) (by decide) (by decide) ?_
    refine lv_aload_n hx hb dX0_figure_46 rfl (lv_at hl 0 rfl) ?_
    refine g_get CX HW in_X0_figure_0 0 3 rfl rfl (Nat.le_of_ble_eq_true rfl) fl_X0_figure_22 rfl dX0_figure_47 ?_
    refine lv_iload_n hx hb dX0_figure_50 rfl (lv_at hl 1 rfl) ?_
    refine g_ald CX HW 3 (k := r) rfl rfl rfl (by omega) (Nat.le_of_ble_eq_true rfl) dX0_figure_51 ?_
    exact g_iret CX HW rfl ⟨rfl, rfl⟩ dX0_figure_52
  · refine lv_tableIn (off := 52) (tgt := 53) hx hb dX0_figure_1 (by decide) (by decide) (by decide) (by decide) ?_
    refine lv_aload_n hx hb dX0_figure_53 rfl (lv_at hl 0 rfl) ?_
    refine lv_iload_n hx hb dX0_figure_54 rfl (lv_at hl 1 rfl) ?_
    refine g_callV CX HW hl.1 ([]) ([]) (c_X0_isOpen o n tw sl dp kd r (by omega)) rfl 0 rfl rfl gX0_figure_X0_isOpen rfl ⟨rfl, hd_X0_isOpen⟩ ⟨rfl, rfl, (Nat.le_of_ble_eq_true rfl), (Nat.le_of_ble_eq_true rfl)⟩ ⟨(Nat.zero_le _), (Nat.zero_le _)⟩ rfl rfl (Nat.le_of_ble_eq_true rfl) dX0_figure_55 (fun v w1 H locs hp HW => ?_)
    obtain ⟨rfl, rfl⟩ := hp
    have HW : Hw D A s (wR cI a o n tw sl dp kd) H locs := HW
    refine W.eq (g2 := F0 m 58 ls [.int (bI (opn dp sl r))]) rfl ?_
    refine g_ifeq_b (tgt := 65) hx hb dX0_figure_58 (by decide) (fun c58 => ?_) (fun c58 => ?_)
    · refine lv_iconst (v := 1) hx hb dX0_figure_65 (by decide) ?_
      exact g_iret CX HW rfl ⟨by simp only [figR]; rw [if_neg c58], rfl⟩ dX0_figure_66
    · refine lv_iconst (v := 0) hx hb dX0_figure_61 (by decide) ?_
      refine lv_goto (tgt := 66) hx hb dX0_figure_62 (by decide) ?_
      exact g_iret CX HW rfl ⟨by simp only [figR]; rw [if_pos c58], rfl⟩ dX0_figure_66
  · refine lv_tableOut (tgt := 67) hx hb dX0_figure_1 (by decide) (by decide) ?_
    refine lv_aload_n hx hb dX0_figure_67 rfl (lv_at hl 0 rfl) ?_
    refine g_get CX HW in_X0_figure_0 0 4 rfl rfl (Nat.le_of_ble_eq_true rfl) fl_X0_figure_25 rfl dX0_figure_68 ?_
    refine lv_iload_n hx hb dX0_figure_71 rfl (lv_at hl 1 rfl) ?_
    refine g_ald CX HW 4 (k := r) rfl rfl rfl (by omega) (Nat.le_of_ble_eq_true rfl) dX0_figure_72 ?_
    exact g_iret CX HW rfl ⟨rfl, rfl⟩ dX0_figure_73
