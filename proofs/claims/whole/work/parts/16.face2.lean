def takeQ (q : Nat → List Nat) (k : Nat) : Nat → List Nat := fun t => if t < 3 then (q t).erase k else q t
abbrev inQ (q : Nat → List Nat) (k : Nat) : Prop := k ∈ q 0 ∨ k ∈ q 1 ∨ k ∈ q 2
def towQ (q : Nat → List Nat) (k : Nat) : Int32 := if k ∈ q 0 then 0 else if k ∈ q 1 then 1 else if k ∈ q 2 then 2 else -1
def standQ (q : Nat → List Nat) (t : Nat) (P : Int32) : Option Nat := if P < 0 then none else (q t)[natI P]?
def kJoin (S : VS) (x z : Int32) : Int32 := if ¬ (0 ≤ x ∧ x < nI (vs S)) then 1 else if ¬ (0 ≤ z ∧ z ≤ 2) then 1 else 0
def sJoin (S : VS) (x z : Int32) : VS := mkV (vh S) (vr S) (vs S) (vc S) (vA S) (setQ (takeQ (vq S) (natI x)) (natI z) (takeQ (vq S) (natI x) (natI z) ++ [natI x]))
def kLea (S : VS) (x : Int32) : Int32 := if ¬ (0 ≤ x ∧ x < nI (vs S)) then 1 else 0
def sLea (S : VS) (x : Int32) : VS := mkV (vh S) (vr S) (vs S) (vc S) (vA S) (takeQ (vq S) (natI x))
def kAbo (S : VS) (x z : Int32) : Int32 := if ¬ (0 ≤ x ∧ x < nI (vr S)) then 1 else if ¬ (0 ≤ z ∧ z ≤ 4) then 1 else 0
def kTol (S : VS) (x z : Int32) : Int32 := if ¬ (0 ≤ x ∧ x < nI (vs S)) then 1 else if ¬ (0 ≤ z ∧ z ≤ 6) then 1 else 0
def kTow (x z : Int32) : Int32 := if ¬ (0 ≤ x ∧ x ≤ 2) then 1 else if ¬ (0 ≤ z ∧ z ≤ 2) then 1 else 0
def kSta (S : VS) (x z : Int32) : Int32 := if ¬ (0 ≤ x ∧ x ≤ 2) then 1 else if standQ (vq S) (natI x) z = none then 1 else 0
def kCou (z : Int32) : Int32 := if ¬ (0 ≤ z ∧ z ≤ 8) then 1 else 0
def kPas (z : Int32) : Int32 := if ¬ (1 ≤ z ∧ z ≤ 60) then 1 else 0
def kFor (z y : Int32) : Int32 := if ¬ (1 ≤ z ∧ z ≤ 60) then 1 else if ¬ (0 ≤ y ∧ y ≤ 8) then 2 else 0
theorem wi1_nat {x : Int32} (n : Nat) (hn : n < 2 ^ 31) (h : 1 ≤ x ∧ x ≤ nI n) : ∃ k : Nat, 1 ≤ k ∧ k ≤ n ∧ x = nI k := by
  obtain ⟨j, h1, h2⟩ := wi_nat n hn ⟨Int32.le_trans (by decide) h.1, h.2⟩
  subst h2
  exact ⟨j, (nI_leI (a := 1) (b := j) (by decide) (by omega)).mp h.1, h1, rfl⟩
theorem oI_none {z : Option Nat} (h : oI z = -1) (hb : ∀ y, z = some y → y < 2 ^ 31) : z = none := by
  cases z with
  | none => rfl
  | some y => exact absurd h (nI_nm1 (hb y rfl))
theorem rep_stand {ns : Nat} {q : Nat → List Nat} {qt qp : Nat → Int32} (h : Rep ns q qt qp) (hn : ns ≤ 8) {t : Nat} (ht : t < 3) {P : Int32} : fnd qt qp (nI t) P ns = standQ q t P := by
  unfold standQ
  by_cases hP : P < 0
  · rw [if_pos hP]
    cases hf : fnd qt qp (nI t) P ns with
    | none => rfl
    | some j =>
      obtain ⟨h1, h2, h3⟩ := fnd_is hf
      rcases h.1 j h1 with h4 | ⟨t1, p1, h4, h5⟩
      · rw [h4] at h2; exact absurd h2 (nI_nm1' (by omega))
      · have h6 := rep_plt h hn h4 h5
        rw [(h.2.1 t1 p1 j h4 h5).2.2] at h3
        rw [← h3] at hP
        exact absurd hP (nI_pos (by omega))
  · rw [if_neg hP]
    obtain ⟨j, hj, rfl⟩ := nI_of hP
    rw [natI_nI hj]
    exact rep_at h hn ht hj
theorem standQ_lt {ns : Nat} {q : Nat → List Nat} {qt qp : Nat → Int32} (h : Rep ns q qt qp) {t y : Nat} (ht : t < 3) {P : Int32} (hy : standQ q t P = some y) : y < ns := by
  unfold standQ at hy
  split at hy
  · cases hy
  · exact (h.2.1 t _ y ht hy).1
theorem figS_qt {sk cn wx ly pt rd qt qt2 : Nat → Int32} {k w : Nat} (h : qt k = qt2 k) : figS sk cn wx ly pt rd qt k w = figS sk cn wx ly pt rd qt2 k w := by
  unfold figS; split <;> first | rfl | exact h
theorem rep_mem {ns : Nat} {q : Nat → List Nat} {qt qp : Nat → Int32} (h : Rep ns q qt qp) {t k : Nat} (ht : t < 3) (hk : k ∈ q t) : qt k = nI t := by
  obtain ⟨p, hp⟩ := List.getElem?_of_mem hk
  exact (h.2.1 t p k ht hp).2.1
theorem rep_towQ {ns : Nat} {q : Nat → List Nat} {qt qp : Nat → Int32} (h : Rep ns q qt qp) (hn : ns ≤ 8) {k : Nat} (hk : k < ns) : qt k = towQ q k := by
  unfold towQ
  split
  · rename_i h0; exact rep_mem h (by decide) h0
  · split
    · rename_i h1; exact rep_mem h (by decide) h1
    · split
      · rename_i h2; exact rep_mem h (by decide) h2
      · rename_i h0 h1 h2
        rcases h.1 k hk with h3 | ⟨t, p, h3, h4⟩
        · exact h3
        · have h5 := List.mem_of_getElem? h4
          rcases (by omega : t = 0 ∨ t = 1 ∨ t = 2) with rfl | rfl | rfl
          · exact absurd h5 h0
          · exact absurd h5 h1
          · exact absurd h5 h2
theorem rep_inQ {ns : Nat} {q : Nat → List Nat} {qt qp : Nat → Int32} (h : Rep ns q qt qp) (hn : ns ≤ 8) {k : Nat} (hk : k < ns) : inQ q k ↔ ¬ qt k = -1 := by
  constructor
  · rintro (h0 | h0 | h0) <;> rw [rep_mem h (by decide) h0] <;> exact nI_nm1 (by decide)
  · intro h1
    rcases h.1 k hk with h3 | ⟨t, p, h3, h4⟩
    · exact absurd h3 h1
    · have h5 := List.mem_of_getElem? h4
      rcases (by omega : t = 0 ∨ t = 1 ∨ t = 2) with rfl | rfl | rfl
      · exact Or.inl h5
      · exact Or.inr (Or.inl h5)
      · exact Or.inr (Or.inr h5)
theorem erase_at : ∀ {l : List Nat} {p k : Nat}, l[p]? = some k → (∀ p1, l[p1]? = some k → p1 = p) → l.erase k = l.eraseIdx p
  | [], p, k, h, _ => by simp at h
  | a :: l, p, k, h, hu => by
    by_cases ha : a = k
    · have h0 : p = 0 := (hu 0 (by rw [ha]; rfl)).symm
      subst h0
      rw [ha, List.erase_cons_head]; rfl
    · cases p with
      | zero => exact absurd (Option.some.inj h) ha
      | succ p =>
        rw [List.erase_cons_tail (by simpa using ha), List.eraseIdx_cons_succ, erase_at (p := p) h (fun p1 h1 => by have := hu (p1 + 1) h1; omega)]
/-- every one stands once -/
def QU (q : Nat → List Nat) : Prop := ∀ t t1 p p1 k : Nat, t < 3 → t1 < 3 → (q t)[p]? = some k → (q t1)[p1]? = some k → t = t1 ∧ p = p1
theorem rep_qu {ns : Nat} {q : Nat → List Nat} {qt qp : Nat → Int32} (h : Rep ns q qt qp) (hn : ns ≤ 8) : QU q := by
  intro t t1 p p1 k ht ht1 h1 h2
  obtain ⟨-, a1, a2⟩ := h.2.1 t p k ht h1
  obtain ⟨-, b1, b2⟩ := h.2.1 t1 p1 k ht1 h2
  have c1 := rep_plt h hn ht h1
  have c2 := rep_plt h hn ht1 h2
  exact ⟨nI_inj (by omega) (by omega) (a1.symm.trans b1), nI_inj (by omega) (by omega) (a2.symm.trans b2)⟩
theorem takeQ_at {q : Nat → List Nat} (hu : QU q) {t p k : Nat} (ht : t < 3) (hp : (q t)[p]? = some k) : takeQ q k = setQ q t ((q t).eraseIdx p) := by
  funext t1
  unfold takeQ setQ
  by_cases h : t1 = t
  · subst h; rw [if_pos ht, if_pos rfl]
    exact erase_at hp (fun p1 h1 => (hu t1 t1 p1 p k ht ht h1 hp).2)
  · rw [if_neg h]
    split
    · rename_i h1
      exact List.erase_of_not_mem (fun hm => by
        obtain ⟨p1, hp1⟩ := List.getElem?_of_mem hm
        exact h (hu t1 t p1 p k h1 ht hp1 hp).1)
    · rfl
theorem takeQ_no {q : Nat → List Nat} {k : Nat} (h : ∀ t, t < 3 → k ∉ q t) : takeQ q k = q := by
  funext t
  unfold takeQ
  split
  · rename_i ht; exact List.erase_of_not_mem (h t ht)
  · rfl
theorem rep_takeQ {ns : Nat} {q : Nat → List Nat} {qt qp : Nat → Int32} (h : Rep ns q qt qp) (hn : ns ≤ 8) {k : Nat} (hk : k < ns) : Rep ns (takeQ q k) (tkT qt k) (tkQ ns qt qp k) := by
  rcases h.1 k hk with h1 | ⟨t, p, h1, h2⟩
  · rw [takeQ_no (fun t ht hm => absurd h1 (by rw [rep_mem h ht hm]; exact nI_nm1 (by omega))), tkT, tkQ, if_pos h1, if_pos h1]
    exact h
  · rw [takeQ_at (rep_qu h hn) h1 h2]
    exact rep_take h hn h1 h2
section HP
variable {D : va_G} {A : Nat → Prop} {s : State} {H : Heap} {locs : List Loc}
theorem Hw.sw {a b c d : va_W} (h : Hw D A s (a ++ (b ++ (c ++ d))) H locs) : Hw D A s (a ++ (c ++ (b ++ d))) H locs := by
  obtain ⟨h1, h2, h3⟩ := h
  have e1 : a ++ (b ++ (c ++ d)) = ((a ++ b) ++ c) ++ d := by simp only [List.append_assoc]
  have e2 : a ++ (c ++ (b ++ d)) = ((a ++ c) ++ b) ++ d := by simp only [List.append_assoc]
  rw [e1] at h1 h2
  rw [e2]
  have k1 : va_P D vwCl (((a ++ c) ++ b) ++ d) H := by
    have q1 := h1.swap (a := a ++ b) (b := c) (c := d)
    have q2 : va_P D vwCl ((a ++ (b ++ d)) ++ c) H := by rw [show (a ++ (b ++ d)) ++ c = ((a ++ b) ++ d) ++ c by simp only [List.append_assoc]]; exact q1
    have q3 := q2.swap
    rw [show ((a ++ c) ++ b) ++ d = (a ++ c) ++ (b ++ d) by simp only [List.append_assoc]]; exact q3
  have k2 : va_D A (((a ++ c) ++ b) ++ d) := by
    have q1 := h2.swap (a := a ++ b) (b := c) (c := d)
    have q2 : va_D A ((a ++ (b ++ d)) ++ c) := by rw [show (a ++ (b ++ d)) ++ c = ((a ++ b) ++ d) ++ c by simp only [List.append_assoc]]; exact q1
    have q3 := q2.swap
    rw [show ((a ++ c) ++ b) ++ d = (a ++ c) ++ (b ++ d) by simp only [List.append_assoc]]; exact q3
  exact ⟨k1, k2, h3⟩
theorem Hw.p6 {x v1 r1 s1 v2 r2 s2 : va_W} (h : Hw D A s (x ++ (v1 ++ (r1 ++ (s1 ++ (v2 ++ (r2 ++ s2)))))) H locs) : Hw D A s (x ++ (v1 ++ (v2 ++ (r1 ++ (r2 ++ (s1 ++ s2)))))) H locs := by
  have q1 : Hw D A s ((x ++ (v1 ++ r1)) ++ (s1 ++ (v2 ++ (r2 ++ s2)))) H locs := by simp only [List.append_assoc]; exact h
  have q2 := q1.sw
  have q3 : Hw D A s ((x ++ v1) ++ (r1 ++ (v2 ++ (s1 ++ (r2 ++ s2))))) H locs := by simp only [List.append_assoc] at q2 ⊢; exact q2
  have q4 := q3.sw
  have q5 : Hw D A s ((x ++ (v1 ++ (v2 ++ r1))) ++ (s1 ++ (r2 ++ s2))) H locs := by simp only [List.append_assoc] at q4 ⊢; exact q4
  have q6 := q5.sw
  simp only [List.append_assoc] at q6
  exact q6
theorem Hw.q6 {x v1 r1 s1 v2 r2 s2 : va_W} (h : Hw D A s (x ++ (v1 ++ (v2 ++ (r1 ++ (r2 ++ (s1 ++ s2)))))) H locs) : Hw D A s (x ++ (v1 ++ (r1 ++ (s1 ++ (v2 ++ (r2 ++ s2)))))) H locs := by
  have q1 : Hw D A s ((x ++ v1) ++ (v2 ++ (r1 ++ (r2 ++ (s1 ++ s2))))) H locs := by simp only [List.append_assoc]; exact h
  have q2 := q1.sw
  have q3 : Hw D A s ((x ++ (v1 ++ (r1 ++ v2))) ++ (r2 ++ (s1 ++ s2))) H locs := by simp only [List.append_assoc] at q2 ⊢; exact q2
  have q4 := q3.sw
  have q5 : Hw D A s ((x ++ (v1 ++ r1)) ++ (v2 ++ (s1 ++ (r2 ++ s2)))) H locs := by simp only [List.append_assoc] at q4 ⊢; exact q4
  have q6 := q5.sw
  simp only [List.append_assoc] at q6
  exact q6
end HP
theorem hd_X3_join : yX3_join.cls ≠ "java/lang/invoke/MethodHandle" ∧ yX3_join.cls ≠ "java/lang/invoke/VarHandle" ∧ (parseMethodDescriptor yX3_join.desc).map (fun d => d.parameters.length) = some 2 := by decide +kernel
theorem fl_X3_join_10 : Cond.fieldLink RX3 10 (TX3 0).1 (TX3 0).2.1 (TX3 0).2.2.1 ∈ wsX3_join := by decide +kernel
theorem in_X3_join_3 : ∀ x ∈ u_ws RX3 TX3 2, x ∈ wsX3_join := by decide +kernel
theorem fl_X3_join_97 : Cond.fieldLink RX3 97 (TX2 6).1 (TX2 6).2.1 (TX2 6).2.2.1 ∈ wsX3_join := by decide +kernel
theorem in_X3_join_2 : ∀ x ∈ u_ws RX2 TX2 7, x ∈ wsX3_join := by decide +kernel
theorem fl_X3_join_126 : Cond.fieldLink RX3 126 (TX1 8).1 (TX1 8).2.1 (TX1 8).2.2.1 ∈ wsX3_join := by decide +kernel
theorem in_X3_join_1 : ∀ x ∈ u_ws RX1 TX1 9, x ∈ wsX3_join := by decide +kernel
theorem xk_X3_join_exI : Cond.classLink RX3 23 exI ∈ wsX3_join ∧ Cond.initialized exI ∈ wsX3_join := ⟨by decide +kernel, by decide +kernel⟩
theorem xa_X3_join_exI : ∀ x ∈ (vx_atS RX3 27 exI nms).filter goodWord, x ∈ wsX3_join := by decide +kernel
set_option maxRecDepth 100000 in
set_option maxHeartbeats 4000000 in
theorem c_X3_join {l : Launch} {D : va_G} {cI cL : ClassId} {a : Nat → Nat} (hst : l.stackTraces = false) (o : Nat) (S : VS) (qt : Nat → Int32) (qp : Nat → Int32) (T : VS) (qt2 : Nat → Int32) (qp2 : Nat → Int32) (x : Int32) (z : Int32) (hI : Inv S) (hR : Rep (vs S) (vq S) qt qp) : CtX l yX3_join wsX3_join { frames := 6, cells := 1, slots := 6, locals := 92 } D (ty2 cI cL) [.ref (a o), .int x, .int z] (wXo cI a o  ++ (wVo cI a (o + 1) (vh S) (vc S) (vA S 0) (vA S 1) (vA S 2) ++ (wR cI a ((o + 1) + 4) (vr S) (vA S 3) (vA S 4) (vA S 5) (vA S 6) ++ (wS cI a ((o + 1) + 9) (vs S) (vA S 7) (vA S 8) (vA S 9) (vA S 10) (vA S 11) (vA S 12) qt qp ++ (wVo cI a (o + 19) (vh T) (vc T) (vA T 0) (vA T 1) (vA T 2) ++ (wR cI a ((o + 19) + 4) (vr T) (vA T 3) (vA T 4) (vA T 5) (vA T 6) ++ (wS cI a ((o + 19) + 9) (vs T) (vA T 7) (vA T 8) (vA T 9) (vA T 10) (vA T 11) (vA T 12) qt2 qp2))))))) (fun v w' => ∃ (qt' : Nat → Int32) (qp' : Nat → Int32), Rep (vs (sJoin S x z)) (vq (sJoin S x z)) qt' qp' ∧ kJoin S x z = 0 ∧ v = some (.int (nI (takeQ (vq S) (natI x) (natI z)).length)) ∧ w' = wXo cI a o  ++ (wVo cI a (o + 1) (vh (sJoin S x z)) (vc (sJoin S x z)) (vA (sJoin S x z) 0) (vA (sJoin S x z) 1) (vA (sJoin S x z) 2) ++ (wR cI a ((o + 1) + 4) (vr (sJoin S x z)) (vA (sJoin S x z) 3) (vA (sJoin S x z) 4) (vA (sJoin S x z) 5) (vA (sJoin S x z) 6) ++ (wS cI a ((o + 1) + 9) (vs (sJoin S x z)) (vA (sJoin S x z) 7) (vA (sJoin S x z) 8) (vA (sJoin S x z) 9) (vA (sJoin S x z) 10) (vA (sJoin S x z) 11) (vA (sJoin S x z) 12) qt' qp' ++ (wVo cI a (o + 19) (vh T) (vc T) (vA T 0) (vA T 1) (vA T 2) ++ (wR cI a ((o + 19) + 4) (vr T) (vA T 3) (vA T 4) (vA T 5) (vA T 6) ++ (wS cI a ((o + 19) + 9) (vs T) (vA T 7) (vA T 8) (vA T 9) (vA T 10) (vA T 11) (vA T 12) qt2 qp2))))))) (fun E w' => ((E = exI ∧ kJoin S x z = 1)) ∧ w' = wXo cI a o  ++ (wVo cI a (o + 1) (vh S) (vc S) (vA S 0) (vA S 1) (vA S 2) ++ (wR cI a ((o + 1) + 4) (vr S) (vA S 3) (vA S 4) (vA S 5) (vA S 6) ++ (wS cI a ((o + 1) + 9) (vs S) (vA S 7) (vA S 8) (vA S 9) (vA S 10) (vA S 11) (vA S 12) qt qp ++ (wVo cI a (o + 19) (vh T) (vc T) (vA T 0) (vA T 1) (vA T 2) ++ (wR cI a ((o + 19) + 4) (vr T) (vA T 3) (vA T 4) (vA T 5) (vA T 6) ++ (wS cI a ((o + 19) + 9) (vs T) (vA T 7) (vA T 8) (vA T 9) (vA T 10) (vA T 11) (vA T 12) qt2 qp2))))))) := by
  refine CtX.of (cc := cX3_join) (maxL := 3) (ret := (some .int)) (by decide) rfl (Nat.le_of_ble_eq_true rfl) ?_
  intro p e s m below meth c A ls CX hext hZ HW hl
  obtain ⟨hx, hb, hml, hr, hown, hts, hK, hA, hlk⟩ := id CX
  have hl : lv_has ls 3 [(0, .ref (a o)), (1, .int x), (2, .int z)] := hl
  refine lv_aload_n hx hb dX3_join_0 rfl (lv_at hl 0 rfl) ?_
  refine g_get CX HW in_X3_join_3 0 0 rfl rfl (Nat.le_of_ble_eq_true rfl) fl_X3_join_10 rfl dX3_join_1 ?_
  refine g_get CX HW in_X3_join_2 1 6 rfl rfl (Nat.le_of_ble_eq_true rfl) fl_X3_join_97 rfl dX3_join_4 ?_
  refine lv_iload_n hx hb dX3_join_7 rfl (lv_at hl 1 rfl) ?_
  refine g_callV CX HW hl.1 (wXo cI a o  ++ (wVo cI a (o + 1) (vh S) (vc S) (vA S 0) (vA S 1) (vA S 2) ++ (wR cI a ((o + 1) + 4) (vr S) (vA S 3) (vA S 4) (vA S 5) (vA S 6)))) (wVo cI a (o + 19) (vh T) (vc T) (vA T 0) (vA T 1) (vA T 2) ++ (wR cI a ((o + 19) + 4) (vr T) (vA T 3) (vA T 4) (vA T 5) (vA T 6) ++ (wS cI a ((o + 19) + 9) (vs T) (vA T 7) (vA T 8) (vA T 9) (vA T 10) (vA T 11) (vA T 12) qt2 qp2))) (c_X1_has ((o + 1) + 9) (vs S) (vA S 7) (vA S 8) (vA S 9) (vA S 10) (vA S 11) (vA S 12) qt qp x) rfl 0 rfl rfl gX3_join_X1_has rfl ⟨rfl, hd_X1_has⟩ ⟨rfl, rfl, (Nat.le_of_ble_eq_true rfl), (Nat.le_of_ble_eq_true rfl)⟩ ⟨(Nat.zero_le _), (Nat.zero_le _)⟩ rfl rfl (Nat.le_of_ble_eq_true rfl) dX3_join_8 (fun v w1 H locs hp HW => ?_)
  obtain ⟨rfl, rfl⟩ := hp
  have HW : Hw D A s (wXo cI a o  ++ (wVo cI a (o + 1) (vh S) (vc S) (vA S 0) (vA S 1) (vA S 2) ++ (wR cI a ((o + 1) + 4) (vr S) (vA S 3) (vA S 4) (vA S 5) (vA S 6) ++ (wS cI a ((o + 1) + 9) (vs S) (vA S 7) (vA S 8) (vA S 9) (vA S 10) (vA S 11) (vA S 12) qt qp ++ (wVo cI a (o + 19) (vh T) (vc T) (vA T 0) (vA T 1) (vA T 2) ++ (wR cI a ((o + 19) + 4) (vr T) (vA T 3) (vA T 4) (vA T 5) (vA T 6) ++ (wS cI a ((o + 19) + 9) (vs T) (vA T 7) (vA T 8) (vA T 9) (vA T 10) (vA T 11) (vA T 12) qt2 qp2))))))) H locs := HW
  refine W.eq (g2 := F0 m 11 ls [.int (bI (0 ≤ x ∧ x < nI (vs S)))]) rfl ?_
  refine g_ifne_b (tgt := 24) hx hb dX3_join_11 (by decide) (fun c11 => ?_) (fun c11 => ?_)
  · have hn6 := hI.1
    have hn8 := hI.2.1
    obtain ⟨k, hk, rfl⟩ := has_nat (by omega) c11
    have ek : natI (nI k) = k := natI_nI (by omega)
    · refine lv_iload_n hx hb dX3_join_24 rfl (lv_at hl 2 rfl) ?_
      refine lv_iconst (v := 0) hx hb dX3_join_25 (by decide) ?_
      refine lv_iconst (v := 2) hx hb dX3_join_26 (by decide) ?_
      refine g_callS CX HW hl.1 ([]) (wXo cI a o  ++ (wVo cI a (o + 1) (vh S) (vc S) (vA S 0) (vA S 1) (vA S 2) ++ (wR cI a ((o + 1) + 4) (vr S) (vA S 3) (vA S 4) (vA S 5) (vA S 6) ++ (wS cI a ((o + 1) + 9) (vs S) (vA S 7) (vA S 8) (vA S 9) (vA S 10) (vA S 11) (vA S 12) qt qp ++ (wVo cI a (o + 19) (vh T) (vc T) (vA T 0) (vA T 1) (vA T 2) ++ (wR cI a ((o + 19) + 4) (vr T) (vA T 3) (vA T 4) (vA T 5) (vA T 6) ++ (wS cI a ((o + 19) + 9) (vs T) (vA T 7) (vA T 8) (vA T 9) (vA T 10) (vA T 11) (vA T 12) qt2 qp2))))))) (c_X3_isWithin z (0 : Int32) (2 : Int32)) rfl gX3_join_X3_isWithin rfl hd_X3_isWithin ⟨rfl, rfl, (Nat.le_of_ble_eq_true rfl), (Nat.le_of_ble_eq_true rfl)⟩ ⟨(Nat.zero_le _), (Nat.zero_le _)⟩ rfl rfl (Nat.le_of_ble_eq_true rfl) dX3_join_27 (fun v w1 H locs hp HW => ?_)
      obtain ⟨rfl, rfl⟩ := hp
      have HW : Hw D A s (wXo cI a o  ++ (wVo cI a (o + 1) (vh S) (vc S) (vA S 0) (vA S 1) (vA S 2) ++ (wR cI a ((o + 1) + 4) (vr S) (vA S 3) (vA S 4) (vA S 5) (vA S 6) ++ (wS cI a ((o + 1) + 9) (vs S) (vA S 7) (vA S 8) (vA S 9) (vA S 10) (vA S 11) (vA S 12) qt qp ++ (wVo cI a (o + 19) (vh T) (vc T) (vA T 0) (vA T 1) (vA T 2) ++ (wR cI a ((o + 19) + 4) (vr T) (vA T 3) (vA T 4) (vA T 5) (vA T 6) ++ (wS cI a ((o + 19) + 9) (vs T) (vA T 7) (vA T 8) (vA T 9) (vA T 10) (vA T 11) (vA T 12) qt2 qp2))))))) H locs := HW
      refine W.eq (g2 := F0 m 30 ls [.int (bI ((0 : Int32) ≤ z ∧ z ≤ (2 : Int32)))]) rfl ?_
      refine g_ifne_b (tgt := 43) hx hb dX3_join_30 (by decide) (fun c30 => ?_) (fun c30 => ?_)
      · obtain ⟨j, hj, rfl⟩ := wi_nat 2 (by decide) c30
        have ej : natI (nI j) = j := natI_nI (by omega)
        · refine lv_aload_n hx hb dX3_join_43 rfl (lv_at hl 0 rfl) ?_
          refine g_get CX HW in_X3_join_3 0 0 rfl rfl (Nat.le_of_ble_eq_true rfl) fl_X3_join_10 rfl dX3_join_44 ?_
          refine g_get CX HW in_X3_join_2 1 6 rfl rfl (Nat.le_of_ble_eq_true rfl) fl_X3_join_97 rfl dX3_join_47 ?_
          refine lv_iload_n hx hb dX3_join_50 rfl (lv_at hl 1 rfl) ?_
          refine g_callV CX HW hl.1 (wXo cI a o  ++ (wVo cI a (o + 1) (vh S) (vc S) (vA S 0) (vA S 1) (vA S 2) ++ (wR cI a ((o + 1) + 4) (vr S) (vA S 3) (vA S 4) (vA S 5) (vA S 6)))) (wVo cI a (o + 19) (vh T) (vc T) (vA T 0) (vA T 1) (vA T 2) ++ (wR cI a ((o + 19) + 4) (vr T) (vA T 3) (vA T 4) (vA T 5) (vA T 6) ++ (wS cI a ((o + 19) + 9) (vs T) (vA T 7) (vA T 8) (vA T 9) (vA T 10) (vA T 11) (vA T 12) qt2 qp2))) (c_X1_takeOutOfQueue ((o + 1) + 9) (vs S) (vA S 7) (vA S 8) (vA S 9) (vA S 10) (vA S 11) (vA S 12) qt qp k hn8 (by omega)) rfl 0 rfl rfl gX3_join_X1_takeOutOfQueue rfl ⟨rfl, hd_X1_takeOutOfQueue⟩ ⟨rfl, rfl, (Nat.le_of_ble_eq_true rfl), (Nat.le_of_ble_eq_true rfl)⟩ ⟨(Nat.zero_le _), (Nat.zero_le _)⟩ rfl rfl (Nat.le_of_ble_eq_true rfl) dX3_join_51 (fun v w1 H locs hp HW => ?_)
          obtain ⟨rfl, rfl⟩ := hp
          have HW : Hw D A s (wXo cI a o  ++ (wVo cI a (o + 1) (vh S) (vc S) (vA S 0) (vA S 1) (vA S 2) ++ (wR cI a ((o + 1) + 4) (vr S) (vA S 3) (vA S 4) (vA S 5) (vA S 6) ++ (wS cI a ((o + 1) + 9) (vs S) (vA S 7) (vA S 8) (vA S 9) (vA S 10) (vA S 11) (vA S 12) (tkT qt k) (tkQ (vs S) qt qp k) ++ (wVo cI a (o + 19) (vh T) (vc T) (vA T 0) (vA T 1) (vA T 2) ++ (wR cI a ((o + 19) + 4) (vr T) (vA T 3) (vA T 4) (vA T 5) (vA T 6) ++ (wS cI a ((o + 19) + 9) (vs T) (vA T 7) (vA T 8) (vA T 9) (vA T 10) (vA T 11) (vA T 12) qt2 qp2))))))) H locs := HW
          refine W.eq (g2 := F0 m 54 ls []) rfl ?_
          refine lv_aload_n hx hb dX3_join_54 rfl (lv_at hl 0 rfl) ?_
          refine g_get CX HW in_X3_join_3 0 0 rfl rfl (Nat.le_of_ble_eq_true rfl) fl_X3_join_10 rfl dX3_join_55 ?_
          refine g_get CX HW in_X3_join_2 1 6 rfl rfl (Nat.le_of_ble_eq_true rfl) fl_X3_join_97 rfl dX3_join_58 ?_
          refine lv_iload_n hx hb dX3_join_61 rfl (lv_at hl 1 rfl) ?_
          refine lv_iload_n hx hb dX3_join_62 rfl (lv_at hl 2 rfl) ?_
          refine g_callV CX HW hl.1 (wXo cI a o  ++ (wVo cI a (o + 1) (vh S) (vc S) (vA S 0) (vA S 1) (vA S 2) ++ (wR cI a ((o + 1) + 4) (vr S) (vA S 3) (vA S 4) (vA S 5) (vA S 6)))) (wVo cI a (o + 19) (vh T) (vc T) (vA T 0) (vA T 1) (vA T 2) ++ (wR cI a ((o + 19) + 4) (vr T) (vA T 3) (vA T 4) (vA T 5) (vA T 6) ++ (wS cI a ((o + 19) + 9) (vs T) (vA T 7) (vA T 8) (vA T 9) (vA T 10) (vA T 11) (vA T 12) qt2 qp2))) (c_X1_putAtEnd ((o + 1) + 9) (vs S) (vA S 7) (vA S 8) (vA S 9) (vA S 10) (vA S 11) (vA S 12) (tkT qt k) (tkQ (vs S) qt qp k) k (nI j) hn8 (by omega)) rfl 0 rfl rfl gX3_join_X1_putAtEnd rfl ⟨rfl, hd_X1_putAtEnd⟩ ⟨rfl, rfl, (Nat.le_of_ble_eq_true rfl), (Nat.le_of_ble_eq_true rfl)⟩ ⟨(Nat.zero_le _), (Nat.zero_le _)⟩ rfl rfl (Nat.le_of_ble_eq_true rfl) dX3_join_63 (fun v w1 H locs hp HW => ?_)
          obtain ⟨rfl, rfl⟩ := hp
          have HW : Hw D A s (wXo cI a o  ++ (wVo cI a (o + 1) (vh S) (vc S) (vA S 0) (vA S 1) (vA S 2) ++ (wR cI a ((o + 1) + 4) (vr S) (vA S 3) (vA S 4) (vA S 5) (vA S 6) ++ (wS cI a ((o + 1) + 9) (vs S) (vA S 7) (vA S 8) (vA S 9) (vA S 10) (vA S 11) (vA S 12) (upd (tkT qt k) k (nI j)) (upd (tkQ (vs S) qt qp k) k (nI (cntE (tkT qt k) (nI j) (vs S)))) ++ (wVo cI a (o + 19) (vh T) (vc T) (vA T 0) (vA T 1) (vA T 2) ++ (wR cI a ((o + 19) + 4) (vr T) (vA T 3) (vA T 4) (vA T 5) (vA T 6) ++ (wS cI a ((o + 19) + 9) (vs T) (vA T 7) (vA T 8) (vA T 9) (vA T 10) (vA T 11) (vA T 12) qt2 qp2))))))) H locs := HW
          refine W.eq (g2 := F0 m 66 ls []) rfl ?_
          refine lv_aload_n hx hb dX3_join_66 rfl (lv_at hl 0 rfl) ?_
          refine g_get CX HW in_X3_join_3 0 0 rfl rfl (Nat.le_of_ble_eq_true rfl) fl_X3_join_10 rfl dX3_join_67 ?_
          refine g_get CX HW in_X3_join_2 1 6 rfl rfl (Nat.le_of_ble_eq_true rfl) fl_X3_join_97 rfl dX3_join_70 ?_
          refine g_get CX HW in_X3_join_1 10 8 rfl rfl (Nat.le_of_ble_eq_true rfl) fl_X3_join_126 rfl dX3_join_73 ?_
          refine lv_iload_n hx hb dX3_join_76 rfl (lv_at hl 1 rfl) ?_
          refine g_ald CX HW 18 (k := k) rfl rfl rfl (by omega) (Nat.le_of_ble_eq_true rfl) dX3_join_77 ?_
          refine g_top (y := (nI (takeQ (vq S) k j).length)) (by rw [pk_us, (rep_takeQ hR hn8 hk).2.2 j (by omega)]) ?_
          exact gx_ret (Nat.le_of_ble_eq_true rfl) (Nat.le_of_ble_eq_true rfl) (g_iret CX HW rfl ⟨_, _, by show Rep (vs S) (setQ (takeQ (vq S) (natI (nI k))) (natI (nI j)) _) _ _; rw [ek, ej]; exact rep_put (rep_takeQ hR hn8 hk) hn8 (by omega) hk (tkT_k qt k), (by rw [kJoin]; rw [if_neg (fun h9 => h9 c11), if_neg (fun h9 => h9 c30)]), by rw [ek, ej], rfl⟩ dX3_join_78)
      · exact gx_throw CX hext hZ HW hl.1 hst (cls := exI) (text := "no such tow") (ik := 23) (is := 25) (ic := 27) (by decide +kernel) xk_X3_join_exI.1 xk_X3_join_exI.2 (by decide +kernel) xa_X3_join_exI xbad_27 xgood_27 dX3_join_33 dX3_join_36 dX3_join_37 dX3_join_39 dX3_join_42 (Nat.le_of_ble_eq_true rfl) (Nat.le_of_ble_eq_true rfl) (Nat.le_of_ble_eq_true rfl) (Nat.le_of_ble_eq_true rfl) (Nat.le_of_ble_eq_true rfl) (Nat.le_of_ble_eq_true rfl) (⟨⟨rfl, by rw [kJoin]; rw [if_neg (fun h9 => h9 c11), if_pos c30]⟩, rfl⟩)
  · exact gx_throw CX hext hZ HW hl.1 hst (cls := exI) (text := "no such skier") (ik := 23) (is := 108) (ic := 27) (by decide +kernel) xk_X3_join_exI.1 xk_X3_join_exI.2 (by decide +kernel) xa_X3_join_exI xbad_27 xgood_27 dX3_join_14 dX3_join_17 dX3_join_18 dX3_join_20 dX3_join_23 (Nat.le_of_ble_eq_true rfl) (Nat.le_of_ble_eq_true rfl) (Nat.le_of_ble_eq_true rfl) (Nat.le_of_ble_eq_true rfl) (Nat.le_of_ble_eq_true rfl) (Nat.le_of_ble_eq_true rfl) (⟨⟨rfl, by rw [kJoin]; rw [if_pos c11]⟩, rfl⟩)

theorem hd_X3_leave : yX3_leave.cls ≠ "java/lang/invoke/MethodHandle" ∧ yX3_leave.cls ≠ "java/lang/invoke/VarHandle" ∧ (parseMethodDescriptor yX3_leave.desc).map (fun d => d.parameters.length) = some 1 := by decide +kernel
theorem fl_X3_leave_10 : Cond.fieldLink RX3 10 (TX3 0).1 (TX3 0).2.1 (TX3 0).2.2.1 ∈ wsX3_leave := by decide +kernel
theorem in_X3_leave_3 : ∀ x ∈ u_ws RX3 TX3 2, x ∈ wsX3_leave := by decide +kernel
theorem fl_X3_leave_97 : Cond.fieldLink RX3 97 (TX2 6).1 (TX2 6).2.1 (TX2 6).2.2.1 ∈ wsX3_leave := by decide +kernel
theorem in_X3_leave_2 : ∀ x ∈ u_ws RX2 TX2 7, x ∈ wsX3_leave := by decide +kernel
theorem fl_X3_leave_129 : Cond.fieldLink RX3 129 (TX1 7).1 (TX1 7).2.1 (TX1 7).2.2.1 ∈ wsX3_leave := by decide +kernel
theorem in_X3_leave_1 : ∀ x ∈ u_ws RX1 TX1 9, x ∈ wsX3_leave := by decide +kernel
theorem xk_X3_leave_exI : Cond.classLink RX3 23 exI ∈ wsX3_leave ∧ Cond.initialized exI ∈ wsX3_leave := ⟨by decide +kernel, by decide +kernel⟩
theorem xa_X3_leave_exI : ∀ x ∈ (vx_atS RX3 27 exI nms).filter goodWord, x ∈ wsX3_leave := by decide +kernel
set_option maxRecDepth 100000 in
set_option maxHeartbeats 4000000 in
theorem c_X3_leave {l : Launch} {D : va_G} {cI cL : ClassId} {a : Nat → Nat} (hst : l.stackTraces = false) (o : Nat) (S : VS) (qt : Nat → Int32) (qp : Nat → Int32) (T : VS) (qt2 : Nat → Int32) (qp2 : Nat → Int32) (x : Int32) (hI : Inv S) (hR : Rep (vs S) (vq S) qt qp) : CtX l yX3_leave wsX3_leave { frames := 6, cells := 1, slots := 6, locals := 92 } D (ty2 cI cL) [.ref (a o), .int x] (wXo cI a o  ++ (wVo cI a (o + 1) (vh S) (vc S) (vA S 0) (vA S 1) (vA S 2) ++ (wR cI a ((o + 1) + 4) (vr S) (vA S 3) (vA S 4) (vA S 5) (vA S 6) ++ (wS cI a ((o + 1) + 9) (vs S) (vA S 7) (vA S 8) (vA S 9) (vA S 10) (vA S 11) (vA S 12) qt qp ++ (wVo cI a (o + 19) (vh T) (vc T) (vA T 0) (vA T 1) (vA T 2) ++ (wR cI a ((o + 19) + 4) (vr T) (vA T 3) (vA T 4) (vA T 5) (vA T 6) ++ (wS cI a ((o + 19) + 9) (vs T) (vA T 7) (vA T 8) (vA T 9) (vA T 10) (vA T 11) (vA T 12) qt2 qp2))))))) (fun v w' => ∃ (qt' : Nat → Int32) (qp' : Nat → Int32), Rep (vs (sLea S x)) (vq (sLea S x)) qt' qp' ∧ kLea S x = 0 ∧ v = some (.int (bI (inQ (vq S) (natI x)))) ∧ w' = wXo cI a o  ++ (wVo cI a (o + 1) (vh (sLea S x)) (vc (sLea S x)) (vA (sLea S x) 0) (vA (sLea S x) 1) (vA (sLea S x) 2) ++ (wR cI a ((o + 1) + 4) (vr (sLea S x)) (vA (sLea S x) 3) (vA (sLea S x) 4) (vA (sLea S x) 5) (vA (sLea S x) 6) ++ (wS cI a ((o + 1) + 9) (vs (sLea S x)) (vA (sLea S x) 7) (vA (sLea S x) 8) (vA (sLea S x) 9) (vA (sLea S x) 10) (vA (sLea S x) 11) (vA (sLea S x) 12) qt' qp' ++ (wVo cI a (o + 19) (vh T) (vc T) (vA T 0) (vA T 1) (vA T 2) ++ (wR cI a ((o + 19) + 4) (vr T) (vA T 3) (vA T 4) (vA T 5) (vA T 6) ++ (wS cI a ((o + 19) + 9) (vs T) (vA T 7) (vA T 8) (vA T 9) (vA T 10) (vA T 11) (vA T 12) qt2 qp2))))))) (fun E w' => ((E = exI ∧ kLea S x = 1)) ∧ w' = wXo cI a o  ++ (wVo cI a (o + 1) (vh S) (vc S) (vA S 0) (vA S 1) (vA S 2) ++ (wR cI a ((o + 1) + 4) (vr S) (vA S 3) (vA S 4) (vA S 5) (vA S 6) ++ (wS cI a ((o + 1) + 9) (vs S) (vA S 7) (vA S 8) (vA S 9) (vA S 10) (vA S 11) (vA S 12) qt qp ++ (wVo cI a (o + 19) (vh T) (vc T) (vA T 0) (vA T 1) (vA T 2) ++ (wR cI a ((o + 19) + 4) (vr T) (vA T 3) (vA T 4) (vA T 5) (vA T 6) ++ (wS cI a ((o + 19) + 9) (vs T) (vA T 7) (vA T 8) (vA T 9) (vA T 10) (vA T 11) (vA T 12) qt2 qp2))))))) := by
  refine CtX.of (cc := cX3_leave) (maxL := 3) (ret := (some .boolean)) (by decide) rfl (Nat.le_of_ble_eq_true rfl) ?_
  intro p e s m below meth c A ls CX hext hZ HW hl
  obtain ⟨hx, hb, hml, hr, hown, hts, hK, hA, hlk⟩ := id CX
  have hl : lv_has ls 3 [(0, .ref (a o)), (1, .int x)] := hl
  refine lv_aload_n hx hb dX3_leave_0 rfl (lv_at hl 0 rfl) ?_
  refine g_get CX HW in_X3_leave_3 0 0 rfl rfl (Nat.le_of_ble_eq_true rfl) fl_X3_leave_10 rfl dX3_leave_1 ?_
  refine g_get CX HW in_X3_leave_2 1 6 rfl rfl (Nat.le_of_ble_eq_true rfl) fl_X3_leave_97 rfl dX3_leave_4 ?_
  refine lv_iload_n hx hb dX3_leave_7 rfl (lv_at hl 1 rfl) ?_
  refine g_callV CX HW hl.1 (wXo cI a o  ++ (wVo cI a (o + 1) (vh S) (vc S) (vA S 0) (vA S 1) (vA S 2) ++ (wR cI a ((o + 1) + 4) (vr S) (vA S 3) (vA S 4) (vA S 5) (vA S 6)))) (wVo cI a (o + 19) (vh T) (vc T) (vA T 0) (vA T 1) (vA T 2) ++ (wR cI a ((o + 19) + 4) (vr T) (vA T 3) (vA T 4) (vA T 5) (vA T 6) ++ (wS cI a ((o + 19) + 9) (vs T) (vA T 7) (vA T 8) (vA T 9) (vA T 10) (vA T 11) (vA T 12) qt2 qp2))) (c_X1_has ((o + 1) + 9) (vs S) (vA S 7) (vA S 8) (vA S 9) (vA S 10) (vA S 11) (vA S 12) qt qp x) rfl 0 rfl rfl gX3_leave_X1_has rfl ⟨rfl, hd_X1_has⟩ ⟨rfl, rfl, (Nat.le_of_ble_eq_true rfl), (Nat.le_of_ble_eq_true rfl)⟩ ⟨(Nat.zero_le _), (Nat.zero_le _)⟩ rfl rfl (Nat.le_of_ble_eq_true rfl) dX3_leave_8 (fun v w1 H locs hp HW => ?_)
  obtain ⟨rfl, rfl⟩ := hp
  have HW : Hw D A s (wXo cI a o  ++ (wVo cI a (o + 1) (vh S) (vc S) (vA S 0) (vA S 1) (vA S 2) ++ (wR cI a ((o + 1) + 4) (vr S) (vA S 3) (vA S 4) (vA S 5) (vA S 6) ++ (wS cI a ((o + 1) + 9) (vs S) (vA S 7) (vA S 8) (vA S 9) (vA S 10) (vA S 11) (vA S 12) qt qp ++ (wVo cI a (o + 19) (vh T) (vc T) (vA T 0) (vA T 1) (vA T 2) ++ (wR cI a ((o + 19) + 4) (vr T) (vA T 3) (vA T 4) (vA T 5) (vA T 6) ++ (wS cI a ((o + 19) + 9) (vs T) (vA T 7) (vA T 8) (vA T 9) (vA T 10) (vA T 11) (vA T 12) qt2 qp2))))))) H locs := HW
  refine W.eq (g2 := F0 m 11 ls [.int (bI (0 ≤ x ∧ x < nI (vs S)))]) rfl ?_
  refine g_ifne_b (tgt := 24) hx hb dX3_leave_11 (by decide) (fun c11 => ?_) (fun c11 => ?_)
  · have hn6 := hI.1
    have hn8 := hI.2.1
    obtain ⟨k, hk, rfl⟩ := has_nat (by omega) c11
    have ek : natI (nI k) = k := natI_nI (by omega)
    · refine lv_aload_n hx hb dX3_leave_24 rfl (lv_at hl 0 rfl) ?_
      refine g_get CX HW in_X3_leave_3 0 0 rfl rfl (Nat.le_of_ble_eq_true rfl) fl_X3_leave_10 rfl dX3_leave_25 ?_
      refine g_get CX HW in_X3_leave_2 1 6 rfl rfl (Nat.le_of_ble_eq_true rfl) fl_X3_leave_97 rfl dX3_leave_28 ?_
      refine g_get CX HW in_X3_leave_1 10 7 rfl rfl (Nat.le_of_ble_eq_true rfl) fl_X3_leave_129 rfl dX3_leave_31 ?_
      refine lv_iload_n hx hb dX3_leave_34 rfl (lv_at hl 1 rfl) ?_
      refine g_ald CX HW 17 (k := k) rfl rfl rfl (by omega) (Nat.le_of_ble_eq_true rfl) dX3_leave_35 ?_
      refine lv_iconst (v := (-1)) hx hb dX3_leave_36 (by decide) ?_
      refine lv_icmp_eq (tgt := 44) hx hb dX3_leave_37 (by decide) (fun c37 => ?_) (fun c37 => ?_)
      · refine lv_iconst (v := 0) hx hb dX3_leave_44 (by decide) ?_
        refine lv_istore_n (lv' := [(2, .int (0 : Int32)), (0, .ref (a o)), (1, .int (nI k))]) hx hb dX3_leave_45 rfl hl (Nat.le_of_ble_eq_true rfl) rfl (fun ls hl => ?_)
        refine lv_aload_n hx hb dX3_leave_46 rfl (lv_at hl 1 rfl) ?_
        refine g_get CX HW in_X3_leave_3 0 0 rfl rfl (Nat.le_of_ble_eq_true rfl) fl_X3_leave_10 rfl dX3_leave_47 ?_
        refine g_get CX HW in_X3_leave_2 1 6 rfl rfl (Nat.le_of_ble_eq_true rfl) fl_X3_leave_97 rfl dX3_leave_50 ?_
        refine lv_iload_n hx hb dX3_leave_53 rfl (lv_at hl 2 rfl) ?_
        refine g_callV CX HW hl.1 (wXo cI a o  ++ (wVo cI a (o + 1) (vh S) (vc S) (vA S 0) (vA S 1) (vA S 2) ++ (wR cI a ((o + 1) + 4) (vr S) (vA S 3) (vA S 4) (vA S 5) (vA S 6)))) (wVo cI a (o + 19) (vh T) (vc T) (vA T 0) (vA T 1) (vA T 2) ++ (wR cI a ((o + 19) + 4) (vr T) (vA T 3) (vA T 4) (vA T 5) (vA T 6) ++ (wS cI a ((o + 19) + 9) (vs T) (vA T 7) (vA T 8) (vA T 9) (vA T 10) (vA T 11) (vA T 12) qt2 qp2))) (c_X1_takeOutOfQueue ((o + 1) + 9) (vs S) (vA S 7) (vA S 8) (vA S 9) (vA S 10) (vA S 11) (vA S 12) qt qp k hn8 (by omega)) rfl 0 rfl rfl gX3_leave_X1_takeOutOfQueue rfl ⟨rfl, hd_X1_takeOutOfQueue⟩ ⟨rfl, rfl, (Nat.le_of_ble_eq_true rfl), (Nat.le_of_ble_eq_true rfl)⟩ ⟨(Nat.zero_le _), (Nat.zero_le _)⟩ rfl rfl (Nat.le_of_ble_eq_true rfl) dX3_leave_54 (fun v w1 H locs hp HW => ?_)
        obtain ⟨rfl, rfl⟩ := hp
        have HW : Hw D A s (wXo cI a o  ++ (wVo cI a (o + 1) (vh S) (vc S) (vA S 0) (vA S 1) (vA S 2) ++ (wR cI a ((o + 1) + 4) (vr S) (vA S 3) (vA S 4) (vA S 5) (vA S 6) ++ (wS cI a ((o + 1) + 9) (vs S) (vA S 7) (vA S 8) (vA S 9) (vA S 10) (vA S 11) (vA S 12) (tkT qt k) (tkQ (vs S) qt qp k) ++ (wVo cI a (o + 19) (vh T) (vc T) (vA T 0) (vA T 1) (vA T 2) ++ (wR cI a ((o + 19) + 4) (vr T) (vA T 3) (vA T 4) (vA T 5) (vA T 6) ++ (wS cI a ((o + 19) + 9) (vs T) (vA T 7) (vA T 8) (vA T 9) (vA T 10) (vA T 11) (vA T 12) qt2 qp2))))))) H locs := HW
        refine W.eq (g2 := F0 m 57 ls []) rfl ?_
        refine lv_iload_n hx hb dX3_leave_57 rfl (lv_at hl 0 rfl) ?_
        exact gx_ret (Nat.le_of_ble_eq_true rfl) (Nat.le_of_ble_eq_true rfl) (g_zret CX HW rfl (Or.inl rfl) ⟨_, _, by show Rep (vs S) (takeQ (vq S) (natI (nI k))) _ _; rw [ek]; exact rep_takeQ hR hn8 hk, (by rw [kLea]; rw [if_neg (fun h9 => h9 c11)]), by rw [ek]; exact pI_f (fun h9 => (rep_inQ hR hn8 hk).mp h9 c37), rfl⟩ dX3_leave_58)
      · refine lv_iconst (v := 1) hx hb dX3_leave_40 (by decide) ?_
        refine lv_goto (tgt := 45) hx hb dX3_leave_41 (by decide) ?_
        refine lv_istore_n (lv' := [(2, .int (1 : Int32)), (0, .ref (a o)), (1, .int (nI k))]) hx hb dX3_leave_45 rfl hl (Nat.le_of_ble_eq_true rfl) rfl (fun ls hl => ?_)
        refine lv_aload_n hx hb dX3_leave_46 rfl (lv_at hl 1 rfl) ?_
        refine g_get CX HW in_X3_leave_3 0 0 rfl rfl (Nat.le_of_ble_eq_true rfl) fl_X3_leave_10 rfl dX3_leave_47 ?_
        refine g_get CX HW in_X3_leave_2 1 6 rfl rfl (Nat.le_of_ble_eq_true rfl) fl_X3_leave_97 rfl dX3_leave_50 ?_
        refine lv_iload_n hx hb dX3_leave_53 rfl (lv_at hl 2 rfl) ?_
        refine g_callV CX HW hl.1 (wXo cI a o  ++ (wVo cI a (o + 1) (vh S) (vc S) (vA S 0) (vA S 1) (vA S 2) ++ (wR cI a ((o + 1) + 4) (vr S) (vA S 3) (vA S 4) (vA S 5) (vA S 6)))) (wVo cI a (o + 19) (vh T) (vc T) (vA T 0) (vA T 1) (vA T 2) ++ (wR cI a ((o + 19) + 4) (vr T) (vA T 3) (vA T 4) (vA T 5) (vA T 6) ++ (wS cI a ((o + 19) + 9) (vs T) (vA T 7) (vA T 8) (vA T 9) (vA T 10) (vA T 11) (vA T 12) qt2 qp2))) (c_X1_takeOutOfQueue ((o + 1) + 9) (vs S) (vA S 7) (vA S 8) (vA S 9) (vA S 10) (vA S 11) (vA S 12) qt qp k hn8 (by omega)) rfl 0 rfl rfl gX3_leave_X1_takeOutOfQueue rfl ⟨rfl, hd_X1_takeOutOfQueue⟩ ⟨rfl, rfl, (Nat.le_of_ble_eq_true rfl), (Nat.le_of_ble_eq_true rfl)⟩ ⟨(Nat.zero_le _), (Nat.zero_le _)⟩ rfl rfl (Nat.le_of_ble_eq_true rfl) dX3_leave_54 (fun v w1 H locs hp HW => ?_)
        obtain ⟨rfl, rfl⟩ := hp
        have HW : Hw D A s (wXo cI a o  ++ (wVo cI a (o + 1) (vh S) (vc S) (vA S 0) (vA S 1) (vA S 2) ++ (wR cI a ((o + 1) + 4) (vr S) (vA S 3) (vA S 4) (vA S 5) (vA S 6) ++ (wS cI a ((o + 1) + 9) (vs S) (vA S 7) (vA S 8) (vA S 9) (vA S 10) (vA S 11) (vA S 12) (tkT qt k) (tkQ (vs S) qt qp k) ++ (wVo cI a (o + 19) (vh T) (vc T) (vA T 0) (vA T 1) (vA T 2) ++ (wR cI a ((o + 19) + 4) (vr T) (vA T 3) (vA T 4) (vA T 5) (vA T 6) ++ (wS cI a ((o + 19) + 9) (vs T) (vA T 7) (vA T 8) (vA T 9) (vA T 10) (vA T 11) (vA T 12) qt2 qp2))))))) H locs := HW
        refine W.eq (g2 := F0 m 57 ls []) rfl ?_
        refine lv_iload_n hx hb dX3_leave_57 rfl (lv_at hl 0 rfl) ?_
        exact gx_ret (Nat.le_of_ble_eq_true rfl) (Nat.le_of_ble_eq_true rfl) (g_zret CX HW rfl (Or.inr rfl) ⟨_, _, by show Rep (vs S) (takeQ (vq S) (natI (nI k))) _ _; rw [ek]; exact rep_takeQ hR hn8 hk, (by rw [kLea]; rw [if_neg (fun h9 => h9 c11)]), by rw [ek]; exact pI_t ((rep_inQ hR hn8 hk).mpr c37), rfl⟩ dX3_leave_58)
  · exact gx_throw CX hext hZ HW hl.1 hst (cls := exI) (text := "no such skier") (ik := 23) (is := 108) (ic := 27) (by decide +kernel) xk_X3_leave_exI.1 xk_X3_leave_exI.2 (by decide +kernel) xa_X3_leave_exI xbad_27 xgood_27 dX3_leave_14 dX3_leave_17 dX3_leave_18 dX3_leave_20 dX3_leave_23 (Nat.le_of_ble_eq_true rfl) (Nat.le_of_ble_eq_true rfl) (Nat.le_of_ble_eq_true rfl) (Nat.le_of_ble_eq_true rfl) (Nat.le_of_ble_eq_true rfl) (Nat.le_of_ble_eq_true rfl) (⟨⟨rfl, by rw [kLea]; rw [if_pos c11]⟩, rfl⟩)

theorem hd_X3_about : yX3_about.cls ≠ "java/lang/invoke/MethodHandle" ∧ yX3_about.cls ≠ "java/lang/invoke/VarHandle" ∧ (parseMethodDescriptor yX3_about.desc).map (fun d => d.parameters.length) = some 2 := by decide +kernel
theorem fl_X3_about_10 : Cond.fieldLink RX3 10 (TX3 0).1 (TX3 0).2.1 (TX3 0).2.2.1 ∈ wsX3_about := by decide +kernel
theorem in_X3_about_3 : ∀ x ∈ u_ws RX3 TX3 2, x ∈ wsX3_about := by decide +kernel
theorem fl_X3_about_35 : Cond.fieldLink RX3 35 (TX2 5).1 (TX2 5).2.1 (TX2 5).2.2.1 ∈ wsX3_about := by decide +kernel
theorem in_X3_about_2 : ∀ x ∈ u_ws RX2 TX2 7, x ∈ wsX3_about := by decide +kernel
theorem xk_X3_about_exI : Cond.classLink RX3 23 exI ∈ wsX3_about ∧ Cond.initialized exI ∈ wsX3_about := ⟨by decide +kernel, by decide +kernel⟩
theorem xa_X3_about_exI : ∀ x ∈ (vx_atS RX3 27 exI nms).filter goodWord, x ∈ wsX3_about := by decide +kernel
set_option maxRecDepth 100000 in
set_option maxHeartbeats 4000000 in
theorem c_X3_about {l : Launch} {D : va_G} {cI cL : ClassId} {a : Nat → Nat} (hst : l.stackTraces = false) (o : Nat) (S : VS) (qt : Nat → Int32) (qp : Nat → Int32) (T : VS) (qt2 : Nat → Int32) (qp2 : Nat → Int32) (x : Int32) (z : Int32) (hI : Inv S) (hR : Rep (vs S) (vq S) qt qp) : CtX l yX3_about wsX3_about { frames := 6, cells := 1, slots := 6, locals := 92 } D (ty2 cI cL) [.ref (a o), .int x, .int z] (wXo cI a o  ++ (wVo cI a (o + 1) (vh S) (vc S) (vA S 0) (vA S 1) (vA S 2) ++ (wR cI a ((o + 1) + 4) (vr S) (vA S 3) (vA S 4) (vA S 5) (vA S 6) ++ (wS cI a ((o + 1) + 9) (vs S) (vA S 7) (vA S 8) (vA S 9) (vA S 10) (vA S 11) (vA S 12) qt qp ++ (wVo cI a (o + 19) (vh T) (vc T) (vA T 0) (vA T 1) (vA T 2) ++ (wR cI a ((o + 19) + 4) (vr T) (vA T 3) (vA T 4) (vA T 5) (vA T 6) ++ (wS cI a ((o + 19) + 9) (vs T) (vA T 7) (vA T 8) (vA T 9) (vA T 10) (vA T 11) (vA T 12) qt2 qp2))))))) (fun v w' => kAbo S x z = 0 ∧ v = some (.int (figR (vA S 3) (vA S 4) (vA S 5) (vA S 6) (natI x) (natI z))) ∧ w' = wXo cI a o  ++ (wVo cI a (o + 1) (vh S) (vc S) (vA S 0) (vA S 1) (vA S 2) ++ (wR cI a ((o + 1) + 4) (vr S) (vA S 3) (vA S 4) (vA S 5) (vA S 6) ++ (wS cI a ((o + 1) + 9) (vs S) (vA S 7) (vA S 8) (vA S 9) (vA S 10) (vA S 11) (vA S 12) qt qp ++ (wVo cI a (o + 19) (vh T) (vc T) (vA T 0) (vA T 1) (vA T 2) ++ (wR cI a ((o + 19) + 4) (vr T) (vA T 3) (vA T 4) (vA T 5) (vA T 6) ++ (wS cI a ((o + 19) + 9) (vs T) (vA T 7) (vA T 8) (vA T 9) (vA T 10) (vA T 11) (vA T 12) qt2 qp2))))))) (fun E w' => ((E = exI ∧ kAbo S x z = 1)) ∧ w' = wXo cI a o  ++ (wVo cI a (o + 1) (vh S) (vc S) (vA S 0) (vA S 1) (vA S 2) ++ (wR cI a ((o + 1) + 4) (vr S) (vA S 3) (vA S 4) (vA S 5) (vA S 6) ++ (wS cI a ((o + 1) + 9) (vs S) (vA S 7) (vA S 8) (vA S 9) (vA S 10) (vA S 11) (vA S 12) qt qp ++ (wVo cI a (o + 19) (vh T) (vc T) (vA T 0) (vA T 1) (vA T 2) ++ (wR cI a ((o + 19) + 4) (vr T) (vA T 3) (vA T 4) (vA T 5) (vA T 6) ++ (wS cI a ((o + 19) + 9) (vs T) (vA T 7) (vA T 8) (vA T 9) (vA T 10) (vA T 11) (vA T 12) qt2 qp2))))))) := by
  refine CtX.of (cc := cX3_about) (maxL := 3) (ret := (some .int)) (by decide) rfl (Nat.le_of_ble_eq_true rfl) ?_
  intro p e s m below meth c A ls CX hext hZ HW hl
  obtain ⟨hx, hb, hml, hr, hown, hts, hK, hA, hlk⟩ := id CX
  have hl : lv_has ls 3 [(0, .ref (a o)), (1, .int x), (2, .int z)] := hl
  refine lv_aload_n hx hb dX3_about_0 rfl (lv_at hl 0 rfl) ?_
  refine g_get CX HW in_X3_about_3 0 0 rfl rfl (Nat.le_of_ble_eq_true rfl) fl_X3_about_10 rfl dX3_about_1 ?_
  refine g_get CX HW in_X3_about_2 1 5 rfl rfl (Nat.le_of_ble_eq_true rfl) fl_X3_about_35 rfl dX3_about_4 ?_
  refine lv_iload_n hx hb dX3_about_7 rfl (lv_at hl 1 rfl) ?_
  refine g_callV CX HW hl.1 (wXo cI a o  ++ (wVo cI a (o + 1) (vh S) (vc S) (vA S 0) (vA S 1) (vA S 2))) (wS cI a ((o + 1) + 9) (vs S) (vA S 7) (vA S 8) (vA S 9) (vA S 10) (vA S 11) (vA S 12) qt qp ++ (wVo cI a (o + 19) (vh T) (vc T) (vA T 0) (vA T 1) (vA T 2) ++ (wR cI a ((o + 19) + 4) (vr T) (vA T 3) (vA T 4) (vA T 5) (vA T 6) ++ (wS cI a ((o + 19) + 9) (vs T) (vA T 7) (vA T 8) (vA T 9) (vA T 10) (vA T 11) (vA T 12) qt2 qp2)))) (c_X0_has ((o + 1) + 4) (vr S) (vA S 3) (vA S 4) (vA S 5) (vA S 6) x) rfl 0 rfl rfl gX3_about_X0_has rfl ⟨rfl, hd_X0_has⟩ ⟨rfl, rfl, (Nat.le_of_ble_eq_true rfl), (Nat.le_of_ble_eq_true rfl)⟩ ⟨(Nat.zero_le _), (Nat.zero_le _)⟩ rfl rfl (Nat.le_of_ble_eq_true rfl) dX3_about_8 (fun v w1 H locs hp HW => ?_)
  obtain ⟨rfl, rfl⟩ := hp
  have HW : Hw D A s (wXo cI a o  ++ (wVo cI a (o + 1) (vh S) (vc S) (vA S 0) (vA S 1) (vA S 2) ++ (wR cI a ((o + 1) + 4) (vr S) (vA S 3) (vA S 4) (vA S 5) (vA S 6) ++ (wS cI a ((o + 1) + 9) (vs S) (vA S 7) (vA S 8) (vA S 9) (vA S 10) (vA S 11) (vA S 12) qt qp ++ (wVo cI a (o + 19) (vh T) (vc T) (vA T 0) (vA T 1) (vA T 2) ++ (wR cI a ((o + 19) + 4) (vr T) (vA T 3) (vA T 4) (vA T 5) (vA T 6) ++ (wS cI a ((o + 19) + 9) (vs T) (vA T 7) (vA T 8) (vA T 9) (vA T 10) (vA T 11) (vA T 12) qt2 qp2))))))) H locs := HW
  refine W.eq (g2 := F0 m 11 ls [.int (bI (0 ≤ x ∧ x < nI (vr S)))]) rfl ?_
  refine g_ifne_b (tgt := 24) hx hb dX3_about_11 (by decide) (fun c11 => ?_) (fun c11 => ?_)
  · have hn6 := hI.1
    have hn8 := hI.2.1
    obtain ⟨k, hk, rfl⟩ := has_nat (by omega) c11
    have ek : natI (nI k) = k := natI_nI (by omega)
    · refine lv_iload_n hx hb dX3_about_24 rfl (lv_at hl 2 rfl) ?_
      refine lv_iconst (v := 0) hx hb dX3_about_25 (by decide) ?_
      refine lv_iconst (v := 4) hx hb dX3_about_26 (by decide) ?_
      refine g_callS CX HW hl.1 ([]) (wXo cI a o  ++ (wVo cI a (o + 1) (vh S) (vc S) (vA S 0) (vA S 1) (vA S 2) ++ (wR cI a ((o + 1) + 4) (vr S) (vA S 3) (vA S 4) (vA S 5) (vA S 6) ++ (wS cI a ((o + 1) + 9) (vs S) (vA S 7) (vA S 8) (vA S 9) (vA S 10) (vA S 11) (vA S 12) qt qp ++ (wVo cI a (o + 19) (vh T) (vc T) (vA T 0) (vA T 1) (vA T 2) ++ (wR cI a ((o + 19) + 4) (vr T) (vA T 3) (vA T 4) (vA T 5) (vA T 6) ++ (wS cI a ((o + 19) + 9) (vs T) (vA T 7) (vA T 8) (vA T 9) (vA T 10) (vA T 11) (vA T 12) qt2 qp2))))))) (c_X3_isWithin z (0 : Int32) (4 : Int32)) rfl gX3_about_X3_isWithin rfl hd_X3_isWithin ⟨rfl, rfl, (Nat.le_of_ble_eq_true rfl), (Nat.le_of_ble_eq_true rfl)⟩ ⟨(Nat.zero_le _), (Nat.zero_le _)⟩ rfl rfl (Nat.le_of_ble_eq_true rfl) dX3_about_27 (fun v w1 H locs hp HW => ?_)
      obtain ⟨rfl, rfl⟩ := hp
      have HW : Hw D A s (wXo cI a o  ++ (wVo cI a (o + 1) (vh S) (vc S) (vA S 0) (vA S 1) (vA S 2) ++ (wR cI a ((o + 1) + 4) (vr S) (vA S 3) (vA S 4) (vA S 5) (vA S 6) ++ (wS cI a ((o + 1) + 9) (vs S) (vA S 7) (vA S 8) (vA S 9) (vA S 10) (vA S 11) (vA S 12) qt qp ++ (wVo cI a (o + 19) (vh T) (vc T) (vA T 0) (vA T 1) (vA T 2) ++ (wR cI a ((o + 19) + 4) (vr T) (vA T 3) (vA T 4) (vA T 5) (vA T 6) ++ (wS cI a ((o + 19) + 9) (vs T) (vA T 7) (vA T 8) (vA T 9) (vA T 10) (vA T 11) (vA T 12) qt2 qp2))))))) H locs := HW
      refine W.eq (g2 := F0 m 30 ls [.int (bI ((0 : Int32) ≤ z ∧ z ≤ (4 : Int32)))]) rfl ?_
      refine g_ifne_b (tgt := 43) hx hb dX3_about_30 (by decide) (fun c30 => ?_) (fun c30 => ?_)
      · obtain ⟨j, hj, rfl⟩ := wi_nat 4 (by decide) c30
        have ej : natI (nI j) = j := natI_nI (by omega)
        · refine lv_aload_n hx hb dX3_about_43 rfl (lv_at hl 0 rfl) ?_
          refine g_get CX HW in_X3_about_3 0 0 rfl rfl (Nat.le_of_ble_eq_true rfl) fl_X3_about_10 rfl dX3_about_44 ?_
          refine g_get CX HW in_X3_about_2 1 5 rfl rfl (Nat.le_of_ble_eq_true rfl) fl_X3_about_35 rfl dX3_about_47 ?_
          refine lv_iload_n hx hb dX3_about_50 rfl (lv_at hl 1 rfl) ?_
          refine lv_iload_n hx hb dX3_about_51 rfl (lv_at hl 2 rfl) ?_
          refine g_callV CX HW hl.1 (wXo cI a o  ++ (wVo cI a (o + 1) (vh S) (vc S) (vA S 0) (vA S 1) (vA S 2))) (wS cI a ((o + 1) + 9) (vs S) (vA S 7) (vA S 8) (vA S 9) (vA S 10) (vA S 11) (vA S 12) qt qp ++ (wVo cI a (o + 19) (vh T) (vc T) (vA T 0) (vA T 1) (vA T 2) ++ (wR cI a ((o + 19) + 4) (vr T) (vA T 3) (vA T 4) (vA T 5) (vA T 6) ++ (wS cI a ((o + 19) + 9) (vs T) (vA T 7) (vA T 8) (vA T 9) (vA T 10) (vA T 11) (vA T 12) qt2 qp2)))) (c_X0_figure ((o + 1) + 4) (vr S) (vA S 3) (vA S 4) (vA S 5) (vA S 6) k j (by omega) (by omega)) rfl 0 rfl rfl gX3_about_X0_figure rfl ⟨rfl, hd_X0_figure⟩ ⟨rfl, rfl, (Nat.le_of_ble_eq_true rfl), (Nat.le_of_ble_eq_true rfl)⟩ ⟨(Nat.zero_le _), (Nat.zero_le _)⟩ rfl rfl (Nat.le_of_ble_eq_true rfl) dX3_about_52 (fun v w1 H locs hp HW => ?_)
          obtain ⟨rfl, rfl⟩ := hp
          have HW : Hw D A s (wXo cI a o  ++ (wVo cI a (o + 1) (vh S) (vc S) (vA S 0) (vA S 1) (vA S 2) ++ (wR cI a ((o + 1) + 4) (vr S) (vA S 3) (vA S 4) (vA S 5) (vA S 6) ++ (wS cI a ((o + 1) + 9) (vs S) (vA S 7) (vA S 8) (vA S 9) (vA S 10) (vA S 11) (vA S 12) qt qp ++ (wVo cI a (o + 19) (vh T) (vc T) (vA T 0) (vA T 1) (vA T 2) ++ (wR cI a ((o + 19) + 4) (vr T) (vA T 3) (vA T 4) (vA T 5) (vA T 6) ++ (wS cI a ((o + 19) + 9) (vs T) (vA T 7) (vA T 8) (vA T 9) (vA T 10) (vA T 11) (vA T 12) qt2 qp2))))))) H locs := HW
          refine W.eq (g2 := F0 m 55 ls [.int (figR (vA S 3) (vA S 4) (vA S 5) (vA S 6) k j)]) rfl ?_
          exact gx_ret (Nat.le_of_ble_eq_true rfl) (Nat.le_of_ble_eq_true rfl) (g_iret CX HW rfl ⟨(by rw [kAbo]; rw [if_neg (fun h9 => h9 c11), if_neg (fun h9 => h9 c30)]), by rw [ek, ej], rfl⟩ dX3_about_55)
      · exact gx_throw CX hext hZ HW hl.1 hst (cls := exI) (text := "what is not 0 to 4") (ik := 23) (is := 132) (ic := 27) (by decide +kernel) xk_X3_about_exI.1 xk_X3_about_exI.2 (by decide +kernel) xa_X3_about_exI xbad_27 xgood_27 dX3_about_33 dX3_about_36 dX3_about_37 dX3_about_39 dX3_about_42 (Nat.le_of_ble_eq_true rfl) (Nat.le_of_ble_eq_true rfl) (Nat.le_of_ble_eq_true rfl) (Nat.le_of_ble_eq_true rfl) (Nat.le_of_ble_eq_true rfl) (Nat.le_of_ble_eq_true rfl) (⟨⟨rfl, by rw [kAbo]; rw [if_neg (fun h9 => h9 c11), if_pos c30]⟩, rfl⟩)
  · exact gx_throw CX hext hZ HW hl.1 hst (cls := exI) (text := "no such run") (ik := 23) (is := 71) (ic := 27) (by decide +kernel) xk_X3_about_exI.1 xk_X3_about_exI.2 (by decide +kernel) xa_X3_about_exI xbad_27 xgood_27 dX3_about_14 dX3_about_17 dX3_about_18 dX3_about_20 dX3_about_23 (Nat.le_of_ble_eq_true rfl) (Nat.le_of_ble_eq_true rfl) (Nat.le_of_ble_eq_true rfl) (Nat.le_of_ble_eq_true rfl) (Nat.le_of_ble_eq_true rfl) (Nat.le_of_ble_eq_true rfl) (⟨⟨rfl, by rw [kAbo]; rw [if_pos c11]⟩, rfl⟩)

theorem hd_X3_told : yX3_told.cls ≠ "java/lang/invoke/MethodHandle" ∧ yX3_told.cls ≠ "java/lang/invoke/VarHandle" ∧ (parseMethodDescriptor yX3_told.desc).map (fun d => d.parameters.length) = some 2 := by decide +kernel
theorem fl_X3_told_10 : Cond.fieldLink RX3 10 (TX3 0).1 (TX3 0).2.1 (TX3 0).2.2.1 ∈ wsX3_told := by decide +kernel
theorem in_X3_told_3 : ∀ x ∈ u_ws RX3 TX3 2, x ∈ wsX3_told := by decide +kernel
theorem fl_X3_told_97 : Cond.fieldLink RX3 97 (TX2 6).1 (TX2 6).2.1 (TX2 6).2.2.1 ∈ wsX3_told := by decide +kernel
theorem in_X3_told_2 : ∀ x ∈ u_ws RX2 TX2 7, x ∈ wsX3_told := by decide +kernel
theorem xk_X3_told_exI : Cond.classLink RX3 23 exI ∈ wsX3_told ∧ Cond.initialized exI ∈ wsX3_told := ⟨by decide +kernel, by decide +kernel⟩
theorem xa_X3_told_exI : ∀ x ∈ (vx_atS RX3 27 exI nms).filter goodWord, x ∈ wsX3_told := by decide +kernel
set_option maxRecDepth 100000 in
set_option maxHeartbeats 4000000 in
theorem c_X3_told {l : Launch} {D : va_G} {cI cL : ClassId} {a : Nat → Nat} (hst : l.stackTraces = false) (o : Nat) (S : VS) (qt : Nat → Int32) (qp : Nat → Int32) (T : VS) (qt2 : Nat → Int32) (qp2 : Nat → Int32) (x : Int32) (z : Int32) (hI : Inv S) (hR : Rep (vs S) (vq S) qt qp) : CtX l yX3_told wsX3_told { frames := 6, cells := 1, slots := 6, locals := 92 } D (ty2 cI cL) [.ref (a o), .int x, .int z] (wXo cI a o  ++ (wVo cI a (o + 1) (vh S) (vc S) (vA S 0) (vA S 1) (vA S 2) ++ (wR cI a ((o + 1) + 4) (vr S) (vA S 3) (vA S 4) (vA S 5) (vA S 6) ++ (wS cI a ((o + 1) + 9) (vs S) (vA S 7) (vA S 8) (vA S 9) (vA S 10) (vA S 11) (vA S 12) qt qp ++ (wVo cI a (o + 19) (vh T) (vc T) (vA T 0) (vA T 1) (vA T 2) ++ (wR cI a ((o + 19) + 4) (vr T) (vA T 3) (vA T 4) (vA T 5) (vA T 6) ++ (wS cI a ((o + 19) + 9) (vs T) (vA T 7) (vA T 8) (vA T 9) (vA T 10) (vA T 11) (vA T 12) qt2 qp2))))))) (fun v w' => kTol S x z = 0 ∧ v = some (.int (figS (vA S 7) (vA S 8) (vA S 9) (vA S 10) (vA S 11) (vA S 12) (towQ (vq S)) (natI x) (natI z))) ∧ w' = wXo cI a o  ++ (wVo cI a (o + 1) (vh S) (vc S) (vA S 0) (vA S 1) (vA S 2) ++ (wR cI a ((o + 1) + 4) (vr S) (vA S 3) (vA S 4) (vA S 5) (vA S 6) ++ (wS cI a ((o + 1) + 9) (vs S) (vA S 7) (vA S 8) (vA S 9) (vA S 10) (vA S 11) (vA S 12) qt qp ++ (wVo cI a (o + 19) (vh T) (vc T) (vA T 0) (vA T 1) (vA T 2) ++ (wR cI a ((o + 19) + 4) (vr T) (vA T 3) (vA T 4) (vA T 5) (vA T 6) ++ (wS cI a ((o + 19) + 9) (vs T) (vA T 7) (vA T 8) (vA T 9) (vA T 10) (vA T 11) (vA T 12) qt2 qp2))))))) (fun E w' => ((E = exI ∧ kTol S x z = 1)) ∧ w' = wXo cI a o  ++ (wVo cI a (o + 1) (vh S) (vc S) (vA S 0) (vA S 1) (vA S 2) ++ (wR cI a ((o + 1) + 4) (vr S) (vA S 3) (vA S 4) (vA S 5) (vA S 6) ++ (wS cI a ((o + 1) + 9) (vs S) (vA S 7) (vA S 8) (vA S 9) (vA S 10) (vA S 11) (vA S 12) qt qp ++ (wVo cI a (o + 19) (vh T) (vc T) (vA T 0) (vA T 1) (vA T 2) ++ (wR cI a ((o + 19) + 4) (vr T) (vA T 3) (vA T 4) (vA T 5) (vA T 6) ++ (wS cI a ((o + 19) + 9) (vs T) (vA T 7) (vA T 8) (vA T 9) (vA T 10) (vA T 11) (vA T 12) qt2 qp2))))))) := by
  refine CtX.of (cc := cX3_told) (maxL := 3) (ret := (some .int)) (by decide) rfl (Nat.le_of_ble_eq_true rfl) ?_
  intro p e s m below meth c A ls CX hext hZ HW hl
  obtain ⟨hx, hb, hml, hr, hown, hts, hK, hA, hlk⟩ := id CX
  have hl : lv_has ls 3 [(0, .ref (a o)), (1, .int x), (2, .int z)] := hl
  refine lv_aload_n hx hb dX3_told_0 rfl (lv_at hl 0 rfl) ?_
  refine g_get CX HW in_X3_told_3 0 0 rfl rfl (Nat.le_of_ble_eq_true rfl) fl_X3_told_10 rfl dX3_told_1 ?_
  refine g_get CX HW in_X3_told_2 1 6 rfl rfl (Nat.le_of_ble_eq_true rfl) fl_X3_told_97 rfl dX3_told_4 ?_
  refine lv_iload_n hx hb dX3_told_7 rfl (lv_at hl 1 rfl) ?_
  refine g_callV CX HW hl.1 (wXo cI a o  ++ (wVo cI a (o + 1) (vh S) (vc S) (vA S 0) (vA S 1) (vA S 2) ++ (wR cI a ((o + 1) + 4) (vr S) (vA S 3) (vA S 4) (vA S 5) (vA S 6)))) (wVo cI a (o + 19) (vh T) (vc T) (vA T 0) (vA T 1) (vA T 2) ++ (wR cI a ((o + 19) + 4) (vr T) (vA T 3) (vA T 4) (vA T 5) (vA T 6) ++ (wS cI a ((o + 19) + 9) (vs T) (vA T 7) (vA T 8) (vA T 9) (vA T 10) (vA T 11) (vA T 12) qt2 qp2))) (c_X1_has ((o + 1) + 9) (vs S) (vA S 7) (vA S 8) (vA S 9) (vA S 10) (vA S 11) (vA S 12) qt qp x) rfl 0 rfl rfl gX3_told_X1_has rfl ⟨rfl, hd_X1_has⟩ ⟨rfl, rfl, (Nat.le_of_ble_eq_true rfl), (Nat.le_of_ble_eq_true rfl)⟩ ⟨(Nat.zero_le _), (Nat.zero_le _)⟩ rfl rfl (Nat.le_of_ble_eq_true rfl) dX3_told_8 (fun v w1 H locs hp HW => ?_)
  obtain ⟨rfl, rfl⟩ := hp
  have HW : Hw D A s (wXo cI a o  ++ (wVo cI a (o + 1) (vh S) (vc S) (vA S 0) (vA S 1) (vA S 2) ++ (wR cI a ((o + 1) + 4) (vr S) (vA S 3) (vA S 4) (vA S 5) (vA S 6) ++ (wS cI a ((o + 1) + 9) (vs S) (vA S 7) (vA S 8) (vA S 9) (vA S 10) (vA S 11) (vA S 12) qt qp ++ (wVo cI a (o + 19) (vh T) (vc T) (vA T 0) (vA T 1) (vA T 2) ++ (wR cI a ((o + 19) + 4) (vr T) (vA T 3) (vA T 4) (vA T 5) (vA T 6) ++ (wS cI a ((o + 19) + 9) (vs T) (vA T 7) (vA T 8) (vA T 9) (vA T 10) (vA T 11) (vA T 12) qt2 qp2))))))) H locs := HW
  refine W.eq (g2 := F0 m 11 ls [.int (bI (0 ≤ x ∧ x < nI (vs S)))]) rfl ?_
  refine g_ifne_b (tgt := 24) hx hb dX3_told_11 (by decide) (fun c11 => ?_) (fun c11 => ?_)
  · have hn6 := hI.1
    have hn8 := hI.2.1
    obtain ⟨k, hk, rfl⟩ := has_nat (by omega) c11
    have ek : natI (nI k) = k := natI_nI (by omega)
    · refine lv_iload_n hx hb dX3_told_24 rfl (lv_at hl 2 rfl) ?_
      refine lv_iconst (v := 0) hx hb dX3_told_25 (by decide) ?_
      refine lv_bipush (v := 6) hx hb dX3_told_26 (by decide) ?_
      refine g_callS CX HW hl.1 ([]) (wXo cI a o  ++ (wVo cI a (o + 1) (vh S) (vc S) (vA S 0) (vA S 1) (vA S 2) ++ (wR cI a ((o + 1) + 4) (vr S) (vA S 3) (vA S 4) (vA S 5) (vA S 6) ++ (wS cI a ((o + 1) + 9) (vs S) (vA S 7) (vA S 8) (vA S 9) (vA S 10) (vA S 11) (vA S 12) qt qp ++ (wVo cI a (o + 19) (vh T) (vc T) (vA T 0) (vA T 1) (vA T 2) ++ (wR cI a ((o + 19) + 4) (vr T) (vA T 3) (vA T 4) (vA T 5) (vA T 6) ++ (wS cI a ((o + 19) + 9) (vs T) (vA T 7) (vA T 8) (vA T 9) (vA T 10) (vA T 11) (vA T 12) qt2 qp2))))))) (c_X3_isWithin z (0 : Int32) (6 : Int32)) rfl gX3_told_X3_isWithin rfl hd_X3_isWithin ⟨rfl, rfl, (Nat.le_of_ble_eq_true rfl), (Nat.le_of_ble_eq_true rfl)⟩ ⟨(Nat.zero_le _), (Nat.zero_le _)⟩ rfl rfl (Nat.le_of_ble_eq_true rfl) dX3_told_28 (fun v w1 H locs hp HW => ?_)
      obtain ⟨rfl, rfl⟩ := hp
      have HW : Hw D A s (wXo cI a o  ++ (wVo cI a (o + 1) (vh S) (vc S) (vA S 0) (vA S 1) (vA S 2) ++ (wR cI a ((o + 1) + 4) (vr S) (vA S 3) (vA S 4) (vA S 5) (vA S 6) ++ (wS cI a ((o + 1) + 9) (vs S) (vA S 7) (vA S 8) (vA S 9) (vA S 10) (vA S 11) (vA S 12) qt qp ++ (wVo cI a (o + 19) (vh T) (vc T) (vA T 0) (vA T 1) (vA T 2) ++ (wR cI a ((o + 19) + 4) (vr T) (vA T 3) (vA T 4) (vA T 5) (vA T 6) ++ (wS cI a ((o + 19) + 9) (vs T) (vA T 7) (vA T 8) (vA T 9) (vA T 10) (vA T 11) (vA T 12) qt2 qp2))))))) H locs := HW
      refine W.eq (g2 := F0 m 31 ls [.int (bI ((0 : Int32) ≤ z ∧ z ≤ (6 : Int32)))]) rfl ?_
      refine g_ifne_b (tgt := 44) hx hb dX3_told_31 (by decide) (fun c31 => ?_) (fun c31 => ?_)
      · obtain ⟨j, hj, rfl⟩ := wi_nat 6 (by decide) c31
        have ej : natI (nI j) = j := natI_nI (by omega)
        · refine lv_aload_n hx hb dX3_told_44 rfl (lv_at hl 0 rfl) ?_
          refine g_get CX HW in_X3_told_3 0 0 rfl rfl (Nat.le_of_ble_eq_true rfl) fl_X3_told_10 rfl dX3_told_45 ?_
          refine g_get CX HW in_X3_told_2 1 6 rfl rfl (Nat.le_of_ble_eq_true rfl) fl_X3_told_97 rfl dX3_told_48 ?_
          refine lv_iload_n hx hb dX3_told_51 rfl (lv_at hl 1 rfl) ?_
          refine lv_iload_n hx hb dX3_told_52 rfl (lv_at hl 2 rfl) ?_
          refine g_callV CX HW hl.1 (wXo cI a o  ++ (wVo cI a (o + 1) (vh S) (vc S) (vA S 0) (vA S 1) (vA S 2) ++ (wR cI a ((o + 1) + 4) (vr S) (vA S 3) (vA S 4) (vA S 5) (vA S 6)))) (wVo cI a (o + 19) (vh T) (vc T) (vA T 0) (vA T 1) (vA T 2) ++ (wR cI a ((o + 19) + 4) (vr T) (vA T 3) (vA T 4) (vA T 5) (vA T 6) ++ (wS cI a ((o + 19) + 9) (vs T) (vA T 7) (vA T 8) (vA T 9) (vA T 10) (vA T 11) (vA T 12) qt2 qp2))) (c_X1_figure ((o + 1) + 9) (vs S) (vA S 7) (vA S 8) (vA S 9) (vA S 10) (vA S 11) (vA S 12) qt qp k j (by omega) (by omega)) rfl 0 rfl rfl gX3_told_X1_figure rfl ⟨rfl, hd_X1_figure⟩ ⟨rfl, rfl, (Nat.le_of_ble_eq_true rfl), (Nat.le_of_ble_eq_true rfl)⟩ ⟨(Nat.zero_le _), (Nat.zero_le _)⟩ rfl rfl (Nat.le_of_ble_eq_true rfl) dX3_told_53 (fun v w1 H locs hp HW => ?_)
          obtain ⟨rfl, rfl⟩ := hp
          have HW : Hw D A s (wXo cI a o  ++ (wVo cI a (o + 1) (vh S) (vc S) (vA S 0) (vA S 1) (vA S 2) ++ (wR cI a ((o + 1) + 4) (vr S) (vA S 3) (vA S 4) (vA S 5) (vA S 6) ++ (wS cI a ((o + 1) + 9) (vs S) (vA S 7) (vA S 8) (vA S 9) (vA S 10) (vA S 11) (vA S 12) qt qp ++ (wVo cI a (o + 19) (vh T) (vc T) (vA T 0) (vA T 1) (vA T 2) ++ (wR cI a ((o + 19) + 4) (vr T) (vA T 3) (vA T 4) (vA T 5) (vA T 6) ++ (wS cI a ((o + 19) + 9) (vs T) (vA T 7) (vA T 8) (vA T 9) (vA T 10) (vA T 11) (vA T 12) qt2 qp2))))))) H locs := HW
          refine W.eq (g2 := F0 m 56 ls [.int (figS (vA S 7) (vA S 8) (vA S 9) (vA S 10) (vA S 11) (vA S 12) qt k j)]) rfl ?_
          refine g_top (y := (figS (vA S 7) (vA S 8) (vA S 9) (vA S 10) (vA S 11) (vA S 12) (towQ (vq S)) k j)) (figS_qt (rep_towQ hR hn8 hk)) ?_
          exact gx_ret (Nat.le_of_ble_eq_true rfl) (Nat.le_of_ble_eq_true rfl) (g_iret CX HW rfl ⟨(by rw [kTol]; rw [if_neg (fun h9 => h9 c11), if_neg (fun h9 => h9 c31)]), by rw [ek, ej], rfl⟩ dX3_told_56)
      · exact gx_throw CX hext hZ HW hl.1 hst (cls := exI) (text := "what is not 0 to 6") (ik := 23) (is := 137) (ic := 27) (by decide +kernel) xk_X3_told_exI.1 xk_X3_told_exI.2 (by decide +kernel) xa_X3_told_exI xbad_27 xgood_27 dX3_told_34 dX3_told_37 dX3_told_38 dX3_told_40 dX3_told_43 (Nat.le_of_ble_eq_true rfl) (Nat.le_of_ble_eq_true rfl) (Nat.le_of_ble_eq_true rfl) (Nat.le_of_ble_eq_true rfl) (Nat.le_of_ble_eq_true rfl) (Nat.le_of_ble_eq_true rfl) (⟨⟨rfl, by rw [kTol]; rw [if_neg (fun h9 => h9 c11), if_pos c31]⟩, rfl⟩)
  · exact gx_throw CX hext hZ HW hl.1 hst (cls := exI) (text := "no such skier") (ik := 23) (is := 108) (ic := 27) (by decide +kernel) xk_X3_told_exI.1 xk_X3_told_exI.2 (by decide +kernel) xa_X3_told_exI xbad_27 xgood_27 dX3_told_14 dX3_told_17 dX3_told_18 dX3_told_20 dX3_told_23 (Nat.le_of_ble_eq_true rfl) (Nat.le_of_ble_eq_true rfl) (Nat.le_of_ble_eq_true rfl) (Nat.le_of_ble_eq_true rfl) (Nat.le_of_ble_eq_true rfl) (Nat.le_of_ble_eq_true rfl) (⟨⟨rfl, by rw [kTol]; rw [if_pos c11]⟩, rfl⟩)

theorem hd_X3_tow : yX3_tow.cls ≠ "java/lang/invoke/MethodHandle" ∧ yX3_tow.cls ≠ "java/lang/invoke/VarHandle" ∧ (parseMethodDescriptor yX3_tow.desc).map (fun d => d.parameters.length) = some 2 := by decide +kernel
theorem fl_X3_tow_10 : Cond.fieldLink RX3 10 (TX3 0).1 (TX3 0).2.1 (TX3 0).2.2.1 ∈ wsX3_tow := by decide +kernel
theorem in_X3_tow_3 : ∀ x ∈ u_ws RX3 TX3 2, x ∈ wsX3_tow := by decide +kernel
theorem xk_X3_tow_exI : Cond.classLink RX3 23 exI ∈ wsX3_tow ∧ Cond.initialized exI ∈ wsX3_tow := ⟨by decide +kernel, by decide +kernel⟩
theorem xa_X3_tow_exI : ∀ x ∈ (vx_atS RX3 27 exI nms).filter goodWord, x ∈ wsX3_tow := by decide +kernel
set_option maxRecDepth 100000 in
set_option maxHeartbeats 4000000 in
theorem c_X3_tow {l : Launch} {D : va_G} {cI cL : ClassId} {a : Nat → Nat} (hst : l.stackTraces = false) (o : Nat) (S : VS) (qt : Nat → Int32) (qp : Nat → Int32) (T : VS) (qt2 : Nat → Int32) (qp2 : Nat → Int32) (x : Int32) (z : Int32) (hI : Inv S) (hR : Rep (vs S) (vq S) qt qp) : CtX l yX3_tow wsX3_tow { frames := 6, cells := 1, slots := 6, locals := 92 } D (ty2 cI cL) [.ref (a o), .int x, .int z] (wXo cI a o  ++ (wVo cI a (o + 1) (vh S) (vc S) (vA S 0) (vA S 1) (vA S 2) ++ (wR cI a ((o + 1) + 4) (vr S) (vA S 3) (vA S 4) (vA S 5) (vA S 6) ++ (wS cI a ((o + 1) + 9) (vs S) (vA S 7) (vA S 8) (vA S 9) (vA S 10) (vA S 11) (vA S 12) qt qp ++ (wVo cI a (o + 19) (vh T) (vc T) (vA T 0) (vA T 1) (vA T 2) ++ (wR cI a ((o + 19) + 4) (vr T) (vA T 3) (vA T 4) (vA T 5) (vA T 6) ++ (wS cI a ((o + 19) + 9) (vs T) (vA T 7) (vA T 8) (vA T 9) (vA T 10) (vA T 11) (vA T 12) qt2 qp2))))))) (fun v w' => kTow x z = 0 ∧ v = some (.int (figT S (natI x) (natI z))) ∧ w' = wXo cI a o  ++ (wVo cI a (o + 1) (vh S) (vc S) (vA S 0) (vA S 1) (vA S 2) ++ (wR cI a ((o + 1) + 4) (vr S) (vA S 3) (vA S 4) (vA S 5) (vA S 6) ++ (wS cI a ((o + 1) + 9) (vs S) (vA S 7) (vA S 8) (vA S 9) (vA S 10) (vA S 11) (vA S 12) qt qp ++ (wVo cI a (o + 19) (vh T) (vc T) (vA T 0) (vA T 1) (vA T 2) ++ (wR cI a ((o + 19) + 4) (vr T) (vA T 3) (vA T 4) (vA T 5) (vA T 6) ++ (wS cI a ((o + 19) + 9) (vs T) (vA T 7) (vA T 8) (vA T 9) (vA T 10) (vA T 11) (vA T 12) qt2 qp2))))))) (fun E w' => ((E = exI ∧ kTow x z = 1)) ∧ w' = wXo cI a o  ++ (wVo cI a (o + 1) (vh S) (vc S) (vA S 0) (vA S 1) (vA S 2) ++ (wR cI a ((o + 1) + 4) (vr S) (vA S 3) (vA S 4) (vA S 5) (vA S 6) ++ (wS cI a ((o + 1) + 9) (vs S) (vA S 7) (vA S 8) (vA S 9) (vA S 10) (vA S 11) (vA S 12) qt qp ++ (wVo cI a (o + 19) (vh T) (vc T) (vA T 0) (vA T 1) (vA T 2) ++ (wR cI a ((o + 19) + 4) (vr T) (vA T 3) (vA T 4) (vA T 5) (vA T 6) ++ (wS cI a ((o + 19) + 9) (vs T) (vA T 7) (vA T 8) (vA T 9) (vA T 10) (vA T 11) (vA T 12) qt2 qp2))))))) := by
  refine CtX.of (cc := cX3_tow) (maxL := 3) (ret := (some .int)) (by decide) rfl (Nat.le_of_ble_eq_true rfl) ?_
  intro p e s m below meth c A ls CX hext hZ HW hl
  obtain ⟨hx, hb, hml, hr, hown, hts, hK, hA, hlk⟩ := id CX
  have hl : lv_has ls 3 [(0, .ref (a o)), (1, .int x), (2, .int z)] := hl
  refine lv_iload_n hx hb dX3_tow_0 rfl (lv_at hl 1 rfl) ?_
  refine lv_iconst (v := 0) hx hb dX3_tow_1 (by decide) ?_
  refine lv_iconst (v := 2) hx hb dX3_tow_2 (by decide) ?_
  refine g_callS CX HW hl.1 ([]) (wXo cI a o  ++ (wVo cI a (o + 1) (vh S) (vc S) (vA S 0) (vA S 1) (vA S 2) ++ (wR cI a ((o + 1) + 4) (vr S) (vA S 3) (vA S 4) (vA S 5) (vA S 6) ++ (wS cI a ((o + 1) + 9) (vs S) (vA S 7) (vA S 8) (vA S 9) (vA S 10) (vA S 11) (vA S 12) qt qp ++ (wVo cI a (o + 19) (vh T) (vc T) (vA T 0) (vA T 1) (vA T 2) ++ (wR cI a ((o + 19) + 4) (vr T) (vA T 3) (vA T 4) (vA T 5) (vA T 6) ++ (wS cI a ((o + 19) + 9) (vs T) (vA T 7) (vA T 8) (vA T 9) (vA T 10) (vA T 11) (vA T 12) qt2 qp2))))))) (c_X3_isWithin x (0 : Int32) (2 : Int32)) rfl gX3_tow_X3_isWithin rfl hd_X3_isWithin ⟨rfl, rfl, (Nat.le_of_ble_eq_true rfl), (Nat.le_of_ble_eq_true rfl)⟩ ⟨(Nat.zero_le _), (Nat.zero_le _)⟩ rfl rfl (Nat.le_of_ble_eq_true rfl) dX3_tow_3 (fun v w1 H locs hp HW => ?_)
  obtain ⟨rfl, rfl⟩ := hp
  have HW : Hw D A s (wXo cI a o  ++ (wVo cI a (o + 1) (vh S) (vc S) (vA S 0) (vA S 1) (vA S 2) ++ (wR cI a ((o + 1) + 4) (vr S) (vA S 3) (vA S 4) (vA S 5) (vA S 6) ++ (wS cI a ((o + 1) + 9) (vs S) (vA S 7) (vA S 8) (vA S 9) (vA S 10) (vA S 11) (vA S 12) qt qp ++ (wVo cI a (o + 19) (vh T) (vc T) (vA T 0) (vA T 1) (vA T 2) ++ (wR cI a ((o + 19) + 4) (vr T) (vA T 3) (vA T 4) (vA T 5) (vA T 6) ++ (wS cI a ((o + 19) + 9) (vs T) (vA T 7) (vA T 8) (vA T 9) (vA T 10) (vA T 11) (vA T 12) qt2 qp2))))))) H locs := HW
  refine W.eq (g2 := F0 m 6 ls [.int (bI ((0 : Int32) ≤ x ∧ x ≤ (2 : Int32)))]) rfl ?_
  refine g_ifne_b (tgt := 19) hx hb dX3_tow_6 (by decide) (fun c6 => ?_) (fun c6 => ?_)
  · obtain ⟨k, hk, rfl⟩ := wi_nat 2 (by decide) c6
    have ek : natI (nI k) = k := natI_nI (by omega)
    · refine lv_iload_n hx hb dX3_tow_19 rfl (lv_at hl 2 rfl) ?_
      refine lv_iconst (v := 0) hx hb dX3_tow_20 (by decide) ?_
      refine lv_iconst (v := 2) hx hb dX3_tow_21 (by decide) ?_
      refine g_callS CX HW hl.1 ([]) (wXo cI a o  ++ (wVo cI a (o + 1) (vh S) (vc S) (vA S 0) (vA S 1) (vA S 2) ++ (wR cI a ((o + 1) + 4) (vr S) (vA S 3) (vA S 4) (vA S 5) (vA S 6) ++ (wS cI a ((o + 1) + 9) (vs S) (vA S 7) (vA S 8) (vA S 9) (vA S 10) (vA S 11) (vA S 12) qt qp ++ (wVo cI a (o + 19) (vh T) (vc T) (vA T 0) (vA T 1) (vA T 2) ++ (wR cI a ((o + 19) + 4) (vr T) (vA T 3) (vA T 4) (vA T 5) (vA T 6) ++ (wS cI a ((o + 19) + 9) (vs T) (vA T 7) (vA T 8) (vA T 9) (vA T 10) (vA T 11) (vA T 12) qt2 qp2))))))) (c_X3_isWithin z (0 : Int32) (2 : Int32)) rfl gX3_tow_X3_isWithin rfl hd_X3_isWithin ⟨rfl, rfl, (Nat.le_of_ble_eq_true rfl), (Nat.le_of_ble_eq_true rfl)⟩ ⟨(Nat.zero_le _), (Nat.zero_le _)⟩ rfl rfl (Nat.le_of_ble_eq_true rfl) dX3_tow_22 (fun v w1 H locs hp HW => ?_)
      obtain ⟨rfl, rfl⟩ := hp
      have HW : Hw D A s (wXo cI a o  ++ (wVo cI a (o + 1) (vh S) (vc S) (vA S 0) (vA S 1) (vA S 2) ++ (wR cI a ((o + 1) + 4) (vr S) (vA S 3) (vA S 4) (vA S 5) (vA S 6) ++ (wS cI a ((o + 1) + 9) (vs S) (vA S 7) (vA S 8) (vA S 9) (vA S 10) (vA S 11) (vA S 12) qt qp ++ (wVo cI a (o + 19) (vh T) (vc T) (vA T 0) (vA T 1) (vA T 2) ++ (wR cI a ((o + 19) + 4) (vr T) (vA T 3) (vA T 4) (vA T 5) (vA T 6) ++ (wS cI a ((o + 19) + 9) (vs T) (vA T 7) (vA T 8) (vA T 9) (vA T 10) (vA T 11) (vA T 12) qt2 qp2))))))) H locs := HW
      refine W.eq (g2 := F0 m 25 ls [.int (bI ((0 : Int32) ≤ z ∧ z ≤ (2 : Int32)))]) rfl ?_
      refine g_ifne_b (tgt := 38) hx hb dX3_tow_25 (by decide) (fun c25 => ?_) (fun c25 => ?_)
      · obtain ⟨j, hj, rfl⟩ := wi_nat 2 (by decide) c25
        have ej : natI (nI j) = j := natI_nI (by omega)
        · refine lv_aload_n hx hb dX3_tow_38 rfl (lv_at hl 0 rfl) ?_
          refine g_get CX HW in_X3_tow_3 0 0 rfl rfl (Nat.le_of_ble_eq_true rfl) fl_X3_tow_10 rfl dX3_tow_39 ?_
          refine lv_iload_n hx hb dX3_tow_42 rfl (lv_at hl 1 rfl) ?_
          refine lv_iload_n hx hb dX3_tow_43 rfl (lv_at hl 2 rfl) ?_
          refine g_callV CX HW hl.1 (wXo cI a o ) (wVo cI a (o + 19) (vh T) (vc T) (vA T 0) (vA T 1) (vA T 2) ++ (wR cI a ((o + 19) + 4) (vr T) (vA T 3) (vA T 4) (vA T 5) (vA T 6) ++ (wS cI a ((o + 19) + 9) (vs T) (vA T 7) (vA T 8) (vA T 9) (vA T 10) (vA T 11) (vA T 12) qt2 qp2))) (c_X2_towFigure (o + 1) S qt qp k j hR hI.2.1 (by omega) (by omega)) rfl 0 rfl rfl gX3_tow_X2_towFigure rfl ⟨rfl, hd_X2_towFigure⟩ ⟨rfl, rfl, (Nat.le_of_ble_eq_true rfl), (Nat.le_of_ble_eq_true rfl)⟩ ⟨(Nat.zero_le _), (Nat.zero_le _)⟩ rfl rfl (Nat.le_of_ble_eq_true rfl) dX3_tow_44 (fun v w1 H locs hp HW => ?_)
          obtain ⟨rfl, rfl⟩ := hp
          have HW : Hw D A s (wXo cI a o  ++ (wVo cI a (o + 1) (vh S) (vc S) (vA S 0) (vA S 1) (vA S 2) ++ (wR cI a ((o + 1) + 4) (vr S) (vA S 3) (vA S 4) (vA S 5) (vA S 6) ++ (wS cI a ((o + 1) + 9) (vs S) (vA S 7) (vA S 8) (vA S 9) (vA S 10) (vA S 11) (vA S 12) qt qp ++ (wVo cI a (o + 19) (vh T) (vc T) (vA T 0) (vA T 1) (vA T 2) ++ (wR cI a ((o + 19) + 4) (vr T) (vA T 3) (vA T 4) (vA T 5) (vA T 6) ++ (wS cI a ((o + 19) + 9) (vs T) (vA T 7) (vA T 8) (vA T 9) (vA T 10) (vA T 11) (vA T 12) qt2 qp2))))))) H locs := HW
          refine W.eq (g2 := F0 m 47 ls [.int (figT S k j)]) rfl ?_
          exact gx_ret (Nat.le_of_ble_eq_true rfl) (Nat.le_of_ble_eq_true rfl) (g_iret CX HW rfl ⟨(by rw [kTow]; rw [if_neg (fun h9 => h9 c6), if_neg (fun h9 => h9 c25)]), by rw [ek, ej], rfl⟩ dX3_tow_47)
      · exact gx_throw CX hext hZ HW hl.1 hst (cls := exI) (text := "what is not 0 to 2") (ik := 23) (is := 140) (ic := 27) (by decide +kernel) xk_X3_tow_exI.1 xk_X3_tow_exI.2 (by decide +kernel) xa_X3_tow_exI xbad_27 xgood_27 dX3_tow_28 dX3_tow_31 dX3_tow_32 dX3_tow_34 dX3_tow_37 (Nat.le_of_ble_eq_true rfl) (Nat.le_of_ble_eq_true rfl) (Nat.le_of_ble_eq_true rfl) (Nat.le_of_ble_eq_true rfl) (Nat.le_of_ble_eq_true rfl) (Nat.le_of_ble_eq_true rfl) (⟨⟨rfl, by rw [kTow]; rw [if_neg (fun h9 => h9 c6), if_pos c25]⟩, rfl⟩)
  · exact gx_throw CX hext hZ HW hl.1 hst (cls := exI) (text := "no such tow") (ik := 23) (is := 25) (ic := 27) (by decide +kernel) xk_X3_tow_exI.1 xk_X3_tow_exI.2 (by decide +kernel) xa_X3_tow_exI xbad_27 xgood_27 dX3_tow_9 dX3_tow_12 dX3_tow_13 dX3_tow_15 dX3_tow_18 (Nat.le_of_ble_eq_true rfl) (Nat.le_of_ble_eq_true rfl) (Nat.le_of_ble_eq_true rfl) (Nat.le_of_ble_eq_true rfl) (Nat.le_of_ble_eq_true rfl) (Nat.le_of_ble_eq_true rfl) (⟨⟨rfl, by rw [kTow]; rw [if_pos c6]⟩, rfl⟩)

theorem hd_X3_stands : yX3_stands.cls ≠ "java/lang/invoke/MethodHandle" ∧ yX3_stands.cls ≠ "java/lang/invoke/VarHandle" ∧ (parseMethodDescriptor yX3_stands.desc).map (fun d => d.parameters.length) = some 2 := by decide +kernel
theorem fl_X3_stands_10 : Cond.fieldLink RX3 10 (TX3 0).1 (TX3 0).2.1 (TX3 0).2.2.1 ∈ wsX3_stands := by decide +kernel
theorem in_X3_stands_3 : ∀ x ∈ u_ws RX3 TX3 2, x ∈ wsX3_stands := by decide +kernel
theorem fl_X3_stands_97 : Cond.fieldLink RX3 97 (TX2 6).1 (TX2 6).2.1 (TX2 6).2.2.1 ∈ wsX3_stands := by decide +kernel
theorem in_X3_stands_2 : ∀ x ∈ u_ws RX2 TX2 7, x ∈ wsX3_stands := by decide +kernel
theorem xk_X3_stands_exI : Cond.classLink RX3 23 exI ∈ wsX3_stands ∧ Cond.initialized exI ∈ wsX3_stands := ⟨by decide +kernel, by decide +kernel⟩
theorem xa_X3_stands_exI : ∀ x ∈ (vx_atS RX3 27 exI nms).filter goodWord, x ∈ wsX3_stands := by decide +kernel
set_option maxRecDepth 100000 in
set_option maxHeartbeats 4000000 in
theorem c_X3_stands {l : Launch} {D : va_G} {cI cL : ClassId} {a : Nat → Nat} (hst : l.stackTraces = false) (o : Nat) (S : VS) (qt : Nat → Int32) (qp : Nat → Int32) (T : VS) (qt2 : Nat → Int32) (qp2 : Nat → Int32) (x : Int32) (z : Int32) (hI : Inv S) (hR : Rep (vs S) (vq S) qt qp) : CtX l yX3_stands wsX3_stands { frames := 6, cells := 1, slots := 6, locals := 92 } D (ty2 cI cL) [.ref (a o), .int x, .int z] (wXo cI a o  ++ (wVo cI a (o + 1) (vh S) (vc S) (vA S 0) (vA S 1) (vA S 2) ++ (wR cI a ((o + 1) + 4) (vr S) (vA S 3) (vA S 4) (vA S 5) (vA S 6) ++ (wS cI a ((o + 1) + 9) (vs S) (vA S 7) (vA S 8) (vA S 9) (vA S 10) (vA S 11) (vA S 12) qt qp ++ (wVo cI a (o + 19) (vh T) (vc T) (vA T 0) (vA T 1) (vA T 2) ++ (wR cI a ((o + 19) + 4) (vr T) (vA T 3) (vA T 4) (vA T 5) (vA T 6) ++ (wS cI a ((o + 19) + 9) (vs T) (vA T 7) (vA T 8) (vA T 9) (vA T 10) (vA T 11) (vA T 12) qt2 qp2))))))) (fun v w' => kSta S x z = 0 ∧ v = some (.int (oI (standQ (vq S) (natI x) z))) ∧ w' = wXo cI a o  ++ (wVo cI a (o + 1) (vh S) (vc S) (vA S 0) (vA S 1) (vA S 2) ++ (wR cI a ((o + 1) + 4) (vr S) (vA S 3) (vA S 4) (vA S 5) (vA S 6) ++ (wS cI a ((o + 1) + 9) (vs S) (vA S 7) (vA S 8) (vA S 9) (vA S 10) (vA S 11) (vA S 12) qt qp ++ (wVo cI a (o + 19) (vh T) (vc T) (vA T 0) (vA T 1) (vA T 2) ++ (wR cI a ((o + 19) + 4) (vr T) (vA T 3) (vA T 4) (vA T 5) (vA T 6) ++ (wS cI a ((o + 19) + 9) (vs T) (vA T 7) (vA T 8) (vA T 9) (vA T 10) (vA T 11) (vA T 12) qt2 qp2))))))) (fun E w' => ((E = exI ∧ kSta S x z = 1)) ∧ w' = wXo cI a o  ++ (wVo cI a (o + 1) (vh S) (vc S) (vA S 0) (vA S 1) (vA S 2) ++ (wR cI a ((o + 1) + 4) (vr S) (vA S 3) (vA S 4) (vA S 5) (vA S 6) ++ (wS cI a ((o + 1) + 9) (vs S) (vA S 7) (vA S 8) (vA S 9) (vA S 10) (vA S 11) (vA S 12) qt qp ++ (wVo cI a (o + 19) (vh T) (vc T) (vA T 0) (vA T 1) (vA T 2) ++ (wR cI a ((o + 19) + 4) (vr T) (vA T 3) (vA T 4) (vA T 5) (vA T 6) ++ (wS cI a ((o + 19) + 9) (vs T) (vA T 7) (vA T 8) (vA T 9) (vA T 10) (vA T 11) (vA T 12) qt2 qp2))))))) := by
  refine CtX.of (cc := cX3_stands) (maxL := 4) (ret := (some .int)) (by decide) rfl (Nat.le_of_ble_eq_true rfl) ?_
  intro p e s m below meth c A ls CX hext hZ HW hl
  obtain ⟨hx, hb, hml, hr, hown, hts, hK, hA, hlk⟩ := id CX
  have hl : lv_has ls 4 [(0, .ref (a o)), (1, .int x), (2, .int z)] := hl
  refine lv_iload_n hx hb dX3_stands_0 rfl (lv_at hl 1 rfl) ?_
  refine lv_iconst (v := 0) hx hb dX3_stands_1 (by decide) ?_
  refine lv_iconst (v := 2) hx hb dX3_stands_2 (by decide) ?_
  refine g_callS CX HW hl.1 ([]) (wXo cI a o  ++ (wVo cI a (o + 1) (vh S) (vc S) (vA S 0) (vA S 1) (vA S 2) ++ (wR cI a ((o + 1) + 4) (vr S) (vA S 3) (vA S 4) (vA S 5) (vA S 6) ++ (wS cI a ((o + 1) + 9) (vs S) (vA S 7) (vA S 8) (vA S 9) (vA S 10) (vA S 11) (vA S 12) qt qp ++ (wVo cI a (o + 19) (vh T) (vc T) (vA T 0) (vA T 1) (vA T 2) ++ (wR cI a ((o + 19) + 4) (vr T) (vA T 3) (vA T 4) (vA T 5) (vA T 6) ++ (wS cI a ((o + 19) + 9) (vs T) (vA T 7) (vA T 8) (vA T 9) (vA T 10) (vA T 11) (vA T 12) qt2 qp2))))))) (c_X3_isWithin x (0 : Int32) (2 : Int32)) rfl gX3_stands_X3_isWithin rfl hd_X3_isWithin ⟨rfl, rfl, (Nat.le_of_ble_eq_true rfl), (Nat.le_of_ble_eq_true rfl)⟩ ⟨(Nat.zero_le _), (Nat.zero_le _)⟩ rfl rfl (Nat.le_of_ble_eq_true rfl) dX3_stands_3 (fun v w1 H locs hp HW => ?_)
  obtain ⟨rfl, rfl⟩ := hp
  have HW : Hw D A s (wXo cI a o  ++ (wVo cI a (o + 1) (vh S) (vc S) (vA S 0) (vA S 1) (vA S 2) ++ (wR cI a ((o + 1) + 4) (vr S) (vA S 3) (vA S 4) (vA S 5) (vA S 6) ++ (wS cI a ((o + 1) + 9) (vs S) (vA S 7) (vA S 8) (vA S 9) (vA S 10) (vA S 11) (vA S 12) qt qp ++ (wVo cI a (o + 19) (vh T) (vc T) (vA T 0) (vA T 1) (vA T 2) ++ (wR cI a ((o + 19) + 4) (vr T) (vA T 3) (vA T 4) (vA T 5) (vA T 6) ++ (wS cI a ((o + 19) + 9) (vs T) (vA T 7) (vA T 8) (vA T 9) (vA T 10) (vA T 11) (vA T 12) qt2 qp2))))))) H locs := HW
  refine W.eq (g2 := F0 m 6 ls [.int (bI ((0 : Int32) ≤ x ∧ x ≤ (2 : Int32)))]) rfl ?_
  refine g_ifne_b (tgt := 19) hx hb dX3_stands_6 (by decide) (fun c6 => ?_) (fun c6 => ?_)
  · obtain ⟨k, hk, rfl⟩ := wi_nat 2 (by decide) c6
    have ek : natI (nI k) = k := natI_nI (by omega)
    · refine lv_aload_n hx hb dX3_stands_19 rfl (lv_at hl 0 rfl) ?_
      refine g_get CX HW in_X3_stands_3 0 0 rfl rfl (Nat.le_of_ble_eq_true rfl) fl_X3_stands_10 rfl dX3_stands_20 ?_
      refine g_get CX HW in_X3_stands_2 1 6 rfl rfl (Nat.le_of_ble_eq_true rfl) fl_X3_stands_97 rfl dX3_stands_23 ?_
      refine lv_iload_n hx hb dX3_stands_26 rfl (lv_at hl 1 rfl) ?_
      refine lv_iload_n hx hb dX3_stands_27 rfl (lv_at hl 2 rfl) ?_
      refine g_callV CX HW hl.1 (wXo cI a o  ++ (wVo cI a (o + 1) (vh S) (vc S) (vA S 0) (vA S 1) (vA S 2) ++ (wR cI a ((o + 1) + 4) (vr S) (vA S 3) (vA S 4) (vA S 5) (vA S 6)))) (wVo cI a (o + 19) (vh T) (vc T) (vA T 0) (vA T 1) (vA T 2) ++ (wR cI a ((o + 19) + 4) (vr T) (vA T 3) (vA T 4) (vA T 5) (vA T 6) ++ (wS cI a ((o + 19) + 9) (vs T) (vA T 7) (vA T 8) (vA T 9) (vA T 10) (vA T 11) (vA T 12) qt2 qp2))) (c_X1_at ((o + 1) + 9) (vs S) (vA S 7) (vA S 8) (vA S 9) (vA S 10) (vA S 11) (vA S 12) qt qp (nI k) z hI.2.1) rfl 0 rfl rfl gX3_stands_X1_at rfl ⟨rfl, hd_X1_at⟩ ⟨rfl, rfl, (Nat.le_of_ble_eq_true rfl), (Nat.le_of_ble_eq_true rfl)⟩ ⟨(Nat.zero_le _), (Nat.zero_le _)⟩ rfl rfl (Nat.le_of_ble_eq_true rfl) dX3_stands_28 (fun v w1 H locs hp HW => ?_)
      obtain ⟨rfl, rfl⟩ := hp
      have HW : Hw D A s (wXo cI a o  ++ (wVo cI a (o + 1) (vh S) (vc S) (vA S 0) (vA S 1) (vA S 2) ++ (wR cI a ((o + 1) + 4) (vr S) (vA S 3) (vA S 4) (vA S 5) (vA S 6) ++ (wS cI a ((o + 1) + 9) (vs S) (vA S 7) (vA S 8) (vA S 9) (vA S 10) (vA S 11) (vA S 12) qt qp ++ (wVo cI a (o + 19) (vh T) (vc T) (vA T 0) (vA T 1) (vA T 2) ++ (wR cI a ((o + 19) + 4) (vr T) (vA T 3) (vA T 4) (vA T 5) (vA T 6) ++ (wS cI a ((o + 19) + 9) (vs T) (vA T 7) (vA T 8) (vA T 9) (vA T 10) (vA T 11) (vA T 12) qt2 qp2))))))) H locs := HW
      refine W.eq (g2 := F0 m 31 ls [.int (oI (fnd qt qp (nI k) z (vs S)))]) rfl ?_
      refine g_top (y := (oI (standQ (vq S) k z))) (by rw [rep_stand hR hI.2.1 (by omega)]) ?_
      refine lv_istore_n (lv' := [(3, .int (oI (standQ (vq S) k z))), (0, .ref (a o)), (1, .int (nI k)), (2, .int z)]) hx hb dX3_stands_31 rfl hl (Nat.le_of_ble_eq_true rfl) rfl (fun ls hl => ?_)
      refine lv_iload_n hx hb dX3_stands_32 rfl (lv_at hl 0 rfl) ?_
      refine lv_iconst (v := (-1)) hx hb dX3_stands_33 (by decide) ?_
      refine lv_icmp_ne (tgt := 47) hx hb dX3_stands_34 (by decide) (fun c34 => ?_) (fun c34 => ?_)
      · have c34 : ¬ standQ (vq S) k z = none := fun h9 => c34 (by rw [h9]; rfl)
        refine lv_iload_n hx hb dX3_stands_47 rfl (lv_at hl 0 rfl) ?_
        exact gx_ret (Nat.le_of_ble_eq_true rfl) (Nat.le_of_ble_eq_true rfl) (g_iret CX HW rfl ⟨(by rw [kSta, ek]; rw [if_neg (fun h9 => h9 c6), if_neg c34]), by rw [ek], rfl⟩ dX3_stands_48)
      · have c34 : standQ (vq S) k z = none := oI_none c34 (fun y hy => by have h8 := hI.2.1; have h9 := standQ_lt hR (by omega) hy; omega)
        exact gx_throw CX hext hZ HW hl.1 hst (cls := exI) (text := "nobody stands there") (ik := 23) (is := 148) (ic := 27) (by decide +kernel) xk_X3_stands_exI.1 xk_X3_stands_exI.2 (by decide +kernel) xa_X3_stands_exI xbad_27 xgood_27 dX3_stands_37 dX3_stands_40 dX3_stands_41 dX3_stands_43 dX3_stands_46 (Nat.le_of_ble_eq_true rfl) (Nat.le_of_ble_eq_true rfl) (Nat.le_of_ble_eq_true rfl) (Nat.le_of_ble_eq_true rfl) (Nat.le_of_ble_eq_true rfl) (Nat.le_of_ble_eq_true rfl) (⟨⟨rfl, by rw [kSta, ek]; rw [if_neg (fun h9 => h9 c6), if_pos c34]⟩, rfl⟩)
  · exact gx_throw CX hext hZ HW hl.1 hst (cls := exI) (text := "no such tow") (ik := 23) (is := 25) (ic := 27) (by decide +kernel) xk_X3_stands_exI.1 xk_X3_stands_exI.2 (by decide +kernel) xa_X3_stands_exI xbad_27 xgood_27 dX3_stands_9 dX3_stands_12 dX3_stands_13 dX3_stands_15 dX3_stands_18 (Nat.le_of_ble_eq_true rfl) (Nat.le_of_ble_eq_true rfl) (Nat.le_of_ble_eq_true rfl) (Nat.le_of_ble_eq_true rfl) (Nat.le_of_ble_eq_true rfl) (Nat.le_of_ble_eq_true rfl) (⟨⟨rfl, by rw [kSta]; rw [if_pos c6]⟩, rfl⟩)

theorem hd_X3_choice : yX3_choice.cls ≠ "java/lang/invoke/MethodHandle" ∧ yX3_choice.cls ≠ "java/lang/invoke/VarHandle" ∧ (parseMethodDescriptor yX3_choice.desc).map (fun d => d.parameters.length) = some 2 := by decide +kernel
theorem fl_X3_choice_10 : Cond.fieldLink RX3 10 (TX3 0).1 (TX3 0).2.1 (TX3 0).2.2.1 ∈ wsX3_choice := by decide +kernel
theorem in_X3_choice_3 : ∀ x ∈ u_ws RX3 TX3 2, x ∈ wsX3_choice := by decide +kernel
theorem fl_X3_choice_97 : Cond.fieldLink RX3 97 (TX2 6).1 (TX2 6).2.1 (TX2 6).2.2.1 ∈ wsX3_choice := by decide +kernel
theorem in_X3_choice_2 : ∀ x ∈ u_ws RX2 TX2 7, x ∈ wsX3_choice := by decide +kernel
theorem xk_X3_choice_exI : Cond.classLink RX3 23 exI ∈ wsX3_choice ∧ Cond.initialized exI ∈ wsX3_choice := ⟨by decide +kernel, by decide +kernel⟩
theorem xa_X3_choice_exI : ∀ x ∈ (vx_atS RX3 27 exI nms).filter goodWord, x ∈ wsX3_choice := by decide +kernel
set_option maxRecDepth 100000 in
set_option maxHeartbeats 4000000 in
theorem c_X3_choice {l : Launch} {D : va_G} {cI cL : ClassId} {a : Nat → Nat} (hst : l.stackTraces = false) (o : Nat) (S : VS) (qt : Nat → Int32) (qp : Nat → Int32) (T : VS) (qt2 : Nat → Int32) (qp2 : Nat → Int32) (x : Int32) (z : Int32) (hI : Inv S) (hR : Rep (vs S) (vq S) qt qp) : CtX l yX3_choice wsX3_choice { frames := 6, cells := 1, slots := 6, locals := 92 } D (ty2 cI cL) [.ref (a o), .int x, .int z] (wXo cI a o  ++ (wVo cI a (o + 1) (vh S) (vc S) (vA S 0) (vA S 1) (vA S 2) ++ (wR cI a ((o + 1) + 4) (vr S) (vA S 3) (vA S 4) (vA S 5) (vA S 6) ++ (wS cI a ((o + 1) + 9) (vs S) (vA S 7) (vA S 8) (vA S 9) (vA S 10) (vA S 11) (vA S 12) qt qp ++ (wVo cI a (o + 19) (vh T) (vc T) (vA T 0) (vA T 1) (vA T 2) ++ (wR cI a ((o + 19) + 4) (vr T) (vA T 3) (vA T 4) (vA T 5) (vA T 6) ++ (wS cI a ((o + 19) + 9) (vs T) (vA T 7) (vA T 8) (vA T 9) (vA T 10) (vA T 11) (vA T 12) qt2 qp2))))))) (fun v w' => kJoin S x z = 0 ∧ v = some (.int (oI (bestR (vA S 3) (vA S 4) (vA S 5) z (vA S 7 (natI x) + 1) (vr S)))) ∧ w' = wXo cI a o  ++ (wVo cI a (o + 1) (vh S) (vc S) (vA S 0) (vA S 1) (vA S 2) ++ (wR cI a ((o + 1) + 4) (vr S) (vA S 3) (vA S 4) (vA S 5) (vA S 6) ++ (wS cI a ((o + 1) + 9) (vs S) (vA S 7) (vA S 8) (vA S 9) (vA S 10) (vA S 11) (vA S 12) qt qp ++ (wVo cI a (o + 19) (vh T) (vc T) (vA T 0) (vA T 1) (vA T 2) ++ (wR cI a ((o + 19) + 4) (vr T) (vA T 3) (vA T 4) (vA T 5) (vA T 6) ++ (wS cI a ((o + 19) + 9) (vs T) (vA T 7) (vA T 8) (vA T 9) (vA T 10) (vA T 11) (vA T 12) qt2 qp2))))))) (fun E w' => ((E = exI ∧ kJoin S x z = 1)) ∧ w' = wXo cI a o  ++ (wVo cI a (o + 1) (vh S) (vc S) (vA S 0) (vA S 1) (vA S 2) ++ (wR cI a ((o + 1) + 4) (vr S) (vA S 3) (vA S 4) (vA S 5) (vA S 6) ++ (wS cI a ((o + 1) + 9) (vs S) (vA S 7) (vA S 8) (vA S 9) (vA S 10) (vA S 11) (vA S 12) qt qp ++ (wVo cI a (o + 19) (vh T) (vc T) (vA T 0) (vA T 1) (vA T 2) ++ (wR cI a ((o + 19) + 4) (vr T) (vA T 3) (vA T 4) (vA T 5) (vA T 6) ++ (wS cI a ((o + 19) + 9) (vs T) (vA T 7) (vA T 8) (vA T 9) (vA T 10) (vA T 11) (vA T 12) qt2 qp2))))))) := by
  refine CtX.of (cc := cX3_choice) (maxL := 3) (ret := (some .int)) (by decide) rfl (Nat.le_of_ble_eq_true rfl) ?_
  intro p e s m below meth c A ls CX hext hZ HW hl
  obtain ⟨hx, hb, hml, hr, hown, hts, hK, hA, hlk⟩ := id CX
  have hl : lv_has ls 3 [(0, .ref (a o)), (1, .int x), (2, .int z)] := hl
  refine lv_aload_n hx hb dX3_choice_0 rfl (lv_at hl 0 rfl) ?_
  refine g_get CX HW in_X3_choice_3 0 0 rfl rfl (Nat.le_of_ble_eq_true rfl) fl_X3_choice_10 rfl dX3_choice_1 ?_
  refine g_get CX HW in_X3_choice_2 1 6 rfl rfl (Nat.le_of_ble_eq_true rfl) fl_X3_choice_97 rfl dX3_choice_4 ?_
  refine lv_iload_n hx hb dX3_choice_7 rfl (lv_at hl 1 rfl) ?_
  refine g_callV CX HW hl.1 (wXo cI a o  ++ (wVo cI a (o + 1) (vh S) (vc S) (vA S 0) (vA S 1) (vA S 2) ++ (wR cI a ((o + 1) + 4) (vr S) (vA S 3) (vA S 4) (vA S 5) (vA S 6)))) (wVo cI a (o + 19) (vh T) (vc T) (vA T 0) (vA T 1) (vA T 2) ++ (wR cI a ((o + 19) + 4) (vr T) (vA T 3) (vA T 4) (vA T 5) (vA T 6) ++ (wS cI a ((o + 19) + 9) (vs T) (vA T 7) (vA T 8) (vA T 9) (vA T 10) (vA T 11) (vA T 12) qt2 qp2))) (c_X1_has ((o + 1) + 9) (vs S) (vA S 7) (vA S 8) (vA S 9) (vA S 10) (vA S 11) (vA S 12) qt qp x) rfl 0 rfl rfl gX3_choice_X1_has rfl ⟨rfl, hd_X1_has⟩ ⟨rfl, rfl, (Nat.le_of_ble_eq_true rfl), (Nat.le_of_ble_eq_true rfl)⟩ ⟨(Nat.zero_le _), (Nat.zero_le _)⟩ rfl rfl (Nat.le_of_ble_eq_true rfl) dX3_choice_8 (fun v w1 H locs hp HW => ?_)
  obtain ⟨rfl, rfl⟩ := hp
  have HW : Hw D A s (wXo cI a o  ++ (wVo cI a (o + 1) (vh S) (vc S) (vA S 0) (vA S 1) (vA S 2) ++ (wR cI a ((o + 1) + 4) (vr S) (vA S 3) (vA S 4) (vA S 5) (vA S 6) ++ (wS cI a ((o + 1) + 9) (vs S) (vA S 7) (vA S 8) (vA S 9) (vA S 10) (vA S 11) (vA S 12) qt qp ++ (wVo cI a (o + 19) (vh T) (vc T) (vA T 0) (vA T 1) (vA T 2) ++ (wR cI a ((o + 19) + 4) (vr T) (vA T 3) (vA T 4) (vA T 5) (vA T 6) ++ (wS cI a ((o + 19) + 9) (vs T) (vA T 7) (vA T 8) (vA T 9) (vA T 10) (vA T 11) (vA T 12) qt2 qp2))))))) H locs := HW
  refine W.eq (g2 := F0 m 11 ls [.int (bI (0 ≤ x ∧ x < nI (vs S)))]) rfl ?_
  refine g_ifne_b (tgt := 24) hx hb dX3_choice_11 (by decide) (fun c11 => ?_) (fun c11 => ?_)
  · have hn6 := hI.1
    have hn8 := hI.2.1
    obtain ⟨k, hk, rfl⟩ := has_nat (by omega) c11
    have ek : natI (nI k) = k := natI_nI (by omega)
    · refine lv_iload_n hx hb dX3_choice_24 rfl (lv_at hl 2 rfl) ?_
      refine lv_iconst (v := 0) hx hb dX3_choice_25 (by decide) ?_
      refine lv_iconst (v := 2) hx hb dX3_choice_26 (by decide) ?_
      refine g_callS CX HW hl.1 ([]) (wXo cI a o  ++ (wVo cI a (o + 1) (vh S) (vc S) (vA S 0) (vA S 1) (vA S 2) ++ (wR cI a ((o + 1) + 4) (vr S) (vA S 3) (vA S 4) (vA S 5) (vA S 6) ++ (wS cI a ((o + 1) + 9) (vs S) (vA S 7) (vA S 8) (vA S 9) (vA S 10) (vA S 11) (vA S 12) qt qp ++ (wVo cI a (o + 19) (vh T) (vc T) (vA T 0) (vA T 1) (vA T 2) ++ (wR cI a ((o + 19) + 4) (vr T) (vA T 3) (vA T 4) (vA T 5) (vA T 6) ++ (wS cI a ((o + 19) + 9) (vs T) (vA T 7) (vA T 8) (vA T 9) (vA T 10) (vA T 11) (vA T 12) qt2 qp2))))))) (c_X3_isWithin z (0 : Int32) (2 : Int32)) rfl gX3_choice_X3_isWithin rfl hd_X3_isWithin ⟨rfl, rfl, (Nat.le_of_ble_eq_true rfl), (Nat.le_of_ble_eq_true rfl)⟩ ⟨(Nat.zero_le _), (Nat.zero_le _)⟩ rfl rfl (Nat.le_of_ble_eq_true rfl) dX3_choice_27 (fun v w1 H locs hp HW => ?_)
      obtain ⟨rfl, rfl⟩ := hp
      have HW : Hw D A s (wXo cI a o  ++ (wVo cI a (o + 1) (vh S) (vc S) (vA S 0) (vA S 1) (vA S 2) ++ (wR cI a ((o + 1) + 4) (vr S) (vA S 3) (vA S 4) (vA S 5) (vA S 6) ++ (wS cI a ((o + 1) + 9) (vs S) (vA S 7) (vA S 8) (vA S 9) (vA S 10) (vA S 11) (vA S 12) qt qp ++ (wVo cI a (o + 19) (vh T) (vc T) (vA T 0) (vA T 1) (vA T 2) ++ (wR cI a ((o + 19) + 4) (vr T) (vA T 3) (vA T 4) (vA T 5) (vA T 6) ++ (wS cI a ((o + 19) + 9) (vs T) (vA T 7) (vA T 8) (vA T 9) (vA T 10) (vA T 11) (vA T 12) qt2 qp2))))))) H locs := HW
      refine W.eq (g2 := F0 m 30 ls [.int (bI ((0 : Int32) ≤ z ∧ z ≤ (2 : Int32)))]) rfl ?_
      refine g_ifne_b (tgt := 43) hx hb dX3_choice_30 (by decide) (fun c30 => ?_) (fun c30 => ?_)
      · refine lv_aload_n hx hb dX3_choice_43 rfl (lv_at hl 0 rfl) ?_
        refine g_get CX HW in_X3_choice_3 0 0 rfl rfl (Nat.le_of_ble_eq_true rfl) fl_X3_choice_10 rfl dX3_choice_44 ?_
        refine lv_iload_n hx hb dX3_choice_47 rfl (lv_at hl 1 rfl) ?_
        refine lv_iload_n hx hb dX3_choice_48 rfl (lv_at hl 2 rfl) ?_
        refine g_callV CX HW hl.1 (wXo cI a o ) (wVo cI a (o + 19) (vh T) (vc T) (vA T 0) (vA T 1) (vA T 2) ++ (wR cI a ((o + 19) + 4) (vr T) (vA T 3) (vA T 4) (vA T 5) (vA T 6) ++ (wS cI a ((o + 19) + 9) (vs T) (vA T 7) (vA T 8) (vA T 9) (vA T 10) (vA T 11) (vA T 12) qt2 qp2))) (c_X2_chosenRun (o + 1) S qt qp (vA S 2) k z (by omega) hI.1) rfl 0 rfl rfl gX3_choice_X2_chosenRun rfl ⟨rfl, hd_X2_chosenRun⟩ ⟨rfl, rfl, (Nat.le_of_ble_eq_true rfl), (Nat.le_of_ble_eq_true rfl)⟩ ⟨(Nat.zero_le _), (Nat.zero_le _)⟩ rfl rfl (Nat.le_of_ble_eq_true rfl) dX3_choice_49 (fun v w1 H locs hp HW => ?_)
        obtain ⟨rfl, rfl⟩ := hp
        have HW : Hw D A s (wXo cI a o  ++ (wVo cI a (o + 1) (vh S) (vc S) (vA S 0) (vA S 1) (vA S 2) ++ (wR cI a ((o + 1) + 4) (vr S) (vA S 3) (vA S 4) (vA S 5) (vA S 6) ++ (wS cI a ((o + 1) + 9) (vs S) (vA S 7) (vA S 8) (vA S 9) (vA S 10) (vA S 11) (vA S 12) qt qp ++ (wVo cI a (o + 19) (vh T) (vc T) (vA T 0) (vA T 1) (vA T 2) ++ (wR cI a ((o + 19) + 4) (vr T) (vA T 3) (vA T 4) (vA T 5) (vA T 6) ++ (wS cI a ((o + 19) + 9) (vs T) (vA T 7) (vA T 8) (vA T 9) (vA T 10) (vA T 11) (vA T 12) qt2 qp2))))))) H locs := HW
        refine W.eq (g2 := F0 m 52 ls [.int (oI (bestR (vA S 3) (vA S 4) (vA S 5) z (vA S 7 k + 1) (vr S)))]) rfl ?_
        exact gx_ret (Nat.le_of_ble_eq_true rfl) (Nat.le_of_ble_eq_true rfl) (g_iret CX HW rfl ⟨(by rw [kJoin]; rw [if_neg (fun h9 => h9 c11), if_neg (fun h9 => h9 c30)]), by rw [ek], rfl⟩ dX3_choice_52)
      · exact gx_throw CX hext hZ HW hl.1 hst (cls := exI) (text := "no such tow") (ik := 23) (is := 25) (ic := 27) (by decide +kernel) xk_X3_choice_exI.1 xk_X3_choice_exI.2 (by decide +kernel) xa_X3_choice_exI xbad_27 xgood_27 dX3_choice_33 dX3_choice_36 dX3_choice_37 dX3_choice_39 dX3_choice_42 (Nat.le_of_ble_eq_true rfl) (Nat.le_of_ble_eq_true rfl) (Nat.le_of_ble_eq_true rfl) (Nat.le_of_ble_eq_true rfl) (Nat.le_of_ble_eq_true rfl) (Nat.le_of_ble_eq_true rfl) (⟨⟨rfl, by rw [kJoin]; rw [if_neg (fun h9 => h9 c11), if_pos c30]⟩, rfl⟩)
  · exact gx_throw CX hext hZ HW hl.1 hst (cls := exI) (text := "no such skier") (ik := 23) (is := 108) (ic := 27) (by decide +kernel) xk_X3_choice_exI.1 xk_X3_choice_exI.2 (by decide +kernel) xa_X3_choice_exI xbad_27 xgood_27 dX3_choice_14 dX3_choice_17 dX3_choice_18 dX3_choice_20 dX3_choice_23 (Nat.le_of_ble_eq_true rfl) (Nat.le_of_ble_eq_true rfl) (Nat.le_of_ble_eq_true rfl) (Nat.le_of_ble_eq_true rfl) (Nat.le_of_ble_eq_true rfl) (Nat.le_of_ble_eq_true rfl) (⟨⟨rfl, by rw [kJoin]; rw [if_pos c11]⟩, rfl⟩)

theorem hd_X3_count : yX3_count.cls ≠ "java/lang/invoke/MethodHandle" ∧ yX3_count.cls ≠ "java/lang/invoke/VarHandle" ∧ (parseMethodDescriptor yX3_count.desc).map (fun d => d.parameters.length) = some 1 := by decide +kernel
theorem fl_X3_count_10 : Cond.fieldLink RX3 10 (TX3 0).1 (TX3 0).2.1 (TX3 0).2.2.1 ∈ wsX3_count := by decide +kernel
theorem in_X3_count_3 : ∀ x ∈ u_ws RX3 TX3 2, x ∈ wsX3_count := by decide +kernel
theorem xk_X3_count_exI : Cond.classLink RX3 23 exI ∈ wsX3_count ∧ Cond.initialized exI ∈ wsX3_count := ⟨by decide +kernel, by decide +kernel⟩
theorem xa_X3_count_exI : ∀ x ∈ (vx_atS RX3 27 exI nms).filter goodWord, x ∈ wsX3_count := by decide +kernel
set_option maxRecDepth 100000 in
set_option maxHeartbeats 4000000 in
theorem c_X3_count {l : Launch} {D : va_G} {cI cL : ClassId} {a : Nat → Nat} (hst : l.stackTraces = false) (o : Nat) (S : VS) (qt : Nat → Int32) (qp : Nat → Int32) (T : VS) (qt2 : Nat → Int32) (qp2 : Nat → Int32) (z : Int32) (hI : Inv S) (hR : Rep (vs S) (vq S) qt qp) (hh : vh S + 100 < 2 ^ 31) : CtX l yX3_count wsX3_count { frames := 6, cells := 1, slots := 6, locals := 92 } D (ty2 cI cL) [.ref (a o), .int z] (wXo cI a o  ++ (wVo cI a (o + 1) (vh S) (vc S) (vA S 0) (vA S 1) (vA S 2) ++ (wR cI a ((o + 1) + 4) (vr S) (vA S 3) (vA S 4) (vA S 5) (vA S 6) ++ (wS cI a ((o + 1) + 9) (vs S) (vA S 7) (vA S 8) (vA S 9) (vA S 10) (vA S 11) (vA S 12) qt qp ++ (wVo cI a (o + 19) (vh T) (vc T) (vA T 0) (vA T 1) (vA T 2) ++ (wR cI a ((o + 19) + 4) (vr T) (vA T 3) (vA T 4) (vA T 5) (vA T 6) ++ (wS cI a ((o + 19) + 9) (vs T) (vA T 7) (vA T 8) (vA T 9) (vA T 10) (vA T 11) (vA T 12) qt2 qp2))))))) (fun v w' => kCou z = 0 ∧ v = some (.int (figV S (natI z))) ∧ w' = wXo cI a o  ++ (wVo cI a (o + 1) (vh S) (vc S) (vA S 0) (vA S 1) (vA S 2) ++ (wR cI a ((o + 1) + 4) (vr S) (vA S 3) (vA S 4) (vA S 5) (vA S 6) ++ (wS cI a ((o + 1) + 9) (vs S) (vA S 7) (vA S 8) (vA S 9) (vA S 10) (vA S 11) (vA S 12) qt qp ++ (wVo cI a (o + 19) (vh T) (vc T) (vA T 0) (vA T 1) (vA T 2) ++ (wR cI a ((o + 19) + 4) (vr T) (vA T 3) (vA T 4) (vA T 5) (vA T 6) ++ (wS cI a ((o + 19) + 9) (vs T) (vA T 7) (vA T 8) (vA T 9) (vA T 10) (vA T 11) (vA T 12) qt2 qp2))))))) (fun E w' => ((E = exI ∧ kCou z = 1)) ∧ w' = wXo cI a o  ++ (wVo cI a (o + 1) (vh S) (vc S) (vA S 0) (vA S 1) (vA S 2) ++ (wR cI a ((o + 1) + 4) (vr S) (vA S 3) (vA S 4) (vA S 5) (vA S 6) ++ (wS cI a ((o + 1) + 9) (vs S) (vA S 7) (vA S 8) (vA S 9) (vA S 10) (vA S 11) (vA S 12) qt qp ++ (wVo cI a (o + 19) (vh T) (vc T) (vA T 0) (vA T 1) (vA T 2) ++ (wR cI a ((o + 19) + 4) (vr T) (vA T 3) (vA T 4) (vA T 5) (vA T 6) ++ (wS cI a ((o + 19) + 9) (vs T) (vA T 7) (vA T 8) (vA T 9) (vA T 10) (vA T 11) (vA T 12) qt2 qp2))))))) := by
  refine CtX.of (cc := cX3_count) (maxL := 2) (ret := (some .int)) (by decide) rfl (Nat.le_of_ble_eq_true rfl) ?_
  intro p e s m below meth c A ls CX hext hZ HW hl
  obtain ⟨hx, hb, hml, hr, hown, hts, hK, hA, hlk⟩ := id CX
  have hl : lv_has ls 2 [(0, .ref (a o)), (1, .int z)] := hl
  refine lv_iload_n hx hb dX3_count_0 rfl (lv_at hl 1 rfl) ?_
  refine lv_iconst (v := 0) hx hb dX3_count_1 (by decide) ?_
  refine lv_bipush (v := 8) hx hb dX3_count_2 (by decide) ?_
  refine g_callS CX HW hl.1 ([]) (wXo cI a o  ++ (wVo cI a (o + 1) (vh S) (vc S) (vA S 0) (vA S 1) (vA S 2) ++ (wR cI a ((o + 1) + 4) (vr S) (vA S 3) (vA S 4) (vA S 5) (vA S 6) ++ (wS cI a ((o + 1) + 9) (vs S) (vA S 7) (vA S 8) (vA S 9) (vA S 10) (vA S 11) (vA S 12) qt qp ++ (wVo cI a (o + 19) (vh T) (vc T) (vA T 0) (vA T 1) (vA T 2) ++ (wR cI a ((o + 19) + 4) (vr T) (vA T 3) (vA T 4) (vA T 5) (vA T 6) ++ (wS cI a ((o + 19) + 9) (vs T) (vA T 7) (vA T 8) (vA T 9) (vA T 10) (vA T 11) (vA T 12) qt2 qp2))))))) (c_X3_isWithin z (0 : Int32) (8 : Int32)) rfl gX3_count_X3_isWithin rfl hd_X3_isWithin ⟨rfl, rfl, (Nat.le_of_ble_eq_true rfl), (Nat.le_of_ble_eq_true rfl)⟩ ⟨(Nat.zero_le _), (Nat.zero_le _)⟩ rfl rfl (Nat.le_of_ble_eq_true rfl) dX3_count_4 (fun v w1 H locs hp HW => ?_)
  obtain ⟨rfl, rfl⟩ := hp
  have HW : Hw D A s (wXo cI a o  ++ (wVo cI a (o + 1) (vh S) (vc S) (vA S 0) (vA S 1) (vA S 2) ++ (wR cI a ((o + 1) + 4) (vr S) (vA S 3) (vA S 4) (vA S 5) (vA S 6) ++ (wS cI a ((o + 1) + 9) (vs S) (vA S 7) (vA S 8) (vA S 9) (vA S 10) (vA S 11) (vA S 12) qt qp ++ (wVo cI a (o + 19) (vh T) (vc T) (vA T 0) (vA T 1) (vA T 2) ++ (wR cI a ((o + 19) + 4) (vr T) (vA T 3) (vA T 4) (vA T 5) (vA T 6) ++ (wS cI a ((o + 19) + 9) (vs T) (vA T 7) (vA T 8) (vA T 9) (vA T 10) (vA T 11) (vA T 12) qt2 qp2))))))) H locs := HW
  refine W.eq (g2 := F0 m 7 ls [.int (bI ((0 : Int32) ≤ z ∧ z ≤ (8 : Int32)))]) rfl ?_
  refine g_ifne_b (tgt := 20) hx hb dX3_count_7 (by decide) (fun c7 => ?_) (fun c7 => ?_)
  · obtain ⟨j, hj, rfl⟩ := wi_nat 8 (by decide) c7
    have ej : natI (nI j) = j := natI_nI (by omega)
    · refine lv_aload_n hx hb dX3_count_20 rfl (lv_at hl 0 rfl) ?_
      refine g_get CX HW in_X3_count_3 0 0 rfl rfl (Nat.le_of_ble_eq_true rfl) fl_X3_count_10 rfl dX3_count_21 ?_
      refine lv_iload_n hx hb dX3_count_24 rfl (lv_at hl 1 rfl) ?_
      refine g_callV CX HW hl.1 (wXo cI a o ) (wVo cI a (o + 19) (vh T) (vc T) (vA T 0) (vA T 1) (vA T 2) ++ (wR cI a ((o + 19) + 4) (vr T) (vA T 3) (vA T 4) (vA T 5) (vA T 6) ++ (wS cI a ((o + 19) + 9) (vs T) (vA T 7) (vA T 8) (vA T 9) (vA T 10) (vA T 11) (vA T 12) qt2 qp2))) (c_X2_figure (o + 1) S qt qp j hR hI.1 hI.2.1 (by omega) (by omega)) rfl 0 rfl rfl gX3_count_X2_figure rfl ⟨rfl, hd_X2_figure⟩ ⟨rfl, rfl, (Nat.le_of_ble_eq_true rfl), (Nat.le_of_ble_eq_true rfl)⟩ ⟨(Nat.zero_le _), (Nat.zero_le _)⟩ rfl rfl (Nat.le_of_ble_eq_true rfl) dX3_count_25 (fun v w1 H locs hp HW => ?_)
      obtain ⟨rfl, rfl⟩ := hp
      have HW : Hw D A s (wXo cI a o  ++ (wVo cI a (o + 1) (vh S) (vc S) (vA S 0) (vA S 1) (vA S 2) ++ (wR cI a ((o + 1) + 4) (vr S) (vA S 3) (vA S 4) (vA S 5) (vA S 6) ++ (wS cI a ((o + 1) + 9) (vs S) (vA S 7) (vA S 8) (vA S 9) (vA S 10) (vA S 11) (vA S 12) qt qp ++ (wVo cI a (o + 19) (vh T) (vc T) (vA T 0) (vA T 1) (vA T 2) ++ (wR cI a ((o + 19) + 4) (vr T) (vA T 3) (vA T 4) (vA T 5) (vA T 6) ++ (wS cI a ((o + 19) + 9) (vs T) (vA T 7) (vA T 8) (vA T 9) (vA T 10) (vA T 11) (vA T 12) qt2 qp2))))))) H locs := HW
      refine W.eq (g2 := F0 m 28 ls [.int (figV S j)]) rfl ?_
      exact gx_ret (Nat.le_of_ble_eq_true rfl) (Nat.le_of_ble_eq_true rfl) (g_iret CX HW rfl ⟨(by rw [kCou]; rw [if_neg (fun h9 => h9 c7)]), by rw [ej], rfl⟩ dX3_count_28)
  · exact gx_throw CX hext hZ HW hl.1 hst (cls := exI) (text := "what is not 0 to 8") (ik := 23) (is := 153) (ic := 27) (by decide +kernel) xk_X3_count_exI.1 xk_X3_count_exI.2 (by decide +kernel) xa_X3_count_exI xbad_27 xgood_27 dX3_count_10 dX3_count_13 dX3_count_14 dX3_count_16 dX3_count_19 (Nat.le_of_ble_eq_true rfl) (Nat.le_of_ble_eq_true rfl) (Nat.le_of_ble_eq_true rfl) (Nat.le_of_ble_eq_true rfl) (Nat.le_of_ble_eq_true rfl) (Nat.le_of_ble_eq_true rfl) (⟨⟨rfl, by rw [kCou]; rw [if_pos c7]⟩, rfl⟩)

theorem hd_X3_pass : yX3_pass.cls ≠ "java/lang/invoke/MethodHandle" ∧ yX3_pass.cls ≠ "java/lang/invoke/VarHandle" ∧ (parseMethodDescriptor yX3_pass.desc).map (fun d => d.parameters.length) = some 1 := by decide +kernel
theorem fl_X3_pass_10 : Cond.fieldLink RX3 10 (TX3 0).1 (TX3 0).2.1 (TX3 0).2.2.1 ∈ wsX3_pass := by decide +kernel
theorem in_X3_pass_3 : ∀ x ∈ u_ws RX3 TX3 2, x ∈ wsX3_pass := by decide +kernel
theorem xk_X3_pass_exA : Cond.classLink RX3 30 exA ∈ wsX3_pass ∧ Cond.initialized exA ∈ wsX3_pass := ⟨by decide +kernel, by decide +kernel⟩
theorem xa_X3_pass_exA : ∀ x ∈ (vx_atS RX3 34 exA nms).filter goodWord, x ∈ wsX3_pass := by decide +kernel
set_option maxRecDepth 100000 in
set_option maxHeartbeats 4000000 in
theorem c_X3_pass {l : Launch} {D : va_G} {cI cL : ClassId} {a : Nat → Nat} (hst : l.stackTraces = false) (o : Nat) (S : VS) (qt : Nat → Int32) (qp : Nat → Int32) (T : VS) (qt2 : Nat → Int32) (qp2 : Nat → Int32) (z : Int32) (hI : Inv S) (hR : Rep (vs S) (vq S) qt qp) (hh : vh S + 100 < 2 ^ 31) : CtX l yX3_pass wsX3_pass { frames := 6, cells := 1, slots := 6, locals := 142 } D (ty2 cI cL) [.ref (a o), .int z] (wXo cI a o  ++ (wVo cI a (o + 1) (vh S) (vc S) (vA S 0) (vA S 1) (vA S 2) ++ (wR cI a ((o + 1) + 4) (vr S) (vA S 3) (vA S 4) (vA S 5) (vA S 6) ++ (wS cI a ((o + 1) + 9) (vs S) (vA S 7) (vA S 8) (vA S 9) (vA S 10) (vA S 11) (vA S 12) qt qp ++ (wVo cI a (o + 19) (vh T) (vc T) (vA T 0) (vA T 1) (vA T 2) ++ (wR cI a ((o + 19) + 4) (vr T) (vA T 3) (vA T 4) (vA T 5) (vA T 6) ++ (wS cI a ((o + 19) + 9) (vs T) (vA T 7) (vA T 8) (vA T 9) (vA T 10) (vA T 11) (vA T 12) qt2 qp2))))))) (fun v w' => ∃ (qt' : Nat → Int32) (qp' : Nat → Int32), Rep (vs (hoursS (natI z) S)) (vq (hoursS (natI z) S)) qt' qp' ∧ kPas z = 0 ∧ v = some (.int (sumP (hoursS (natI z) S) - sumP S)) ∧ w' = wXo cI a o  ++ (wVo cI a (o + 1) (vh (hoursS (natI z) S)) (vc (hoursS (natI z) S)) (vA (hoursS (natI z) S) 0) (vA (hoursS (natI z) S) 1) (vA (hoursS (natI z) S) 2) ++ (wR cI a ((o + 1) + 4) (vr (hoursS (natI z) S)) (vA (hoursS (natI z) S) 3) (vA (hoursS (natI z) S) 4) (vA (hoursS (natI z) S) 5) (vA (hoursS (natI z) S) 6) ++ (wS cI a ((o + 1) + 9) (vs (hoursS (natI z) S)) (vA (hoursS (natI z) S) 7) (vA (hoursS (natI z) S) 8) (vA (hoursS (natI z) S) 9) (vA (hoursS (natI z) S) 10) (vA (hoursS (natI z) S) 11) (vA (hoursS (natI z) S) 12) qt' qp' ++ (wVo cI a (o + 19) (vh T) (vc T) (vA T 0) (vA T 1) (vA T 2) ++ (wR cI a ((o + 19) + 4) (vr T) (vA T 3) (vA T 4) (vA T 5) (vA T 6) ++ (wS cI a ((o + 19) + 9) (vs T) (vA T 7) (vA T 8) (vA T 9) (vA T 10) (vA T 11) (vA T 12) qt2 qp2))))))) (fun E w' => ((E = exA ∧ kPas z = 1)) ∧ w' = wXo cI a o  ++ (wVo cI a (o + 1) (vh S) (vc S) (vA S 0) (vA S 1) (vA S 2) ++ (wR cI a ((o + 1) + 4) (vr S) (vA S 3) (vA S 4) (vA S 5) (vA S 6) ++ (wS cI a ((o + 1) + 9) (vs S) (vA S 7) (vA S 8) (vA S 9) (vA S 10) (vA S 11) (vA S 12) qt qp ++ (wVo cI a (o + 19) (vh T) (vc T) (vA T 0) (vA T 1) (vA T 2) ++ (wR cI a ((o + 19) + 4) (vr T) (vA T 3) (vA T 4) (vA T 5) (vA T 6) ++ (wS cI a ((o + 19) + 9) (vs T) (vA T 7) (vA T 8) (vA T 9) (vA T 10) (vA T 11) (vA T 12) qt2 qp2))))))) := by
  refine CtX.of (cc := cX3_pass) (maxL := 2) (ret := (some .int)) (by decide) rfl (Nat.le_of_ble_eq_true rfl) ?_
  intro p e s m below meth c A ls CX hext hZ HW hl
  obtain ⟨hx, hb, hml, hr, hown, hts, hK, hA, hlk⟩ := id CX
  have hl : lv_has ls 2 [(0, .ref (a o)), (1, .int z)] := hl
  refine lv_iload_n hx hb dX3_pass_0 rfl (lv_at hl 1 rfl) ?_
  refine lv_iconst (v := 1) hx hb dX3_pass_1 (by decide) ?_
  refine lv_bipush (v := 60) hx hb dX3_pass_2 (by decide) ?_
  refine g_callS CX HW hl.1 ([]) (wXo cI a o  ++ (wVo cI a (o + 1) (vh S) (vc S) (vA S 0) (vA S 1) (vA S 2) ++ (wR cI a ((o + 1) + 4) (vr S) (vA S 3) (vA S 4) (vA S 5) (vA S 6) ++ (wS cI a ((o + 1) + 9) (vs S) (vA S 7) (vA S 8) (vA S 9) (vA S 10) (vA S 11) (vA S 12) qt qp ++ (wVo cI a (o + 19) (vh T) (vc T) (vA T 0) (vA T 1) (vA T 2) ++ (wR cI a ((o + 19) + 4) (vr T) (vA T 3) (vA T 4) (vA T 5) (vA T 6) ++ (wS cI a ((o + 19) + 9) (vs T) (vA T 7) (vA T 8) (vA T 9) (vA T 10) (vA T 11) (vA T 12) qt2 qp2))))))) (c_X3_isWithin z (1 : Int32) (60 : Int32)) rfl gX3_pass_X3_isWithin rfl hd_X3_isWithin ⟨rfl, rfl, (Nat.le_of_ble_eq_true rfl), (Nat.le_of_ble_eq_true rfl)⟩ ⟨(Nat.zero_le _), (Nat.zero_le _)⟩ rfl rfl (Nat.le_of_ble_eq_true rfl) dX3_pass_4 (fun v w1 H locs hp HW => ?_)
  obtain ⟨rfl, rfl⟩ := hp
  have HW : Hw D A s (wXo cI a o  ++ (wVo cI a (o + 1) (vh S) (vc S) (vA S 0) (vA S 1) (vA S 2) ++ (wR cI a ((o + 1) + 4) (vr S) (vA S 3) (vA S 4) (vA S 5) (vA S 6) ++ (wS cI a ((o + 1) + 9) (vs S) (vA S 7) (vA S 8) (vA S 9) (vA S 10) (vA S 11) (vA S 12) qt qp ++ (wVo cI a (o + 19) (vh T) (vc T) (vA T 0) (vA T 1) (vA T 2) ++ (wR cI a ((o + 19) + 4) (vr T) (vA T 3) (vA T 4) (vA T 5) (vA T 6) ++ (wS cI a ((o + 19) + 9) (vs T) (vA T 7) (vA T 8) (vA T 9) (vA T 10) (vA T 11) (vA T 12) qt2 qp2))))))) H locs := HW
  refine W.eq (g2 := F0 m 7 ls [.int (bI ((1 : Int32) ≤ z ∧ z ≤ (60 : Int32)))]) rfl ?_
  refine g_ifne_b (tgt := 20) hx hb dX3_pass_7 (by decide) (fun c7 => ?_) (fun c7 => ?_)
  · obtain ⟨j, hj1, hj, rfl⟩ := wi1_nat 60 (by decide) c7
    have ej : natI (nI j) = j := natI_nI (by omega)
    · refine lv_aload_n hx hb dX3_pass_20 rfl (lv_at hl 0 rfl) ?_
      refine g_get CX HW in_X3_pass_3 0 0 rfl rfl (Nat.le_of_ble_eq_true rfl) fl_X3_pass_10 rfl dX3_pass_21 ?_
      refine lv_iload_n hx hb dX3_pass_24 rfl (lv_at hl 1 rfl) ?_
      refine g_callV CX HW hl.1 (wXo cI a o ) (wVo cI a (o + 19) (vh T) (vc T) (vA T 0) (vA T 1) (vA T 2) ++ (wR cI a ((o + 19) + 4) (vr T) (vA T 3) (vA T 4) (vA T 5) (vA T 6) ++ (wS cI a ((o + 19) + 9) (vs T) (vA T 7) (vA T 8) (vA T 9) (vA T 10) (vA T 11) (vA T 12) qt2 qp2))) (c_X2_letHoursGo (o + 1) S qt qp j hI hR (by omega) (by omega)) rfl 0 rfl rfl gX3_pass_X2_letHoursGo rfl ⟨rfl, hd_X2_letHoursGo⟩ ⟨rfl, rfl, (Nat.le_of_ble_eq_true rfl), (Nat.le_of_ble_eq_true rfl)⟩ ⟨(Nat.zero_le _), (Nat.zero_le _)⟩ rfl rfl (Nat.le_of_ble_eq_true rfl) dX3_pass_25 (fun v w1 H locs hp HW => ?_)
      obtain ⟨qt'_1, qp'_1, hr9_1, rfl, rfl⟩ := hp
      have HW : Hw D A s (wXo cI a o  ++ (wVo cI a (o + 1) (vh (hoursS j S)) (vc (hoursS j S)) (vA (hoursS j S) 0) (vA (hoursS j S) 1) (vA (hoursS j S) 2) ++ (wR cI a ((o + 1) + 4) (vr (hoursS j S)) (vA (hoursS j S) 3) (vA (hoursS j S) 4) (vA (hoursS j S) 5) (vA (hoursS j S) 6) ++ (wS cI a ((o + 1) + 9) (vs (hoursS j S)) (vA (hoursS j S) 7) (vA (hoursS j S) 8) (vA (hoursS j S) 9) (vA (hoursS j S) 10) (vA (hoursS j S) 11) (vA (hoursS j S) 12) qt'_1 qp'_1 ++ (wVo cI a (o + 19) (vh T) (vc T) (vA T 0) (vA T 1) (vA T 2) ++ (wR cI a ((o + 19) + 4) (vr T) (vA T 3) (vA T 4) (vA T 5) (vA T 6) ++ (wS cI a ((o + 19) + 9) (vs T) (vA T 7) (vA T 8) (vA T 9) (vA T 10) (vA T 11) (vA T 12) qt2 qp2))))))) H locs := HW
      refine W.eq (g2 := F0 m 28 ls [.int (sumP (hoursS j S) - sumP S)]) rfl ?_
      exact gx_ret (Nat.le_of_ble_eq_true rfl) (Nat.le_of_ble_eq_true rfl) (g_iret CX HW rfl ⟨_, _, by rw [ej]; exact hr9_1, (by rw [kPas]; rw [if_neg (fun h9 => h9 c7)]), by rw [ej], by rw [ej]⟩ dX3_pass_28)
  · exact gx_throw CX hext hZ HW hl.1 hst (cls := exA) (text := "hours is not 1 to 60") (ik := 30) (is := 158) (ic := 34) (by decide +kernel) xk_X3_pass_exA.1 xk_X3_pass_exA.2 (by decide +kernel) xa_X3_pass_exA xbad_34 xgood_34 dX3_pass_10 dX3_pass_13 dX3_pass_14 dX3_pass_16 dX3_pass_19 (Nat.le_of_ble_eq_true rfl) (Nat.le_of_ble_eq_true rfl) (Nat.le_of_ble_eq_true rfl) (Nat.le_of_ble_eq_true rfl) (Nat.le_of_ble_eq_true rfl) (Nat.le_of_ble_eq_true rfl) (⟨⟨rfl, by rw [kPas]; rw [if_pos c7]⟩, rfl⟩)

theorem hd_X3_foresee : yX3_foresee.cls ≠ "java/lang/invoke/MethodHandle" ∧ yX3_foresee.cls ≠ "java/lang/invoke/VarHandle" ∧ (parseMethodDescriptor yX3_foresee.desc).map (fun d => d.parameters.length) = some 2 := by decide +kernel
theorem fl_X3_foresee_16 : Cond.fieldLink RX3 16 (TX3 1).1 (TX3 1).2.1 (TX3 1).2.2.1 ∈ wsX3_foresee := by decide +kernel
theorem in_X3_foresee_3 : ∀ x ∈ u_ws RX3 TX3 2, x ∈ wsX3_foresee := by decide +kernel
theorem fl_X3_foresee_10 : Cond.fieldLink RX3 10 (TX3 0).1 (TX3 0).2.1 (TX3 0).2.2.1 ∈ wsX3_foresee := by decide +kernel
theorem xk_X3_foresee_exI : Cond.classLink RX3 23 exI ∈ wsX3_foresee ∧ Cond.initialized exI ∈ wsX3_foresee := ⟨by decide +kernel, by decide +kernel⟩
theorem xa_X3_foresee_exI : ∀ x ∈ (vx_atS RX3 27 exI nms).filter goodWord, x ∈ wsX3_foresee := by decide +kernel
theorem xk_X3_foresee_exA : Cond.classLink RX3 30 exA ∈ wsX3_foresee ∧ Cond.initialized exA ∈ wsX3_foresee := ⟨by decide +kernel, by decide +kernel⟩
theorem xa_X3_foresee_exA : ∀ x ∈ (vx_atS RX3 34 exA nms).filter goodWord, x ∈ wsX3_foresee := by decide +kernel
set_option maxRecDepth 100000 in
set_option maxHeartbeats 4000000 in
theorem c_X3_foresee {l : Launch} {D : va_G} {cI cL : ClassId} {a : Nat → Nat} (hst : l.stackTraces = false) (o : Nat) (S : VS) (qt : Nat → Int32) (qp : Nat → Int32) (T : VS) (qt2 : Nat → Int32) (qp2 : Nat → Int32) (z : Int32) (y : Int32) (hI : Inv S) (hR : Rep (vs S) (vq S) qt qp) (hh : vh S + 100 < 2 ^ 31) : CtX l yX3_foresee wsX3_foresee { frames := 6, cells := 1, slots := 6, locals := 142 } D (ty2 cI cL) [.ref (a o), .int z, .int y] (wXo cI a o  ++ (wVo cI a (o + 1) (vh S) (vc S) (vA S 0) (vA S 1) (vA S 2) ++ (wR cI a ((o + 1) + 4) (vr S) (vA S 3) (vA S 4) (vA S 5) (vA S 6) ++ (wS cI a ((o + 1) + 9) (vs S) (vA S 7) (vA S 8) (vA S 9) (vA S 10) (vA S 11) (vA S 12) qt qp ++ (wVo cI a (o + 19) (vh T) (vc T) (vA T 0) (vA T 1) (vA T 2) ++ (wR cI a ((o + 19) + 4) (vr T) (vA T 3) (vA T 4) (vA T 5) (vA T 6) ++ (wS cI a ((o + 19) + 9) (vs T) (vA T 7) (vA T 8) (vA T 9) (vA T 10) (vA T 11) (vA T 12) qt2 qp2))))))) (fun v w' => ∃ (T' : VS) (qt2' : Nat → Int32) (qp2' : Nat → Int32), kFor z y = 0 ∧ v = some (.int (figV (hoursS (natI z) S) (natI y))) ∧ w' = wXo cI a o  ++ (wVo cI a (o + 1) (vh S) (vc S) (vA S 0) (vA S 1) (vA S 2) ++ (wR cI a ((o + 1) + 4) (vr S) (vA S 3) (vA S 4) (vA S 5) (vA S 6) ++ (wS cI a ((o + 1) + 9) (vs S) (vA S 7) (vA S 8) (vA S 9) (vA S 10) (vA S 11) (vA S 12) qt qp ++ (wVo cI a (o + 19) (vh T') (vc T') (vA T' 0) (vA T' 1) (vA T' 2) ++ (wR cI a ((o + 19) + 4) (vr T') (vA T' 3) (vA T' 4) (vA T' 5) (vA T' 6) ++ (wS cI a ((o + 19) + 9) (vs T') (vA T' 7) (vA T' 8) (vA T' 9) (vA T' 10) (vA T' 11) (vA T' 12) qt2' qp2'))))))) (fun E w' => ((E = exA ∧ kFor z y = 1) ∨ (E = exI ∧ kFor z y = 2)) ∧ w' = wXo cI a o  ++ (wVo cI a (o + 1) (vh S) (vc S) (vA S 0) (vA S 1) (vA S 2) ++ (wR cI a ((o + 1) + 4) (vr S) (vA S 3) (vA S 4) (vA S 5) (vA S 6) ++ (wS cI a ((o + 1) + 9) (vs S) (vA S 7) (vA S 8) (vA S 9) (vA S 10) (vA S 11) (vA S 12) qt qp ++ (wVo cI a (o + 19) (vh T) (vc T) (vA T 0) (vA T 1) (vA T 2) ++ (wR cI a ((o + 19) + 4) (vr T) (vA T 3) (vA T 4) (vA T 5) (vA T 6) ++ (wS cI a ((o + 19) + 9) (vs T) (vA T 7) (vA T 8) (vA T 9) (vA T 10) (vA T 11) (vA T 12) qt2 qp2))))))) := by
  refine CtX.of (cc := cX3_foresee) (maxL := 3) (ret := (some .int)) (by decide) rfl (Nat.le_of_ble_eq_true rfl) ?_
  intro p e s m below meth c A ls CX hext hZ HW hl
  obtain ⟨hx, hb, hml, hr, hown, hts, hK, hA, hlk⟩ := id CX
  have hl : lv_has ls 3 [(0, .ref (a o)), (1, .int z), (2, .int y)] := hl
  refine lv_iload_n hx hb dX3_foresee_0 rfl (lv_at hl 1 rfl) ?_
  refine lv_iconst (v := 1) hx hb dX3_foresee_1 (by decide) ?_
  refine lv_bipush (v := 60) hx hb dX3_foresee_2 (by decide) ?_
  refine g_callS CX HW hl.1 ([]) (wXo cI a o  ++ (wVo cI a (o + 1) (vh S) (vc S) (vA S 0) (vA S 1) (vA S 2) ++ (wR cI a ((o + 1) + 4) (vr S) (vA S 3) (vA S 4) (vA S 5) (vA S 6) ++ (wS cI a ((o + 1) + 9) (vs S) (vA S 7) (vA S 8) (vA S 9) (vA S 10) (vA S 11) (vA S 12) qt qp ++ (wVo cI a (o + 19) (vh T) (vc T) (vA T 0) (vA T 1) (vA T 2) ++ (wR cI a ((o + 19) + 4) (vr T) (vA T 3) (vA T 4) (vA T 5) (vA T 6) ++ (wS cI a ((o + 19) + 9) (vs T) (vA T 7) (vA T 8) (vA T 9) (vA T 10) (vA T 11) (vA T 12) qt2 qp2))))))) (c_X3_isWithin z (1 : Int32) (60 : Int32)) rfl gX3_foresee_X3_isWithin rfl hd_X3_isWithin ⟨rfl, rfl, (Nat.le_of_ble_eq_true rfl), (Nat.le_of_ble_eq_true rfl)⟩ ⟨(Nat.zero_le _), (Nat.zero_le _)⟩ rfl rfl (Nat.le_of_ble_eq_true rfl) dX3_foresee_4 (fun v w1 H locs hp HW => ?_)
  obtain ⟨rfl, rfl⟩ := hp
  have HW : Hw D A s (wXo cI a o  ++ (wVo cI a (o + 1) (vh S) (vc S) (vA S 0) (vA S 1) (vA S 2) ++ (wR cI a ((o + 1) + 4) (vr S) (vA S 3) (vA S 4) (vA S 5) (vA S 6) ++ (wS cI a ((o + 1) + 9) (vs S) (vA S 7) (vA S 8) (vA S 9) (vA S 10) (vA S 11) (vA S 12) qt qp ++ (wVo cI a (o + 19) (vh T) (vc T) (vA T 0) (vA T 1) (vA T 2) ++ (wR cI a ((o + 19) + 4) (vr T) (vA T 3) (vA T 4) (vA T 5) (vA T 6) ++ (wS cI a ((o + 19) + 9) (vs T) (vA T 7) (vA T 8) (vA T 9) (vA T 10) (vA T 11) (vA T 12) qt2 qp2))))))) H locs := HW
  refine W.eq (g2 := F0 m 7 ls [.int (bI ((1 : Int32) ≤ z ∧ z ≤ (60 : Int32)))]) rfl ?_
  refine g_ifne_b (tgt := 20) hx hb dX3_foresee_7 (by decide) (fun c7 => ?_) (fun c7 => ?_)
  · obtain ⟨j, hj1, hj, rfl⟩ := wi1_nat 60 (by decide) c7
    have ej : natI (nI j) = j := natI_nI (by omega)
    · refine lv_iload_n hx hb dX3_foresee_20 rfl (lv_at hl 2 rfl) ?_
      refine lv_iconst (v := 0) hx hb dX3_foresee_21 (by decide) ?_
      refine lv_bipush (v := 8) hx hb dX3_foresee_22 (by decide) ?_
      refine g_callS CX HW hl.1 ([]) (wXo cI a o  ++ (wVo cI a (o + 1) (vh S) (vc S) (vA S 0) (vA S 1) (vA S 2) ++ (wR cI a ((o + 1) + 4) (vr S) (vA S 3) (vA S 4) (vA S 5) (vA S 6) ++ (wS cI a ((o + 1) + 9) (vs S) (vA S 7) (vA S 8) (vA S 9) (vA S 10) (vA S 11) (vA S 12) qt qp ++ (wVo cI a (o + 19) (vh T) (vc T) (vA T 0) (vA T 1) (vA T 2) ++ (wR cI a ((o + 19) + 4) (vr T) (vA T 3) (vA T 4) (vA T 5) (vA T 6) ++ (wS cI a ((o + 19) + 9) (vs T) (vA T 7) (vA T 8) (vA T 9) (vA T 10) (vA T 11) (vA T 12) qt2 qp2))))))) (c_X3_isWithin y (0 : Int32) (8 : Int32)) rfl gX3_foresee_X3_isWithin rfl hd_X3_isWithin ⟨rfl, rfl, (Nat.le_of_ble_eq_true rfl), (Nat.le_of_ble_eq_true rfl)⟩ ⟨(Nat.zero_le _), (Nat.zero_le _)⟩ rfl rfl (Nat.le_of_ble_eq_true rfl) dX3_foresee_24 (fun v w1 H locs hp HW => ?_)
      obtain ⟨rfl, rfl⟩ := hp
      have HW : Hw D A s (wXo cI a o  ++ (wVo cI a (o + 1) (vh S) (vc S) (vA S 0) (vA S 1) (vA S 2) ++ (wR cI a ((o + 1) + 4) (vr S) (vA S 3) (vA S 4) (vA S 5) (vA S 6) ++ (wS cI a ((o + 1) + 9) (vs S) (vA S 7) (vA S 8) (vA S 9) (vA S 10) (vA S 11) (vA S 12) qt qp ++ (wVo cI a (o + 19) (vh T) (vc T) (vA T 0) (vA T 1) (vA T 2) ++ (wR cI a ((o + 19) + 4) (vr T) (vA T 3) (vA T 4) (vA T 5) (vA T 6) ++ (wS cI a ((o + 19) + 9) (vs T) (vA T 7) (vA T 8) (vA T 9) (vA T 10) (vA T 11) (vA T 12) qt2 qp2))))))) H locs := HW
      refine W.eq (g2 := F0 m 27 ls [.int (bI ((0 : Int32) ≤ y ∧ y ≤ (8 : Int32)))]) rfl ?_
      refine g_ifne_b (tgt := 40) hx hb dX3_foresee_27 (by decide) (fun c27 => ?_) (fun c27 => ?_)
      · obtain ⟨w, hw, rfl⟩ := wi_nat 8 (by decide) c27
        have ew : natI (nI w) = w := natI_nI (by omega)
        · refine lv_aload_n hx hb dX3_foresee_40 rfl (lv_at hl 0 rfl) ?_
          refine g_get CX HW in_X3_foresee_3 0 1 rfl rfl (Nat.le_of_ble_eq_true rfl) fl_X3_foresee_16 rfl dX3_foresee_41 ?_
          refine lv_aload_n hx hb dX3_foresee_44 rfl (lv_at hl 0 rfl) ?_
          refine g_get CX HW in_X3_foresee_3 0 0 rfl rfl (Nat.le_of_ble_eq_true rfl) fl_X3_foresee_10 rfl dX3_foresee_45 ?_
          have HW : Hw D A s (wXo cI a o  ++ (wVo cI a (o + 1) (vh S) (vc S) (vA S 0) (vA S 1) (vA S 2) ++ (wVo cI a (o + 19) (vh T) (vc T) (vA T 0) (vA T 1) (vA T 2) ++ (wR cI a ((o + 1) + 4) (vr S) (vA S 3) (vA S 4) (vA S 5) (vA S 6) ++ (wR cI a ((o + 19) + 4) (vr T) (vA T 3) (vA T 4) (vA T 5) (vA T 6) ++ (wS cI a ((o + 1) + 9) (vs S) (vA S 7) (vA S 8) (vA S 9) (vA S 10) (vA S 11) (vA S 12) qt qp ++ (wS cI a ((o + 19) + 9) (vs T) (vA T 7) (vA T 8) (vA T 9) (vA T 10) (vA T 11) (vA T 12) qt2 qp2))))))) H locs := Hw.p6 HW
          refine g_callV CX HW hl.1 (wXo cI a o ) ([]) (c_X2_copyFrom (o + 1) (o + 19) S T qt qp qt2 qp2) rfl 4 rfl rfl gX3_foresee_X2_copyFrom rfl ⟨rfl, hd_X2_copyFrom⟩ ⟨rfl, rfl, (Nat.le_of_ble_eq_true rfl), (Nat.le_of_ble_eq_true rfl)⟩ ⟨(Nat.zero_le _), (Nat.zero_le _)⟩ rfl rfl (Nat.le_of_ble_eq_true rfl) dX3_foresee_48 (fun v w1 H locs hp HW => ?_)
          obtain ⟨rfl, rfl⟩ := hp
          have HW : Hw D A s (wXo cI a o  ++ (wVo cI a (o + 1) (vh S) (vc S) (vA S 0) (vA S 1) (vA S 2) ++ (wVo cI a (o + 19) (vh S) (vc S) (vA S 0) (vA S 1) (vA S 2) ++ (wR cI a ((o + 1) + 4) (vr S) (vA S 3) (vA S 4) (vA S 5) (vA S 6) ++ (wR cI a ((o + 19) + 4) (vr S) (vA S 3) (vA S 4) (vA S 5) (vA S 6) ++ (wS cI a ((o + 1) + 9) (vs S) (vA S 7) (vA S 8) (vA S 9) (vA S 10) (vA S 11) (vA S 12) qt qp ++ (wS cI a ((o + 19) + 9) (vs S) (vA S 7) (vA S 8) (vA S 9) (vA S 10) (vA S 11) (vA S 12) qt qp))))))) H locs := HW
          refine W.eq (g2 := F0 m 51 ls []) rfl ?_
          have HW : Hw D A s (wXo cI a o  ++ (wVo cI a (o + 1) (vh S) (vc S) (vA S 0) (vA S 1) (vA S 2) ++ (wR cI a ((o + 1) + 4) (vr S) (vA S 3) (vA S 4) (vA S 5) (vA S 6) ++ (wS cI a ((o + 1) + 9) (vs S) (vA S 7) (vA S 8) (vA S 9) (vA S 10) (vA S 11) (vA S 12) qt qp ++ (wVo cI a (o + 19) (vh S) (vc S) (vA S 0) (vA S 1) (vA S 2) ++ (wR cI a ((o + 19) + 4) (vr S) (vA S 3) (vA S 4) (vA S 5) (vA S 6) ++ (wS cI a ((o + 19) + 9) (vs S) (vA S 7) (vA S 8) (vA S 9) (vA S 10) (vA S 11) (vA S 12) qt qp))))))) H locs := Hw.q6 HW
          refine lv_aload_n hx hb dX3_foresee_51 rfl (lv_at hl 0 rfl) ?_
          refine g_get CX HW in_X3_foresee_3 0 1 rfl rfl (Nat.le_of_ble_eq_true rfl) fl_X3_foresee_16 rfl dX3_foresee_52 ?_
          refine lv_iload_n hx hb dX3_foresee_55 rfl (lv_at hl 1 rfl) ?_
          refine g_callV CX HW hl.1 (wXo cI a o  ++ (wVo cI a (o + 1) (vh S) (vc S) (vA S 0) (vA S 1) (vA S 2) ++ (wR cI a ((o + 1) + 4) (vr S) (vA S 3) (vA S 4) (vA S 5) (vA S 6) ++ (wS cI a ((o + 1) + 9) (vs S) (vA S 7) (vA S 8) (vA S 9) (vA S 10) (vA S 11) (vA S 12) qt qp)))) ([]) (c_X2_letHoursGo (o + 19) S qt qp j hI hR (by omega) (by omega)) rfl 0 rfl rfl gX3_foresee_X2_letHoursGo rfl ⟨rfl, hd_X2_letHoursGo⟩ ⟨rfl, rfl, (Nat.le_of_ble_eq_true rfl), (Nat.le_of_ble_eq_true rfl)⟩ ⟨(Nat.zero_le _), (Nat.zero_le _)⟩ rfl rfl (Nat.le_of_ble_eq_true rfl) dX3_foresee_56 (fun v w1 H locs hp HW => ?_)
          obtain ⟨qt'_1, qp'_1, hr9_1, rfl, rfl⟩ := hp
          have HW : Hw D A s (wXo cI a o  ++ (wVo cI a (o + 1) (vh S) (vc S) (vA S 0) (vA S 1) (vA S 2) ++ (wR cI a ((o + 1) + 4) (vr S) (vA S 3) (vA S 4) (vA S 5) (vA S 6) ++ (wS cI a ((o + 1) + 9) (vs S) (vA S 7) (vA S 8) (vA S 9) (vA S 10) (vA S 11) (vA S 12) qt qp ++ (wVo cI a (o + 19) (vh (hoursS j S)) (vc (hoursS j S)) (vA (hoursS j S) 0) (vA (hoursS j S) 1) (vA (hoursS j S) 2) ++ (wR cI a ((o + 19) + 4) (vr (hoursS j S)) (vA (hoursS j S) 3) (vA (hoursS j S) 4) (vA (hoursS j S) 5) (vA (hoursS j S) 6) ++ (wS cI a ((o + 19) + 9) (vs (hoursS j S)) (vA (hoursS j S) 7) (vA (hoursS j S) 8) (vA (hoursS j S) 9) (vA (hoursS j S) 10) (vA (hoursS j S) 11) (vA (hoursS j S) 12) qt'_1 qp'_1))))))) H locs := HW
          refine W.eq (g2 := F0 m 59 ls [.int (sumP (hoursS j S) - sumP S)]) rfl ?_
          have hR2 := hr9_1
          have hI2 := Inv_hoursS hI hR j
          refine lv_pop hx hb dX3_foresee_59 rfl ?_
          refine lv_aload_n hx hb dX3_foresee_60 rfl (lv_at hl 0 rfl) ?_
          refine g_get CX HW in_X3_foresee_3 0 1 rfl rfl (Nat.le_of_ble_eq_true rfl) fl_X3_foresee_16 rfl dX3_foresee_61 ?_
          refine lv_iload_n hx hb dX3_foresee_64 rfl (lv_at hl 2 rfl) ?_
          refine g_callV CX HW hl.1 (wXo cI a o  ++ (wVo cI a (o + 1) (vh S) (vc S) (vA S 0) (vA S 1) (vA S 2) ++ (wR cI a ((o + 1) + 4) (vr S) (vA S 3) (vA S 4) (vA S 5) (vA S 6) ++ (wS cI a ((o + 1) + 9) (vs S) (vA S 7) (vA S 8) (vA S 9) (vA S 10) (vA S 11) (vA S 12) qt qp)))) ([]) (c_X2_figure (o + 19) (hoursS j S) qt'_1 qp'_1 w hR2 hI2.1 hI2.2.1 (by rw [vh_hoursS]; omega) (by omega)) rfl 0 rfl rfl gX3_foresee_X2_figure rfl ⟨rfl, hd_X2_figure⟩ ⟨rfl, rfl, (Nat.le_of_ble_eq_true rfl), (Nat.le_of_ble_eq_true rfl)⟩ ⟨(Nat.zero_le _), (Nat.zero_le _)⟩ rfl rfl (Nat.le_of_ble_eq_true rfl) dX3_foresee_65 (fun v w1 H locs hp HW => ?_)
          obtain ⟨rfl, rfl⟩ := hp
          have HW : Hw D A s (wXo cI a o  ++ (wVo cI a (o + 1) (vh S) (vc S) (vA S 0) (vA S 1) (vA S 2) ++ (wR cI a ((o + 1) + 4) (vr S) (vA S 3) (vA S 4) (vA S 5) (vA S 6) ++ (wS cI a ((o + 1) + 9) (vs S) (vA S 7) (vA S 8) (vA S 9) (vA S 10) (vA S 11) (vA S 12) qt qp ++ (wVo cI a (o + 19) (vh (hoursS j S)) (vc (hoursS j S)) (vA (hoursS j S) 0) (vA (hoursS j S) 1) (vA (hoursS j S) 2) ++ (wR cI a ((o + 19) + 4) (vr (hoursS j S)) (vA (hoursS j S) 3) (vA (hoursS j S) 4) (vA (hoursS j S) 5) (vA (hoursS j S) 6) ++ (wS cI a ((o + 19) + 9) (vs (hoursS j S)) (vA (hoursS j S) 7) (vA (hoursS j S) 8) (vA (hoursS j S) 9) (vA (hoursS j S) 10) (vA (hoursS j S) 11) (vA (hoursS j S) 12) qt'_1 qp'_1))))))) H locs := HW
          refine W.eq (g2 := F0 m 68 ls [.int (figV (hoursS j S) w)]) rfl ?_
          exact gx_ret (Nat.le_of_ble_eq_true rfl) (Nat.le_of_ble_eq_true rfl) (g_iret CX HW rfl ⟨_, _, _, (by rw [kFor]; rw [if_neg (fun h9 => h9 c7), if_neg (fun h9 => h9 c27)]), by rw [ej, ew], rfl⟩ dX3_foresee_68)
      · exact gx_throw CX hext hZ HW hl.1 hst (cls := exI) (text := "what is not 0 to 8") (ik := 23) (is := 153) (ic := 27) (by decide +kernel) xk_X3_foresee_exI.1 xk_X3_foresee_exI.2 (by decide +kernel) xa_X3_foresee_exI xbad_27 xgood_27 dX3_foresee_30 dX3_foresee_33 dX3_foresee_34 dX3_foresee_36 dX3_foresee_39 (Nat.le_of_ble_eq_true rfl) (Nat.le_of_ble_eq_true rfl) (Nat.le_of_ble_eq_true rfl) (Nat.le_of_ble_eq_true rfl) (Nat.le_of_ble_eq_true rfl) (Nat.le_of_ble_eq_true rfl) (⟨Or.inr (⟨rfl, by rw [kFor]; rw [if_neg (fun h9 => h9 c7), if_pos c27]⟩), rfl⟩)
  · exact gx_throw CX hext hZ HW hl.1 hst (cls := exA) (text := "hours is not 1 to 60") (ik := 30) (is := 158) (ic := 34) (by decide +kernel) xk_X3_foresee_exA.1 xk_X3_foresee_exA.2 (by decide +kernel) xa_X3_foresee_exA xbad_34 xgood_34 dX3_foresee_10 dX3_foresee_13 dX3_foresee_14 dX3_foresee_16 dX3_foresee_19 (Nat.le_of_ble_eq_true rfl) (Nat.le_of_ble_eq_true rfl) (Nat.le_of_ble_eq_true rfl) (Nat.le_of_ble_eq_true rfl) (Nat.le_of_ble_eq_true rfl) (Nat.le_of_ble_eq_true rfl) (⟨Or.inl ⟨rfl, by rw [kFor]; rw [if_pos c7]⟩, rfl⟩)
