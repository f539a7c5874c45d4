theorem wi_nat {x : Int32} (n : Nat) (hn : n < 2 ^ 31) (h : 0 ≤ x ∧ x ≤ nI n) : ∃ k : Nat, k ≤ n ∧ x = nI k := by
  obtain ⟨j, hj, rfl⟩ := nI_of (Int32.not_lt.mpr h.1)
  exact ⟨j, (nI_leI hj hn).mp h.2, rfl⟩
theorem rep_new {ns : Nat} {q : Nat → List Nat} {qt qp : Nat → Int32} (h : Rep ns q qt qp) : Rep (ns + 1) q (upd qt ns (-1)) qp := by
  have hne : ∀ j, j < ns → j ≠ ns := fun j hj => by omega
  refine ⟨fun k hk => ?_, fun t p k ht hp => ?_, fun t ht => ?_⟩
  · by_cases hkn : k = ns
    · left; rw [hkn]; exact pk_us
    · rw [pk_un hkn]; exact h.1 k (by omega)
  · obtain ⟨h1, h2, h3⟩ := h.2.1 t p k ht hp
    exact ⟨by omega, by rw [pk_un (hne k h1)]; exact h2, h3⟩
  · simp only [cntE, cntE_out (Nat.le_refl ns), pk_us]
    rw [if_neg (nI_nm1' (by omega))]; exact h.2.2 t ht
def takeQ (q : Nat → List Nat) (k : Nat) : Nat → List Nat := fun t => if t < 3 then (q t).erase k else q t
abbrev inQ (q : Nat → List Nat) (k : Nat) : Prop := k ∈ q 0 ∨ k ∈ q 1 ∨ k ∈ q 2
def towQ (q : Nat → List Nat) (k : Nat) : Int32 := if k ∈ q 0 then 0 else if k ∈ q 1 then 1 else if k ∈ q 2 then 2 else -1
def standQ (q : Nat → List Nat) (t : Nat) (P : Int32) : Option Nat := if P < 0 then none else (q t)[natI P]?
theorem wi1_nat {x : Int32} (n : Nat) (hn : n < 2 ^ 31) (h : 1 ≤ x ∧ x ≤ nI n) : ∃ k : Nat, 1 ≤ k ∧ k ≤ n ∧ x = nI k := by
  obtain ⟨j, h1, h2⟩ := wi_nat n hn ⟨Int32.le_trans (by decide) h.1, h.2⟩
  subst h2
  exact ⟨j, (nI_leI (a := 1) (b := j) (by decide) (by omega)).mp h.1, h1, rfl⟩
theorem figS_qt {sk cn wx ly pt rd qt qt2 : Nat → Int32} {k w : Nat} (h : qt k = qt2 k) : figS sk cn wx ly pt rd qt k w = figS sk cn wx ly pt rd qt2 k w := by
  unfold figS; split <;> first | rfl | exact h
theorem rep_mem {ns : Nat} {q : Nat → List Nat} {qt qp : Nat → Int32} (h : Rep ns q qt qp) {t k : Nat} (ht : t < 3) (hk : k ∈ q t) : qt k = nI t := by
  obtain ⟨p, hp⟩ := List.getElem?_of_mem hk
  exact (h.2.1 t p k ht hp).2.1
theorem rep_towQ {ns : Nat} {q : Nat → List Nat} {qt qp : Nat → Int32} (h : Rep ns q qt qp) (hn : ns ≤ 8) {k : Nat} (hk : k < ns) : qt k = towQ q k := by
  unfold towQ
  split
  · rename_i h0; exact rep_mem h (by decide) h0
  · split
    · rename_i h1; exact rep_mem h (by decide) h1
    · split
      · rename_i h2; exact rep_mem h (by decide) h2
      · rename_i h0 h1 h2
        rcases h.1 k hk with h3 | ⟨t, p, h3, h4⟩
        · exact h3
        · have h5 := List.mem_of_getElem? h4
          rcases (by omega : t = 0 ∨ t = 1 ∨ t = 2) with rfl | rfl | rfl
          · exact absurd h5 h0
          · exact absurd h5 h1
          · exact absurd h5 h2
theorem rep_inQ {ns : Nat} {q : Nat → List Nat} {qt qp : Nat → Int32} (h : Rep ns q qt qp) (hn : ns ≤ 8) {k : Nat} (hk : k < ns) : inQ q k ↔ ¬ qt k = -1 := by
  constructor
  · rintro (h0 | h0 | h0) <;> rw [rep_mem h (by decide) h0] <;> exact nI_nm1 (by decide)
  · intro h1
    rcases h.1 k hk with h3 | ⟨t, p, h3, h4⟩
    · exact absurd h3 h1
    · have h5 := List.mem_of_getElem? h4
      rcases (by omega : t = 0 ∨ t = 1 ∨ t = 2) with rfl | rfl | rfl
      · exact Or.inl h5
      · exact Or.inr (Or.inl h5)
      · exact Or.inr (Or.inr h5)
theorem erase_at : ∀ {l : List Nat} {p k : Nat}, l[p]? = some k → (∀ p1, l[p1]? = some k → p1 = p) → l.erase k = l.eraseIdx p
  | [], p, k, h, _ => by simp at h
  | a :: l, p, k, h, hu => by
    by_cases ha : a = k
    · have h0 : p = 0 := (hu 0 (by rw [ha]; rfl)).symm
      subst h0
      rw [ha, List.erase_cons_head]; rfl
    · cases p with
      | zero => exact absurd (Option.some.inj h) ha
      | succ p =>
        rw [List.erase_cons_tail (by simpa using ha), List.eraseIdx_cons_succ, erase_at (p := p) h (fun p1 h1 => by have := hu (p1 + 1) h1; omega)]
/-- every one stands once -/
def QU (q : Nat → List Nat) : Prop := ∀ t t1 p p1 k : Nat, t < 3 → t1 < 3 → (q t)[p]? = some k → (q t1)[p1]? = some k → t = t1 ∧ p = p1
theorem rep_qu {ns : Nat} {q : Nat → List Nat} {qt qp : Nat → Int32} (h : Rep ns q qt qp) (hn : ns ≤ 8) : QU q := by
  intro t t1 p p1 k ht ht1 h1 h2
  obtain ⟨-, a1, a2⟩ := h.2.1 t p k ht h1
  obtain ⟨-, b1, b2⟩ := h.2.1 t1 p1 k ht1 h2
  have c1 := rep_plt h hn ht h1
  have c2 := rep_plt h hn ht1 h2
  exact ⟨nI_inj (by omega) (by omega) (a1.symm.trans b1), nI_inj (by omega) (by omega) (a2.symm.trans b2)⟩
theorem takeQ_at {q : Nat → List Nat} (hu : QU q) {t p k : Nat} (ht : t < 3) (hp : (q t)[p]? = some k) : takeQ q k = setQ q t ((q t).eraseIdx p) := by
  funext t1
  unfold takeQ setQ
  by_cases h : t1 = t
  · subst h; rw [if_pos ht, if_pos rfl]
    exact erase_at hp (fun p1 h1 => (hu t1 t1 p1 p k ht ht h1 hp).2)
  · rw [if_neg h]
    split
    · rename_i h1
      exact List.erase_of_not_mem (fun hm => by
        obtain ⟨p1, hp1⟩ := List.getElem?_of_mem hm
        exact h (hu t1 t p1 p k h1 ht hp1 hp).1)
    · rfl
theorem takeQ_no {q : Nat → List Nat} {k : Nat} (h : ∀ t, t < 3 → k ∉ q t) : takeQ q k = q := by
  funext t
  unfold takeQ
  split
  · rename_i ht; exact List.erase_of_not_mem (h t ht)
  · rfl
theorem rep_takeQ {ns : Nat} {q : Nat → List Nat} {qt qp : Nat → Int32} (h : Rep ns q qt qp) (hn : ns ≤ 8) {k : Nat} (hk : k < ns) : Rep ns (takeQ q k) (tkT qt k) (tkQ ns qt qp k) := by
  rcases h.1 k hk with h1 | ⟨t, p, h1, h2⟩
  · rw [takeQ_no (fun t ht hm => absurd h1 (by rw [rep_mem h ht hm]; exact nI_nm1 (by omega))), tkT, tkQ, if_pos h1, if_pos h1]
    exact h
  · rw [takeQ_at (rep_qu h hn) h1 h2]
    exact rep_take h hn h1 h2
section HP
variable {D : va_G} {A : Nat → Prop} {s : State} {H : Heap} {locs : List Loc}
theorem Hw.sw {a b c d : va_W} (h : Hw D A s (a ++ (b ++ (c ++ d))) H locs) : Hw D A s (a ++ (c ++ (b ++ d))) H locs := by
  obtain ⟨h1, h2, h3⟩ := h
  have e1 : a ++ (b ++ (c ++ d)) = ((a ++ b) ++ c) ++ d := by simp only [List.append_assoc]
  have e2 : a ++ (c ++ (b ++ d)) = ((a ++ c) ++ b) ++ d := by simp only [List.append_assoc]
  rw [e1] at h1 h2
  rw [e2]
  have k1 : va_P D vwCl (((a ++ c) ++ b) ++ d) H := by
    have q1 := h1.swap (a := a ++ b) (b := c) (c := d)
    have q2 : va_P D vwCl ((a ++ (b ++ d)) ++ c) H := by rw [show (a ++ (b ++ d)) ++ c = ((a ++ b) ++ d) ++ c by simp only [List.append_assoc]]; exact q1
    have q3 := q2.swap
    rw [show ((a ++ c) ++ b) ++ d = (a ++ c) ++ (b ++ d) by simp only [List.append_assoc]]; exact q3
  have k2 : va_D A (((a ++ c) ++ b) ++ d) := by
    have q1 := h2.swap (a := a ++ b) (b := c) (c := d)
    have q2 : va_D A ((a ++ (b ++ d)) ++ c) := by rw [show (a ++ (b ++ d)) ++ c = ((a ++ b) ++ d) ++ c by simp only [List.append_assoc]]; exact q1
    have q3 := q2.swap
    rw [show ((a ++ c) ++ b) ++ d = (a ++ c) ++ (b ++ d) by simp only [List.append_assoc]]; exact q3
  exact ⟨k1, k2, h3⟩
theorem Hw.p6 {x v1 r1 s1 v2 r2 s2 : va_W} (h : Hw D A s (x ++ (v1 ++ (r1 ++ (s1 ++ (v2 ++ (r2 ++ s2)))))) H locs) : Hw D A s (x ++ (v1 ++ (v2 ++ (r1 ++ (r2 ++ (s1 ++ s2)))))) H locs := by
  have q1 : Hw D A s ((x ++ (v1 ++ r1)) ++ (s1 ++ (v2 ++ (r2 ++ s2)))) H locs := by simp only [List.append_assoc]; exact h
  have q2 := q1.sw
  have q3 : Hw D A s ((x ++ v1) ++ (r1 ++ (v2 ++ (s1 ++ (r2 ++ s2))))) H locs := by simp only [List.append_assoc] at q2 ⊢; exact q2
  have q4 := q3.sw
  have q5 : Hw D A s ((x ++ (v1 ++ (v2 ++ r1))) ++ (s1 ++ (r2 ++ s2))) H locs := by simp only [List.append_assoc] at q4 ⊢; exact q4
  have q6 := q5.sw
  simp only [List.append_assoc] at q6
  exact q6
theorem Hw.q6 {x v1 r1 s1 v2 r2 s2 : va_W} (h : Hw D A s (x ++ (v1 ++ (v2 ++ (r1 ++ (r2 ++ (s1 ++ s2)))))) H locs) : Hw D A s (x ++ (v1 ++ (r1 ++ (s1 ++ (v2 ++ (r2 ++ s2)))))) H locs := by
  have q1 : Hw D A s ((x ++ v1) ++ (v2 ++ (r1 ++ (r2 ++ (s1 ++ s2))))) H locs := by simp only [List.append_assoc]; exact h
  have q2 := q1.sw
  have q3 : Hw D A s ((x ++ (v1 ++ (r1 ++ v2))) ++ (r2 ++ (s1 ++ s2))) H locs := by simp only [List.append_assoc] at q2 ⊢; exact q2
  have q4 := q3.sw
  have q5 : Hw D A s ((x ++ (v1 ++ r1)) ++ (v2 ++ (s1 ++ (r2 ++ s2)))) H locs := by simp only [List.append_assoc] at q4 ⊢; exact q4
  have q6 := q5.sw
  simp only [List.append_assoc] at q6
  exact q6
end HP

theorem wi_ok {k n : Nat} (h : k ≤ n) (hn : n < 2 ^ 31) : 0 ≤ nI k ∧ nI k ≤ nI n := ⟨Int32.not_lt.mp (nI_pos (by omega)), (nI_leI (by omega) hn).mpr h⟩
theorem wi1_ok {k n : Nat} (h1 : 1 ≤ k) (h : k ≤ n) (hn : n < 2 ^ 31) : 1 ≤ nI k ∧ nI k ≤ nI n := ⟨(nI_leI (a := 1) (b := k) (by decide) (by omega)).mpr h1, (nI_leI (by omega) hn).mpr h⟩
theorem has_ok {k n : Nat} (h : k < n) (hn : n < 2 ^ 31) : 0 ≤ nI k ∧ nI k < nI n := ⟨Int32.not_lt.mp (nI_pos (by omega)), (nI_ltI (by omega) hn).mpr h⟩
theorem oI_some {ns : Nat} {q : Nat → List Nat} {qt qp : Nat → Int32} (h : Rep ns q qt qp) (hn : ns ≤ 8) {t z : Nat} (ht : t < 3) (hz : z < (q t).length) : ¬ oI ((q t)[z]?) = -1 := by
  have h1 : (q t)[z]? = some ((q t)[z]) := List.getElem?_eq_getElem hz
  have h2 := (h.2.1 t z _ ht h1).1
  rw [h1]
  exact nI_nm1 (n := (q t)[z]) (by omega)
def gRun (S : VS) (t z : Nat) : VS := mkV (vh S) (vr S + 1) (vs S) (vc S) (setR (setR (setR (vA S) 3 (upd (vA S 3) (vr S) (nI t))) 4 (upd (vA S 4) (vr S) (nI z))) 5 (upd (vA S 5) (vr S) 30)) (vq S)
def gSetP (S : VS) (t z : Nat) : VS := mkV (vh S) (vr S) (vs S) (vc S) (setR (vA S) 1 (upd (vA S 1) t (nI z))) (vq S)
def gSetF (S : VS) (t z : Nat) : VS := mkV (vh S) (vr S) (vs S) (vc S) (setR (vA S) 0 (upd (vA S 0) t (nI z))) (vq S)
def gSki (S : VS) (z y : Nat) : VS := mkV (vh S) (vr S) (vs S + 1) (vc S) (setR (setR (vA S) 7 (upd (vA S 7) (vs S) (nI z))) 8 (upd (vA S 8) (vs S) (nI y))) (vq S)
def gWax (S : VS) (k f : Nat) : VS := mkV (vh S) (vr S) (vs S) (vc S + 2) (setR (setR (setR (vA S) 8 (upd (vA S 8) k (vA S 8 k - 2))) 9 (upd (vA S 9) k (nI f))) 10 (upd (vA S 10) k 10)) (vq S)
def gJoin (S : VS) (k j : Nat) : VS := mkV (vh S) (vr S) (vs S) (vc S) (vA S) (setQ (takeQ (vq S) k) j (takeQ (vq S) k j ++ [k]))
def gLea (S : VS) (k : Nat) : VS := mkV (vh S) (vr S) (vs S) (vc S) (vA S) (takeQ (vq S) k)
def untF (b : Int32) (S : VS) (k : Nat) : Nat → Nat → Int32
  | 0, _ => -1
  | n + 1, j => if b < vA (hoursS (j + 1) S) 12 k then nI (j + 1) else untF b S k n (j + 1)
def untS (S : VS) (k : Nat) : Int32 := untF (vA S 12 k) S k 90 0
def fN (f : Nat → Int32) : Nat → Int64 → Int64
  | 0, d => d
  | n + 1, d => mixI (fN f n d) (f n)
def figK (S : VS) (k w : Nat) : Int32 := figS (vA S 7) (vA S 8) (vA S 9) (vA S 10) (vA S 11) (vA S 12) (towQ (vq S)) k w
def dgR (S : VS) : Nat → Int64 → Int64
  | 0, d => d
  | i + 1, d => fN (figR (vA S 3) (vA S 4) (vA S 5) (vA S 6) i) 5 (dgR S i d)
def dgS (S : VS) : Nat → Int64 → Int64
  | 0, d => d
  | i + 1, d => fN (figK S i) 7 (dgS S i d)
def dgT (S : VS) : Nat → Int64 → Int64
  | 0, d => d
  | i + 1, d => fN (fun z => oI ((vq S i)[z]?)) (vq S i).length (fN (figT S i) 3 (dgT S i d))
def dig (S : VS) : Int64 := dgT S 3 (dgS S (vs S) (dgR S (vr S) (fN (vA S 0) 6 (fN (figV S) 9 1481))))
theorem g_dret {p : Program} {l : Launch} {e : Env} {R : Room} {s : State} {m : MethodId} {args : Array Value} {below : List Frame} {meth : Method} {c : Code} {H : Heap} {locs : List Loc} {cells slots : Nat} {cc : ByteArray} {pc nL : Nat} {ls : Array Slot} {ret : Option FieldType} {own : String} {Ts : List Cond} {D : va_G} {A : Nat → Prop} {tys : List (ClassId × FieldType)} {w : va_W} {post : Option Value → va_W → Prop} (CX : Cx p s m args meth c cc nL ret own Ts D tys A) (HW : Hw D A s w H locs) (hret : ret = some .double) {v : UInt64} (hpost : post (some (.double v)) w) (hdg : decode cc pc = .ok (.dreturn, 1)) : W p l e R s m args below meth c H locs cells slots (MQ below (cQ D A post) args s cells slots A) (F0 m pc ls [.double v]) := by
  obtain ⟨hx, hb, hml, hr, hown, hts, hK, hA, hlk⟩ := CX
  exact W.dret hx hb (by rw [hr, hret]) (fun t ht hW => ⟨⟨_, w, rfl, hpost, by rw [ht]; exact HW.1, HW.2.1⟩, HW.2.2.F ht⟩) HW.2.2.2.2 hdg hlk
theorem hd_X3_run : yX3_run.cls ≠ "java/lang/invoke/MethodHandle" ∧ yX3_run.cls ≠ "java/lang/invoke/VarHandle" ∧ (parseMethodDescriptor yX3_run.desc).map (fun d => d.parameters.length) = some 2 := by decide +kernel
theorem fl_X3_run_10 : Cond.fieldLink RX3 10 (TX3 0).1 (TX3 0).2.1 (TX3 0).2.2.1 ∈ wsX3_run := by decide +kernel
theorem in_X3_run_3 : ∀ x ∈ u_ws RX3 TX3 2, x ∈ wsX3_run := by decide +kernel
theorem fl_X3_run_35 : Cond.fieldLink RX3 35 (TX2 5).1 (TX2 5).2.1 (TX2 5).2.2.1 ∈ wsX3_run := by decide +kernel
theorem in_X3_run_2 : ∀ x ∈ u_ws RX2 TX2 7, x ∈ wsX3_run := by decide +kernel
set_option maxRecDepth 100000 in
set_option maxHeartbeats 4000000 in
theorem c_X3_run {l : Launch} {D : va_G} {cI cL : ClassId} {a : Nat → Nat} (o : Nat) (S : VS) (qt : Nat → Int32) (qp : Nat → Int32) (T : VS) (qt2 : Nat → Int32) (qp2 : Nat → Int32) (t : Nat) (z : Nat) (hn6 : vr S ≤ 6) (hn8 : vs S ≤ 8) (ht : t ≤ 2) (hz1 : 1 ≤ z) (hz : z ≤ 9) (hr : vr S < 6) : Ct l yX3_run wsX3_run { frames := 6, cells := 0, slots := 0, locals := 92 } D (ty2 cI cL) [.ref (a o), .int (nI t), .int (nI z)] (wXo cI a o  ++ (wVo cI a (o + 1) (vh S) (vc S) (vA S 0) (vA S 1) (vA S 2) ++ (wR cI a ((o + 1) + 4) (vr S) (vA S 3) (vA S 4) (vA S 5) (vA S 6) ++ (wS cI a ((o + 1) + 9) (vs S) (vA S 7) (vA S 8) (vA S 9) (vA S 10) (vA S 11) (vA S 12) qt qp ++ (wVo cI a (o + 19) (vh T) (vc T) (vA T 0) (vA T 1) (vA T 2) ++ (wR cI a ((o + 19) + 4) (vr T) (vA T 3) (vA T 4) (vA T 5) (vA T 6) ++ (wS cI a ((o + 19) + 9) (vs T) (vA T 7) (vA T 8) (vA T 9) (vA T 10) (vA T 11) (vA T 12) qt2 qp2))))))) (fun v w' => v = some (.int (nI (vr S))) ∧ w' = wXo cI a o  ++ (wVo cI a (o + 1) (vh (gRun S t z)) (vc (gRun S t z)) (vA (gRun S t z) 0) (vA (gRun S t z) 1) (vA (gRun S t z) 2) ++ (wR cI a ((o + 1) + 4) (vr (gRun S t z)) (vA (gRun S t z) 3) (vA (gRun S t z) 4) (vA (gRun S t z) 5) (vA (gRun S t z) 6) ++ (wS cI a ((o + 1) + 9) (vs (gRun S t z)) (vA (gRun S t z) 7) (vA (gRun S t z) 8) (vA (gRun S t z) 9) (vA (gRun S t z) 10) (vA (gRun S t z) 11) (vA (gRun S t z) 12) qt qp ++ (wVo cI a (o + 19) (vh T) (vc T) (vA T 0) (vA T 1) (vA T 2) ++ (wR cI a ((o + 19) + 4) (vr T) (vA T 3) (vA T 4) (vA T 5) (vA T 6) ++ (wS cI a ((o + 19) + 9) (vs T) (vA T 7) (vA T 8) (vA T 9) (vA T 10) (vA T 11) (vA T 12) qt2 qp2))))))) 0 0 := by
  refine Ct.of (cc := cX3_run) (maxL := 3) (ret := (some .int)) (by decide) rfl (Nat.le_of_ble_eq_true rfl) ?_
  intro p e s m below meth c A ls CX hin HW hl
  obtain ⟨hx, hb, hml, hr, hown, hts, hK, hA, hlk⟩ := id CX
  have hl : lv_has ls 3 [(0, .ref (a o)), (1, .int (nI t)), (2, .int (nI z))] := hl
  have hn6 : vr S ≤ 6 := by first | exact hI.1 | omega
  have hn8 : vs S ≤ 8 := by first | exact hI.2.1 | omega
  refine lv_iload_n hx hb dX3_run_0 rfl (lv_at hl 1 rfl) ?_
  refine lv_iconst (v := 0) hx hb dX3_run_1 (by decide) ?_
  refine lv_iconst (v := 2) hx hb dX3_run_2 (by decide) ?_
  refine g_callS CX HW hl.1 ([]) (wXo cI a o  ++ (wVo cI a (o + 1) (vh S) (vc S) (vA S 0) (vA S 1) (vA S 2) ++ (wR cI a ((o + 1) + 4) (vr S) (vA S 3) (vA S 4) (vA S 5) (vA S 6) ++ (wS cI a ((o + 1) + 9) (vs S) (vA S 7) (vA S 8) (vA S 9) (vA S 10) (vA S 11) (vA S 12) qt qp ++ (wVo cI a (o + 19) (vh T) (vc T) (vA T 0) (vA T 1) (vA T 2) ++ (wR cI a ((o + 19) + 4) (vr T) (vA T 3) (vA T 4) (vA T 5) (vA T 6) ++ (wS cI a ((o + 19) + 9) (vs T) (vA T 7) (vA T 8) (vA T 9) (vA T 10) (vA T 11) (vA T 12) qt2 qp2))))))) (c_X3_isWithin (nI t) (0 : Int32) (2 : Int32)) rfl gX3_run_X3_isWithin rfl hd_X3_isWithin ⟨rfl, rfl, (Nat.le_of_ble_eq_true rfl), (Nat.le_of_ble_eq_true rfl)⟩ ⟨(Nat.zero_le _), (Nat.zero_le _)⟩ rfl rfl (Nat.le_of_ble_eq_true rfl) dX3_run_3 (fun v w1 H locs hp HW => ?_)
  obtain ⟨rfl, rfl⟩ := hp
  have HW : Hw D A s (wXo cI a o  ++ (wVo cI a (o + 1) (vh S) (vc S) (vA S 0) (vA S 1) (vA S 2) ++ (wR cI a ((o + 1) + 4) (vr S) (vA S 3) (vA S 4) (vA S 5) (vA S 6) ++ (wS cI a ((o + 1) + 9) (vs S) (vA S 7) (vA S 8) (vA S 9) (vA S 10) (vA S 11) (vA S 12) qt qp ++ (wVo cI a (o + 19) (vh T) (vc T) (vA T 0) (vA T 1) (vA T 2) ++ (wR cI a ((o + 19) + 4) (vr T) (vA T 3) (vA T 4) (vA T 5) (vA T 6) ++ (wS cI a ((o + 19) + 9) (vs T) (vA T 7) (vA T 8) (vA T 9) (vA T 10) (vA T 11) (vA T 12) qt2 qp2))))))) H locs := HW
  refine W.eq (g2 := F0 m 6 ls [.int (bI ((0 : Int32) ≤ (nI t) ∧ (nI t) ≤ (2 : Int32)))]) rfl ?_
  refine g_ifne_b (tgt := 19) hx hb dX3_run_6 (by decide) (fun c6 => ?_) (fun c6 => ?_)
  · refine lv_iload_n hx hb dX3_run_19 rfl (lv_at hl 2 rfl) ?_
    refine lv_iconst (v := 1) hx hb dX3_run_20 (by decide) ?_
    refine lv_bipush (v := 9) hx hb dX3_run_21 (by decide) ?_
    refine g_callS CX HW hl.1 ([]) (wXo cI a o  ++ (wVo cI a (o + 1) (vh S) (vc S) (vA S 0) (vA S 1) (vA S 2) ++ (wR cI a ((o + 1) + 4) (vr S) (vA S 3) (vA S 4) (vA S 5) (vA S 6) ++ (wS cI a ((o + 1) + 9) (vs S) (vA S 7) (vA S 8) (vA S 9) (vA S 10) (vA S 11) (vA S 12) qt qp ++ (wVo cI a (o + 19) (vh T) (vc T) (vA T 0) (vA T 1) (vA T 2) ++ (wR cI a ((o + 19) + 4) (vr T) (vA T 3) (vA T 4) (vA T 5) (vA T 6) ++ (wS cI a ((o + 19) + 9) (vs T) (vA T 7) (vA T 8) (vA T 9) (vA T 10) (vA T 11) (vA T 12) qt2 qp2))))))) (c_X3_isWithin (nI z) (1 : Int32) (9 : Int32)) rfl gX3_run_X3_isWithin rfl hd_X3_isWithin ⟨rfl, rfl, (Nat.le_of_ble_eq_true rfl), (Nat.le_of_ble_eq_true rfl)⟩ ⟨(Nat.zero_le _), (Nat.zero_le _)⟩ rfl rfl (Nat.le_of_ble_eq_true rfl) dX3_run_23 (fun v w1 H locs hp HW => ?_)
    obtain ⟨rfl, rfl⟩ := hp
    have HW : Hw D A s (wXo cI a o  ++ (wVo cI a (o + 1) (vh S) (vc S) (vA S 0) (vA S 1) (vA S 2) ++ (wR cI a ((o + 1) + 4) (vr S) (vA S 3) (vA S 4) (vA S 5) (vA S 6) ++ (wS cI a ((o + 1) + 9) (vs S) (vA S 7) (vA S 8) (vA S 9) (vA S 10) (vA S 11) (vA S 12) qt qp ++ (wVo cI a (o + 19) (vh T) (vc T) (vA T 0) (vA T 1) (vA T 2) ++ (wR cI a ((o + 19) + 4) (vr T) (vA T 3) (vA T 4) (vA T 5) (vA T 6) ++ (wS cI a ((o + 19) + 9) (vs T) (vA T 7) (vA T 8) (vA T 9) (vA T 10) (vA T 11) (vA T 12) qt2 qp2))))))) H locs := HW
    refine W.eq (g2 := F0 m 26 ls [.int (bI ((1 : Int32) ≤ (nI z) ∧ (nI z) ≤ (9 : Int32)))]) rfl ?_
    refine g_ifne_b (tgt := 39) hx hb dX3_run_26 (by decide) (fun c26 => ?_) (fun c26 => ?_)
    · refine lv_aload_n hx hb dX3_run_39 rfl (lv_at hl 0 rfl) ?_
      refine g_get CX HW in_X3_run_3 0 0 rfl rfl (Nat.le_of_ble_eq_true rfl) fl_X3_run_10 rfl dX3_run_40 ?_
      refine g_get CX HW in_X3_run_2 1 5 rfl rfl (Nat.le_of_ble_eq_true rfl) fl_X3_run_35 rfl dX3_run_43 ?_
      refine g_callV CX HW hl.1 (wXo cI a o  ++ (wVo cI a (o + 1) (vh S) (vc S) (vA S 0) (vA S 1) (vA S 2))) (wS cI a ((o + 1) + 9) (vs S) (vA S 7) (vA S 8) (vA S 9) (vA S 10) (vA S 11) (vA S 12) qt qp ++ (wVo cI a (o + 19) (vh T) (vc T) (vA T 0) (vA T 1) (vA T 2) ++ (wR cI a ((o + 19) + 4) (vr T) (vA T 3) (vA T 4) (vA T 5) (vA T 6) ++ (wS cI a ((o + 19) + 9) (vs T) (vA T 7) (vA T 8) (vA T 9) (vA T 10) (vA T 11) (vA T 12) qt2 qp2)))) (c_X0_isFull ((o + 1) + 4) (vr S) (vA S 3) (vA S 4) (vA S 5) (vA S 6)) rfl 0 rfl rfl gX3_run_X0_isFull rfl ⟨rfl, hd_X0_isFull⟩ ⟨rfl, rfl, (Nat.le_of_ble_eq_true rfl), (Nat.le_of_ble_eq_true rfl)⟩ ⟨(Nat.zero_le _), (Nat.zero_le _)⟩ rfl rfl (Nat.le_of_ble_eq_true rfl) dX3_run_46 (fun v w1 H locs hp HW => ?_)
      obtain ⟨rfl, rfl⟩ := hp
      have HW : Hw D A s (wXo cI a o  ++ (wVo cI a (o + 1) (vh S) (vc S) (vA S 0) (vA S 1) (vA S 2) ++ (wR cI a ((o + 1) + 4) (vr S) (vA S 3) (vA S 4) (vA S 5) (vA S 6) ++ (wS cI a ((o + 1) + 9) (vs S) (vA S 7) (vA S 8) (vA S 9) (vA S 10) (vA S 11) (vA S 12) qt qp ++ (wVo cI a (o + 19) (vh T) (vc T) (vA T 0) (vA T 1) (vA T 2) ++ (wR cI a ((o + 19) + 4) (vr T) (vA T 3) (vA T 4) (vA T 5) (vA T 6) ++ (wS cI a ((o + 19) + 9) (vs T) (vA T 7) (vA T 8) (vA T 9) (vA T 10) (vA T 11) (vA T 12) qt2 qp2))))))) H locs := HW
      refine W.eq (g2 := F0 m 49 ls [.int (bI (6 ≤ nI (vr S)))]) rfl ?_
      refine g_ifeq_b (tgt := 62) hx hb dX3_run_49 (by decide) (fun c49 => ?_) (fun c49 => ?_)
      · refine lv_aload_n hx hb dX3_run_62 rfl (lv_at hl 0 rfl) ?_
        refine g_get CX HW in_X3_run_3 0 0 rfl rfl (Nat.le_of_ble_eq_true rfl) fl_X3_run_10 rfl dX3_run_63 ?_
        refine g_get CX HW in_X3_run_2 1 5 rfl rfl (Nat.le_of_ble_eq_true rfl) fl_X3_run_35 rfl dX3_run_66 ?_
        refine lv_iload_n hx hb dX3_run_69 rfl (lv_at hl 1 rfl) ?_
        refine lv_iload_n hx hb dX3_run_70 rfl (lv_at hl 2 rfl) ?_
        refine g_callV CX HW hl.1 (wXo cI a o  ++ (wVo cI a (o + 1) (vh S) (vc S) (vA S 0) (vA S 1) (vA S 2))) (wS cI a ((o + 1) + 9) (vs S) (vA S 7) (vA S 8) (vA S 9) (vA S 10) (vA S 11) (vA S 12) qt qp ++ (wVo cI a (o + 19) (vh T) (vc T) (vA T 0) (vA T 1) (vA T 2) ++ (wR cI a ((o + 19) + 4) (vr T) (vA T 3) (vA T 4) (vA T 5) (vA T 6) ++ (wS cI a ((o + 19) + 9) (vs T) (vA T 7) (vA T 8) (vA T 9) (vA T 10) (vA T 11) (vA T 12) qt2 qp2)))) (c_X0_add ((o + 1) + 4) (vr S) (vA S 3) (vA S 4) (vA S 5) (vA S 6) (nI t) (nI z) (by omega)) rfl 0 rfl rfl gX3_run_X0_add rfl ⟨rfl, hd_X0_add⟩ ⟨rfl, rfl, (Nat.le_of_ble_eq_true rfl), (Nat.le_of_ble_eq_true rfl)⟩ ⟨(Nat.zero_le _), (Nat.zero_le _)⟩ rfl rfl (Nat.le_of_ble_eq_true rfl) dX3_run_71 (fun v w1 H locs hp HW => ?_)
        obtain ⟨rfl, rfl⟩ := hp
        have HW : Hw D A s (wXo cI a o  ++ (wVo cI a (o + 1) (vh S) (vc S) (vA S 0) (vA S 1) (vA S 2) ++ (wR cI a ((o + 1) + 4) ((vr S) + 1) (upd (vA S 3) (vr S) (nI t)) (upd (vA S 4) (vr S) (nI z)) (upd (vA S 5) (vr S) 30) (vA S 6) ++ (wS cI a ((o + 1) + 9) (vs S) (vA S 7) (vA S 8) (vA S 9) (vA S 10) (vA S 11) (vA S 12) qt qp ++ (wVo cI a (o + 19) (vh T) (vc T) (vA T 0) (vA T 1) (vA T 2) ++ (wR cI a ((o + 19) + 4) (vr T) (vA T 3) (vA T 4) (vA T 5) (vA T 6) ++ (wS cI a ((o + 19) + 9) (vs T) (vA T 7) (vA T 8) (vA T 9) (vA T 10) (vA T 11) (vA T 12) qt2 qp2))))))) H locs := HW
        refine W.eq (g2 := F0 m 74 ls [.int (nI (vr S))]) rfl ?_
        exact g_iret CX HW rfl ⟨rfl, rfl⟩ dX3_run_74
      · exact absurd ((nI_leI (a := 6) (b := vr S) (by decide) (by omega)).mp c49) (by omega)
    · exact absurd (wi1_ok (n := 9) (k := z) (by omega) (by omega) (by decide)) c26
  · exact absurd (wi_ok (n := 2) (k := t) (by omega) (by decide)) c6

theorem hd_X3_setPommels : yX3_setPommels.cls ≠ "java/lang/invoke/MethodHandle" ∧ yX3_setPommels.cls ≠ "java/lang/invoke/VarHandle" ∧ (parseMethodDescriptor yX3_setPommels.desc).map (fun d => d.parameters.length) = some 2 := by decide +kernel
theorem fl_X3_setPommels_10 : Cond.fieldLink RX3 10 (TX3 0).1 (TX3 0).2.1 (TX3 0).2.2.1 ∈ wsX3_setPommels := by decide +kernel
theorem in_X3_setPommels_3 : ∀ x ∈ u_ws RX3 TX3 2, x ∈ wsX3_setPommels := by decide +kernel
theorem fl_X3_setPommels_56 : Cond.fieldLink RX3 56 (TX2 3).1 (TX2 3).2.1 (TX2 3).2.2.1 ∈ wsX3_setPommels := by decide +kernel
theorem in_X3_setPommels_2 : ∀ x ∈ u_ws RX2 TX2 7, x ∈ wsX3_setPommels := by decide +kernel
set_option maxRecDepth 100000 in
set_option maxHeartbeats 4000000 in
theorem c_X3_setPommels {l : Launch} {D : va_G} {cI cL : ClassId} {a : Nat → Nat} (o : Nat) (S : VS) (qt : Nat → Int32) (qp : Nat → Int32) (T : VS) (qt2 : Nat → Int32) (qp2 : Nat → Int32) (t : Nat) (z : Nat) (ht : t ≤ 2) (hz1 : 1 ≤ z) (hz : z ≤ 4) (hn6 : vr S ≤ 6) (hn8 : vs S ≤ 8) : Ct l yX3_setPommels wsX3_setPommels { frames := 6, cells := 0, slots := 0, locals := 92 } D (ty2 cI cL) [.ref (a o), .int (nI t), .int (nI z)] (wXo cI a o  ++ (wVo cI a (o + 1) (vh S) (vc S) (vA S 0) (vA S 1) (vA S 2) ++ (wR cI a ((o + 1) + 4) (vr S) (vA S 3) (vA S 4) (vA S 5) (vA S 6) ++ (wS cI a ((o + 1) + 9) (vs S) (vA S 7) (vA S 8) (vA S 9) (vA S 10) (vA S 11) (vA S 12) qt qp ++ (wVo cI a (o + 19) (vh T) (vc T) (vA T 0) (vA T 1) (vA T 2) ++ (wR cI a ((o + 19) + 4) (vr T) (vA T 3) (vA T 4) (vA T 5) (vA T 6) ++ (wS cI a ((o + 19) + 9) (vs T) (vA T 7) (vA T 8) (vA T 9) (vA T 10) (vA T 11) (vA T 12) qt2 qp2))))))) (fun v w' => v = some (.int (vA S 1 t)) ∧ w' = wXo cI a o  ++ (wVo cI a (o + 1) (vh (gSetP S t z)) (vc (gSetP S t z)) (vA (gSetP S t z) 0) (vA (gSetP S t z) 1) (vA (gSetP S t z) 2) ++ (wR cI a ((o + 1) + 4) (vr (gSetP S t z)) (vA (gSetP S t z) 3) (vA (gSetP S t z) 4) (vA (gSetP S t z) 5) (vA (gSetP S t z) 6) ++ (wS cI a ((o + 1) + 9) (vs (gSetP S t z)) (vA (gSetP S t z) 7) (vA (gSetP S t z) 8) (vA (gSetP S t z) 9) (vA (gSetP S t z) 10) (vA (gSetP S t z) 11) (vA (gSetP S t z) 12) qt qp ++ (wVo cI a (o + 19) (vh T) (vc T) (vA T 0) (vA T 1) (vA T 2) ++ (wR cI a ((o + 19) + 4) (vr T) (vA T 3) (vA T 4) (vA T 5) (vA T 6) ++ (wS cI a ((o + 19) + 9) (vs T) (vA T 7) (vA T 8) (vA T 9) (vA T 10) (vA T 11) (vA T 12) qt2 qp2))))))) 0 0 := by
  refine Ct.of (cc := cX3_setPommels) (maxL := 4) (ret := (some .int)) (by decide) rfl (Nat.le_of_ble_eq_true rfl) ?_
  intro p e s m below meth c A ls CX hin HW hl
  obtain ⟨hx, hb, hml, hr, hown, hts, hK, hA, hlk⟩ := id CX
  have hl : lv_has ls 4 [(0, .ref (a o)), (1, .int (nI t)), (2, .int (nI z))] := hl
  have hn6 : vr S ≤ 6 := by first | exact hI.1 | omega
  have hn8 : vs S ≤ 8 := by first | exact hI.2.1 | omega
  refine lv_iload_n hx hb dX3_setPommels_0 rfl (lv_at hl 1 rfl) ?_
  refine lv_iconst (v := 0) hx hb dX3_setPommels_1 (by decide) ?_
  refine lv_iconst (v := 2) hx hb dX3_setPommels_2 (by decide) ?_
  refine g_callS CX HW hl.1 ([]) (wXo cI a o  ++ (wVo cI a (o + 1) (vh S) (vc S) (vA S 0) (vA S 1) (vA S 2) ++ (wR cI a ((o + 1) + 4) (vr S) (vA S 3) (vA S 4) (vA S 5) (vA S 6) ++ (wS cI a ((o + 1) + 9) (vs S) (vA S 7) (vA S 8) (vA S 9) (vA S 10) (vA S 11) (vA S 12) qt qp ++ (wVo cI a (o + 19) (vh T) (vc T) (vA T 0) (vA T 1) (vA T 2) ++ (wR cI a ((o + 19) + 4) (vr T) (vA T 3) (vA T 4) (vA T 5) (vA T 6) ++ (wS cI a ((o + 19) + 9) (vs T) (vA T 7) (vA T 8) (vA T 9) (vA T 10) (vA T 11) (vA T 12) qt2 qp2))))))) (c_X3_isWithin (nI t) (0 : Int32) (2 : Int32)) rfl gX3_setPommels_X3_isWithin rfl hd_X3_isWithin ⟨rfl, rfl, (Nat.le_of_ble_eq_true rfl), (Nat.le_of_ble_eq_true rfl)⟩ ⟨(Nat.zero_le _), (Nat.zero_le _)⟩ rfl rfl (Nat.le_of_ble_eq_true rfl) dX3_setPommels_3 (fun v w1 H locs hp HW => ?_)
  obtain ⟨rfl, rfl⟩ := hp
  have HW : Hw D A s (wXo cI a o  ++ (wVo cI a (o + 1) (vh S) (vc S) (vA S 0) (vA S 1) (vA S 2) ++ (wR cI a ((o + 1) + 4) (vr S) (vA S 3) (vA S 4) (vA S 5) (vA S 6) ++ (wS cI a ((o + 1) + 9) (vs S) (vA S 7) (vA S 8) (vA S 9) (vA S 10) (vA S 11) (vA S 12) qt qp ++ (wVo cI a (o + 19) (vh T) (vc T) (vA T 0) (vA T 1) (vA T 2) ++ (wR cI a ((o + 19) + 4) (vr T) (vA T 3) (vA T 4) (vA T 5) (vA T 6) ++ (wS cI a ((o + 19) + 9) (vs T) (vA T 7) (vA T 8) (vA T 9) (vA T 10) (vA T 11) (vA T 12) qt2 qp2))))))) H locs := HW
  refine W.eq (g2 := F0 m 6 ls [.int (bI ((0 : Int32) ≤ (nI t) ∧ (nI t) ≤ (2 : Int32)))]) rfl ?_
  refine g_ifne_b (tgt := 19) hx hb dX3_setPommels_6 (by decide) (fun c6 => ?_) (fun c6 => ?_)
  · refine lv_iload_n hx hb dX3_setPommels_19 rfl (lv_at hl 2 rfl) ?_
    refine lv_iconst (v := 1) hx hb dX3_setPommels_20 (by decide) ?_
    refine lv_iconst (v := 4) hx hb dX3_setPommels_21 (by decide) ?_
    refine g_callS CX HW hl.1 ([]) (wXo cI a o  ++ (wVo cI a (o + 1) (vh S) (vc S) (vA S 0) (vA S 1) (vA S 2) ++ (wR cI a ((o + 1) + 4) (vr S) (vA S 3) (vA S 4) (vA S 5) (vA S 6) ++ (wS cI a ((o + 1) + 9) (vs S) (vA S 7) (vA S 8) (vA S 9) (vA S 10) (vA S 11) (vA S 12) qt qp ++ (wVo cI a (o + 19) (vh T) (vc T) (vA T 0) (vA T 1) (vA T 2) ++ (wR cI a ((o + 19) + 4) (vr T) (vA T 3) (vA T 4) (vA T 5) (vA T 6) ++ (wS cI a ((o + 19) + 9) (vs T) (vA T 7) (vA T 8) (vA T 9) (vA T 10) (vA T 11) (vA T 12) qt2 qp2))))))) (c_X3_isWithin (nI z) (1 : Int32) (4 : Int32)) rfl gX3_setPommels_X3_isWithin rfl hd_X3_isWithin ⟨rfl, rfl, (Nat.le_of_ble_eq_true rfl), (Nat.le_of_ble_eq_true rfl)⟩ ⟨(Nat.zero_le _), (Nat.zero_le _)⟩ rfl rfl (Nat.le_of_ble_eq_true rfl) dX3_setPommels_22 (fun v w1 H locs hp HW => ?_)
    obtain ⟨rfl, rfl⟩ := hp
    have HW : Hw D A s (wXo cI a o  ++ (wVo cI a (o + 1) (vh S) (vc S) (vA S 0) (vA S 1) (vA S 2) ++ (wR cI a ((o + 1) + 4) (vr S) (vA S 3) (vA S 4) (vA S 5) (vA S 6) ++ (wS cI a ((o + 1) + 9) (vs S) (vA S 7) (vA S 8) (vA S 9) (vA S 10) (vA S 11) (vA S 12) qt qp ++ (wVo cI a (o + 19) (vh T) (vc T) (vA T 0) (vA T 1) (vA T 2) ++ (wR cI a ((o + 19) + 4) (vr T) (vA T 3) (vA T 4) (vA T 5) (vA T 6) ++ (wS cI a ((o + 19) + 9) (vs T) (vA T 7) (vA T 8) (vA T 9) (vA T 10) (vA T 11) (vA T 12) qt2 qp2))))))) H locs := HW
    refine W.eq (g2 := F0 m 25 ls [.int (bI ((1 : Int32) ≤ (nI z) ∧ (nI z) ≤ (4 : Int32)))]) rfl ?_
    refine g_ifne_b (tgt := 38) hx hb dX3_setPommels_25 (by decide) (fun c25 => ?_) (fun c25 => ?_)
    · refine lv_aload_n hx hb dX3_setPommels_38 rfl (lv_at hl 0 rfl) ?_
      refine g_get CX HW in_X3_setPommels_3 0 0 rfl rfl (Nat.le_of_ble_eq_true rfl) fl_X3_setPommels_10 rfl dX3_setPommels_39 ?_
      refine g_get CX HW in_X3_setPommels_2 1 3 rfl rfl (Nat.le_of_ble_eq_true rfl) fl_X3_setPommels_56 rfl dX3_setPommels_42 ?_
      refine lv_iload_n hx hb dX3_setPommels_45 rfl (lv_at hl 1 rfl) ?_
      refine g_ald CX HW 3 (k := t) rfl rfl rfl (by omega) (Nat.le_of_ble_eq_true rfl) dX3_setPommels_46 ?_
      refine lv_istore_n (lv' := [(3, .int (vA S 1 t)), (0, .ref (a o)), (1, .int (nI t)), (2, .int (nI z))]) hx hb dX3_setPommels_47 rfl hl (Nat.le_of_ble_eq_true rfl) rfl (fun ls hl => ?_)
      refine lv_aload_n hx hb dX3_setPommels_48 rfl (lv_at hl 1 rfl) ?_
      refine g_get CX HW in_X3_setPommels_3 0 0 rfl rfl (Nat.le_of_ble_eq_true rfl) fl_X3_setPommels_10 rfl dX3_setPommels_49 ?_
      refine g_get CX HW in_X3_setPommels_2 1 3 rfl rfl (Nat.le_of_ble_eq_true rfl) fl_X3_setPommels_56 rfl dX3_setPommels_52 ?_
      refine lv_iload_n hx hb dX3_setPommels_55 rfl (lv_at hl 2 rfl) ?_
      refine lv_iload_n hx hb dX3_setPommels_56 rfl (lv_at hl 3 rfl) ?_
      refine g_ast CX HW 3 (k := t) rfl rfl rfl (by omega) (Nat.le_of_ble_eq_true rfl) dX3_setPommels_57 (fun H locs HW => ?_)
      have HW : Hw D A s (wXo cI a o  ++ (wVo cI a (o + 1) (vh S) (vc S) (vA S 0) (upd (vA S 1) t (nI z)) (vA S 2) ++ (wR cI a ((o + 1) + 4) (vr S) (vA S 3) (vA S 4) (vA S 5) (vA S 6) ++ (wS cI a ((o + 1) + 9) (vs S) (vA S 7) (vA S 8) (vA S 9) (vA S 10) (vA S 11) (vA S 12) qt qp ++ (wVo cI a (o + 19) (vh T) (vc T) (vA T 0) (vA T 1) (vA T 2) ++ (wR cI a ((o + 19) + 4) (vr T) (vA T 3) (vA T 4) (vA T 5) (vA T 6) ++ (wS cI a ((o + 19) + 9) (vs T) (vA T 7) (vA T 8) (vA T 9) (vA T 10) (vA T 11) (vA T 12) qt2 qp2))))))) H locs := HW
      refine lv_iload_n hx hb dX3_setPommels_58 rfl (lv_at hl 0 rfl) ?_
      exact g_iret CX HW rfl ⟨rfl, rfl⟩ dX3_setPommels_59
    · exact absurd (wi1_ok (n := 4) (k := z) (by omega) (by omega) (by decide)) c25
  · exact absurd (wi_ok (n := 2) (k := t) (by omega) (by decide)) c6

theorem hd_X3_setFlake : yX3_setFlake.cls ≠ "java/lang/invoke/MethodHandle" ∧ yX3_setFlake.cls ≠ "java/lang/invoke/VarHandle" ∧ (parseMethodDescriptor yX3_setFlake.desc).map (fun d => d.parameters.length) = some 2 := by decide +kernel
theorem fl_X3_setFlake_10 : Cond.fieldLink RX3 10 (TX3 0).1 (TX3 0).2.1 (TX3 0).2.2.1 ∈ wsX3_setFlake := by decide +kernel
theorem in_X3_setFlake_3 : ∀ x ∈ u_ws RX3 TX3 2, x ∈ wsX3_setFlake := by decide +kernel
theorem fl_X3_setFlake_64 : Cond.fieldLink RX3 64 (TX2 2).1 (TX2 2).2.1 (TX2 2).2.2.1 ∈ wsX3_setFlake := by decide +kernel
theorem in_X3_setFlake_2 : ∀ x ∈ u_ws RX2 TX2 7, x ∈ wsX3_setFlake := by decide +kernel
set_option maxRecDepth 100000 in
set_option maxHeartbeats 4000000 in
theorem c_X3_setFlake {l : Launch} {D : va_G} {cI cL : ClassId} {a : Nat → Nat} (o : Nat) (S : VS) (qt : Nat → Int32) (qp : Nat → Int32) (T : VS) (qt2 : Nat → Int32) (qp2 : Nat → Int32) (t : Nat) (z : Nat) (ht : t ≤ 5) (hz : z ≤ 3) (hn6 : vr S ≤ 6) (hn8 : vs S ≤ 8) : Ct l yX3_setFlake wsX3_setFlake { frames := 6, cells := 0, slots := 0, locals := 92 } D (ty2 cI cL) [.ref (a o), .int (nI t), .int (nI z)] (wXo cI a o  ++ (wVo cI a (o + 1) (vh S) (vc S) (vA S 0) (vA S 1) (vA S 2) ++ (wR cI a ((o + 1) + 4) (vr S) (vA S 3) (vA S 4) (vA S 5) (vA S 6) ++ (wS cI a ((o + 1) + 9) (vs S) (vA S 7) (vA S 8) (vA S 9) (vA S 10) (vA S 11) (vA S 12) qt qp ++ (wVo cI a (o + 19) (vh T) (vc T) (vA T 0) (vA T 1) (vA T 2) ++ (wR cI a ((o + 19) + 4) (vr T) (vA T 3) (vA T 4) (vA T 5) (vA T 6) ++ (wS cI a ((o + 19) + 9) (vs T) (vA T 7) (vA T 8) (vA T 9) (vA T 10) (vA T 11) (vA T 12) qt2 qp2))))))) (fun v w' => v = some (.int (vA S 0 t)) ∧ w' = wXo cI a o  ++ (wVo cI a (o + 1) (vh (gSetF S t z)) (vc (gSetF S t z)) (vA (gSetF S t z) 0) (vA (gSetF S t z) 1) (vA (gSetF S t z) 2) ++ (wR cI a ((o + 1) + 4) (vr (gSetF S t z)) (vA (gSetF S t z) 3) (vA (gSetF S t z) 4) (vA (gSetF S t z) 5) (vA (gSetF S t z) 6) ++ (wS cI a ((o + 1) + 9) (vs (gSetF S t z)) (vA (gSetF S t z) 7) (vA (gSetF S t z) 8) (vA (gSetF S t z) 9) (vA (gSetF S t z) 10) (vA (gSetF S t z) 11) (vA (gSetF S t z) 12) qt qp ++ (wVo cI a (o + 19) (vh T) (vc T) (vA T 0) (vA T 1) (vA T 2) ++ (wR cI a ((o + 19) + 4) (vr T) (vA T 3) (vA T 4) (vA T 5) (vA T 6) ++ (wS cI a ((o + 19) + 9) (vs T) (vA T 7) (vA T 8) (vA T 9) (vA T 10) (vA T 11) (vA T 12) qt2 qp2))))))) 0 0 := by
  refine Ct.of (cc := cX3_setFlake) (maxL := 4) (ret := (some .int)) (by decide) rfl (Nat.le_of_ble_eq_true rfl) ?_
  intro p e s m below meth c A ls CX hin HW hl
  obtain ⟨hx, hb, hml, hr, hown, hts, hK, hA, hlk⟩ := id CX
  have hl : lv_has ls 4 [(0, .ref (a o)), (1, .int (nI t)), (2, .int (nI z))] := hl
  have hn6 : vr S ≤ 6 := by first | exact hI.1 | omega
  have hn8 : vs S ≤ 8 := by first | exact hI.2.1 | omega
  refine lv_iload_n hx hb dX3_setFlake_0 rfl (lv_at hl 1 rfl) ?_
  refine lv_iconst (v := 0) hx hb dX3_setFlake_1 (by decide) ?_
  refine lv_iconst (v := 5) hx hb dX3_setFlake_2 (by decide) ?_
  refine g_callS CX HW hl.1 ([]) (wXo cI a o  ++ (wVo cI a (o + 1) (vh S) (vc S) (vA S 0) (vA S 1) (vA S 2) ++ (wR cI a ((o + 1) + 4) (vr S) (vA S 3) (vA S 4) (vA S 5) (vA S 6) ++ (wS cI a ((o + 1) + 9) (vs S) (vA S 7) (vA S 8) (vA S 9) (vA S 10) (vA S 11) (vA S 12) qt qp ++ (wVo cI a (o + 19) (vh T) (vc T) (vA T 0) (vA T 1) (vA T 2) ++ (wR cI a ((o + 19) + 4) (vr T) (vA T 3) (vA T 4) (vA T 5) (vA T 6) ++ (wS cI a ((o + 19) + 9) (vs T) (vA T 7) (vA T 8) (vA T 9) (vA T 10) (vA T 11) (vA T 12) qt2 qp2))))))) (c_X3_isWithin (nI t) (0 : Int32) (5 : Int32)) rfl gX3_setFlake_X3_isWithin rfl hd_X3_isWithin ⟨rfl, rfl, (Nat.le_of_ble_eq_true rfl), (Nat.le_of_ble_eq_true rfl)⟩ ⟨(Nat.zero_le _), (Nat.zero_le _)⟩ rfl rfl (Nat.le_of_ble_eq_true rfl) dX3_setFlake_3 (fun v w1 H locs hp HW => ?_)
  obtain ⟨rfl, rfl⟩ := hp
  have HW : Hw D A s (wXo cI a o  ++ (wVo cI a (o + 1) (vh S) (vc S) (vA S 0) (vA S 1) (vA S 2) ++ (wR cI a ((o + 1) + 4) (vr S) (vA S 3) (vA S 4) (vA S 5) (vA S 6) ++ (wS cI a ((o + 1) + 9) (vs S) (vA S 7) (vA S 8) (vA S 9) (vA S 10) (vA S 11) (vA S 12) qt qp ++ (wVo cI a (o + 19) (vh T) (vc T) (vA T 0) (vA T 1) (vA T 2) ++ (wR cI a ((o + 19) + 4) (vr T) (vA T 3) (vA T 4) (vA T 5) (vA T 6) ++ (wS cI a ((o + 19) + 9) (vs T) (vA T 7) (vA T 8) (vA T 9) (vA T 10) (vA T 11) (vA T 12) qt2 qp2))))))) H locs := HW
  refine W.eq (g2 := F0 m 6 ls [.int (bI ((0 : Int32) ≤ (nI t) ∧ (nI t) ≤ (5 : Int32)))]) rfl ?_
  refine g_ifne_b (tgt := 19) hx hb dX3_setFlake_6 (by decide) (fun c6 => ?_) (fun c6 => ?_)
  · refine lv_iload_n hx hb dX3_setFlake_19 rfl (lv_at hl 2 rfl) ?_
    refine lv_iconst (v := 0) hx hb dX3_setFlake_20 (by decide) ?_
    refine lv_iconst (v := 3) hx hb dX3_setFlake_21 (by decide) ?_
    refine g_callS CX HW hl.1 ([]) (wXo cI a o  ++ (wVo cI a (o + 1) (vh S) (vc S) (vA S 0) (vA S 1) (vA S 2) ++ (wR cI a ((o + 1) + 4) (vr S) (vA S 3) (vA S 4) (vA S 5) (vA S 6) ++ (wS cI a ((o + 1) + 9) (vs S) (vA S 7) (vA S 8) (vA S 9) (vA S 10) (vA S 11) (vA S 12) qt qp ++ (wVo cI a (o + 19) (vh T) (vc T) (vA T 0) (vA T 1) (vA T 2) ++ (wR cI a ((o + 19) + 4) (vr T) (vA T 3) (vA T 4) (vA T 5) (vA T 6) ++ (wS cI a ((o + 19) + 9) (vs T) (vA T 7) (vA T 8) (vA T 9) (vA T 10) (vA T 11) (vA T 12) qt2 qp2))))))) (c_X3_isWithin (nI z) (0 : Int32) (3 : Int32)) rfl gX3_setFlake_X3_isWithin rfl hd_X3_isWithin ⟨rfl, rfl, (Nat.le_of_ble_eq_true rfl), (Nat.le_of_ble_eq_true rfl)⟩ ⟨(Nat.zero_le _), (Nat.zero_le _)⟩ rfl rfl (Nat.le_of_ble_eq_true rfl) dX3_setFlake_22 (fun v w1 H locs hp HW => ?_)
    obtain ⟨rfl, rfl⟩ := hp
    have HW : Hw D A s (wXo cI a o  ++ (wVo cI a (o + 1) (vh S) (vc S) (vA S 0) (vA S 1) (vA S 2) ++ (wR cI a ((o + 1) + 4) (vr S) (vA S 3) (vA S 4) (vA S 5) (vA S 6) ++ (wS cI a ((o + 1) + 9) (vs S) (vA S 7) (vA S 8) (vA S 9) (vA S 10) (vA S 11) (vA S 12) qt qp ++ (wVo cI a (o + 19) (vh T) (vc T) (vA T 0) (vA T 1) (vA T 2) ++ (wR cI a ((o + 19) + 4) (vr T) (vA T 3) (vA T 4) (vA T 5) (vA T 6) ++ (wS cI a ((o + 19) + 9) (vs T) (vA T 7) (vA T 8) (vA T 9) (vA T 10) (vA T 11) (vA T 12) qt2 qp2))))))) H locs := HW
    refine W.eq (g2 := F0 m 25 ls [.int (bI ((0 : Int32) ≤ (nI z) ∧ (nI z) ≤ (3 : Int32)))]) rfl ?_
    refine g_ifne_b (tgt := 38) hx hb dX3_setFlake_25 (by decide) (fun c25 => ?_) (fun c25 => ?_)
    · refine lv_aload_n hx hb dX3_setFlake_38 rfl (lv_at hl 0 rfl) ?_
      refine g_get CX HW in_X3_setFlake_3 0 0 rfl rfl (Nat.le_of_ble_eq_true rfl) fl_X3_setFlake_10 rfl dX3_setFlake_39 ?_
      refine g_get CX HW in_X3_setFlake_2 1 2 rfl rfl (Nat.le_of_ble_eq_true rfl) fl_X3_setFlake_64 rfl dX3_setFlake_42 ?_
      refine lv_iload_n hx hb dX3_setFlake_45 rfl (lv_at hl 1 rfl) ?_
      refine g_ald CX HW 2 (k := t) rfl rfl rfl (by omega) (Nat.le_of_ble_eq_true rfl) dX3_setFlake_46 ?_
      refine lv_istore_n (lv' := [(3, .int (vA S 0 t)), (0, .ref (a o)), (1, .int (nI t)), (2, .int (nI z))]) hx hb dX3_setFlake_47 rfl hl (Nat.le_of_ble_eq_true rfl) rfl (fun ls hl => ?_)
      refine lv_aload_n hx hb dX3_setFlake_48 rfl (lv_at hl 1 rfl) ?_
      refine g_get CX HW in_X3_setFlake_3 0 0 rfl rfl (Nat.le_of_ble_eq_true rfl) fl_X3_setFlake_10 rfl dX3_setFlake_49 ?_
      refine g_get CX HW in_X3_setFlake_2 1 2 rfl rfl (Nat.le_of_ble_eq_true rfl) fl_X3_setFlake_64 rfl dX3_setFlake_52 ?_
      refine lv_iload_n hx hb dX3_setFlake_55 rfl (lv_at hl 2 rfl) ?_
      refine lv_iload_n hx hb dX3_setFlake_56 rfl (lv_at hl 3 rfl) ?_
      refine g_ast CX HW 2 (k := t) rfl rfl rfl (by omega) (Nat.le_of_ble_eq_true rfl) dX3_setFlake_57 (fun H locs HW => ?_)
      have HW : Hw D A s (wXo cI a o  ++ (wVo cI a (o + 1) (vh S) (vc S) (upd (vA S 0) t (nI z)) (vA S 1) (vA S 2) ++ (wR cI a ((o + 1) + 4) (vr S) (vA S 3) (vA S 4) (vA S 5) (vA S 6) ++ (wS cI a ((o + 1) + 9) (vs S) (vA S 7) (vA S 8) (vA S 9) (vA S 10) (vA S 11) (vA S 12) qt qp ++ (wVo cI a (o + 19) (vh T) (vc T) (vA T 0) (vA T 1) (vA T 2) ++ (wR cI a ((o + 19) + 4) (vr T) (vA T 3) (vA T 4) (vA T 5) (vA T 6) ++ (wS cI a ((o + 19) + 9) (vs T) (vA T 7) (vA T 8) (vA T 9) (vA T 10) (vA T 11) (vA T 12) qt2 qp2))))))) H locs := HW
      refine lv_iload_n hx hb dX3_setFlake_58 rfl (lv_at hl 0 rfl) ?_
      exact g_iret CX HW rfl ⟨rfl, rfl⟩ dX3_setFlake_59
    · exact absurd (wi_ok (n := 3) (k := z) (by omega) (by decide)) c25
  · exact absurd (wi_ok (n := 5) (k := t) (by omega) (by decide)) c6

theorem hd_X3_skier : yX3_skier.cls ≠ "java/lang/invoke/MethodHandle" ∧ yX3_skier.cls ≠ "java/lang/invoke/VarHandle" ∧ (parseMethodDescriptor yX3_skier.desc).map (fun d => d.parameters.length) = some 2 := by decide +kernel
theorem fl_X3_skier_10 : Cond.fieldLink RX3 10 (TX3 0).1 (TX3 0).2.1 (TX3 0).2.2.1 ∈ wsX3_skier := by decide +kernel
theorem in_X3_skier_3 : ∀ x ∈ u_ws RX3 TX3 2, x ∈ wsX3_skier := by decide +kernel
theorem fl_X3_skier_97 : Cond.fieldLink RX3 97 (TX2 6).1 (TX2 6).2.1 (TX2 6).2.2.1 ∈ wsX3_skier := by decide +kernel
theorem in_X3_skier_2 : ∀ x ∈ u_ws RX2 TX2 7, x ∈ wsX3_skier := by decide +kernel
set_option maxRecDepth 100000 in
set_option maxHeartbeats 4000000 in
theorem c_X3_skier {l : Launch} {D : va_G} {cI cL : ClassId} {a : Nat → Nat} (o : Nat) (S : VS) (qt : Nat → Int32) (qp : Nat → Int32) (T : VS) (qt2 : Nat → Int32) (qp2 : Nat → Int32) (z : Nat) (y : Nat) (hn6 : vr S ≤ 6) (hn8 : vs S ≤ 8) (hR : Rep (vs S) (vq S) qt qp) (hz1 : 1 ≤ z) (hz : z ≤ 9) (hy : y ≤ 60) (hv : vs S < 8) : Ct l yX3_skier wsX3_skier { frames := 6, cells := 0, slots := 0, locals := 92 } D (ty2 cI cL) [.ref (a o), .int (nI z), .int (nI y)] (wXo cI a o  ++ (wVo cI a (o + 1) (vh S) (vc S) (vA S 0) (vA S 1) (vA S 2) ++ (wR cI a ((o + 1) + 4) (vr S) (vA S 3) (vA S 4) (vA S 5) (vA S 6) ++ (wS cI a ((o + 1) + 9) (vs S) (vA S 7) (vA S 8) (vA S 9) (vA S 10) (vA S 11) (vA S 12) qt qp ++ (wVo cI a (o + 19) (vh T) (vc T) (vA T 0) (vA T 1) (vA T 2) ++ (wR cI a ((o + 19) + 4) (vr T) (vA T 3) (vA T 4) (vA T 5) (vA T 6) ++ (wS cI a ((o + 19) + 9) (vs T) (vA T 7) (vA T 8) (vA T 9) (vA T 10) (vA T 11) (vA T 12) qt2 qp2))))))) (fun v w' => ∃ (qt' : Nat → Int32) (qp' : Nat → Int32), (Rep (vs (gSki S z y)) (vq (gSki S z y)) qt' qp') ∧ v = some (.int (nI (vs S))) ∧ w' = wXo cI a o  ++ (wVo cI a (o + 1) (vh (gSki S z y)) (vc (gSki S z y)) (vA (gSki S z y) 0) (vA (gSki S z y) 1) (vA (gSki S z y) 2) ++ (wR cI a ((o + 1) + 4) (vr (gSki S z y)) (vA (gSki S z y) 3) (vA (gSki S z y) 4) (vA (gSki S z y) 5) (vA (gSki S z y) 6) ++ (wS cI a ((o + 1) + 9) (vs (gSki S z y)) (vA (gSki S z y) 7) (vA (gSki S z y) 8) (vA (gSki S z y) 9) (vA (gSki S z y) 10) (vA (gSki S z y) 11) (vA (gSki S z y) 12) qt' qp' ++ (wVo cI a (o + 19) (vh T) (vc T) (vA T 0) (vA T 1) (vA T 2) ++ (wR cI a ((o + 19) + 4) (vr T) (vA T 3) (vA T 4) (vA T 5) (vA T 6) ++ (wS cI a ((o + 19) + 9) (vs T) (vA T 7) (vA T 8) (vA T 9) (vA T 10) (vA T 11) (vA T 12) qt2 qp2))))))) 0 0 := by
  refine Ct.of (cc := cX3_skier) (maxL := 3) (ret := (some .int)) (by decide) rfl (Nat.le_of_ble_eq_true rfl) ?_
  intro p e s m below meth c A ls CX hin HW hl
  obtain ⟨hx, hb, hml, hr, hown, hts, hK, hA, hlk⟩ := id CX
  have hl : lv_has ls 3 [(0, .ref (a o)), (1, .int (nI z)), (2, .int (nI y))] := hl
  have hn6 : vr S ≤ 6 := by first | exact hI.1 | omega
  have hn8 : vs S ≤ 8 := by first | exact hI.2.1 | omega
  refine lv_iload_n hx hb dX3_skier_0 rfl (lv_at hl 1 rfl) ?_
  refine lv_iconst (v := 1) hx hb dX3_skier_1 (by decide) ?_
  refine lv_bipush (v := 9) hx hb dX3_skier_2 (by decide) ?_
  refine g_callS CX HW hl.1 ([]) (wXo cI a o  ++ (wVo cI a (o + 1) (vh S) (vc S) (vA S 0) (vA S 1) (vA S 2) ++ (wR cI a ((o + 1) + 4) (vr S) (vA S 3) (vA S 4) (vA S 5) (vA S 6) ++ (wS cI a ((o + 1) + 9) (vs S) (vA S 7) (vA S 8) (vA S 9) (vA S 10) (vA S 11) (vA S 12) qt qp ++ (wVo cI a (o + 19) (vh T) (vc T) (vA T 0) (vA T 1) (vA T 2) ++ (wR cI a ((o + 19) + 4) (vr T) (vA T 3) (vA T 4) (vA T 5) (vA T 6) ++ (wS cI a ((o + 19) + 9) (vs T) (vA T 7) (vA T 8) (vA T 9) (vA T 10) (vA T 11) (vA T 12) qt2 qp2))))))) (c_X3_isWithin (nI z) (1 : Int32) (9 : Int32)) rfl gX3_skier_X3_isWithin rfl hd_X3_isWithin ⟨rfl, rfl, (Nat.le_of_ble_eq_true rfl), (Nat.le_of_ble_eq_true rfl)⟩ ⟨(Nat.zero_le _), (Nat.zero_le _)⟩ rfl rfl (Nat.le_of_ble_eq_true rfl) dX3_skier_4 (fun v w1 H locs hp HW => ?_)
  obtain ⟨rfl, rfl⟩ := hp
  have HW : Hw D A s (wXo cI a o  ++ (wVo cI a (o + 1) (vh S) (vc S) (vA S 0) (vA S 1) (vA S 2) ++ (wR cI a ((o + 1) + 4) (vr S) (vA S 3) (vA S 4) (vA S 5) (vA S 6) ++ (wS cI a ((o + 1) + 9) (vs S) (vA S 7) (vA S 8) (vA S 9) (vA S 10) (vA S 11) (vA S 12) qt qp ++ (wVo cI a (o + 19) (vh T) (vc T) (vA T 0) (vA T 1) (vA T 2) ++ (wR cI a ((o + 19) + 4) (vr T) (vA T 3) (vA T 4) (vA T 5) (vA T 6) ++ (wS cI a ((o + 19) + 9) (vs T) (vA T 7) (vA T 8) (vA T 9) (vA T 10) (vA T 11) (vA T 12) qt2 qp2))))))) H locs := HW
  refine W.eq (g2 := F0 m 7 ls [.int (bI ((1 : Int32) ≤ (nI z) ∧ (nI z) ≤ (9 : Int32)))]) rfl ?_
  refine g_ifne_b (tgt := 20) hx hb dX3_skier_7 (by decide) (fun c7 => ?_) (fun c7 => ?_)
  · refine lv_iload_n hx hb dX3_skier_20 rfl (lv_at hl 2 rfl) ?_
    refine lv_iconst (v := 0) hx hb dX3_skier_21 (by decide) ?_
    refine lv_bipush (v := 60) hx hb dX3_skier_22 (by decide) ?_
    refine g_callS CX HW hl.1 ([]) (wXo cI a o  ++ (wVo cI a (o + 1) (vh S) (vc S) (vA S 0) (vA S 1) (vA S 2) ++ (wR cI a ((o + 1) + 4) (vr S) (vA S 3) (vA S 4) (vA S 5) (vA S 6) ++ (wS cI a ((o + 1) + 9) (vs S) (vA S 7) (vA S 8) (vA S 9) (vA S 10) (vA S 11) (vA S 12) qt qp ++ (wVo cI a (o + 19) (vh T) (vc T) (vA T 0) (vA T 1) (vA T 2) ++ (wR cI a ((o + 19) + 4) (vr T) (vA T 3) (vA T 4) (vA T 5) (vA T 6) ++ (wS cI a ((o + 19) + 9) (vs T) (vA T 7) (vA T 8) (vA T 9) (vA T 10) (vA T 11) (vA T 12) qt2 qp2))))))) (c_X3_isWithin (nI y) (0 : Int32) (60 : Int32)) rfl gX3_skier_X3_isWithin rfl hd_X3_isWithin ⟨rfl, rfl, (Nat.le_of_ble_eq_true rfl), (Nat.le_of_ble_eq_true rfl)⟩ ⟨(Nat.zero_le _), (Nat.zero_le _)⟩ rfl rfl (Nat.le_of_ble_eq_true rfl) dX3_skier_24 (fun v w1 H locs hp HW => ?_)
    obtain ⟨rfl, rfl⟩ := hp
    have HW : Hw D A s (wXo cI a o  ++ (wVo cI a (o + 1) (vh S) (vc S) (vA S 0) (vA S 1) (vA S 2) ++ (wR cI a ((o + 1) + 4) (vr S) (vA S 3) (vA S 4) (vA S 5) (vA S 6) ++ (wS cI a ((o + 1) + 9) (vs S) (vA S 7) (vA S 8) (vA S 9) (vA S 10) (vA S 11) (vA S 12) qt qp ++ (wVo cI a (o + 19) (vh T) (vc T) (vA T 0) (vA T 1) (vA T 2) ++ (wR cI a ((o + 19) + 4) (vr T) (vA T 3) (vA T 4) (vA T 5) (vA T 6) ++ (wS cI a ((o + 19) + 9) (vs T) (vA T 7) (vA T 8) (vA T 9) (vA T 10) (vA T 11) (vA T 12) qt2 qp2))))))) H locs := HW
    refine W.eq (g2 := F0 m 27 ls [.int (bI ((0 : Int32) ≤ (nI y) ∧ (nI y) ≤ (60 : Int32)))]) rfl ?_
    refine g_ifne_b (tgt := 40) hx hb dX3_skier_27 (by decide) (fun c27 => ?_) (fun c27 => ?_)
    · refine lv_aload_n hx hb dX3_skier_40 rfl (lv_at hl 0 rfl) ?_
      refine g_get CX HW in_X3_skier_3 0 0 rfl rfl (Nat.le_of_ble_eq_true rfl) fl_X3_skier_10 rfl dX3_skier_41 ?_
      refine g_get CX HW in_X3_skier_2 1 6 rfl rfl (Nat.le_of_ble_eq_true rfl) fl_X3_skier_97 rfl dX3_skier_44 ?_
      refine g_callV CX HW hl.1 (wXo cI a o  ++ (wVo cI a (o + 1) (vh S) (vc S) (vA S 0) (vA S 1) (vA S 2) ++ (wR cI a ((o + 1) + 4) (vr S) (vA S 3) (vA S 4) (vA S 5) (vA S 6)))) (wVo cI a (o + 19) (vh T) (vc T) (vA T 0) (vA T 1) (vA T 2) ++ (wR cI a ((o + 19) + 4) (vr T) (vA T 3) (vA T 4) (vA T 5) (vA T 6) ++ (wS cI a ((o + 19) + 9) (vs T) (vA T 7) (vA T 8) (vA T 9) (vA T 10) (vA T 11) (vA T 12) qt2 qp2))) (c_X1_isFull ((o + 1) + 9) (vs S) (vA S 7) (vA S 8) (vA S 9) (vA S 10) (vA S 11) (vA S 12) qt qp) rfl 0 rfl rfl gX3_skier_X1_isFull rfl ⟨rfl, hd_X1_isFull⟩ ⟨rfl, rfl, (Nat.le_of_ble_eq_true rfl), (Nat.le_of_ble_eq_true rfl)⟩ ⟨(Nat.zero_le _), (Nat.zero_le _)⟩ rfl rfl (Nat.le_of_ble_eq_true rfl) dX3_skier_47 (fun v w1 H locs hp HW => ?_)
      obtain ⟨rfl, rfl⟩ := hp
      have HW : Hw D A s (wXo cI a o  ++ (wVo cI a (o + 1) (vh S) (vc S) (vA S 0) (vA S 1) (vA S 2) ++ (wR cI a ((o + 1) + 4) (vr S) (vA S 3) (vA S 4) (vA S 5) (vA S 6) ++ (wS cI a ((o + 1) + 9) (vs S) (vA S 7) (vA S 8) (vA S 9) (vA S 10) (vA S 11) (vA S 12) qt qp ++ (wVo cI a (o + 19) (vh T) (vc T) (vA T 0) (vA T 1) (vA T 2) ++ (wR cI a ((o + 19) + 4) (vr T) (vA T 3) (vA T 4) (vA T 5) (vA T 6) ++ (wS cI a ((o + 19) + 9) (vs T) (vA T 7) (vA T 8) (vA T 9) (vA T 10) (vA T 11) (vA T 12) qt2 qp2))))))) H locs := HW
      refine W.eq (g2 := F0 m 50 ls [.int (bI (8 ≤ nI (vs S)))]) rfl ?_
      refine g_ifeq_b (tgt := 63) hx hb dX3_skier_50 (by decide) (fun c50 => ?_) (fun c50 => ?_)
      · refine lv_aload_n hx hb dX3_skier_63 rfl (lv_at hl 0 rfl) ?_
        refine g_get CX HW in_X3_skier_3 0 0 rfl rfl (Nat.le_of_ble_eq_true rfl) fl_X3_skier_10 rfl dX3_skier_64 ?_
        refine g_get CX HW in_X3_skier_2 1 6 rfl rfl (Nat.le_of_ble_eq_true rfl) fl_X3_skier_97 rfl dX3_skier_67 ?_
        refine lv_iload_n hx hb dX3_skier_70 rfl (lv_at hl 1 rfl) ?_
        refine lv_iload_n hx hb dX3_skier_71 rfl (lv_at hl 2 rfl) ?_
        refine g_callV CX HW hl.1 (wXo cI a o  ++ (wVo cI a (o + 1) (vh S) (vc S) (vA S 0) (vA S 1) (vA S 2) ++ (wR cI a ((o + 1) + 4) (vr S) (vA S 3) (vA S 4) (vA S 5) (vA S 6)))) (wVo cI a (o + 19) (vh T) (vc T) (vA T 0) (vA T 1) (vA T 2) ++ (wR cI a ((o + 19) + 4) (vr T) (vA T 3) (vA T 4) (vA T 5) (vA T 6) ++ (wS cI a ((o + 19) + 9) (vs T) (vA T 7) (vA T 8) (vA T 9) (vA T 10) (vA T 11) (vA T 12) qt2 qp2))) (c_X1_add ((o + 1) + 9) (vs S) (vA S 7) (vA S 8) (vA S 9) (vA S 10) (vA S 11) (vA S 12) qt qp (nI z) (nI y) (by omega)) rfl 0 rfl rfl gX3_skier_X1_add rfl ⟨rfl, hd_X1_add⟩ ⟨rfl, rfl, (Nat.le_of_ble_eq_true rfl), (Nat.le_of_ble_eq_true rfl)⟩ ⟨(Nat.zero_le _), (Nat.zero_le _)⟩ rfl rfl (Nat.le_of_ble_eq_true rfl) dX3_skier_72 (fun v w1 H locs hp HW => ?_)
        obtain ⟨rfl, rfl⟩ := hp
        have HW : Hw D A s (wXo cI a o  ++ (wVo cI a (o + 1) (vh S) (vc S) (vA S 0) (vA S 1) (vA S 2) ++ (wR cI a ((o + 1) + 4) (vr S) (vA S 3) (vA S 4) (vA S 5) (vA S 6) ++ (wS cI a ((o + 1) + 9) ((vs S) + 1) (upd (vA S 7) (vs S) (nI z)) (upd (vA S 8) (vs S) (nI y)) (vA S 9) (vA S 10) (vA S 11) (vA S 12) (upd qt (vs S) (-1)) qp ++ (wVo cI a (o + 19) (vh T) (vc T) (vA T 0) (vA T 1) (vA T 2) ++ (wR cI a ((o + 19) + 4) (vr T) (vA T 3) (vA T 4) (vA T 5) (vA T 6) ++ (wS cI a ((o + 19) + 9) (vs T) (vA T 7) (vA T 8) (vA T 9) (vA T 10) (vA T 11) (vA T 12) qt2 qp2))))))) H locs := HW
        refine W.eq (g2 := F0 m 75 ls [.int (nI (vs S))]) rfl ?_
        exact g_iret CX HW rfl ⟨_, _, rep_new hR, rfl, rfl⟩ dX3_skier_75
      · exact absurd ((nI_leI (a := 8) (b := vs S) (by decide) (by omega)).mp c50) (by omega)
    · exact absurd (wi_ok (n := 60) (k := y) (by omega) (by decide)) c27
  · exact absurd (wi1_ok (n := 9) (k := z) (by omega) (by omega) (by decide)) c7

theorem hd_X3_wax : yX3_wax.cls ≠ "java/lang/invoke/MethodHandle" ∧ yX3_wax.cls ≠ "java/lang/invoke/VarHandle" ∧ (parseMethodDescriptor yX3_wax.desc).map (fun d => d.parameters.length) = some 2 := by decide +kernel
theorem fl_X3_wax_10 : Cond.fieldLink RX3 10 (TX3 0).1 (TX3 0).2.1 (TX3 0).2.2.1 ∈ wsX3_wax := by decide +kernel
theorem in_X3_wax_3 : ∀ x ∈ u_ws RX3 TX3 2, x ∈ wsX3_wax := by decide +kernel
theorem fl_X3_wax_97 : Cond.fieldLink RX3 97 (TX2 6).1 (TX2 6).2.1 (TX2 6).2.2.1 ∈ wsX3_wax := by decide +kernel
theorem in_X3_wax_2 : ∀ x ∈ u_ws RX2 TX2 7, x ∈ wsX3_wax := by decide +kernel
theorem fl_X3_wax_112 : Cond.fieldLink RX3 112 (TX1 2).1 (TX1 2).2.1 (TX1 2).2.2.1 ∈ wsX3_wax := by decide +kernel
theorem in_X3_wax_1 : ∀ x ∈ u_ws RX1 TX1 9, x ∈ wsX3_wax := by decide +kernel
theorem fl_X3_wax_73 : Cond.fieldLink RX3 73 (TX2 1).1 (TX2 1).2.1 (TX2 1).2.2.1 ∈ wsX3_wax := by decide +kernel
set_option maxRecDepth 100000 in
set_option maxHeartbeats 4000000 in
theorem c_X3_wax {l : Launch} {D : va_G} {cI cL : ClassId} {a : Nat → Nat} (o : Nat) (S : VS) (qt : Nat → Int32) (qp : Nat → Int32) (T : VS) (qt2 : Nat → Int32) (qp2 : Nat → Int32) (k : Nat) (f : Nat) (hn6 : vr S ≤ 6) (hn8 : vs S ≤ 8) (hk : k < vs S) (hf : f ≤ 3) (hc : 2 ≤ vA S 8 k) : Ct l yX3_wax wsX3_wax { frames := 6, cells := 0, slots := 0, locals := 92 } D (ty2 cI cL) [.ref (a o), .int (nI k), .int (nI f)] (wXo cI a o  ++ (wVo cI a (o + 1) (vh S) (vc S) (vA S 0) (vA S 1) (vA S 2) ++ (wR cI a ((o + 1) + 4) (vr S) (vA S 3) (vA S 4) (vA S 5) (vA S 6) ++ (wS cI a ((o + 1) + 9) (vs S) (vA S 7) (vA S 8) (vA S 9) (vA S 10) (vA S 11) (vA S 12) qt qp ++ (wVo cI a (o + 19) (vh T) (vc T) (vA T 0) (vA T 1) (vA T 2) ++ (wR cI a ((o + 19) + 4) (vr T) (vA T 3) (vA T 4) (vA T 5) (vA T 6) ++ (wS cI a ((o + 19) + 9) (vs T) (vA T 7) (vA T 8) (vA T 9) (vA T 10) (vA T 11) (vA T 12) qt2 qp2))))))) (fun v w' => v = some (.int (vA S 8 k - 2)) ∧ w' = wXo cI a o  ++ (wVo cI a (o + 1) (vh (gWax S k f)) (vc (gWax S k f)) (vA (gWax S k f) 0) (vA (gWax S k f) 1) (vA (gWax S k f) 2) ++ (wR cI a ((o + 1) + 4) (vr (gWax S k f)) (vA (gWax S k f) 3) (vA (gWax S k f) 4) (vA (gWax S k f) 5) (vA (gWax S k f) 6) ++ (wS cI a ((o + 1) + 9) (vs (gWax S k f)) (vA (gWax S k f) 7) (vA (gWax S k f) 8) (vA (gWax S k f) 9) (vA (gWax S k f) 10) (vA (gWax S k f) 11) (vA (gWax S k f) 12) qt qp ++ (wVo cI a (o + 19) (vh T) (vc T) (vA T 0) (vA T 1) (vA T 2) ++ (wR cI a ((o + 19) + 4) (vr T) (vA T 3) (vA T 4) (vA T 5) (vA T 6) ++ (wS cI a ((o + 19) + 9) (vs T) (vA T 7) (vA T 8) (vA T 9) (vA T 10) (vA T 11) (vA T 12) qt2 qp2))))))) 0 0 := by
  refine Ct.of (cc := cX3_wax) (maxL := 3) (ret := (some .int)) (by decide) rfl (Nat.le_of_ble_eq_true rfl) ?_
  intro p e s m below meth c A ls CX hin HW hl
  obtain ⟨hx, hb, hml, hr, hown, hts, hK, hA, hlk⟩ := id CX
  have hl : lv_has ls 3 [(0, .ref (a o)), (1, .int (nI k)), (2, .int (nI f))] := hl
  have hn6 : vr S ≤ 6 := by first | exact hI.1 | omega
  have hn8 : vs S ≤ 8 := by first | exact hI.2.1 | omega
  refine lv_aload_n hx hb dX3_wax_0 rfl (lv_at hl 0 rfl) ?_
  refine g_get CX HW in_X3_wax_3 0 0 rfl rfl (Nat.le_of_ble_eq_true rfl) fl_X3_wax_10 rfl dX3_wax_1 ?_
  refine g_get CX HW in_X3_wax_2 1 6 rfl rfl (Nat.le_of_ble_eq_true rfl) fl_X3_wax_97 rfl dX3_wax_4 ?_
  refine lv_iload_n hx hb dX3_wax_7 rfl (lv_at hl 1 rfl) ?_
  refine g_callV CX HW hl.1 (wXo cI a o  ++ (wVo cI a (o + 1) (vh S) (vc S) (vA S 0) (vA S 1) (vA S 2) ++ (wR cI a ((o + 1) + 4) (vr S) (vA S 3) (vA S 4) (vA S 5) (vA S 6)))) (wVo cI a (o + 19) (vh T) (vc T) (vA T 0) (vA T 1) (vA T 2) ++ (wR cI a ((o + 19) + 4) (vr T) (vA T 3) (vA T 4) (vA T 5) (vA T 6) ++ (wS cI a ((o + 19) + 9) (vs T) (vA T 7) (vA T 8) (vA T 9) (vA T 10) (vA T 11) (vA T 12) qt2 qp2))) (c_X1_has ((o + 1) + 9) (vs S) (vA S 7) (vA S 8) (vA S 9) (vA S 10) (vA S 11) (vA S 12) qt qp (nI k)) rfl 0 rfl rfl gX3_wax_X1_has rfl ⟨rfl, hd_X1_has⟩ ⟨rfl, rfl, (Nat.le_of_ble_eq_true rfl), (Nat.le_of_ble_eq_true rfl)⟩ ⟨(Nat.zero_le _), (Nat.zero_le _)⟩ rfl rfl (Nat.le_of_ble_eq_true rfl) dX3_wax_8 (fun v w1 H locs hp HW => ?_)
  obtain ⟨rfl, rfl⟩ := hp
  have HW : Hw D A s (wXo cI a o  ++ (wVo cI a (o + 1) (vh S) (vc S) (vA S 0) (vA S 1) (vA S 2) ++ (wR cI a ((o + 1) + 4) (vr S) (vA S 3) (vA S 4) (vA S 5) (vA S 6) ++ (wS cI a ((o + 1) + 9) (vs S) (vA S 7) (vA S 8) (vA S 9) (vA S 10) (vA S 11) (vA S 12) qt qp ++ (wVo cI a (o + 19) (vh T) (vc T) (vA T 0) (vA T 1) (vA T 2) ++ (wR cI a ((o + 19) + 4) (vr T) (vA T 3) (vA T 4) (vA T 5) (vA T 6) ++ (wS cI a ((o + 19) + 9) (vs T) (vA T 7) (vA T 8) (vA T 9) (vA T 10) (vA T 11) (vA T 12) qt2 qp2))))))) H locs := HW
  refine W.eq (g2 := F0 m 11 ls [.int (bI (0 ≤ (nI k) ∧ (nI k) < nI (vs S)))]) rfl ?_
  refine g_ifne_b (tgt := 24) hx hb dX3_wax_11 (by decide) (fun c11 => ?_) (fun c11 => ?_)
  · refine lv_iload_n hx hb dX3_wax_24 rfl (lv_at hl 2 rfl) ?_
    refine lv_iconst (v := 0) hx hb dX3_wax_25 (by decide) ?_
    refine lv_iconst (v := 3) hx hb dX3_wax_26 (by decide) ?_
    refine g_callS CX HW hl.1 ([]) (wXo cI a o  ++ (wVo cI a (o + 1) (vh S) (vc S) (vA S 0) (vA S 1) (vA S 2) ++ (wR cI a ((o + 1) + 4) (vr S) (vA S 3) (vA S 4) (vA S 5) (vA S 6) ++ (wS cI a ((o + 1) + 9) (vs S) (vA S 7) (vA S 8) (vA S 9) (vA S 10) (vA S 11) (vA S 12) qt qp ++ (wVo cI a (o + 19) (vh T) (vc T) (vA T 0) (vA T 1) (vA T 2) ++ (wR cI a ((o + 19) + 4) (vr T) (vA T 3) (vA T 4) (vA T 5) (vA T 6) ++ (wS cI a ((o + 19) + 9) (vs T) (vA T 7) (vA T 8) (vA T 9) (vA T 10) (vA T 11) (vA T 12) qt2 qp2))))))) (c_X3_isWithin (nI f) (0 : Int32) (3 : Int32)) rfl gX3_wax_X3_isWithin rfl hd_X3_isWithin ⟨rfl, rfl, (Nat.le_of_ble_eq_true rfl), (Nat.le_of_ble_eq_true rfl)⟩ ⟨(Nat.zero_le _), (Nat.zero_le _)⟩ rfl rfl (Nat.le_of_ble_eq_true rfl) dX3_wax_27 (fun v w1 H locs hp HW => ?_)
    obtain ⟨rfl, rfl⟩ := hp
    have HW : Hw D A s (wXo cI a o  ++ (wVo cI a (o + 1) (vh S) (vc S) (vA S 0) (vA S 1) (vA S 2) ++ (wR cI a ((o + 1) + 4) (vr S) (vA S 3) (vA S 4) (vA S 5) (vA S 6) ++ (wS cI a ((o + 1) + 9) (vs S) (vA S 7) (vA S 8) (vA S 9) (vA S 10) (vA S 11) (vA S 12) qt qp ++ (wVo cI a (o + 19) (vh T) (vc T) (vA T 0) (vA T 1) (vA T 2) ++ (wR cI a ((o + 19) + 4) (vr T) (vA T 3) (vA T 4) (vA T 5) (vA T 6) ++ (wS cI a ((o + 19) + 9) (vs T) (vA T 7) (vA T 8) (vA T 9) (vA T 10) (vA T 11) (vA T 12) qt2 qp2))))))) H locs := HW
    refine W.eq (g2 := F0 m 30 ls [.int (bI ((0 : Int32) ≤ (nI f) ∧ (nI f) ≤ (3 : Int32)))]) rfl ?_
    refine g_ifne_b (tgt := 43) hx hb dX3_wax_30 (by decide) (fun c30 => ?_) (fun c30 => ?_)
    · refine lv_aload_n hx hb dX3_wax_43 rfl (lv_at hl 0 rfl) ?_
      refine g_get CX HW in_X3_wax_3 0 0 rfl rfl (Nat.le_of_ble_eq_true rfl) fl_X3_wax_10 rfl dX3_wax_44 ?_
      refine g_get CX HW in_X3_wax_2 1 6 rfl rfl (Nat.le_of_ble_eq_true rfl) fl_X3_wax_97 rfl dX3_wax_47 ?_
      refine g_get CX HW in_X3_wax_1 10 2 rfl rfl (Nat.le_of_ble_eq_true rfl) fl_X3_wax_112 rfl dX3_wax_50 ?_
      refine lv_iload_n hx hb dX3_wax_53 rfl (lv_at hl 1 rfl) ?_
      refine g_ald CX HW 12 (k := k) rfl rfl rfl (by omega) (Nat.le_of_ble_eq_true rfl) dX3_wax_54 ?_
      refine lv_iconst (v := 2) hx hb dX3_wax_55 (by decide) ?_
      refine lv_icmp_ge (tgt := 69) hx hb dX3_wax_56 (by decide) (fun c56 => ?_) (fun c56 => ?_)
      · refine lv_aload_n hx hb dX3_wax_69 rfl (lv_at hl 0 rfl) ?_
        refine g_get CX HW in_X3_wax_3 0 0 rfl rfl (Nat.le_of_ble_eq_true rfl) fl_X3_wax_10 rfl dX3_wax_70 ?_
        refine g_get CX HW in_X3_wax_2 1 6 rfl rfl (Nat.le_of_ble_eq_true rfl) fl_X3_wax_97 rfl dX3_wax_73 ?_
        refine g_get CX HW in_X3_wax_1 10 2 rfl rfl (Nat.le_of_ble_eq_true rfl) fl_X3_wax_112 rfl dX3_wax_76 ?_
        refine lv_iload_n hx hb dX3_wax_79 rfl (lv_at hl 1 rfl) ?_
        refine lv_dup2_11 hx hb dX3_wax_80 rfl rfl ?_
        refine g_ald CX HW 12 (k := k) rfl rfl rfl (by omega) (Nat.le_of_ble_eq_true rfl) dX3_wax_81 ?_
        refine lv_iconst (v := 2) hx hb dX3_wax_82 (by decide) ?_
        refine lv_isub hx hb dX3_wax_83 ?_
        refine g_ast CX HW 12 (k := k) rfl rfl rfl (by omega) (Nat.le_of_ble_eq_true rfl) dX3_wax_84 (fun H locs HW => ?_)
        have HW : Hw D A s (wXo cI a o  ++ (wVo cI a (o + 1) (vh S) (vc S) (vA S 0) (vA S 1) (vA S 2) ++ (wR cI a ((o + 1) + 4) (vr S) (vA S 3) (vA S 4) (vA S 5) (vA S 6) ++ (wS cI a ((o + 1) + 9) (vs S) (vA S 7) (upd (vA S 8) k (((vA S 8) k) - (2 : Int32))) (vA S 9) (vA S 10) (vA S 11) (vA S 12) qt qp ++ (wVo cI a (o + 19) (vh T) (vc T) (vA T 0) (vA T 1) (vA T 2) ++ (wR cI a ((o + 19) + 4) (vr T) (vA T 3) (vA T 4) (vA T 5) (vA T 6) ++ (wS cI a ((o + 19) + 9) (vs T) (vA T 7) (vA T 8) (vA T 9) (vA T 10) (vA T 11) (vA T 12) qt2 qp2))))))) H locs := HW
        refine lv_aload_n hx hb dX3_wax_85 rfl (lv_at hl 0 rfl) ?_
        refine g_get CX HW in_X3_wax_3 0 0 rfl rfl (Nat.le_of_ble_eq_true rfl) fl_X3_wax_10 rfl dX3_wax_86 ?_
        refine lv_dup hx hb dX3_wax_89 rfl ?_
        refine g_get CX HW in_X3_wax_2 1 1 rfl rfl (Nat.le_of_ble_eq_true rfl) fl_X3_wax_73 rfl dX3_wax_90 ?_
        refine lv_iconst (v := 2) hx hb dX3_wax_93 (by decide) ?_
        refine lv_iadd hx hb dX3_wax_94 ?_
        refine g_put CX HW in_X3_wax_2 tyX2 tyX2_ok nmX2 1 1 rfl rfl (Nat.le_of_ble_eq_true rfl) fl_X3_wax_73 rfl rfl rfl (Nat.le_of_ble_eq_true rfl) dX3_wax_95 (fun H locs HW => ?_)
        have HW : Hw D A s (wXo cI a o  ++ (wVo cI a (o + 1) (vh S) (vc S + (2 : Int32)) (vA S 0) (vA S 1) (vA S 2) ++ (wR cI a ((o + 1) + 4) (vr S) (vA S 3) (vA S 4) (vA S 5) (vA S 6) ++ (wS cI a ((o + 1) + 9) (vs S) (vA S 7) (upd (vA S 8) k (((vA S 8) k) - (2 : Int32))) (vA S 9) (vA S 10) (vA S 11) (vA S 12) qt qp ++ (wVo cI a (o + 19) (vh T) (vc T) (vA T 0) (vA T 1) (vA T 2) ++ (wR cI a ((o + 19) + 4) (vr T) (vA T 3) (vA T 4) (vA T 5) (vA T 6) ++ (wS cI a ((o + 19) + 9) (vs T) (vA T 7) (vA T 8) (vA T 9) (vA T 10) (vA T 11) (vA T 12) qt2 qp2))))))) H locs := HW
        refine lv_aload_n hx hb dX3_wax_98 rfl (lv_at hl 0 rfl) ?_
        refine g_get CX HW in_X3_wax_3 0 0 rfl rfl (Nat.le_of_ble_eq_true rfl) fl_X3_wax_10 rfl dX3_wax_99 ?_
        refine g_get CX HW in_X3_wax_2 1 6 rfl rfl (Nat.le_of_ble_eq_true rfl) fl_X3_wax_97 rfl dX3_wax_102 ?_
        refine lv_iload_n hx hb dX3_wax_105 rfl (lv_at hl 1 rfl) ?_
        refine lv_iload_n hx hb dX3_wax_106 rfl (lv_at hl 2 rfl) ?_
        refine g_callV CX HW hl.1 (wXo cI a o  ++ (wVo cI a (o + 1) (vh S) (vc S + (2 : Int32)) (vA S 0) (vA S 1) (vA S 2) ++ (wR cI a ((o + 1) + 4) (vr S) (vA S 3) (vA S 4) (vA S 5) (vA S 6)))) (wVo cI a (o + 19) (vh T) (vc T) (vA T 0) (vA T 1) (vA T 2) ++ (wR cI a ((o + 19) + 4) (vr T) (vA T 3) (vA T 4) (vA T 5) (vA T 6) ++ (wS cI a ((o + 19) + 9) (vs T) (vA T 7) (vA T 8) (vA T 9) (vA T 10) (vA T 11) (vA T 12) qt2 qp2))) (c_X1_putWaxOn ((o + 1) + 9) (vs S) (vA S 7) (upd (vA S 8) k (((vA S 8) k) - (2 : Int32))) (vA S 9) (vA S 10) (vA S 11) (vA S 12) qt qp k (nI f) (by omega)) rfl 0 rfl rfl gX3_wax_X1_putWaxOn rfl ⟨rfl, hd_X1_putWaxOn⟩ ⟨rfl, rfl, (Nat.le_of_ble_eq_true rfl), (Nat.le_of_ble_eq_true rfl)⟩ ⟨(Nat.zero_le _), (Nat.zero_le _)⟩ rfl rfl (Nat.le_of_ble_eq_true rfl) dX3_wax_107 (fun v w1 H locs hp HW => ?_)
        obtain ⟨rfl, rfl⟩ := hp
        have HW : Hw D A s (wXo cI a o  ++ (wVo cI a (o + 1) (vh S) (vc S + (2 : Int32)) (vA S 0) (vA S 1) (vA S 2) ++ (wR cI a ((o + 1) + 4) (vr S) (vA S 3) (vA S 4) (vA S 5) (vA S 6) ++ (wS cI a ((o + 1) + 9) (vs S) (vA S 7) (upd (vA S 8) k (((vA S 8) k) - (2 : Int32))) (upd (vA S 9) k (nI f)) (upd (vA S 10) k 10) (vA S 11) (vA S 12) qt qp ++ (wVo cI a (o + 19) (vh T) (vc T) (vA T 0) (vA T 1) (vA T 2) ++ (wR cI a ((o + 19) + 4) (vr T) (vA T 3) (vA T 4) (vA T 5) (vA T 6) ++ (wS cI a ((o + 19) + 9) (vs T) (vA T 7) (vA T 8) (vA T 9) (vA T 10) (vA T 11) (vA T 12) qt2 qp2))))))) H locs := HW
        refine W.eq (g2 := F0 m 110 ls []) rfl ?_
        refine lv_aload_n hx hb dX3_wax_110 rfl (lv_at hl 0 rfl) ?_
        refine g_get CX HW in_X3_wax_3 0 0 rfl rfl (Nat.le_of_ble_eq_true rfl) fl_X3_wax_10 rfl dX3_wax_111 ?_
        refine g_get CX HW in_X3_wax_2 1 6 rfl rfl (Nat.le_of_ble_eq_true rfl) fl_X3_wax_97 rfl dX3_wax_114 ?_
        refine g_get CX HW in_X3_wax_1 10 2 rfl rfl (Nat.le_of_ble_eq_true rfl) fl_X3_wax_112 rfl dX3_wax_117 ?_
        refine lv_iload_n hx hb dX3_wax_120 rfl (lv_at hl 1 rfl) ?_
        refine g_ald CX HW 12 (k := k) rfl rfl rfl (by omega) (Nat.le_of_ble_eq_true rfl) dX3_wax_121 ?_
        refine g_top (y := (vA S 8 k - (2 : Int32))) pk_us ?_
        exact g_iret CX HW rfl ⟨rfl, rfl⟩ dX3_wax_122
      · exact absurd hc c56
    · exact absurd (wi_ok (n := 3) (k := f) (by omega) (by decide)) c30
  · exact absurd (has_ok (n := vs S) (k := k) (by omega) (by omega)) c11

theorem hd_X3_join : yX3_join.cls ≠ "java/lang/invoke/MethodHandle" ∧ yX3_join.cls ≠ "java/lang/invoke/VarHandle" ∧ (parseMethodDescriptor yX3_join.desc).map (fun d => d.parameters.length) = some 2 := by decide +kernel
theorem fl_X3_join_10 : Cond.fieldLink RX3 10 (TX3 0).1 (TX3 0).2.1 (TX3 0).2.2.1 ∈ wsX3_join := by decide +kernel
theorem in_X3_join_3 : ∀ x ∈ u_ws RX3 TX3 2, x ∈ wsX3_join := by decide +kernel
theorem fl_X3_join_97 : Cond.fieldLink RX3 97 (TX2 6).1 (TX2 6).2.1 (TX2 6).2.2.1 ∈ wsX3_join := by decide +kernel
theorem in_X3_join_2 : ∀ x ∈ u_ws RX2 TX2 7, x ∈ wsX3_join := by decide +kernel
theorem fl_X3_join_126 : Cond.fieldLink RX3 126 (TX1 8).1 (TX1 8).2.1 (TX1 8).2.2.1 ∈ wsX3_join := by decide +kernel
theorem in_X3_join_1 : ∀ x ∈ u_ws RX1 TX1 9, x ∈ wsX3_join := by decide +kernel
set_option maxRecDepth 100000 in
set_option maxHeartbeats 4000000 in
theorem c_X3_join {l : Launch} {D : va_G} {cI cL : ClassId} {a : Nat → Nat} (o : Nat) (S : VS) (qt : Nat → Int32) (qp : Nat → Int32) (T : VS) (qt2 : Nat → Int32) (qp2 : Nat → Int32) (k : Nat) (j : Nat) (hI : Inv S) (hR : Rep (vs S) (vq S) qt qp) (hk : k < vs S) (hj : j ≤ 2) : Ct l yX3_join wsX3_join { frames := 6, cells := 0, slots := 0, locals := 92 } D (ty2 cI cL) [.ref (a o), .int (nI k), .int (nI j)] (wXo cI a o  ++ (wVo cI a (o + 1) (vh S) (vc S) (vA S 0) (vA S 1) (vA S 2) ++ (wR cI a ((o + 1) + 4) (vr S) (vA S 3) (vA S 4) (vA S 5) (vA S 6) ++ (wS cI a ((o + 1) + 9) (vs S) (vA S 7) (vA S 8) (vA S 9) (vA S 10) (vA S 11) (vA S 12) qt qp ++ (wVo cI a (o + 19) (vh T) (vc T) (vA T 0) (vA T 1) (vA T 2) ++ (wR cI a ((o + 19) + 4) (vr T) (vA T 3) (vA T 4) (vA T 5) (vA T 6) ++ (wS cI a ((o + 19) + 9) (vs T) (vA T 7) (vA T 8) (vA T 9) (vA T 10) (vA T 11) (vA T 12) qt2 qp2))))))) (fun v w' => ∃ (qt' : Nat → Int32) (qp' : Nat → Int32), (Rep (vs (gJoin S k j)) (vq (gJoin S k j)) qt' qp') ∧ v = some (.int (nI (takeQ (vq S) k j).length)) ∧ w' = wXo cI a o  ++ (wVo cI a (o + 1) (vh (gJoin S k j)) (vc (gJoin S k j)) (vA (gJoin S k j) 0) (vA (gJoin S k j) 1) (vA (gJoin S k j) 2) ++ (wR cI a ((o + 1) + 4) (vr (gJoin S k j)) (vA (gJoin S k j) 3) (vA (gJoin S k j) 4) (vA (gJoin S k j) 5) (vA (gJoin S k j) 6) ++ (wS cI a ((o + 1) + 9) (vs (gJoin S k j)) (vA (gJoin S k j) 7) (vA (gJoin S k j) 8) (vA (gJoin S k j) 9) (vA (gJoin S k j) 10) (vA (gJoin S k j) 11) (vA (gJoin S k j) 12) qt' qp' ++ (wVo cI a (o + 19) (vh T) (vc T) (vA T 0) (vA T 1) (vA T 2) ++ (wR cI a ((o + 19) + 4) (vr T) (vA T 3) (vA T 4) (vA T 5) (vA T 6) ++ (wS cI a ((o + 19) + 9) (vs T) (vA T 7) (vA T 8) (vA T 9) (vA T 10) (vA T 11) (vA T 12) qt2 qp2))))))) 0 0 := by
  refine Ct.of (cc := cX3_join) (maxL := 3) (ret := (some .int)) (by decide) rfl (Nat.le_of_ble_eq_true rfl) ?_
  intro p e s m below meth c A ls CX hin HW hl
  obtain ⟨hx, hb, hml, hr, hown, hts, hK, hA, hlk⟩ := id CX
  have hl : lv_has ls 3 [(0, .ref (a o)), (1, .int (nI k)), (2, .int (nI j))] := hl
  have hn6 : vr S ≤ 6 := by first | exact hI.1 | omega
  have hn8 : vs S ≤ 8 := by first | exact hI.2.1 | omega
  refine lv_aload_n hx hb dX3_join_0 rfl (lv_at hl 0 rfl) ?_
  refine g_get CX HW in_X3_join_3 0 0 rfl rfl (Nat.le_of_ble_eq_true rfl) fl_X3_join_10 rfl dX3_join_1 ?_
  refine g_get CX HW in_X3_join_2 1 6 rfl rfl (Nat.le_of_ble_eq_true rfl) fl_X3_join_97 rfl dX3_join_4 ?_
  refine lv_iload_n hx hb dX3_join_7 rfl (lv_at hl 1 rfl) ?_
  refine g_callV CX HW hl.1 (wXo cI a o  ++ (wVo cI a (o + 1) (vh S) (vc S) (vA S 0) (vA S 1) (vA S 2) ++ (wR cI a ((o + 1) + 4) (vr S) (vA S 3) (vA S 4) (vA S 5) (vA S 6)))) (wVo cI a (o + 19) (vh T) (vc T) (vA T 0) (vA T 1) (vA T 2) ++ (wR cI a ((o + 19) + 4) (vr T) (vA T 3) (vA T 4) (vA T 5) (vA T 6) ++ (wS cI a ((o + 19) + 9) (vs T) (vA T 7) (vA T 8) (vA T 9) (vA T 10) (vA T 11) (vA T 12) qt2 qp2))) (c_X1_has ((o + 1) + 9) (vs S) (vA S 7) (vA S 8) (vA S 9) (vA S 10) (vA S 11) (vA S 12) qt qp (nI k)) rfl 0 rfl rfl gX3_join_X1_has rfl ⟨rfl, hd_X1_has⟩ ⟨rfl, rfl, (Nat.le_of_ble_eq_true rfl), (Nat.le_of_ble_eq_true rfl)⟩ ⟨(Nat.zero_le _), (Nat.zero_le _)⟩ rfl rfl (Nat.le_of_ble_eq_true rfl) dX3_join_8 (fun v w1 H locs hp HW => ?_)
  obtain ⟨rfl, rfl⟩ := hp
  have HW : Hw D A s (wXo cI a o  ++ (wVo cI a (o + 1) (vh S) (vc S) (vA S 0) (vA S 1) (vA S 2) ++ (wR cI a ((o + 1) + 4) (vr S) (vA S 3) (vA S 4) (vA S 5) (vA S 6) ++ (wS cI a ((o + 1) + 9) (vs S) (vA S 7) (vA S 8) (vA S 9) (vA S 10) (vA S 11) (vA S 12) qt qp ++ (wVo cI a (o + 19) (vh T) (vc T) (vA T 0) (vA T 1) (vA T 2) ++ (wR cI a ((o + 19) + 4) (vr T) (vA T 3) (vA T 4) (vA T 5) (vA T 6) ++ (wS cI a ((o + 19) + 9) (vs T) (vA T 7) (vA T 8) (vA T 9) (vA T 10) (vA T 11) (vA T 12) qt2 qp2))))))) H locs := HW
  refine W.eq (g2 := F0 m 11 ls [.int (bI (0 ≤ (nI k) ∧ (nI k) < nI (vs S)))]) rfl ?_
  refine g_ifne_b (tgt := 24) hx hb dX3_join_11 (by decide) (fun c11 => ?_) (fun c11 => ?_)
  · refine lv_iload_n hx hb dX3_join_24 rfl (lv_at hl 2 rfl) ?_
    refine lv_iconst (v := 0) hx hb dX3_join_25 (by decide) ?_
    refine lv_iconst (v := 2) hx hb dX3_join_26 (by decide) ?_
    refine g_callS CX HW hl.1 ([]) (wXo cI a o  ++ (wVo cI a (o + 1) (vh S) (vc S) (vA S 0) (vA S 1) (vA S 2) ++ (wR cI a ((o + 1) + 4) (vr S) (vA S 3) (vA S 4) (vA S 5) (vA S 6) ++ (wS cI a ((o + 1) + 9) (vs S) (vA S 7) (vA S 8) (vA S 9) (vA S 10) (vA S 11) (vA S 12) qt qp ++ (wVo cI a (o + 19) (vh T) (vc T) (vA T 0) (vA T 1) (vA T 2) ++ (wR cI a ((o + 19) + 4) (vr T) (vA T 3) (vA T 4) (vA T 5) (vA T 6) ++ (wS cI a ((o + 19) + 9) (vs T) (vA T 7) (vA T 8) (vA T 9) (vA T 10) (vA T 11) (vA T 12) qt2 qp2))))))) (c_X3_isWithin (nI j) (0 : Int32) (2 : Int32)) rfl gX3_join_X3_isWithin rfl hd_X3_isWithin ⟨rfl, rfl, (Nat.le_of_ble_eq_true rfl), (Nat.le_of_ble_eq_true rfl)⟩ ⟨(Nat.zero_le _), (Nat.zero_le _)⟩ rfl rfl (Nat.le_of_ble_eq_true rfl) dX3_join_27 (fun v w1 H locs hp HW => ?_)
    obtain ⟨rfl, rfl⟩ := hp
    have HW : Hw D A s (wXo cI a o  ++ (wVo cI a (o + 1) (vh S) (vc S) (vA S 0) (vA S 1) (vA S 2) ++ (wR cI a ((o + 1) + 4) (vr S) (vA S 3) (vA S 4) (vA S 5) (vA S 6) ++ (wS cI a ((o + 1) + 9) (vs S) (vA S 7) (vA S 8) (vA S 9) (vA S 10) (vA S 11) (vA S 12) qt qp ++ (wVo cI a (o + 19) (vh T) (vc T) (vA T 0) (vA T 1) (vA T 2) ++ (wR cI a ((o + 19) + 4) (vr T) (vA T 3) (vA T 4) (vA T 5) (vA T 6) ++ (wS cI a ((o + 19) + 9) (vs T) (vA T 7) (vA T 8) (vA T 9) (vA T 10) (vA T 11) (vA T 12) qt2 qp2))))))) H locs := HW
    refine W.eq (g2 := F0 m 30 ls [.int (bI ((0 : Int32) ≤ (nI j) ∧ (nI j) ≤ (2 : Int32)))]) rfl ?_
    refine g_ifne_b (tgt := 43) hx hb dX3_join_30 (by decide) (fun c30 => ?_) (fun c30 => ?_)
    · refine lv_aload_n hx hb dX3_join_43 rfl (lv_at hl 0 rfl) ?_
      refine g_get CX HW in_X3_join_3 0 0 rfl rfl (Nat.le_of_ble_eq_true rfl) fl_X3_join_10 rfl dX3_join_44 ?_
      refine g_get CX HW in_X3_join_2 1 6 rfl rfl (Nat.le_of_ble_eq_true rfl) fl_X3_join_97 rfl dX3_join_47 ?_
      refine lv_iload_n hx hb dX3_join_50 rfl (lv_at hl 1 rfl) ?_
      refine g_callV CX HW hl.1 (wXo cI a o  ++ (wVo cI a (o + 1) (vh S) (vc S) (vA S 0) (vA S 1) (vA S 2) ++ (wR cI a ((o + 1) + 4) (vr S) (vA S 3) (vA S 4) (vA S 5) (vA S 6)))) (wVo cI a (o + 19) (vh T) (vc T) (vA T 0) (vA T 1) (vA T 2) ++ (wR cI a ((o + 19) + 4) (vr T) (vA T 3) (vA T 4) (vA T 5) (vA T 6) ++ (wS cI a ((o + 19) + 9) (vs T) (vA T 7) (vA T 8) (vA T 9) (vA T 10) (vA T 11) (vA T 12) qt2 qp2))) (c_X1_takeOutOfQueue ((o + 1) + 9) (vs S) (vA S 7) (vA S 8) (vA S 9) (vA S 10) (vA S 11) (vA S 12) qt qp k hn8 (by omega)) rfl 0 rfl rfl gX3_join_X1_takeOutOfQueue rfl ⟨rfl, hd_X1_takeOutOfQueue⟩ ⟨rfl, rfl, (Nat.le_of_ble_eq_true rfl), (Nat.le_of_ble_eq_true rfl)⟩ ⟨(Nat.zero_le _), (Nat.zero_le _)⟩ rfl rfl (Nat.le_of_ble_eq_true rfl) dX3_join_51 (fun v w1 H locs hp HW => ?_)
      obtain ⟨rfl, rfl⟩ := hp
      have HW : Hw D A s (wXo cI a o  ++ (wVo cI a (o + 1) (vh S) (vc S) (vA S 0) (vA S 1) (vA S 2) ++ (wR cI a ((o + 1) + 4) (vr S) (vA S 3) (vA S 4) (vA S 5) (vA S 6) ++ (wS cI a ((o + 1) + 9) (vs S) (vA S 7) (vA S 8) (vA S 9) (vA S 10) (vA S 11) (vA S 12) (tkT qt k) (tkQ (vs S) qt qp k) ++ (wVo cI a (o + 19) (vh T) (vc T) (vA T 0) (vA T 1) (vA T 2) ++ (wR cI a ((o + 19) + 4) (vr T) (vA T 3) (vA T 4) (vA T 5) (vA T 6) ++ (wS cI a ((o + 19) + 9) (vs T) (vA T 7) (vA T 8) (vA T 9) (vA T 10) (vA T 11) (vA T 12) qt2 qp2))))))) H locs := HW
      refine W.eq (g2 := F0 m 54 ls []) rfl ?_
      refine lv_aload_n hx hb dX3_join_54 rfl (lv_at hl 0 rfl) ?_
      refine g_get CX HW in_X3_join_3 0 0 rfl rfl (Nat.le_of_ble_eq_true rfl) fl_X3_join_10 rfl dX3_join_55 ?_
      refine g_get CX HW in_X3_join_2 1 6 rfl rfl (Nat.le_of_ble_eq_true rfl) fl_X3_join_97 rfl dX3_join_58 ?_
      refine lv_iload_n hx hb dX3_join_61 rfl (lv_at hl 1 rfl) ?_
      refine lv_iload_n hx hb dX3_join_62 rfl (lv_at hl 2 rfl) ?_
      refine g_callV CX HW hl.1 (wXo cI a o  ++ (wVo cI a (o + 1) (vh S) (vc S) (vA S 0) (vA S 1) (vA S 2) ++ (wR cI a ((o + 1) + 4) (vr S) (vA S 3) (vA S 4) (vA S 5) (vA S 6)))) (wVo cI a (o + 19) (vh T) (vc T) (vA T 0) (vA T 1) (vA T 2) ++ (wR cI a ((o + 19) + 4) (vr T) (vA T 3) (vA T 4) (vA T 5) (vA T 6) ++ (wS cI a ((o + 19) + 9) (vs T) (vA T 7) (vA T 8) (vA T 9) (vA T 10) (vA T 11) (vA T 12) qt2 qp2))) (c_X1_putAtEnd ((o + 1) + 9) (vs S) (vA S 7) (vA S 8) (vA S 9) (vA S 10) (vA S 11) (vA S 12) (tkT qt k) (tkQ (vs S) qt qp k) k (nI j) hn8 (by omega)) rfl 0 rfl rfl gX3_join_X1_putAtEnd rfl ⟨rfl, hd_X1_putAtEnd⟩ ⟨rfl, rfl, (Nat.le_of_ble_eq_true rfl), (Nat.le_of_ble_eq_true rfl)⟩ ⟨(Nat.zero_le _), (Nat.zero_le _)⟩ rfl rfl (Nat.le_of_ble_eq_true rfl) dX3_join_63 (fun v w1 H locs hp HW => ?_)
      obtain ⟨rfl, rfl⟩ := hp
      have HW : Hw D A s (wXo cI a o  ++ (wVo cI a (o + 1) (vh S) (vc S) (vA S 0) (vA S 1) (vA S 2) ++ (wR cI a ((o + 1) + 4) (vr S) (vA S 3) (vA S 4) (vA S 5) (vA S 6) ++ (wS cI a ((o + 1) + 9) (vs S) (vA S 7) (vA S 8) (vA S 9) (vA S 10) (vA S 11) (vA S 12) (upd (tkT qt k) k (nI j)) (upd (tkQ (vs S) qt qp k) k (nI (cntE (tkT qt k) (nI j) (vs S)))) ++ (wVo cI a (o + 19) (vh T) (vc T) (vA T 0) (vA T 1) (vA T 2) ++ (wR cI a ((o + 19) + 4) (vr T) (vA T 3) (vA T 4) (vA T 5) (vA T 6) ++ (wS cI a ((o + 19) + 9) (vs T) (vA T 7) (vA T 8) (vA T 9) (vA T 10) (vA T 11) (vA T 12) qt2 qp2))))))) H locs := HW
      refine W.eq (g2 := F0 m 66 ls []) rfl ?_
      refine lv_aload_n hx hb dX3_join_66 rfl (lv_at hl 0 rfl) ?_
      refine g_get CX HW in_X3_join_3 0 0 rfl rfl (Nat.le_of_ble_eq_true rfl) fl_X3_join_10 rfl dX3_join_67 ?_
      refine g_get CX HW in_X3_join_2 1 6 rfl rfl (Nat.le_of_ble_eq_true rfl) fl_X3_join_97 rfl dX3_join_70 ?_
      refine g_get CX HW in_X3_join_1 10 8 rfl rfl (Nat.le_of_ble_eq_true rfl) fl_X3_join_126 rfl dX3_join_73 ?_
      refine lv_iload_n hx hb dX3_join_76 rfl (lv_at hl 1 rfl) ?_
      refine g_ald CX HW 18 (k := k) rfl rfl rfl (by omega) (Nat.le_of_ble_eq_true rfl) dX3_join_77 ?_
      refine g_top (y := (nI (takeQ (vq S) k j).length)) (by rw [pk_us, (rep_takeQ hR hn8 hk).2.2 j (by omega)]) ?_
      exact g_iret CX HW rfl ⟨_, _, rep_put (rep_takeQ hR hn8 hk) hn8 (by omega) hk (tkT_k qt k), rfl, rfl⟩ dX3_join_78
    · exact absurd (wi_ok (n := 2) (k := j) (by omega) (by decide)) c30
  · exact absurd (has_ok (n := vs S) (k := k) (by omega) (by omega)) c11

theorem hd_X3_leave : yX3_leave.cls ≠ "java/lang/invoke/MethodHandle" ∧ yX3_leave.cls ≠ "java/lang/invoke/VarHandle" ∧ (parseMethodDescriptor yX3_leave.desc).map (fun d => d.parameters.length) = some 1 := by decide +kernel
theorem fl_X3_leave_10 : Cond.fieldLink RX3 10 (TX3 0).1 (TX3 0).2.1 (TX3 0).2.2.1 ∈ wsX3_leave := by decide +kernel
theorem in_X3_leave_3 : ∀ x ∈ u_ws RX3 TX3 2, x ∈ wsX3_leave := by decide +kernel
theorem fl_X3_leave_97 : Cond.fieldLink RX3 97 (TX2 6).1 (TX2 6).2.1 (TX2 6).2.2.1 ∈ wsX3_leave := by decide +kernel
theorem in_X3_leave_2 : ∀ x ∈ u_ws RX2 TX2 7, x ∈ wsX3_leave := by decide +kernel
theorem fl_X3_leave_129 : Cond.fieldLink RX3 129 (TX1 7).1 (TX1 7).2.1 (TX1 7).2.2.1 ∈ wsX3_leave := by decide +kernel
theorem in_X3_leave_1 : ∀ x ∈ u_ws RX1 TX1 9, x ∈ wsX3_leave := by decide +kernel
set_option maxRecDepth 100000 in
set_option maxHeartbeats 4000000 in
theorem c_X3_leave {l : Launch} {D : va_G} {cI cL : ClassId} {a : Nat → Nat} (o : Nat) (S : VS) (qt : Nat → Int32) (qp : Nat → Int32) (T : VS) (qt2 : Nat → Int32) (qp2 : Nat → Int32) (k : Nat) (hI : Inv S) (hR : Rep (vs S) (vq S) qt qp) (hk : k < vs S) : Ct l yX3_leave wsX3_leave { frames := 6, cells := 0, slots := 0, locals := 92 } D (ty2 cI cL) [.ref (a o), .int (nI k)] (wXo cI a o  ++ (wVo cI a (o + 1) (vh S) (vc S) (vA S 0) (vA S 1) (vA S 2) ++ (wR cI a ((o + 1) + 4) (vr S) (vA S 3) (vA S 4) (vA S 5) (vA S 6) ++ (wS cI a ((o + 1) + 9) (vs S) (vA S 7) (vA S 8) (vA S 9) (vA S 10) (vA S 11) (vA S 12) qt qp ++ (wVo cI a (o + 19) (vh T) (vc T) (vA T 0) (vA T 1) (vA T 2) ++ (wR cI a ((o + 19) + 4) (vr T) (vA T 3) (vA T 4) (vA T 5) (vA T 6) ++ (wS cI a ((o + 19) + 9) (vs T) (vA T 7) (vA T 8) (vA T 9) (vA T 10) (vA T 11) (vA T 12) qt2 qp2))))))) (fun v w' => ∃ (qt' : Nat → Int32) (qp' : Nat → Int32), (Rep (vs (gLea S k)) (vq (gLea S k)) qt' qp') ∧ v = some (.int (bI (inQ (vq S) k))) ∧ w' = wXo cI a o  ++ (wVo cI a (o + 1) (vh (gLea S k)) (vc (gLea S k)) (vA (gLea S k) 0) (vA (gLea S k) 1) (vA (gLea S k) 2) ++ (wR cI a ((o + 1) + 4) (vr (gLea S k)) (vA (gLea S k) 3) (vA (gLea S k) 4) (vA (gLea S k) 5) (vA (gLea S k) 6) ++ (wS cI a ((o + 1) + 9) (vs (gLea S k)) (vA (gLea S k) 7) (vA (gLea S k) 8) (vA (gLea S k) 9) (vA (gLea S k) 10) (vA (gLea S k) 11) (vA (gLea S k) 12) qt' qp' ++ (wVo cI a (o + 19) (vh T) (vc T) (vA T 0) (vA T 1) (vA T 2) ++ (wR cI a ((o + 19) + 4) (vr T) (vA T 3) (vA T 4) (vA T 5) (vA T 6) ++ (wS cI a ((o + 19) + 9) (vs T) (vA T 7) (vA T 8) (vA T 9) (vA T 10) (vA T 11) (vA T 12) qt2 qp2))))))) 0 0 := by
  refine Ct.of (cc := cX3_leave) (maxL := 3) (ret := (some .boolean)) (by decide) rfl (Nat.le_of_ble_eq_true rfl) ?_
  intro p e s m below meth c A ls CX hin HW hl
  obtain ⟨hx, hb, hml, hr, hown, hts, hK, hA, hlk⟩ := id CX
  have hl : lv_has ls 3 [(0, .ref (a o)), (1, .int (nI k))] := hl
  have hn6 : vr S ≤ 6 := by first | exact hI.1 | omega
  have hn8 : vs S ≤ 8 := by first | exact hI.2.1 | omega
  refine lv_aload_n hx hb dX3_leave_0 rfl (lv_at hl 0 rfl) ?_
  refine g_get CX HW in_X3_leave_3 0 0 rfl rfl (Nat.le_of_ble_eq_true rfl) fl_X3_leave_10 rfl dX3_leave_1 ?_
  refine g_get CX HW in_X3_leave_2 1 6 rfl rfl (Nat.le_of_ble_eq_true rfl) fl_X3_leave_97 rfl dX3_leave_4 ?_
  refine lv_iload_n hx hb dX3_leave_7 rfl (lv_at hl 1 rfl) ?_
  refine g_callV CX HW hl.1 (wXo cI a o  ++ (wVo cI a (o + 1) (vh S) (vc S) (vA S 0) (vA S 1) (vA S 2) ++ (wR cI a ((o + 1) + 4) (vr S) (vA S 3) (vA S 4) (vA S 5) (vA S 6)))) (wVo cI a (o + 19) (vh T) (vc T) (vA T 0) (vA T 1) (vA T 2) ++ (wR cI a ((o + 19) + 4) (vr T) (vA T 3) (vA T 4) (vA T 5) (vA T 6) ++ (wS cI a ((o + 19) + 9) (vs T) (vA T 7) (vA T 8) (vA T 9) (vA T 10) (vA T 11) (vA T 12) qt2 qp2))) (c_X1_has ((o + 1) + 9) (vs S) (vA S 7) (vA S 8) (vA S 9) (vA S 10) (vA S 11) (vA S 12) qt qp (nI k)) rfl 0 rfl rfl gX3_leave_X1_has rfl ⟨rfl, hd_X1_has⟩ ⟨rfl, rfl, (Nat.le_of_ble_eq_true rfl), (Nat.le_of_ble_eq_true rfl)⟩ ⟨(Nat.zero_le _), (Nat.zero_le _)⟩ rfl rfl (Nat.le_of_ble_eq_true rfl) dX3_leave_8 (fun v w1 H locs hp HW => ?_)
  obtain ⟨rfl, rfl⟩ := hp
  have HW : Hw D A s (wXo cI a o  ++ (wVo cI a (o + 1) (vh S) (vc S) (vA S 0) (vA S 1) (vA S 2) ++ (wR cI a ((o + 1) + 4) (vr S) (vA S 3) (vA S 4) (vA S 5) (vA S 6) ++ (wS cI a ((o + 1) + 9) (vs S) (vA S 7) (vA S 8) (vA S 9) (vA S 10) (vA S 11) (vA S 12) qt qp ++ (wVo cI a (o + 19) (vh T) (vc T) (vA T 0) (vA T 1) (vA T 2) ++ (wR cI a ((o + 19) + 4) (vr T) (vA T 3) (vA T 4) (vA T 5) (vA T 6) ++ (wS cI a ((o + 19) + 9) (vs T) (vA T 7) (vA T 8) (vA T 9) (vA T 10) (vA T 11) (vA T 12) qt2 qp2))))))) H locs := HW
  refine W.eq (g2 := F0 m 11 ls [.int (bI (0 ≤ (nI k) ∧ (nI k) < nI (vs S)))]) rfl ?_
  refine g_ifne_b (tgt := 24) hx hb dX3_leave_11 (by decide) (fun c11 => ?_) (fun c11 => ?_)
  · refine lv_aload_n hx hb dX3_leave_24 rfl (lv_at hl 0 rfl) ?_
    refine g_get CX HW in_X3_leave_3 0 0 rfl rfl (Nat.le_of_ble_eq_true rfl) fl_X3_leave_10 rfl dX3_leave_25 ?_
    refine g_get CX HW in_X3_leave_2 1 6 rfl rfl (Nat.le_of_ble_eq_true rfl) fl_X3_leave_97 rfl dX3_leave_28 ?_
    refine g_get CX HW in_X3_leave_1 10 7 rfl rfl (Nat.le_of_ble_eq_true rfl) fl_X3_leave_129 rfl dX3_leave_31 ?_
    refine lv_iload_n hx hb dX3_leave_34 rfl (lv_at hl 1 rfl) ?_
    refine g_ald CX HW 17 (k := k) rfl rfl rfl (by omega) (Nat.le_of_ble_eq_true rfl) dX3_leave_35 ?_
    refine lv_iconst (v := (-1)) hx hb dX3_leave_36 (by decide) ?_
    refine lv_icmp_eq (tgt := 44) hx hb dX3_leave_37 (by decide) (fun c37 => ?_) (fun c37 => ?_)
    · refine lv_iconst (v := 0) hx hb dX3_leave_44 (by decide) ?_
      refine lv_istore_n (lv' := [(2, .int (0 : Int32)), (0, .ref (a o)), (1, .int (nI k))]) hx hb dX3_leave_45 rfl hl (Nat.le_of_ble_eq_true rfl) rfl (fun ls hl => ?_)
      refine lv_aload_n hx hb dX3_leave_46 rfl (lv_at hl 1 rfl) ?_
      refine g_get CX HW in_X3_leave_3 0 0 rfl rfl (Nat.le_of_ble_eq_true rfl) fl_X3_leave_10 rfl dX3_leave_47 ?_
      refine g_get CX HW in_X3_leave_2 1 6 rfl rfl (Nat.le_of_ble_eq_true rfl) fl_X3_leave_97 rfl dX3_leave_50 ?_
      refine lv_iload_n hx hb dX3_leave_53 rfl (lv_at hl 2 rfl) ?_
      refine g_callV CX HW hl.1 (wXo cI a o  ++ (wVo cI a (o + 1) (vh S) (vc S) (vA S 0) (vA S 1) (vA S 2) ++ (wR cI a ((o + 1) + 4) (vr S) (vA S 3) (vA S 4) (vA S 5) (vA S 6)))) (wVo cI a (o + 19) (vh T) (vc T) (vA T 0) (vA T 1) (vA T 2) ++ (wR cI a ((o + 19) + 4) (vr T) (vA T 3) (vA T 4) (vA T 5) (vA T 6) ++ (wS cI a ((o + 19) + 9) (vs T) (vA T 7) (vA T 8) (vA T 9) (vA T 10) (vA T 11) (vA T 12) qt2 qp2))) (c_X1_takeOutOfQueue ((o + 1) + 9) (vs S) (vA S 7) (vA S 8) (vA S 9) (vA S 10) (vA S 11) (vA S 12) qt qp k hn8 (by omega)) rfl 0 rfl rfl gX3_leave_X1_takeOutOfQueue rfl ⟨rfl, hd_X1_takeOutOfQueue⟩ ⟨rfl, rfl, (Nat.le_of_ble_eq_true rfl), (Nat.le_of_ble_eq_true rfl)⟩ ⟨(Nat.zero_le _), (Nat.zero_le _)⟩ rfl rfl (Nat.le_of_ble_eq_true rfl) dX3_leave_54 (fun v w1 H locs hp HW => ?_)
      obtain ⟨rfl, rfl⟩ := hp
      have HW : Hw D A s (wXo cI a o  ++ (wVo cI a (o + 1) (vh S) (vc S) (vA S 0) (vA S 1) (vA S 2) ++ (wR cI a ((o + 1) + 4) (vr S) (vA S 3) (vA S 4) (vA S 5) (vA S 6) ++ (wS cI a ((o + 1) + 9) (vs S) (vA S 7) (vA S 8) (vA S 9) (vA S 10) (vA S 11) (vA S 12) (tkT qt k) (tkQ (vs S) qt qp k) ++ (wVo cI a (o + 19) (vh T) (vc T) (vA T 0) (vA T 1) (vA T 2) ++ (wR cI a ((o + 19) + 4) (vr T) (vA T 3) (vA T 4) (vA T 5) (vA T 6) ++ (wS cI a ((o + 19) + 9) (vs T) (vA T 7) (vA T 8) (vA T 9) (vA T 10) (vA T 11) (vA T 12) qt2 qp2))))))) H locs := HW
      refine W.eq (g2 := F0 m 57 ls []) rfl ?_
      refine lv_iload_n hx hb dX3_leave_57 rfl (lv_at hl 0 rfl) ?_
      exact g_zret CX HW rfl (Or.inl rfl) ⟨_, _, rep_takeQ hR hn8 hk, pI_f (fun h9 => (rep_inQ hR hn8 hk).mp h9 c37), rfl⟩ dX3_leave_58
    · refine lv_iconst (v := 1) hx hb dX3_leave_40 (by decide) ?_
      refine lv_goto (tgt := 45) hx hb dX3_leave_41 (by decide) ?_
      refine lv_istore_n (lv' := [(2, .int (1 : Int32)), (0, .ref (a o)), (1, .int (nI k))]) hx hb dX3_leave_45 rfl hl (Nat.le_of_ble_eq_true rfl) rfl (fun ls hl => ?_)
      refine lv_aload_n hx hb dX3_leave_46 rfl (lv_at hl 1 rfl) ?_
      refine g_get CX HW in_X3_leave_3 0 0 rfl rfl (Nat.le_of_ble_eq_true rfl) fl_X3_leave_10 rfl dX3_leave_47 ?_
      refine g_get CX HW in_X3_leave_2 1 6 rfl rfl (Nat.le_of_ble_eq_true rfl) fl_X3_leave_97 rfl dX3_leave_50 ?_
      refine lv_iload_n hx hb dX3_leave_53 rfl (lv_at hl 2 rfl) ?_
      refine g_callV CX HW hl.1 (wXo cI a o  ++ (wVo cI a (o + 1) (vh S) (vc S) (vA S 0) (vA S 1) (vA S 2) ++ (wR cI a ((o + 1) + 4) (vr S) (vA S 3) (vA S 4) (vA S 5) (vA S 6)))) (wVo cI a (o + 19) (vh T) (vc T) (vA T 0) (vA T 1) (vA T 2) ++ (wR cI a ((o + 19) + 4) (vr T) (vA T 3) (vA T 4) (vA T 5) (vA T 6) ++ (wS cI a ((o + 19) + 9) (vs T) (vA T 7) (vA T 8) (vA T 9) (vA T 10) (vA T 11) (vA T 12) qt2 qp2))) (c_X1_takeOutOfQueue ((o + 1) + 9) (vs S) (vA S 7) (vA S 8) (vA S 9) (vA S 10) (vA S 11) (vA S 12) qt qp k hn8 (by omega)) rfl 0 rfl rfl gX3_leave_X1_takeOutOfQueue rfl ⟨rfl, hd_X1_takeOutOfQueue⟩ ⟨rfl, rfl, (Nat.le_of_ble_eq_true rfl), (Nat.le_of_ble_eq_true rfl)⟩ ⟨(Nat.zero_le _), (Nat.zero_le _)⟩ rfl rfl (Nat.le_of_ble_eq_true rfl) dX3_leave_54 (fun v w1 H locs hp HW => ?_)
      obtain ⟨rfl, rfl⟩ := hp
      have HW : Hw D A s (wXo cI a o  ++ (wVo cI a (o + 1) (vh S) (vc S) (vA S 0) (vA S 1) (vA S 2) ++ (wR cI a ((o + 1) + 4) (vr S) (vA S 3) (vA S 4) (vA S 5) (vA S 6) ++ (wS cI a ((o + 1) + 9) (vs S) (vA S 7) (vA S 8) (vA S 9) (vA S 10) (vA S 11) (vA S 12) (tkT qt k) (tkQ (vs S) qt qp k) ++ (wVo cI a (o + 19) (vh T) (vc T) (vA T 0) (vA T 1) (vA T 2) ++ (wR cI a ((o + 19) + 4) (vr T) (vA T 3) (vA T 4) (vA T 5) (vA T 6) ++ (wS cI a ((o + 19) + 9) (vs T) (vA T 7) (vA T 8) (vA T 9) (vA T 10) (vA T 11) (vA T 12) qt2 qp2))))))) H locs := HW
      refine W.eq (g2 := F0 m 57 ls []) rfl ?_
      refine lv_iload_n hx hb dX3_leave_57 rfl (lv_at hl 0 rfl) ?_
      exact g_zret CX HW rfl (Or.inr rfl) ⟨_, _, rep_takeQ hR hn8 hk, pI_t ((rep_inQ hR hn8 hk).mpr c37), rfl⟩ dX3_leave_58
  · exact absurd (has_ok (n := vs S) (k := k) (by omega) (by omega)) c11

theorem hd_X3_about : yX3_about.cls ≠ "java/lang/invoke/MethodHandle" ∧ yX3_about.cls ≠ "java/lang/invoke/VarHandle" ∧ (parseMethodDescriptor yX3_about.desc).map (fun d => d.parameters.length) = some 2 := by decide +kernel
theorem fl_X3_about_10 : Cond.fieldLink RX3 10 (TX3 0).1 (TX3 0).2.1 (TX3 0).2.2.1 ∈ wsX3_about := by decide +kernel
theorem in_X3_about_3 : ∀ x ∈ u_ws RX3 TX3 2, x ∈ wsX3_about := by decide +kernel
theorem fl_X3_about_35 : Cond.fieldLink RX3 35 (TX2 5).1 (TX2 5).2.1 (TX2 5).2.2.1 ∈ wsX3_about := by decide +kernel
theorem in_X3_about_2 : ∀ x ∈ u_ws RX2 TX2 7, x ∈ wsX3_about := by decide +kernel
set_option maxRecDepth 100000 in
set_option maxHeartbeats 4000000 in
theorem c_X3_about {l : Launch} {D : va_G} {cI cL : ClassId} {a : Nat → Nat} (o : Nat) (S : VS) (qt : Nat → Int32) (qp : Nat → Int32) (T : VS) (qt2 : Nat → Int32) (qp2 : Nat → Int32) (k : Nat) (w : Nat) (hI : Inv S) (hR : Rep (vs S) (vq S) qt qp) (hk : k < vr S) (hw : w ≤ 4) : Ct l yX3_about wsX3_about { frames := 6, cells := 0, slots := 0, locals := 92 } D (ty2 cI cL) [.ref (a o), .int (nI k), .int (nI w)] (wXo cI a o  ++ (wVo cI a (o + 1) (vh S) (vc S) (vA S 0) (vA S 1) (vA S 2) ++ (wR cI a ((o + 1) + 4) (vr S) (vA S 3) (vA S 4) (vA S 5) (vA S 6) ++ (wS cI a ((o + 1) + 9) (vs S) (vA S 7) (vA S 8) (vA S 9) (vA S 10) (vA S 11) (vA S 12) qt qp ++ (wVo cI a (o + 19) (vh T) (vc T) (vA T 0) (vA T 1) (vA T 2) ++ (wR cI a ((o + 19) + 4) (vr T) (vA T 3) (vA T 4) (vA T 5) (vA T 6) ++ (wS cI a ((o + 19) + 9) (vs T) (vA T 7) (vA T 8) (vA T 9) (vA T 10) (vA T 11) (vA T 12) qt2 qp2))))))) (fun v w' => v = some (.int (figR (vA S 3) (vA S 4) (vA S 5) (vA S 6) k w)) ∧ w' = wXo cI a o  ++ (wVo cI a (o + 1) (vh S) (vc S) (vA S 0) (vA S 1) (vA S 2) ++ (wR cI a ((o + 1) + 4) (vr S) (vA S 3) (vA S 4) (vA S 5) (vA S 6) ++ (wS cI a ((o + 1) + 9) (vs S) (vA S 7) (vA S 8) (vA S 9) (vA S 10) (vA S 11) (vA S 12) qt qp ++ (wVo cI a (o + 19) (vh T) (vc T) (vA T 0) (vA T 1) (vA T 2) ++ (wR cI a ((o + 19) + 4) (vr T) (vA T 3) (vA T 4) (vA T 5) (vA T 6) ++ (wS cI a ((o + 19) + 9) (vs T) (vA T 7) (vA T 8) (vA T 9) (vA T 10) (vA T 11) (vA T 12) qt2 qp2))))))) 0 0 := by
  refine Ct.of (cc := cX3_about) (maxL := 3) (ret := (some .int)) (by decide) rfl (Nat.le_of_ble_eq_true rfl) ?_
  intro p e s m below meth c A ls CX hin HW hl
  obtain ⟨hx, hb, hml, hr, hown, hts, hK, hA, hlk⟩ := id CX
  have hl : lv_has ls 3 [(0, .ref (a o)), (1, .int (nI k)), (2, .int (nI w))] := hl
  have hn6 : vr S ≤ 6 := by first | exact hI.1 | omega
  have hn8 : vs S ≤ 8 := by first | exact hI.2.1 | omega
  refine lv_aload_n hx hb dX3_about_0 rfl (lv_at hl 0 rfl) ?_
  refine g_get CX HW in_X3_about_3 0 0 rfl rfl (Nat.le_of_ble_eq_true rfl) fl_X3_about_10 rfl dX3_about_1 ?_
  refine g_get CX HW in_X3_about_2 1 5 rfl rfl (Nat.le_of_ble_eq_true rfl) fl_X3_about_35 rfl dX3_about_4 ?_
  refine lv_iload_n hx hb dX3_about_7 rfl (lv_at hl 1 rfl) ?_
  refine g_callV CX HW hl.1 (wXo cI a o  ++ (wVo cI a (o + 1) (vh S) (vc S) (vA S 0) (vA S 1) (vA S 2))) (wS cI a ((o + 1) + 9) (vs S) (vA S 7) (vA S 8) (vA S 9) (vA S 10) (vA S 11) (vA S 12) qt qp ++ (wVo cI a (o + 19) (vh T) (vc T) (vA T 0) (vA T 1) (vA T 2) ++ (wR cI a ((o + 19) + 4) (vr T) (vA T 3) (vA T 4) (vA T 5) (vA T 6) ++ (wS cI a ((o + 19) + 9) (vs T) (vA T 7) (vA T 8) (vA T 9) (vA T 10) (vA T 11) (vA T 12) qt2 qp2)))) (c_X0_has ((o + 1) + 4) (vr S) (vA S 3) (vA S 4) (vA S 5) (vA S 6) (nI k)) rfl 0 rfl rfl gX3_about_X0_has rfl ⟨rfl, hd_X0_has⟩ ⟨rfl, rfl, (Nat.le_of_ble_eq_true rfl), (Nat.le_of_ble_eq_true rfl)⟩ ⟨(Nat.zero_le _), (Nat.zero_le _)⟩ rfl rfl (Nat.le_of_ble_eq_true rfl) dX3_about_8 (fun v w1 H locs hp HW => ?_)
  obtain ⟨rfl, rfl⟩ := hp
  have HW : Hw D A s (wXo cI a o  ++ (wVo cI a (o + 1) (vh S) (vc S) (vA S 0) (vA S 1) (vA S 2) ++ (wR cI a ((o + 1) + 4) (vr S) (vA S 3) (vA S 4) (vA S 5) (vA S 6) ++ (wS cI a ((o + 1) + 9) (vs S) (vA S 7) (vA S 8) (vA S 9) (vA S 10) (vA S 11) (vA S 12) qt qp ++ (wVo cI a (o + 19) (vh T) (vc T) (vA T 0) (vA T 1) (vA T 2) ++ (wR cI a ((o + 19) + 4) (vr T) (vA T 3) (vA T 4) (vA T 5) (vA T 6) ++ (wS cI a ((o + 19) + 9) (vs T) (vA T 7) (vA T 8) (vA T 9) (vA T 10) (vA T 11) (vA T 12) qt2 qp2))))))) H locs := HW
  refine W.eq (g2 := F0 m 11 ls [.int (bI (0 ≤ (nI k) ∧ (nI k) < nI (vr S)))]) rfl ?_
  refine g_ifne_b (tgt := 24) hx hb dX3_about_11 (by decide) (fun c11 => ?_) (fun c11 => ?_)
  · refine lv_iload_n hx hb dX3_about_24 rfl (lv_at hl 2 rfl) ?_
    refine lv_iconst (v := 0) hx hb dX3_about_25 (by decide) ?_
    refine lv_iconst (v := 4) hx hb dX3_about_26 (by decide) ?_
    refine g_callS CX HW hl.1 ([]) (wXo cI a o  ++ (wVo cI a (o + 1) (vh S) (vc S) (vA S 0) (vA S 1) (vA S 2) ++ (wR cI a ((o + 1) + 4) (vr S) (vA S 3) (vA S 4) (vA S 5) (vA S 6) ++ (wS cI a ((o + 1) + 9) (vs S) (vA S 7) (vA S 8) (vA S 9) (vA S 10) (vA S 11) (vA S 12) qt qp ++ (wVo cI a (o + 19) (vh T) (vc T) (vA T 0) (vA T 1) (vA T 2) ++ (wR cI a ((o + 19) + 4) (vr T) (vA T 3) (vA T 4) (vA T 5) (vA T 6) ++ (wS cI a ((o + 19) + 9) (vs T) (vA T 7) (vA T 8) (vA T 9) (vA T 10) (vA T 11) (vA T 12) qt2 qp2))))))) (c_X3_isWithin (nI w) (0 : Int32) (4 : Int32)) rfl gX3_about_X3_isWithin rfl hd_X3_isWithin ⟨rfl, rfl, (Nat.le_of_ble_eq_true rfl), (Nat.le_of_ble_eq_true rfl)⟩ ⟨(Nat.zero_le _), (Nat.zero_le _)⟩ rfl rfl (Nat.le_of_ble_eq_true rfl) dX3_about_27 (fun v w1 H locs hp HW => ?_)
    obtain ⟨rfl, rfl⟩ := hp
    have HW : Hw D A s (wXo cI a o  ++ (wVo cI a (o + 1) (vh S) (vc S) (vA S 0) (vA S 1) (vA S 2) ++ (wR cI a ((o + 1) + 4) (vr S) (vA S 3) (vA S 4) (vA S 5) (vA S 6) ++ (wS cI a ((o + 1) + 9) (vs S) (vA S 7) (vA S 8) (vA S 9) (vA S 10) (vA S 11) (vA S 12) qt qp ++ (wVo cI a (o + 19) (vh T) (vc T) (vA T 0) (vA T 1) (vA T 2) ++ (wR cI a ((o + 19) + 4) (vr T) (vA T 3) (vA T 4) (vA T 5) (vA T 6) ++ (wS cI a ((o + 19) + 9) (vs T) (vA T 7) (vA T 8) (vA T 9) (vA T 10) (vA T 11) (vA T 12) qt2 qp2))))))) H locs := HW
    refine W.eq (g2 := F0 m 30 ls [.int (bI ((0 : Int32) ≤ (nI w) ∧ (nI w) ≤ (4 : Int32)))]) rfl ?_
    refine g_ifne_b (tgt := 43) hx hb dX3_about_30 (by decide) (fun c30 => ?_) (fun c30 => ?_)
    · refine lv_aload_n hx hb dX3_about_43 rfl (lv_at hl 0 rfl) ?_
      refine g_get CX HW in_X3_about_3 0 0 rfl rfl (Nat.le_of_ble_eq_true rfl) fl_X3_about_10 rfl dX3_about_44 ?_
      refine g_get CX HW in_X3_about_2 1 5 rfl rfl (Nat.le_of_ble_eq_true rfl) fl_X3_about_35 rfl dX3_about_47 ?_
      refine lv_iload_n hx hb dX3_about_50 rfl (lv_at hl 1 rfl) ?_
      refine lv_iload_n hx hb dX3_about_51 rfl (lv_at hl 2 rfl) ?_
      refine g_callV CX HW hl.1 (wXo cI a o  ++ (wVo cI a (o + 1) (vh S) (vc S) (vA S 0) (vA S 1) (vA S 2))) (wS cI a ((o + 1) + 9) (vs S) (vA S 7) (vA S 8) (vA S 9) (vA S 10) (vA S 11) (vA S 12) qt qp ++ (wVo cI a (o + 19) (vh T) (vc T) (vA T 0) (vA T 1) (vA T 2) ++ (wR cI a ((o + 19) + 4) (vr T) (vA T 3) (vA T 4) (vA T 5) (vA T 6) ++ (wS cI a ((o + 19) + 9) (vs T) (vA T 7) (vA T 8) (vA T 9) (vA T 10) (vA T 11) (vA T 12) qt2 qp2)))) (c_X0_figure ((o + 1) + 4) (vr S) (vA S 3) (vA S 4) (vA S 5) (vA S 6) k w (by omega) (by omega)) rfl 0 rfl rfl gX3_about_X0_figure rfl ⟨rfl, hd_X0_figure⟩ ⟨rfl, rfl, (Nat.le_of_ble_eq_true rfl), (Nat.le_of_ble_eq_true rfl)⟩ ⟨(Nat.zero_le _), (Nat.zero_le _)⟩ rfl rfl (Nat.le_of_ble_eq_true rfl) dX3_about_52 (fun v w1 H locs hp HW => ?_)
      obtain ⟨rfl, rfl⟩ := hp
      have HW : Hw D A s (wXo cI a o  ++ (wVo cI a (o + 1) (vh S) (vc S) (vA S 0) (vA S 1) (vA S 2) ++ (wR cI a ((o + 1) + 4) (vr S) (vA S 3) (vA S 4) (vA S 5) (vA S 6) ++ (wS cI a ((o + 1) + 9) (vs S) (vA S 7) (vA S 8) (vA S 9) (vA S 10) (vA S 11) (vA S 12) qt qp ++ (wVo cI a (o + 19) (vh T) (vc T) (vA T 0) (vA T 1) (vA T 2) ++ (wR cI a ((o + 19) + 4) (vr T) (vA T 3) (vA T 4) (vA T 5) (vA T 6) ++ (wS cI a ((o + 19) + 9) (vs T) (vA T 7) (vA T 8) (vA T 9) (vA T 10) (vA T 11) (vA T 12) qt2 qp2))))))) H locs := HW
      refine W.eq (g2 := F0 m 55 ls [.int (figR (vA S 3) (vA S 4) (vA S 5) (vA S 6) k w)]) rfl ?_
      exact g_iret CX HW rfl ⟨rfl, rfl⟩ dX3_about_55
    · exact absurd (wi_ok (n := 4) (k := w) (by omega) (by decide)) c30
  · exact absurd (has_ok (n := vr S) (k := k) (by omega) (by omega)) c11

theorem hd_X3_told : yX3_told.cls ≠ "java/lang/invoke/MethodHandle" ∧ yX3_told.cls ≠ "java/lang/invoke/VarHandle" ∧ (parseMethodDescriptor yX3_told.desc).map (fun d => d.parameters.length) = some 2 := by decide +kernel
theorem fl_X3_told_10 : Cond.fieldLink RX3 10 (TX3 0).1 (TX3 0).2.1 (TX3 0).2.2.1 ∈ wsX3_told := by decide +kernel
theorem in_X3_told_3 : ∀ x ∈ u_ws RX3 TX3 2, x ∈ wsX3_told := by decide +kernel
theorem fl_X3_told_97 : Cond.fieldLink RX3 97 (TX2 6).1 (TX2 6).2.1 (TX2 6).2.2.1 ∈ wsX3_told := by decide +kernel
theorem in_X3_told_2 : ∀ x ∈ u_ws RX2 TX2 7, x ∈ wsX3_told := by decide +kernel
set_option maxRecDepth 100000 in
set_option maxHeartbeats 4000000 in
theorem c_X3_told {l : Launch} {D : va_G} {cI cL : ClassId} {a : Nat → Nat} (o : Nat) (S : VS) (qt : Nat → Int32) (qp : Nat → Int32) (T : VS) (qt2 : Nat → Int32) (qp2 : Nat → Int32) (k : Nat) (w : Nat) (hI : Inv S) (hR : Rep (vs S) (vq S) qt qp) (hk : k < vs S) (hw : w ≤ 6) : Ct l yX3_told wsX3_told { frames := 6, cells := 0, slots := 0, locals := 92 } D (ty2 cI cL) [.ref (a o), .int (nI k), .int (nI w)] (wXo cI a o  ++ (wVo cI a (o + 1) (vh S) (vc S) (vA S 0) (vA S 1) (vA S 2) ++ (wR cI a ((o + 1) + 4) (vr S) (vA S 3) (vA S 4) (vA S 5) (vA S 6) ++ (wS cI a ((o + 1) + 9) (vs S) (vA S 7) (vA S 8) (vA S 9) (vA S 10) (vA S 11) (vA S 12) qt qp ++ (wVo cI a (o + 19) (vh T) (vc T) (vA T 0) (vA T 1) (vA T 2) ++ (wR cI a ((o + 19) + 4) (vr T) (vA T 3) (vA T 4) (vA T 5) (vA T 6) ++ (wS cI a ((o + 19) + 9) (vs T) (vA T 7) (vA T 8) (vA T 9) (vA T 10) (vA T 11) (vA T 12) qt2 qp2))))))) (fun v w' => v = some (.int (figK S k w)) ∧ w' = wXo cI a o  ++ (wVo cI a (o + 1) (vh S) (vc S) (vA S 0) (vA S 1) (vA S 2) ++ (wR cI a ((o + 1) + 4) (vr S) (vA S 3) (vA S 4) (vA S 5) (vA S 6) ++ (wS cI a ((o + 1) + 9) (vs S) (vA S 7) (vA S 8) (vA S 9) (vA S 10) (vA S 11) (vA S 12) qt qp ++ (wVo cI a (o + 19) (vh T) (vc T) (vA T 0) (vA T 1) (vA T 2) ++ (wR cI a ((o + 19) + 4) (vr T) (vA T 3) (vA T 4) (vA T 5) (vA T 6) ++ (wS cI a ((o + 19) + 9) (vs T) (vA T 7) (vA T 8) (vA T 9) (vA T 10) (vA T 11) (vA T 12) qt2 qp2))))))) 0 0 := by
  refine Ct.of (cc := cX3_told) (maxL := 3) (ret := (some .int)) (by decide) rfl (Nat.le_of_ble_eq_true rfl) ?_
  intro p e s m below meth c A ls CX hin HW hl
  obtain ⟨hx, hb, hml, hr, hown, hts, hK, hA, hlk⟩ := id CX
  have hl : lv_has ls 3 [(0, .ref (a o)), (1, .int (nI k)), (2, .int (nI w))] := hl
  have hn6 : vr S ≤ 6 := by first | exact hI.1 | omega
  have hn8 : vs S ≤ 8 := by first | exact hI.2.1 | omega
  refine lv_aload_n hx hb dX3_told_0 rfl (lv_at hl 0 rfl) ?_
  refine g_get CX HW in_X3_told_3 0 0 rfl rfl (Nat.le_of_ble_eq_true rfl) fl_X3_told_10 rfl dX3_told_1 ?_
  refine g_get CX HW in_X3_told_2 1 6 rfl rfl (Nat.le_of_ble_eq_true rfl) fl_X3_told_97 rfl dX3_told_4 ?_
  refine lv_iload_n hx hb dX3_told_7 rfl (lv_at hl 1 rfl) ?_
  refine g_callV CX HW hl.1 (wXo cI a o  ++ (wVo cI a (o + 1) (vh S) (vc S) (vA S 0) (vA S 1) (vA S 2) ++ (wR cI a ((o + 1) + 4) (vr S) (vA S 3) (vA S 4) (vA S 5) (vA S 6)))) (wVo cI a (o + 19) (vh T) (vc T) (vA T 0) (vA T 1) (vA T 2) ++ (wR cI a ((o + 19) + 4) (vr T) (vA T 3) (vA T 4) (vA T 5) (vA T 6) ++ (wS cI a ((o + 19) + 9) (vs T) (vA T 7) (vA T 8) (vA T 9) (vA T 10) (vA T 11) (vA T 12) qt2 qp2))) (c_X1_has ((o + 1) + 9) (vs S) (vA S 7) (vA S 8) (vA S 9) (vA S 10) (vA S 11) (vA S 12) qt qp (nI k)) rfl 0 rfl rfl gX3_told_X1_has rfl ⟨rfl, hd_X1_has⟩ ⟨rfl, rfl, (Nat.le_of_ble_eq_true rfl), (Nat.le_of_ble_eq_true rfl)⟩ ⟨(Nat.zero_le _), (Nat.zero_le _)⟩ rfl rfl (Nat.le_of_ble_eq_true rfl) dX3_told_8 (fun v w1 H locs hp HW => ?_)
  obtain ⟨rfl, rfl⟩ := hp
  have HW : Hw D A s (wXo cI a o  ++ (wVo cI a (o + 1) (vh S) (vc S) (vA S 0) (vA S 1) (vA S 2) ++ (wR cI a ((o + 1) + 4) (vr S) (vA S 3) (vA S 4) (vA S 5) (vA S 6) ++ (wS cI a ((o + 1) + 9) (vs S) (vA S 7) (vA S 8) (vA S 9) (vA S 10) (vA S 11) (vA S 12) qt qp ++ (wVo cI a (o + 19) (vh T) (vc T) (vA T 0) (vA T 1) (vA T 2) ++ (wR cI a ((o + 19) + 4) (vr T) (vA T 3) (vA T 4) (vA T 5) (vA T 6) ++ (wS cI a ((o + 19) + 9) (vs T) (vA T 7) (vA T 8) (vA T 9) (vA T 10) (vA T 11) (vA T 12) qt2 qp2))))))) H locs := HW
  refine W.eq (g2 := F0 m 11 ls [.int (bI (0 ≤ (nI k) ∧ (nI k) < nI (vs S)))]) rfl ?_
  refine g_ifne_b (tgt := 24) hx hb dX3_told_11 (by decide) (fun c11 => ?_) (fun c11 => ?_)
  · refine lv_iload_n hx hb dX3_told_24 rfl (lv_at hl 2 rfl) ?_
    refine lv_iconst (v := 0) hx hb dX3_told_25 (by decide) ?_
    refine lv_bipush (v := 6) hx hb dX3_told_26 (by decide) ?_
    refine g_callS CX HW hl.1 ([]) (wXo cI a o  ++ (wVo cI a (o + 1) (vh S) (vc S) (vA S 0) (vA S 1) (vA S 2) ++ (wR cI a ((o + 1) + 4) (vr S) (vA S 3) (vA S 4) (vA S 5) (vA S 6) ++ (wS cI a ((o + 1) + 9) (vs S) (vA S 7) (vA S 8) (vA S 9) (vA S 10) (vA S 11) (vA S 12) qt qp ++ (wVo cI a (o + 19) (vh T) (vc T) (vA T 0) (vA T 1) (vA T 2) ++ (wR cI a ((o + 19) + 4) (vr T) (vA T 3) (vA T 4) (vA T 5) (vA T 6) ++ (wS cI a ((o + 19) + 9) (vs T) (vA T 7) (vA T 8) (vA T 9) (vA T 10) (vA T 11) (vA T 12) qt2 qp2))))))) (c_X3_isWithin (nI w) (0 : Int32) (6 : Int32)) rfl gX3_told_X3_isWithin rfl hd_X3_isWithin ⟨rfl, rfl, (Nat.le_of_ble_eq_true rfl), (Nat.le_of_ble_eq_true rfl)⟩ ⟨(Nat.zero_le _), (Nat.zero_le _)⟩ rfl rfl (Nat.le_of_ble_eq_true rfl) dX3_told_28 (fun v w1 H locs hp HW => ?_)
    obtain ⟨rfl, rfl⟩ := hp
    have HW : Hw D A s (wXo cI a o  ++ (wVo cI a (o + 1) (vh S) (vc S) (vA S 0) (vA S 1) (vA S 2) ++ (wR cI a ((o + 1) + 4) (vr S) (vA S 3) (vA S 4) (vA S 5) (vA S 6) ++ (wS cI a ((o + 1) + 9) (vs S) (vA S 7) (vA S 8) (vA S 9) (vA S 10) (vA S 11) (vA S 12) qt qp ++ (wVo cI a (o + 19) (vh T) (vc T) (vA T 0) (vA T 1) (vA T 2) ++ (wR cI a ((o + 19) + 4) (vr T) (vA T 3) (vA T 4) (vA T 5) (vA T 6) ++ (wS cI a ((o + 19) + 9) (vs T) (vA T 7) (vA T 8) (vA T 9) (vA T 10) (vA T 11) (vA T 12) qt2 qp2))))))) H locs := HW
    refine W.eq (g2 := F0 m 31 ls [.int (bI ((0 : Int32) ≤ (nI w) ∧ (nI w) ≤ (6 : Int32)))]) rfl ?_
    refine g_ifne_b (tgt := 44) hx hb dX3_told_31 (by decide) (fun c31 => ?_) (fun c31 => ?_)
    · refine lv_aload_n hx hb dX3_told_44 rfl (lv_at hl 0 rfl) ?_
      refine g_get CX HW in_X3_told_3 0 0 rfl rfl (Nat.le_of_ble_eq_true rfl) fl_X3_told_10 rfl dX3_told_45 ?_
      refine g_get CX HW in_X3_told_2 1 6 rfl rfl (Nat.le_of_ble_eq_true rfl) fl_X3_told_97 rfl dX3_told_48 ?_
      refine lv_iload_n hx hb dX3_told_51 rfl (lv_at hl 1 rfl) ?_
      refine lv_iload_n hx hb dX3_told_52 rfl (lv_at hl 2 rfl) ?_
      refine g_callV CX HW hl.1 (wXo cI a o  ++ (wVo cI a (o + 1) (vh S) (vc S) (vA S 0) (vA S 1) (vA S 2) ++ (wR cI a ((o + 1) + 4) (vr S) (vA S 3) (vA S 4) (vA S 5) (vA S 6)))) (wVo cI a (o + 19) (vh T) (vc T) (vA T 0) (vA T 1) (vA T 2) ++ (wR cI a ((o + 19) + 4) (vr T) (vA T 3) (vA T 4) (vA T 5) (vA T 6) ++ (wS cI a ((o + 19) + 9) (vs T) (vA T 7) (vA T 8) (vA T 9) (vA T 10) (vA T 11) (vA T 12) qt2 qp2))) (c_X1_figure ((o + 1) + 9) (vs S) (vA S 7) (vA S 8) (vA S 9) (vA S 10) (vA S 11) (vA S 12) qt qp k w (by omega) (by omega)) rfl 0 rfl rfl gX3_told_X1_figure rfl ⟨rfl, hd_X1_figure⟩ ⟨rfl, rfl, (Nat.le_of_ble_eq_true rfl), (Nat.le_of_ble_eq_true rfl)⟩ ⟨(Nat.zero_le _), (Nat.zero_le _)⟩ rfl rfl (Nat.le_of_ble_eq_true rfl) dX3_told_53 (fun v w1 H locs hp HW => ?_)
      obtain ⟨rfl, rfl⟩ := hp
      have HW : Hw D A s (wXo cI a o  ++ (wVo cI a (o + 1) (vh S) (vc S) (vA S 0) (vA S 1) (vA S 2) ++ (wR cI a ((o + 1) + 4) (vr S) (vA S 3) (vA S 4) (vA S 5) (vA S 6) ++ (wS cI a ((o + 1) + 9) (vs S) (vA S 7) (vA S 8) (vA S 9) (vA S 10) (vA S 11) (vA S 12) qt qp ++ (wVo cI a (o + 19) (vh T) (vc T) (vA T 0) (vA T 1) (vA T 2) ++ (wR cI a ((o + 19) + 4) (vr T) (vA T 3) (vA T 4) (vA T 5) (vA T 6) ++ (wS cI a ((o + 19) + 9) (vs T) (vA T 7) (vA T 8) (vA T 9) (vA T 10) (vA T 11) (vA T 12) qt2 qp2))))))) H locs := HW
      refine W.eq (g2 := F0 m 56 ls [.int (figS (vA S 7) (vA S 8) (vA S 9) (vA S 10) (vA S 11) (vA S 12) qt k w)]) rfl ?_
      refine g_top (y := (figK S k w)) (figS_qt (rep_towQ hR hn8 hk)) ?_
      exact g_iret CX HW rfl ⟨rfl, rfl⟩ dX3_told_56
    · exact absurd (wi_ok (n := 6) (k := w) (by omega) (by decide)) c31
  · exact absurd (has_ok (n := vs S) (k := k) (by omega) (by omega)) c11

theorem hd_X3_tow : yX3_tow.cls ≠ "java/lang/invoke/MethodHandle" ∧ yX3_tow.cls ≠ "java/lang/invoke/VarHandle" ∧ (parseMethodDescriptor yX3_tow.desc).map (fun d => d.parameters.length) = some 2 := by decide +kernel
theorem fl_X3_tow_10 : Cond.fieldLink RX3 10 (TX3 0).1 (TX3 0).2.1 (TX3 0).2.2.1 ∈ wsX3_tow := by decide +kernel
theorem in_X3_tow_3 : ∀ x ∈ u_ws RX3 TX3 2, x ∈ wsX3_tow := by decide +kernel
set_option maxRecDepth 100000 in
set_option maxHeartbeats 4000000 in
theorem c_X3_tow {l : Launch} {D : va_G} {cI cL : ClassId} {a : Nat → Nat} (o : Nat) (S : VS) (qt : Nat → Int32) (qp : Nat → Int32) (T : VS) (qt2 : Nat → Int32) (qp2 : Nat → Int32) (t : Nat) (w : Nat) (hI : Inv S) (hR : Rep (vs S) (vq S) qt qp) (ht : t ≤ 2) (hw : w ≤ 2) : Ct l yX3_tow wsX3_tow { frames := 6, cells := 0, slots := 0, locals := 92 } D (ty2 cI cL) [.ref (a o), .int (nI t), .int (nI w)] (wXo cI a o  ++ (wVo cI a (o + 1) (vh S) (vc S) (vA S 0) (vA S 1) (vA S 2) ++ (wR cI a ((o + 1) + 4) (vr S) (vA S 3) (vA S 4) (vA S 5) (vA S 6) ++ (wS cI a ((o + 1) + 9) (vs S) (vA S 7) (vA S 8) (vA S 9) (vA S 10) (vA S 11) (vA S 12) qt qp ++ (wVo cI a (o + 19) (vh T) (vc T) (vA T 0) (vA T 1) (vA T 2) ++ (wR cI a ((o + 19) + 4) (vr T) (vA T 3) (vA T 4) (vA T 5) (vA T 6) ++ (wS cI a ((o + 19) + 9) (vs T) (vA T 7) (vA T 8) (vA T 9) (vA T 10) (vA T 11) (vA T 12) qt2 qp2))))))) (fun v w' => v = some (.int (figT S t w)) ∧ w' = wXo cI a o  ++ (wVo cI a (o + 1) (vh S) (vc S) (vA S 0) (vA S 1) (vA S 2) ++ (wR cI a ((o + 1) + 4) (vr S) (vA S 3) (vA S 4) (vA S 5) (vA S 6) ++ (wS cI a ((o + 1) + 9) (vs S) (vA S 7) (vA S 8) (vA S 9) (vA S 10) (vA S 11) (vA S 12) qt qp ++ (wVo cI a (o + 19) (vh T) (vc T) (vA T 0) (vA T 1) (vA T 2) ++ (wR cI a ((o + 19) + 4) (vr T) (vA T 3) (vA T 4) (vA T 5) (vA T 6) ++ (wS cI a ((o + 19) + 9) (vs T) (vA T 7) (vA T 8) (vA T 9) (vA T 10) (vA T 11) (vA T 12) qt2 qp2))))))) 0 0 := by
  refine Ct.of (cc := cX3_tow) (maxL := 3) (ret := (some .int)) (by decide) rfl (Nat.le_of_ble_eq_true rfl) ?_
  intro p e s m below meth c A ls CX hin HW hl
  obtain ⟨hx, hb, hml, hr, hown, hts, hK, hA, hlk⟩ := id CX
  have hl : lv_has ls 3 [(0, .ref (a o)), (1, .int (nI t)), (2, .int (nI w))] := hl
  have hn6 : vr S ≤ 6 := by first | exact hI.1 | omega
  have hn8 : vs S ≤ 8 := by first | exact hI.2.1 | omega
  refine lv_iload_n hx hb dX3_tow_0 rfl (lv_at hl 1 rfl) ?_
  refine lv_iconst (v := 0) hx hb dX3_tow_1 (by decide) ?_
  refine lv_iconst (v := 2) hx hb dX3_tow_2 (by decide) ?_
  refine g_callS CX HW hl.1 ([]) (wXo cI a o  ++ (wVo cI a (o + 1) (vh S) (vc S) (vA S 0) (vA S 1) (vA S 2) ++ (wR cI a ((o + 1) + 4) (vr S) (vA S 3) (vA S 4) (vA S 5) (vA S 6) ++ (wS cI a ((o + 1) + 9) (vs S) (vA S 7) (vA S 8) (vA S 9) (vA S 10) (vA S 11) (vA S 12) qt qp ++ (wVo cI a (o + 19) (vh T) (vc T) (vA T 0) (vA T 1) (vA T 2) ++ (wR cI a ((o + 19) + 4) (vr T) (vA T 3) (vA T 4) (vA T 5) (vA T 6) ++ (wS cI a ((o + 19) + 9) (vs T) (vA T 7) (vA T 8) (vA T 9) (vA T 10) (vA T 11) (vA T 12) qt2 qp2))))))) (c_X3_isWithin (nI t) (0 : Int32) (2 : Int32)) rfl gX3_tow_X3_isWithin rfl hd_X3_isWithin ⟨rfl, rfl, (Nat.le_of_ble_eq_true rfl), (Nat.le_of_ble_eq_true rfl)⟩ ⟨(Nat.zero_le _), (Nat.zero_le _)⟩ rfl rfl (Nat.le_of_ble_eq_true rfl) dX3_tow_3 (fun v w1 H locs hp HW => ?_)
  obtain ⟨rfl, rfl⟩ := hp
  have HW : Hw D A s (wXo cI a o  ++ (wVo cI a (o + 1) (vh S) (vc S) (vA S 0) (vA S 1) (vA S 2) ++ (wR cI a ((o + 1) + 4) (vr S) (vA S 3) (vA S 4) (vA S 5) (vA S 6) ++ (wS cI a ((o + 1) + 9) (vs S) (vA S 7) (vA S 8) (vA S 9) (vA S 10) (vA S 11) (vA S 12) qt qp ++ (wVo cI a (o + 19) (vh T) (vc T) (vA T 0) (vA T 1) (vA T 2) ++ (wR cI a ((o + 19) + 4) (vr T) (vA T 3) (vA T 4) (vA T 5) (vA T 6) ++ (wS cI a ((o + 19) + 9) (vs T) (vA T 7) (vA T 8) (vA T 9) (vA T 10) (vA T 11) (vA T 12) qt2 qp2))))))) H locs := HW
  refine W.eq (g2 := F0 m 6 ls [.int (bI ((0 : Int32) ≤ (nI t) ∧ (nI t) ≤ (2 : Int32)))]) rfl ?_
  refine g_ifne_b (tgt := 19) hx hb dX3_tow_6 (by decide) (fun c6 => ?_) (fun c6 => ?_)
  · refine lv_iload_n hx hb dX3_tow_19 rfl (lv_at hl 2 rfl) ?_
    refine lv_iconst (v := 0) hx hb dX3_tow_20 (by decide) ?_
    refine lv_iconst (v := 2) hx hb dX3_tow_21 (by decide) ?_
    refine g_callS CX HW hl.1 ([]) (wXo cI a o  ++ (wVo cI a (o + 1) (vh S) (vc S) (vA S 0) (vA S 1) (vA S 2) ++ (wR cI a ((o + 1) + 4) (vr S) (vA S 3) (vA S 4) (vA S 5) (vA S 6) ++ (wS cI a ((o + 1) + 9) (vs S) (vA S 7) (vA S 8) (vA S 9) (vA S 10) (vA S 11) (vA S 12) qt qp ++ (wVo cI a (o + 19) (vh T) (vc T) (vA T 0) (vA T 1) (vA T 2) ++ (wR cI a ((o + 19) + 4) (vr T) (vA T 3) (vA T 4) (vA T 5) (vA T 6) ++ (wS cI a ((o + 19) + 9) (vs T) (vA T 7) (vA T 8) (vA T 9) (vA T 10) (vA T 11) (vA T 12) qt2 qp2))))))) (c_X3_isWithin (nI w) (0 : Int32) (2 : Int32)) rfl gX3_tow_X3_isWithin rfl hd_X3_isWithin ⟨rfl, rfl, (Nat.le_of_ble_eq_true rfl), (Nat.le_of_ble_eq_true rfl)⟩ ⟨(Nat.zero_le _), (Nat.zero_le _)⟩ rfl rfl (Nat.le_of_ble_eq_true rfl) dX3_tow_22 (fun v w1 H locs hp HW => ?_)
    obtain ⟨rfl, rfl⟩ := hp
    have HW : Hw D A s (wXo cI a o  ++ (wVo cI a (o + 1) (vh S) (vc S) (vA S 0) (vA S 1) (vA S 2) ++ (wR cI a ((o + 1) + 4) (vr S) (vA S 3) (vA S 4) (vA S 5) (vA S 6) ++ (wS cI a ((o + 1) + 9) (vs S) (vA S 7) (vA S 8) (vA S 9) (vA S 10) (vA S 11) (vA S 12) qt qp ++ (wVo cI a (o + 19) (vh T) (vc T) (vA T 0) (vA T 1) (vA T 2) ++ (wR cI a ((o + 19) + 4) (vr T) (vA T 3) (vA T 4) (vA T 5) (vA T 6) ++ (wS cI a ((o + 19) + 9) (vs T) (vA T 7) (vA T 8) (vA T 9) (vA T 10) (vA T 11) (vA T 12) qt2 qp2))))))) H locs := HW
    refine W.eq (g2 := F0 m 25 ls [.int (bI ((0 : Int32) ≤ (nI w) ∧ (nI w) ≤ (2 : Int32)))]) rfl ?_
    refine g_ifne_b (tgt := 38) hx hb dX3_tow_25 (by decide) (fun c25 => ?_) (fun c25 => ?_)
    · refine lv_aload_n hx hb dX3_tow_38 rfl (lv_at hl 0 rfl) ?_
      refine g_get CX HW in_X3_tow_3 0 0 rfl rfl (Nat.le_of_ble_eq_true rfl) fl_X3_tow_10 rfl dX3_tow_39 ?_
      refine lv_iload_n hx hb dX3_tow_42 rfl (lv_at hl 1 rfl) ?_
      refine lv_iload_n hx hb dX3_tow_43 rfl (lv_at hl 2 rfl) ?_
      refine g_callV CX HW hl.1 (wXo cI a o ) (wVo cI a (o + 19) (vh T) (vc T) (vA T 0) (vA T 1) (vA T 2) ++ (wR cI a ((o + 19) + 4) (vr T) (vA T 3) (vA T 4) (vA T 5) (vA T 6) ++ (wS cI a ((o + 19) + 9) (vs T) (vA T 7) (vA T 8) (vA T 9) (vA T 10) (vA T 11) (vA T 12) qt2 qp2))) (c_X2_towFigure (o + 1) S qt qp t w hR hI.2.1 (by omega) (by omega)) rfl 0 rfl rfl gX3_tow_X2_towFigure rfl ⟨rfl, hd_X2_towFigure⟩ ⟨rfl, rfl, (Nat.le_of_ble_eq_true rfl), (Nat.le_of_ble_eq_true rfl)⟩ ⟨(Nat.zero_le _), (Nat.zero_le _)⟩ rfl rfl (Nat.le_of_ble_eq_true rfl) dX3_tow_44 (fun v w1 H locs hp HW => ?_)
      obtain ⟨rfl, rfl⟩ := hp
      have HW : Hw D A s (wXo cI a o  ++ (wVo cI a (o + 1) (vh S) (vc S) (vA S 0) (vA S 1) (vA S 2) ++ (wR cI a ((o + 1) + 4) (vr S) (vA S 3) (vA S 4) (vA S 5) (vA S 6) ++ (wS cI a ((o + 1) + 9) (vs S) (vA S 7) (vA S 8) (vA S 9) (vA S 10) (vA S 11) (vA S 12) qt qp ++ (wVo cI a (o + 19) (vh T) (vc T) (vA T 0) (vA T 1) (vA T 2) ++ (wR cI a ((o + 19) + 4) (vr T) (vA T 3) (vA T 4) (vA T 5) (vA T 6) ++ (wS cI a ((o + 19) + 9) (vs T) (vA T 7) (vA T 8) (vA T 9) (vA T 10) (vA T 11) (vA T 12) qt2 qp2))))))) H locs := HW
      refine W.eq (g2 := F0 m 47 ls [.int (figT S t w)]) rfl ?_
      exact g_iret CX HW rfl ⟨rfl, rfl⟩ dX3_tow_47
    · exact absurd (wi_ok (n := 2) (k := w) (by omega) (by decide)) c25
  · exact absurd (wi_ok (n := 2) (k := t) (by omega) (by decide)) c6

theorem hd_X3_stands : yX3_stands.cls ≠ "java/lang/invoke/MethodHandle" ∧ yX3_stands.cls ≠ "java/lang/invoke/VarHandle" ∧ (parseMethodDescriptor yX3_stands.desc).map (fun d => d.parameters.length) = some 2 := by decide +kernel
theorem fl_X3_stands_10 : Cond.fieldLink RX3 10 (TX3 0).1 (TX3 0).2.1 (TX3 0).2.2.1 ∈ wsX3_stands := by decide +kernel
theorem in_X3_stands_3 : ∀ x ∈ u_ws RX3 TX3 2, x ∈ wsX3_stands := by decide +kernel
theorem fl_X3_stands_97 : Cond.fieldLink RX3 97 (TX2 6).1 (TX2 6).2.1 (TX2 6).2.2.1 ∈ wsX3_stands := by decide +kernel
theorem in_X3_stands_2 : ∀ x ∈ u_ws RX2 TX2 7, x ∈ wsX3_stands := by decide +kernel
set_option maxRecDepth 100000 in
set_option maxHeartbeats 4000000 in
theorem c_X3_stands {l : Launch} {D : va_G} {cI cL : ClassId} {a : Nat → Nat} (o : Nat) (S : VS) (qt : Nat → Int32) (qp : Nat → Int32) (T : VS) (qt2 : Nat → Int32) (qp2 : Nat → Int32) (t : Nat) (z : Nat) (hI : Inv S) (hR : Rep (vs S) (vq S) qt qp) (ht : t ≤ 2) (hz : z < (vq S t).length) : Ct l yX3_stands wsX3_stands { frames := 6, cells := 0, slots := 0, locals := 92 } D (ty2 cI cL) [.ref (a o), .int (nI t), .int (nI z)] (wXo cI a o  ++ (wVo cI a (o + 1) (vh S) (vc S) (vA S 0) (vA S 1) (vA S 2) ++ (wR cI a ((o + 1) + 4) (vr S) (vA S 3) (vA S 4) (vA S 5) (vA S 6) ++ (wS cI a ((o + 1) + 9) (vs S) (vA S 7) (vA S 8) (vA S 9) (vA S 10) (vA S 11) (vA S 12) qt qp ++ (wVo cI a (o + 19) (vh T) (vc T) (vA T 0) (vA T 1) (vA T 2) ++ (wR cI a ((o + 19) + 4) (vr T) (vA T 3) (vA T 4) (vA T 5) (vA T 6) ++ (wS cI a ((o + 19) + 9) (vs T) (vA T 7) (vA T 8) (vA T 9) (vA T 10) (vA T 11) (vA T 12) qt2 qp2))))))) (fun v w' => v = some (.int (oI ((vq S t)[z]?))) ∧ w' = wXo cI a o  ++ (wVo cI a (o + 1) (vh S) (vc S) (vA S 0) (vA S 1) (vA S 2) ++ (wR cI a ((o + 1) + 4) (vr S) (vA S 3) (vA S 4) (vA S 5) (vA S 6) ++ (wS cI a ((o + 1) + 9) (vs S) (vA S 7) (vA S 8) (vA S 9) (vA S 10) (vA S 11) (vA S 12) qt qp ++ (wVo cI a (o + 19) (vh T) (vc T) (vA T 0) (vA T 1) (vA T 2) ++ (wR cI a ((o + 19) + 4) (vr T) (vA T 3) (vA T 4) (vA T 5) (vA T 6) ++ (wS cI a ((o + 19) + 9) (vs T) (vA T 7) (vA T 8) (vA T 9) (vA T 10) (vA T 11) (vA T 12) qt2 qp2))))))) 0 0 := by
  refine Ct.of (cc := cX3_stands) (maxL := 4) (ret := (some .int)) (by decide) rfl (Nat.le_of_ble_eq_true rfl) ?_
  intro p e s m below meth c A ls CX hin HW hl
  obtain ⟨hx, hb, hml, hr, hown, hts, hK, hA, hlk⟩ := id CX
  have hl : lv_has ls 4 [(0, .ref (a o)), (1, .int (nI t)), (2, .int (nI z))] := hl
  have hn6 : vr S ≤ 6 := by first | exact hI.1 | omega
  have hn8 : vs S ≤ 8 := by first | exact hI.2.1 | omega
  refine lv_iload_n hx hb dX3_stands_0 rfl (lv_at hl 1 rfl) ?_
  refine lv_iconst (v := 0) hx hb dX3_stands_1 (by decide) ?_
  refine lv_iconst (v := 2) hx hb dX3_stands_2 (by decide) ?_
  refine g_callS CX HW hl.1 ([]) (wXo cI a o  ++ (wVo cI a (o + 1) (vh S) (vc S) (vA S 0) (vA S 1) (vA S 2) ++ (wR cI a ((o + 1) + 4) (vr S) (vA S 3) (vA S 4) (vA S 5) (vA S 6) ++ (wS cI a ((o + 1) + 9) (vs S) (vA S 7) (vA S 8) (vA S 9) (vA S 10) (vA S 11) (vA S 12) qt qp ++ (wVo cI a (o + 19) (vh T) (vc T) (vA T 0) (vA T 1) (vA T 2) ++ (wR cI a ((o + 19) + 4) (vr T) (vA T 3) (vA T 4) (vA T 5) (vA T 6) ++ (wS cI a ((o + 19) + 9) (vs T) (vA T 7) (vA T 8) (vA T 9) (vA T 10) (vA T 11) (vA T 12) qt2 qp2))))))) (c_X3_isWithin (nI t) (0 : Int32) (2 : Int32)) rfl gX3_stands_X3_isWithin rfl hd_X3_isWithin ⟨rfl, rfl, (Nat.le_of_ble_eq_true rfl), (Nat.le_of_ble_eq_true rfl)⟩ ⟨(Nat.zero_le _), (Nat.zero_le _)⟩ rfl rfl (Nat.le_of_ble_eq_true rfl) dX3_stands_3 (fun v w1 H locs hp HW => ?_)
  obtain ⟨rfl, rfl⟩ := hp
  have HW : Hw D A s (wXo cI a o  ++ (wVo cI a (o + 1) (vh S) (vc S) (vA S 0) (vA S 1) (vA S 2) ++ (wR cI a ((o + 1) + 4) (vr S) (vA S 3) (vA S 4) (vA S 5) (vA S 6) ++ (wS cI a ((o + 1) + 9) (vs S) (vA S 7) (vA S 8) (vA S 9) (vA S 10) (vA S 11) (vA S 12) qt qp ++ (wVo cI a (o + 19) (vh T) (vc T) (vA T 0) (vA T 1) (vA T 2) ++ (wR cI a ((o + 19) + 4) (vr T) (vA T 3) (vA T 4) (vA T 5) (vA T 6) ++ (wS cI a ((o + 19) + 9) (vs T) (vA T 7) (vA T 8) (vA T 9) (vA T 10) (vA T 11) (vA T 12) qt2 qp2))))))) H locs := HW
  refine W.eq (g2 := F0 m 6 ls [.int (bI ((0 : Int32) ≤ (nI t) ∧ (nI t) ≤ (2 : Int32)))]) rfl ?_
  refine g_ifne_b (tgt := 19) hx hb dX3_stands_6 (by decide) (fun c6 => ?_) (fun c6 => ?_)
  · refine lv_aload_n hx hb dX3_stands_19 rfl (lv_at hl 0 rfl) ?_
    refine g_get CX HW in_X3_stands_3 0 0 rfl rfl (Nat.le_of_ble_eq_true rfl) fl_X3_stands_10 rfl dX3_stands_20 ?_
    refine g_get CX HW in_X3_stands_2 1 6 rfl rfl (Nat.le_of_ble_eq_true rfl) fl_X3_stands_97 rfl dX3_stands_23 ?_
    refine lv_iload_n hx hb dX3_stands_26 rfl (lv_at hl 1 rfl) ?_
    refine lv_iload_n hx hb dX3_stands_27 rfl (lv_at hl 2 rfl) ?_
    refine g_callV CX HW hl.1 (wXo cI a o  ++ (wVo cI a (o + 1) (vh S) (vc S) (vA S 0) (vA S 1) (vA S 2) ++ (wR cI a ((o + 1) + 4) (vr S) (vA S 3) (vA S 4) (vA S 5) (vA S 6)))) (wVo cI a (o + 19) (vh T) (vc T) (vA T 0) (vA T 1) (vA T 2) ++ (wR cI a ((o + 19) + 4) (vr T) (vA T 3) (vA T 4) (vA T 5) (vA T 6) ++ (wS cI a ((o + 19) + 9) (vs T) (vA T 7) (vA T 8) (vA T 9) (vA T 10) (vA T 11) (vA T 12) qt2 qp2))) (c_X1_at ((o + 1) + 9) (vs S) (vA S 7) (vA S 8) (vA S 9) (vA S 10) (vA S 11) (vA S 12) qt qp (nI t) (nI z) hI.2.1) rfl 0 rfl rfl gX3_stands_X1_at rfl ⟨rfl, hd_X1_at⟩ ⟨rfl, rfl, (Nat.le_of_ble_eq_true rfl), (Nat.le_of_ble_eq_true rfl)⟩ ⟨(Nat.zero_le _), (Nat.zero_le _)⟩ rfl rfl (Nat.le_of_ble_eq_true rfl) dX3_stands_28 (fun v w1 H locs hp HW => ?_)
    obtain ⟨rfl, rfl⟩ := hp
    have HW : Hw D A s (wXo cI a o  ++ (wVo cI a (o + 1) (vh S) (vc S) (vA S 0) (vA S 1) (vA S 2) ++ (wR cI a ((o + 1) + 4) (vr S) (vA S 3) (vA S 4) (vA S 5) (vA S 6) ++ (wS cI a ((o + 1) + 9) (vs S) (vA S 7) (vA S 8) (vA S 9) (vA S 10) (vA S 11) (vA S 12) qt qp ++ (wVo cI a (o + 19) (vh T) (vc T) (vA T 0) (vA T 1) (vA T 2) ++ (wR cI a ((o + 19) + 4) (vr T) (vA T 3) (vA T 4) (vA T 5) (vA T 6) ++ (wS cI a ((o + 19) + 9) (vs T) (vA T 7) (vA T 8) (vA T 9) (vA T 10) (vA T 11) (vA T 12) qt2 qp2))))))) H locs := HW
    refine W.eq (g2 := F0 m 31 ls [.int (oI (fnd qt qp (nI t) (nI z) (vs S)))]) rfl ?_
    refine g_top (y := (oI ((vq S t)[z]?))) (by rw [rep_at hR hI.2.1 (by omega) (by have := rep_len hR hI.2.1 (t := t) (by omega); omega)]) ?_
    refine lv_istore_n (lv' := [(3, .int (oI ((vq S t)[z]?))), (0, .ref (a o)), (1, .int (nI t)), (2, .int (nI z))]) hx hb dX3_stands_31 rfl hl (Nat.le_of_ble_eq_true rfl) rfl (fun ls hl => ?_)
    refine lv_iload_n hx hb dX3_stands_32 rfl (lv_at hl 0 rfl) ?_
    refine lv_iconst (v := (-1)) hx hb dX3_stands_33 (by decide) ?_
    refine lv_icmp_ne (tgt := 47) hx hb dX3_stands_34 (by decide) (fun c34 => ?_) (fun c34 => ?_)
    · refine lv_iload_n hx hb dX3_stands_47 rfl (lv_at hl 0 rfl) ?_
      exact g_iret CX HW rfl ⟨rfl, rfl⟩ dX3_stands_48
    · exact absurd c34 (oI_some hR hn8 (by omega) hz)
  · exact absurd (wi_ok (n := 2) (k := t) (by omega) (by decide)) c6

theorem hd_X3_count : yX3_count.cls ≠ "java/lang/invoke/MethodHandle" ∧ yX3_count.cls ≠ "java/lang/invoke/VarHandle" ∧ (parseMethodDescriptor yX3_count.desc).map (fun d => d.parameters.length) = some 1 := by decide +kernel
theorem fl_X3_count_10 : Cond.fieldLink RX3 10 (TX3 0).1 (TX3 0).2.1 (TX3 0).2.2.1 ∈ wsX3_count := by decide +kernel
theorem in_X3_count_3 : ∀ x ∈ u_ws RX3 TX3 2, x ∈ wsX3_count := by decide +kernel
set_option maxRecDepth 100000 in
set_option maxHeartbeats 4000000 in
theorem c_X3_count {l : Launch} {D : va_G} {cI cL : ClassId} {a : Nat → Nat} (o : Nat) (S : VS) (qt : Nat → Int32) (qp : Nat → Int32) (T : VS) (qt2 : Nat → Int32) (qp2 : Nat → Int32) (w : Nat) (hI : Inv S) (hR : Rep (vs S) (vq S) qt qp) (hh : vh S + 100 < 2 ^ 31) (hw : w ≤ 8) : Ct l yX3_count wsX3_count { frames := 6, cells := 0, slots := 0, locals := 92 } D (ty2 cI cL) [.ref (a o), .int (nI w)] (wXo cI a o  ++ (wVo cI a (o + 1) (vh S) (vc S) (vA S 0) (vA S 1) (vA S 2) ++ (wR cI a ((o + 1) + 4) (vr S) (vA S 3) (vA S 4) (vA S 5) (vA S 6) ++ (wS cI a ((o + 1) + 9) (vs S) (vA S 7) (vA S 8) (vA S 9) (vA S 10) (vA S 11) (vA S 12) qt qp ++ (wVo cI a (o + 19) (vh T) (vc T) (vA T 0) (vA T 1) (vA T 2) ++ (wR cI a ((o + 19) + 4) (vr T) (vA T 3) (vA T 4) (vA T 5) (vA T 6) ++ (wS cI a ((o + 19) + 9) (vs T) (vA T 7) (vA T 8) (vA T 9) (vA T 10) (vA T 11) (vA T 12) qt2 qp2))))))) (fun v w' => v = some (.int (figV S w)) ∧ w' = wXo cI a o  ++ (wVo cI a (o + 1) (vh S) (vc S) (vA S 0) (vA S 1) (vA S 2) ++ (wR cI a ((o + 1) + 4) (vr S) (vA S 3) (vA S 4) (vA S 5) (vA S 6) ++ (wS cI a ((o + 1) + 9) (vs S) (vA S 7) (vA S 8) (vA S 9) (vA S 10) (vA S 11) (vA S 12) qt qp ++ (wVo cI a (o + 19) (vh T) (vc T) (vA T 0) (vA T 1) (vA T 2) ++ (wR cI a ((o + 19) + 4) (vr T) (vA T 3) (vA T 4) (vA T 5) (vA T 6) ++ (wS cI a ((o + 19) + 9) (vs T) (vA T 7) (vA T 8) (vA T 9) (vA T 10) (vA T 11) (vA T 12) qt2 qp2))))))) 0 0 := by
  refine Ct.of (cc := cX3_count) (maxL := 2) (ret := (some .int)) (by decide) rfl (Nat.le_of_ble_eq_true rfl) ?_
  intro p e s m below meth c A ls CX hin HW hl
  obtain ⟨hx, hb, hml, hr, hown, hts, hK, hA, hlk⟩ := id CX
  have hl : lv_has ls 2 [(0, .ref (a o)), (1, .int (nI w))] := hl
  have hn6 : vr S ≤ 6 := by first | exact hI.1 | omega
  have hn8 : vs S ≤ 8 := by first | exact hI.2.1 | omega
  refine lv_iload_n hx hb dX3_count_0 rfl (lv_at hl 1 rfl) ?_
  refine lv_iconst (v := 0) hx hb dX3_count_1 (by decide) ?_
  refine lv_bipush (v := 8) hx hb dX3_count_2 (by decide) ?_
  refine g_callS CX HW hl.1 ([]) (wXo cI a o  ++ (wVo cI a (o + 1) (vh S) (vc S) (vA S 0) (vA S 1) (vA S 2) ++ (wR cI a ((o + 1) + 4) (vr S) (vA S 3) (vA S 4) (vA S 5) (vA S 6) ++ (wS cI a ((o + 1) + 9) (vs S) (vA S 7) (vA S 8) (vA S 9) (vA S 10) (vA S 11) (vA S 12) qt qp ++ (wVo cI a (o + 19) (vh T) (vc T) (vA T 0) (vA T 1) (vA T 2) ++ (wR cI a ((o + 19) + 4) (vr T) (vA T 3) (vA T 4) (vA T 5) (vA T 6) ++ (wS cI a ((o + 19) + 9) (vs T) (vA T 7) (vA T 8) (vA T 9) (vA T 10) (vA T 11) (vA T 12) qt2 qp2))))))) (c_X3_isWithin (nI w) (0 : Int32) (8 : Int32)) rfl gX3_count_X3_isWithin rfl hd_X3_isWithin ⟨rfl, rfl, (Nat.le_of_ble_eq_true rfl), (Nat.le_of_ble_eq_true rfl)⟩ ⟨(Nat.zero_le _), (Nat.zero_le _)⟩ rfl rfl (Nat.le_of_ble_eq_true rfl) dX3_count_4 (fun v w1 H locs hp HW => ?_)
  obtain ⟨rfl, rfl⟩ := hp
  have HW : Hw D A s (wXo cI a o  ++ (wVo cI a (o + 1) (vh S) (vc S) (vA S 0) (vA S 1) (vA S 2) ++ (wR cI a ((o + 1) + 4) (vr S) (vA S 3) (vA S 4) (vA S 5) (vA S 6) ++ (wS cI a ((o + 1) + 9) (vs S) (vA S 7) (vA S 8) (vA S 9) (vA S 10) (vA S 11) (vA S 12) qt qp ++ (wVo cI a (o + 19) (vh T) (vc T) (vA T 0) (vA T 1) (vA T 2) ++ (wR cI a ((o + 19) + 4) (vr T) (vA T 3) (vA T 4) (vA T 5) (vA T 6) ++ (wS cI a ((o + 19) + 9) (vs T) (vA T 7) (vA T 8) (vA T 9) (vA T 10) (vA T 11) (vA T 12) qt2 qp2))))))) H locs := HW
  refine W.eq (g2 := F0 m 7 ls [.int (bI ((0 : Int32) ≤ (nI w) ∧ (nI w) ≤ (8 : Int32)))]) rfl ?_
  refine g_ifne_b (tgt := 20) hx hb dX3_count_7 (by decide) (fun c7 => ?_) (fun c7 => ?_)
  · refine lv_aload_n hx hb dX3_count_20 rfl (lv_at hl 0 rfl) ?_
    refine g_get CX HW in_X3_count_3 0 0 rfl rfl (Nat.le_of_ble_eq_true rfl) fl_X3_count_10 rfl dX3_count_21 ?_
    refine lv_iload_n hx hb dX3_count_24 rfl (lv_at hl 1 rfl) ?_
    refine g_callV CX HW hl.1 (wXo cI a o ) (wVo cI a (o + 19) (vh T) (vc T) (vA T 0) (vA T 1) (vA T 2) ++ (wR cI a ((o + 19) + 4) (vr T) (vA T 3) (vA T 4) (vA T 5) (vA T 6) ++ (wS cI a ((o + 19) + 9) (vs T) (vA T 7) (vA T 8) (vA T 9) (vA T 10) (vA T 11) (vA T 12) qt2 qp2))) (c_X2_figure (o + 1) S qt qp w hR hI.1 hI.2.1 (by omega) (by omega)) rfl 0 rfl rfl gX3_count_X2_figure rfl ⟨rfl, hd_X2_figure⟩ ⟨rfl, rfl, (Nat.le_of_ble_eq_true rfl), (Nat.le_of_ble_eq_true rfl)⟩ ⟨(Nat.zero_le _), (Nat.zero_le _)⟩ rfl rfl (Nat.le_of_ble_eq_true rfl) dX3_count_25 (fun v w1 H locs hp HW => ?_)
    obtain ⟨rfl, rfl⟩ := hp
    have HW : Hw D A s (wXo cI a o  ++ (wVo cI a (o + 1) (vh S) (vc S) (vA S 0) (vA S 1) (vA S 2) ++ (wR cI a ((o + 1) + 4) (vr S) (vA S 3) (vA S 4) (vA S 5) (vA S 6) ++ (wS cI a ((o + 1) + 9) (vs S) (vA S 7) (vA S 8) (vA S 9) (vA S 10) (vA S 11) (vA S 12) qt qp ++ (wVo cI a (o + 19) (vh T) (vc T) (vA T 0) (vA T 1) (vA T 2) ++ (wR cI a ((o + 19) + 4) (vr T) (vA T 3) (vA T 4) (vA T 5) (vA T 6) ++ (wS cI a ((o + 19) + 9) (vs T) (vA T 7) (vA T 8) (vA T 9) (vA T 10) (vA T 11) (vA T 12) qt2 qp2))))))) H locs := HW
    refine W.eq (g2 := F0 m 28 ls [.int (figV S w)]) rfl ?_
    exact g_iret CX HW rfl ⟨rfl, rfl⟩ dX3_count_28
  · exact absurd (wi_ok (n := 8) (k := w) (by omega) (by decide)) c7

theorem hd_X3_pass : yX3_pass.cls ≠ "java/lang/invoke/MethodHandle" ∧ yX3_pass.cls ≠ "java/lang/invoke/VarHandle" ∧ (parseMethodDescriptor yX3_pass.desc).map (fun d => d.parameters.length) = some 1 := by decide +kernel
theorem fl_X3_pass_10 : Cond.fieldLink RX3 10 (TX3 0).1 (TX3 0).2.1 (TX3 0).2.2.1 ∈ wsX3_pass := by decide +kernel
theorem in_X3_pass_3 : ∀ x ∈ u_ws RX3 TX3 2, x ∈ wsX3_pass := by decide +kernel
set_option maxRecDepth 100000 in
set_option maxHeartbeats 4000000 in
theorem c_X3_pass {l : Launch} {D : va_G} {cI cL : ClassId} {a : Nat → Nat} (o : Nat) (S : VS) (qt : Nat → Int32) (qp : Nat → Int32) (T : VS) (qt2 : Nat → Int32) (qp2 : Nat → Int32) (h : Nat) (hI : Inv S) (hR : Rep (vs S) (vq S) qt qp) (hh : vh S + 100 < 2 ^ 31) (h1 : 1 ≤ h) (h60 : h ≤ 60) : Ct l yX3_pass wsX3_pass { frames := 6, cells := 0, slots := 0, locals := 142 } D (ty2 cI cL) [.ref (a o), .int (nI h)] (wXo cI a o  ++ (wVo cI a (o + 1) (vh S) (vc S) (vA S 0) (vA S 1) (vA S 2) ++ (wR cI a ((o + 1) + 4) (vr S) (vA S 3) (vA S 4) (vA S 5) (vA S 6) ++ (wS cI a ((o + 1) + 9) (vs S) (vA S 7) (vA S 8) (vA S 9) (vA S 10) (vA S 11) (vA S 12) qt qp ++ (wVo cI a (o + 19) (vh T) (vc T) (vA T 0) (vA T 1) (vA T 2) ++ (wR cI a ((o + 19) + 4) (vr T) (vA T 3) (vA T 4) (vA T 5) (vA T 6) ++ (wS cI a ((o + 19) + 9) (vs T) (vA T 7) (vA T 8) (vA T 9) (vA T 10) (vA T 11) (vA T 12) qt2 qp2))))))) (fun v w' => ∃ (qt' : Nat → Int32) (qp' : Nat → Int32), (Rep (vs (hoursS h S)) (vq (hoursS h S)) qt' qp') ∧ v = some (.int (sumP (hoursS h S) - sumP S)) ∧ w' = wXo cI a o  ++ (wVo cI a (o + 1) (vh (hoursS h S)) (vc (hoursS h S)) (vA (hoursS h S) 0) (vA (hoursS h S) 1) (vA (hoursS h S) 2) ++ (wR cI a ((o + 1) + 4) (vr (hoursS h S)) (vA (hoursS h S) 3) (vA (hoursS h S) 4) (vA (hoursS h S) 5) (vA (hoursS h S) 6) ++ (wS cI a ((o + 1) + 9) (vs (hoursS h S)) (vA (hoursS h S) 7) (vA (hoursS h S) 8) (vA (hoursS h S) 9) (vA (hoursS h S) 10) (vA (hoursS h S) 11) (vA (hoursS h S) 12) qt' qp' ++ (wVo cI a (o + 19) (vh T) (vc T) (vA T 0) (vA T 1) (vA T 2) ++ (wR cI a ((o + 19) + 4) (vr T) (vA T 3) (vA T 4) (vA T 5) (vA T 6) ++ (wS cI a ((o + 19) + 9) (vs T) (vA T 7) (vA T 8) (vA T 9) (vA T 10) (vA T 11) (vA T 12) qt2 qp2))))))) 0 0 := by
  refine Ct.of (cc := cX3_pass) (maxL := 2) (ret := (some .int)) (by decide) rfl (Nat.le_of_ble_eq_true rfl) ?_
  intro p e s m below meth c A ls CX hin HW hl
  obtain ⟨hx, hb, hml, hr, hown, hts, hK, hA, hlk⟩ := id CX
  have hl : lv_has ls 2 [(0, .ref (a o)), (1, .int (nI h))] := hl
  have hn6 : vr S ≤ 6 := by first | exact hI.1 | omega
  have hn8 : vs S ≤ 8 := by first | exact hI.2.1 | omega
  refine lv_iload_n hx hb dX3_pass_0 rfl (lv_at hl 1 rfl) ?_
  refine lv_iconst (v := 1) hx hb dX3_pass_1 (by decide) ?_
  refine lv_bipush (v := 60) hx hb dX3_pass_2 (by decide) ?_
  refine g_callS CX HW hl.1 ([]) (wXo cI a o  ++ (wVo cI a (o + 1) (vh S) (vc S) (vA S 0) (vA S 1) (vA S 2) ++ (wR cI a ((o + 1) + 4) (vr S) (vA S 3) (vA S 4) (vA S 5) (vA S 6) ++ (wS cI a ((o + 1) + 9) (vs S) (vA S 7) (vA S 8) (vA S 9) (vA S 10) (vA S 11) (vA S 12) qt qp ++ (wVo cI a (o + 19) (vh T) (vc T) (vA T 0) (vA T 1) (vA T 2) ++ (wR cI a ((o + 19) + 4) (vr T) (vA T 3) (vA T 4) (vA T 5) (vA T 6) ++ (wS cI a ((o + 19) + 9) (vs T) (vA T 7) (vA T 8) (vA T 9) (vA T 10) (vA T 11) (vA T 12) qt2 qp2))))))) (c_X3_isWithin (nI h) (1 : Int32) (60 : Int32)) rfl gX3_pass_X3_isWithin rfl hd_X3_isWithin ⟨rfl, rfl, (Nat.le_of_ble_eq_true rfl), (Nat.le_of_ble_eq_true rfl)⟩ ⟨(Nat.zero_le _), (Nat.zero_le _)⟩ rfl rfl (Nat.le_of_ble_eq_true rfl) dX3_pass_4 (fun v w1 H locs hp HW => ?_)
  obtain ⟨rfl, rfl⟩ := hp
  have HW : Hw D A s (wXo cI a o  ++ (wVo cI a (o + 1) (vh S) (vc S) (vA S 0) (vA S 1) (vA S 2) ++ (wR cI a ((o + 1) + 4) (vr S) (vA S 3) (vA S 4) (vA S 5) (vA S 6) ++ (wS cI a ((o + 1) + 9) (vs S) (vA S 7) (vA S 8) (vA S 9) (vA S 10) (vA S 11) (vA S 12) qt qp ++ (wVo cI a (o + 19) (vh T) (vc T) (vA T 0) (vA T 1) (vA T 2) ++ (wR cI a ((o + 19) + 4) (vr T) (vA T 3) (vA T 4) (vA T 5) (vA T 6) ++ (wS cI a ((o + 19) + 9) (vs T) (vA T 7) (vA T 8) (vA T 9) (vA T 10) (vA T 11) (vA T 12) qt2 qp2))))))) H locs := HW
  refine W.eq (g2 := F0 m 7 ls [.int (bI ((1 : Int32) ≤ (nI h) ∧ (nI h) ≤ (60 : Int32)))]) rfl ?_
  refine g_ifne_b (tgt := 20) hx hb dX3_pass_7 (by decide) (fun c7 => ?_) (fun c7 => ?_)
  · refine lv_aload_n hx hb dX3_pass_20 rfl (lv_at hl 0 rfl) ?_
    refine g_get CX HW in_X3_pass_3 0 0 rfl rfl (Nat.le_of_ble_eq_true rfl) fl_X3_pass_10 rfl dX3_pass_21 ?_
    refine lv_iload_n hx hb dX3_pass_24 rfl (lv_at hl 1 rfl) ?_
    refine g_callV CX HW hl.1 (wXo cI a o ) (wVo cI a (o + 19) (vh T) (vc T) (vA T 0) (vA T 1) (vA T 2) ++ (wR cI a ((o + 19) + 4) (vr T) (vA T 3) (vA T 4) (vA T 5) (vA T 6) ++ (wS cI a ((o + 19) + 9) (vs T) (vA T 7) (vA T 8) (vA T 9) (vA T 10) (vA T 11) (vA T 12) qt2 qp2))) (c_X2_letHoursGo (o + 1) S qt qp h hI hR (by omega) (by omega)) rfl 0 rfl rfl gX3_pass_X2_letHoursGo rfl ⟨rfl, hd_X2_letHoursGo⟩ ⟨rfl, rfl, (Nat.le_of_ble_eq_true rfl), (Nat.le_of_ble_eq_true rfl)⟩ ⟨(Nat.zero_le _), (Nat.zero_le _)⟩ rfl rfl (Nat.le_of_ble_eq_true rfl) dX3_pass_25 (fun v w1 H locs hp HW => ?_)
    obtain ⟨qt'_1, qp'_1, hr9_1, rfl, rfl⟩ := hp
    have HW : Hw D A s (wXo cI a o  ++ (wVo cI a (o + 1) (vh (hoursS h S)) (vc (hoursS h S)) (vA (hoursS h S) 0) (vA (hoursS h S) 1) (vA (hoursS h S) 2) ++ (wR cI a ((o + 1) + 4) (vr (hoursS h S)) (vA (hoursS h S) 3) (vA (hoursS h S) 4) (vA (hoursS h S) 5) (vA (hoursS h S) 6) ++ (wS cI a ((o + 1) + 9) (vs (hoursS h S)) (vA (hoursS h S) 7) (vA (hoursS h S) 8) (vA (hoursS h S) 9) (vA (hoursS h S) 10) (vA (hoursS h S) 11) (vA (hoursS h S) 12) qt'_1 qp'_1 ++ (wVo cI a (o + 19) (vh T) (vc T) (vA T 0) (vA T 1) (vA T 2) ++ (wR cI a ((o + 19) + 4) (vr T) (vA T 3) (vA T 4) (vA T 5) (vA T 6) ++ (wS cI a ((o + 19) + 9) (vs T) (vA T 7) (vA T 8) (vA T 9) (vA T 10) (vA T 11) (vA T 12) qt2 qp2))))))) H locs := HW
    refine W.eq (g2 := F0 m 28 ls [.int (sumP (hoursS h S) - sumP S)]) rfl ?_
    exact g_iret CX HW rfl ⟨_, _, hr9_1, rfl, rfl⟩ dX3_pass_28
  · exact absurd (wi1_ok (n := 60) (k := h) (by omega) (by omega) (by decide)) c7

theorem hd_X3_foresee : yX3_foresee.cls ≠ "java/lang/invoke/MethodHandle" ∧ yX3_foresee.cls ≠ "java/lang/invoke/VarHandle" ∧ (parseMethodDescriptor yX3_foresee.desc).map (fun d => d.parameters.length) = some 2 := by decide +kernel
theorem fl_X3_foresee_16 : Cond.fieldLink RX3 16 (TX3 1).1 (TX3 1).2.1 (TX3 1).2.2.1 ∈ wsX3_foresee := by decide +kernel
theorem in_X3_foresee_3 : ∀ x ∈ u_ws RX3 TX3 2, x ∈ wsX3_foresee := by decide +kernel
theorem fl_X3_foresee_10 : Cond.fieldLink RX3 10 (TX3 0).1 (TX3 0).2.1 (TX3 0).2.2.1 ∈ wsX3_foresee := by decide +kernel
set_option maxRecDepth 100000 in
set_option maxHeartbeats 4000000 in
theorem c_X3_foresee {l : Launch} {D : va_G} {cI cL : ClassId} {a : Nat → Nat} (o : Nat) (S : VS) (qt : Nat → Int32) (qp : Nat → Int32) (T : VS) (qt2 : Nat → Int32) (qp2 : Nat → Int32) (h : Nat) (w : Nat) (hI : Inv S) (hR : Rep (vs S) (vq S) qt qp) (hh : vh S + 100 < 2 ^ 31) (h1 : 1 ≤ h) (h60 : h ≤ 60) (hw : w ≤ 8) : Ct l yX3_foresee wsX3_foresee { frames := 6, cells := 0, slots := 0, locals := 142 } D (ty2 cI cL) [.ref (a o), .int (nI h), .int (nI w)] (wXo cI a o  ++ (wVo cI a (o + 1) (vh S) (vc S) (vA S 0) (vA S 1) (vA S 2) ++ (wR cI a ((o + 1) + 4) (vr S) (vA S 3) (vA S 4) (vA S 5) (vA S 6) ++ (wS cI a ((o + 1) + 9) (vs S) (vA S 7) (vA S 8) (vA S 9) (vA S 10) (vA S 11) (vA S 12) qt qp ++ (wVo cI a (o + 19) (vh T) (vc T) (vA T 0) (vA T 1) (vA T 2) ++ (wR cI a ((o + 19) + 4) (vr T) (vA T 3) (vA T 4) (vA T 5) (vA T 6) ++ (wS cI a ((o + 19) + 9) (vs T) (vA T 7) (vA T 8) (vA T 9) (vA T 10) (vA T 11) (vA T 12) qt2 qp2))))))) (fun v w' => ∃ (T' : VS) (qt2' : Nat → Int32) (qp2' : Nat → Int32), v = some (.int (figV (hoursS h S) w)) ∧ w' = wXo cI a o  ++ (wVo cI a (o + 1) (vh S) (vc S) (vA S 0) (vA S 1) (vA S 2) ++ (wR cI a ((o + 1) + 4) (vr S) (vA S 3) (vA S 4) (vA S 5) (vA S 6) ++ (wS cI a ((o + 1) + 9) (vs S) (vA S 7) (vA S 8) (vA S 9) (vA S 10) (vA S 11) (vA S 12) qt qp ++ (wVo cI a (o + 19) (vh T') (vc T') (vA T' 0) (vA T' 1) (vA T' 2) ++ (wR cI a ((o + 19) + 4) (vr T') (vA T' 3) (vA T' 4) (vA T' 5) (vA T' 6) ++ (wS cI a ((o + 19) + 9) (vs T') (vA T' 7) (vA T' 8) (vA T' 9) (vA T' 10) (vA T' 11) (vA T' 12) qt2' qp2'))))))) 0 0 := by
  refine Ct.of (cc := cX3_foresee) (maxL := 3) (ret := (some .int)) (by decide) rfl (Nat.le_of_ble_eq_true rfl) ?_
  intro p e s m below meth c A ls CX hin HW hl
  obtain ⟨hx, hb, hml, hr, hown, hts, hK, hA, hlk⟩ := id CX
  have hl : lv_has ls 3 [(0, .ref (a o)), (1, .int (nI h)), (2, .int (nI w))] := hl
  have hn6 : vr S ≤ 6 := by first | exact hI.1 | omega
  have hn8 : vs S ≤ 8 := by first | exact hI.2.1 | omega
  refine lv_iload_n hx hb dX3_foresee_0 rfl (lv_at hl 1 rfl) ?_
  refine lv_iconst (v := 1) hx hb dX3_foresee_1 (by decide) ?_
  refine lv_bipush (v := 60) hx hb dX3_foresee_2 (by decide) ?_
  refine g_callS CX HW hl.1 ([]) (wXo cI a o  ++ (wVo cI a (o + 1) (vh S) (vc S) (vA S 0) (vA S 1) (vA S 2) ++ (wR cI a ((o + 1) + 4) (vr S) (vA S 3) (vA S 4) (vA S 5) (vA S 6) ++ (wS cI a ((o + 1) + 9) (vs S) (vA S 7) (vA S 8) (vA S 9) (vA S 10) (vA S 11) (vA S 12) qt qp ++ (wVo cI a (o + 19) (vh T) (vc T) (vA T 0) (vA T 1) (vA T 2) ++ (wR cI a ((o + 19) + 4) (vr T) (vA T 3) (vA T 4) (vA T 5) (vA T 6) ++ (wS cI a ((o + 19) + 9) (vs T) (vA T 7) (vA T 8) (vA T 9) (vA T 10) (vA T 11) (vA T 12) qt2 qp2))))))) (c_X3_isWithin (nI h) (1 : Int32) (60 : Int32)) rfl gX3_foresee_X3_isWithin rfl hd_X3_isWithin ⟨rfl, rfl, (Nat.le_of_ble_eq_true rfl), (Nat.le_of_ble_eq_true rfl)⟩ ⟨(Nat.zero_le _), (Nat.zero_le _)⟩ rfl rfl (Nat.le_of_ble_eq_true rfl) dX3_foresee_4 (fun v w1 H locs hp HW => ?_)
  obtain ⟨rfl, rfl⟩ := hp
  have HW : Hw D A s (wXo cI a o  ++ (wVo cI a (o + 1) (vh S) (vc S) (vA S 0) (vA S 1) (vA S 2) ++ (wR cI a ((o + 1) + 4) (vr S) (vA S 3) (vA S 4) (vA S 5) (vA S 6) ++ (wS cI a ((o + 1) + 9) (vs S) (vA S 7) (vA S 8) (vA S 9) (vA S 10) (vA S 11) (vA S 12) qt qp ++ (wVo cI a (o + 19) (vh T) (vc T) (vA T 0) (vA T 1) (vA T 2) ++ (wR cI a ((o + 19) + 4) (vr T) (vA T 3) (vA T 4) (vA T 5) (vA T 6) ++ (wS cI a ((o + 19) + 9) (vs T) (vA T 7) (vA T 8) (vA T 9) (vA T 10) (vA T 11) (vA T 12) qt2 qp2))))))) H locs := HW
  refine W.eq (g2 := F0 m 7 ls [.int (bI ((1 : Int32) ≤ (nI h) ∧ (nI h) ≤ (60 : Int32)))]) rfl ?_
  refine g_ifne_b (tgt := 20) hx hb dX3_foresee_7 (by decide) (fun c7 => ?_) (fun c7 => ?_)
  · refine lv_iload_n hx hb dX3_foresee_20 rfl (lv_at hl 2 rfl) ?_
    refine lv_iconst (v := 0) hx hb dX3_foresee_21 (by decide) ?_
    refine lv_bipush (v := 8) hx hb dX3_foresee_22 (by decide) ?_
    refine g_callS CX HW hl.1 ([]) (wXo cI a o  ++ (wVo cI a (o + 1) (vh S) (vc S) (vA S 0) (vA S 1) (vA S 2) ++ (wR cI a ((o + 1) + 4) (vr S) (vA S 3) (vA S 4) (vA S 5) (vA S 6) ++ (wS cI a ((o + 1) + 9) (vs S) (vA S 7) (vA S 8) (vA S 9) (vA S 10) (vA S 11) (vA S 12) qt qp ++ (wVo cI a (o + 19) (vh T) (vc T) (vA T 0) (vA T 1) (vA T 2) ++ (wR cI a ((o + 19) + 4) (vr T) (vA T 3) (vA T 4) (vA T 5) (vA T 6) ++ (wS cI a ((o + 19) + 9) (vs T) (vA T 7) (vA T 8) (vA T 9) (vA T 10) (vA T 11) (vA T 12) qt2 qp2))))))) (c_X3_isWithin (nI w) (0 : Int32) (8 : Int32)) rfl gX3_foresee_X3_isWithin rfl hd_X3_isWithin ⟨rfl, rfl, (Nat.le_of_ble_eq_true rfl), (Nat.le_of_ble_eq_true rfl)⟩ ⟨(Nat.zero_le _), (Nat.zero_le _)⟩ rfl rfl (Nat.le_of_ble_eq_true rfl) dX3_foresee_24 (fun v w1 H locs hp HW => ?_)
    obtain ⟨rfl, rfl⟩ := hp
    have HW : Hw D A s (wXo cI a o  ++ (wVo cI a (o + 1) (vh S) (vc S) (vA S 0) (vA S 1) (vA S 2) ++ (wR cI a ((o + 1) + 4) (vr S) (vA S 3) (vA S 4) (vA S 5) (vA S 6) ++ (wS cI a ((o + 1) + 9) (vs S) (vA S 7) (vA S 8) (vA S 9) (vA S 10) (vA S 11) (vA S 12) qt qp ++ (wVo cI a (o + 19) (vh T) (vc T) (vA T 0) (vA T 1) (vA T 2) ++ (wR cI a ((o + 19) + 4) (vr T) (vA T 3) (vA T 4) (vA T 5) (vA T 6) ++ (wS cI a ((o + 19) + 9) (vs T) (vA T 7) (vA T 8) (vA T 9) (vA T 10) (vA T 11) (vA T 12) qt2 qp2))))))) H locs := HW
    refine W.eq (g2 := F0 m 27 ls [.int (bI ((0 : Int32) ≤ (nI w) ∧ (nI w) ≤ (8 : Int32)))]) rfl ?_
    refine g_ifne_b (tgt := 40) hx hb dX3_foresee_27 (by decide) (fun c27 => ?_) (fun c27 => ?_)
    · refine lv_aload_n hx hb dX3_foresee_40 rfl (lv_at hl 0 rfl) ?_
      refine g_get CX HW in_X3_foresee_3 0 1 rfl rfl (Nat.le_of_ble_eq_true rfl) fl_X3_foresee_16 rfl dX3_foresee_41 ?_
      refine lv_aload_n hx hb dX3_foresee_44 rfl (lv_at hl 0 rfl) ?_
      refine g_get CX HW in_X3_foresee_3 0 0 rfl rfl (Nat.le_of_ble_eq_true rfl) fl_X3_foresee_10 rfl dX3_foresee_45 ?_
      have HW : Hw D A s (wXo cI a o  ++ (wVo cI a (o + 1) (vh S) (vc S) (vA S 0) (vA S 1) (vA S 2) ++ (wVo cI a (o + 19) (vh T) (vc T) (vA T 0) (vA T 1) (vA T 2) ++ (wR cI a ((o + 1) + 4) (vr S) (vA S 3) (vA S 4) (vA S 5) (vA S 6) ++ (wR cI a ((o + 19) + 4) (vr T) (vA T 3) (vA T 4) (vA T 5) (vA T 6) ++ (wS cI a ((o + 1) + 9) (vs S) (vA S 7) (vA S 8) (vA S 9) (vA S 10) (vA S 11) (vA S 12) qt qp ++ (wS cI a ((o + 19) + 9) (vs T) (vA T 7) (vA T 8) (vA T 9) (vA T 10) (vA T 11) (vA T 12) qt2 qp2))))))) H locs := Hw.p6 HW
      refine g_callV CX HW hl.1 (wXo cI a o ) ([]) (c_X2_copyFrom (o + 1) (o + 19) S T qt qp qt2 qp2) rfl 4 rfl rfl gX3_foresee_X2_copyFrom rfl ⟨rfl, hd_X2_copyFrom⟩ ⟨rfl, rfl, (Nat.le_of_ble_eq_true rfl), (Nat.le_of_ble_eq_true rfl)⟩ ⟨(Nat.zero_le _), (Nat.zero_le _)⟩ rfl rfl (Nat.le_of_ble_eq_true rfl) dX3_foresee_48 (fun v w1 H locs hp HW => ?_)
      obtain ⟨rfl, rfl⟩ := hp
      have HW : Hw D A s (wXo cI a o  ++ (wVo cI a (o + 1) (vh S) (vc S) (vA S 0) (vA S 1) (vA S 2) ++ (wVo cI a (o + 19) (vh S) (vc S) (vA S 0) (vA S 1) (vA S 2) ++ (wR cI a ((o + 1) + 4) (vr S) (vA S 3) (vA S 4) (vA S 5) (vA S 6) ++ (wR cI a ((o + 19) + 4) (vr S) (vA S 3) (vA S 4) (vA S 5) (vA S 6) ++ (wS cI a ((o + 1) + 9) (vs S) (vA S 7) (vA S 8) (vA S 9) (vA S 10) (vA S 11) (vA S 12) qt qp ++ (wS cI a ((o + 19) + 9) (vs S) (vA S 7) (vA S 8) (vA S 9) (vA S 10) (vA S 11) (vA S 12) qt qp))))))) H locs := HW
      refine W.eq (g2 := F0 m 51 ls []) rfl ?_
      have HW : Hw D A s (wXo cI a o  ++ (wVo cI a (o + 1) (vh S) (vc S) (vA S 0) (vA S 1) (vA S 2) ++ (wR cI a ((o + 1) + 4) (vr S) (vA S 3) (vA S 4) (vA S 5) (vA S 6) ++ (wS cI a ((o + 1) + 9) (vs S) (vA S 7) (vA S 8) (vA S 9) (vA S 10) (vA S 11) (vA S 12) qt qp ++ (wVo cI a (o + 19) (vh S) (vc S) (vA S 0) (vA S 1) (vA S 2) ++ (wR cI a ((o + 19) + 4) (vr S) (vA S 3) (vA S 4) (vA S 5) (vA S 6) ++ (wS cI a ((o + 19) + 9) (vs S) (vA S 7) (vA S 8) (vA S 9) (vA S 10) (vA S 11) (vA S 12) qt qp))))))) H locs := Hw.q6 HW
      refine lv_aload_n hx hb dX3_foresee_51 rfl (lv_at hl 0 rfl) ?_
      refine g_get CX HW in_X3_foresee_3 0 1 rfl rfl (Nat.le_of_ble_eq_true rfl) fl_X3_foresee_16 rfl dX3_foresee_52 ?_
      refine lv_iload_n hx hb dX3_foresee_55 rfl (lv_at hl 1 rfl) ?_
      refine g_callV CX HW hl.1 (wXo cI a o  ++ (wVo cI a (o + 1) (vh S) (vc S) (vA S 0) (vA S 1) (vA S 2) ++ (wR cI a ((o + 1) + 4) (vr S) (vA S 3) (vA S 4) (vA S 5) (vA S 6) ++ (wS cI a ((o + 1) + 9) (vs S) (vA S 7) (vA S 8) (vA S 9) (vA S 10) (vA S 11) (vA S 12) qt qp)))) ([]) (c_X2_letHoursGo (o + 19) S qt qp h hI hR (by omega) (by omega)) rfl 0 rfl rfl gX3_foresee_X2_letHoursGo rfl ⟨rfl, hd_X2_letHoursGo⟩ ⟨rfl, rfl, (Nat.le_of_ble_eq_true rfl), (Nat.le_of_ble_eq_true rfl)⟩ ⟨(Nat.zero_le _), (Nat.zero_le _)⟩ rfl rfl (Nat.le_of_ble_eq_true rfl) dX3_foresee_56 (fun v w1 H locs hp HW => ?_)
      obtain ⟨qt'_1, qp'_1, hr9_1, rfl, rfl⟩ := hp
      have HW : Hw D A s (wXo cI a o  ++ (wVo cI a (o + 1) (vh S) (vc S) (vA S 0) (vA S 1) (vA S 2) ++ (wR cI a ((o + 1) + 4) (vr S) (vA S 3) (vA S 4) (vA S 5) (vA S 6) ++ (wS cI a ((o + 1) + 9) (vs S) (vA S 7) (vA S 8) (vA S 9) (vA S 10) (vA S 11) (vA S 12) qt qp ++ (wVo cI a (o + 19) (vh (hoursS h S)) (vc (hoursS h S)) (vA (hoursS h S) 0) (vA (hoursS h S) 1) (vA (hoursS h S) 2) ++ (wR cI a ((o + 19) + 4) (vr (hoursS h S)) (vA (hoursS h S) 3) (vA (hoursS h S) 4) (vA (hoursS h S) 5) (vA (hoursS h S) 6) ++ (wS cI a ((o + 19) + 9) (vs (hoursS h S)) (vA (hoursS h S) 7) (vA (hoursS h S) 8) (vA (hoursS h S) 9) (vA (hoursS h S) 10) (vA (hoursS h S) 11) (vA (hoursS h S) 12) qt'_1 qp'_1))))))) H locs := HW
      refine W.eq (g2 := F0 m 59 ls [.int (sumP (hoursS h S) - sumP S)]) rfl ?_
      have hR2 := hr9_1
      have hI2 := Inv_hoursS hI hR h
      refine lv_pop hx hb dX3_foresee_59 rfl ?_
      refine lv_aload_n hx hb dX3_foresee_60 rfl (lv_at hl 0 rfl) ?_
      refine g_get CX HW in_X3_foresee_3 0 1 rfl rfl (Nat.le_of_ble_eq_true rfl) fl_X3_foresee_16 rfl dX3_foresee_61 ?_
      refine lv_iload_n hx hb dX3_foresee_64 rfl (lv_at hl 2 rfl) ?_
      refine g_callV CX HW hl.1 (wXo cI a o  ++ (wVo cI a (o + 1) (vh S) (vc S) (vA S 0) (vA S 1) (vA S 2) ++ (wR cI a ((o + 1) + 4) (vr S) (vA S 3) (vA S 4) (vA S 5) (vA S 6) ++ (wS cI a ((o + 1) + 9) (vs S) (vA S 7) (vA S 8) (vA S 9) (vA S 10) (vA S 11) (vA S 12) qt qp)))) ([]) (c_X2_figure (o + 19) (hoursS h S) qt'_1 qp'_1 w hR2 hI2.1 hI2.2.1 (by rw [vh_hoursS]; omega) (by omega)) rfl 0 rfl rfl gX3_foresee_X2_figure rfl ⟨rfl, hd_X2_figure⟩ ⟨rfl, rfl, (Nat.le_of_ble_eq_true rfl), (Nat.le_of_ble_eq_true rfl)⟩ ⟨(Nat.zero_le _), (Nat.zero_le _)⟩ rfl rfl (Nat.le_of_ble_eq_true rfl) dX3_foresee_65 (fun v w1 H locs hp HW => ?_)
      obtain ⟨rfl, rfl⟩ := hp
      have HW : Hw D A s (wXo cI a o  ++ (wVo cI a (o + 1) (vh S) (vc S) (vA S 0) (vA S 1) (vA S 2) ++ (wR cI a ((o + 1) + 4) (vr S) (vA S 3) (vA S 4) (vA S 5) (vA S 6) ++ (wS cI a ((o + 1) + 9) (vs S) (vA S 7) (vA S 8) (vA S 9) (vA S 10) (vA S 11) (vA S 12) qt qp ++ (wVo cI a (o + 19) (vh (hoursS h S)) (vc (hoursS h S)) (vA (hoursS h S) 0) (vA (hoursS h S) 1) (vA (hoursS h S) 2) ++ (wR cI a ((o + 19) + 4) (vr (hoursS h S)) (vA (hoursS h S) 3) (vA (hoursS h S) 4) (vA (hoursS h S) 5) (vA (hoursS h S) 6) ++ (wS cI a ((o + 19) + 9) (vs (hoursS h S)) (vA (hoursS h S) 7) (vA (hoursS h S) 8) (vA (hoursS h S) 9) (vA (hoursS h S) 10) (vA (hoursS h S) 11) (vA (hoursS h S) 12) qt'_1 qp'_1))))))) H locs := HW
      refine W.eq (g2 := F0 m 68 ls [.int (figV (hoursS h S) w)]) rfl ?_
      exact g_iret CX HW rfl ⟨_, _, _, rfl, rfl⟩ dX3_foresee_68
    · exact absurd (wi_ok (n := 8) (k := w) (by omega) (by decide)) c27
  · exact absurd (wi1_ok (n := 60) (k := h) (by omega) (by omega) (by decide)) c7

theorem hd_X3_until : yX3_until.cls ≠ "java/lang/invoke/MethodHandle" ∧ yX3_until.cls ≠ "java/lang/invoke/VarHandle" ∧ (parseMethodDescriptor yX3_until.desc).map (fun d => d.parameters.length) = some 1 := by decide +kernel
theorem fl_X3_until_10 : Cond.fieldLink RX3 10 (TX3 0).1 (TX3 0).2.1 (TX3 0).2.2.1 ∈ wsX3_until := by decide +kernel
theorem in_X3_until_3 : ∀ x ∈ u_ws RX3 TX3 2, x ∈ wsX3_until := by decide +kernel
theorem fl_X3_until_97 : Cond.fieldLink RX3 97 (TX2 6).1 (TX2 6).2.1 (TX2 6).2.2.1 ∈ wsX3_until := by decide +kernel
theorem in_X3_until_2 : ∀ x ∈ u_ws RX2 TX2 7, x ∈ wsX3_until := by decide +kernel
theorem fl_X3_until_16 : Cond.fieldLink RX3 16 (TX3 1).1 (TX3 1).2.1 (TX3 1).2.2.1 ∈ wsX3_until := by decide +kernel
theorem fl_X3_until_167 : Cond.fieldLink RX3 167 (TX1 6).1 (TX1 6).2.1 (TX1 6).2.2.1 ∈ wsX3_until := by decide +kernel
theorem in_X3_until_1 : ∀ x ∈ u_ws RX1 TX1 9, x ∈ wsX3_until := by decide +kernel
set_option maxRecDepth 100000 in
set_option maxHeartbeats 4000000 in
theorem c_X3_until {l : Launch} {D : va_G} {cI cL : ClassId} {a : Nat → Nat} (o : Nat) (S : VS) (qt : Nat → Int32) (qp : Nat → Int32) (T : VS) (qt2 : Nat → Int32) (qp2 : Nat → Int32) (k : Nat) (hI : Inv S) (hR : Rep (vs S) (vq S) qt qp) (hh : vh S + 100 < 2 ^ 31) (hk : k < vs S) : Ct l yX3_until wsX3_until { frames := 6, cells := 0, slots := 0, locals := 142 } D (ty2 cI cL) [.ref (a o), .int (nI k)] (wXo cI a o  ++ (wVo cI a (o + 1) (vh S) (vc S) (vA S 0) (vA S 1) (vA S 2) ++ (wR cI a ((o + 1) + 4) (vr S) (vA S 3) (vA S 4) (vA S 5) (vA S 6) ++ (wS cI a ((o + 1) + 9) (vs S) (vA S 7) (vA S 8) (vA S 9) (vA S 10) (vA S 11) (vA S 12) qt qp ++ (wVo cI a (o + 19) (vh T) (vc T) (vA T 0) (vA T 1) (vA T 2) ++ (wR cI a ((o + 19) + 4) (vr T) (vA T 3) (vA T 4) (vA T 5) (vA T 6) ++ (wS cI a ((o + 19) + 9) (vs T) (vA T 7) (vA T 8) (vA T 9) (vA T 10) (vA T 11) (vA T 12) qt2 qp2))))))) (fun v w' => ∃ (T' : VS) (qt2' : Nat → Int32) (qp2' : Nat → Int32), v = some (.int (untS S k)) ∧ w' = wXo cI a o  ++ (wVo cI a (o + 1) (vh S) (vc S) (vA S 0) (vA S 1) (vA S 2) ++ (wR cI a ((o + 1) + 4) (vr S) (vA S 3) (vA S 4) (vA S 5) (vA S 6) ++ (wS cI a ((o + 1) + 9) (vs S) (vA S 7) (vA S 8) (vA S 9) (vA S 10) (vA S 11) (vA S 12) qt qp ++ (wVo cI a (o + 19) (vh T') (vc T') (vA T' 0) (vA T' 1) (vA T' 2) ++ (wR cI a ((o + 19) + 4) (vr T') (vA T' 3) (vA T' 4) (vA T' 5) (vA T' 6) ++ (wS cI a ((o + 19) + 9) (vs T') (vA T' 7) (vA T' 8) (vA T' 9) (vA T' 10) (vA T' 11) (vA T' 12) qt2' qp2'))))))) 0 0 := by
  refine Ct.of (cc := cX3_until) (maxL := 4) (ret := (some .int)) (by decide) rfl (Nat.le_of_ble_eq_true rfl) ?_
  intro p e s m below meth c A ls CX hin HW hl
  obtain ⟨hx, hb, hml, hr, hown, hts, hK, hA, hlk⟩ := id CX
  have hl : lv_has ls 4 [(0, .ref (a o)), (1, .int (nI k))] := hl
  have hn6 := hI.1
  have hn8 := hI.2.1
  refine lv_aload_n hx hb dX3_until_0 rfl (lv_at hl 0 rfl) ?_
  refine g_get CX HW in_X3_until_3 0 0 rfl rfl (Nat.le_of_ble_eq_true rfl) fl_X3_until_10 rfl dX3_until_1 ?_
  refine g_get CX HW in_X3_until_2 1 6 rfl rfl (Nat.le_of_ble_eq_true rfl) fl_X3_until_97 rfl dX3_until_4 ?_
  refine lv_iload_n hx hb dX3_until_7 rfl (lv_at hl 1 rfl) ?_
  refine g_callV CX HW hl.1 (wXo cI a o  ++ (wVo cI a (o + 1) (vh S) (vc S) (vA S 0) (vA S 1) (vA S 2) ++ (wR cI a ((o + 1) + 4) (vr S) (vA S 3) (vA S 4) (vA S 5) (vA S 6)))) (wVo cI a (o + 19) (vh T) (vc T) (vA T 0) (vA T 1) (vA T 2) ++ (wR cI a ((o + 19) + 4) (vr T) (vA T 3) (vA T 4) (vA T 5) (vA T 6) ++ (wS cI a ((o + 19) + 9) (vs T) (vA T 7) (vA T 8) (vA T 9) (vA T 10) (vA T 11) (vA T 12) qt2 qp2))) (c_X1_has ((o + 1) + 9) (vs S) (vA S 7) (vA S 8) (vA S 9) (vA S 10) (vA S 11) (vA S 12) qt qp (nI k)) rfl 0 rfl rfl gX3_until_X1_has rfl ⟨rfl, hd_X1_has⟩ ⟨rfl, rfl, (Nat.le_of_ble_eq_true rfl), (Nat.le_of_ble_eq_true rfl)⟩ ⟨(Nat.zero_le _), (Nat.zero_le _)⟩ rfl rfl (Nat.le_of_ble_eq_true rfl) dX3_until_8 (fun v w1 H locs hp HW => ?_)
  obtain ⟨rfl, rfl⟩ := hp
  have HW : Hw D A s (wXo cI a o  ++ (wVo cI a (o + 1) (vh S) (vc S) (vA S 0) (vA S 1) (vA S 2) ++ (wR cI a ((o + 1) + 4) (vr S) (vA S 3) (vA S 4) (vA S 5) (vA S 6) ++ (wS cI a ((o + 1) + 9) (vs S) (vA S 7) (vA S 8) (vA S 9) (vA S 10) (vA S 11) (vA S 12) qt qp ++ (wVo cI a (o + 19) (vh T) (vc T) (vA T 0) (vA T 1) (vA T 2) ++ (wR cI a ((o + 19) + 4) (vr T) (vA T 3) (vA T 4) (vA T 5) (vA T 6) ++ (wS cI a ((o + 19) + 9) (vs T) (vA T 7) (vA T 8) (vA T 9) (vA T 10) (vA T 11) (vA T 12) qt2 qp2))))))) H locs := HW
  refine W.eq (g2 := F0 m 11 ls [.int (bI (0 ≤ (nI k) ∧ (nI k) < nI (vs S)))]) rfl ?_
  refine g_ifne_b (tgt := 24) hx hb dX3_until_11 (by decide) (fun c11 => ?_) (fun c11 => ?_)
  · refine lv_aload_n hx hb dX3_until_24 rfl (lv_at hl 0 rfl) ?_
    refine g_get CX HW in_X3_until_3 0 1 rfl rfl (Nat.le_of_ble_eq_true rfl) fl_X3_until_16 rfl dX3_until_25 ?_
    refine lv_aload_n hx hb dX3_until_28 rfl (lv_at hl 0 rfl) ?_
    refine g_get CX HW in_X3_until_3 0 0 rfl rfl (Nat.le_of_ble_eq_true rfl) fl_X3_until_10 rfl dX3_until_29 ?_
    have HW : Hw D A s (wXo cI a o  ++ (wVo cI a (o + 1) (vh S) (vc S) (vA S 0) (vA S 1) (vA S 2) ++ (wVo cI a (o + 19) (vh T) (vc T) (vA T 0) (vA T 1) (vA T 2) ++ (wR cI a ((o + 1) + 4) (vr S) (vA S 3) (vA S 4) (vA S 5) (vA S 6) ++ (wR cI a ((o + 19) + 4) (vr T) (vA T 3) (vA T 4) (vA T 5) (vA T 6) ++ (wS cI a ((o + 1) + 9) (vs S) (vA S 7) (vA S 8) (vA S 9) (vA S 10) (vA S 11) (vA S 12) qt qp ++ (wS cI a ((o + 19) + 9) (vs T) (vA T 7) (vA T 8) (vA T 9) (vA T 10) (vA T 11) (vA T 12) qt2 qp2))))))) H locs := Hw.p6 HW
    refine g_callV CX HW hl.1 (wXo cI a o ) ([]) (c_X2_copyFrom (o + 1) (o + 19) S T qt qp qt2 qp2) rfl 4 rfl rfl gX3_until_X2_copyFrom rfl ⟨rfl, hd_X2_copyFrom⟩ ⟨rfl, rfl, (Nat.le_of_ble_eq_true rfl), (Nat.le_of_ble_eq_true rfl)⟩ ⟨(Nat.zero_le _), (Nat.zero_le _)⟩ rfl rfl (Nat.le_of_ble_eq_true rfl) dX3_until_32 (fun v w1 H locs hp HW => ?_)
    obtain ⟨rfl, rfl⟩ := hp
    have HW : Hw D A s (wXo cI a o  ++ (wVo cI a (o + 1) (vh S) (vc S) (vA S 0) (vA S 1) (vA S 2) ++ (wVo cI a (o + 19) (vh S) (vc S) (vA S 0) (vA S 1) (vA S 2) ++ (wR cI a ((o + 1) + 4) (vr S) (vA S 3) (vA S 4) (vA S 5) (vA S 6) ++ (wR cI a ((o + 19) + 4) (vr S) (vA S 3) (vA S 4) (vA S 5) (vA S 6) ++ (wS cI a ((o + 1) + 9) (vs S) (vA S 7) (vA S 8) (vA S 9) (vA S 10) (vA S 11) (vA S 12) qt qp ++ (wS cI a ((o + 19) + 9) (vs S) (vA S 7) (vA S 8) (vA S 9) (vA S 10) (vA S 11) (vA S 12) qt qp))))))) H locs := HW
    refine W.eq (g2 := F0 m 35 ls []) rfl ?_
    have HW : Hw D A s (wXo cI a o  ++ (wVo cI a (o + 1) (vh S) (vc S) (vA S 0) (vA S 1) (vA S 2) ++ (wR cI a ((o + 1) + 4) (vr S) (vA S 3) (vA S 4) (vA S 5) (vA S 6) ++ (wS cI a ((o + 1) + 9) (vs S) (vA S 7) (vA S 8) (vA S 9) (vA S 10) (vA S 11) (vA S 12) qt qp ++ (wVo cI a (o + 19) (vh S) (vc S) (vA S 0) (vA S 1) (vA S 2) ++ (wR cI a ((o + 19) + 4) (vr S) (vA S 3) (vA S 4) (vA S 5) (vA S 6) ++ (wS cI a ((o + 19) + 9) (vs S) (vA S 7) (vA S 8) (vA S 9) (vA S 10) (vA S 11) (vA S 12) qt qp))))))) H locs := Hw.q6 HW
    refine lv_aload_n hx hb dX3_until_35 rfl (lv_at hl 0 rfl) ?_
    refine g_get CX HW in_X3_until_3 0 0 rfl rfl (Nat.le_of_ble_eq_true rfl) fl_X3_until_10 rfl dX3_until_36 ?_
    refine g_get CX HW in_X3_until_2 1 6 rfl rfl (Nat.le_of_ble_eq_true rfl) fl_X3_until_97 rfl dX3_until_39 ?_
    refine g_get CX HW in_X3_until_1 10 6 rfl rfl (Nat.le_of_ble_eq_true rfl) fl_X3_until_167 rfl dX3_until_42 ?_
    refine lv_iload_n hx hb dX3_until_45 rfl (lv_at hl 1 rfl) ?_
    refine g_ald CX HW 16 (k := k) rfl rfl rfl (by omega) (Nat.le_of_ble_eq_true rfl) dX3_until_46 ?_
    refine lv_istore_n (lv' := [(2, .int ((vA S 12) k)), (0, .ref (a o)), (1, .int (nI k))]) hx hb dX3_until_47 rfl hl (Nat.le_of_ble_eq_true rfl) rfl (fun ls hl => ?_)
    have loop : ∀ (d0 : Nat) (j : Nat) (qt3 : Nat → Int32) (qp3 : Nat → Int32), 90 - j = d0 → (j ≤ 90) → (Rep (vs (hoursS j S)) (vq (hoursS j S)) qt3 qp3) → (untF (vA S 12 k) S k (90 - j) j = untS S k) → ∀ (H : Heap) (locs : List Loc) (ls : Array Slot), Hw D A s (wXo cI a o  ++ (wVo cI a (o + 1) (vh S) (vc S) (vA S 0) (vA S 1) (vA S 2) ++ (wR cI a ((o + 1) + 4) (vr S) (vA S 3) (vA S 4) (vA S 5) (vA S 6) ++ (wS cI a ((o + 1) + 9) (vs S) (vA S 7) (vA S 8) (vA S 9) (vA S 10) (vA S 11) (vA S 12) qt qp ++ (wVo cI a (o + 19) (vh (hoursS j S)) (vc (hoursS j S)) (vA (hoursS j S) 0) (vA (hoursS j S) 1) (vA (hoursS j S) 2) ++ (wR cI a ((o + 19) + 4) (vr (hoursS j S)) (vA (hoursS j S) 3) (vA (hoursS j S) 4) (vA (hoursS j S) 5) (vA (hoursS j S) 6) ++ (wS cI a ((o + 19) + 9) (vs (hoursS j S)) (vA (hoursS j S) 7) (vA (hoursS j S) 8) (vA (hoursS j S) 9) (vA (hoursS j S) 10) (vA (hoursS j S) 11) (vA (hoursS j S) 12) qt3 qp3))))))) H locs → lv_has ls 4 [(3, .int (nI (j + 1))), (2, .int (vA S 12 k)), (1, .int (nI k)), (0, .ref (a o))] → W p l e ({ frames := 6, cells := 0, slots := 0, locals := 142 } : Room) s m ([.ref (a o), .int (nI k)] : List Value).toArray below meth c H locs 0 0 (MQ below (cQ D A (fun v w' => ∃ (T' : VS) (qt2' : Nat → Int32) (qp2' : Nat → Int32), v = some (.int (untS S k)) ∧ w' = wXo cI a o  ++ (wVo cI a (o + 1) (vh S) (vc S) (vA S 0) (vA S 1) (vA S 2) ++ (wR cI a ((o + 1) + 4) (vr S) (vA S 3) (vA S 4) (vA S 5) (vA S 6) ++ (wS cI a ((o + 1) + 9) (vs S) (vA S 7) (vA S 8) (vA S 9) (vA S 10) (vA S 11) (vA S 12) qt qp ++ (wVo cI a (o + 19) (vh T') (vc T') (vA T' 0) (vA T' 1) (vA T' 2) ++ (wR cI a ((o + 19) + 4) (vr T') (vA T' 3) (vA T' 4) (vA T' 5) (vA T' 6) ++ (wS cI a ((o + 19) + 9) (vs T') (vA T' 7) (vA T' 8) (vA T' 9) (vA T' 10) (vA T' 11) (vA T' 12) qt2' qp2')))))))) ([.ref (a o), .int (nI k)] : List Value).toArray s 0 0 A) (F0 m 50 ls []) := by
      intro d0
      induction d0 using Nat.strongRecOn with
      | _ d0 ih =>
        intro j qt3 qp3 hd0 hj hR2 hU H locs ls HW hl
        refine lv_iload_n hx hb dX3_until_50 rfl (lv_at hl 0 rfl) ?_
        refine lv_bipush (v := 90) hx hb dX3_until_51 (by decide) ?_
        refine lv_icmp_gt (tgt := 89) hx hb dX3_until_53 (by decide) (fun c53 => ?_) (fun c53 => ?_)
        · have c53 : 90 < j + 1 := (nI_ltI (a := 90) (b := j + 1) (by decide) (by omega)).mp c53
          refine lv_iconst (v := (-1)) hx hb dX3_until_89 (by decide) ?_
          exact g_iret CX HW rfl ⟨_, _, _, by rw [← hU, show 90 - j = 0 by omega]; rfl, rfl⟩ dX3_until_90
        · have c53 : j + 1 ≤ 90 := (nI_leI (a := j + 1) (b := 90) (by omega) (by decide)).mp (Int32.not_lt.mp c53)
          have hU2 : untF (vA S 12 k) S k (90 - (j + 1) + 1) j = untS S k := by rw [← hU]; congr 1; omega
          simp only [untF] at hU2
          refine lv_aload_n hx hb dX3_until_56 rfl (lv_at hl 3 rfl) ?_
          refine g_get CX HW in_X3_until_3 0 1 rfl rfl (Nat.le_of_ble_eq_true rfl) fl_X3_until_16 rfl dX3_until_57 ?_
          refine lv_iconst (v := 1) hx hb dX3_until_60 (by decide) ?_
          refine g_callV CX HW hl.1 (wXo cI a o  ++ (wVo cI a (o + 1) (vh S) (vc S) (vA S 0) (vA S 1) (vA S 2) ++ (wR cI a ((o + 1) + 4) (vr S) (vA S 3) (vA S 4) (vA S 5) (vA S 6) ++ (wS cI a ((o + 1) + 9) (vs S) (vA S 7) (vA S 8) (vA S 9) (vA S 10) (vA S 11) (vA S 12) qt qp)))) ([]) (c_X2_letHoursGo (o + 19) (hoursS j S) qt3 qp3 1 (Inv_hoursS hI hR j) hR2 (by omega) (by rw [vh_hoursS]; omega)) rfl 0 rfl rfl gX3_until_X2_letHoursGo rfl ⟨rfl, hd_X2_letHoursGo⟩ ⟨rfl, rfl, (Nat.le_of_ble_eq_true rfl), (Nat.le_of_ble_eq_true rfl)⟩ ⟨(Nat.zero_le _), (Nat.zero_le _)⟩ rfl rfl (Nat.le_of_ble_eq_true rfl) dX3_until_61 (fun v w1 H locs hp HW => ?_)
          obtain ⟨qt'_1, qp'_1, hr9_1, rfl, rfl⟩ := hp
          have HW : Hw D A s (wXo cI a o  ++ (wVo cI a (o + 1) (vh S) (vc S) (vA S 0) (vA S 1) (vA S 2) ++ (wR cI a ((o + 1) + 4) (vr S) (vA S 3) (vA S 4) (vA S 5) (vA S 6) ++ (wS cI a ((o + 1) + 9) (vs S) (vA S 7) (vA S 8) (vA S 9) (vA S 10) (vA S 11) (vA S 12) qt qp ++ (wVo cI a (o + 19) (vh (hoursS 1 (hoursS j S))) (vc (hoursS 1 (hoursS j S))) (vA (hoursS 1 (hoursS j S)) 0) (vA (hoursS 1 (hoursS j S)) 1) (vA (hoursS 1 (hoursS j S)) 2) ++ (wR cI a ((o + 19) + 4) (vr (hoursS 1 (hoursS j S))) (vA (hoursS 1 (hoursS j S)) 3) (vA (hoursS 1 (hoursS j S)) 4) (vA (hoursS 1 (hoursS j S)) 5) (vA (hoursS 1 (hoursS j S)) 6) ++ (wS cI a ((o + 19) + 9) (vs (hoursS 1 (hoursS j S))) (vA (hoursS 1 (hoursS j S)) 7) (vA (hoursS 1 (hoursS j S)) 8) (vA (hoursS 1 (hoursS j S)) 9) (vA (hoursS 1 (hoursS j S)) 10) (vA (hoursS 1 (hoursS j S)) 11) (vA (hoursS 1 (hoursS j S)) 12) qt'_1 qp'_1))))))) H locs := HW
          refine W.eq (g2 := F0 m 64 ls [.int (sumP (hoursS 1 (hoursS j S)) - sumP (hoursS j S))]) rfl ?_
          rw [show hoursS 1 (hoursS j S) = hoursS (j + 1) S from rfl] at HW
          have HW : Hw D A s (wXo cI a o  ++ (wVo cI a (o + 1) (vh S) (vc S) (vA S 0) (vA S 1) (vA S 2) ++ (wR cI a ((o + 1) + 4) (vr S) (vA S 3) (vA S 4) (vA S 5) (vA S 6) ++ (wS cI a ((o + 1) + 9) (vs S) (vA S 7) (vA S 8) (vA S 9) (vA S 10) (vA S 11) (vA S 12) qt qp ++ (wVo cI a (o + 19) (vh (hoursS (j + 1) S)) (vc (hoursS (j + 1) S)) (vA (hoursS (j + 1) S) 0) (vA (hoursS (j + 1) S) 1) (vA (hoursS (j + 1) S) 2) ++ (wR cI a ((o + 19) + 4) (vr (hoursS (j + 1) S)) (vA (hoursS (j + 1) S) 3) (vA (hoursS (j + 1) S) 4) (vA (hoursS (j + 1) S) 5) (vA (hoursS (j + 1) S) 6) ++ (wS cI a ((o + 19) + 9) (vs (hoursS (j + 1) S)) (vA (hoursS (j + 1) S) 7) (vA (hoursS (j + 1) S) 8) (vA (hoursS (j + 1) S) 9) (vA (hoursS (j + 1) S) 10) (vA (hoursS (j + 1) S) 11) (vA (hoursS (j + 1) S) 12) qt'_1 qp'_1))))))) H locs := HW
          have hR3 : Rep (vs (hoursS (j + 1) S)) (vq (hoursS (j + 1) S)) qt'_1 qp'_1 := hr9_1
          refine lv_pop hx hb dX3_until_64 rfl ?_
          refine lv_aload_n hx hb dX3_until_65 rfl (lv_at hl 3 rfl) ?_
          refine g_get CX HW in_X3_until_3 0 1 rfl rfl (Nat.le_of_ble_eq_true rfl) fl_X3_until_16 rfl dX3_until_66 ?_
          refine g_get CX HW in_X3_until_2 19 6 rfl rfl (Nat.le_of_ble_eq_true rfl) fl_X3_until_97 rfl dX3_until_69 ?_
          refine g_get CX HW in_X3_until_1 28 6 rfl rfl (Nat.le_of_ble_eq_true rfl) fl_X3_until_167 rfl dX3_until_72 ?_
          refine lv_iload_n hx hb dX3_until_75 rfl (lv_at hl 2 rfl) ?_
          refine g_ald CX HW 34 (k := k) rfl rfl rfl (by omega) (Nat.le_of_ble_eq_true rfl) dX3_until_76 ?_
          refine lv_iload_n hx hb dX3_until_77 rfl (lv_at hl 1 rfl) ?_
          refine lv_icmp_le (tgt := 83) hx hb dX3_until_78 (by decide) (fun c78 => ?_) (fun c78 => ?_)
          · rw [if_neg (Int32.not_lt.mpr c78)] at hU2
            refine lv_iinc (v := (nI ((j + 1) + 1))) (lv' := [(3, .int (nI ((j + 1) + 1))), (2, .int (vA S 12 k)), (1, .int (nI k)), (0, .ref (a o))]) hx hb dX3_until_83 hl (k := 0) rfl (inc1 _) (Nat.le_of_ble_eq_true rfl) rfl (fun ls hl => ?_)
            refine lv_goto (tgt := 50) hx hb dX3_until_86 (by decide) ?_
            exact ih _ (by omega) (j + 1) _ _ rfl (by omega) hR3 hU2 _ _ _ HW (lv_sub hl [0, 1, 2, 3] rfl)
          · rw [if_pos (Int32.not_le.mp c78)] at hU2
            refine lv_iload_n hx hb dX3_until_81 rfl (lv_at hl 0 rfl) ?_
            exact g_iret CX HW rfl ⟨_, _, _, by rw [← hU2], rfl⟩ dX3_until_82
    refine lv_iconst (v := 1) hx hb dX3_until_48 (by decide) ?_
    refine lv_istore_n (lv' := [(3, .int (1 : Int32)), (2, .int ((vA S 12) k)), (0, .ref (a o)), (1, .int (nI k))]) hx hb dX3_until_49 rfl hl (Nat.le_of_ble_eq_true rfl) rfl (fun ls hl => ?_)
    exact loop _ 0 qt qp rfl (by omega) hR rfl _ _ _ HW (lv_sub hl [0, 1, 3, 2] rfl)
  · exact absurd (has_ok (n := vs S) (k := k) (by omega) (by omega)) c11

theorem hd_X3_digest : yX3_digest.cls ≠ "java/lang/invoke/MethodHandle" ∧ yX3_digest.cls ≠ "java/lang/invoke/VarHandle" ∧ (parseMethodDescriptor yX3_digest.desc).map (fun d => d.parameters.length) = some 0 := by decide +kernel
theorem cl_X3_digest_182 : Cond.constantLong RX3 182 (1481) ∈ wsX3_digest := by decide +kernel
theorem fl_X3_digest_10 : Cond.fieldLink RX3 10 (TX3 0).1 (TX3 0).2.1 (TX3 0).2.2.1 ∈ wsX3_digest := by decide +kernel
theorem in_X3_digest_3 : ∀ x ∈ u_ws RX3 TX3 2, x ∈ wsX3_digest := by decide +kernel
theorem fl_X3_digest_35 : Cond.fieldLink RX3 35 (TX2 5).1 (TX2 5).2.1 (TX2 5).2.2.1 ∈ wsX3_digest := by decide +kernel
theorem in_X3_digest_2 : ∀ x ∈ u_ws RX2 TX2 7, x ∈ wsX3_digest := by decide +kernel
theorem fl_X3_digest_188 : Cond.fieldLink RX3 188 (TX0 0).1 (TX0 0).2.1 (TX0 0).2.2.1 ∈ wsX3_digest := by decide +kernel
theorem in_X3_digest_0 : ∀ x ∈ u_ws RX0 TX0 5, x ∈ wsX3_digest := by decide +kernel
theorem fl_X3_digest_97 : Cond.fieldLink RX3 97 (TX2 6).1 (TX2 6).2.1 (TX2 6).2.2.1 ∈ wsX3_digest := by decide +kernel
theorem fl_X3_digest_175 : Cond.fieldLink RX3 175 (TX1 0).1 (TX1 0).2.1 (TX1 0).2.2.1 ∈ wsX3_digest := by decide +kernel
theorem in_X3_digest_1 : ∀ x ∈ u_ws RX1 TX1 9, x ∈ wsX3_digest := by decide +kernel
theorem fl_X3_digest_64 : Cond.fieldLink RX3 64 (TX2 2).1 (TX2 2).2.1 (TX2 2).2.2.1 ∈ wsX3_digest := by decide +kernel
set_option maxRecDepth 100000 in
set_option maxHeartbeats 4000000 in
theorem c_X3_digest {l : Launch} {D : va_G} {cI cL : ClassId} {a : Nat → Nat} (o : Nat) (S : VS) (qt : Nat → Int32) (qp : Nat → Int32) (T : VS) (qt2 : Nat → Int32) (qp2 : Nat → Int32) (hI : Inv S) (hR : Rep (vs S) (vq S) qt qp) (hh : vh S + 100 < 2 ^ 31) : Ct l yX3_digest wsX3_digest { frames := 3, cells := 0, slots := 0, locals := 64 } D (ty2 cI cL) [.ref (a o)] (wXo cI a o  ++ (wVo cI a (o + 1) (vh S) (vc S) (vA S 0) (vA S 1) (vA S 2) ++ (wR cI a ((o + 1) + 4) (vr S) (vA S 3) (vA S 4) (vA S 5) (vA S 6) ++ (wS cI a ((o + 1) + 9) (vs S) (vA S 7) (vA S 8) (vA S 9) (vA S 10) (vA S 11) (vA S 12) qt qp ++ (wVo cI a (o + 19) (vh T) (vc T) (vA T 0) (vA T 1) (vA T 2) ++ (wR cI a ((o + 19) + 4) (vr T) (vA T 3) (vA T 4) (vA T 5) (vA T 6) ++ (wS cI a ((o + 19) + 9) (vs T) (vA T 7) (vA T 8) (vA T 9) (vA T 10) (vA T 11) (vA T 12) qt2 qp2))))))) (fun v w' => v = some (.long (dig S)) ∧ w' = wXo cI a o  ++ (wVo cI a (o + 1) (vh S) (vc S) (vA S 0) (vA S 1) (vA S 2) ++ (wR cI a ((o + 1) + 4) (vr S) (vA S 3) (vA S 4) (vA S 5) (vA S 6) ++ (wS cI a ((o + 1) + 9) (vs S) (vA S 7) (vA S 8) (vA S 9) (vA S 10) (vA S 11) (vA S 12) qt qp ++ (wVo cI a (o + 19) (vh T) (vc T) (vA T 0) (vA T 1) (vA T 2) ++ (wR cI a ((o + 19) + 4) (vr T) (vA T 3) (vA T 4) (vA T 5) (vA T 6) ++ (wS cI a ((o + 19) + 9) (vs T) (vA T 7) (vA T 8) (vA T 9) (vA T 10) (vA T 11) (vA T 12) qt2 qp2))))))) 0 0 := by
  refine Ct.of (cc := cX3_digest) (maxL := 6) (ret := (some .long)) (by decide) rfl (Nat.le_of_ble_eq_true rfl) ?_
  intro p e s m below meth c A ls CX hin HW hl
  obtain ⟨hx, hb, hml, hr, hown, hts, hK, hA, hlk⟩ := id CX
  have hl : lv_has ls 6 [(0, .ref (a o))] := hl
  have hn6 := hI.1
  have hn8 := hI.2.1
  refine lv_ldc2 hx hb hown (hts _ cl_X3_digest_182) dX3_digest_0 ?_
  refine lv_lstore_n (lv' := [(1, .long (1481 : Int64)), (0, .ref (a o))]) hx hb dX3_digest_3 rfl hl (Nat.le_of_ble_eq_true rfl) rfl (fun ls hl => ?_)
  have lp6 : ∀ (d6 : Nat) (i : Nat), 9 - i = d6 → (i ≤ 9) → ∀ (H : Heap) (locs : List Loc) (ls : Array Slot), Hw D A s (wXo cI a o  ++ (wVo cI a (o + 1) (vh S) (vc S) (vA S 0) (vA S 1) (vA S 2) ++ (wR cI a ((o + 1) + 4) (vr S) (vA S 3) (vA S 4) (vA S 5) (vA S 6) ++ (wS cI a ((o + 1) + 9) (vs S) (vA S 7) (vA S 8) (vA S 9) (vA S 10) (vA S 11) (vA S 12) qt qp ++ (wVo cI a (o + 19) (vh T) (vc T) (vA T 0) (vA T 1) (vA T 2) ++ (wR cI a ((o + 19) + 4) (vr T) (vA T 3) (vA T 4) (vA T 5) (vA T 6) ++ (wS cI a ((o + 19) + 9) (vs T) (vA T 7) (vA T 8) (vA T 9) (vA T 10) (vA T 11) (vA T 12) qt2 qp2))))))) H locs → lv_has ls 6 [(3, .int (nI i)), (1, .long (fN (figV S) i 1481)), (0, .ref (a o))] → W p l e ({ frames := 3, cells := 0, slots := 0, locals := 64 } : Room) s m ([.ref (a o)] : List Value).toArray below meth c H locs 0 0 (MQ below (cQ D A (fun v w' => v = some (.long (dig S)) ∧ w' = wXo cI a o  ++ (wVo cI a (o + 1) (vh S) (vc S) (vA S 0) (vA S 1) (vA S 2) ++ (wR cI a ((o + 1) + 4) (vr S) (vA S 3) (vA S 4) (vA S 5) (vA S 6) ++ (wS cI a ((o + 1) + 9) (vs S) (vA S 7) (vA S 8) (vA S 9) (vA S 10) (vA S 11) (vA S 12) qt qp ++ (wVo cI a (o + 19) (vh T) (vc T) (vA T 0) (vA T 1) (vA T 2) ++ (wR cI a ((o + 19) + 4) (vr T) (vA T 3) (vA T 4) (vA T 5) (vA T 6) ++ (wS cI a ((o + 19) + 9) (vs T) (vA T 7) (vA T 8) (vA T 9) (vA T 10) (vA T 11) (vA T 12) qt2 qp2)))))))) ([.ref (a o)] : List Value).toArray s 0 0 A) (F0 m 6 ls []) := by
    intro d6
    induction d6 using Nat.strongRecOn with
    | _ d6 ih6 =>
      intro i hd6 hi H locs ls HW hl
      refine lv_iload_n hx hb dX3_digest_6 rfl (lv_at hl 0 rfl) ?_
      refine lv_bipush (v := 9) hx hb dX3_digest_7 (by decide) ?_
      refine lv_icmp_ge (tgt := 31) hx hb dX3_digest_9 (by decide) (fun c9 => ?_) (fun c9 => ?_)
      · have c9 := (nI_leI (a := 9) (b := i) (by decide) (by omega)).mp c9
        obtain rfl : i = 9 := by omega
        have lp33 : ∀ (d33 : Nat) (i : Nat), 6 - i = d33 → (i ≤ 6) → ∀ (H : Heap) (locs : List Loc) (ls : Array Slot), Hw D A s (wXo cI a o  ++ (wVo cI a (o + 1) (vh S) (vc S) (vA S 0) (vA S 1) (vA S 2) ++ (wR cI a ((o + 1) + 4) (vr S) (vA S 3) (vA S 4) (vA S 5) (vA S 6) ++ (wS cI a ((o + 1) + 9) (vs S) (vA S 7) (vA S 8) (vA S 9) (vA S 10) (vA S 11) (vA S 12) qt qp ++ (wVo cI a (o + 19) (vh T) (vc T) (vA T 0) (vA T 1) (vA T 2) ++ (wR cI a ((o + 19) + 4) (vr T) (vA T 3) (vA T 4) (vA T 5) (vA T 6) ++ (wS cI a ((o + 19) + 9) (vs T) (vA T 7) (vA T 8) (vA T 9) (vA T 10) (vA T 11) (vA T 12) qt2 qp2))))))) H locs → lv_has ls 6 [(3, .int (nI i)), (1, .long (fN (vA S 0) i (fN (figV S) 9 1481))), (0, .ref (a o))] → W p l e ({ frames := 3, cells := 0, slots := 0, locals := 64 } : Room) s m ([.ref (a o)] : List Value).toArray below meth c H locs 0 0 (MQ below (cQ D A (fun v w' => v = some (.long (dig S)) ∧ w' = wXo cI a o  ++ (wVo cI a (o + 1) (vh S) (vc S) (vA S 0) (vA S 1) (vA S 2) ++ (wR cI a ((o + 1) + 4) (vr S) (vA S 3) (vA S 4) (vA S 5) (vA S 6) ++ (wS cI a ((o + 1) + 9) (vs S) (vA S 7) (vA S 8) (vA S 9) (vA S 10) (vA S 11) (vA S 12) qt qp ++ (wVo cI a (o + 19) (vh T) (vc T) (vA T 0) (vA T 1) (vA T 2) ++ (wR cI a ((o + 19) + 4) (vr T) (vA T 3) (vA T 4) (vA T 5) (vA T 6) ++ (wS cI a ((o + 19) + 9) (vs T) (vA T 7) (vA T 8) (vA T 9) (vA T 10) (vA T 11) (vA T 12) qt2 qp2)))))))) ([.ref (a o)] : List Value).toArray s 0 0 A) (F0 m 33 ls []) := by
          intro d33
          induction d33 using Nat.strongRecOn with
          | _ d33 ih33 =>
            intro i hd33 hi H locs ls HW hl
            refine lv_iload_n hx hb dX3_digest_33 rfl (lv_at hl 0 rfl) ?_
            refine lv_bipush (v := 6) hx hb dX3_digest_34 (by decide) ?_
            refine lv_icmp_ge (tgt := 59) hx hb dX3_digest_36 (by decide) (fun c36 => ?_) (fun c36 => ?_)
            · have c36 := (nI_leI (a := 6) (b := i) (by decide) (by omega)).mp c36
              obtain rfl : i = 6 := by omega
              have lp61 : ∀ (d61 : Nat) (i : Nat), vr S - i = d61 → (i ≤ vr S) → ∀ (H : Heap) (locs : List Loc) (ls : Array Slot), Hw D A s (wXo cI a o  ++ (wVo cI a (o + 1) (vh S) (vc S) (vA S 0) (vA S 1) (vA S 2) ++ (wR cI a ((o + 1) + 4) (vr S) (vA S 3) (vA S 4) (vA S 5) (vA S 6) ++ (wS cI a ((o + 1) + 9) (vs S) (vA S 7) (vA S 8) (vA S 9) (vA S 10) (vA S 11) (vA S 12) qt qp ++ (wVo cI a (o + 19) (vh T) (vc T) (vA T 0) (vA T 1) (vA T 2) ++ (wR cI a ((o + 19) + 4) (vr T) (vA T 3) (vA T 4) (vA T 5) (vA T 6) ++ (wS cI a ((o + 19) + 9) (vs T) (vA T 7) (vA T 8) (vA T 9) (vA T 10) (vA T 11) (vA T 12) qt2 qp2))))))) H locs → lv_has ls 6 [(3, .int (nI i)), (1, .long (dgR S i (fN (vA S 0) 6 (fN (figV S) 9 1481)))), (0, .ref (a o))] → W p l e ({ frames := 3, cells := 0, slots := 0, locals := 64 } : Room) s m ([.ref (a o)] : List Value).toArray below meth c H locs 0 0 (MQ below (cQ D A (fun v w' => v = some (.long (dig S)) ∧ w' = wXo cI a o  ++ (wVo cI a (o + 1) (vh S) (vc S) (vA S 0) (vA S 1) (vA S 2) ++ (wR cI a ((o + 1) + 4) (vr S) (vA S 3) (vA S 4) (vA S 5) (vA S 6) ++ (wS cI a ((o + 1) + 9) (vs S) (vA S 7) (vA S 8) (vA S 9) (vA S 10) (vA S 11) (vA S 12) qt qp ++ (wVo cI a (o + 19) (vh T) (vc T) (vA T 0) (vA T 1) (vA T 2) ++ (wR cI a ((o + 19) + 4) (vr T) (vA T 3) (vA T 4) (vA T 5) (vA T 6) ++ (wS cI a ((o + 19) + 9) (vs T) (vA T 7) (vA T 8) (vA T 9) (vA T 10) (vA T 11) (vA T 12) qt2 qp2)))))))) ([.ref (a o)] : List Value).toArray s 0 0 A) (F0 m 61 ls []) := by
                intro d61
                induction d61 using Nat.strongRecOn with
                | _ d61 ih61 =>
                  intro i hd61 hi H locs ls HW hl
                  refine lv_iload_n hx hb dX3_digest_61 rfl (lv_at hl 0 rfl) ?_
                  refine lv_aload_n hx hb dX3_digest_62 rfl (lv_at hl 2 rfl) ?_
                  refine g_get CX HW in_X3_digest_3 0 0 rfl rfl (Nat.le_of_ble_eq_true rfl) fl_X3_digest_10 rfl dX3_digest_63 ?_
                  refine g_get CX HW in_X3_digest_2 1 5 rfl rfl (Nat.le_of_ble_eq_true rfl) fl_X3_digest_35 rfl dX3_digest_66 ?_
                  refine g_get CX HW in_X3_digest_0 5 0 rfl rfl (Nat.le_of_ble_eq_true rfl) fl_X3_digest_188 rfl dX3_digest_69 ?_
                  refine lv_icmp_ge (tgt := 114) hx hb dX3_digest_72 (by decide) (fun c72 => ?_) (fun c72 => ?_)
                  · have c72 := (nI_leI (a := vr S) (b := i) (by omega) (by omega)).mp c72
                    obtain rfl : i = vr S := by omega
                    have lp116 : ∀ (d116 : Nat) (i : Nat), vs S - i = d116 → (i ≤ vs S) → ∀ (H : Heap) (locs : List Loc) (ls : Array Slot), Hw D A s (wXo cI a o  ++ (wVo cI a (o + 1) (vh S) (vc S) (vA S 0) (vA S 1) (vA S 2) ++ (wR cI a ((o + 1) + 4) (vr S) (vA S 3) (vA S 4) (vA S 5) (vA S 6) ++ (wS cI a ((o + 1) + 9) (vs S) (vA S 7) (vA S 8) (vA S 9) (vA S 10) (vA S 11) (vA S 12) qt qp ++ (wVo cI a (o + 19) (vh T) (vc T) (vA T 0) (vA T 1) (vA T 2) ++ (wR cI a ((o + 19) + 4) (vr T) (vA T 3) (vA T 4) (vA T 5) (vA T 6) ++ (wS cI a ((o + 19) + 9) (vs T) (vA T 7) (vA T 8) (vA T 9) (vA T 10) (vA T 11) (vA T 12) qt2 qp2))))))) H locs → lv_has ls 6 [(3, .int (nI i)), (1, .long (dgS S i (dgR S (vr S) (fN (vA S 0) 6 (fN (figV S) 9 1481))))), (0, .ref (a o))] → W p l e ({ frames := 3, cells := 0, slots := 0, locals := 64 } : Room) s m ([.ref (a o)] : List Value).toArray below meth c H locs 0 0 (MQ below (cQ D A (fun v w' => v = some (.long (dig S)) ∧ w' = wXo cI a o  ++ (wVo cI a (o + 1) (vh S) (vc S) (vA S 0) (vA S 1) (vA S 2) ++ (wR cI a ((o + 1) + 4) (vr S) (vA S 3) (vA S 4) (vA S 5) (vA S 6) ++ (wS cI a ((o + 1) + 9) (vs S) (vA S 7) (vA S 8) (vA S 9) (vA S 10) (vA S 11) (vA S 12) qt qp ++ (wVo cI a (o + 19) (vh T) (vc T) (vA T 0) (vA T 1) (vA T 2) ++ (wR cI a ((o + 19) + 4) (vr T) (vA T 3) (vA T 4) (vA T 5) (vA T 6) ++ (wS cI a ((o + 19) + 9) (vs T) (vA T 7) (vA T 8) (vA T 9) (vA T 10) (vA T 11) (vA T 12) qt2 qp2)))))))) ([.ref (a o)] : List Value).toArray s 0 0 A) (F0 m 116 ls []) := by
                      intro d116
                      induction d116 using Nat.strongRecOn with
                      | _ d116 ih116 =>
                        intro i hd116 hi H locs ls HW hl
                        refine lv_iload_n hx hb dX3_digest_116 rfl (lv_at hl 0 rfl) ?_
                        refine lv_aload_n hx hb dX3_digest_117 rfl (lv_at hl 2 rfl) ?_
                        refine g_get CX HW in_X3_digest_3 0 0 rfl rfl (Nat.le_of_ble_eq_true rfl) fl_X3_digest_10 rfl dX3_digest_118 ?_
                        refine g_get CX HW in_X3_digest_2 1 6 rfl rfl (Nat.le_of_ble_eq_true rfl) fl_X3_digest_97 rfl dX3_digest_121 ?_
                        refine g_get CX HW in_X3_digest_1 10 0 rfl rfl (Nat.le_of_ble_eq_true rfl) fl_X3_digest_175 rfl dX3_digest_124 ?_
                        refine lv_icmp_ge (tgt := 170) hx hb dX3_digest_127 (by decide) (fun c127 => ?_) (fun c127 => ?_)
                        · have c127 := (nI_leI (a := vs S) (b := i) (by omega) (by omega)).mp c127
                          obtain rfl : i = vs S := by omega
                          have lp172 : ∀ (d172 : Nat) (i : Nat), 3 - i = d172 → (i ≤ 3) → ∀ (H : Heap) (locs : List Loc) (ls : Array Slot), Hw D A s (wXo cI a o  ++ (wVo cI a (o + 1) (vh S) (vc S) (vA S 0) (vA S 1) (vA S 2) ++ (wR cI a ((o + 1) + 4) (vr S) (vA S 3) (vA S 4) (vA S 5) (vA S 6) ++ (wS cI a ((o + 1) + 9) (vs S) (vA S 7) (vA S 8) (vA S 9) (vA S 10) (vA S 11) (vA S 12) qt qp ++ (wVo cI a (o + 19) (vh T) (vc T) (vA T 0) (vA T 1) (vA T 2) ++ (wR cI a ((o + 19) + 4) (vr T) (vA T 3) (vA T 4) (vA T 5) (vA T 6) ++ (wS cI a ((o + 19) + 9) (vs T) (vA T 7) (vA T 8) (vA T 9) (vA T 10) (vA T 11) (vA T 12) qt2 qp2))))))) H locs → lv_has ls 6 [(3, .int (nI i)), (1, .long (dgT S i (dgS S (vs S) (dgR S (vr S) (fN (vA S 0) 6 (fN (figV S) 9 1481)))))), (0, .ref (a o))] → W p l e ({ frames := 3, cells := 0, slots := 0, locals := 64 } : Room) s m ([.ref (a o)] : List Value).toArray below meth c H locs 0 0 (MQ below (cQ D A (fun v w' => v = some (.long (dig S)) ∧ w' = wXo cI a o  ++ (wVo cI a (o + 1) (vh S) (vc S) (vA S 0) (vA S 1) (vA S 2) ++ (wR cI a ((o + 1) + 4) (vr S) (vA S 3) (vA S 4) (vA S 5) (vA S 6) ++ (wS cI a ((o + 1) + 9) (vs S) (vA S 7) (vA S 8) (vA S 9) (vA S 10) (vA S 11) (vA S 12) qt qp ++ (wVo cI a (o + 19) (vh T) (vc T) (vA T 0) (vA T 1) (vA T 2) ++ (wR cI a ((o + 19) + 4) (vr T) (vA T 3) (vA T 4) (vA T 5) (vA T 6) ++ (wS cI a ((o + 19) + 9) (vs T) (vA T 7) (vA T 8) (vA T 9) (vA T 10) (vA T 11) (vA T 12) qt2 qp2)))))))) ([.ref (a o)] : List Value).toArray s 0 0 A) (F0 m 172 ls []) := by
                            intro d172
                            induction d172 using Nat.strongRecOn with
                            | _ d172 ih172 =>
                              intro i hd172 hi H locs ls HW hl
                              refine lv_iload_n hx hb dX3_digest_172 rfl (lv_at hl 0 rfl) ?_
                              refine lv_iconst (v := 3) hx hb dX3_digest_173 (by decide) ?_
                              refine lv_icmp_ge (tgt := 260) hx hb dX3_digest_174 (by decide) (fun c174 => ?_) (fun c174 => ?_)
                              · have c174 := (nI_leI (a := 3) (b := i) (by decide) (by omega)).mp c174
                                obtain rfl : i = 3 := by omega
                                refine lv_lload_n hx hb dX3_digest_260 rfl (lv_at hl 1 rfl) ?_
                                exact g_lret CX HW rfl ⟨rfl, rfl⟩ dX3_digest_261
                              · have c174 : i < 3 := nI_lt_of (a := 3) (b := i) (by decide) (by omega) c174
                                have lp180 : ∀ (d180 : Nat) (j : Nat), 3 - j = d180 → (j ≤ 3) → ∀ (H : Heap) (locs : List Loc) (ls : Array Slot), Hw D A s (wXo cI a o  ++ (wVo cI a (o + 1) (vh S) (vc S) (vA S 0) (vA S 1) (vA S 2) ++ (wR cI a ((o + 1) + 4) (vr S) (vA S 3) (vA S 4) (vA S 5) (vA S 6) ++ (wS cI a ((o + 1) + 9) (vs S) (vA S 7) (vA S 8) (vA S 9) (vA S 10) (vA S 11) (vA S 12) qt qp ++ (wVo cI a (o + 19) (vh T) (vc T) (vA T 0) (vA T 1) (vA T 2) ++ (wR cI a ((o + 19) + 4) (vr T) (vA T 3) (vA T 4) (vA T 5) (vA T 6) ++ (wS cI a ((o + 19) + 9) (vs T) (vA T 7) (vA T 8) (vA T 9) (vA T 10) (vA T 11) (vA T 12) qt2 qp2))))))) H locs → lv_has ls 6 [(4, .int (nI j)), (3, .int (nI i)), (1, .long (fN (figT S i) j (dgT S i (dgS S (vs S) (dgR S (vr S) (fN (vA S 0) 6 (fN (figV S) 9 1481))))))), (0, .ref (a o))] → W p l e ({ frames := 3, cells := 0, slots := 0, locals := 64 } : Room) s m ([.ref (a o)] : List Value).toArray below meth c H locs 0 0 (MQ below (cQ D A (fun v w' => v = some (.long (dig S)) ∧ w' = wXo cI a o  ++ (wVo cI a (o + 1) (vh S) (vc S) (vA S 0) (vA S 1) (vA S 2) ++ (wR cI a ((o + 1) + 4) (vr S) (vA S 3) (vA S 4) (vA S 5) (vA S 6) ++ (wS cI a ((o + 1) + 9) (vs S) (vA S 7) (vA S 8) (vA S 9) (vA S 10) (vA S 11) (vA S 12) qt qp ++ (wVo cI a (o + 19) (vh T) (vc T) (vA T 0) (vA T 1) (vA T 2) ++ (wR cI a ((o + 19) + 4) (vr T) (vA T 3) (vA T 4) (vA T 5) (vA T 6) ++ (wS cI a ((o + 19) + 9) (vs T) (vA T 7) (vA T 8) (vA T 9) (vA T 10) (vA T 11) (vA T 12) qt2 qp2)))))))) ([.ref (a o)] : List Value).toArray s 0 0 A) (F0 m 180 ls []) := by
                                  intro d180
                                  induction d180 using Nat.strongRecOn with
                                  | _ d180 ih180 =>
                                    intro j hd180 hj H locs ls HW hl
                                    refine lv_iload hx hb dX3_digest_180 (lv_at hl 0 rfl) ?_
                                    refine lv_iconst (v := 3) hx hb dX3_digest_182 (by decide) ?_
                                    refine lv_icmp_ge (tgt := 207) hx hb dX3_digest_183 (by decide) (fun c183 => ?_) (fun c183 => ?_)
                                    · have c183 := (nI_leI (a := 3) (b := j) (by decide) (by omega)).mp c183
                                      obtain rfl : j = 3 := by omega
                                      refine lv_aload_n hx hb dX3_digest_207 rfl (lv_at hl 3 rfl) ?_
                                      refine g_get CX HW in_X3_digest_3 0 0 rfl rfl (Nat.le_of_ble_eq_true rfl) fl_X3_digest_10 rfl dX3_digest_208 ?_
                                      refine g_get CX HW in_X3_digest_2 1 6 rfl rfl (Nat.le_of_ble_eq_true rfl) fl_X3_digest_97 rfl dX3_digest_211 ?_
                                      refine lv_iload_n hx hb dX3_digest_214 rfl (lv_at hl 1 rfl) ?_
                                      refine g_callV CX HW hl.1 (wXo cI a o  ++ (wVo cI a (o + 1) (vh S) (vc S) (vA S 0) (vA S 1) (vA S 2) ++ (wR cI a ((o + 1) + 4) (vr S) (vA S 3) (vA S 4) (vA S 5) (vA S 6)))) (wVo cI a (o + 19) (vh T) (vc T) (vA T 0) (vA T 1) (vA T 2) ++ (wR cI a ((o + 19) + 4) (vr T) (vA T 3) (vA T 4) (vA T 5) (vA T 6) ++ (wS cI a ((o + 19) + 9) (vs T) (vA T 7) (vA T 8) (vA T 9) (vA T 10) (vA T 11) (vA T 12) qt2 qp2))) (c_X1_waitingAt ((o + 1) + 9) (vs S) (vA S 7) (vA S 8) (vA S 9) (vA S 10) (vA S 11) (vA S 12) qt qp (nI i) hn8) rfl 0 rfl rfl gX3_digest_X1_waitingAt rfl ⟨rfl, hd_X1_waitingAt⟩ ⟨rfl, rfl, (Nat.le_of_ble_eq_true rfl), (Nat.le_of_ble_eq_true rfl)⟩ ⟨(Nat.zero_le _), (Nat.zero_le _)⟩ rfl rfl (Nat.le_of_ble_eq_true rfl) dX3_digest_215 (fun v w1 H locs hp HW => ?_)
                                      obtain ⟨rfl, rfl⟩ := hp
                                      have HW : Hw D A s (wXo cI a o  ++ (wVo cI a (o + 1) (vh S) (vc S) (vA S 0) (vA S 1) (vA S 2) ++ (wR cI a ((o + 1) + 4) (vr S) (vA S 3) (vA S 4) (vA S 5) (vA S 6) ++ (wS cI a ((o + 1) + 9) (vs S) (vA S 7) (vA S 8) (vA S 9) (vA S 10) (vA S 11) (vA S 12) qt qp ++ (wVo cI a (o + 19) (vh T) (vc T) (vA T 0) (vA T 1) (vA T 2) ++ (wR cI a ((o + 19) + 4) (vr T) (vA T 3) (vA T 4) (vA T 5) (vA T 6) ++ (wS cI a ((o + 19) + 9) (vs T) (vA T 7) (vA T 8) (vA T 9) (vA T 10) (vA T 11) (vA T 12) qt2 qp2))))))) H locs := HW
                                      refine W.eq (g2 := F0 m 218 ls [.int (nI (cntE qt (nI i) (vs S)))]) rfl ?_
                                      refine g_top (y := (nI (vq S i).length)) (by rw [hR.2.2 i (by omega)]) ?_
                                      refine lv_istore (lv' := [(4, .int (nI (vq S i).length)), (3, .int (nI i)), (1, .long (fN (figT S i) 3 (dgT S i (dgS S (vs S) (dgR S (vr S) (fN (vA S 0) 6 (fN (figV S) 9 1481))))))), (0, .ref (a o))]) hx hb dX3_digest_218 hl (Nat.le_of_ble_eq_true rfl) rfl (fun ls hl => ?_)
                                      have lp223 : ∀ (d223 : Nat) (j : Nat), (vq S i).length - j = d223 → (j ≤ (vq S i).length) → ∀ (H : Heap) (locs : List Loc) (ls : Array Slot), Hw D A s (wXo cI a o  ++ (wVo cI a (o + 1) (vh S) (vc S) (vA S 0) (vA S 1) (vA S 2) ++ (wR cI a ((o + 1) + 4) (vr S) (vA S 3) (vA S 4) (vA S 5) (vA S 6) ++ (wS cI a ((o + 1) + 9) (vs S) (vA S 7) (vA S 8) (vA S 9) (vA S 10) (vA S 11) (vA S 12) qt qp ++ (wVo cI a (o + 19) (vh T) (vc T) (vA T 0) (vA T 1) (vA T 2) ++ (wR cI a ((o + 19) + 4) (vr T) (vA T 3) (vA T 4) (vA T 5) (vA T 6) ++ (wS cI a ((o + 19) + 9) (vs T) (vA T 7) (vA T 8) (vA T 9) (vA T 10) (vA T 11) (vA T 12) qt2 qp2))))))) H locs → lv_has ls 6 [(5, .int (nI j)), (4, .int (nI (vq S i).length)), (3, .int (nI i)), (1, .long (fN (fun z => oI ((vq S i)[z]?)) j (fN (figT S i) 3 (dgT S i (dgS S (vs S) (dgR S (vr S) (fN (vA S 0) 6 (fN (figV S) 9 1481)))))))), (0, .ref (a o))] → W p l e ({ frames := 3, cells := 0, slots := 0, locals := 64 } : Room) s m ([.ref (a o)] : List Value).toArray below meth c H locs 0 0 (MQ below (cQ D A (fun v w' => v = some (.long (dig S)) ∧ w' = wXo cI a o  ++ (wVo cI a (o + 1) (vh S) (vc S) (vA S 0) (vA S 1) (vA S 2) ++ (wR cI a ((o + 1) + 4) (vr S) (vA S 3) (vA S 4) (vA S 5) (vA S 6) ++ (wS cI a ((o + 1) + 9) (vs S) (vA S 7) (vA S 8) (vA S 9) (vA S 10) (vA S 11) (vA S 12) qt qp ++ (wVo cI a (o + 19) (vh T) (vc T) (vA T 0) (vA T 1) (vA T 2) ++ (wR cI a ((o + 19) + 4) (vr T) (vA T 3) (vA T 4) (vA T 5) (vA T 6) ++ (wS cI a ((o + 19) + 9) (vs T) (vA T 7) (vA T 8) (vA T 9) (vA T 10) (vA T 11) (vA T 12) qt2 qp2)))))))) ([.ref (a o)] : List Value).toArray s 0 0 A) (F0 m 223 ls []) := by
                                        intro d223
                                        induction d223 using Nat.strongRecOn with
                                        | _ d223 ih223 =>
                                          intro j hd223 hj H locs ls HW hl
                                          refine lv_iload hx hb dX3_digest_223 (lv_at hl 0 rfl) ?_
                                          refine lv_iload hx hb dX3_digest_225 (lv_at hl 1 rfl) ?_
                                          refine lv_icmp_ge (tgt := 254) hx hb dX3_digest_227 (by decide) (fun c227 => ?_) (fun c227 => ?_)
                                          · have c227 := (nI_leI (a := (vq S i).length) (b := j) (by have := rep_len hR hn8 (show i < 3 by omega); omega) (by have := rep_len hR hn8 (show i < 3 by omega); omega)).mp c227
                                            obtain rfl : j = (vq S i).length := by omega
                                            refine lv_iinc (v := (nI (i + 1))) (lv' := [(3, .int (nI (i + 1))), (5, .int (nI ((vq S i).length))), (4, .int (nI (vq S i).length)), (1, .long (fN (fun z => oI ((vq S i)[z]?)) ((vq S i).length) (fN (figT S i) 3 (dgT S i (dgS S (vs S) (dgR S (vr S) (fN (vA S 0) 6 (fN (figV S) 9 1481)))))))), (0, .ref (a o))]) hx hb dX3_digest_254 hl (k := 2) rfl (inc1 _) (Nat.le_of_ble_eq_true rfl) rfl (fun ls hl => ?_)
                                            refine lv_goto (tgt := 172) hx hb dX3_digest_257 (by decide) ?_
                                            exact ih172 _ (by omega) (i + 1) rfl (by omega) _ _ _ HW (lv_sub hl [0, 3, 4] rfl)
                                          · have c227 : j < (vq S i).length := nI_lt_of (by have := rep_len hR hn8 (show i < 3 by omega); omega) (by have := rep_len hR hn8 (show i < 3 by omega); omega) c227
                                            have hlen := rep_len hR hn8 (show i < 3 by omega)
                                            refine lv_lload_n hx hb dX3_digest_230 rfl (lv_at hl 3 rfl) ?_
                                            refine lv_aload_n hx hb dX3_digest_231 rfl (lv_at hl 4 rfl) ?_
                                            refine g_get CX HW in_X3_digest_3 0 0 rfl rfl (Nat.le_of_ble_eq_true rfl) fl_X3_digest_10 rfl dX3_digest_232 ?_
                                            refine g_get CX HW in_X3_digest_2 1 6 rfl rfl (Nat.le_of_ble_eq_true rfl) fl_X3_digest_97 rfl dX3_digest_235 ?_
                                            refine lv_iload_n hx hb dX3_digest_238 rfl (lv_at hl 2 rfl) ?_
                                            refine lv_iload hx hb dX3_digest_239 (lv_at hl 0 rfl) ?_
                                            refine g_callV CX HW hl.1 (wXo cI a o  ++ (wVo cI a (o + 1) (vh S) (vc S) (vA S 0) (vA S 1) (vA S 2) ++ (wR cI a ((o + 1) + 4) (vr S) (vA S 3) (vA S 4) (vA S 5) (vA S 6)))) (wVo cI a (o + 19) (vh T) (vc T) (vA T 0) (vA T 1) (vA T 2) ++ (wR cI a ((o + 19) + 4) (vr T) (vA T 3) (vA T 4) (vA T 5) (vA T 6) ++ (wS cI a ((o + 19) + 9) (vs T) (vA T 7) (vA T 8) (vA T 9) (vA T 10) (vA T 11) (vA T 12) qt2 qp2))) (c_X1_at ((o + 1) + 9) (vs S) (vA S 7) (vA S 8) (vA S 9) (vA S 10) (vA S 11) (vA S 12) qt qp (nI i) (nI j) hn8) rfl 0 rfl rfl gX3_digest_X1_at rfl ⟨rfl, hd_X1_at⟩ ⟨rfl, rfl, (Nat.le_of_ble_eq_true rfl), (Nat.le_of_ble_eq_true rfl)⟩ ⟨(Nat.zero_le _), (Nat.zero_le _)⟩ rfl rfl (Nat.le_of_ble_eq_true rfl) dX3_digest_241 (fun v w1 H locs hp HW => ?_)
                                            obtain ⟨rfl, rfl⟩ := hp
                                            have HW : Hw D A s (wXo cI a o  ++ (wVo cI a (o + 1) (vh S) (vc S) (vA S 0) (vA S 1) (vA S 2) ++ (wR cI a ((o + 1) + 4) (vr S) (vA S 3) (vA S 4) (vA S 5) (vA S 6) ++ (wS cI a ((o + 1) + 9) (vs S) (vA S 7) (vA S 8) (vA S 9) (vA S 10) (vA S 11) (vA S 12) qt qp ++ (wVo cI a (o + 19) (vh T) (vc T) (vA T 0) (vA T 1) (vA T 2) ++ (wR cI a ((o + 19) + 4) (vr T) (vA T 3) (vA T 4) (vA T 5) (vA T 6) ++ (wS cI a ((o + 19) + 9) (vs T) (vA T 7) (vA T 8) (vA T 9) (vA T 10) (vA T 11) (vA T 12) qt2 qp2))))))) H locs := HW
                                            refine W.eq (g2 := F0 m 244 ls [.int (oI (fnd qt qp (nI i) (nI j) (vs S))), .long (fN (fun z => oI ((vq S i)[z]?)) j (fN (figT S i) 3 (dgT S i (dgS S (vs S) (dgR S (vr S) (fN (vA S 0) 6 (fN (figV S) 9 1481)))))))]) rfl ?_
                                            refine g_top (y := (oI ((vq S i)[j]?))) (by rw [rep_at hR hn8 (by omega) (by omega)]) ?_
                                            refine g_callS CX HW hl.1 ([]) (wXo cI a o  ++ (wVo cI a (o + 1) (vh S) (vc S) (vA S 0) (vA S 1) (vA S 2) ++ (wR cI a ((o + 1) + 4) (vr S) (vA S 3) (vA S 4) (vA S 5) (vA S 6) ++ (wS cI a ((o + 1) + 9) (vs S) (vA S 7) (vA S 8) (vA S 9) (vA S 10) (vA S 11) (vA S 12) qt qp ++ (wVo cI a (o + 19) (vh T) (vc T) (vA T 0) (vA T 1) (vA T 2) ++ (wR cI a ((o + 19) + 4) (vr T) (vA T 3) (vA T 4) (vA T 5) (vA T 6) ++ (wS cI a ((o + 19) + 9) (vs T) (vA T 7) (vA T 8) (vA T 9) (vA T 10) (vA T 11) (vA T 12) qt2 qp2))))))) (c_X3_mixed (fN (fun z => oI ((vq S i)[z]?)) j (fN (figT S i) 3 (dgT S i (dgS S (vs S) (dgR S (vr S) (fN (vA S 0) 6 (fN (figV S) 9 1481))))))) (oI ((vq S i)[j]?))) rfl gX3_digest_X3_mixed rfl hd_X3_mixed ⟨rfl, rfl, (Nat.le_of_ble_eq_true rfl), (Nat.le_of_ble_eq_true rfl)⟩ ⟨(Nat.zero_le _), (Nat.zero_le _)⟩ rfl rfl (Nat.le_of_ble_eq_true rfl) dX3_digest_244 (fun v w1 H locs hp HW => ?_)
                                            obtain ⟨rfl, rfl⟩ := hp
                                            have HW : Hw D A s (wXo cI a o  ++ (wVo cI a (o + 1) (vh S) (vc S) (vA S 0) (vA S 1) (vA S 2) ++ (wR cI a ((o + 1) + 4) (vr S) (vA S 3) (vA S 4) (vA S 5) (vA S 6) ++ (wS cI a ((o + 1) + 9) (vs S) (vA S 7) (vA S 8) (vA S 9) (vA S 10) (vA S 11) (vA S 12) qt qp ++ (wVo cI a (o + 19) (vh T) (vc T) (vA T 0) (vA T 1) (vA T 2) ++ (wR cI a ((o + 19) + 4) (vr T) (vA T 3) (vA T 4) (vA T 5) (vA T 6) ++ (wS cI a ((o + 19) + 9) (vs T) (vA T 7) (vA T 8) (vA T 9) (vA T 10) (vA T 11) (vA T 12) qt2 qp2))))))) H locs := HW
                                            refine W.eq (g2 := F0 m 247 ls [.long (mixI (fN (fun z => oI ((vq S i)[z]?)) j (fN (figT S i) 3 (dgT S i (dgS S (vs S) (dgR S (vr S) (fN (vA S 0) 6 (fN (figV S) 9 1481))))))) (oI ((vq S i)[j]?)))]) rfl ?_
                                            refine lv_lstore_n (lv' := [(1, .long (mixI (fN (fun z => oI ((vq S i)[z]?)) j (fN (figT S i) 3 (dgT S i (dgS S (vs S) (dgR S (vr S) (fN (vA S 0) 6 (fN (figV S) 9 1481))))))) (oI ((vq S i)[j]?)))), (5, .int (nI j)), (4, .int (nI (vq S i).length)), (3, .int (nI i)), (0, .ref (a o))]) hx hb dX3_digest_247 rfl hl (Nat.le_of_ble_eq_true rfl) rfl (fun ls hl => ?_)
                                            refine lv_iinc (v := (nI (j + 1))) (lv' := [(5, .int (nI (j + 1))), (1, .long (mixI (fN (fun z => oI ((vq S i)[z]?)) j (fN (figT S i) 3 (dgT S i (dgS S (vs S) (dgR S (vr S) (fN (vA S 0) 6 (fN (figV S) 9 1481))))))) (oI ((vq S i)[j]?)))), (4, .int (nI (vq S i).length)), (3, .int (nI i)), (0, .ref (a o))]) hx hb dX3_digest_248 hl (k := 1) rfl (inc1 _) (Nat.le_of_ble_eq_true rfl) rfl (fun ls hl => ?_)
                                            refine lv_goto (tgt := 223) hx hb dX3_digest_251 (by decide) ?_
                                            exact ih223 _ (by omega) (j + 1) rfl (by omega) _ _ _ HW (lv_sub hl [0, 2, 3, 1, 4] rfl)
                                      refine lv_iconst (v := 0) hx hb dX3_digest_220 (by decide) ?_
                                      refine lv_istore (lv' := [(5, .int (0 : Int32)), (4, .int (nI (vq S i).length)), (3, .int (nI i)), (1, .long (fN (figT S i) 3 (dgT S i (dgS S (vs S) (dgR S (vr S) (fN (vA S 0) 6 (fN (figV S) 9 1481))))))), (0, .ref (a o))]) hx hb dX3_digest_221 hl (Nat.le_of_ble_eq_true rfl) rfl (fun ls hl => ?_)
                                      exact lp223 _ 0 rfl (by omega) _ _ _ HW (lv_sub hl [0, 1, 2, 3, 4] rfl)
                                    · have c183 : j < 3 := nI_lt_of (a := 3) (b := j) (by decide) (by omega) c183
                                      refine lv_lload_n hx hb dX3_digest_186 rfl (lv_at hl 2 rfl) ?_
                                      refine lv_aload_n hx hb dX3_digest_187 rfl (lv_at hl 3 rfl) ?_
                                      refine g_get CX HW in_X3_digest_3 0 0 rfl rfl (Nat.le_of_ble_eq_true rfl) fl_X3_digest_10 rfl dX3_digest_188 ?_
                                      refine lv_iload_n hx hb dX3_digest_191 rfl (lv_at hl 1 rfl) ?_
                                      refine lv_iload hx hb dX3_digest_192 (lv_at hl 0 rfl) ?_
                                      refine g_callV CX HW hl.1 (wXo cI a o ) (wVo cI a (o + 19) (vh T) (vc T) (vA T 0) (vA T 1) (vA T 2) ++ (wR cI a ((o + 19) + 4) (vr T) (vA T 3) (vA T 4) (vA T 5) (vA T 6) ++ (wS cI a ((o + 19) + 9) (vs T) (vA T 7) (vA T 8) (vA T 9) (vA T 10) (vA T 11) (vA T 12) qt2 qp2))) (c_X2_towFigure (o + 1) S qt qp i j hR hn8 (by omega) (by omega)) rfl 0 rfl rfl gX3_digest_X2_towFigure rfl ⟨rfl, hd_X2_towFigure⟩ ⟨rfl, rfl, (Nat.le_of_ble_eq_true rfl), (Nat.le_of_ble_eq_true rfl)⟩ ⟨(Nat.zero_le _), (Nat.zero_le _)⟩ rfl rfl (Nat.le_of_ble_eq_true rfl) dX3_digest_194 (fun v w1 H locs hp HW => ?_)
                                      obtain ⟨rfl, rfl⟩ := hp
                                      have HW : Hw D A s (wXo cI a o  ++ (wVo cI a (o + 1) (vh S) (vc S) (vA S 0) (vA S 1) (vA S 2) ++ (wR cI a ((o + 1) + 4) (vr S) (vA S 3) (vA S 4) (vA S 5) (vA S 6) ++ (wS cI a ((o + 1) + 9) (vs S) (vA S 7) (vA S 8) (vA S 9) (vA S 10) (vA S 11) (vA S 12) qt qp ++ (wVo cI a (o + 19) (vh T) (vc T) (vA T 0) (vA T 1) (vA T 2) ++ (wR cI a ((o + 19) + 4) (vr T) (vA T 3) (vA T 4) (vA T 5) (vA T 6) ++ (wS cI a ((o + 19) + 9) (vs T) (vA T 7) (vA T 8) (vA T 9) (vA T 10) (vA T 11) (vA T 12) qt2 qp2))))))) H locs := HW
                                      refine W.eq (g2 := F0 m 197 ls [.int (figT S i j), .long (fN (figT S i) j (dgT S i (dgS S (vs S) (dgR S (vr S) (fN (vA S 0) 6 (fN (figV S) 9 1481))))))]) rfl ?_
                                      refine g_callS CX HW hl.1 ([]) (wXo cI a o  ++ (wVo cI a (o + 1) (vh S) (vc S) (vA S 0) (vA S 1) (vA S 2) ++ (wR cI a ((o + 1) + 4) (vr S) (vA S 3) (vA S 4) (vA S 5) (vA S 6) ++ (wS cI a ((o + 1) + 9) (vs S) (vA S 7) (vA S 8) (vA S 9) (vA S 10) (vA S 11) (vA S 12) qt qp ++ (wVo cI a (o + 19) (vh T) (vc T) (vA T 0) (vA T 1) (vA T 2) ++ (wR cI a ((o + 19) + 4) (vr T) (vA T 3) (vA T 4) (vA T 5) (vA T 6) ++ (wS cI a ((o + 19) + 9) (vs T) (vA T 7) (vA T 8) (vA T 9) (vA T 10) (vA T 11) (vA T 12) qt2 qp2))))))) (c_X3_mixed (fN (figT S i) j (dgT S i (dgS S (vs S) (dgR S (vr S) (fN (vA S 0) 6 (fN (figV S) 9 1481)))))) (figT S i j)) rfl gX3_digest_X3_mixed rfl hd_X3_mixed ⟨rfl, rfl, (Nat.le_of_ble_eq_true rfl), (Nat.le_of_ble_eq_true rfl)⟩ ⟨(Nat.zero_le _), (Nat.zero_le _)⟩ rfl rfl (Nat.le_of_ble_eq_true rfl) dX3_digest_197 (fun v w1 H locs hp HW => ?_)
                                      obtain ⟨rfl, rfl⟩ := hp
                                      have HW : Hw D A s (wXo cI a o  ++ (wVo cI a (o + 1) (vh S) (vc S) (vA S 0) (vA S 1) (vA S 2) ++ (wR cI a ((o + 1) + 4) (vr S) (vA S 3) (vA S 4) (vA S 5) (vA S 6) ++ (wS cI a ((o + 1) + 9) (vs S) (vA S 7) (vA S 8) (vA S 9) (vA S 10) (vA S 11) (vA S 12) qt qp ++ (wVo cI a (o + 19) (vh T) (vc T) (vA T 0) (vA T 1) (vA T 2) ++ (wR cI a ((o + 19) + 4) (vr T) (vA T 3) (vA T 4) (vA T 5) (vA T 6) ++ (wS cI a ((o + 19) + 9) (vs T) (vA T 7) (vA T 8) (vA T 9) (vA T 10) (vA T 11) (vA T 12) qt2 qp2))))))) H locs := HW
                                      refine W.eq (g2 := F0 m 200 ls [.long (mixI (fN (figT S i) j (dgT S i (dgS S (vs S) (dgR S (vr S) (fN (vA S 0) 6 (fN (figV S) 9 1481)))))) (figT S i j))]) rfl ?_
                                      refine lv_lstore_n (lv' := [(1, .long (mixI (fN (figT S i) j (dgT S i (dgS S (vs S) (dgR S (vr S) (fN (vA S 0) 6 (fN (figV S) 9 1481)))))) (figT S i j))), (4, .int (nI j)), (3, .int (nI i)), (0, .ref (a o))]) hx hb dX3_digest_200 rfl hl (Nat.le_of_ble_eq_true rfl) rfl (fun ls hl => ?_)
                                      refine lv_iinc (v := (nI (j + 1))) (lv' := [(4, .int (nI (j + 1))), (1, .long (mixI (fN (figT S i) j (dgT S i (dgS S (vs S) (dgR S (vr S) (fN (vA S 0) 6 (fN (figV S) 9 1481)))))) (figT S i j))), (3, .int (nI i)), (0, .ref (a o))]) hx hb dX3_digest_201 hl (k := 1) rfl (inc1 _) (Nat.le_of_ble_eq_true rfl) rfl (fun ls hl => ?_)
                                      refine lv_goto (tgt := 180) hx hb dX3_digest_204 (by decide) ?_
                                      exact ih180 _ (by omega) (j + 1) rfl (by omega) _ _ _ HW (lv_sub hl [0, 2, 1, 3] rfl)
                                refine lv_iconst (v := 0) hx hb dX3_digest_177 (by decide) ?_
                                refine lv_istore (lv' := [(4, .int (0 : Int32)), (3, .int (nI i)), (1, .long (dgT S i (dgS S (vs S) (dgR S (vr S) (fN (vA S 0) 6 (fN (figV S) 9 1481)))))), (0, .ref (a o))]) hx hb dX3_digest_178 hl (Nat.le_of_ble_eq_true rfl) rfl (fun ls hl => ?_)
                                exact lp180 _ 0 rfl (by omega) _ _ _ HW (lv_sub hl [0, 1, 2, 3] rfl)
                          refine lv_iconst (v := 0) hx hb dX3_digest_170 (by decide) ?_
                          refine lv_istore_n (lv' := [(3, .int (0 : Int32)), (1, .long (dgS S (vs S) (dgR S (vr S) (fN (vA S 0) 6 (fN (figV S) 9 1481))))), (0, .ref (a o))]) hx hb dX3_digest_171 rfl hl (Nat.le_of_ble_eq_true rfl) rfl (fun ls hl => ?_)
                          exact lp172 _ 0 rfl (by omega) _ _ _ HW (lv_sub hl [0, 1, 2] rfl)
                        · have c127 : i < vs S := nI_lt_of (a := vs S) (b := i) (by omega) (by omega) c127
                          have lp133 : ∀ (d133 : Nat) (j : Nat), 7 - j = d133 → (j ≤ 7) → ∀ (H : Heap) (locs : List Loc) (ls : Array Slot), Hw D A s (wXo cI a o  ++ (wVo cI a (o + 1) (vh S) (vc S) (vA S 0) (vA S 1) (vA S 2) ++ (wR cI a ((o + 1) + 4) (vr S) (vA S 3) (vA S 4) (vA S 5) (vA S 6) ++ (wS cI a ((o + 1) + 9) (vs S) (vA S 7) (vA S 8) (vA S 9) (vA S 10) (vA S 11) (vA S 12) qt qp ++ (wVo cI a (o + 19) (vh T) (vc T) (vA T 0) (vA T 1) (vA T 2) ++ (wR cI a ((o + 19) + 4) (vr T) (vA T 3) (vA T 4) (vA T 5) (vA T 6) ++ (wS cI a ((o + 19) + 9) (vs T) (vA T 7) (vA T 8) (vA T 9) (vA T 10) (vA T 11) (vA T 12) qt2 qp2))))))) H locs → lv_has ls 6 [(4, .int (nI j)), (3, .int (nI i)), (1, .long (fN (figK S i) j (dgS S i (dgR S (vr S) (fN (vA S 0) 6 (fN (figV S) 9 1481)))))), (0, .ref (a o))] → W p l e ({ frames := 3, cells := 0, slots := 0, locals := 64 } : Room) s m ([.ref (a o)] : List Value).toArray below meth c H locs 0 0 (MQ below (cQ D A (fun v w' => v = some (.long (dig S)) ∧ w' = wXo cI a o  ++ (wVo cI a (o + 1) (vh S) (vc S) (vA S 0) (vA S 1) (vA S 2) ++ (wR cI a ((o + 1) + 4) (vr S) (vA S 3) (vA S 4) (vA S 5) (vA S 6) ++ (wS cI a ((o + 1) + 9) (vs S) (vA S 7) (vA S 8) (vA S 9) (vA S 10) (vA S 11) (vA S 12) qt qp ++ (wVo cI a (o + 19) (vh T) (vc T) (vA T 0) (vA T 1) (vA T 2) ++ (wR cI a ((o + 19) + 4) (vr T) (vA T 3) (vA T 4) (vA T 5) (vA T 6) ++ (wS cI a ((o + 19) + 9) (vs T) (vA T 7) (vA T 8) (vA T 9) (vA T 10) (vA T 11) (vA T 12) qt2 qp2)))))))) ([.ref (a o)] : List Value).toArray s 0 0 A) (F0 m 133 ls []) := by
                            intro d133
                            induction d133 using Nat.strongRecOn with
                            | _ d133 ih133 =>
                              intro j hd133 hj H locs ls HW hl
                              refine lv_iload hx hb dX3_digest_133 (lv_at hl 0 rfl) ?_
                              refine lv_bipush (v := 7) hx hb dX3_digest_135 (by decide) ?_
                              refine lv_icmp_ge (tgt := 164) hx hb dX3_digest_137 (by decide) (fun c137 => ?_) (fun c137 => ?_)
                              · have c137 := (nI_leI (a := 7) (b := j) (by decide) (by omega)).mp c137
                                obtain rfl : j = 7 := by omega
                                refine lv_iinc (v := (nI (i + 1))) (lv' := [(3, .int (nI (i + 1))), (4, .int (nI 7)), (1, .long (fN (figK S i) 7 (dgS S i (dgR S (vr S) (fN (vA S 0) 6 (fN (figV S) 9 1481)))))), (0, .ref (a o))]) hx hb dX3_digest_164 hl (k := 1) rfl (inc1 _) (Nat.le_of_ble_eq_true rfl) rfl (fun ls hl => ?_)
                                refine lv_goto (tgt := 116) hx hb dX3_digest_167 (by decide) ?_
                                exact ih116 _ (by omega) (i + 1) rfl (by omega) _ _ _ HW (lv_sub hl [0, 2, 3] rfl)
                              · have c137 : j < 7 := nI_lt_of (a := 7) (b := j) (by decide) (by omega) c137
                                refine lv_lload_n hx hb dX3_digest_140 rfl (lv_at hl 2 rfl) ?_
                                refine lv_aload_n hx hb dX3_digest_141 rfl (lv_at hl 3 rfl) ?_
                                refine g_get CX HW in_X3_digest_3 0 0 rfl rfl (Nat.le_of_ble_eq_true rfl) fl_X3_digest_10 rfl dX3_digest_142 ?_
                                refine g_get CX HW in_X3_digest_2 1 6 rfl rfl (Nat.le_of_ble_eq_true rfl) fl_X3_digest_97 rfl dX3_digest_145 ?_
                                refine lv_iload_n hx hb dX3_digest_148 rfl (lv_at hl 1 rfl) ?_
                                refine lv_iload hx hb dX3_digest_149 (lv_at hl 0 rfl) ?_
                                refine g_callV CX HW hl.1 (wXo cI a o  ++ (wVo cI a (o + 1) (vh S) (vc S) (vA S 0) (vA S 1) (vA S 2) ++ (wR cI a ((o + 1) + 4) (vr S) (vA S 3) (vA S 4) (vA S 5) (vA S 6)))) (wVo cI a (o + 19) (vh T) (vc T) (vA T 0) (vA T 1) (vA T 2) ++ (wR cI a ((o + 19) + 4) (vr T) (vA T 3) (vA T 4) (vA T 5) (vA T 6) ++ (wS cI a ((o + 19) + 9) (vs T) (vA T 7) (vA T 8) (vA T 9) (vA T 10) (vA T 11) (vA T 12) qt2 qp2))) (c_X1_figure ((o + 1) + 9) (vs S) (vA S 7) (vA S 8) (vA S 9) (vA S 10) (vA S 11) (vA S 12) qt qp i j (by omega) (by omega)) rfl 0 rfl rfl gX3_digest_X1_figure rfl ⟨rfl, hd_X1_figure⟩ ⟨rfl, rfl, (Nat.le_of_ble_eq_true rfl), (Nat.le_of_ble_eq_true rfl)⟩ ⟨(Nat.zero_le _), (Nat.zero_le _)⟩ rfl rfl (Nat.le_of_ble_eq_true rfl) dX3_digest_151 (fun v w1 H locs hp HW => ?_)
                                obtain ⟨rfl, rfl⟩ := hp
                                have HW : Hw D A s (wXo cI a o  ++ (wVo cI a (o + 1) (vh S) (vc S) (vA S 0) (vA S 1) (vA S 2) ++ (wR cI a ((o + 1) + 4) (vr S) (vA S 3) (vA S 4) (vA S 5) (vA S 6) ++ (wS cI a ((o + 1) + 9) (vs S) (vA S 7) (vA S 8) (vA S 9) (vA S 10) (vA S 11) (vA S 12) qt qp ++ (wVo cI a (o + 19) (vh T) (vc T) (vA T 0) (vA T 1) (vA T 2) ++ (wR cI a ((o + 19) + 4) (vr T) (vA T 3) (vA T 4) (vA T 5) (vA T 6) ++ (wS cI a ((o + 19) + 9) (vs T) (vA T 7) (vA T 8) (vA T 9) (vA T 10) (vA T 11) (vA T 12) qt2 qp2))))))) H locs := HW
                                refine W.eq (g2 := F0 m 154 ls [.int (figS (vA S 7) (vA S 8) (vA S 9) (vA S 10) (vA S 11) (vA S 12) qt i j), .long (fN (figK S i) j (dgS S i (dgR S (vr S) (fN (vA S 0) 6 (fN (figV S) 9 1481)))))]) rfl ?_
                                refine g_top (y := (figK S i j)) (figS_qt (rep_towQ hR hn8 (by omega))) ?_
                                refine g_callS CX HW hl.1 ([]) (wXo cI a o  ++ (wVo cI a (o + 1) (vh S) (vc S) (vA S 0) (vA S 1) (vA S 2) ++ (wR cI a ((o + 1) + 4) (vr S) (vA S 3) (vA S 4) (vA S 5) (vA S 6) ++ (wS cI a ((o + 1) + 9) (vs S) (vA S 7) (vA S 8) (vA S 9) (vA S 10) (vA S 11) (vA S 12) qt qp ++ (wVo cI a (o + 19) (vh T) (vc T) (vA T 0) (vA T 1) (vA T 2) ++ (wR cI a ((o + 19) + 4) (vr T) (vA T 3) (vA T 4) (vA T 5) (vA T 6) ++ (wS cI a ((o + 19) + 9) (vs T) (vA T 7) (vA T 8) (vA T 9) (vA T 10) (vA T 11) (vA T 12) qt2 qp2))))))) (c_X3_mixed (fN (figK S i) j (dgS S i (dgR S (vr S) (fN (vA S 0) 6 (fN (figV S) 9 1481))))) (figK S i j)) rfl gX3_digest_X3_mixed rfl hd_X3_mixed ⟨rfl, rfl, (Nat.le_of_ble_eq_true rfl), (Nat.le_of_ble_eq_true rfl)⟩ ⟨(Nat.zero_le _), (Nat.zero_le _)⟩ rfl rfl (Nat.le_of_ble_eq_true rfl) dX3_digest_154 (fun v w1 H locs hp HW => ?_)
                                obtain ⟨rfl, rfl⟩ := hp
                                have HW : Hw D A s (wXo cI a o  ++ (wVo cI a (o + 1) (vh S) (vc S) (vA S 0) (vA S 1) (vA S 2) ++ (wR cI a ((o + 1) + 4) (vr S) (vA S 3) (vA S 4) (vA S 5) (vA S 6) ++ (wS cI a ((o + 1) + 9) (vs S) (vA S 7) (vA S 8) (vA S 9) (vA S 10) (vA S 11) (vA S 12) qt qp ++ (wVo cI a (o + 19) (vh T) (vc T) (vA T 0) (vA T 1) (vA T 2) ++ (wR cI a ((o + 19) + 4) (vr T) (vA T 3) (vA T 4) (vA T 5) (vA T 6) ++ (wS cI a ((o + 19) + 9) (vs T) (vA T 7) (vA T 8) (vA T 9) (vA T 10) (vA T 11) (vA T 12) qt2 qp2))))))) H locs := HW
                                refine W.eq (g2 := F0 m 157 ls [.long (mixI (fN (figK S i) j (dgS S i (dgR S (vr S) (fN (vA S 0) 6 (fN (figV S) 9 1481))))) (figK S i j))]) rfl ?_
                                refine lv_lstore_n (lv' := [(1, .long (mixI (fN (figK S i) j (dgS S i (dgR S (vr S) (fN (vA S 0) 6 (fN (figV S) 9 1481))))) (figK S i j))), (4, .int (nI j)), (3, .int (nI i)), (0, .ref (a o))]) hx hb dX3_digest_157 rfl hl (Nat.le_of_ble_eq_true rfl) rfl (fun ls hl => ?_)
                                refine lv_iinc (v := (nI (j + 1))) (lv' := [(4, .int (nI (j + 1))), (1, .long (mixI (fN (figK S i) j (dgS S i (dgR S (vr S) (fN (vA S 0) 6 (fN (figV S) 9 1481))))) (figK S i j))), (3, .int (nI i)), (0, .ref (a o))]) hx hb dX3_digest_158 hl (k := 1) rfl (inc1 _) (Nat.le_of_ble_eq_true rfl) rfl (fun ls hl => ?_)
                                refine lv_goto (tgt := 133) hx hb dX3_digest_161 (by decide) ?_
                                exact ih133 _ (by omega) (j + 1) rfl (by omega) _ _ _ HW (lv_sub hl [0, 2, 1, 3] rfl)
                          refine lv_iconst (v := 0) hx hb dX3_digest_130 (by decide) ?_
                          refine lv_istore (lv' := [(4, .int (0 : Int32)), (3, .int (nI i)), (1, .long (dgS S i (dgR S (vr S) (fN (vA S 0) 6 (fN (figV S) 9 1481))))), (0, .ref (a o))]) hx hb dX3_digest_131 hl (Nat.le_of_ble_eq_true rfl) rfl (fun ls hl => ?_)
                          exact lp133 _ 0 rfl (by omega) _ _ _ HW (lv_sub hl [0, 1, 2, 3] rfl)
                    refine lv_iconst (v := 0) hx hb dX3_digest_114 (by decide) ?_
                    refine lv_istore_n (lv' := [(3, .int (0 : Int32)), (1, .long (dgR S (vr S) (fN (vA S 0) 6 (fN (figV S) 9 1481)))), (0, .ref (a o))]) hx hb dX3_digest_115 rfl hl (Nat.le_of_ble_eq_true rfl) rfl (fun ls hl => ?_)
                    exact lp116 _ 0 rfl (by omega) _ _ _ HW (lv_sub hl [0, 1, 2] rfl)
                  · have c72 : i < vr S := nI_lt_of (a := vr S) (b := i) (by omega) (by omega) c72
                    have lp78 : ∀ (d78 : Nat) (j : Nat), 5 - j = d78 → (j ≤ 5) → ∀ (H : Heap) (locs : List Loc) (ls : Array Slot), Hw D A s (wXo cI a o  ++ (wVo cI a (o + 1) (vh S) (vc S) (vA S 0) (vA S 1) (vA S 2) ++ (wR cI a ((o + 1) + 4) (vr S) (vA S 3) (vA S 4) (vA S 5) (vA S 6) ++ (wS cI a ((o + 1) + 9) (vs S) (vA S 7) (vA S 8) (vA S 9) (vA S 10) (vA S 11) (vA S 12) qt qp ++ (wVo cI a (o + 19) (vh T) (vc T) (vA T 0) (vA T 1) (vA T 2) ++ (wR cI a ((o + 19) + 4) (vr T) (vA T 3) (vA T 4) (vA T 5) (vA T 6) ++ (wS cI a ((o + 19) + 9) (vs T) (vA T 7) (vA T 8) (vA T 9) (vA T 10) (vA T 11) (vA T 12) qt2 qp2))))))) H locs → lv_has ls 6 [(4, .int (nI j)), (3, .int (nI i)), (1, .long (fN (figR (vA S 3) (vA S 4) (vA S 5) (vA S 6) i) j (dgR S i (fN (vA S 0) 6 (fN (figV S) 9 1481))))), (0, .ref (a o))] → W p l e ({ frames := 3, cells := 0, slots := 0, locals := 64 } : Room) s m ([.ref (a o)] : List Value).toArray below meth c H locs 0 0 (MQ below (cQ D A (fun v w' => v = some (.long (dig S)) ∧ w' = wXo cI a o  ++ (wVo cI a (o + 1) (vh S) (vc S) (vA S 0) (vA S 1) (vA S 2) ++ (wR cI a ((o + 1) + 4) (vr S) (vA S 3) (vA S 4) (vA S 5) (vA S 6) ++ (wS cI a ((o + 1) + 9) (vs S) (vA S 7) (vA S 8) (vA S 9) (vA S 10) (vA S 11) (vA S 12) qt qp ++ (wVo cI a (o + 19) (vh T) (vc T) (vA T 0) (vA T 1) (vA T 2) ++ (wR cI a ((o + 19) + 4) (vr T) (vA T 3) (vA T 4) (vA T 5) (vA T 6) ++ (wS cI a ((o + 19) + 9) (vs T) (vA T 7) (vA T 8) (vA T 9) (vA T 10) (vA T 11) (vA T 12) qt2 qp2)))))))) ([.ref (a o)] : List Value).toArray s 0 0 A) (F0 m 78 ls []) := by
                      intro d78
                      induction d78 using Nat.strongRecOn with
                      | _ d78 ih78 =>
                        intro j hd78 hj H locs ls HW hl
                        refine lv_iload hx hb dX3_digest_78 (lv_at hl 0 rfl) ?_
                        refine lv_iconst (v := 5) hx hb dX3_digest_80 (by decide) ?_
                        refine lv_icmp_ge (tgt := 108) hx hb dX3_digest_81 (by decide) (fun c81 => ?_) (fun c81 => ?_)
                        · have c81 := (nI_leI (a := 5) (b := j) (by decide) (by omega)).mp c81
                          obtain rfl : j = 5 := by omega
                          refine lv_iinc (v := (nI (i + 1))) (lv' := [(3, .int (nI (i + 1))), (4, .int (nI 5)), (1, .long (fN (figR (vA S 3) (vA S 4) (vA S 5) (vA S 6) i) 5 (dgR S i (fN (vA S 0) 6 (fN (figV S) 9 1481))))), (0, .ref (a o))]) hx hb dX3_digest_108 hl (k := 1) rfl (inc1 _) (Nat.le_of_ble_eq_true rfl) rfl (fun ls hl => ?_)
                          refine lv_goto (tgt := 61) hx hb dX3_digest_111 (by decide) ?_
                          exact ih61 _ (by omega) (i + 1) rfl (by omega) _ _ _ HW (lv_sub hl [0, 2, 3] rfl)
                        · have c81 : j < 5 := nI_lt_of (a := 5) (b := j) (by decide) (by omega) c81
                          refine lv_lload_n hx hb dX3_digest_84 rfl (lv_at hl 2 rfl) ?_
                          refine lv_aload_n hx hb dX3_digest_85 rfl (lv_at hl 3 rfl) ?_
                          refine g_get CX HW in_X3_digest_3 0 0 rfl rfl (Nat.le_of_ble_eq_true rfl) fl_X3_digest_10 rfl dX3_digest_86 ?_
                          refine g_get CX HW in_X3_digest_2 1 5 rfl rfl (Nat.le_of_ble_eq_true rfl) fl_X3_digest_35 rfl dX3_digest_89 ?_
                          refine lv_iload_n hx hb dX3_digest_92 rfl (lv_at hl 1 rfl) ?_
                          refine lv_iload hx hb dX3_digest_93 (lv_at hl 0 rfl) ?_
                          refine g_callV CX HW hl.1 (wXo cI a o  ++ (wVo cI a (o + 1) (vh S) (vc S) (vA S 0) (vA S 1) (vA S 2))) (wS cI a ((o + 1) + 9) (vs S) (vA S 7) (vA S 8) (vA S 9) (vA S 10) (vA S 11) (vA S 12) qt qp ++ (wVo cI a (o + 19) (vh T) (vc T) (vA T 0) (vA T 1) (vA T 2) ++ (wR cI a ((o + 19) + 4) (vr T) (vA T 3) (vA T 4) (vA T 5) (vA T 6) ++ (wS cI a ((o + 19) + 9) (vs T) (vA T 7) (vA T 8) (vA T 9) (vA T 10) (vA T 11) (vA T 12) qt2 qp2)))) (c_X0_figure ((o + 1) + 4) (vr S) (vA S 3) (vA S 4) (vA S 5) (vA S 6) i j (by omega) (by omega)) rfl 0 rfl rfl gX3_digest_X0_figure rfl ⟨rfl, hd_X0_figure⟩ ⟨rfl, rfl, (Nat.le_of_ble_eq_true rfl), (Nat.le_of_ble_eq_true rfl)⟩ ⟨(Nat.zero_le _), (Nat.zero_le _)⟩ rfl rfl (Nat.le_of_ble_eq_true rfl) dX3_digest_95 (fun v w1 H locs hp HW => ?_)
                          obtain ⟨rfl, rfl⟩ := hp
                          have HW : Hw D A s (wXo cI a o  ++ (wVo cI a (o + 1) (vh S) (vc S) (vA S 0) (vA S 1) (vA S 2) ++ (wR cI a ((o + 1) + 4) (vr S) (vA S 3) (vA S 4) (vA S 5) (vA S 6) ++ (wS cI a ((o + 1) + 9) (vs S) (vA S 7) (vA S 8) (vA S 9) (vA S 10) (vA S 11) (vA S 12) qt qp ++ (wVo cI a (o + 19) (vh T) (vc T) (vA T 0) (vA T 1) (vA T 2) ++ (wR cI a ((o + 19) + 4) (vr T) (vA T 3) (vA T 4) (vA T 5) (vA T 6) ++ (wS cI a ((o + 19) + 9) (vs T) (vA T 7) (vA T 8) (vA T 9) (vA T 10) (vA T 11) (vA T 12) qt2 qp2))))))) H locs := HW
                          refine W.eq (g2 := F0 m 98 ls [.int (figR (vA S 3) (vA S 4) (vA S 5) (vA S 6) i j), .long (fN (figR (vA S 3) (vA S 4) (vA S 5) (vA S 6) i) j (dgR S i (fN (vA S 0) 6 (fN (figV S) 9 1481))))]) rfl ?_
                          refine g_callS CX HW hl.1 ([]) (wXo cI a o  ++ (wVo cI a (o + 1) (vh S) (vc S) (vA S 0) (vA S 1) (vA S 2) ++ (wR cI a ((o + 1) + 4) (vr S) (vA S 3) (vA S 4) (vA S 5) (vA S 6) ++ (wS cI a ((o + 1) + 9) (vs S) (vA S 7) (vA S 8) (vA S 9) (vA S 10) (vA S 11) (vA S 12) qt qp ++ (wVo cI a (o + 19) (vh T) (vc T) (vA T 0) (vA T 1) (vA T 2) ++ (wR cI a ((o + 19) + 4) (vr T) (vA T 3) (vA T 4) (vA T 5) (vA T 6) ++ (wS cI a ((o + 19) + 9) (vs T) (vA T 7) (vA T 8) (vA T 9) (vA T 10) (vA T 11) (vA T 12) qt2 qp2))))))) (c_X3_mixed (fN (figR (vA S 3) (vA S 4) (vA S 5) (vA S 6) i) j (dgR S i (fN (vA S 0) 6 (fN (figV S) 9 1481)))) (figR (vA S 3) (vA S 4) (vA S 5) (vA S 6) i j)) rfl gX3_digest_X3_mixed rfl hd_X3_mixed ⟨rfl, rfl, (Nat.le_of_ble_eq_true rfl), (Nat.le_of_ble_eq_true rfl)⟩ ⟨(Nat.zero_le _), (Nat.zero_le _)⟩ rfl rfl (Nat.le_of_ble_eq_true rfl) dX3_digest_98 (fun v w1 H locs hp HW => ?_)
                          obtain ⟨rfl, rfl⟩ := hp
                          have HW : Hw D A s (wXo cI a o  ++ (wVo cI a (o + 1) (vh S) (vc S) (vA S 0) (vA S 1) (vA S 2) ++ (wR cI a ((o + 1) + 4) (vr S) (vA S 3) (vA S 4) (vA S 5) (vA S 6) ++ (wS cI a ((o + 1) + 9) (vs S) (vA S 7) (vA S 8) (vA S 9) (vA S 10) (vA S 11) (vA S 12) qt qp ++ (wVo cI a (o + 19) (vh T) (vc T) (vA T 0) (vA T 1) (vA T 2) ++ (wR cI a ((o + 19) + 4) (vr T) (vA T 3) (vA T 4) (vA T 5) (vA T 6) ++ (wS cI a ((o + 19) + 9) (vs T) (vA T 7) (vA T 8) (vA T 9) (vA T 10) (vA T 11) (vA T 12) qt2 qp2))))))) H locs := HW
                          refine W.eq (g2 := F0 m 101 ls [.long (mixI (fN (figR (vA S 3) (vA S 4) (vA S 5) (vA S 6) i) j (dgR S i (fN (vA S 0) 6 (fN (figV S) 9 1481)))) (figR (vA S 3) (vA S 4) (vA S 5) (vA S 6) i j))]) rfl ?_
                          refine lv_lstore_n (lv' := [(1, .long (mixI (fN (figR (vA S 3) (vA S 4) (vA S 5) (vA S 6) i) j (dgR S i (fN (vA S 0) 6 (fN (figV S) 9 1481)))) (figR (vA S 3) (vA S 4) (vA S 5) (vA S 6) i j))), (4, .int (nI j)), (3, .int (nI i)), (0, .ref (a o))]) hx hb dX3_digest_101 rfl hl (Nat.le_of_ble_eq_true rfl) rfl (fun ls hl => ?_)
                          refine lv_iinc (v := (nI (j + 1))) (lv' := [(4, .int (nI (j + 1))), (1, .long (mixI (fN (figR (vA S 3) (vA S 4) (vA S 5) (vA S 6) i) j (dgR S i (fN (vA S 0) 6 (fN (figV S) 9 1481)))) (figR (vA S 3) (vA S 4) (vA S 5) (vA S 6) i j))), (3, .int (nI i)), (0, .ref (a o))]) hx hb dX3_digest_102 hl (k := 1) rfl (inc1 _) (Nat.le_of_ble_eq_true rfl) rfl (fun ls hl => ?_)
                          refine lv_goto (tgt := 78) hx hb dX3_digest_105 (by decide) ?_
                          exact ih78 _ (by omega) (j + 1) rfl (by omega) _ _ _ HW (lv_sub hl [0, 2, 1, 3] rfl)
                    refine lv_iconst (v := 0) hx hb dX3_digest_75 (by decide) ?_
                    refine lv_istore (lv' := [(4, .int (0 : Int32)), (3, .int (nI i)), (1, .long (dgR S i (fN (vA S 0) 6 (fN (figV S) 9 1481)))), (0, .ref (a o))]) hx hb dX3_digest_76 hl (Nat.le_of_ble_eq_true rfl) rfl (fun ls hl => ?_)
                    exact lp78 _ 0 rfl (by omega) _ _ _ HW (lv_sub hl [0, 1, 2, 3] rfl)
              refine lv_iconst (v := 0) hx hb dX3_digest_59 (by decide) ?_
              refine lv_istore_n (lv' := [(3, .int (0 : Int32)), (1, .long (fN (vA S 0) 6 (fN (figV S) 9 1481))), (0, .ref (a o))]) hx hb dX3_digest_60 rfl hl (Nat.le_of_ble_eq_true rfl) rfl (fun ls hl => ?_)
              exact lp61 _ 0 rfl (by omega) _ _ _ HW (lv_sub hl [0, 1, 2] rfl)
            · have c36 : i < 6 := nI_lt_of (a := 6) (b := i) (by decide) (by omega) c36
              refine lv_lload_n hx hb dX3_digest_39 rfl (lv_at hl 1 rfl) ?_
              refine lv_aload_n hx hb dX3_digest_40 rfl (lv_at hl 2 rfl) ?_
              refine g_get CX HW in_X3_digest_3 0 0 rfl rfl (Nat.le_of_ble_eq_true rfl) fl_X3_digest_10 rfl dX3_digest_41 ?_
              refine g_get CX HW in_X3_digest_2 1 2 rfl rfl (Nat.le_of_ble_eq_true rfl) fl_X3_digest_64 rfl dX3_digest_44 ?_
              refine lv_iload_n hx hb dX3_digest_47 rfl (lv_at hl 0 rfl) ?_
              refine g_ald CX HW 2 (k := i) rfl rfl rfl (by omega) (Nat.le_of_ble_eq_true rfl) dX3_digest_48 ?_
              refine g_callS CX HW hl.1 ([]) (wXo cI a o  ++ (wVo cI a (o + 1) (vh S) (vc S) (vA S 0) (vA S 1) (vA S 2) ++ (wR cI a ((o + 1) + 4) (vr S) (vA S 3) (vA S 4) (vA S 5) (vA S 6) ++ (wS cI a ((o + 1) + 9) (vs S) (vA S 7) (vA S 8) (vA S 9) (vA S 10) (vA S 11) (vA S 12) qt qp ++ (wVo cI a (o + 19) (vh T) (vc T) (vA T 0) (vA T 1) (vA T 2) ++ (wR cI a ((o + 19) + 4) (vr T) (vA T 3) (vA T 4) (vA T 5) (vA T 6) ++ (wS cI a ((o + 19) + 9) (vs T) (vA T 7) (vA T 8) (vA T 9) (vA T 10) (vA T 11) (vA T 12) qt2 qp2))))))) (c_X3_mixed (fN (vA S 0) i (fN (figV S) 9 1481)) (vA S 0 i)) rfl gX3_digest_X3_mixed rfl hd_X3_mixed ⟨rfl, rfl, (Nat.le_of_ble_eq_true rfl), (Nat.le_of_ble_eq_true rfl)⟩ ⟨(Nat.zero_le _), (Nat.zero_le _)⟩ rfl rfl (Nat.le_of_ble_eq_true rfl) dX3_digest_49 (fun v w1 H locs hp HW => ?_)
              obtain ⟨rfl, rfl⟩ := hp
              have HW : Hw D A s (wXo cI a o  ++ (wVo cI a (o + 1) (vh S) (vc S) (vA S 0) (vA S 1) (vA S 2) ++ (wR cI a ((o + 1) + 4) (vr S) (vA S 3) (vA S 4) (vA S 5) (vA S 6) ++ (wS cI a ((o + 1) + 9) (vs S) (vA S 7) (vA S 8) (vA S 9) (vA S 10) (vA S 11) (vA S 12) qt qp ++ (wVo cI a (o + 19) (vh T) (vc T) (vA T 0) (vA T 1) (vA T 2) ++ (wR cI a ((o + 19) + 4) (vr T) (vA T 3) (vA T 4) (vA T 5) (vA T 6) ++ (wS cI a ((o + 19) + 9) (vs T) (vA T 7) (vA T 8) (vA T 9) (vA T 10) (vA T 11) (vA T 12) qt2 qp2))))))) H locs := HW
              refine W.eq (g2 := F0 m 52 ls [.long (mixI (fN (vA S 0) i (fN (figV S) 9 1481)) (vA S 0 i))]) rfl ?_
              refine lv_lstore_n (lv' := [(1, .long (mixI (fN (vA S 0) i (fN (figV S) 9 1481)) (vA S 0 i))), (3, .int (nI i)), (0, .ref (a o))]) hx hb dX3_digest_52 rfl hl (Nat.le_of_ble_eq_true rfl) rfl (fun ls hl => ?_)
              refine lv_iinc (v := (nI (i + 1))) (lv' := [(3, .int (nI (i + 1))), (1, .long (mixI (fN (vA S 0) i (fN (figV S) 9 1481)) (vA S 0 i))), (0, .ref (a o))]) hx hb dX3_digest_53 hl (k := 1) rfl (inc1 _) (Nat.le_of_ble_eq_true rfl) rfl (fun ls hl => ?_)
              refine lv_goto (tgt := 33) hx hb dX3_digest_56 (by decide) ?_
              exact ih33 _ (by omega) (i + 1) rfl (by omega) _ _ _ HW (lv_sub hl [0, 1, 2] rfl)
        refine lv_iconst (v := 0) hx hb dX3_digest_31 (by decide) ?_
        refine lv_istore_n (lv' := [(3, .int (0 : Int32)), (1, .long (fN (figV S) 9 1481)), (0, .ref (a o))]) hx hb dX3_digest_32 rfl hl (Nat.le_of_ble_eq_true rfl) rfl (fun ls hl => ?_)
        exact lp33 _ 0 rfl (by omega) _ _ _ HW (lv_sub hl [0, 1, 2] rfl)
      · have c9 : i < 9 := nI_lt_of (a := 9) (b := i) (by decide) (by omega) c9
        refine lv_lload_n hx hb dX3_digest_12 rfl (lv_at hl 1 rfl) ?_
        refine lv_aload_n hx hb dX3_digest_13 rfl (lv_at hl 2 rfl) ?_
        refine g_get CX HW in_X3_digest_3 0 0 rfl rfl (Nat.le_of_ble_eq_true rfl) fl_X3_digest_10 rfl dX3_digest_14 ?_
        refine lv_iload_n hx hb dX3_digest_17 rfl (lv_at hl 0 rfl) ?_
        refine g_callV CX HW hl.1 (wXo cI a o ) (wVo cI a (o + 19) (vh T) (vc T) (vA T 0) (vA T 1) (vA T 2) ++ (wR cI a ((o + 19) + 4) (vr T) (vA T 3) (vA T 4) (vA T 5) (vA T 6) ++ (wS cI a ((o + 19) + 9) (vs T) (vA T 7) (vA T 8) (vA T 9) (vA T 10) (vA T 11) (vA T 12) qt2 qp2))) (c_X2_figure (o + 1) S qt qp i hR hn6 hn8 (by omega) (by omega)) rfl 0 rfl rfl gX3_digest_X2_figure rfl ⟨rfl, hd_X2_figure⟩ ⟨rfl, rfl, (Nat.le_of_ble_eq_true rfl), (Nat.le_of_ble_eq_true rfl)⟩ ⟨(Nat.zero_le _), (Nat.zero_le _)⟩ rfl rfl (Nat.le_of_ble_eq_true rfl) dX3_digest_18 (fun v w1 H locs hp HW => ?_)
        obtain ⟨rfl, rfl⟩ := hp
        have HW : Hw D A s (wXo cI a o  ++ (wVo cI a (o + 1) (vh S) (vc S) (vA S 0) (vA S 1) (vA S 2) ++ (wR cI a ((o + 1) + 4) (vr S) (vA S 3) (vA S 4) (vA S 5) (vA S 6) ++ (wS cI a ((o + 1) + 9) (vs S) (vA S 7) (vA S 8) (vA S 9) (vA S 10) (vA S 11) (vA S 12) qt qp ++ (wVo cI a (o + 19) (vh T) (vc T) (vA T 0) (vA T 1) (vA T 2) ++ (wR cI a ((o + 19) + 4) (vr T) (vA T 3) (vA T 4) (vA T 5) (vA T 6) ++ (wS cI a ((o + 19) + 9) (vs T) (vA T 7) (vA T 8) (vA T 9) (vA T 10) (vA T 11) (vA T 12) qt2 qp2))))))) H locs := HW
        refine W.eq (g2 := F0 m 21 ls [.int (figV S i), .long (fN (figV S) i 1481)]) rfl ?_
        refine g_callS CX HW hl.1 ([]) (wXo cI a o  ++ (wVo cI a (o + 1) (vh S) (vc S) (vA S 0) (vA S 1) (vA S 2) ++ (wR cI a ((o + 1) + 4) (vr S) (vA S 3) (vA S 4) (vA S 5) (vA S 6) ++ (wS cI a ((o + 1) + 9) (vs S) (vA S 7) (vA S 8) (vA S 9) (vA S 10) (vA S 11) (vA S 12) qt qp ++ (wVo cI a (o + 19) (vh T) (vc T) (vA T 0) (vA T 1) (vA T 2) ++ (wR cI a ((o + 19) + 4) (vr T) (vA T 3) (vA T 4) (vA T 5) (vA T 6) ++ (wS cI a ((o + 19) + 9) (vs T) (vA T 7) (vA T 8) (vA T 9) (vA T 10) (vA T 11) (vA T 12) qt2 qp2))))))) (c_X3_mixed (fN (figV S) i 1481) (figV S i)) rfl gX3_digest_X3_mixed rfl hd_X3_mixed ⟨rfl, rfl, (Nat.le_of_ble_eq_true rfl), (Nat.le_of_ble_eq_true rfl)⟩ ⟨(Nat.zero_le _), (Nat.zero_le _)⟩ rfl rfl (Nat.le_of_ble_eq_true rfl) dX3_digest_21 (fun v w1 H locs hp HW => ?_)
        obtain ⟨rfl, rfl⟩ := hp
        have HW : Hw D A s (wXo cI a o  ++ (wVo cI a (o + 1) (vh S) (vc S) (vA S 0) (vA S 1) (vA S 2) ++ (wR cI a ((o + 1) + 4) (vr S) (vA S 3) (vA S 4) (vA S 5) (vA S 6) ++ (wS cI a ((o + 1) + 9) (vs S) (vA S 7) (vA S 8) (vA S 9) (vA S 10) (vA S 11) (vA S 12) qt qp ++ (wVo cI a (o + 19) (vh T) (vc T) (vA T 0) (vA T 1) (vA T 2) ++ (wR cI a ((o + 19) + 4) (vr T) (vA T 3) (vA T 4) (vA T 5) (vA T 6) ++ (wS cI a ((o + 19) + 9) (vs T) (vA T 7) (vA T 8) (vA T 9) (vA T 10) (vA T 11) (vA T 12) qt2 qp2))))))) H locs := HW
        refine W.eq (g2 := F0 m 24 ls [.long (mixI (fN (figV S) i 1481) (figV S i))]) rfl ?_
        refine lv_lstore_n (lv' := [(1, .long (mixI (fN (figV S) i 1481) (figV S i))), (3, .int (nI i)), (0, .ref (a o))]) hx hb dX3_digest_24 rfl hl (Nat.le_of_ble_eq_true rfl) rfl (fun ls hl => ?_)
        refine lv_iinc (v := (nI (i + 1))) (lv' := [(3, .int (nI (i + 1))), (1, .long (mixI (fN (figV S) i 1481) (figV S i))), (0, .ref (a o))]) hx hb dX3_digest_25 hl (k := 1) rfl (inc1 _) (Nat.le_of_ble_eq_true rfl) rfl (fun ls hl => ?_)
        refine lv_goto (tgt := 6) hx hb dX3_digest_28 (by decide) ?_
        exact ih6 _ (by omega) (i + 1) rfl (by omega) _ _ _ HW (lv_sub hl [0, 1, 2] rfl)
  refine lv_iconst (v := 0) hx hb dX3_digest_4 (by decide) ?_
  refine lv_istore_n (lv' := [(3, .int (0 : Int32)), (1, .long (1481 : Int64)), (0, .ref (a o))]) hx hb dX3_digest_5 rfl hl (Nat.le_of_ble_eq_true rfl) rfl (fun ls hl => ?_)
  exact lp6 _ 0 rfl (by omega) _ _ _ HW (lv_sub hl [0, 1, 2] rfl)

theorem hd_X3_mean : yX3_mean.cls ≠ "java/lang/invoke/MethodHandle" ∧ yX3_mean.cls ≠ "java/lang/invoke/VarHandle" ∧ (parseMethodDescriptor yX3_mean.desc).map (fun d => d.parameters.length) = some 0 := by decide +kernel
theorem fl_X3_mean_10 : Cond.fieldLink RX3 10 (TX3 0).1 (TX3 0).2.1 (TX3 0).2.2.1 ∈ wsX3_mean := by decide +kernel
theorem in_X3_mean_3 : ∀ x ∈ u_ws RX3 TX3 2, x ∈ wsX3_mean := by decide +kernel
theorem fl_X3_mean_97 : Cond.fieldLink RX3 97 (TX2 6).1 (TX2 6).2.1 (TX2 6).2.2.1 ∈ wsX3_mean := by decide +kernel
theorem in_X3_mean_2 : ∀ x ∈ u_ws RX2 TX2 7, x ∈ wsX3_mean := by decide +kernel
theorem fl_X3_mean_175 : Cond.fieldLink RX3 175 (TX1 0).1 (TX1 0).2.1 (TX1 0).2.2.1 ∈ wsX3_mean := by decide +kernel
theorem in_X3_mean_1 : ∀ x ∈ u_ws RX1 TX1 9, x ∈ wsX3_mean := by decide +kernel
set_option maxRecDepth 100000 in
set_option maxHeartbeats 4000000 in
theorem c_X3_mean {l : Launch} {D : va_G} {cI cL : ClassId} {a : Nat → Nat} (o : Nat) (S : VS) (qt : Nat → Int32) (qp : Nat → Int32) (T : VS) (qt2 : Nat → Int32) (qp2 : Nat → Int32) (hn8 : vs S ≤ 8) (hp : 0 < vs S) (hne : vf_n64 (FP.ddiv (FP.i2d (sumN (vA S 11) (vs S))) (FP.i2d (nI (vs S))))) : Ct l yX3_mean wsX3_mean { frames := 1, cells := 0, slots := 0, locals := 22 } D (ty2 cI cL) [.ref (a o)] (wXo cI a o  ++ (wVo cI a (o + 1) (vh S) (vc S) (vA S 0) (vA S 1) (vA S 2) ++ (wR cI a ((o + 1) + 4) (vr S) (vA S 3) (vA S 4) (vA S 5) (vA S 6) ++ (wS cI a ((o + 1) + 9) (vs S) (vA S 7) (vA S 8) (vA S 9) (vA S 10) (vA S 11) (vA S 12) qt qp ++ (wVo cI a (o + 19) (vh T) (vc T) (vA T 0) (vA T 1) (vA T 2) ++ (wR cI a ((o + 19) + 4) (vr T) (vA T 3) (vA T 4) (vA T 5) (vA T 6) ++ (wS cI a ((o + 19) + 9) (vs T) (vA T 7) (vA T 8) (vA T 9) (vA T 10) (vA T 11) (vA T 12) qt2 qp2))))))) (fun v w' => v = some (.double (FP.ddiv (FP.i2d (sumN (vA S 11) (vs S))) (FP.i2d (nI (vs S))))) ∧ w' = wXo cI a o  ++ (wVo cI a (o + 1) (vh S) (vc S) (vA S 0) (vA S 1) (vA S 2) ++ (wR cI a ((o + 1) + 4) (vr S) (vA S 3) (vA S 4) (vA S 5) (vA S 6) ++ (wS cI a ((o + 1) + 9) (vs S) (vA S 7) (vA S 8) (vA S 9) (vA S 10) (vA S 11) (vA S 12) qt qp ++ (wVo cI a (o + 19) (vh T) (vc T) (vA T 0) (vA T 1) (vA T 2) ++ (wR cI a ((o + 19) + 4) (vr T) (vA T 3) (vA T 4) (vA T 5) (vA T 6) ++ (wS cI a ((o + 19) + 9) (vs T) (vA T 7) (vA T 8) (vA T 9) (vA T 10) (vA T 11) (vA T 12) qt2 qp2))))))) 0 0 := by
  refine Ct.of (cc := cX3_mean) (maxL := 1) (ret := (some .double)) (by decide) rfl (Nat.le_of_ble_eq_true rfl) ?_
  intro p e s m below meth c A ls CX hin HW hl
  obtain ⟨hx, hb, hml, hr, hown, hts, hK, hA, hlk⟩ := id CX
  have hl : lv_has ls 1 [(0, .ref (a o))] := hl
  refine lv_aload_n hx hb dX3_mean_0 rfl (lv_at hl 0 rfl) ?_
  refine g_get CX HW in_X3_mean_3 0 0 rfl rfl (Nat.le_of_ble_eq_true rfl) fl_X3_mean_10 rfl dX3_mean_1 ?_
  refine g_get CX HW in_X3_mean_2 1 6 rfl rfl (Nat.le_of_ble_eq_true rfl) fl_X3_mean_97 rfl dX3_mean_4 ?_
  refine g_get CX HW in_X3_mean_1 10 0 rfl rfl (Nat.le_of_ble_eq_true rfl) fl_X3_mean_175 rfl dX3_mean_7 ?_
  refine lv_if_gt (tgt := 15) hx hb dX3_mean_10 (by decide) (fun c10 => ?_) (fun c10 => ?_)
  · refine lv_aload_n hx hb dX3_mean_15 rfl (lv_at hl 0 rfl) ?_
    refine g_get CX HW in_X3_mean_3 0 0 rfl rfl (Nat.le_of_ble_eq_true rfl) fl_X3_mean_10 rfl dX3_mean_16 ?_
    refine g_get CX HW in_X3_mean_2 1 6 rfl rfl (Nat.le_of_ble_eq_true rfl) fl_X3_mean_97 rfl dX3_mean_19 ?_
    refine g_callV CX HW hl.1 (wXo cI a o  ++ (wVo cI a (o + 1) (vh S) (vc S) (vA S 0) (vA S 1) (vA S 2) ++ (wR cI a ((o + 1) + 4) (vr S) (vA S 3) (vA S 4) (vA S 5) (vA S 6)))) (wVo cI a (o + 19) (vh T) (vc T) (vA T 0) (vA T 1) (vA T 2) ++ (wR cI a ((o + 19) + 4) (vr T) (vA T 3) (vA T 4) (vA T 5) (vA T 6) ++ (wS cI a ((o + 19) + 9) (vs T) (vA T 7) (vA T 8) (vA T 9) (vA T 10) (vA T 11) (vA T 12) qt2 qp2))) (c_X1_allPoints ((o + 1) + 9) (vs S) (vA S 7) (vA S 8) (vA S 9) (vA S 10) (vA S 11) (vA S 12) qt qp hn8) rfl 0 rfl rfl gX3_mean_X1_allPoints rfl ⟨rfl, hd_X1_allPoints⟩ ⟨rfl, rfl, (Nat.le_of_ble_eq_true rfl), (Nat.le_of_ble_eq_true rfl)⟩ ⟨(Nat.zero_le _), (Nat.zero_le _)⟩ rfl rfl (Nat.le_of_ble_eq_true rfl) dX3_mean_22 (fun v w1 H locs hp HW => ?_)
    obtain ⟨rfl, rfl⟩ := hp
    have HW : Hw D A s (wXo cI a o  ++ (wVo cI a (o + 1) (vh S) (vc S) (vA S 0) (vA S 1) (vA S 2) ++ (wR cI a ((o + 1) + 4) (vr S) (vA S 3) (vA S 4) (vA S 5) (vA S 6) ++ (wS cI a ((o + 1) + 9) (vs S) (vA S 7) (vA S 8) (vA S 9) (vA S 10) (vA S 11) (vA S 12) qt qp ++ (wVo cI a (o + 19) (vh T) (vc T) (vA T 0) (vA T 1) (vA T 2) ++ (wR cI a ((o + 19) + 4) (vr T) (vA T 3) (vA T 4) (vA T 5) (vA T 6) ++ (wS cI a ((o + 19) + 9) (vs T) (vA T 7) (vA T 8) (vA T 9) (vA T 10) (vA T 11) (vA T 12) qt2 qp2))))))) H locs := HW
    refine W.eq (g2 := F0 m 25 ls [.int (sumN (vA S 11) (vs S))]) rfl ?_
    refine lv_i2d hx hb dX3_mean_25 ?_
    refine lv_aload_n hx hb dX3_mean_26 rfl (lv_at hl 0 rfl) ?_
    refine g_get CX HW in_X3_mean_3 0 0 rfl rfl (Nat.le_of_ble_eq_true rfl) fl_X3_mean_10 rfl dX3_mean_27 ?_
    refine g_get CX HW in_X3_mean_2 1 6 rfl rfl (Nat.le_of_ble_eq_true rfl) fl_X3_mean_97 rfl dX3_mean_30 ?_
    refine g_get CX HW in_X3_mean_1 10 0 rfl rfl (Nat.le_of_ble_eq_true rfl) fl_X3_mean_175 rfl dX3_mean_33 ?_
    refine lv_i2d hx hb dX3_mean_36 ?_
    refine lv_ddiv hx hb dX3_mean_37 hne ?_
    exact g_dret CX HW rfl ⟨rfl, rfl⟩ dX3_mean_38
  · exact absurd ((nI_ltI (a := 0) (b := vs S) (by decide) (by omega)).mpr hp) c10
