/-! the village's state: the hour, how many runs, skiers, coins, rows of numbers, queues.
rows: 0 flakes, 1 pommels, 2 pulled, 3 tows of runs, 4 slopes, 5 depths, 6 skied, 7 skills, 8 purses, 9 waxes, 10 layers, 11 points, 12 rides -/
abbrev VS : Type := Nat × Nat × Nat × Int32 × (Nat → Nat → Int32) × (Nat → List Nat)
def vh (S : VS) : Nat := S.1
def vr (S : VS) : Nat := S.2.1
def vs (S : VS) : Nat := S.2.2.1
def vc (S : VS) : Int32 := S.2.2.2.1
def vA (S : VS) : Nat → Nat → Int32 := S.2.2.2.2.1
def vq (S : VS) : Nat → List Nat := S.2.2.2.2.2
def mkV (h r k : Nat) (c : Int32) (A : Nat → Nat → Int32) (q : Nat → List Nat) : VS := (h, r, k, c, A, q)
def setR (A : Nat → Nat → Int32) (j : Nat) (f : Nat → Int32) : Nat → Nat → Int32 := fun i => bif Nat.beq i j then f else A i
def setQ (q : Nat → List Nat) (t : Nat) (x : List Nat) : Nat → List Nat := fun i => if i = t then x else q i
/-- who skis down at the tow t -/
def skiS (t k : Nat) (S : VS) : VS := match bestR (vA S 3) (vA S 4) (vA S 5) (nI t) (vA S 7 k + 1) (vr S) with
  | none => S
  | some r => mkV (vh S) (vr S) (vs S) (vc S) (setR (setR (setR (setR (vA S) 10 (glL (vA S 10) k)) 11 (upd (vA S 11) k (heldI (vA S 11 k + (3 * vA S 4 r + vA S 7 k + glR (vA S 9) (vA S 10) k (vA S 0 (vh S % 6)))) 0 999))) 5 (upd (vA S 5) r (heldI (vA S 5 r + -1) 0 90))) 6 (upd (vA S 6) r (vA S 6 r + 1))) (vq S)
theorem skiS_none {t k : Nat} {S : VS} (h : bestR (vA S 3) (vA S 4) (vA S 5) (nI t) (vA S 7 k + 1) (vr S) = none) : skiS t k S = S := by simp only [skiS, h]
theorem skiS_some {t k r : Nat} {S : VS} (h : bestR (vA S 3) (vA S 4) (vA S 5) (nI t) (vA S 7 k + 1) (vr S) = some r) : skiS t k S = mkV (vh S) (vr S) (vs S) (vc S) (setR (setR (setR (setR (vA S) 10 (glL (vA S 10) k)) 11 (upd (vA S 11) k (heldI (vA S 11 k + (3 * vA S 4 r + vA S 7 k + glR (vA S 9) (vA S 10) k (vA S 0 (vh S % 6)))) 0 999))) 5 (upd (vA S 5) r (heldI (vA S 5 r + -1) 0 90))) 6 (upd (vA S 6) r (vA S 6 r + 1))) (vq S) := by simp only [skiS, h]
/-- pays, has ridden once more: before the way down -/
def payS (t k : Nat) (S : VS) : VS := mkV (vh S) (vr S) (vs S) (vc S + 1) (setR (setR (setR (vA S) 8 (upd (vA S 8) k (vA S 8 k - 1))) 12 (upd (vA S 12) k (vA S 12 k + 1))) 2 (upd (vA S 2) t (vA S 2 t + 1))) (vq S)
def quS (S : VS) (t : Nat) (x : List Nat) : VS := mkV (vh S) (vr S) (vs S) (vc S) (vA S) (setQ (vq S) t x)
/-- the turn of a tow: so many are looked at still, so many pommels are free -/
def pullN (t : Nat) : Nat → Nat → VS → VS
  | 0, _, S => S
  | _ + 1, 0, S => S
  | n + 1, p + 1, S => match vq S t with
    | [] => S
    | k :: rest => if vA S 8 k < 1 then pullN t n (p + 1) (quS S t rest) else
        pullN t n p (quS (skiS t k (payS t k (quS S t rest))) t (rest ++ [k]))
def natI (x : Int32) : Nat := x.toNatClampNeg
def pullS (t : Nat) (S : VS) : VS := pullN t (vq S t).length (natI (vA S 1 t)) S
def snowS (S : VS) : VS := mkV (vh S) (vr S) (vs S) (vc S) (setR (vA S) 5 (dpAll (vA S 5) (snowI (natI (vA S 0 (vh S % 6)))) (vr S))) (vq S)
def incS (S : VS) : VS := mkV (vh S + 1) (vr S) (vs S) (vc S) (vA S) (vq S)
def hourS (S : VS) : VS := incS (pullS 2 (pullS 1 (pullS 0 (snowS S))))
def hoursS : Nat → VS → VS
  | 0, S => S
  | n + 1, S => hourS (hoursS n S)
def sumP (S : VS) : Int32 := 0 + vA S 2 0 + vA S 2 1 + vA S 2 2
/-- the queues as the skiers' rows have them -/
def Rep (ns : Nat) (q : Nat → List Nat) (qt qp : Nat → Int32) : Prop :=
  (∀ k : Nat, k < ns → qt k = -1 ∨ ∃ t p : Nat, t < 3 ∧ (q t)[p]? = some k) ∧ (∀ t p k : Nat, t < 3 → (q t)[p]? = some k → k < ns ∧ qt k = nI t ∧ qp k = nI p) ∧ (∀ t : Nat, t < 3 → cntE qt (nI t) ns = (q t).length)
/-- what always holds of the rows -/
def Inv (S : VS) : Prop :=
  vr S ≤ 6 ∧ vs S ≤ 8 ∧ (∀ h : Nat, h < 6 → ∃ f : Nat, f < 4 ∧ vA S 0 h = nI f) ∧ (∀ t : Nat, t < 3 → ∃ p : Nat, 1 ≤ p ∧ p ≤ 4 ∧ vA S 1 t = nI p) ∧
  (∀ r : Nat, r < vr S → (∃ t : Nat, t < 3 ∧ vA S 3 r = nI t) ∧ (∃ z : Nat, 1 ≤ z ∧ z ≤ 9 ∧ vA S 4 r = nI z) ∧ ∃ d : Nat, d ≤ 90 ∧ vA S 5 r = nI d) ∧
  (∀ k : Nat, k < vs S → (∃ z : Nat, 1 ≤ z ∧ z ≤ 9 ∧ vA S 7 k = nI z) ∧ (∃ z : Nat, z ≤ 60 ∧ vA S 8 k = nI z) ∧ ∃ z : Nat, z ≤ 10 ∧ vA S 10 k = nI z)
theorem natI_nI {n : Nat} (h : n < 2 ^ 31) : natI (nI n) = n := nI_clamp h
theorem nI_inj {a b : Nat} (ha : a < 2 ^ 31) (hb : b < 2 ^ 31) (h : nI a = nI b) : a = b := (nI_eq ha hb).mp h
theorem nI_nm1 {n : Nat} (h : n < 2 ^ 31) : ¬ nI n = -1 := by
  intro h2
  have h3 := nI_toInt h
  rw [h2] at h3
  have h4 : (-1 : Int32).toInt = -1 := by decide
  omega
theorem nI_nm1' {n : Nat} (h : n < 2 ^ 31) : ¬ -1 = nI n := fun h2 => nI_nm1 h h2.symm
theorem upd_self (f : Nat → Int32) (k : Nat) : upd f k (f k) = f := by
  funext j; simp only [upd]; split
  · rename_i h; rw [h]
  · rfl
theorem upd_upd (f : Nat → Int32) (k : Nat) (x y : Int32) : upd (upd f k x) k y = upd f k y := by
  funext j; simp only [upd]; split <;> rfl
theorem add_sub_self (x y : Int32) : x + y - x = y := by
  rw [Int32.add_comm, Int32.add_sub_cancel]
theorem cntE_le (f : Nat → Int32) (t : Int32) : ∀ n, cntE f t n ≤ n
  | 0 => Nat.le_refl _
  | n + 1 => by
    have := cntE_le f t n
    simp only [cntE]; split <;> omega
theorem cntE_out {f : Nat → Int32} {t v : Int32} {k : Nat} : ∀ {n : Nat}, n ≤ k → cntE (upd f k v) t n = cntE f t n := by
  intro n
  induction n with
  | zero => intro _; rfl
  | succ n ih =>
    intro h
    simp only [cntE, ih (by omega), pk_un (show n ≠ k by omega)]
theorem cntE_upd {f : Nat → Int32} {t v : Int32} {k : Nat} : ∀ {n : Nat}, k < n → cntE (upd f k v) t n + (if f k = t then 1 else 0) = cntE f t n + (if v = t then 1 else 0) := by
  intro n
  induction n with
  | zero => intro h; omega
  | succ n ih =>
    intro h
    by_cases hk : k = n
    · subst hk
      simp only [cntE, cntE_out (Nat.le_refl _), pk_us]
      split <;> split <;> omega
    · have h1 := ih (by omega)
      simp only [cntE, pk_un (show n ≠ k by omega)]
      by_cases h2 : f n = t
      · rw [if_pos h2, if_pos h2]; omega
      · rw [if_neg h2, if_neg h2]; exact h1
theorem fnd_is {qt qp : Nat → Int32} {T P : Int32} : ∀ {n j : Nat}, fnd qt qp T P n = some j → j < n ∧ qt j = T ∧ qp j = P := by
  intro n
  induction n with
  | zero => intro j h; simp [fnd] at h
  | succ n ih =>
    intro j h
    simp only [fnd] at h
    split at h
    · rename_i i hi
      cases h
      obtain ⟨a, b⟩ := ih hi
      exact ⟨by omega, b⟩
    · split at h
      · rename_i hc; cases h; exact ⟨by omega, hc⟩
      · cases h
theorem fnd_no {qt qp : Nat → Int32} {T P : Int32} : ∀ {n : Nat}, fnd qt qp T P n = none → ∀ j, j < n → ¬ (qt j = T ∧ qp j = P) := by
  intro n
  induction n with
  | zero => intro _ j h; omega
  | succ n ih =>
    intro h j hj
    simp only [fnd] at h
    split at h
    · cases h
    · rename_i hn
      split at h
      · cases h
      · rename_i hc
        by_cases h2 : j = n
        · subst h2; exact hc
        · exact ih hn j (by omega)
theorem rep_len {ns : Nat} {q : Nat → List Nat} {qt qp : Nat → Int32} (h : Rep ns q qt qp) (hn : ns ≤ 8) {t : Nat} (ht : t < 3) : (q t).length ≤ 8 := by
  rw [← h.2.2 t ht]
  exact Nat.le_trans (cntE_le _ _ _) hn
theorem rep_plt {ns : Nat} {q : Nat → List Nat} {qt qp : Nat → Int32} (h : Rep ns q qt qp) (hn : ns ≤ 8) {t p k : Nat} (ht : t < 3) (hp : (q t)[p]? = some k) : p < 8 := by
  have h1 := (List.getElem?_eq_some_iff.mp hp).1
  have h2 := rep_len h hn ht
  omega
theorem rep_uniq {ns : Nat} {q : Nat → List Nat} {qt qp : Nat → Int32} (h : Rep ns q qt qp) (hn : ns ≤ 8) {t p j : Nat} (ht : t < 3) (hp : p < 2 ^ 31) (hj : j < ns) (h1 : qt j = nI t) (h2 : qp j = nI p) : (q t)[p]? = some j := by
  rcases h.1 j hj with h3 | ⟨t1, p1, h3, h4⟩
  · rw [h1] at h3; exact absurd h3 (nI_nm1 (by omega))
  · obtain ⟨-, h5, h6⟩ := h.2.1 t1 p1 j h3 h4
    have e1 : t = t1 := nI_inj (by omega) (by omega) (h1.symm.trans h5)
    have e2 : p = p1 := nI_inj hp (by have := rep_plt h hn h3 h4; omega) (h2.symm.trans h6)
    rw [e1, e2]; exact h4
theorem rep_at {ns : Nat} {q : Nat → List Nat} {qt qp : Nat → Int32} (h : Rep ns q qt qp) (hn : ns ≤ 8) {t p : Nat} (ht : t < 3) (hp : p < 2 ^ 31) : fnd qt qp (nI t) (nI p) ns = (q t)[p]? := by
  cases hf : fnd qt qp (nI t) (nI p) ns with
  | some j =>
    obtain ⟨h1, h2, h3⟩ := fnd_is hf
    exact (rep_uniq h hn ht hp h1 h2 h3).symm
  | none =>
    cases hq : (q t)[p]? with
    | none => rfl
    | some k => exact absurd (h.2.1 t p k ht hq).2 (fnd_no hf k (h.2.1 t p k ht hq).1)
theorem rep_at0 {ns : Nat} {q : Nat → List Nat} {qt qp : Nat → Int32} (h : Rep ns q qt qp) (hn : ns ≤ 8) {t k : Nat} {rest : List Nat} (ht : t < 3) (hq : q t = k :: rest) : oI (fnd qt qp (nI t) 0 ns) = nI k := by
  have h1 := rep_at h hn (p := 0) ht (by decide)
  rw [nI_0] at h1
  rw [h1, hq]; rfl
theorem tkT_k (qt : Nat → Int32) (k : Nat) : tkT qt k k = -1 := by
  unfold tkT; split
  · assumption
  · exact pk_us
theorem rep_take {ns : Nat} {q : Nat → List Nat} {qt qp : Nat → Int32} (h : Rep ns q qt qp) (hn : ns ≤ 8) {t p k : Nat} (ht : t < 3) (hp : (q t)[p]? = some k) : Rep ns (setQ q t ((q t).eraseIdx p)) (tkT qt k) (tkQ ns qt qp k) := by
  obtain ⟨hk, hkt, hkp⟩ := h.2.1 t p k ht hp
  have hp8 := rep_plt h hn ht hp
  have hm : ¬ qt k = -1 := by rw [hkt]; exact nI_nm1 (by omega)
  have hpl := (List.getElem?_eq_some_iff.mp hp).1
  rw [tkT, if_neg hm, tkQ, if_neg hm]
  have other : ∀ j, j ≠ k → upd qt k (-1) j = qt j := fun j hj => pk_un hj
  refine ⟨fun j hj => ?_, fun t1 p1 j ht1 hj => ?_, fun t1 ht1 => ?_⟩
  · by_cases hjk : j = k
    · left; rw [hjk]; exact pk_us
    · rw [other j hjk]
      rcases h.1 j hj with h1 | ⟨t1, p1, h1, h2⟩
      · exact Or.inl h1
      · right
        by_cases htt : t1 = t
        · subst htt
          by_cases hpp : p1 < p
          · exact ⟨t1, p1, h1, by simp only [setQ, if_true]; rw [List.getElem?_eraseIdx_of_lt hpp]; exact h2⟩
          · have hne : p1 ≠ p := by intro e; rw [e, hp] at h2; exact hjk (Option.some.inj h2).symm
            exact ⟨t1, p1 - 1, h1, by simp only [setQ, if_true]; rw [List.getElem?_eraseIdx_of_ge (by omega), show p1 - 1 + 1 = p1 by omega]; exact h2⟩
        · exact ⟨t1, p1, h1, by simp only [setQ, if_neg htt]; exact h2⟩
  · by_cases htt : t1 = t
    · subst htt
      simp only [setQ, if_true] at hj
      by_cases hpp : p1 < p
      · rw [List.getElem?_eraseIdx_of_lt hpp] at hj
        obtain ⟨h1, h2, h3⟩ := h.2.1 t1 p1 j ht1 hj
        have hjk : j ≠ k := by intro e; rw [e, hkp] at h3; exact absurd (nI_inj (by omega) (by omega) h3) (by omega)
        refine ⟨h1, by rw [other j hjk]; exact h2, ?_⟩
        simp only [tkP]
        rw [if_neg]
        · exact h3
        · rintro ⟨-, -, h4⟩
          rw [hkp, h3] at h4
          exact absurd ((nI_ltI (by omega) (by omega)).mp h4) (by omega)
      · rw [List.getElem?_eraseIdx_of_ge (by omega)] at hj
        obtain ⟨h1, h2, h3⟩ := h.2.1 t1 (p1 + 1) j ht1 hj
        have hp1 := rep_plt h hn ht1 hj
        have hjk : j ≠ k := by intro e; rw [e, hkp] at h3; exact absurd (nI_inj (by omega) (by omega) h3) (by omega)
        refine ⟨h1, by rw [other j hjk]; exact h2, ?_⟩
        simp only [tkP]
        rw [if_pos]
        · rw [h3, nI_pred]
        · refine ⟨h1, by rw [other j hjk, h2, hkt], ?_⟩
          rw [hkp, h3]
          exact (nI_ltI (by omega) (by omega)).mpr (by omega)
    · simp only [setQ, if_neg htt] at hj
      obtain ⟨h1, h2, h3⟩ := h.2.1 t1 p1 j ht1 hj
      have hjk : j ≠ k := by intro e; rw [e, hkt] at h2; exact htt (nI_inj (by omega) (by omega) h2).symm
      refine ⟨h1, by rw [other j hjk]; exact h2, ?_⟩
      simp only [tkP]
      rw [if_neg]
      · exact h3
      · rintro ⟨-, h4, -⟩
        rw [other j hjk, h2, hkt] at h4
        exact htt (nI_inj (by omega) (by omega) h4)
  · have h1 := cntE_upd (f := qt) (t := nI t1) (v := -1) hk
    have h2 := h.2.2 t1 ht1
    rw [if_neg (nI_nm1' (show t1 < 2 ^ 31 by omega))] at h1
    by_cases htt : t1 = t
    · subst htt
      rw [if_pos hkt] at h1
      simp only [setQ, if_true]
      rw [List.length_eraseIdx_of_lt hpl]
      omega
    · rw [if_neg (by rw [hkt]; intro e; exact htt (nI_inj (by omega) (by omega) e).symm)] at h1
      simp only [setQ, if_neg htt]
      omega
theorem rep_take0 {ns : Nat} {q : Nat → List Nat} {qt qp : Nat → Int32} (h : Rep ns q qt qp) (hn : ns ≤ 8) {t k : Nat} {rest : List Nat} (ht : t < 3) (hq : q t = k :: rest) : Rep ns (setQ q t rest) (tkT qt k) (tkQ ns qt qp k) := by
  have h1 := rep_take h hn (p := 0) (k := k) ht (by rw [hq]; rfl)
  rw [hq] at h1
  exact h1
theorem rep_put {ns : Nat} {q : Nat → List Nat} {qt qp : Nat → Int32} (h : Rep ns q qt qp) (hn : ns ≤ 8) {t k : Nat} (ht : t < 3) (hk : k < ns) (hm : qt k = -1) : Rep ns (setQ q t (q t ++ [k])) (upd qt k (nI t)) (upd qp k (nI (cntE qt (nI t) ns))) := by
  have hcnt := h.2.2 t ht
  refine ⟨fun j hj => ?_, fun t1 p1 j ht1 hj => ?_, fun t1 ht1 => ?_⟩
  · by_cases hjk : j = k
    · right
      exact ⟨t, (q t).length, ht, by simp [setQ, hjk]⟩
    · rw [pk_un hjk]
      rcases h.1 j hj with h1 | ⟨t1, p1, h1, h2⟩
      · exact Or.inl h1
      · right
        by_cases htt : t1 = t
        · subst htt
          exact ⟨t1, p1, h1, by simp only [setQ, if_true]; rw [List.getElem?_append_left (List.getElem?_eq_some_iff.mp h2).1]; exact h2⟩
        · exact ⟨t1, p1, h1, by simp only [setQ, if_neg htt]; exact h2⟩
  · by_cases htt : t1 = t
    · subst htt
      simp only [setQ, if_true] at hj
      by_cases hpl : p1 < (q t1).length
      · rw [List.getElem?_append_left hpl] at hj
        obtain ⟨h1, h2, h3⟩ := h.2.1 t1 p1 j ht1 hj
        have hjk : j ≠ k := by intro e; rw [e, hm] at h2; exact nI_nm1' (by omega) h2
        exact ⟨h1, by rw [pk_un hjk]; exact h2, by rw [pk_un hjk]; exact h3⟩
      · rw [List.getElem?_append_right (by omega)] at hj
        have hz := (List.getElem?_eq_some_iff.mp hj).1
        simp only [List.length_cons, List.length_nil] at hz
        have hp1 : p1 = (q t1).length := by omega
        rw [hp1, Nat.sub_self] at hj
        cases hj
        exact ⟨hk, pk_us, by rw [pk_us, hcnt, hp1]⟩
    · simp only [setQ, if_neg htt] at hj
      obtain ⟨h1, h2, h3⟩ := h.2.1 t1 p1 j ht1 hj
      have hjk : j ≠ k := by intro e; rw [e, hm] at h2; exact nI_nm1' (by omega) h2
      exact ⟨h1, by rw [pk_un hjk]; exact h2, by rw [pk_un hjk]; exact h3⟩
  · have h1 := cntE_upd (f := qt) (t := nI t1) (v := nI t) hk
    have h2 := h.2.2 t1 ht1
    rw [hm, if_neg (nI_nm1' (show t1 < 2 ^ 31 by omega))] at h1
    by_cases htt : t1 = t
    · subst htt
      rw [if_pos rfl] at h1
      simp only [setQ, if_true, List.length_append, List.length_cons, List.length_nil]
      omega
    · rw [if_neg (by intro e; exact htt (nI_inj (by omega) (by omega) e).symm)] at h1
      simp only [setQ, if_neg htt]
      omega
theorem rep_put3 {ns : Nat} {q : Nat → List Nat} {qt qp : Nat → Int32} {t k : Nat} {rest : List Nat} (h : Rep ns (setQ q t rest) (tkT qt k) qp) (hn : ns ≤ 8) (ht : t < 3) (hk : k < ns) : Rep ns (setQ (setQ q t rest) t (rest ++ [k])) (upd (tkT qt k) k (nI t)) (upd qp k (nI (cntE (tkT qt k) (nI t) ns))) := by
  have h1 := rep_put h hn ht hk (tkT_k qt k)
  have h2 : setQ q t rest t = rest := by simp [setQ]
  rw [h2] at h1
  exact h1
theorem pullN_p0 (t n : Nat) (T : VS) : pullN t n 0 T = T := by cases n <;> rfl
theorem pullN_no {t n p k : Nat} {rest : List Nat} {T : VS} (hq : vq T t = k :: rest) (hc : vA T 8 k < 1) : pullN t (n + 1) (p + 1) T = pullN t n (p + 1) (quS T t rest) := by
  simp only [pullN, hq, if_pos hc]
theorem pullN_yes {t n p k : Nat} {rest : List Nat} {T : VS} (hq : vq T t = k :: rest) (hc : ¬ vA T 8 k < 1) : pullN t (n + 1) (p + 1) T = pullN t n p (quS (skiS t k (payS t k (quS T t rest))) t (rest ++ [k])) := by
  simp only [pullN, hq, if_neg hc]
theorem quS_len (T : VS) (t : Nat) (x : List Nat) : (vq (quS T t x) t).length = x.length := by
  show (setQ (vq T) t x t).length = _
  simp [setQ]
theorem vh_skiS (t k : Nat) (S : VS) : vh (skiS t k S) = vh S := by unfold skiS; split <;> rfl
theorem vr_skiS (t k : Nat) (S : VS) : vr (skiS t k S) = vr S := by unfold skiS; split <;> rfl
theorem vs_skiS (t k : Nat) (S : VS) : vs (skiS t k S) = vs S := by unfold skiS; split <;> rfl
theorem vc_skiS (t k : Nat) (S : VS) : vc (skiS t k S) = vc S := by unfold skiS; split <;> rfl
theorem vq_skiS (t k : Nat) (S : VS) : vq (skiS t k S) = vq S := by unfold skiS; split <;> rfl
theorem vA_skiS {t k i : Nat} {S : VS} (h : (Nat.beq i 5 || (Nat.beq i 6 || (Nat.beq i 10 || Nat.beq i 11))) = false) : vA (skiS t k S) i = vA S i := by
  simp only [Bool.or_eq_false_iff] at h
  obtain ⟨h1, h2, h3, h4⟩ := h
  unfold skiS; split
  · rfl
  · show setR (setR (setR (setR (vA S) 10 _) 11 _) 5 _) 6 _ i = _
    simp only [setR, h1, h2, h3, h4, cond_false]
theorem heldI_90 (x : Int32) : ∃ d : Nat, d ≤ 90 ∧ heldI x 0 90 = nI d := by
  unfold heldI
  by_cases h1 : x < 90
  · rw [if_pos h1]
    by_cases h2 : 0 < x
    · rw [if_pos h2]
      exact nI_of2 (M := 90) (n := 90) (by decide) (Int32.not_lt.mpr (Int32.le_of_lt h2)) (Int32.le_of_lt h1)
    · rw [if_neg h2]; exact ⟨0, by omega, rfl⟩
  · rw [if_neg h1, if_pos (by decide)]; exact ⟨90, by omega, rfl⟩
theorem Inv_quS {S : VS} {t : Nat} {x : List Nat} (h : Inv S) : Inv (quS S t x) := h
theorem Inv_payS {S : VS} {t k : Nat} (hk : k < vs S) (hc : ¬ vA S 8 k < 1) (h : Inv S) : Inv (payS t k S) := by
  obtain ⟨h1, h2, h3, h4, h5, h6⟩ := h
  refine ⟨h1, h2, h3, h4, h5, fun j hj => ⟨(h6 j hj).1, ?_, (h6 j hj).2.2⟩⟩
  show ∃ z, z ≤ 60 ∧ upd (vA S 8) k (vA S 8 k - 1) j = nI z
  by_cases hjk : j = k
  · subst hjk
    obtain ⟨z, h7, h8⟩ := (h6 j hj).2.1
    rw [h8] at hc
    have h9 : 1 ≤ z := Nat.lt_of_not_le fun h => hc ((nI_ltI (a := z) (b := 1) (by omega) (by decide)).mpr (by omega))
    exact ⟨z - 1, by omega, by rw [pk_us, h8]; exact pk_sub h9⟩
  · rw [pk_un hjk]; exact (h6 j hj).2.1
theorem Inv_skiS {S : VS} {t k : Nat} (hk : k < vs S) (h : Inv S) : Inv (skiS t k S) := by
  cases hb : bestR (vA S 3) (vA S 4) (vA S 5) (nI t) (vA S 7 k + 1) (vr S) with
  | none => rw [skiS_none hb]; exact h
  | some r =>
    obtain ⟨h1, h2, h3, h4, h5, h6⟩ := h
    rw [skiS_some hb]
    refine ⟨h1, h2, h3, h4, fun j hj => ⟨(h5 j hj).1, (h5 j hj).2.1, ?_⟩, fun j hj => ⟨(h6 j hj).1, (h6 j hj).2.1, ?_⟩⟩
    · show ∃ d, d ≤ 90 ∧ upd (vA S 5) r (heldI (vA S 5 r + -1) 0 90) j = nI d
      by_cases hjr : j = r
      · subst hjr; rw [pk_us]; exact heldI_90 _
      · rw [pk_un hjr]; exact (h5 j hj).2.2
    · show ∃ z, z ≤ 10 ∧ glL (vA S 10) k j = nI z
      unfold glL
      by_cases hl : 0 < vA S 10 k
      · rw [if_pos hl]
        by_cases hjk : j = k
        · subst hjk
          obtain ⟨z, h7, h8⟩ := (h6 j hj).2.2
          rw [h8] at hl
          have h9 : 1 ≤ z := (nI_ltI (a := 0) (b := z) (by decide) (by omega)).mp hl
          exact ⟨z - 1, by omega, by rw [pk_us, h8]; exact pk_sub h9⟩
        · rw [pk_un hjk]; exact (h6 j hj).2.2
      · rw [if_neg hl]; exact (h6 j hj).2.2
theorem pu_step {T : VS} {f : Nat → Int32} {t r : Nat} (h : vA T 2 = upd f t (f t + nI r)) : upd (vA T 2) t (vA T 2 t + 1) = upd f t (f t + nI (r + 1)) := by
  rw [h, upd_upd, pk_us, Int32.add_assoc, nI_1]
theorem hd_X2_flakeOfHour : yX2_flakeOfHour.cls ≠ "java/lang/invoke/MethodHandle" ∧ yX2_flakeOfHour.cls ≠ "java/lang/invoke/VarHandle" ∧ (parseMethodDescriptor yX2_flakeOfHour.desc).map (fun d => d.parameters.length) = some 0 := by decide +kernel
theorem fl_X2_flakeOfHour_18 : Cond.fieldLink RX2 18 (TX2 2).1 (TX2 2).2.1 (TX2 2).2.2.1 ∈ wsX2_flakeOfHour := by decide +kernel
theorem in_X2_flakeOfHour_2 : ∀ x ∈ u_ws RX2 TX2 7, x ∈ wsX2_flakeOfHour := by decide +kernel
theorem fl_X2_flakeOfHour_9 : Cond.fieldLink RX2 9 (TX2 0).1 (TX2 0).2.1 (TX2 0).2.2.1 ∈ wsX2_flakeOfHour := by decide +kernel
set_option maxRecDepth 100000 in
set_option maxHeartbeats 4000000 in
theorem c_X2_flakeOfHour {l : Launch} {D : va_G} {cI cL : ClassId} {a : Nat → Nat} (o : Nat) (S : VS) (qt : Nat → Int32) (qp : Nat → Int32) (pu : Nat → Int32) (hh : vh S < 2 ^ 31) : Ct l yX2_flakeOfHour wsX2_flakeOfHour { frames := 1, cells := 0, slots := 0, locals := 22 } D (ty2 cI cL) [.ref (a o)] (wVo cI a o (vh S) (vc S) (vA S 0) (vA S 1) pu ++ (wR cI a (o + 4) (vr S) (vA S 3) (vA S 4) (vA S 5) (vA S 6) ++ (wS cI a (o + 9) (vs S) (vA S 7) (vA S 8) (vA S 9) (vA S 10) (vA S 11) (vA S 12) qt qp))) (fun v w' => v = some (.int (vA S 0 (vh S % 6))) ∧ w' = wVo cI a o (vh S) (vc S) (vA S 0) (vA S 1) pu ++ (wR cI a (o + 4) (vr S) (vA S 3) (vA S 4) (vA S 5) (vA S 6) ++ (wS cI a (o + 9) (vs S) (vA S 7) (vA S 8) (vA S 9) (vA S 10) (vA S 11) (vA S 12) qt qp))) 0 0 := by
  refine Ct.of (cc := cX2_flakeOfHour) (maxL := 1) (ret := (some .int)) (by decide) rfl (Nat.le_of_ble_eq_true rfl) ?_
  intro p e s m below meth c A ls CX hin HW hl
  obtain ⟨hx, hb, hml, hr, hown, hts, hK, hA, hlk⟩ := id CX
  have hl : lv_has ls 1 [(0, .ref (a o))] := hl
  refine lv_aload_n hx hb dX2_flakeOfHour_0 rfl (lv_at hl 0 rfl) ?_
  refine g_get CX HW in_X2_flakeOfHour_2 0 2 rfl rfl (Nat.le_of_ble_eq_true rfl) fl_X2_flakeOfHour_18 rfl dX2_flakeOfHour_1 ?_
  refine lv_aload_n hx hb dX2_flakeOfHour_4 rfl (lv_at hl 0 rfl) ?_
  refine g_get CX HW in_X2_flakeOfHour_2 0 0 rfl rfl (Nat.le_of_ble_eq_true rfl) fl_X2_flakeOfHour_9 rfl dX2_flakeOfHour_5 ?_
  refine lv_bipush (v := 6) hx hb dX2_flakeOfHour_8 (by decide) ?_
  refine g_callS CX HW hl.1 ([]) (wVo cI a o (vh S) (vc S) (vA S 0) (vA S 1) pu ++ (wR cI a (o + 4) (vr S) (vA S 3) (vA S 4) (vA S 5) (vA S 6) ++ (wS cI a (o + 9) (vs S) (vA S 7) (vA S 8) (vA S 9) (vA S 10) (vA S 11) (vA S 12) qt qp))) (c_J9_floorMod_7cf53 (vh S) 6 hh (by decide) (by decide)) rfl gX2_flakeOfHour_J9_floorMod_7cf53 rfl hd_J9_floorMod_7cf53 ⟨rfl, rfl, (Nat.le_of_ble_eq_true rfl), (Nat.le_of_ble_eq_true rfl)⟩ ⟨(Nat.zero_le _), (Nat.zero_le _)⟩ rfl rfl (Nat.le_of_ble_eq_true rfl) dX2_flakeOfHour_10 (fun v w1 H locs hp HW => ?_)
  obtain ⟨rfl, rfl⟩ := hp
  have HW : Hw D A s (wVo cI a o (vh S) (vc S) (vA S 0) (vA S 1) pu ++ (wR cI a (o + 4) (vr S) (vA S 3) (vA S 4) (vA S 5) (vA S 6) ++ (wS cI a (o + 9) (vs S) (vA S 7) (vA S 8) (vA S 9) (vA S 10) (vA S 11) (vA S 12) qt qp))) H locs := HW
  refine W.eq (g2 := F0 m 13 ls [.int (nI ((vh S) % 6)), .ref (a (o + 1))]) rfl ?_
  refine g_ald CX HW 1 (k := vh S % 6) rfl rfl rfl (by omega) (Nat.le_of_ble_eq_true rfl) dX2_flakeOfHour_13 ?_
  exact g_iret CX HW rfl ⟨rfl, rfl⟩ dX2_flakeOfHour_14

theorem hd_X2_chosenRun : yX2_chosenRun.cls ≠ "java/lang/invoke/MethodHandle" ∧ yX2_chosenRun.cls ≠ "java/lang/invoke/VarHandle" ∧ (parseMethodDescriptor yX2_chosenRun.desc).map (fun d => d.parameters.length) = some 2 := by decide +kernel
theorem fl_X2_chosenRun_31 : Cond.fieldLink RX2 31 (TX2 5).1 (TX2 5).2.1 (TX2 5).2.2.1 ∈ wsX2_chosenRun := by decide +kernel
theorem in_X2_chosenRun_2 : ∀ x ∈ u_ws RX2 TX2 7, x ∈ wsX2_chosenRun := by decide +kernel
theorem fl_X2_chosenRun_38 : Cond.fieldLink RX2 38 (TX2 6).1 (TX2 6).2.1 (TX2 6).2.2.1 ∈ wsX2_chosenRun := by decide +kernel
theorem fl_X2_chosenRun_59 : Cond.fieldLink RX2 59 (TX1 1).1 (TX1 1).2.1 (TX1 1).2.2.1 ∈ wsX2_chosenRun := by decide +kernel
theorem in_X2_chosenRun_1 : ∀ x ∈ u_ws RX1 TX1 9, x ∈ wsX2_chosenRun := by decide +kernel
set_option maxRecDepth 100000 in
set_option maxHeartbeats 4000000 in
theorem c_X2_chosenRun {l : Launch} {D : va_G} {cI cL : ClassId} {a : Nat → Nat} (o : Nat) (S : VS) (qt : Nat → Int32) (qp : Nat → Int32) (pu : Nat → Int32) (k : Nat) (t : Int32) (hk8 : k < 8) (hn : vr S ≤ 6) : Ct l yX2_chosenRun wsX2_chosenRun { frames := 2, cells := 0, slots := 0, locals := 47 } D (ty2 cI cL) [.ref (a o), .int (nI k), .int t] (wVo cI a o (vh S) (vc S) (vA S 0) (vA S 1) pu ++ (wR cI a (o + 4) (vr S) (vA S 3) (vA S 4) (vA S 5) (vA S 6) ++ (wS cI a (o + 9) (vs S) (vA S 7) (vA S 8) (vA S 9) (vA S 10) (vA S 11) (vA S 12) qt qp))) (fun v w' => v = some (.int (oI (bestR (vA S 3) (vA S 4) (vA S 5) t (vA S 7 k + 1) (vr S)))) ∧ w' = wVo cI a o (vh S) (vc S) (vA S 0) (vA S 1) pu ++ (wR cI a (o + 4) (vr S) (vA S 3) (vA S 4) (vA S 5) (vA S 6) ++ (wS cI a (o + 9) (vs S) (vA S 7) (vA S 8) (vA S 9) (vA S 10) (vA S 11) (vA S 12) qt qp))) 0 0 := by
  refine Ct.of (cc := cX2_chosenRun) (maxL := 3) (ret := (some .int)) (by decide) rfl (Nat.le_of_ble_eq_true rfl) ?_
  intro p e s m below meth c A ls CX hin HW hl
  obtain ⟨hx, hb, hml, hr, hown, hts, hK, hA, hlk⟩ := id CX
  have hl : lv_has ls 3 [(0, .ref (a o)), (1, .int (nI k)), (2, .int t)] := hl
  refine lv_aload_n hx hb dX2_chosenRun_0 rfl (lv_at hl 0 rfl) ?_
  refine g_get CX HW in_X2_chosenRun_2 0 5 rfl rfl (Nat.le_of_ble_eq_true rfl) fl_X2_chosenRun_31 rfl dX2_chosenRun_1 ?_
  refine lv_iload_n hx hb dX2_chosenRun_4 rfl (lv_at hl 2 rfl) ?_
  refine lv_aload_n hx hb dX2_chosenRun_5 rfl (lv_at hl 0 rfl) ?_
  refine g_get CX HW in_X2_chosenRun_2 0 6 rfl rfl (Nat.le_of_ble_eq_true rfl) fl_X2_chosenRun_38 rfl dX2_chosenRun_6 ?_
  refine g_get CX HW in_X2_chosenRun_1 9 1 rfl rfl (Nat.le_of_ble_eq_true rfl) fl_X2_chosenRun_59 rfl dX2_chosenRun_9 ?_
  refine lv_iload_n hx hb dX2_chosenRun_12 rfl (lv_at hl 1 rfl) ?_
  refine g_ald CX HW 10 (k := k) rfl rfl rfl (by omega) (Nat.le_of_ble_eq_true rfl) dX2_chosenRun_13 ?_
  refine lv_iconst (v := 1) hx hb dX2_chosenRun_14 (by decide) ?_
  refine lv_iadd hx hb dX2_chosenRun_15 ?_
  refine g_callV CX HW hl.1 (wVo cI a o (vh S) (vc S) (vA S 0) (vA S 1) pu) (wS cI a (o + 9) (vs S) (vA S 7) (vA S 8) (vA S 9) (vA S 10) (vA S 11) (vA S 12) qt qp) (c_X0_steepestOpen (o + 4) (vr S) (vA S 3) (vA S 4) (vA S 5) (vA S 6) t ((vA S 7 k) + (1 : Int32)) hn) rfl 0 rfl rfl gX2_chosenRun_X0_steepestOpen rfl ⟨rfl, hd_X0_steepestOpen⟩ ⟨rfl, rfl, (Nat.le_of_ble_eq_true rfl), (Nat.le_of_ble_eq_true rfl)⟩ ⟨(Nat.zero_le _), (Nat.zero_le _)⟩ rfl rfl (Nat.le_of_ble_eq_true rfl) dX2_chosenRun_16 (fun v w1 H locs hp HW => ?_)
  obtain ⟨rfl, rfl⟩ := hp
  have HW : Hw D A s (wVo cI a o (vh S) (vc S) (vA S 0) (vA S 1) pu ++ (wR cI a (o + 4) (vr S) (vA S 3) (vA S 4) (vA S 5) (vA S 6) ++ (wS cI a (o + 9) (vs S) (vA S 7) (vA S 8) (vA S 9) (vA S 10) (vA S 11) (vA S 12) qt qp))) H locs := HW
  refine W.eq (g2 := F0 m 19 ls [.int (oI (bestR (vA S 3) (vA S 4) (vA S 5) t ((vA S 7 k) + (1 : Int32)) (vr S)))]) rfl ?_
  exact g_iret CX HW rfl ⟨rfl, rfl⟩ dX2_chosenRun_19

theorem hd_X2_skiDown : yX2_skiDown.cls ≠ "java/lang/invoke/MethodHandle" ∧ yX2_skiDown.cls ≠ "java/lang/invoke/VarHandle" ∧ (parseMethodDescriptor yX2_skiDown.desc).map (fun d => d.parameters.length) = some 2 := by decide +kernel
theorem fl_X2_skiDown_31 : Cond.fieldLink RX2 31 (TX2 5).1 (TX2 5).2.1 (TX2 5).2.2.1 ∈ wsX2_skiDown := by decide +kernel
theorem in_X2_skiDown_2 : ∀ x ∈ u_ws RX2 TX2 7, x ∈ wsX2_skiDown := by decide +kernel
theorem fl_X2_skiDown_38 : Cond.fieldLink RX2 38 (TX2 6).1 (TX2 6).2.1 (TX2 6).2.2.1 ∈ wsX2_skiDown := by decide +kernel
theorem fl_X2_skiDown_112 : Cond.fieldLink RX2 112 (TX0 2).1 (TX0 2).2.1 (TX0 2).2.2.1 ∈ wsX2_skiDown := by decide +kernel
theorem in_X2_skiDown_0 : ∀ x ∈ u_ws RX0 TX0 5, x ∈ wsX2_skiDown := by decide +kernel
theorem fl_X2_skiDown_59 : Cond.fieldLink RX2 59 (TX1 1).1 (TX1 1).2.1 (TX1 1).2.2.1 ∈ wsX2_skiDown := by decide +kernel
theorem in_X2_skiDown_1 : ∀ x ∈ u_ws RX1 TX1 9, x ∈ wsX2_skiDown := by decide +kernel
theorem fl_X2_skiDown_121 : Cond.fieldLink RX2 121 (TX0 4).1 (TX0 4).2.1 (TX0 4).2.2.1 ∈ wsX2_skiDown := by decide +kernel
set_option maxRecDepth 100000 in
set_option maxHeartbeats 4000000 in
theorem c_X2_skiDown {l : Launch} {D : va_G} {cI cL : ClassId} {a : Nat → Nat} (o : Nat) (S : VS) (qt : Nat → Int32) (qp : Nat → Int32) (pu : Nat → Int32) (k : Nat) (t : Nat) (hk8 : k < 8) (hn : vr S ≤ 6) (hh : vh S < 2 ^ 31) : Ct l yX2_skiDown wsX2_skiDown { frames := 3, cells := 0, slots := 0, locals := 69 } D (ty2 cI cL) [.ref (a o), .int (nI k), .int (nI t)] (wVo cI a o (vh S) (vc S) (vA S 0) (vA S 1) pu ++ (wR cI a (o + 4) (vr S) (vA S 3) (vA S 4) (vA S 5) (vA S 6) ++ (wS cI a (o + 9) (vs S) (vA S 7) (vA S 8) (vA S 9) (vA S 10) (vA S 11) (vA S 12) qt qp))) (fun v w' => v = none ∧ w' = wVo cI a o (vh (skiS t k S)) (vc (skiS t k S)) (vA (skiS t k S) 0) (vA (skiS t k S) 1) pu ++ (wR cI a (o + 4) (vr (skiS t k S)) (vA (skiS t k S) 3) (vA (skiS t k S) 4) (vA (skiS t k S) 5) (vA (skiS t k S) 6) ++ (wS cI a (o + 9) (vs (skiS t k S)) (vA (skiS t k S) 7) (vA (skiS t k S) 8) (vA (skiS t k S) 9) (vA (skiS t k S) 10) (vA (skiS t k S) 11) (vA (skiS t k S) 12) qt qp))) 0 0 := by
  refine Ct.of (cc := cX2_skiDown) (maxL := 5) (ret := none) (by decide) rfl (Nat.le_of_ble_eq_true rfl) ?_
  intro p e s m below meth c A ls CX hin HW hl
  obtain ⟨hx, hb, hml, hr, hown, hts, hK, hA, hlk⟩ := id CX
  have hl : lv_has ls 5 [(0, .ref (a o)), (1, .int (nI k)), (2, .int (nI t))] := hl
  refine lv_aload_n hx hb dX2_skiDown_0 rfl (lv_at hl 0 rfl) ?_
  refine lv_iload_n hx hb dX2_skiDown_1 rfl (lv_at hl 1 rfl) ?_
  refine lv_iload_n hx hb dX2_skiDown_2 rfl (lv_at hl 2 rfl) ?_
  refine g_callV CX HW hl.1 ([]) ([]) (c_X2_chosenRun o S qt qp pu k (nI t) hk8 hn) rfl 0 rfl rfl gX2_skiDown_X2_chosenRun rfl ⟨rfl, hd_X2_chosenRun⟩ ⟨rfl, rfl, (Nat.le_of_ble_eq_true rfl), (Nat.le_of_ble_eq_true rfl)⟩ ⟨(Nat.zero_le _), (Nat.zero_le _)⟩ rfl rfl (Nat.le_of_ble_eq_true rfl) dX2_skiDown_3 (fun v w1 H locs hp HW => ?_)
  obtain ⟨rfl, rfl⟩ := hp
  have HW : Hw D A s (wVo cI a o (vh S) (vc S) (vA S 0) (vA S 1) pu ++ (wR cI a (o + 4) (vr S) (vA S 3) (vA S 4) (vA S 5) (vA S 6) ++ (wS cI a (o + 9) (vs S) (vA S 7) (vA S 8) (vA S 9) (vA S 10) (vA S 11) (vA S 12) qt qp))) H locs := HW
  refine W.eq (g2 := F0 m 6 ls [.int (oI (bestR (vA S 3) (vA S 4) (vA S 5) (nI t) (vA S 7 k + 1) (vr S)))]) rfl ?_
  refine lv_istore_n (lv' := [(3, .int (oI (bestR (vA S 3) (vA S 4) (vA S 5) (nI t) (vA S 7 k + 1) (vr S)))), (0, .ref (a o)), (1, .int (nI k)), (2, .int (nI t))]) hx hb dX2_skiDown_6 rfl hl (Nat.le_of_ble_eq_true rfl) rfl (fun ls hl => ?_)
  generalize hb9 : (bestR (vA S 3) (vA S 4) (vA S 5) (nI t) (vA S 7 k + 1) (vr S)) = b9 at hl
  rcases b9 with _ | r
  · have hl : lv_has ls 5 [(3, .int (-1 : Int32)), (0, .ref (a o)), (1, .int (nI k)), (2, .int (nI t))] := hl
    refine lv_aload_n hx hb dX2_skiDown_7 rfl (lv_at hl 1 rfl) ?_
    refine g_get CX HW in_X2_skiDown_2 0 5 rfl rfl (Nat.le_of_ble_eq_true rfl) fl_X2_skiDown_31 rfl dX2_skiDown_8 ?_
    refine lv_iload_n hx hb dX2_skiDown_11 rfl (lv_at hl 0 rfl) ?_
    refine g_callV CX HW hl.1 (wVo cI a o (vh S) (vc S) (vA S 0) (vA S 1) pu) (wS cI a (o + 9) (vs S) (vA S 7) (vA S 8) (vA S 9) (vA S 10) (vA S 11) (vA S 12) qt qp) (c_X0_has (o + 4) (vr S) (vA S 3) (vA S 4) (vA S 5) (vA S 6) (-1 : Int32)) rfl 0 rfl rfl gX2_skiDown_X0_has rfl ⟨rfl, hd_X0_has⟩ ⟨rfl, rfl, (Nat.le_of_ble_eq_true rfl), (Nat.le_of_ble_eq_true rfl)⟩ ⟨(Nat.zero_le _), (Nat.zero_le _)⟩ rfl rfl (Nat.le_of_ble_eq_true rfl) dX2_skiDown_12 (fun v w1 H locs hp HW => ?_)
    obtain ⟨rfl, rfl⟩ := hp
    have HW : Hw D A s (wVo cI a o (vh S) (vc S) (vA S 0) (vA S 1) pu ++ (wR cI a (o + 4) (vr S) (vA S 3) (vA S 4) (vA S 5) (vA S 6) ++ (wS cI a (o + 9) (vs S) (vA S 7) (vA S 8) (vA S 9) (vA S 10) (vA S 11) (vA S 12) qt qp))) H locs := HW
    refine W.eq (g2 := F0 m 15 ls [.int (bI (0 ≤ (-1 : Int32) ∧ (-1 : Int32) < nI (vr S)))]) rfl ?_
    refine g_ifne_b (tgt := 19) hx hb dX2_skiDown_15 (by decide) (fun c15 => ?_) (fun c15 => ?_)
    · exact absurd c15.1 (by decide)
    · exact g_vret CX HW rfl ⟨rfl, by rw [skiS_none hb9]⟩ dX2_skiDown_18
  · have hl : lv_has ls 5 [(3, .int (nI r)), (0, .ref (a o)), (1, .int (nI k)), (2, .int (nI t))] := hl
    have hr9 : r < vr S := bestR_lt hb9
    refine lv_aload_n hx hb dX2_skiDown_7 rfl (lv_at hl 1 rfl) ?_
    refine g_get CX HW in_X2_skiDown_2 0 5 rfl rfl (Nat.le_of_ble_eq_true rfl) fl_X2_skiDown_31 rfl dX2_skiDown_8 ?_
    refine lv_iload_n hx hb dX2_skiDown_11 rfl (lv_at hl 0 rfl) ?_
    refine g_callV CX HW hl.1 (wVo cI a o (vh S) (vc S) (vA S 0) (vA S 1) pu) (wS cI a (o + 9) (vs S) (vA S 7) (vA S 8) (vA S 9) (vA S 10) (vA S 11) (vA S 12) qt qp) (c_X0_has (o + 4) (vr S) (vA S 3) (vA S 4) (vA S 5) (vA S 6) (nI r)) rfl 0 rfl rfl gX2_skiDown_X0_has rfl ⟨rfl, hd_X0_has⟩ ⟨rfl, rfl, (Nat.le_of_ble_eq_true rfl), (Nat.le_of_ble_eq_true rfl)⟩ ⟨(Nat.zero_le _), (Nat.zero_le _)⟩ rfl rfl (Nat.le_of_ble_eq_true rfl) dX2_skiDown_12 (fun v w1 H locs hp HW => ?_)
    obtain ⟨rfl, rfl⟩ := hp
    have HW : Hw D A s (wVo cI a o (vh S) (vc S) (vA S 0) (vA S 1) pu ++ (wR cI a (o + 4) (vr S) (vA S 3) (vA S 4) (vA S 5) (vA S 6) ++ (wS cI a (o + 9) (vs S) (vA S 7) (vA S 8) (vA S 9) (vA S 10) (vA S 11) (vA S 12) qt qp))) H locs := HW
    refine W.eq (g2 := F0 m 15 ls [.int (bI (0 ≤ (nI r) ∧ (nI r) < nI (vr S)))]) rfl ?_
    refine g_ifne_b (tgt := 19) hx hb dX2_skiDown_15 (by decide) (fun c15 => ?_) (fun c15 => ?_)
    · refine lv_aload_n hx hb dX2_skiDown_19 rfl (lv_at hl 1 rfl) ?_
      refine g_get CX HW in_X2_skiDown_2 0 6 rfl rfl (Nat.le_of_ble_eq_true rfl) fl_X2_skiDown_38 rfl dX2_skiDown_20 ?_
      refine lv_iload_n hx hb dX2_skiDown_23 rfl (lv_at hl 2 rfl) ?_
      refine lv_aload_n hx hb dX2_skiDown_24 rfl (lv_at hl 1 rfl) ?_
      refine g_callV CX HW hl.1 ([]) ([]) (c_X2_flakeOfHour o S qt qp pu hh) rfl 0 rfl rfl gX2_skiDown_X2_flakeOfHour rfl ⟨rfl, hd_X2_flakeOfHour⟩ ⟨rfl, rfl, (Nat.le_of_ble_eq_true rfl), (Nat.le_of_ble_eq_true rfl)⟩ ⟨(Nat.zero_le _), (Nat.zero_le _)⟩ rfl rfl (Nat.le_of_ble_eq_true rfl) dX2_skiDown_25 (fun v w1 H locs hp HW => ?_)
      obtain ⟨rfl, rfl⟩ := hp
      have HW : Hw D A s (wVo cI a o (vh S) (vc S) (vA S 0) (vA S 1) pu ++ (wR cI a (o + 4) (vr S) (vA S 3) (vA S 4) (vA S 5) (vA S 6) ++ (wS cI a (o + 9) (vs S) (vA S 7) (vA S 8) (vA S 9) (vA S 10) (vA S 11) (vA S 12) qt qp))) H locs := HW
      refine W.eq (g2 := F0 m 28 ls [.int (vA S 0 (vh S % 6)), .int (nI k), .ref (a (o + 9))]) rfl ?_
      refine g_callV CX HW hl.1 (wVo cI a o (vh S) (vc S) (vA S 0) (vA S 1) pu ++ (wR cI a (o + 4) (vr S) (vA S 3) (vA S 4) (vA S 5) (vA S 6))) ([]) (c_X1_glide (o + 9) (vs S) (vA S 7) (vA S 8) (vA S 9) (vA S 10) (vA S 11) (vA S 12) qt qp k (vA S 0 (vh S % 6)) (by omega)) rfl 0 rfl rfl gX2_skiDown_X1_glide rfl ⟨rfl, hd_X1_glide⟩ ⟨rfl, rfl, (Nat.le_of_ble_eq_true rfl), (Nat.le_of_ble_eq_true rfl)⟩ ⟨(Nat.zero_le _), (Nat.zero_le _)⟩ rfl rfl (Nat.le_of_ble_eq_true rfl) dX2_skiDown_28 (fun v w1 H locs hp HW => ?_)
      obtain ⟨rfl, rfl⟩ := hp
      have HW : Hw D A s (wVo cI a o (vh S) (vc S) (vA S 0) (vA S 1) pu ++ (wR cI a (o + 4) (vr S) (vA S 3) (vA S 4) (vA S 5) (vA S 6) ++ (wS cI a (o + 9) (vs S) (vA S 7) (vA S 8) (vA S 9) (glL (vA S 10) k) (vA S 11) (vA S 12) qt qp))) H locs := HW
      refine W.eq (g2 := F0 m 31 ls [.int (glR (vA S 9) (vA S 10) k (vA S 0 (vh S % 6)))]) rfl ?_
      refine lv_istore (lv' := [(4, .int (glR (vA S 9) (vA S 10) k (vA S 0 (vh S % 6)))), (3, .int (nI r)), (0, .ref (a o)), (1, .int (nI k)), (2, .int (nI t))]) hx hb dX2_skiDown_31 hl (Nat.le_of_ble_eq_true rfl) rfl (fun ls hl => ?_)
      refine lv_aload_n hx hb dX2_skiDown_33 rfl (lv_at hl 2 rfl) ?_
      refine g_get CX HW in_X2_skiDown_2 0 6 rfl rfl (Nat.le_of_ble_eq_true rfl) fl_X2_skiDown_38 rfl dX2_skiDown_34 ?_
      refine lv_iload_n hx hb dX2_skiDown_37 rfl (lv_at hl 3 rfl) ?_
      refine lv_iconst (v := 3) hx hb dX2_skiDown_38 (by decide) ?_
      refine lv_aload_n hx hb dX2_skiDown_39 rfl (lv_at hl 2 rfl) ?_
      refine g_get CX HW in_X2_skiDown_2 0 5 rfl rfl (Nat.le_of_ble_eq_true rfl) fl_X2_skiDown_31 rfl dX2_skiDown_40 ?_
      refine g_get CX HW in_X2_skiDown_0 4 2 rfl rfl (Nat.le_of_ble_eq_true rfl) fl_X2_skiDown_112 rfl dX2_skiDown_43 ?_
      refine lv_iload_n hx hb dX2_skiDown_46 rfl (lv_at hl 1 rfl) ?_
      refine g_ald CX HW 6 (k := r) rfl rfl rfl (by omega) (Nat.le_of_ble_eq_true rfl) dX2_skiDown_47 ?_
      refine lv_imul hx hb dX2_skiDown_48 ?_
      refine lv_aload_n hx hb dX2_skiDown_49 rfl (lv_at hl 2 rfl) ?_
      refine g_get CX HW in_X2_skiDown_2 0 6 rfl rfl (Nat.le_of_ble_eq_true rfl) fl_X2_skiDown_38 rfl dX2_skiDown_50 ?_
      refine g_get CX HW in_X2_skiDown_1 9 1 rfl rfl (Nat.le_of_ble_eq_true rfl) fl_X2_skiDown_59 rfl dX2_skiDown_53 ?_
      refine lv_iload_n hx hb dX2_skiDown_56 rfl (lv_at hl 3 rfl) ?_
      refine g_ald CX HW 10 (k := k) rfl rfl rfl (by omega) (Nat.le_of_ble_eq_true rfl) dX2_skiDown_57 ?_
      refine lv_iadd hx hb dX2_skiDown_58 ?_
      refine lv_iload hx hb dX2_skiDown_59 (lv_at hl 0 rfl) ?_
      refine lv_iadd hx hb dX2_skiDown_61 ?_
      refine g_callV CX HW hl.1 (wVo cI a o (vh S) (vc S) (vA S 0) (vA S 1) pu ++ (wR cI a (o + 4) (vr S) (vA S 3) (vA S 4) (vA S 5) (vA S 6))) ([]) (c_X1_addPoints (o + 9) (vs S) (vA S 7) (vA S 8) (vA S 9) (glL (vA S 10) k) (vA S 11) (vA S 12) qt qp k ((((3 : Int32) * ((vA S 4) r)) + ((vA S 7) k)) + (glR (vA S 9) (vA S 10) k (vA S 0 (vh S % 6)))) (by omega)) rfl 0 rfl rfl gX2_skiDown_X1_addPoints rfl ⟨rfl, hd_X1_addPoints⟩ ⟨rfl, rfl, (Nat.le_of_ble_eq_true rfl), (Nat.le_of_ble_eq_true rfl)⟩ ⟨(Nat.zero_le _), (Nat.zero_le _)⟩ rfl rfl (Nat.le_of_ble_eq_true rfl) dX2_skiDown_62 (fun v w1 H locs hp HW => ?_)
      obtain ⟨rfl, rfl⟩ := hp
      have HW : Hw D A s (wVo cI a o (vh S) (vc S) (vA S 0) (vA S 1) pu ++ (wR cI a (o + 4) (vr S) (vA S 3) (vA S 4) (vA S 5) (vA S 6) ++ (wS cI a (o + 9) (vs S) (vA S 7) (vA S 8) (vA S 9) (glL (vA S 10) k) (upd (vA S 11) k (heldI ((vA S 11) k + ((((3 : Int32) * ((vA S 4) r)) + ((vA S 7) k)) + (glR (vA S 9) (vA S 10) k (vA S 0 (vh S % 6))))) 0 999)) (vA S 12) qt qp))) H locs := HW
      refine W.eq (g2 := F0 m 65 ls []) rfl ?_
      refine lv_aload_n hx hb dX2_skiDown_65 rfl (lv_at hl 2 rfl) ?_
      refine g_get CX HW in_X2_skiDown_2 0 5 rfl rfl (Nat.le_of_ble_eq_true rfl) fl_X2_skiDown_31 rfl dX2_skiDown_66 ?_
      refine lv_iload_n hx hb dX2_skiDown_69 rfl (lv_at hl 1 rfl) ?_
      refine lv_iconst (v := (-1)) hx hb dX2_skiDown_70 (by decide) ?_
      refine g_callV CX HW hl.1 (wVo cI a o (vh S) (vc S) (vA S 0) (vA S 1) pu) (wS cI a (o + 9) (vs S) (vA S 7) (vA S 8) (vA S 9) (glL (vA S 10) k) (upd (vA S 11) k (heldI ((vA S 11) k + ((((3 : Int32) * ((vA S 4) r)) + ((vA S 7) k)) + (glR (vA S 9) (vA S 10) k (vA S 0 (vh S % 6))))) 0 999)) (vA S 12) qt qp) (c_X0_deepen (o + 4) (vr S) (vA S 3) (vA S 4) (vA S 5) (vA S 6) r (-1 : Int32) (by omega)) rfl 0 rfl rfl gX2_skiDown_X0_deepen rfl ⟨rfl, hd_X0_deepen⟩ ⟨rfl, rfl, (Nat.le_of_ble_eq_true rfl), (Nat.le_of_ble_eq_true rfl)⟩ ⟨(Nat.zero_le _), (Nat.zero_le _)⟩ rfl rfl (Nat.le_of_ble_eq_true rfl) dX2_skiDown_71 (fun v w1 H locs hp HW => ?_)
      obtain ⟨rfl, rfl⟩ := hp
      have HW : Hw D A s (wVo cI a o (vh S) (vc S) (vA S 0) (vA S 1) pu ++ (wR cI a (o + 4) (vr S) (vA S 3) (vA S 4) (upd (vA S 5) r (heldI ((vA S 5) r + (-1 : Int32)) 0 90)) (vA S 6) ++ (wS cI a (o + 9) (vs S) (vA S 7) (vA S 8) (vA S 9) (glL (vA S 10) k) (upd (vA S 11) k (heldI ((vA S 11) k + ((((3 : Int32) * ((vA S 4) r)) + ((vA S 7) k)) + (glR (vA S 9) (vA S 10) k (vA S 0 (vh S % 6))))) 0 999)) (vA S 12) qt qp))) H locs := HW
      refine W.eq (g2 := F0 m 74 ls []) rfl ?_
      refine lv_aload_n hx hb dX2_skiDown_74 rfl (lv_at hl 2 rfl) ?_
      refine g_get CX HW in_X2_skiDown_2 0 5 rfl rfl (Nat.le_of_ble_eq_true rfl) fl_X2_skiDown_31 rfl dX2_skiDown_75 ?_
      refine g_get CX HW in_X2_skiDown_0 4 4 rfl rfl (Nat.le_of_ble_eq_true rfl) fl_X2_skiDown_121 rfl dX2_skiDown_78 ?_
      refine lv_iload_n hx hb dX2_skiDown_81 rfl (lv_at hl 1 rfl) ?_
      refine lv_dup2_11 hx hb dX2_skiDown_82 rfl rfl ?_
      refine g_ald CX HW 8 (k := r) rfl rfl rfl (by omega) (Nat.le_of_ble_eq_true rfl) dX2_skiDown_83 ?_
      refine lv_iconst (v := 1) hx hb dX2_skiDown_84 (by decide) ?_
      refine lv_iadd hx hb dX2_skiDown_85 ?_
      refine g_ast CX HW 8 (k := r) rfl rfl rfl (by omega) (Nat.le_of_ble_eq_true rfl) dX2_skiDown_86 (fun H locs HW => ?_)
      have HW : Hw D A s (wVo cI a o (vh S) (vc S) (vA S 0) (vA S 1) pu ++ (wR cI a (o + 4) (vr S) (vA S 3) (vA S 4) (upd (vA S 5) r (heldI ((vA S 5) r + (-1 : Int32)) 0 90)) (upd (vA S 6) r (((vA S 6) r) + (1 : Int32))) ++ (wS cI a (o + 9) (vs S) (vA S 7) (vA S 8) (vA S 9) (glL (vA S 10) k) (upd (vA S 11) k (heldI ((vA S 11) k + ((((3 : Int32) * ((vA S 4) r)) + ((vA S 7) k)) + (glR (vA S 9) (vA S 10) k (vA S 0 (vh S % 6))))) 0 999)) (vA S 12) qt qp))) H locs := HW
      exact g_vret CX HW rfl ⟨rfl, by rw [skiS_some hb9]; rfl⟩ dX2_skiDown_87
    · exact absurd ⟨nI_pos' (by omega), (nI_ltI (by omega) (by omega)).mpr hr9⟩ c15

theorem hd_X2_pullAt : yX2_pullAt.cls ≠ "java/lang/invoke/MethodHandle" ∧ yX2_pullAt.cls ≠ "java/lang/invoke/VarHandle" ∧ (parseMethodDescriptor yX2_pullAt.desc).map (fun d => d.parameters.length) = some 1 := by decide +kernel
theorem fl_X2_pullAt_25 : Cond.fieldLink RX2 25 (TX2 4).1 (TX2 4).2.1 (TX2 4).2.2.1 ∈ wsX2_pullAt := by decide +kernel
theorem in_X2_pullAt_2 : ∀ x ∈ u_ws RX2 TX2 7, x ∈ wsX2_pullAt := by decide +kernel
theorem fl_X2_pullAt_22 : Cond.fieldLink RX2 22 (TX2 3).1 (TX2 3).2.1 (TX2 3).2.2.1 ∈ wsX2_pullAt := by decide +kernel
theorem fl_X2_pullAt_38 : Cond.fieldLink RX2 38 (TX2 6).1 (TX2 6).2.1 (TX2 6).2.2.1 ∈ wsX2_pullAt := by decide +kernel
theorem fl_X2_pullAt_93 : Cond.fieldLink RX2 93 (TX1 2).1 (TX1 2).2.1 (TX1 2).2.2.1 ∈ wsX2_pullAt := by decide +kernel
theorem in_X2_pullAt_1 : ∀ x ∈ u_ws RX1 TX1 9, x ∈ wsX2_pullAt := by decide +kernel
theorem fl_X2_pullAt_15 : Cond.fieldLink RX2 15 (TX2 1).1 (TX2 1).2.1 (TX2 1).2.2.1 ∈ wsX2_pullAt := by decide +kernel
theorem fl_X2_pullAt_95 : Cond.fieldLink RX2 95 (TX1 6).1 (TX1 6).2.1 (TX1 6).2.2.1 ∈ wsX2_pullAt := by decide +kernel
set_option maxRecDepth 100000 in
set_option maxHeartbeats 4000000 in
theorem c_X2_pullAt {l : Launch} {D : va_G} {cI cL : ClassId} {a : Nat → Nat} (o : Nat) (S : VS) (qt : Nat → Int32) (qp : Nat → Int32) (t : Nat) (hI : Inv S) (hR : Rep (vs S) (vq S) qt qp) (ht : t < 3) (hh : vh S < 2 ^ 31) : Ct l yX2_pullAt wsX2_pullAt { frames := 4, cells := 0, slots := 0, locals := 93 } D (ty2 cI cL) [.ref (a o), .int (nI t)] (wVo cI a o (vh S) (vc S) (vA S 0) (vA S 1) (vA S 2) ++ (wR cI a (o + 4) (vr S) (vA S 3) (vA S 4) (vA S 5) (vA S 6) ++ (wS cI a (o + 9) (vs S) (vA S 7) (vA S 8) (vA S 9) (vA S 10) (vA S 11) (vA S 12) qt qp))) (fun v w' => ∃ (qt' : Nat → Int32) (qp' : Nat → Int32), (Rep (vs (pullS t S)) (vq (pullS t S)) qt' qp') ∧ v = some (.int (vA (pullS t S) 2 t - vA S 2 t)) ∧ w' = wVo cI a o (vh (pullS t S)) (vc (pullS t S)) (vA (pullS t S) 0) (vA (pullS t S) 1) (vA (pullS t S) 2) ++ (wR cI a (o + 4) (vr (pullS t S)) (vA (pullS t S) 3) (vA (pullS t S) 4) (vA (pullS t S) 5) (vA (pullS t S) 6) ++ (wS cI a (o + 9) (vs (pullS t S)) (vA (pullS t S) 7) (vA (pullS t S) 8) (vA (pullS t S) 9) (vA (pullS t S) 10) (vA (pullS t S) 11) (vA (pullS t S) 12) qt' qp'))) 0 0 := by
  refine Ct.of (cc := cX2_pullAt) (maxL := 6) (ret := (some .int)) (by decide) rfl (Nat.le_of_ble_eq_true rfl) ?_
  intro p e s m below meth c A ls CX hin HW hl
  obtain ⟨hx, hb, hml, hr, hown, hts, hK, hA, hlk⟩ := id CX
  have hl : lv_has ls 6 [(0, .ref (a o)), (1, .int (nI t))] := hl
  obtain ⟨P, hP1, hP4, hP⟩ := hI.2.2.2.1 t ht
  obtain ⟨N, hN⟩ : ∃ N : Nat, N = (vq S t).length := ⟨_, rfl⟩
  have hN8 : N ≤ 8 := by rw [hN]; exact rep_len hR hI.2.1 ht
  have j143 : ∀ (T : VS) (qt : Nat → Int32) (qp : Nat → Int32) (r : Nat), (T = pullS t S) → (Rep (vs T) (vq T) qt qp) → (vA T 2 = upd (vA S 2) t (vA S 2 t + nI r)) → ∀ (H : Heap) (locs : List Loc) (ls : Array Slot), Hw D A s (wVo cI a o (vh T) (vc T) (vA T 0) (vA T 1) (vA S 2) ++ (wR cI a (o + 4) (vr T) (vA T 3) (vA T 4) (vA T 5) (vA T 6) ++ (wS cI a (o + 9) (vs T) (vA T 7) (vA T 8) (vA T 9) (vA T 10) (vA T 11) (vA T 12) qt qp))) H locs → lv_has ls 6 [(2, .int (nI r)), (1, .int (nI t)), (0, .ref (a o))] → W p l e ({ frames := 4, cells := 0, slots := 0, locals := 93 } : Room) s m ([.ref (a o), .int (nI t)] : List Value).toArray below meth c H locs 0 0 (MQ below (cQ D A (fun v w' => ∃ (qt' : Nat → Int32) (qp' : Nat → Int32), (Rep (vs (pullS t S)) (vq (pullS t S)) qt' qp') ∧ v = some (.int (vA (pullS t S) 2 t - vA S 2 t)) ∧ w' = wVo cI a o (vh (pullS t S)) (vc (pullS t S)) (vA (pullS t S) 0) (vA (pullS t S) 1) (vA (pullS t S) 2) ++ (wR cI a (o + 4) (vr (pullS t S)) (vA (pullS t S) 3) (vA (pullS t S) 4) (vA (pullS t S) 5) (vA (pullS t S) 6) ++ (wS cI a (o + 9) (vs (pullS t S)) (vA (pullS t S) 7) (vA (pullS t S) 8) (vA (pullS t S) 9) (vA (pullS t S) 10) (vA (pullS t S) 11) (vA (pullS t S) 12) qt' qp')))) ([.ref (a o), .int (nI t)] : List Value).toArray s 0 0 A) (F0 m 143 ls []) := by
    intro T qt qp r hT hRep hPu H locs ls HW hl
    refine lv_aload_n hx hb dX2_pullAt_143 rfl (lv_at hl 2 rfl) ?_
    refine g_get CX HW in_X2_pullAt_2 0 4 rfl rfl (Nat.le_of_ble_eq_true rfl) fl_X2_pullAt_25 rfl dX2_pullAt_144 ?_
    refine lv_iload_n hx hb dX2_pullAt_147 rfl (lv_at hl 1 rfl) ?_
    refine lv_dup2_11 hx hb dX2_pullAt_148 rfl rfl ?_
    refine g_ald CX HW 3 (k := t) rfl rfl rfl (by omega) (Nat.le_of_ble_eq_true rfl) dX2_pullAt_149 ?_
    refine lv_iload_n hx hb dX2_pullAt_150 rfl (lv_at hl 0 rfl) ?_
    refine lv_iadd hx hb dX2_pullAt_151 ?_
    refine g_ast CX HW 3 (k := t) rfl rfl rfl (by omega) (Nat.le_of_ble_eq_true rfl) dX2_pullAt_152 (fun H locs HW => ?_)
    have HW : Hw D A s (wVo cI a o (vh T) (vc T) (vA T 0) (vA T 1) (upd (vA S 2) t (((vA S 2) t) + (nI r))) ++ (wR cI a (o + 4) (vr T) (vA T 3) (vA T 4) (vA T 5) (vA T 6) ++ (wS cI a (o + 9) (vs T) (vA T 7) (vA T 8) (vA T 9) (vA T 10) (vA T 11) (vA T 12) qt qp))) H locs := HW
    have hwe : (upd (vA S 2) t (((vA S 2) t) + (nI r))) = (vA T 2) := hPu.symm
    rw [hwe] at HW; clear hwe
    refine lv_iload_n hx hb dX2_pullAt_153 rfl (lv_at hl 0 rfl) ?_
    exact g_iret CX HW rfl ⟨qt, qp, by rw [← hT]; exact hRep, by rw [← hT, hPu, pk_us, add_sub_self], by rw [← hT]⟩ dX2_pullAt_154
  have loop : ∀ (d0 : Nat) (j : Nat) (T : VS) (qt : Nat → Int32) (qp : Nat → Int32) (r : Nat), N - j = d0 → (pullN t (N - j) (P - r) T = pullS t S) → (j ≤ N) → (r ≤ P) → (N - j ≤ (vq T t).length) → (Inv T) → (Rep (vs T) (vq T) qt qp) → (vh T < 2 ^ 31) → (vA T 1 t = nI P) → (vA T 2 = upd (vA S 2) t (vA S 2 t + nI r)) → ∀ (H : Heap) (locs : List Loc) (ls : Array Slot), Hw D A s (wVo cI a o (vh T) (vc T) (vA T 0) (vA T 1) (vA S 2) ++ (wR cI a (o + 4) (vr T) (vA T 3) (vA T 4) (vA T 5) (vA T 6) ++ (wS cI a (o + 9) (vs T) (vA T 7) (vA T 8) (vA T 9) (vA T 10) (vA T 11) (vA T 12) qt qp))) H locs → lv_has ls 6 [(4, .int (nI j)), (3, .int (nI N)), (2, .int (nI r)), (1, .int (nI t)), (0, .ref (a o))] → W p l e ({ frames := 4, cells := 0, slots := 0, locals := 93 } : Room) s m ([.ref (a o), .int (nI t)] : List Value).toArray below meth c H locs 0 0 (MQ below (cQ D A (fun v w' => ∃ (qt' : Nat → Int32) (qp' : Nat → Int32), (Rep (vs (pullS t S)) (vq (pullS t S)) qt' qp') ∧ v = some (.int (vA (pullS t S) 2 t - vA S 2 t)) ∧ w' = wVo cI a o (vh (pullS t S)) (vc (pullS t S)) (vA (pullS t S) 0) (vA (pullS t S) 1) (vA (pullS t S) 2) ++ (wR cI a (o + 4) (vr (pullS t S)) (vA (pullS t S) 3) (vA (pullS t S) 4) (vA (pullS t S) 5) (vA (pullS t S) 6) ++ (wS cI a (o + 9) (vs (pullS t S)) (vA (pullS t S) 7) (vA (pullS t S) 8) (vA (pullS t S) 9) (vA (pullS t S) 10) (vA (pullS t S) 11) (vA (pullS t S) 12) qt' qp')))) ([.ref (a o), .int (nI t)] : List Value).toArray s 0 0 A) (F0 m 14 ls []) := by
    intro d0
    induction d0 using Nat.strongRecOn with
    | _ d0 ih =>
      intro j T qt qp r hd0 hTT hj hr hlen hIT hRep hhT hPT hPu H locs ls HW hl
      refine lv_iload hx hb dX2_pullAt_14 (lv_at hl 0 rfl) ?_
      refine lv_iload_n hx hb dX2_pullAt_16 rfl (lv_at hl 1 rfl) ?_
      refine lv_icmp_ge (tgt := 143) hx hb dX2_pullAt_17 (by decide) (fun c17 => ?_) (fun c17 => ?_)
      · have c17 := (nI_leI (by omega) (by omega)).mp c17
        exact j143 T qt qp r (by first | (have h9 : N - j = 0 := (by omega); rw [h9] at hTT; exact hTT) | (have h9 : P - r = 0 := (by omega); rw [h9, pullN_p0] at hTT; exact hTT)) hRep hPu _ _ _ HW (lv_sub hl [2, 3, 4] rfl)
      · have c17 : j < N := nI_lt_of (by omega) (by omega) c17
        refine lv_iload_n hx hb dX2_pullAt_20 rfl (lv_at hl 2 rfl) ?_
        refine lv_aload_n hx hb dX2_pullAt_21 rfl (lv_at hl 4 rfl) ?_
        refine g_get CX HW in_X2_pullAt_2 0 3 rfl rfl (Nat.le_of_ble_eq_true rfl) fl_X2_pullAt_22 rfl dX2_pullAt_22 ?_
        refine lv_iload_n hx hb dX2_pullAt_25 rfl (lv_at hl 3 rfl) ?_
        refine g_ald CX HW 2 (k := t) rfl rfl rfl (by omega) (Nat.le_of_ble_eq_true rfl) dX2_pullAt_26 ?_
        refine g_top (y := (nI P)) hPT ?_
        refine lv_icmp_ge (tgt := 143) hx hb dX2_pullAt_27 (by decide) (fun c27 => ?_) (fun c27 => ?_)
        · have c27 := (nI_leI (by omega) (by omega)).mp c27
          exact j143 T qt qp r (by first | (have h9 : N - j = 0 := (by omega); rw [h9] at hTT; exact hTT) | (have h9 : P - r = 0 := (by omega); rw [h9, pullN_p0] at hTT; exact hTT)) hRep hPu _ _ _ HW (lv_sub hl [2, 3, 4] rfl)
        · have c27 : r < P := nI_lt_of (by omega) (by omega) c27
          obtain ⟨k, rest, hq⟩ : ∃ k rest, vq T t = k :: rest := by
            cases hq9 : vq T t with
            | nil => rw [hq9] at hlen; simp only [List.length_nil] at hlen; omega
            | cons k rest => exact ⟨k, rest, rfl⟩
          have hk : k < vs T := (hRep.2.1 t 0 k ht (by rw [hq]; rfl)).1
          have hk8 : k < 8 := Nat.lt_of_lt_of_le hk hIT.2.1
          have hRep2 := rep_take0 hRep hIT.2.1 ht hq
          refine lv_aload_n hx hb dX2_pullAt_30 rfl (lv_at hl 4 rfl) ?_
          refine g_get CX HW in_X2_pullAt_2 0 6 rfl rfl (Nat.le_of_ble_eq_true rfl) fl_X2_pullAt_38 rfl dX2_pullAt_31 ?_
          refine lv_iload_n hx hb dX2_pullAt_34 rfl (lv_at hl 3 rfl) ?_
          refine lv_iconst (v := 0) hx hb dX2_pullAt_35 (by decide) ?_
          refine g_callV CX HW hl.1 (wVo cI a o (vh T) (vc T) (vA T 0) (vA T 1) (vA S 2) ++ (wR cI a (o + 4) (vr T) (vA T 3) (vA T 4) (vA T 5) (vA T 6))) ([]) (c_X1_at (o + 9) (vs T) (vA T 7) (vA T 8) (vA T 9) (vA T 10) (vA T 11) (vA T 12) qt qp (nI t) (0 : Int32) hIT.2.1) rfl 0 rfl rfl gX2_pullAt_X1_at rfl ⟨rfl, hd_X1_at⟩ ⟨rfl, rfl, (Nat.le_of_ble_eq_true rfl), (Nat.le_of_ble_eq_true rfl)⟩ ⟨(Nat.zero_le _), (Nat.zero_le _)⟩ rfl rfl (Nat.le_of_ble_eq_true rfl) dX2_pullAt_36 (fun v w1 H locs hp HW => ?_)
          obtain ⟨rfl, rfl⟩ := hp
          have HW : Hw D A s (wVo cI a o (vh T) (vc T) (vA T 0) (vA T 1) (vA S 2) ++ (wR cI a (o + 4) (vr T) (vA T 3) (vA T 4) (vA T 5) (vA T 6) ++ (wS cI a (o + 9) (vs T) (vA T 7) (vA T 8) (vA T 9) (vA T 10) (vA T 11) (vA T 12) qt qp))) H locs := HW
          refine W.eq (g2 := F0 m 39 ls [.int (oI (fnd qt qp (nI t) (0 : Int32) (vs T)))]) rfl ?_
          refine g_top (y := (nI k)) (rep_at0 hRep hIT.2.1 ht hq) ?_
          refine lv_istore (lv' := [(5, .int (nI k)), (4, .int (nI j)), (3, .int (nI N)), (2, .int (nI r)), (1, .int (nI t)), (0, .ref (a o))]) hx hb dX2_pullAt_39 hl (Nat.le_of_ble_eq_true rfl) rfl (fun ls hl => ?_)
          refine lv_aload_n hx hb dX2_pullAt_41 rfl (lv_at hl 5 rfl) ?_
          refine g_get CX HW in_X2_pullAt_2 0 6 rfl rfl (Nat.le_of_ble_eq_true rfl) fl_X2_pullAt_38 rfl dX2_pullAt_42 ?_
          refine lv_iload hx hb dX2_pullAt_45 (lv_at hl 0 rfl) ?_
          refine g_callV CX HW hl.1 (wVo cI a o (vh T) (vc T) (vA T 0) (vA T 1) (vA S 2) ++ (wR cI a (o + 4) (vr T) (vA T 3) (vA T 4) (vA T 5) (vA T 6))) ([]) (c_X1_has (o + 9) (vs T) (vA T 7) (vA T 8) (vA T 9) (vA T 10) (vA T 11) (vA T 12) qt qp (nI k)) rfl 0 rfl rfl gX2_pullAt_X1_has rfl ⟨rfl, hd_X1_has⟩ ⟨rfl, rfl, (Nat.le_of_ble_eq_true rfl), (Nat.le_of_ble_eq_true rfl)⟩ ⟨(Nat.zero_le _), (Nat.zero_le _)⟩ rfl rfl (Nat.le_of_ble_eq_true rfl) dX2_pullAt_47 (fun v w1 H locs hp HW => ?_)
          obtain ⟨rfl, rfl⟩ := hp
          have HW : Hw D A s (wVo cI a o (vh T) (vc T) (vA T 0) (vA T 1) (vA S 2) ++ (wR cI a (o + 4) (vr T) (vA T 3) (vA T 4) (vA T 5) (vA T 6) ++ (wS cI a (o + 9) (vs T) (vA T 7) (vA T 8) (vA T 9) (vA T 10) (vA T 11) (vA T 12) qt qp))) H locs := HW
          refine W.eq (g2 := F0 m 50 ls [.int (bI (0 ≤ (nI k) ∧ (nI k) < nI (vs T)))]) rfl ?_
          refine g_ifne_b (tgt := 56) hx hb dX2_pullAt_50 (by decide) (fun c50 => ?_) (fun c50 => ?_)
          · refine lv_aload_n hx hb dX2_pullAt_56 rfl (lv_at hl 5 rfl) ?_
            refine g_get CX HW in_X2_pullAt_2 0 6 rfl rfl (Nat.le_of_ble_eq_true rfl) fl_X2_pullAt_38 rfl dX2_pullAt_57 ?_
            refine lv_iload hx hb dX2_pullAt_60 (lv_at hl 0 rfl) ?_
            refine g_callV CX HW hl.1 (wVo cI a o (vh T) (vc T) (vA T 0) (vA T 1) (vA S 2) ++ (wR cI a (o + 4) (vr T) (vA T 3) (vA T 4) (vA T 5) (vA T 6))) ([]) (c_X1_takeOutOfQueue (o + 9) (vs T) (vA T 7) (vA T 8) (vA T 9) (vA T 10) (vA T 11) (vA T 12) qt qp k hIT.2.1 hk8) rfl 0 rfl rfl gX2_pullAt_X1_takeOutOfQueue rfl ⟨rfl, hd_X1_takeOutOfQueue⟩ ⟨rfl, rfl, (Nat.le_of_ble_eq_true rfl), (Nat.le_of_ble_eq_true rfl)⟩ ⟨(Nat.zero_le _), (Nat.zero_le _)⟩ rfl rfl (Nat.le_of_ble_eq_true rfl) dX2_pullAt_62 (fun v w1 H locs hp HW => ?_)
            obtain ⟨rfl, rfl⟩ := hp
            have HW : Hw D A s (wVo cI a o (vh T) (vc T) (vA T 0) (vA T 1) (vA S 2) ++ (wR cI a (o + 4) (vr T) (vA T 3) (vA T 4) (vA T 5) (vA T 6) ++ (wS cI a (o + 9) (vs T) (vA T 7) (vA T 8) (vA T 9) (vA T 10) (vA T 11) (vA T 12) (tkT qt k) (tkQ (vs T) qt qp k)))) H locs := HW
            refine W.eq (g2 := F0 m 65 ls []) rfl ?_
            refine lv_aload_n hx hb dX2_pullAt_65 rfl (lv_at hl 5 rfl) ?_
            refine g_get CX HW in_X2_pullAt_2 0 6 rfl rfl (Nat.le_of_ble_eq_true rfl) fl_X2_pullAt_38 rfl dX2_pullAt_66 ?_
            refine g_get CX HW in_X2_pullAt_1 9 2 rfl rfl (Nat.le_of_ble_eq_true rfl) fl_X2_pullAt_93 rfl dX2_pullAt_69 ?_
            refine lv_iload hx hb dX2_pullAt_72 (lv_at hl 0 rfl) ?_
            refine g_ald CX HW 11 (k := k) rfl rfl rfl hk8 (Nat.le_of_ble_eq_true rfl) dX2_pullAt_74 ?_
            refine lv_iconst (v := 1) hx hb dX2_pullAt_75 (by decide) ?_
            refine lv_icmp_lt (tgt := 137) hx hb dX2_pullAt_76 (by decide) (fun c76 => ?_) (fun c76 => ?_)
            · refine lv_iinc (v := (nI (j + 1))) (lv' := [(4, .int (nI (j + 1))), (5, .int (nI k)), (3, .int (nI N)), (2, .int (nI r)), (1, .int (nI t)), (0, .ref (a o))]) hx hb dX2_pullAt_137 hl (k := 1) rfl (inc1 _) (Nat.le_of_ble_eq_true rfl) rfl (fun ls hl => ?_)
              refine lv_goto (tgt := 14) hx hb dX2_pullAt_140 (by decide) ?_
              exact ih _ (by omega) (j + 1) (quS T t rest) (tkT qt k) (tkQ (vs T) qt qp k) r rfl (by rw [← hTT, show N - j = (N - (j + 1)) + 1 by omega, show P - r = (P - r - 1) + 1 by omega, pullN_no hq c76]) (by omega) (by omega) (by rw [quS_len]; rw [hq] at hlen; simp only [List.length_cons] at hlen; omega) (Inv_quS hIT) hRep2 hhT hPT hPu _ _ _ HW (lv_sub hl [0, 2, 3, 4, 5] rfl)
            · refine lv_aload_n hx hb dX2_pullAt_79 rfl (lv_at hl 5 rfl) ?_
              refine g_get CX HW in_X2_pullAt_2 0 6 rfl rfl (Nat.le_of_ble_eq_true rfl) fl_X2_pullAt_38 rfl dX2_pullAt_80 ?_
              refine g_get CX HW in_X2_pullAt_1 9 2 rfl rfl (Nat.le_of_ble_eq_true rfl) fl_X2_pullAt_93 rfl dX2_pullAt_83 ?_
              refine lv_iload hx hb dX2_pullAt_86 (lv_at hl 0 rfl) ?_
              refine lv_dup2_11 hx hb dX2_pullAt_88 rfl rfl ?_
              refine g_ald CX HW 11 (k := k) rfl rfl rfl hk8 (Nat.le_of_ble_eq_true rfl) dX2_pullAt_89 ?_
              refine lv_iconst (v := 1) hx hb dX2_pullAt_90 (by decide) ?_
              refine lv_isub hx hb dX2_pullAt_91 ?_
              refine g_ast CX HW 11 (k := k) rfl rfl rfl hk8 (Nat.le_of_ble_eq_true rfl) dX2_pullAt_92 (fun H locs HW => ?_)
              have HW : Hw D A s (wVo cI a o (vh T) (vc T) (vA T 0) (vA T 1) (vA S 2) ++ (wR cI a (o + 4) (vr T) (vA T 3) (vA T 4) (vA T 5) (vA T 6) ++ (wS cI a (o + 9) (vs T) (vA T 7) (upd (vA T 8) k (((vA T 8) k) - (1 : Int32))) (vA T 9) (vA T 10) (vA T 11) (vA T 12) (tkT qt k) (tkQ (vs T) qt qp k)))) H locs := HW
              refine lv_aload_n hx hb dX2_pullAt_93 rfl (lv_at hl 5 rfl) ?_
              refine lv_dup hx hb dX2_pullAt_94 rfl ?_
              refine g_get CX HW in_X2_pullAt_2 0 1 rfl rfl (Nat.le_of_ble_eq_true rfl) fl_X2_pullAt_15 rfl dX2_pullAt_95 ?_
              refine lv_iconst (v := 1) hx hb dX2_pullAt_98 (by decide) ?_
              refine lv_iadd hx hb dX2_pullAt_99 ?_
              refine g_put CX HW in_X2_pullAt_2 tyX2 tyX2_ok nmX2 0 1 rfl rfl (Nat.le_of_ble_eq_true rfl) fl_X2_pullAt_15 rfl rfl rfl (Nat.le_of_ble_eq_true rfl) dX2_pullAt_100 (fun H locs HW => ?_)
              have HW : Hw D A s (wVo cI a o (vh T) (vc T + (1 : Int32)) (vA T 0) (vA T 1) (vA S 2) ++ (wR cI a (o + 4) (vr T) (vA T 3) (vA T 4) (vA T 5) (vA T 6) ++ (wS cI a (o + 9) (vs T) (vA T 7) (upd (vA T 8) k (((vA T 8) k) - (1 : Int32))) (vA T 9) (vA T 10) (vA T 11) (vA T 12) (tkT qt k) (tkQ (vs T) qt qp k)))) H locs := HW
              refine lv_aload_n hx hb dX2_pullAt_103 rfl (lv_at hl 5 rfl) ?_
              refine g_get CX HW in_X2_pullAt_2 0 6 rfl rfl (Nat.le_of_ble_eq_true rfl) fl_X2_pullAt_38 rfl dX2_pullAt_104 ?_
              refine g_get CX HW in_X2_pullAt_1 9 6 rfl rfl (Nat.le_of_ble_eq_true rfl) fl_X2_pullAt_95 rfl dX2_pullAt_107 ?_
              refine lv_iload hx hb dX2_pullAt_110 (lv_at hl 0 rfl) ?_
              refine lv_dup2_11 hx hb dX2_pullAt_112 rfl rfl ?_
              refine g_ald CX HW 15 (k := k) rfl rfl rfl hk8 (Nat.le_of_ble_eq_true rfl) dX2_pullAt_113 ?_
              refine lv_iconst (v := 1) hx hb dX2_pullAt_114 (by decide) ?_
              refine lv_iadd hx hb dX2_pullAt_115 ?_
              refine g_ast CX HW 15 (k := k) rfl rfl rfl hk8 (Nat.le_of_ble_eq_true rfl) dX2_pullAt_116 (fun H locs HW => ?_)
              have HW : Hw D A s (wVo cI a o (vh T) (vc T + (1 : Int32)) (vA T 0) (vA T 1) (vA S 2) ++ (wR cI a (o + 4) (vr T) (vA T 3) (vA T 4) (vA T 5) (vA T 6) ++ (wS cI a (o + 9) (vs T) (vA T 7) (upd (vA T 8) k (((vA T 8) k) - (1 : Int32))) (vA T 9) (vA T 10) (vA T 11) (upd (vA T 12) k (((vA T 12) k) + (1 : Int32))) (tkT qt k) (tkQ (vs T) qt qp k)))) H locs := HW
              refine lv_iinc (v := (nI (r + 1))) (lv' := [(2, .int (nI (r + 1))), (5, .int (nI k)), (4, .int (nI j)), (3, .int (nI N)), (1, .int (nI t)), (0, .ref (a o))]) hx hb dX2_pullAt_117 hl (k := 3) rfl (inc1 _) (Nat.le_of_ble_eq_true rfl) rfl (fun ls hl => ?_)
              refine lv_aload_n hx hb dX2_pullAt_120 rfl (lv_at hl 5 rfl) ?_
              refine lv_iload hx hb dX2_pullAt_121 (lv_at hl 1 rfl) ?_
              refine lv_iload_n hx hb dX2_pullAt_123 rfl (lv_at hl 4 rfl) ?_
              refine g_callV CX HW hl.1 ([]) ([]) (c_X2_skiDown o (payS t k (quS T t rest)) (tkT qt k) (tkQ (vs T) qt qp k) (vA S 2) k t hk8 hIT.1 hhT) rfl 0 rfl rfl gX2_pullAt_X2_skiDown rfl ⟨rfl, hd_X2_skiDown⟩ ⟨rfl, rfl, (Nat.le_of_ble_eq_true rfl), (Nat.le_of_ble_eq_true rfl)⟩ ⟨(Nat.zero_le _), (Nat.zero_le _)⟩ rfl rfl (Nat.le_of_ble_eq_true rfl) dX2_pullAt_124 (fun v w1 H locs hp HW => ?_)
              obtain ⟨rfl, rfl⟩ := hp
              have HW : Hw D A s (wVo cI a o (vh (skiS t k (payS t k (quS T t rest)))) (vc (skiS t k (payS t k (quS T t rest)))) (vA (skiS t k (payS t k (quS T t rest))) 0) (vA (skiS t k (payS t k (quS T t rest))) 1) (vA S 2) ++ (wR cI a (o + 4) (vr (skiS t k (payS t k (quS T t rest)))) (vA (skiS t k (payS t k (quS T t rest))) 3) (vA (skiS t k (payS t k (quS T t rest))) 4) (vA (skiS t k (payS t k (quS T t rest))) 5) (vA (skiS t k (payS t k (quS T t rest))) 6) ++ (wS cI a (o + 9) (vs (skiS t k (payS t k (quS T t rest)))) (vA (skiS t k (payS t k (quS T t rest))) 7) (vA (skiS t k (payS t k (quS T t rest))) 8) (vA (skiS t k (payS t k (quS T t rest))) 9) (vA (skiS t k (payS t k (quS T t rest))) 10) (vA (skiS t k (payS t k (quS T t rest))) 11) (vA (skiS t k (payS t k (quS T t rest))) 12) (tkT qt k) (tkQ (vs T) qt qp k)))) H locs := HW
              refine W.eq (g2 := F0 m 127 ls []) rfl ?_
              refine lv_aload_n hx hb dX2_pullAt_127 rfl (lv_at hl 5 rfl) ?_
              refine g_get CX HW in_X2_pullAt_2 0 6 rfl rfl (Nat.le_of_ble_eq_true rfl) fl_X2_pullAt_38 rfl dX2_pullAt_128 ?_
              refine lv_iload hx hb dX2_pullAt_131 (lv_at hl 1 rfl) ?_
              refine lv_iload_n hx hb dX2_pullAt_133 rfl (lv_at hl 4 rfl) ?_
              refine g_callV CX HW hl.1 (wVo cI a o (vh (skiS t k (payS t k (quS T t rest)))) (vc (skiS t k (payS t k (quS T t rest)))) (vA (skiS t k (payS t k (quS T t rest))) 0) (vA (skiS t k (payS t k (quS T t rest))) 1) (vA S 2) ++ (wR cI a (o + 4) (vr (skiS t k (payS t k (quS T t rest)))) (vA (skiS t k (payS t k (quS T t rest))) 3) (vA (skiS t k (payS t k (quS T t rest))) 4) (vA (skiS t k (payS t k (quS T t rest))) 5) (vA (skiS t k (payS t k (quS T t rest))) 6))) ([]) (c_X1_putAtEnd (o + 9) (vs (skiS t k (payS t k (quS T t rest)))) (vA (skiS t k (payS t k (quS T t rest))) 7) (vA (skiS t k (payS t k (quS T t rest))) 8) (vA (skiS t k (payS t k (quS T t rest))) 9) (vA (skiS t k (payS t k (quS T t rest))) 10) (vA (skiS t k (payS t k (quS T t rest))) 11) (vA (skiS t k (payS t k (quS T t rest))) 12) (tkT qt k) (tkQ (vs T) qt qp k) k (nI t) (by rw [vs_skiS]; exact hIT.2.1) hk8) rfl 0 rfl rfl gX2_pullAt_X1_putAtEnd rfl ⟨rfl, hd_X1_putAtEnd⟩ ⟨rfl, rfl, (Nat.le_of_ble_eq_true rfl), (Nat.le_of_ble_eq_true rfl)⟩ ⟨(Nat.zero_le _), (Nat.zero_le _)⟩ rfl rfl (Nat.le_of_ble_eq_true rfl) dX2_pullAt_134 (fun v w1 H locs hp HW => ?_)
              obtain ⟨rfl, rfl⟩ := hp
              have HW : Hw D A s (wVo cI a o (vh (skiS t k (payS t k (quS T t rest)))) (vc (skiS t k (payS t k (quS T t rest)))) (vA (skiS t k (payS t k (quS T t rest))) 0) (vA (skiS t k (payS t k (quS T t rest))) 1) (vA S 2) ++ (wR cI a (o + 4) (vr (skiS t k (payS t k (quS T t rest)))) (vA (skiS t k (payS t k (quS T t rest))) 3) (vA (skiS t k (payS t k (quS T t rest))) 4) (vA (skiS t k (payS t k (quS T t rest))) 5) (vA (skiS t k (payS t k (quS T t rest))) 6) ++ (wS cI a (o + 9) (vs (skiS t k (payS t k (quS T t rest)))) (vA (skiS t k (payS t k (quS T t rest))) 7) (vA (skiS t k (payS t k (quS T t rest))) 8) (vA (skiS t k (payS t k (quS T t rest))) 9) (vA (skiS t k (payS t k (quS T t rest))) 10) (vA (skiS t k (payS t k (quS T t rest))) 11) (vA (skiS t k (payS t k (quS T t rest))) 12) (upd (tkT qt k) k (nI t)) (upd (tkQ (vs T) qt qp k) k (nI (cntE (tkT qt k) (nI t) (vs (skiS t k (payS t k (quS T t rest)))))))))) H locs := HW
              refine W.eq (g2 := F0 m 137 ls []) rfl ?_
              refine lv_iinc (v := (nI (j + 1))) (lv' := [(4, .int (nI (j + 1))), (2, .int (nI (r + 1))), (5, .int (nI k)), (3, .int (nI N)), (1, .int (nI t)), (0, .ref (a o))]) hx hb dX2_pullAt_137 hl (k := 2) rfl (inc1 _) (Nat.le_of_ble_eq_true rfl) rfl (fun ls hl => ?_)
              refine lv_goto (tgt := 14) hx hb dX2_pullAt_140 (by decide) ?_
              exact ih _ (by omega) (j + 1) (quS (skiS t k (payS t k (quS T t rest))) t (rest ++ [k])) _ _ (r + 1) rfl (by rw [← hTT, show N - j = (N - (j + 1)) + 1 by omega, show P - r = (P - (r + 1)) + 1 by omega, pullN_yes hq c76]) (by omega) (by omega) (by rw [quS_len]; rw [hq] at hlen; simp only [List.length_cons, List.length_append] at hlen ⊢; omega) (Inv_quS (Inv_skiS hk (Inv_payS hk c76 (Inv_quS hIT)))) (by show Rep (vs (skiS t k (payS t k (quS T t rest)))) (setQ (vq (skiS t k (payS t k (quS T t rest)))) t (rest ++ [k])) _ _; rw [vs_skiS, vq_skiS]; exact rep_put3 hRep2 hIT.2.1 ht hk) (by show vh (skiS t k (payS t k (quS T t rest))) < _; rw [vh_skiS]; exact hhT) (by show vA (skiS t k (payS t k (quS T t rest))) 1 t = _; rw [vA_skiS (by decide)]; exact hPT) (by show vA (skiS t k (payS t k (quS T t rest))) 2 = _; rw [vA_skiS (by decide)]; exact pu_step hPu) _ _ _ HW (lv_sub hl [0, 3, 1, 4, 5] rfl)
          · exact absurd ⟨nI_pos' (by omega), (nI_ltI (by omega) (by have := hIT.2.1; omega)).mpr hk⟩ c50
  refine lv_iconst (v := 0) hx hb dX2_pullAt_0 (by decide) ?_
  refine lv_istore_n (lv' := [(2, .int (0 : Int32)), (0, .ref (a o)), (1, .int (nI t))]) hx hb dX2_pullAt_1 rfl hl (Nat.le_of_ble_eq_true rfl) rfl (fun ls hl => ?_)
  refine lv_aload_n hx hb dX2_pullAt_2 rfl (lv_at hl 1 rfl) ?_
  refine g_get CX HW in_X2_pullAt_2 0 6 rfl rfl (Nat.le_of_ble_eq_true rfl) fl_X2_pullAt_38 rfl dX2_pullAt_3 ?_
  refine lv_iload_n hx hb dX2_pullAt_6 rfl (lv_at hl 2 rfl) ?_
  refine g_callV CX HW hl.1 (wVo cI a o (vh S) (vc S) (vA S 0) (vA S 1) (vA S 2) ++ (wR cI a (o + 4) (vr S) (vA S 3) (vA S 4) (vA S 5) (vA S 6))) ([]) (c_X1_waitingAt (o + 9) (vs S) (vA S 7) (vA S 8) (vA S 9) (vA S 10) (vA S 11) (vA S 12) qt qp (nI t) hI.2.1) rfl 0 rfl rfl gX2_pullAt_X1_waitingAt rfl ⟨rfl, hd_X1_waitingAt⟩ ⟨rfl, rfl, (Nat.le_of_ble_eq_true rfl), (Nat.le_of_ble_eq_true rfl)⟩ ⟨(Nat.zero_le _), (Nat.zero_le _)⟩ rfl rfl (Nat.le_of_ble_eq_true rfl) dX2_pullAt_7 (fun v w1 H locs hp HW => ?_)
  obtain ⟨rfl, rfl⟩ := hp
  have HW : Hw D A s (wVo cI a o (vh S) (vc S) (vA S 0) (vA S 1) (vA S 2) ++ (wR cI a (o + 4) (vr S) (vA S 3) (vA S 4) (vA S 5) (vA S 6) ++ (wS cI a (o + 9) (vs S) (vA S 7) (vA S 8) (vA S 9) (vA S 10) (vA S 11) (vA S 12) qt qp))) H locs := HW
  refine W.eq (g2 := F0 m 10 ls [.int (nI (cntE qt (nI t) (vs S)))]) rfl ?_
  refine g_top (y := (nI N)) (by rw [hN, hR.2.2 t ht]) ?_
  refine lv_istore_n (lv' := [(3, .int (nI N)), (2, .int (0 : Int32)), (0, .ref (a o)), (1, .int (nI t))]) hx hb dX2_pullAt_10 rfl hl (Nat.le_of_ble_eq_true rfl) rfl (fun ls hl => ?_)
  refine lv_iconst (v := 0) hx hb dX2_pullAt_11 (by decide) ?_
  refine lv_istore (lv' := [(4, .int (0 : Int32)), (3, .int (nI N)), (2, .int (0 : Int32)), (0, .ref (a o)), (1, .int (nI t))]) hx hb dX2_pullAt_12 hl (Nat.le_of_ble_eq_true rfl) rfl (fun ls hl => ?_)
  exact loop _ 0 S qt qp 0 rfl (by rw [Nat.sub_zero, Nat.sub_zero, hN]; unfold pullS; rw [hP, natI_nI (by omega)]) (by omega) (by omega) (by omega) hI hR hh hP (by rw [nI_0, Int32.add_zero]; exact (upd_self _ _).symm) _ _ _ HW (lv_sub hl [0, 1, 2, 4, 3] rfl)
