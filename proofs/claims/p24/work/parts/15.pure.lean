theorem setQ_at (q : Nat → List Nat) (t : Nat) (x : List Nat) : setQ q t x t = x := by simp [setQ]
theorem Qk_ride {T : VS} {t k : Nat} {rest : List Nat} (ht : t < 3) (hq : vq T t = k :: rest) (h : Qk (vs T) (vq T)) : Qk (vs (quS (skiS t k (payS t k (quS T t rest))) t (rest ++ [k]))) (vq (quS (skiS t k (payS t k (quS T t rest))) t (rest ++ [k]))) := by
  show Qk (vs (skiS t k (payS t k (quS T t rest)))) (setQ (vq (skiS t k (payS t k (quS T t rest)))) t (rest ++ [k]))
  rw [vs_ride, vq_ride]
  have hr : ∀ j, j ∈ rest → j < vs T := fun j hj => h t ht j (by rw [hq]; exact List.mem_cons_of_mem _ hj)
  refine Qk_set (Qk_set h hr) (fun j hj => ?_)
  rcases List.mem_append.mp hj with h5 | h5
  · exact hr j h5
  · rw [List.mem_singleton.mp h5]; exact h t ht k (by rw [hq]; exact List.mem_cons_self)
theorem sumP_ride {T : VS} {t k : Nat} {x y : List Nat} (ht : t < 3) : sumP (quS (skiS t k (payS t k (quS T t x))) t y) = sumP T + 1 := by
  show 0 + vA (skiS t k (payS t k (quS T t x))) 2 0 + vA (skiS t k (payS t k (quS T t x))) 2 1 + vA (skiS t k (payS t k (quS T t x))) 2 2 = sumP T + 1
  rw [vA_skiS (by decide)]
  show 0 + upd (vA T 2) t (vA T 2 t + 1) 0 + upd (vA T 2) t (vA T 2 t + 1) 1 + upd (vA T 2) t (vA T 2 t + 1) 2 = 0 + vA T 2 0 + vA T 2 1 + vA T 2 2 + 1
  rcases (by omega : t = 0 ∨ t = 1 ∨ t = 2) with rfl | rfl | rfl
  · rw [pk_us, pk_un (by decide), pk_un (by decide)]; ac_rfl
  · rw [pk_us, pk_un (by decide), pk_un (by decide)]; ac_rfl
  · rw [pk_us, pk_un (by decide), pk_un (by decide)]; ac_rfl
/-! what the law's checks rest on -/
theorem sumN_out {f : Nat → Int32} {v : Int32} {k : Nat} : ∀ {n : Nat}, n ≤ k → sumN (upd f k v) n = sumN f n := by
  intro n
  induction n with
  | zero => intro _; rfl
  | succ n ih => intro h; simp only [sumN]; rw [ih (by omega), pk_un (show n ≠ k by omega)]
theorem sumN_upd {f : Nat → Int32} {v : Int32} {k : Nat} : ∀ {n : Nat}, k < n → sumN (upd f k v) n + f k = sumN f n + v := by
  intro n
  induction n with
  | zero => intro h; omega
  | succ n ih =>
    intro h
    simp only [sumN]
    by_cases hk : k = n
    · subst hk
      rw [sumN_out (Nat.le_refl _), pk_us]
      ac_rfl
    · rw [pk_un (fun h9 => hk h9.symm)]
      have h1 := ih (by omega)
      grind
theorem sumN_0 {f : Nat → Int32} (h : ∀ j, f j = 0) : ∀ n, sumN f n = 0
  | 0 => rfl
  | n + 1 => by simp only [sumN]; rw [sumN_0 h n, h n]; rfl
theorem sumN_b {f : Nat → Int32} (h : ∀ j, ∃ z : Nat, z ≤ 999 ∧ f j = nI z) : ∀ n, ∃ z : Nat, z ≤ 999 * n ∧ sumN f n = nI z
  | 0 => ⟨0, by omega, rfl⟩
  | n + 1 => by
    obtain ⟨z, h1, h2⟩ := sumN_b h n
    obtain ⟨y, h3, h4⟩ := h n
    refine ⟨z + y, by omega, ?_⟩
    simp only [sumN]; rw [h2, h4, nI_add]
theorem heldI_999 (x : Int32) : ∃ d : Nat, d ≤ 999 ∧ heldI x 0 999 = nI d := by
  unfold heldI
  by_cases h1 : x < 999
  · rw [if_pos h1]
    by_cases h2 : 0 < x
    · rw [if_pos h2]
      exact nI_of2 (M := 999) (n := 999) (by decide) (Int32.not_lt.mpr (Int32.le_of_lt h2)) (Int32.le_of_lt h1)
    · rw [if_neg h2]; exact ⟨0, by omega, rfl⟩
  · rw [if_neg h1, if_pos (by decide)]; exact ⟨999, by omega, rfl⟩
theorem pt_ski {t k : Nat} {S : VS} (h : ∀ j, ∃ z : Nat, z ≤ 999 ∧ vA S 11 j = nI z) : ∀ j, ∃ z : Nat, z ≤ 999 ∧ vA (skiS t k S) 11 j = nI z := by
  intro j
  cases hb : bestR (vA S 3) (vA S 4) (vA S 5) (nI t) (vA S 7 k + 1) (vr S) with
  | none => rw [skiS_none hb]; exact h j
  | some r =>
    rw [skiS_some hb]
    show ∃ z : Nat, z ≤ 999 ∧ upd (vA S 11) k (heldI (vA S 11 k + (3 * vA S 4 r + vA S 7 k + glR (vA S 9) (vA S 10) k (vA S 0 (vh S % 6)))) 0 999) j = nI z
    by_cases hj : j = k
    · rw [hj, pk_us]; exact heldI_999 _
    · rw [pk_un hj]; exact h j
/-- coins, rides and points as they are always -/
def KP (all : Int32) (T : VS) : Prop := vr T = 4 ∧ vs T = 5 ∧ Qk 5 (vq T) ∧ vc T + sumN (vA T 8) 5 = all ∧ sumN (vA T 12) 5 = sumP T ∧ ∀ j, ∃ z : Nat, z ≤ 999 ∧ vA T 11 j = nI z
theorem kp_pull {all : Int32} {t : Nat} {S : VS} (ht : t < 3) (h : KP all S) : KP all (pullS t S) := by
  refine pullN_ind (P := KP all) (fun T k rest h hq _ => ?_) (fun T k rest h hq _ => ?_) _ _ S h
  · obtain ⟨h1, h2, h3, h4, h5, h6⟩ := h
    exact ⟨h1, h2, Qk_set h3 (fun j hj => h3 t ht j (by rw [hq]; exact List.mem_cons_of_mem _ hj)), h4, h5, h6⟩
  · obtain ⟨h1, h2, h3, h4, h5, h6⟩ := h
    have hk : k < 5 := h3 t ht k (by rw [hq]; exact List.mem_cons_self)
    have hQ := Qk_ride ht hq (by rw [h2]; exact h3)
    have hv : vs (quS (skiS t k (payS t k (quS T t rest))) t (rest ++ [k])) = 5 := by
      show vs (skiS t k (payS t k (quS T t rest))) = 5
      rw [vs_ride]; exact h2
    refine ⟨?_, hv, by rw [hv] at hQ; exact hQ, ?_, ?_, pt_ski (S := payS t k (quS T t rest)) h6⟩
    · show vr (skiS t k (payS t k (quS T t rest))) = 4
      rw [vr_skiS]; exact h1
    · show vc (skiS t k (payS t k (quS T t rest))) + sumN (vA (skiS t k (payS t k (quS T t rest))) 8) 5 = all
      rw [vc_skiS, vA_skiS (by decide)]
      show (vc T + 1) + sumN (upd (vA T 8) k (vA T 8 k - 1)) 5 = all
      have e := sumN_upd (f := vA T 8) (v := vA T 8 k - 1) hk
      grind
    · rw [sumP_ride ht]
      show sumN (vA (skiS t k (payS t k (quS T t rest))) 12) 5 = sumP T + 1
      rw [vA_skiS (by decide)]
      show sumN (upd (vA T 12) k (vA T 12 k + 1)) 5 = sumP T + 1
      have e := sumN_upd (f := vA T 12) (v := vA T 12 k + 1) hk
      grind
theorem kp_hours {all : Int32} {S : VS} (h : KP all S) : ∀ n, KP all (hoursS n S)
  | 0 => h
  | n + 1 => kp_pull (t := 2) (by decide) (kp_pull (t := 1) (by decide) (kp_pull (t := 0) (S := snowS (hoursS n S)) (by decide) (kp_hours h n)))
theorem kd_ski {t k a : Nat} {S : VS} (hr : vr S = 4) (h : sumN (vA S 6) 4 = nI a) : ∃ a1 : Nat, sumN (vA (skiS t k S) 6) 4 = nI a1 ∧ a1 ≤ a + 1 := by
  cases hb : bestR (vA S 3) (vA S 4) (vA S 5) (nI t) (vA S 7 k + 1) (vr S) with
  | none => rw [skiS_none hb]; exact ⟨a, h, by omega⟩
  | some r =>
    have hr9 := bestR_lt hb
    rw [skiS_some hb]
    refine ⟨a + 1, ?_, Nat.le_refl _⟩
    show sumN (upd (vA S 6) r (vA S 6 r + 1)) 4 = nI (a + 1)
    have e := sumN_upd (f := vA S 6) (v := vA S 6 r + 1) (n := 4) (k := r) (by omega)
    have e2 : sumN (upd (vA S 6) r (vA S 6 r + 1)) 4 = nI a + 1 := by grind
    rw [e2]; exact nI_1 a
theorem kd_pullN {t : Nat} (ht : t < 3) : ∀ (n p : Nat) (T : VS) (a b : Nat), vr T = 4 → sumN (vA T 6) 4 = nI a → sumP T = nI b → a ≤ b → ∃ a1 b1 : Nat, sumN (vA (pullN t n p T) 6) 4 = nI a1 ∧ sumP (pullN t n p T) = nI b1 ∧ a1 ≤ b1 ∧ b1 ≤ b + p := by
  intro n
  induction n with
  | zero => intro p T a b h1 h2 h3 h4; exact ⟨a, b, h2, h3, h4, by omega⟩
  | succ n ih =>
    intro p T a b h1 h2 h3 h4
    cases p with
    | zero => exact ⟨a, b, h2, h3, h4, by omega⟩
    | succ p =>
      cases hq : vq T t with
      | nil => simp only [pullN, hq]; exact ⟨a, b, h2, h3, h4, by omega⟩
      | cons k rest =>
        by_cases hc : vA T 8 k < 1
        · rw [pullN_no hq hc]; exact ih (p + 1) (quS T t rest) a b h1 h2 h3 h4
        · rw [pullN_yes hq hc]
          obtain ⟨a1, e1, e2⟩ := kd_ski (t := t) (k := k) (a := a) (S := payS t k (quS T t rest)) h1 h2
          obtain ⟨a2, b2, q1, q2, q3, q4⟩ := ih p (quS (skiS t k (payS t k (quS T t rest))) t (rest ++ [k])) a1 (b + 1) (by show vr (skiS t k (payS t k (quS T t rest))) = 4; rw [vr_skiS]; exact h1) e1 (by rw [sumP_ride ht, h3]; exact nI_1 b) (by omega)
          exact ⟨a2, b2, q1, q2, q3, by omega⟩
/-- skied, rides: no more skied than ridden, and few enough -/
def KD (T : VS) (b0 : Nat) : Prop := ∃ a b : Nat, sumN (vA T 6) 4 = nI a ∧ sumP T = nI b ∧ a ≤ b ∧ b ≤ b0
theorem kd_pull {t b : Nat} {S : VS} (ht : t < 3) (hp : ∃ p : Nat, 1 ≤ p ∧ p ≤ 4 ∧ vA S 1 t = nI p) (hr : vr S = 4) (h : KD S b) : KD (pullS t S) (b + 4) := by
  obtain ⟨a, b1, h1, h2, h3, h4⟩ := h
  obtain ⟨p, -, hp4, ep⟩ := hp
  obtain ⟨a2, b2, q1, q2, q3, q4⟩ := kd_pullN ht (vq S t).length (natI (vA S 1 t)) S a b1 hr h1 h2 h3
  rw [ep, natI_nI (by omega)] at q4
  exact ⟨a2, b2, q1, q2, q3, by omega⟩
theorem kd_hour {b : Nat} {S : VS} (hp : ∀ t, t < 3 → ∃ p : Nat, 1 ≤ p ∧ p ≤ 4 ∧ vA S 1 t = nI p) (hr : vr S = 4) (h : KD S b) : KD (hourS S) (b + 12) := by
  have p0 := kd_pull (t := 0) (S := snowS S) (by decide) (hp 0 (by decide)) hr h
  have p1 := kd_pull (t := 1) (S := pullS 0 (snowS S)) (by decide) (by rw [vA_pullS (by decide) (by decide)]; exact hp 1 (by decide)) (by rw [vr_pullS]; exact hr) p0
  have p2 := kd_pull (t := 2) (S := pullS 1 (pullS 0 (snowS S))) (by decide) (by rw [vA_pullS (by decide) (by decide), vA_pullS (by decide) (by decide)]; exact hp 2 (by decide)) (by rw [vr_pullS, vr_pullS]; exact hr) p1
  exact p2
theorem kd_hours {b : Nat} {S : VS} (hI : Inv S) (hq : Qk (vs S) (vq S)) (hr : vr S = 4) (h : KD S b) : ∀ n, KD (hoursS n S) (b + 12 * n)
  | 0 => h
  | n + 1 => kd_hour (S := hoursS n S) (b := b + 12 * n) (InvQ_hoursS hI hq n).1.2.2.2.1 (by rw [vr_hoursS]; exact hr) (kd_hours hI hq hr h n)
/-- what the law's loop keeps -/
def PI (sk : Nat → Nat) (all : Int32) (n : Nat) (S : VS) : Prop :=
  Inv S ∧ vr S = 4 ∧ vs S = 5 ∧ vh S ≤ 2 * n ∧ (∀ k, k < 5 → vA S 7 k = nI (sk k)) ∧ vc S + sumN (vA S 8) 5 = all ∧ sumN (vA S 12) 5 = sumP S ∧ (∀ j, ∃ z : Nat, z ≤ 999 ∧ vA S 11 j = nI z) ∧ (∀ j, ∃ z : Nat, z < 4 ∧ vA S 9 j = nI z) ∧ KD S (24 * n)
section PIL
variable {sk : Nat → Nat} {all : Int32} {n : Nat} {S : VS}
theorem PI.inv (h : PI sk all n S) : Inv S := h.1
theorem PI.r4 (h : PI sk all n S) : vr S = 4 := h.2.1
theorem PI.s5 (h : PI sk all n S) : vs S = 5 := h.2.2.1
theorem PI.hh (h : PI sk all n S) : vh S ≤ 2 * n := h.2.2.2.1
theorem PI.skill (h : PI sk all n S) : ∀ k, k < 5 → vA S 7 k = nI (sk k) := h.2.2.2.2.1
theorem PI.coins (h : PI sk all n S) : vc S + sumN (vA S 8) 5 = all := h.2.2.2.2.2.1
theorem PI.rides (h : PI sk all n S) : sumN (vA S 12) 5 = sumP S := h.2.2.2.2.2.2.1
theorem PI.pts (h : PI sk all n S) : ∀ j, ∃ z : Nat, z ≤ 999 ∧ vA S 11 j = nI z := h.2.2.2.2.2.2.2.1
theorem PI.wax (h : PI sk all n S) : ∀ j, ∃ z : Nat, z < 4 ∧ vA S 9 j = nI z := h.2.2.2.2.2.2.2.2.1
theorem PI.kd (h : PI sk all n S) : KD S (24 * n) := h.2.2.2.2.2.2.2.2.2
theorem pi_vi (h : VI sk 4 5 S) : PI sk (vc S + sumN (vA S 8) 5) 0 S := by
  obtain ⟨h1, hr, hv, hh, q2, q6, q11, q12, q9, q10, q7⟩ := h
  have e : sumP S = nI 0 := by show 0 + vA S 2 0 + vA S 2 1 + vA S 2 2 = nI 0; rw [q2, q2, q2]; rfl
  refine ⟨h1, hr, hv, by omega, q7, rfl, by rw [sumN_0 q12, e]; rfl, fun j => ⟨0, by omega, q11 j⟩, q9, 0, 0, by rw [sumN_0 q6]; rfl, e, Nat.le_refl _, Nat.zero_le _⟩
theorem pi_up (h : PI sk all n S) : PI sk all (n + 1) S := by
  obtain ⟨h1, h2, h3, h4, h5, h6, h7, h8, h9, a, b, q1, q2, q3, q4⟩ := h
  exact ⟨h1, h2, h3, by omega, h5, h6, h7, h8, h9, a, b, q1, q2, q3, by omega⟩
theorem pi_join {k t : Nat} (h : PI sk all n S) : PI sk all n (gJoin S k t) := h
theorem pi_lea {k : Nat} (h : PI sk all n S) : PI sk all n (gLea S k) := h
theorem pi_wax {k f : Nat} (h : PI sk all n S) (hk : k < 5) (hf : f ≤ 3) (hc : 2 ≤ vA S 8 k) : PI sk all n (gWax S k f) := by
  obtain ⟨h1, h2, h3, h4, h5, h6, h7, h8, h9, h10⟩ := h
  refine ⟨inv_wax h1 (by omega) hc, h2, h3, h4, h5, ?_, h7, h8, wx_wax hf h9, h10⟩
  show (vc S + 2) + sumN (upd (vA S 8) k (vA S 8 k - 2)) 5 = all
  have e := sumN_upd (f := vA S 8) (v := vA S 8 k - 2) hk
  grind
theorem pi_hours (h : PI sk all n S) (hq : Qk (vs S) (vq S)) : PI sk all (n + 1) (hoursS 2 S) := by
  obtain ⟨h1, h2, h3, h4, h5, h6, h7, h8, h9, h10⟩ := h
  have hk := kp_hours (all := all) ⟨h2, h3, by rw [h3] at hq; exact hq, h6, h7, h8⟩ 2
  refine ⟨(InvQ_hoursS h1 hq 2).1, hk.1, hk.2.1, by rw [vh_hoursS]; omega, by rw [vA_hoursS (by decide) (by decide)]; exact h5, hk.2.2.2.1, hk.2.2.2.2.1, hk.2.2.2.2.2, by rw [vA_hoursS (by decide) (by decide)]; exact h9, ?_⟩
  exact kd_hours h1 hq h2 h10 2
theorem coin_of (h : PI sk all n S) {k : Nat} (hk : k < 5) : ∃ z : Nat, z ≤ 60 ∧ vA S 8 k = nI z := (h.inv.2.2.2.2.2 k (by have := h.s5; omega)).2.1
theorem lay_of (h : PI sk all n S) {k : Nat} (hk : k < 5) : ∃ z : Nat, z ≤ 10 ∧ vA S 10 k = nI z := (h.inv.2.2.2.2.2 k (by have := h.s5; omega)).2.2
/-- a layer of 0 is no wax -/
theorem lay_wax (h : PI sk all n S) {k : Nat} (hk : k < 5) : figK S k 3 = 0 ↔ figK S k 2 < 0 := by
  obtain ⟨z, hz, e⟩ := lay_of h hk
  obtain ⟨w, hw, e2⟩ := h.wax k
  show vA S 10 k = 0 ↔ (if 0 < vA S 10 k then vA S 9 k else -1) < 0
  rw [e, e2]
  rcases Nat.eq_zero_or_pos z with h0 | h0
  · subst h0
    exact ⟨fun _ => by rw [if_neg (show ¬ (0 : Int32) < nI 0 by decide)]; decide, fun _ => rfl⟩
  · have h1 : (0 : Int32) < nI z := (nI_ltI (a := 0) (b := z) (by decide) (by omega)).mpr h0
    rw [if_pos h1]
    exact ⟨fun h9 => absurd (nI_inj (b := 0) (by omega) (by decide) h9) (by omega), fun h9 => absurd h9 (nI_pos (by omega))⟩
end PIL
/-- k stands nowhere -/
def AB (k : Nat) (r : Int32) (T : VS) : Prop := (∀ t, t < 3 → k ∉ vq T t) ∧ vA T 12 k = r
theorem ab_pull {k t : Nat} {r : Int32} {S : VS} (ht : t < 3) (h : AB k r S) : AB k r (pullS t S) := by
  refine pullN_ind (P := AB k r) (fun T j rest h hq _ => ?_) (fun T j rest h hq _ => ?_) _ _ S h
  · obtain ⟨h1, h2⟩ := h
    refine ⟨fun t1 ht1 hm => ?_, h2⟩
    have hm : k ∈ setQ (vq T) t rest t1 := hm
    by_cases e : t1 = t
    · rw [e, setQ_at] at hm; exact h1 t ht (by rw [hq]; exact List.mem_cons_of_mem _ hm)
    · simp only [setQ, if_neg e] at hm; exact h1 t1 ht1 hm
  · obtain ⟨h1, h2⟩ := h
    have hjk : j ≠ k := fun e => h1 t ht (by rw [hq, e]; exact List.mem_cons_self)
    refine ⟨fun t1 ht1 hm => ?_, ?_⟩
    · have hm : k ∈ setQ (vq (skiS t j (payS t j (quS T t rest)))) t (rest ++ [j]) t1 := hm
      rw [vq_ride] at hm
      by_cases e : t1 = t
      · rw [e, setQ_at] at hm
        rcases List.mem_append.mp hm with h5 | h5
        · exact h1 t ht (by rw [hq]; exact List.mem_cons_of_mem _ h5)
        · exact hjk (List.mem_singleton.mp h5).symm
      · simp only [setQ, if_neg e] at hm; exact h1 t1 ht1 hm
    · show vA (skiS t j (payS t j (quS T t rest))) 12 k = r
      rw [vA_skiS (by decide)]
      show upd (vA T 12) j (vA T 12 j + 1) k = r
      rw [pk_un (Ne.symm hjk)]; exact h2
theorem ab_hours {k : Nat} {r : Int32} {S : VS} (h : AB k r S) : ∀ n, AB k r (hoursS n S)
  | 0 => h
  | n + 1 => ab_pull (t := 2) (by decide) (ab_pull (t := 1) (by decide) (ab_pull (t := 0) (S := snowS (hoursS n S)) (by decide) (ab_hours h n)))
theorem unt_no {k : Nat} {S : VS} (h : ∀ t, t < 3 → k ∉ vq S t) : untS S k = -1 := by
  have key : ∀ n j, untF (vA S 12 k) S k n j = -1 := by
    intro n
    induction n with
    | zero => intro j; rfl
    | succ n ih =>
      intro j
      simp only [untF]
      rw [if_neg (by rw [(ab_hours (r := vA S 12 k) ⟨h, rfl⟩ (j + 1)).2]; exact Int32.lt_irrefl)]
      exact ih _
  exact key _ _
theorem unt_in (k : Nat) (S : VS) : untS S k = -1 ∨ ∃ i : Nat, 1 ≤ i ∧ i ≤ 90 ∧ untS S k = nI i := by
  have key : ∀ (b : Int32) n j, n + j ≤ 90 → untF b S k n j = -1 ∨ ∃ i : Nat, 1 ≤ i ∧ i ≤ 90 ∧ untF b S k n j = nI i := by
    intro b n
    induction n with
    | zero => intro j _; exact Or.inl rfl
    | succ n ih =>
      intro j hj
      simp only [untF]
      split
      · exact Or.inr ⟨j + 1, by omega, by omega, rfl⟩
      · exact ih _ (by omega)
  exact key _ _ _ (by omega)
theorem towQ_neg {q : Nat → List Nat} {k : Nat} (h : towQ q k < 0) : ∀ t, t < 3 → k ∉ q t := by
  unfold towQ at h
  split at h
  · exact absurd h (by decide)
  · split at h
    · exact absurd h (by decide)
    · split at h
      · exact absurd h (by decide)
      · rename_i h0 h1 h2
        intro t ht
        rcases (by omega : t = 0 ∨ t = 1 ∨ t = 2) with rfl | rfl | rfl <;> assumption
theorem towQ_lt {q : Nat → List Nat} {k : Nat} (h : towQ q k < 0) : towQ q k = -1 := by
  unfold towQ at h ⊢
  split
  · rename_i h0; rw [if_pos h0] at h; exact absurd h (by decide)
  · rename_i h0
    rw [if_neg h0] at h
    split
    · rename_i h1; rw [if_pos h1] at h; exact absurd h (by decide)
    · rename_i h1
      rw [if_neg h1] at h
      split
      · rename_i h2; rw [if_pos h2] at h; exact absurd h (by decide)
      · rfl
theorem towQ_ge {q : Nat → List Nat} {k : Nat} (h : 0 ≤ towQ q k) : ¬ towQ q k = -1 := fun e => absurd h (by rw [e]; decide)
theorem towQ_in {q : Nat → List Nat} {k : Nat} : towQ q k = -1 ↔ ¬ (k ∈ q 0 ∨ k ∈ q 1 ∨ k ∈ q 2) := by
  unfold towQ
  by_cases h0 : k ∈ q 0
  · rw [if_pos h0]; exact ⟨fun h9 => absurd h9 (by decide), fun h9 => absurd (Or.inl h0) h9⟩
  · rw [if_neg h0]
    by_cases h1 : k ∈ q 1
    · rw [if_pos h1]; exact ⟨fun h9 => absurd h9 (by decide), fun h9 => absurd (Or.inr (Or.inl h1)) h9⟩
    · rw [if_neg h1]
      by_cases h2 : k ∈ q 2
      · rw [if_pos h2]; exact ⟨fun h9 => absurd h9 (by decide), fun h9 => absurd (Or.inr (Or.inr h2)) h9⟩
      · rw [if_neg h2]; exact ⟨fun _ h9 => h9.elim h0 (fun h9 => h9.elim h1 h2), fun _ => rfl⟩
theorem join_at (S : VS) (k t : Nat) : vq (gJoin S k t) t = takeQ (vq S) k t ++ [k] := setQ_at _ _ _
theorem join_len (S : VS) (k t : Nat) : (vq (gJoin S k t) t).length = (takeQ (vq S) k t).length + 1 := by rw [join_at, List.length_append]; rfl
theorem join_get (S : VS) (k t : Nat) : (vq (gJoin S k t) t)[(takeQ (vq S) k t).length]? = some k := by rw [join_at]; simp
theorem join_tow {S : VS} {k t : Nat} {qt qp : Nat → Int32} (hR : Rep (vs S) (vq (gJoin S k t)) qt qp) (hn : vs S ≤ 8) (ht : t < 3) : towQ (vq (gJoin S k t)) k = nI t := by
  obtain ⟨h1, h2, -⟩ := hR.2.1 t _ k ht (join_get S k t)
  rw [← rep_towQ hR hn h1, h2]
theorem lea_tow {S : VS} {k : Nat} {qt qp : Nat → Int32} (hR : Rep (vs S) (vq S) qt qp) (hn : vs S ≤ 8) (hk : k < vs S) : towQ (vq (gLea S k)) k = -1 :=
  (rep_towQ (rep_takeQ hR hn hk) hn hk).symm.trans (tkT_k qt k)
theorem cntN_congr {f g : Nat → Int32} : ∀ {n : Nat}, (∀ k, k < n → f k = g k) → cntN f n = cntN g n := by
  intro n
  induction n with
  | zero => intro _; rfl
  | succ n ih => intro h; simp only [cntN]; rw [h n (by omega), ih (fun k hk => h k (by omega))]
theorem cnt_all {S : VS} {qt qp : Nat → Int32} (hR : Rep (vs S) (vq S) qt qp) (hn : vs S ≤ 8) : cntN (towQ (vq S)) (vs S) = (vq S 0).length + (vq S 1).length + (vq S 2).length := by
  rw [← rep_any hR]
  exact (cntN_congr (fun k hk => rep_towQ hR hn hk)).symm
theorem cntN_a (f : Nat → Int32) (k : Nat) : cntN f (k + 1) = cntN f k + (if f k = -1 then 0 else 1) := by
  simp only [cntN]; split <;> rfl
theorem cntN_le (f : Nat → Int32) : ∀ n, cntN f n ≤ n
  | 0 => Nat.le_refl _
  | n + 1 => by rw [cntN_a]; have := cntN_le f n; split <;> omega
/-- the numbers of a list as bits -/
def bset (l : List Nat) : Nat := l.foldl (fun a k => a ||| 2 ^ k) 0
theorem bset_g : ∀ (l : List Nat) (a i : Nat), (l.foldl (fun a k => a ||| 2 ^ k) a).testBit i = (a.testBit i || decide (i ∈ l)) := by
  intro l
  induction l with
  | nil => intro a i; simp
  | cons k l ih =>
    intro a i
    rw [List.foldl_cons, ih, Nat.testBit_or, Nat.testBit_two_pow]
    by_cases h : k = i
    · subst h; simp
    · have h2 : ¬ i = k := fun h9 => h h9.symm
      simp [h, h2]
theorem bset_bit (l : List Nat) (i : Nat) : (bset l).testBit i = decide (i ∈ l) := by rw [bset, bset_g]; simp
theorem bset_lt {l : List Nat} (h : ∀ k, k ∈ l → k < 5) : bset l < 32 :=
  Nat.lt_pow_two_of_testBit (n := 5) (bset l) (fun i hi => by rw [bset_bit]; exact decide_eq_false (fun hm => by have := h i hm; omega))
theorem bset_s (l : List Nat) (k : Nat) : bset (l ++ [k]) = bset l ||| 2 ^ k := by rw [bset, List.foldl_append]; rfl
theorem or5 : ∀ a : Nat, a < 32 → ∀ k : Nat, k < 5 → (nI a ||| ((1 : Int32) <<< (nI k &&& 31))) = nI (a ||| 2 ^ k) := by decide +kernel
/-- the queues of the first tows, one behind another -/
def prf (q : Nat → List Nat) : Nat → List Nat
  | 0 => []
  | t + 1 => prf q t ++ q t
theorem prf_lt {q : Nat → List Nat} (h : Qk 5 q) : ∀ t, t ≤ 3 → ∀ k, k ∈ prf q t → k < 5
  | 0, _, k, hk => absurd hk List.not_mem_nil
  | t + 1, ht, k, hk => (List.mem_append.mp hk).elim (prf_lt h t (by omega) k) (h t (by omega) k)
theorem pre_lt {q : Nat → List Nat} (h : Qk 5 q) {t : Nat} (ht : t < 3) (z : Nat) : ∀ k, k ∈ prf q t ++ (q t).take z → k < 5 := fun k hk =>
  (List.mem_append.mp hk).elim (prf_lt h t (by omega) k) (fun h9 => h t ht k (List.mem_of_mem_take h9))
theorem pop_cnt (q : Nat → List Nat) : pop5 (bset (prf q 3)) = cntN (towQ q) 5 := by
  have h : ∀ i, ((bset (prf q 3)).testBit i).toNat = if towQ q i = -1 then 0 else 1 := by
    intro i
    rw [bset_bit]
    have e : i ∈ prf q 3 ↔ (i ∈ q 0 ∨ i ∈ q 1 ∨ i ∈ q 2) := by
      show i ∈ (([] ++ q 0) ++ q 1) ++ q 2 ↔ _
      simp [or_assoc]
    by_cases hi : towQ q i = -1
    · rw [if_pos hi, decide_eq_false (fun hm => towQ_in.mp hi (e.mp hm))]; rfl
    · rw [if_neg hi, decide_eq_true (e.mpr (Decidable.byContradiction fun h9 => hi (towQ_in.mpr h9)))]; rfl
  unfold pop5
  rw [h, h, h, h, h, cntN_a _ 4, cntN_a _ 3, cntN_a _ 2, cntN_a _ 1, cntN_a _ 0]
  show _ = 0 + _ + _ + _ + _ + _
  omega
theorem i2d_5 : FP.i2d (nI 5) = 4617315517961601024 := by decide +kernel
theorem mn_n {S : VS} (h : ∀ j, ∃ z : Nat, z ≤ 999 ∧ vA S 11 j = nI z) : vf_n64 (FP.ddiv (FP.i2d (sumN (vA S 11) 5)) 4617315517961601024) ∧ cmpValue (FP.dcmp (FP.ddiv (FP.i2d (sumN (vA S 11) 5)) 4617315517961601024) (FP.ddiv (FP.i2d (sumN (vA S 11) 5)) 4617315517961601024)) .l = 0 := by
  obtain ⟨z, hz, e⟩ := sumN_b h 5
  rw [e]
  have h1 := mn_t z (by omega)
  unfold mnOk at h1
  rw [Bool.and_eq_true, decide_eq_true_eq, decide_eq_true_eq] at h1
  exact h1
