/-! what the law's loop keeps -/
def LI (Z : VS) : Prop := Inv Z ∧ ∀ j, ∃ z : Nat, z ≤ 10 ∧ vA Z 10 j = nI z
theorem mok_eq {k a : Int32} {S S2 Z1 Z2 : VS} {r1 r2 : Int32} (h1 : MOK k a S S2 Z1 r1) (h2 : MOK k a S S2 Z2 r2) : Z2 = Z1 ∧ (k = 0 → r2 = r1) := by
  by_cases h : k = 0
  · obtain ⟨a1, b1⟩ := h1.2 h
    obtain ⟨a2, b2⟩ := h2.2 h
    exact ⟨b2.trans b1.symm, fun _ => a2.trans a1.symm⟩
  · exact ⟨(h2.1 h).trans (h1.1 h).symm, fun h9 => absurd h9 h⟩
theorem mok_li {k a : Int32} {S S2 Z : VS} {r : Int32} (h : MOK k a S S2 Z r) (hI : LI S) (hs : k = 0 → LI S2 ∧ vh S2 ≤ vh S + 60) : LI Z ∧ vh Z ≤ vh S + 60 := by
  by_cases hk : k = 0
  · rw [(h.2 hk).2]; exact hs hk
  · rw [h.1 hk]; exact ⟨hI, Nat.le_add_right _ _⟩
theorem li_same {k : Int32} {S : VS} (h : LI S) : k = 0 → LI S ∧ vh S ≤ vh S + 60 := fun _ => ⟨h, Nat.le_add_right _ _⟩
theorem li_sRun {S : VS} {t z : Int32} (h : LI S) (k : kRun S t z = 0) : LI (sRun S t z) ∧ vh (sRun S t z) ≤ vh S + 60 := by
  by_cases c1 : 0 ≤ t ∧ t ≤ 2
  · by_cases c2 : 1 ≤ z ∧ z ≤ 9
    · by_cases c3 : 6 ≤ nI (vr S)
      · rw [kRun, if_neg (fun h9 => h9 c1), if_neg (fun h9 => h9 c2), if_pos c3] at k; exact absurd k (by decide)
      · obtain ⟨⟨h1, h2, h3, h4, h5, h6⟩, h7⟩ := h
        have hr := run_lt h1 c3
        obtain ⟨j, hj, rfl⟩ := wi_nat 2 (by decide) c1
        obtain ⟨y, hy1, hy, rfl⟩ := wi1_nat 9 (by decide) c2
        refine ⟨⟨⟨hr, h2, h3, h4, fun r hr1 => ?_, h6⟩, h7⟩, Nat.le_add_right _ _⟩
        have hr1 : r < vr S + 1 := hr1
        show (∃ t : Nat, t < 3 ∧ upd (vA S 3) (vr S) (nI j) r = nI t) ∧ (∃ z : Nat, 1 ≤ z ∧ z ≤ 9 ∧ upd (vA S 4) (vr S) (nI y) r = nI z) ∧ ∃ d : Nat, d ≤ 90 ∧ upd (vA S 5) (vr S) 30 r = nI d
        by_cases hrr : r = vr S
        · rw [hrr, pk_us, pk_us, pk_us]
          exact ⟨⟨j, by omega, rfl⟩, ⟨y, hy1, hy, rfl⟩, ⟨30, by decide, rfl⟩⟩
        · rw [pk_un hrr, pk_un hrr, pk_un hrr]
          exact h5 r (by omega)
    · rw [kRun, if_neg (fun h9 => h9 c1), if_pos c2] at k; exact absurd k (by decide)
  · rw [kRun, if_pos c1] at k; exact absurd k (by decide)
theorem li_sSetP {S : VS} {t z : Int32} (h : LI S) (k : kSetP t z = 0) : LI (sSetP S t z) ∧ vh (sSetP S t z) ≤ vh S + 60 := by
  by_cases c1 : 0 ≤ t ∧ t ≤ 2
  · by_cases c2 : 1 ≤ z ∧ z ≤ 4
    · obtain ⟨⟨h1, h2, h3, h4, h5, h6⟩, h7⟩ := h
      obtain ⟨y, hy1, hy, rfl⟩ := wi1_nat 4 (by decide) c2
      refine ⟨⟨⟨h1, h2, h3, fun i hi => ?_, h5, h6⟩, h7⟩, Nat.le_add_right _ _⟩
      show ∃ p : Nat, 1 ≤ p ∧ p ≤ 4 ∧ upd (vA S 1) (natI t) (nI y) i = nI p
      by_cases hit : i = natI t
      · rw [hit, pk_us]; exact ⟨y, hy1, hy, rfl⟩
      · rw [pk_un hit]; exact h4 i hi
    · rw [kSetP, if_neg (fun h9 => h9 c1), if_pos c2] at k; exact absurd k (by decide)
  · rw [kSetP, if_pos c1] at k; exact absurd k (by decide)
theorem li_sSetF {S : VS} {t z : Int32} (h : LI S) (k : kSetF t z = 0) : LI (sSetF S t z) ∧ vh (sSetF S t z) ≤ vh S + 60 := by
  by_cases c1 : 0 ≤ t ∧ t ≤ 5
  · by_cases c2 : 0 ≤ z ∧ z ≤ 3
    · obtain ⟨⟨h1, h2, h3, h4, h5, h6⟩, h7⟩ := h
      obtain ⟨y, hy, rfl⟩ := wi_nat 3 (by decide) c2
      refine ⟨⟨⟨h1, h2, fun i hi => ?_, h4, h5, h6⟩, h7⟩, Nat.le_add_right _ _⟩
      show ∃ f : Nat, f < 4 ∧ upd (vA S 0) (natI t) (nI y) i = nI f
      by_cases hit : i = natI t
      · rw [hit, pk_us]; exact ⟨y, by omega, rfl⟩
      · rw [pk_un hit]; exact h3 i hi
    · rw [kSetF, if_neg (fun h9 => h9 c1), if_pos c2] at k; exact absurd k (by decide)
  · rw [kSetF, if_pos c1] at k; exact absurd k (by decide)
theorem li_depth {S : VS} {r : Nat} {c x : Int32} (h : LI S) (hx : ∃ d : Nat, d ≤ 90 ∧ x = nI d) : LI (mkV (vh S) (vr S) (vs S) c (setR (vA S) 5 (upd (vA S 5) r x)) (vq S)) := by
  obtain ⟨⟨h1, h2, h3, h4, h5, h6⟩, h7⟩ := h
  refine ⟨⟨h1, h2, h3, h4, fun i hi => ⟨(h5 i hi).1, (h5 i hi).2.1, ?_⟩, h6⟩, h7⟩
  show ∃ d : Nat, d ≤ 90 ∧ upd (vA S 5) r x i = nI d
  by_cases hir : i = r
  · rw [hir, pk_us]; exact hx
  · rw [pk_un hir]; exact (h5 i hi).2.2
theorem li_sCan {S : VS} {x : Int32} (h : LI S) (_k : kCan S x = 0) : LI (sCan S x) ∧ vh (sCan S x) ≤ vh S + 60 :=
  ⟨li_depth h (heldI_90 _), Nat.le_add_right _ _⟩
theorem li_sBla {S : VS} {x : Int32} (h : LI S) (k : kBla S x = 0) : LI (sBla S x) ∧ vh (sBla S x) ≤ vh S + 60 := by
  by_cases c1 : 0 ≤ x ∧ x < nI (vr S)
  · have h9 := h.1.1
    obtain ⟨r, hr, rfl⟩ := has_nat (by omega) c1
    obtain ⟨d, hd, e⟩ := (h.1.2.2.2.2.1 r hr).2.2
    refine ⟨li_depth h ⟨d / 2, by omega, ?_⟩, Nat.le_add_right _ _⟩
    rw [natI_nI (by omega), e]; exact pk_div (d := 2) (by omega) (by decide) (by decide)
  · rw [kBla, if_pos c1] at k; exact absurd k (by decide)
theorem li_sSki {S : VS} {z y : Int32} (h : LI S) (k : kSki S z y = 0) : LI (sSki S z y) ∧ vh (sSki S z y) ≤ vh S + 60 := by
  by_cases c1 : 1 ≤ z ∧ z ≤ 9
  · by_cases c2 : 0 ≤ y ∧ y ≤ 60
    · by_cases c3 : 8 ≤ nI (vs S)
      · rw [kSki, if_neg (fun h9 => h9 c1), if_neg (fun h9 => h9 c2), if_pos c3] at k; exact absurd k (by decide)
      · obtain ⟨⟨h1, h2, h3, h4, h5, h6⟩, h7⟩ := h
        have hr := ski_lt h2 c3
        obtain ⟨j, hj1, hj, rfl⟩ := wi1_nat 9 (by decide) c1
        obtain ⟨w, hw, rfl⟩ := wi_nat 60 (by decide) c2
        refine ⟨⟨⟨h1, hr, h3, h4, h5, fun i hi => ?_⟩, h7⟩, Nat.le_add_right _ _⟩
        have hi : i < vs S + 1 := hi
        show (∃ z : Nat, 1 ≤ z ∧ z ≤ 9 ∧ upd (vA S 7) (vs S) (nI j) i = nI z) ∧ (∃ z : Nat, z ≤ 60 ∧ upd (vA S 8) (vs S) (nI w) i = nI z) ∧ ∃ z : Nat, z ≤ 10 ∧ vA S 10 i = nI z
        refine ⟨?_, ?_, h7 i⟩
        · by_cases hii : i = vs S
          · rw [hii, pk_us]; exact ⟨j, hj1, hj, rfl⟩
          · rw [pk_un hii]; exact (h6 i (by omega)).1
        · by_cases hii : i = vs S
          · rw [hii, pk_us]; exact ⟨w, hw, rfl⟩
          · rw [pk_un hii]; exact (h6 i (by omega)).2.1
    · rw [kSki, if_neg (fun h9 => h9 c1), if_pos c2] at k; exact absurd k (by decide)
  · rw [kSki, if_pos c1] at k; exact absurd k (by decide)
theorem li_sWax {S : VS} {x z : Int32} (h : LI S) (k : kWax S x z = 0) : LI (sWax S x z) ∧ vh (sWax S x z) ≤ vh S + 60 := by
  by_cases c1 : 0 ≤ x ∧ x < nI (vs S)
  · by_cases c2 : 0 ≤ z ∧ z ≤ 3
    · by_cases c3 : 2 ≤ vA S 8 (natI x)
      · obtain ⟨⟨h1, h2, h3, h4, h5, h6⟩, h7⟩ := h
        obtain ⟨j, hj, rfl⟩ := has_nat (by omega) c1
        rw [natI_nI (by omega)] at c3
        have e9 : natI (nI j) = j := natI_nI (by omega)
        obtain ⟨d, hd, e⟩ := (h6 j hj).2.1
        rw [e] at c3
        have hd2 : 2 ≤ d := (nI_leI (a := 2) (b := d) (by decide) (by omega)).mp c3
        have hl : ∀ i, ∃ z : Nat, z ≤ 10 ∧ upd (vA S 10) (natI (nI j)) 10 i = nI z := by
          intro i
          rw [e9]
          by_cases hij : i = j
          · rw [hij, pk_us]; exact ⟨10, Nat.le_refl _, rfl⟩
          · rw [pk_un hij]; exact h7 i
        refine ⟨⟨⟨h1, h2, h3, h4, h5, fun i hi => ⟨(h6 i hi).1, ?_, hl i⟩⟩, hl⟩, Nat.le_add_right _ _⟩
        show ∃ z : Nat, z ≤ 60 ∧ upd (vA S 8) (natI (nI j)) (vA S 8 (natI (nI j)) - 2) i = nI z
        rw [e9]
        by_cases hij : i = j
        · rw [hij, pk_us, e]; exact ⟨d - 2, by omega, pk_sub (a := d) (b := 2) hd2⟩
        · rw [pk_un hij]; exact (h6 i hi).2.1
      · rw [kWax, if_neg (fun h9 => h9 c1), if_neg (fun h9 => h9 c2), if_pos c3] at k; exact absurd k (by decide)
    · rw [kWax, if_neg (fun h9 => h9 c1), if_pos c2] at k; exact absurd k (by decide)
  · rw [kWax, if_pos c1] at k; exact absurd k (by decide)
theorem li_sJoin {S : VS} {x z : Int32} (h : LI S) (_k : kJoin S x z = 0) : LI (sJoin S x z) ∧ vh (sJoin S x z) ≤ vh S + 60 := ⟨h, Nat.le_add_right _ _⟩
theorem li_sLea {S : VS} {x : Int32} (h : LI S) (_k : kLea S x = 0) : LI (sLea S x) ∧ vh (sLea S x) ≤ vh S + 60 := ⟨h, Nat.le_add_right _ _⟩
theorem ly_ski {t k : Nat} {S : VS} (h : ∀ j, ∃ z : Nat, z ≤ 10 ∧ vA S 10 j = nI z) : ∀ j, ∃ z : Nat, z ≤ 10 ∧ vA (skiS t k S) 10 j = nI z := by
  intro j
  cases hb : bestR (vA S 3) (vA S 4) (vA S 5) (nI t) (vA S 7 k + 1) (vr S) with
  | none => rw [skiS_none hb]; exact h j
  | some r =>
    rw [skiS_some hb]
    show ∃ z : Nat, z ≤ 10 ∧ glL (vA S 10) k j = nI z
    unfold glL
    split
    · rename_i h0
      by_cases hj : j = k
      · obtain ⟨d, hd, e⟩ := h k
        rw [hj, pk_us]
        rw [e] at h0 ⊢
        have hd0 : 0 < d := (nI_ltI (a := 0) (b := d) (by decide) (by omega)).mp h0
        exact ⟨d - 1, by omega, pk_sub (a := d) (b := 1) hd0⟩
      · rw [pk_un hj]; exact h j
    · exact h j
theorem ly_pull {t : Nat} {S : VS} (h : ∀ j, ∃ z : Nat, z ≤ 10 ∧ vA S 10 j = nI z) : ∀ j, ∃ z : Nat, z ≤ 10 ∧ vA (pullS t S) 10 j = nI z := by
  refine pullN_ind (P := fun T => ∀ j, ∃ z : Nat, z ≤ 10 ∧ vA T 10 j = nI z) (fun _ _ _ h _ _ => h) (fun T k rest h _ _ => ?_) _ _ S h
  exact ly_ski (S := payS t k (quS T t rest)) h
theorem ly_hours {S : VS} (h : ∀ j, ∃ z : Nat, z ≤ 10 ∧ vA S 10 j = nI z) : ∀ n, ∀ j, ∃ z : Nat, z ≤ 10 ∧ vA (hoursS n S) 10 j = nI z
  | 0 => h
  | n + 1 => ly_pull (ly_pull (ly_pull (S := snowS (hoursS n S)) (ly_hours h n)))
theorem li_pass {S : VS} {z : Int32} (hQ : Qk (vs S) (vq S)) (h : LI S) (k : kPas z = 0) : LI (hoursS (natI z) S) ∧ vh (hoursS (natI z) S) ≤ vh S + 60 := by
  by_cases c1 : 1 ≤ z ∧ z ≤ 60
  · obtain ⟨j, hj1, hj, rfl⟩ := wi1_nat 60 (by decide) c1
    rw [natI_nI (by omega)]
    exact ⟨⟨(InvQ_hoursS h.1 hQ j).1, ly_hours h.2 j⟩, by rw [vh_hoursS]; omega⟩
  · rw [kPas, if_pos c1] at k; exact absurd k (by decide)
theorem cntE_lt {f : Nat → Int32} {t : Int32} {k : Nat} (hk : ¬ f k = t) : ∀ {n : Nat}, k < n → cntE f t n < n := by
  intro n hn
  have h1 := cntE_upd (f := f) (t := t) (v := t) (k := k) hn
  rw [if_neg hk, if_pos rfl] at h1
  have h2 := cntE_le (upd f k t) t n
  omega
theorem take_lt {S : VS} {qt qp : Nat → Int32} (hR : Rep (vs S) (vq S) qt qp) (hn : vs S ≤ 8) : ∀ k, k < vs S → ∀ t, t < 3 → (takeQ (vq S) k t).length < 8 := by
  intro k hk t ht
  have h1 := (rep_takeQ hR hn hk).2.2 t ht
  have h2 := cntE_lt (f := tkT qt k) (t := nI t) (k := k) (by rw [tkT_k]; exact nI_nm1' (by omega)) hk
  omega
theorem lcmp_self (x : Int64) : lg_cmp x x = 0 := by
  unfold lg_cmp
  rw [if_neg (Int64.lt_irrefl (a := x)), if_pos rfl]
