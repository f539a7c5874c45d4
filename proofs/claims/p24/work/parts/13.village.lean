/-! the village that the law makes -/
abbrev rmV : Room := ({ frames := 7, cells := 37, slots := 244, locals := 115 } : Room)
def adr (q : List Nat) : Nat → Nat := fun k => q.getD k 0
def FL0 : Nat → Int32 := (upd (upd (upd (upd (upd (upd (fun _ => (0 : Int32)) 0 (1 : Int32)) 1 (1 : Int32)) 2 (1 : Int32)) 3 (1 : Int32)) 4 (1 : Int32)) 5 (1 : Int32))
def PO0 : Nat → Int32 := (upd (upd (upd (fun _ => (0 : Int32)) 0 (2 : Int32)) 1 (2 : Int32)) 2 (2 : Int32))
def Z0 : VS := mkV 0 0 0 0 (setR (setR (fun _ _ => 0) 0 FL0) 1 PO0) (fun _ => [])
theorem rep_Z0 : Rep (vs Z0) (vq Z0) (fun _ => (0 : Int32)) (fun _ => (0 : Int32)) := by
  refine ⟨fun k hk => absurd hk (Nat.not_lt_zero _), fun t p k ht hp => ?_, fun t ht => rfl⟩
  have h9 : ([] : List Nat)[p]? = some k := hp
  simp at h9
/-- a new village, with r runs and n skiers -/
def VI (sk : Nat → Nat) (r n : Nat) (S : VS) : Prop :=
  Inv S ∧ vr S = r ∧ vs S = n ∧ vh S = 0 ∧ (∀ j, vA S 2 j = 0) ∧ (∀ j, vA S 6 j = 0) ∧ (∀ j, vA S 11 j = 0) ∧ (∀ j, vA S 12 j = 0) ∧ (∀ j, ∃ z : Nat, z < 4 ∧ vA S 9 j = nI z) ∧ (∀ j, ∃ z : Nat, z ≤ 10 ∧ vA S 10 j = nI z) ∧ ∀ k, k < n → vA S 7 k = nI (sk k)
theorem vi_Z0 {sk : Nat → Nat} : VI sk 0 0 Z0 := by
  refine ⟨⟨by decide, by decide, ?_, ?_, fun r hr => absurd hr (Nat.not_lt_zero _), fun k hk => absurd hk (Nat.not_lt_zero _)⟩, rfl, rfl, rfl, fun _ => rfl, fun _ => rfl, fun _ => rfl, fun _ => rfl, fun _ => ⟨0, by decide, rfl⟩, fun _ => ⟨0, by decide, rfl⟩, fun k hk => absurd hk (Nat.not_lt_zero _)⟩
  · intro h hh
    rcases (by omega : h = 0 ∨ h = 1 ∨ h = 2 ∨ h = 3 ∨ h = 4 ∨ h = 5) with rfl | rfl | rfl | rfl | rfl | rfl <;> exact ⟨1, by decide, rfl⟩
  · intro t ht
    rcases (by omega : t = 0 ∨ t = 1 ∨ t = 2) with rfl | rfl | rfl <;> exact ⟨2, by decide, by decide, rfl⟩
section VIL
variable {sk : Nat → Nat} {r n : Nat} {S : VS}
theorem vi_setF {t f : Nat} (h : VI sk r n S) (hf : f ≤ 3) : VI sk r n (gSetF S t f) := by
  obtain ⟨⟨h1, h2, h3, h4, h5, h6⟩, hr⟩ := h
  refine ⟨⟨h1, h2, fun i hi => ?_, h4, h5, h6⟩, hr⟩
  show ∃ z : Nat, z < 4 ∧ upd (vA S 0) t (nI f) i = nI z
  by_cases hit : i = t
  · rw [hit, pk_us]; exact ⟨f, by omega, rfl⟩
  · rw [pk_un hit]; exact h3 i hi
theorem vi_setP {t f : Nat} (h : VI sk r n S) (hf : 1 ≤ f ∧ f ≤ 4) : VI sk r n (gSetP S t f) := by
  obtain ⟨⟨h1, h2, h3, h4, h5, h6⟩, hr⟩ := h
  refine ⟨⟨h1, h2, h3, fun i hi => ?_, h5, h6⟩, hr⟩
  show ∃ z : Nat, 1 ≤ z ∧ z ≤ 4 ∧ upd (vA S 1) t (nI f) i = nI z
  by_cases hit : i = t
  · rw [hit, pk_us]; exact ⟨f, hf.1, hf.2, rfl⟩
  · rw [pk_un hit]; exact h4 i hi
theorem vi_run {t z : Nat} (h : VI sk r n S) (hr6 : r < 6) (ht : t ≤ 2) (hz : 1 ≤ z ∧ z ≤ 9) : VI sk (r + 1) n (gRun S t z) := by
  obtain ⟨⟨h1, h2, h3, h4, h5, h6⟩, hr, hq⟩ := h
  refine ⟨⟨by show vr S + 1 ≤ 6; omega, h2, h3, h4, fun i hi => ?_, h6⟩, by show vr S + 1 = r + 1; rw [hr], hq⟩
  have hi : i < vr S + 1 := hi
  show (∃ t9 : Nat, t9 < 3 ∧ upd (vA S 3) (vr S) (nI t) i = nI t9) ∧ (∃ z9 : Nat, 1 ≤ z9 ∧ z9 ≤ 9 ∧ upd (vA S 4) (vr S) (nI z) i = nI z9) ∧ ∃ d : Nat, d ≤ 90 ∧ upd (vA S 5) (vr S) 30 i = nI d
  by_cases hrr : i = vr S
  · rw [hrr, pk_us, pk_us, pk_us]
    exact ⟨⟨t, by omega, rfl⟩, ⟨z, hz.1, hz.2, rfl⟩, ⟨30, by decide, rfl⟩⟩
  · rw [pk_un hrr, pk_un hrr, pk_un hrr]
    exact h5 i (by omega)
theorem vi_ski {y : Nat} (h : VI sk r n S) (hn : n < 8) (hy : y ≤ 60) (hz : 1 ≤ sk n ∧ sk n ≤ 9) : VI sk r (n + 1) (gSki S (sk n) y) := by
  obtain ⟨⟨h1, h2, h3, h4, h5, h6⟩, hr, hv, q1, q2, q3, q4, q5, q6, q7, q8⟩ := h
  refine ⟨⟨h1, by show vs S + 1 ≤ 8; omega, h3, h4, h5, fun i hi => ?_⟩, hr, by show vs S + 1 = n + 1; rw [hv], q1, q2, q3, q4, q5, q6, q7, fun k hk => ?_⟩
  · have hi : i < vs S + 1 := hi
    show (∃ z : Nat, 1 ≤ z ∧ z ≤ 9 ∧ upd (vA S 7) (vs S) (nI (sk n)) i = nI z) ∧ (∃ z : Nat, z ≤ 60 ∧ upd (vA S 8) (vs S) (nI y) i = nI z) ∧ ∃ z : Nat, z ≤ 10 ∧ vA S 10 i = nI z
    refine ⟨?_, ?_, q7 i⟩
    · by_cases hii : i = vs S
      · rw [hii, pk_us]; exact ⟨sk n, hz.1, hz.2, rfl⟩
      · rw [pk_un hii]; exact (h6 i (by omega)).1
    · by_cases hii : i = vs S
      · rw [hii, pk_us]; exact ⟨y, hy, rfl⟩
      · rw [pk_un hii]; exact (h6 i (by omega)).2.1
  · show upd (vA S 7) (vs S) (nI (sk n)) k = nI (sk k)
    by_cases hii : k = vs S
    · rw [hii, pk_us, hv]
    · rw [pk_un hii]; exact q8 k (by omega)
theorem inv_wax {k f : Nat} (h : Inv S) (hk : k < vs S) (hc : 2 ≤ vA S 8 k) : Inv (gWax S k f) := by
  obtain ⟨h1, h2, h3, h4, h5, h6⟩ := h
  obtain ⟨d, hd, e⟩ := (h6 k hk).2.1
  rw [e] at hc
  have hd2 : 2 ≤ d := (nI_leI (a := 2) (b := d) (by decide) (by omega)).mp hc
  refine ⟨h1, h2, h3, h4, h5, fun i hi => ⟨(h6 i hi).1, ?_, ?_⟩⟩
  · show ∃ z : Nat, z ≤ 60 ∧ upd (vA S 8) k (vA S 8 k - 2) i = nI z
    by_cases hij : i = k
    · rw [hij, pk_us, e]; exact ⟨d - 2, by omega, pk_sub (a := d) (b := 2) hd2⟩
    · rw [pk_un hij]; exact (h6 i hi).2.1
  · show ∃ z : Nat, z ≤ 10 ∧ upd (vA S 10) k 10 i = nI z
    by_cases hij : i = k
    · rw [hij, pk_us]; exact ⟨10, Nat.le_refl _, rfl⟩
    · rw [pk_un hij]; exact (h6 i hi).2.2
theorem wx_wax {k f : Nat} (hf : f ≤ 3) (h : ∀ j, ∃ z : Nat, z < 4 ∧ vA S 9 j = nI z) : ∀ j, ∃ z : Nat, z < 4 ∧ vA (gWax S k f) 9 j = nI z := by
  intro i
  show ∃ z : Nat, z < 4 ∧ upd (vA S 9) k (nI f) i = nI z
  by_cases hij : i = k
  · rw [hij, pk_us]; exact ⟨f, by omega, rfl⟩
  · rw [pk_un hij]; exact h i
theorem vi_wax {k f : Nat} (h : VI sk r n S) (hk : k < n) (hf : f ≤ 3) (hc : 2 ≤ vA S 8 k) : VI sk r n (gWax S k f) := by
  obtain ⟨h1, hr, hv, q1, q2, q3, q4, q5, q6, q7, q8⟩ := h
  refine ⟨inv_wax h1 (by omega) hc, hr, hv, q1, q2, q3, q4, q5, wx_wax hf q6, fun i => ?_, q8⟩
  show ∃ z : Nat, z ≤ 10 ∧ upd (vA S 10) k 10 i = nI z
  by_cases hij : i = k
  · rw [hij, pk_us]; exact ⟨10, Nat.le_refl _, rfl⟩
  · rw [pk_un hij]; exact q7 i
theorem vi_join {k j : Nat} (h : VI sk r n S) : VI sk r n (gJoin S k j) := h
theorem ski_coin {z y : Nat} (h : VI sk r n S) (hy : y ≤ 60) (hc : 2 ≤ y) : 2 ≤ vA (gSki S z y) 8 n := by
  show 2 ≤ upd (vA S 8) (vs S) (nI y) n
  rw [← h.2.2.1, pk_us]
  exact (nI_leI (a := 2) (b := y) (by decide) (by omega)).mpr hc
end VIL
theorem pm_pos {w : Nat} (hw : w < 5) (h : ¬ nI w - 1 < 0) : w ≠ 0 ∧ nI w - 1 = nI (w - 1) := by
  rcases (by omega : w = 0 ∨ w = 1 ∨ w = 2 ∨ w = 3 ∨ w = 4) with rfl | rfl | rfl | rfl | rfl
  · exact absurd (by decide) h
  all_goals exact ⟨by decide, by decide⟩
section VL
variable {p : Program} {l : Launch} {e : Env} {s : State} {m : MethodId} {args : Array Value} {below : List Frame} {meth : Method} {c : Code} {H : Heap} {locs : List Loc} {cells slots : Nat} {Q : State → Prop} {ls : Array Slot} {D : va_G} {A : Nat → Prop} {cI cL : ClassId} {a : Nat → Nat} {sb L : Nat} {xs : Nat → Int32}
set_option maxRecDepth 100000 in
set_option maxHeartbeats 4000000 in
theorem vl_body (CX : Cx p s m args meth c cL_village 3 (some (.object "PommelTows")) RL wsL_village D (ty2 cI cL) A) (hSX : SX A sb L xs s) (hc : cells ≤ rmV.cells) (hs : slots ≤ rmV.slots) (o : Nat) (S : VS) (qt : Nat → Int32) (qp : Nat → Int32) (T : VS) (qt2 : Nat → Int32) (qp2 : Nat → Int32) (hL : L ≤ 260) (hV : VI (skF xs L) 0 0 S) (hR : Rep (vs S) (vq S) qt qp) (HW : Hw D A s (wXo cI a o  ++ (wVo cI a (o + 1) (vh S) (vc S) (vA S 0) (vA S 1) (vA S 2) ++ (wR cI a ((o + 1) + 4) (vr S) (vA S 3) (vA S 4) (vA S 5) (vA S 6) ++ (wS cI a ((o + 1) + 9) (vs S) (vA S 7) (vA S 8) (vA S 9) (vA S 10) (vA S 11) (vA S 12) qt qp ++ (wVo cI a (o + 19) (vh T) (vc T) (vA T 0) (vA T 1) (vA T 2) ++ (wR cI a ((o + 19) + 4) (vr T) (vA T 3) (vA T 4) (vA T 5) (vA T 6) ++ (wS cI a ((o + 19) + 9) (vs T) (vA T 7) (vA T 8) (vA T 9) (vA T 10) (vA T 11) (vA T 12) qt2 qp2))))))) H locs) (hl : lv_has ls 3 [(1, .ref (a o)), (0, .ref sb)]) (kk : ∀ (S : VS) (qt : Nat → Int32) (qp : Nat → Int32), (VI (skF xs L) 4 5 S) → (Rep (vs S) (vq S) qt qp) → ∀ (H : Heap) (locs : List Loc) (ls : Array Slot), Hw D A s (wXo cI a o  ++ (wVo cI a (o + 1) (vh S) (vc S) (vA S 0) (vA S 1) (vA S 2) ++ (wR cI a ((o + 1) + 4) (vr S) (vA S 3) (vA S 4) (vA S 5) (vA S 6) ++ (wS cI a ((o + 1) + 9) (vs S) (vA S 7) (vA S 8) (vA S 9) (vA S 10) (vA S 11) (vA S 12) qt qp ++ (wVo cI a (o + 19) (vh T) (vc T) (vA T 0) (vA T 1) (vA T 2) ++ (wR cI a ((o + 19) + 4) (vr T) (vA T 3) (vA T 4) (vA T 5) (vA T 6) ++ (wS cI a ((o + 19) + 9) (vs T) (vA T 7) (vA T 8) (vA T 9) (vA T 10) (vA T 11) (vA T 12) qt2 qp2))))))) H locs → lv_has ls 3 [(1, .ref (a o)), (0, .ref sb)] → W p l e rmV s m args below meth c H locs cells slots Q (F0 m 151 ls [])) : W p l e rmV s m args below meth c H locs cells slots Q (F0 m 8 ls []) := by
  obtain ⟨hx, hb, hml, hr, hown, hts, hK, hA, hlk⟩ := id CX
  have j85 : ∀ (S : VS) (qt : Nat → Int32) (qp : Nat → Int32), (VI (skF xs L) 4 0 S) → (Rep (vs S) (vq S) qt qp) → ∀ (H : Heap) (locs : List Loc) (ls : Array Slot), Hw D A s (wXo cI a o  ++ (wVo cI a (o + 1) (vh S) (vc S) (vA S 0) (vA S 1) (vA S 2) ++ (wR cI a ((o + 1) + 4) (vr S) (vA S 3) (vA S 4) (vA S 5) (vA S 6) ++ (wS cI a ((o + 1) + 9) (vs S) (vA S 7) (vA S 8) (vA S 9) (vA S 10) (vA S 11) (vA S 12) qt qp ++ (wVo cI a (o + 19) (vh T) (vc T) (vA T 0) (vA T 1) (vA T 2) ++ (wR cI a ((o + 19) + 4) (vr T) (vA T 3) (vA T 4) (vA T 5) (vA T 6) ++ (wS cI a ((o + 19) + 9) (vs T) (vA T 7) (vA T 8) (vA T 9) (vA T 10) (vA T 11) (vA T 12) qt2 qp2))))))) H locs → lv_has ls 3 [(1, .ref (a o)), (0, .ref sb)] → W p l e rmV s m args below meth c H locs cells slots Q (F0 m 85 ls []) := by
    intro S qt qp hV hR H locs ls HW hl
    have l87 : ∀ (d87 : Nat) (i : Nat) (S : VS) (qt : Nat → Int32) (qp : Nat → Int32), 5 - i = d87 → (i ≤ 5) → (VI (skF xs L) 4 i S) → (Rep (vs S) (vq S) qt qp) → ∀ (H : Heap) (locs : List Loc) (ls : Array Slot), Hw D A s (wXo cI a o  ++ (wVo cI a (o + 1) (vh S) (vc S) (vA S 0) (vA S 1) (vA S 2) ++ (wR cI a ((o + 1) + 4) (vr S) (vA S 3) (vA S 4) (vA S 5) (vA S 6) ++ (wS cI a ((o + 1) + 9) (vs S) (vA S 7) (vA S 8) (vA S 9) (vA S 10) (vA S 11) (vA S 12) qt qp ++ (wVo cI a (o + 19) (vh T) (vc T) (vA T 0) (vA T 1) (vA T 2) ++ (wR cI a ((o + 19) + 4) (vr T) (vA T 3) (vA T 4) (vA T 5) (vA T 6) ++ (wS cI a ((o + 19) + 9) (vs T) (vA T 7) (vA T 8) (vA T 9) (vA T 10) (vA T 11) (vA T 12) qt2 qp2))))))) H locs → lv_has ls 3 [(2, .int (nI i)), (1, .ref (a o)), (0, .ref sb)] → W p l e rmV s m args below meth c H locs cells slots Q (F0 m 87 ls []) := by
      intro d87
      induction d87 using Nat.strongRecOn with
      | _ d87 ih87 =>
        intro i S qt qp hd87 hi hV hR H locs ls HW hl
        have j145 : ∀ (S : VS) (qt : Nat → Int32) (qp : Nat → Int32), (i < 5) → (VI (skF xs L) 4 (i + 1) S) → (Rep (vs S) (vq S) qt qp) → ∀ (H : Heap) (locs : List Loc) (ls : Array Slot), Hw D A s (wXo cI a o  ++ (wVo cI a (o + 1) (vh S) (vc S) (vA S 0) (vA S 1) (vA S 2) ++ (wR cI a ((o + 1) + 4) (vr S) (vA S 3) (vA S 4) (vA S 5) (vA S 6) ++ (wS cI a ((o + 1) + 9) (vs S) (vA S 7) (vA S 8) (vA S 9) (vA S 10) (vA S 11) (vA S 12) qt qp ++ (wVo cI a (o + 19) (vh T) (vc T) (vA T 0) (vA T 1) (vA T 2) ++ (wR cI a ((o + 19) + 4) (vr T) (vA T 3) (vA T 4) (vA T 5) (vA T 6) ++ (wS cI a ((o + 19) + 9) (vs T) (vA T 7) (vA T 8) (vA T 9) (vA T 10) (vA T 11) (vA T 12) qt2 qp2))))))) H locs → lv_has ls 3 [(2, .int (nI i)), (1, .ref (a o)), (0, .ref sb)] → W p l e rmV s m args below meth c H locs cells slots Q (F0 m 145 ls []) := by
          intro S qt qp hlt hV hR H locs ls HW hl
          refine lv_iinc (v := (nI (i + 1))) (lv' := [(2, .int (nI (i + 1))), (1, .ref (a o)), (0, .ref sb)]) hx hb dL_village_145 hl (k := 0) rfl (inc1 _) (Nat.le_of_ble_eq_true rfl) rfl (fun ls hl => ?_)
          refine lv_goto (tgt := 87) hx hb dL_village_148 (by decide) ?_
          exact ih87 _ (by omega) (i + 1) S qt qp rfl (by omega) hV hR _ _ _ HW (lv_sub hl [0, 1, 2] rfl)
        have j126 : ∀ (S : VS) (qt : Nat → Int32) (qp : Nat → Int32), (i < 5) → (VI (skF xs L) 4 (i + 1) S) → (Rep (vs S) (vq S) qt qp) → ∀ (H : Heap) (locs : List Loc) (ls : Array Slot), Hw D A s (wXo cI a o  ++ (wVo cI a (o + 1) (vh S) (vc S) (vA S 0) (vA S 1) (vA S 2) ++ (wR cI a ((o + 1) + 4) (vr S) (vA S 3) (vA S 4) (vA S 5) (vA S 6) ++ (wS cI a ((o + 1) + 9) (vs S) (vA S 7) (vA S 8) (vA S 9) (vA S 10) (vA S 11) (vA S 12) qt qp ++ (wVo cI a (o + 19) (vh T) (vc T) (vA T 0) (vA T 1) (vA T 2) ++ (wR cI a ((o + 19) + 4) (vr T) (vA T 3) (vA T 4) (vA T 5) (vA T 6) ++ (wS cI a ((o + 19) + 9) (vs T) (vA T 7) (vA T 8) (vA T 9) (vA T 10) (vA T 11) (vA T 12) qt2 qp2))))))) H locs → lv_has ls 3 [(2, .int (nI i)), (1, .ref (a o)), (0, .ref sb)] → W p l e rmV s m args below meth c H locs cells slots Q (F0 m 126 ls []) := by
          intro S qt qp hlt hV hR H locs ls HW hl
          refine lv_aload_n hx hb dL_village_126 rfl (lv_at hl 2 rfl) ?_
          refine lv_iload_n hx hb dL_village_127 rfl (lv_at hl 0 rfl) ?_
          refine g_callSS CX HW hSX hl.1 ([]) (wXo cI a o  ++ (wVo cI a (o + 1) (vh S) (vc S) (vA S 0) (vA S 1) (vA S 2) ++ (wR cI a ((o + 1) + 4) (vr S) (vA S 3) (vA S 4) (vA S 5) (vA S 6) ++ (wS cI a ((o + 1) + 9) (vs S) (vA S 7) (vA S 8) (vA S 9) (vA S 10) (vA S 11) (vA S 12) qt qp ++ (wVo cI a (o + 19) (vh T) (vc T) (vA T 0) (vA T 1) (vA T 2) ++ (wR cI a ((o + 19) + 4) (vr T) (vA T 3) (vA T 4) (vA T 5) (vA T 6) ++ (wS cI a ((o + 19) + 9) (vs T) (vA T 7) (vA T 8) (vA T 9) (vA T 10) (vA T 11) (vA T 12) qt2 qp2))))))) (c_L_standsOf sb L xs i (by omega) (by omega)) rfl gL_village_L_standsOf rfl hd_L_standsOf ⟨rfl, rfl, (Nat.le_of_ble_eq_true rfl), (Nat.le_of_ble_eq_true rfl)⟩ ⟨hc, hs⟩ rfl rfl (Nat.le_of_ble_eq_true rfl) dL_village_128 (fun v w1 H locs hp HW => ?_)
          obtain ⟨rfl, rfl⟩ := hp
          have HW : Hw D A s (wXo cI a o  ++ (wVo cI a (o + 1) (vh S) (vc S) (vA S 0) (vA S 1) (vA S 2) ++ (wR cI a ((o + 1) + 4) (vr S) (vA S 3) (vA S 4) (vA S 5) (vA S 6) ++ (wS cI a ((o + 1) + 9) (vs S) (vA S 7) (vA S 8) (vA S 9) (vA S 10) (vA S 11) (vA S 12) qt qp ++ (wVo cI a (o + 19) (vh T) (vc T) (vA T 0) (vA T 1) (vA T 2) ++ (wR cI a ((o + 19) + 4) (vr T) (vA T 3) (vA T 4) (vA T 5) (vA T 6) ++ (wS cI a ((o + 19) + 9) (vs T) (vA T 7) (vA T 8) (vA T 9) (vA T 10) (vA T 11) (vA T 12) qt2 qp2))))))) H locs := HW
          refine W.eq (g2 := F0 m 131 ls [.int (nI (stF xs L i) - 1)]) rfl ?_
          refine lv_if_lt (tgt := 145) hx hb dL_village_131 (by decide) (fun c131 => ?_) (fun c131 => ?_)
          · exact j145 S qt qp hlt hV hR _ _ _ HW (lv_sub hl [0, 1, 2] rfl)
          · have e1 := pm_pos (Nat.lt_of_le_of_lt (stF_le xs L i) (by decide)) c131
            refine lv_aload_n hx hb dL_village_134 rfl (lv_at hl 1 rfl) ?_
            refine lv_iload_n hx hb dL_village_135 rfl (lv_at hl 0 rfl) ?_
            refine lv_aload_n hx hb dL_village_136 rfl (lv_at hl 2 rfl) ?_
            refine lv_iload_n hx hb dL_village_137 rfl (lv_at hl 0 rfl) ?_
            refine g_callSS CX HW hSX hl.1 ([]) (wXo cI a o  ++ (wVo cI a (o + 1) (vh S) (vc S) (vA S 0) (vA S 1) (vA S 2) ++ (wR cI a ((o + 1) + 4) (vr S) (vA S 3) (vA S 4) (vA S 5) (vA S 6) ++ (wS cI a ((o + 1) + 9) (vs S) (vA S 7) (vA S 8) (vA S 9) (vA S 10) (vA S 11) (vA S 12) qt qp ++ (wVo cI a (o + 19) (vh T) (vc T) (vA T 0) (vA T 1) (vA T 2) ++ (wR cI a ((o + 19) + 4) (vr T) (vA T 3) (vA T 4) (vA T 5) (vA T 6) ++ (wS cI a ((o + 19) + 9) (vs T) (vA T 7) (vA T 8) (vA T 9) (vA T 10) (vA T 11) (vA T 12) qt2 qp2))))))) (c_L_standsOf sb L xs i (by omega) (by omega)) rfl gL_village_L_standsOf rfl hd_L_standsOf ⟨rfl, rfl, (Nat.le_of_ble_eq_true rfl), (Nat.le_of_ble_eq_true rfl)⟩ ⟨hc, hs⟩ rfl rfl (Nat.le_of_ble_eq_true rfl) dL_village_138 (fun v w1 H locs hp HW => ?_)
            obtain ⟨rfl, rfl⟩ := hp
            have HW : Hw D A s (wXo cI a o  ++ (wVo cI a (o + 1) (vh S) (vc S) (vA S 0) (vA S 1) (vA S 2) ++ (wR cI a ((o + 1) + 4) (vr S) (vA S 3) (vA S 4) (vA S 5) (vA S 6) ++ (wS cI a ((o + 1) + 9) (vs S) (vA S 7) (vA S 8) (vA S 9) (vA S 10) (vA S 11) (vA S 12) qt qp ++ (wVo cI a (o + 19) (vh T) (vc T) (vA T 0) (vA T 1) (vA T 2) ++ (wR cI a ((o + 19) + 4) (vr T) (vA T 3) (vA T 4) (vA T 5) (vA T 6) ++ (wS cI a ((o + 19) + 9) (vs T) (vA T 7) (vA T 8) (vA T 9) (vA T 10) (vA T 11) (vA T 12) qt2 qp2))))))) H locs := HW
            refine W.eq (g2 := F0 m 141 ls [.int (nI (stF xs L i) - 1), .int (nI i), .ref (a o)]) rfl ?_
            refine g_top (y := (nI (stF xs L i - 1))) e1.2 ?_
            refine g_callV CX HW hl.1 ([]) ([]) (c_X3_join o S qt qp T qt2 qp2 i (stF xs L i - 1) hV.1 hR (by rw [hV.2.2.1]; omega) (by have := stF_le xs L i; omega)) rfl 0 rfl rfl gL_village_X3_join rfl ⟨rfl, hd_X3_join⟩ ⟨rfl, rfl, (Nat.le_of_ble_eq_true rfl), (Nat.le_of_ble_eq_true rfl)⟩ ⟨hc, hs⟩ rfl rfl (Nat.le_of_ble_eq_true rfl) dL_village_141 (fun v w1 H locs hp HW => ?_)
            obtain ⟨qt'_1, qp'_1, hr9_1, rfl, rfl⟩ := hp
            have HW : Hw D A s (wXo cI a o  ++ (wVo cI a (o + 1) (vh (gJoin S i (stF xs L i - 1))) (vc (gJoin S i (stF xs L i - 1))) (vA (gJoin S i (stF xs L i - 1)) 0) (vA (gJoin S i (stF xs L i - 1)) 1) (vA (gJoin S i (stF xs L i - 1)) 2) ++ (wR cI a ((o + 1) + 4) (vr (gJoin S i (stF xs L i - 1))) (vA (gJoin S i (stF xs L i - 1)) 3) (vA (gJoin S i (stF xs L i - 1)) 4) (vA (gJoin S i (stF xs L i - 1)) 5) (vA (gJoin S i (stF xs L i - 1)) 6) ++ (wS cI a ((o + 1) + 9) (vs (gJoin S i (stF xs L i - 1))) (vA (gJoin S i (stF xs L i - 1)) 7) (vA (gJoin S i (stF xs L i - 1)) 8) (vA (gJoin S i (stF xs L i - 1)) 9) (vA (gJoin S i (stF xs L i - 1)) 10) (vA (gJoin S i (stF xs L i - 1)) 11) (vA (gJoin S i (stF xs L i - 1)) 12) qt'_1 qp'_1 ++ (wVo cI a (o + 19) (vh T) (vc T) (vA T 0) (vA T 1) (vA T 2) ++ (wR cI a ((o + 19) + 4) (vr T) (vA T 3) (vA T 4) (vA T 5) (vA T 6) ++ (wS cI a ((o + 19) + 9) (vs T) (vA T 7) (vA T 8) (vA T 9) (vA T 10) (vA T 11) (vA T 12) qt2 qp2))))))) H locs := HW
            refine W.eq (g2 := F0 m 144 ls [.int (nI (takeQ (vq S) i (stF xs L i - 1)).length)]) rfl ?_
            refine lv_pop hx hb dL_village_144 rfl ?_
            exact j145 (gJoin S i (stF xs L i - 1)) _ _ hlt (vi_join hV) hr9_1 _ _ _ HW (lv_sub hl [0, 1, 2] rfl)
        refine lv_iload_n hx hb dL_village_87 rfl (lv_at hl 0 rfl) ?_
        refine lv_iconst (v := 5) hx hb dL_village_88 (by decide) ?_
        refine lv_icmp_ge (tgt := 151) hx hb dL_village_89 (by decide) (fun c89 => ?_) (fun c89 => ?_)
        · have c89 := (nI_leI (a := 5) (b := i) (by decide) (by omega)).mp c89
          obtain rfl : i = 5 := by omega
          exact kk S qt qp hV hR _ _ _ HW (lv_sub hl [1, 2] rfl)
        · have c89 : i < 5 := nI_lt_of (a := 5) (b := i) (by decide) (by omega) c89
          refine lv_aload_n hx hb dL_village_92 rfl (lv_at hl 1 rfl) ?_
          refine lv_aload_n hx hb dL_village_93 rfl (lv_at hl 2 rfl) ?_
          refine lv_iload_n hx hb dL_village_94 rfl (lv_at hl 0 rfl) ?_
          refine g_callSS CX HW hSX hl.1 ([]) (wXo cI a o  ++ (wVo cI a (o + 1) (vh S) (vc S) (vA S 0) (vA S 1) (vA S 2) ++ (wR cI a ((o + 1) + 4) (vr S) (vA S 3) (vA S 4) (vA S 5) (vA S 6) ++ (wS cI a ((o + 1) + 9) (vs S) (vA S 7) (vA S 8) (vA S 9) (vA S 10) (vA S 11) (vA S 12) qt qp ++ (wVo cI a (o + 19) (vh T) (vc T) (vA T 0) (vA T 1) (vA T 2) ++ (wR cI a ((o + 19) + 4) (vr T) (vA T 3) (vA T 4) (vA T 5) (vA T 6) ++ (wS cI a ((o + 19) + 9) (vs T) (vA T 7) (vA T 8) (vA T 9) (vA T 10) (vA T 11) (vA T 12) qt2 qp2))))))) (c_L_skillOf sb L xs i (by omega) (by omega)) rfl gL_village_L_skillOf rfl hd_L_skillOf ⟨rfl, rfl, (Nat.le_of_ble_eq_true rfl), (Nat.le_of_ble_eq_true rfl)⟩ ⟨hc, hs⟩ rfl rfl (Nat.le_of_ble_eq_true rfl) dL_village_95 (fun v w1 H locs hp HW => ?_)
          obtain ⟨rfl, rfl⟩ := hp
          have HW : Hw D A s (wXo cI a o  ++ (wVo cI a (o + 1) (vh S) (vc S) (vA S 0) (vA S 1) (vA S 2) ++ (wR cI a ((o + 1) + 4) (vr S) (vA S 3) (vA S 4) (vA S 5) (vA S 6) ++ (wS cI a ((o + 1) + 9) (vs S) (vA S 7) (vA S 8) (vA S 9) (vA S 10) (vA S 11) (vA S 12) qt qp ++ (wVo cI a (o + 19) (vh T) (vc T) (vA T 0) (vA T 1) (vA T 2) ++ (wR cI a ((o + 19) + 4) (vr T) (vA T 3) (vA T 4) (vA T 5) (vA T 6) ++ (wS cI a ((o + 19) + 9) (vs T) (vA T 7) (vA T 8) (vA T 9) (vA T 10) (vA T 11) (vA T 12) qt2 qp2))))))) H locs := HW
          refine W.eq (g2 := F0 m 98 ls [.int (nI (skF xs L i)), .ref (a o)]) rfl ?_
          refine lv_aload_n hx hb dL_village_98 rfl (lv_at hl 2 rfl) ?_
          refine lv_iload_n hx hb dL_village_99 rfl (lv_at hl 0 rfl) ?_
          refine g_callSS CX HW hSX hl.1 ([]) (wXo cI a o  ++ (wVo cI a (o + 1) (vh S) (vc S) (vA S 0) (vA S 1) (vA S 2) ++ (wR cI a ((o + 1) + 4) (vr S) (vA S 3) (vA S 4) (vA S 5) (vA S 6) ++ (wS cI a ((o + 1) + 9) (vs S) (vA S 7) (vA S 8) (vA S 9) (vA S 10) (vA S 11) (vA S 12) qt qp ++ (wVo cI a (o + 19) (vh T) (vc T) (vA T 0) (vA T 1) (vA T 2) ++ (wR cI a ((o + 19) + 4) (vr T) (vA T 3) (vA T 4) (vA T 5) (vA T 6) ++ (wS cI a ((o + 19) + 9) (vs T) (vA T 7) (vA T 8) (vA T 9) (vA T 10) (vA T 11) (vA T 12) qt2 qp2))))))) (c_L_coinsOf sb L xs i (by omega) (by omega)) rfl gL_village_L_coinsOf rfl hd_L_coinsOf ⟨rfl, rfl, (Nat.le_of_ble_eq_true rfl), (Nat.le_of_ble_eq_true rfl)⟩ ⟨hc, hs⟩ rfl rfl (Nat.le_of_ble_eq_true rfl) dL_village_100 (fun v w1 H locs hp HW => ?_)
          obtain ⟨rfl, rfl⟩ := hp
          have HW : Hw D A s (wXo cI a o  ++ (wVo cI a (o + 1) (vh S) (vc S) (vA S 0) (vA S 1) (vA S 2) ++ (wR cI a ((o + 1) + 4) (vr S) (vA S 3) (vA S 4) (vA S 5) (vA S 6) ++ (wS cI a ((o + 1) + 9) (vs S) (vA S 7) (vA S 8) (vA S 9) (vA S 10) (vA S 11) (vA S 12) qt qp ++ (wVo cI a (o + 19) (vh T) (vc T) (vA T 0) (vA T 1) (vA T 2) ++ (wR cI a ((o + 19) + 4) (vr T) (vA T 3) (vA T 4) (vA T 5) (vA T 6) ++ (wS cI a ((o + 19) + 9) (vs T) (vA T 7) (vA T 8) (vA T 9) (vA T 10) (vA T 11) (vA T 12) qt2 qp2))))))) H locs := HW
          refine W.eq (g2 := F0 m 103 ls [.int (nI (coF xs L i)), .int (nI (skF xs L i)), .ref (a o)]) rfl ?_
          refine g_callV CX HW hl.1 ([]) ([]) (c_X3_skier o S qt qp T qt2 qp2 (skF xs L i) (coF xs L i) (by rw [hV.2.1]; decide) (by rw [hV.2.2.1]; omega) hR (skF_in xs L i).1 (skF_in xs L i).2 (coF_le xs L i) (by rw [hV.2.2.1]; omega)) rfl 0 rfl rfl gL_village_X3_skier rfl ⟨rfl, hd_X3_skier⟩ ⟨rfl, rfl, (Nat.le_of_ble_eq_true rfl), (Nat.le_of_ble_eq_true rfl)⟩ ⟨hc, hs⟩ rfl rfl (Nat.le_of_ble_eq_true rfl) dL_village_103 (fun v w1 H locs hp HW => ?_)
          obtain ⟨qt'_2, qp'_2, hr9_2, rfl, rfl⟩ := hp
          have HW : Hw D A s (wXo cI a o  ++ (wVo cI a (o + 1) (vh (gSki S (skF xs L i) (coF xs L i))) (vc (gSki S (skF xs L i) (coF xs L i))) (vA (gSki S (skF xs L i) (coF xs L i)) 0) (vA (gSki S (skF xs L i) (coF xs L i)) 1) (vA (gSki S (skF xs L i) (coF xs L i)) 2) ++ (wR cI a ((o + 1) + 4) (vr (gSki S (skF xs L i) (coF xs L i))) (vA (gSki S (skF xs L i) (coF xs L i)) 3) (vA (gSki S (skF xs L i) (coF xs L i)) 4) (vA (gSki S (skF xs L i) (coF xs L i)) 5) (vA (gSki S (skF xs L i) (coF xs L i)) 6) ++ (wS cI a ((o + 1) + 9) (vs (gSki S (skF xs L i) (coF xs L i))) (vA (gSki S (skF xs L i) (coF xs L i)) 7) (vA (gSki S (skF xs L i) (coF xs L i)) 8) (vA (gSki S (skF xs L i) (coF xs L i)) 9) (vA (gSki S (skF xs L i) (coF xs L i)) 10) (vA (gSki S (skF xs L i) (coF xs L i)) 11) (vA (gSki S (skF xs L i) (coF xs L i)) 12) qt'_2 qp'_2 ++ (wVo cI a (o + 19) (vh T) (vc T) (vA T 0) (vA T 1) (vA T 2) ++ (wR cI a ((o + 19) + 4) (vr T) (vA T 3) (vA T 4) (vA T 5) (vA T 6) ++ (wS cI a ((o + 19) + 9) (vs T) (vA T 7) (vA T 8) (vA T 9) (vA T 10) (vA T 11) (vA T 12) qt2 qp2))))))) H locs := HW
          refine W.eq (g2 := F0 m 106 ls [.int (nI (vs S))]) rfl ?_
          have hV1 : VI (skF xs L) 4 (i + 1) (gSki S (skF xs L i) (coF xs L i)) := vi_ski hV (by omega) (coF_le xs L i) (skF_in xs L i)
          have hR1 := hr9_2
          refine lv_pop hx hb dL_village_106 rfl ?_
          refine lv_aload_n hx hb dL_village_107 rfl (lv_at hl 2 rfl) ?_
          refine lv_iload_n hx hb dL_village_108 rfl (lv_at hl 0 rfl) ?_
          refine g_callSS CX HW hSX hl.1 ([]) (wXo cI a o  ++ (wVo cI a (o + 1) (vh (gSki S (skF xs L i) (coF xs L i))) (vc (gSki S (skF xs L i) (coF xs L i))) (vA (gSki S (skF xs L i) (coF xs L i)) 0) (vA (gSki S (skF xs L i) (coF xs L i)) 1) (vA (gSki S (skF xs L i) (coF xs L i)) 2) ++ (wR cI a ((o + 1) + 4) (vr (gSki S (skF xs L i) (coF xs L i))) (vA (gSki S (skF xs L i) (coF xs L i)) 3) (vA (gSki S (skF xs L i) (coF xs L i)) 4) (vA (gSki S (skF xs L i) (coF xs L i)) 5) (vA (gSki S (skF xs L i) (coF xs L i)) 6) ++ (wS cI a ((o + 1) + 9) (vs (gSki S (skF xs L i) (coF xs L i))) (vA (gSki S (skF xs L i) (coF xs L i)) 7) (vA (gSki S (skF xs L i) (coF xs L i)) 8) (vA (gSki S (skF xs L i) (coF xs L i)) 9) (vA (gSki S (skF xs L i) (coF xs L i)) 10) (vA (gSki S (skF xs L i) (coF xs L i)) 11) (vA (gSki S (skF xs L i) (coF xs L i)) 12) qt'_2 qp'_2 ++ (wVo cI a (o + 19) (vh T) (vc T) (vA T 0) (vA T 1) (vA T 2) ++ (wR cI a ((o + 19) + 4) (vr T) (vA T 3) (vA T 4) (vA T 5) (vA T 6) ++ (wS cI a ((o + 19) + 9) (vs T) (vA T 7) (vA T 8) (vA T 9) (vA T 10) (vA T 11) (vA T 12) qt2 qp2))))))) (c_L_waxOf sb L xs i (by omega) (by omega)) rfl gL_village_L_waxOf rfl hd_L_waxOf ⟨rfl, rfl, (Nat.le_of_ble_eq_true rfl), (Nat.le_of_ble_eq_true rfl)⟩ ⟨hc, hs⟩ rfl rfl (Nat.le_of_ble_eq_true rfl) dL_village_109 (fun v w1 H locs hp HW => ?_)
          obtain ⟨rfl, rfl⟩ := hp
          have HW : Hw D A s (wXo cI a o  ++ (wVo cI a (o + 1) (vh (gSki S (skF xs L i) (coF xs L i))) (vc (gSki S (skF xs L i) (coF xs L i))) (vA (gSki S (skF xs L i) (coF xs L i)) 0) (vA (gSki S (skF xs L i) (coF xs L i)) 1) (vA (gSki S (skF xs L i) (coF xs L i)) 2) ++ (wR cI a ((o + 1) + 4) (vr (gSki S (skF xs L i) (coF xs L i))) (vA (gSki S (skF xs L i) (coF xs L i)) 3) (vA (gSki S (skF xs L i) (coF xs L i)) 4) (vA (gSki S (skF xs L i) (coF xs L i)) 5) (vA (gSki S (skF xs L i) (coF xs L i)) 6) ++ (wS cI a ((o + 1) + 9) (vs (gSki S (skF xs L i) (coF xs L i))) (vA (gSki S (skF xs L i) (coF xs L i)) 7) (vA (gSki S (skF xs L i) (coF xs L i)) 8) (vA (gSki S (skF xs L i) (coF xs L i)) 9) (vA (gSki S (skF xs L i) (coF xs L i)) 10) (vA (gSki S (skF xs L i) (coF xs L i)) 11) (vA (gSki S (skF xs L i) (coF xs L i)) 12) qt'_2 qp'_2 ++ (wVo cI a (o + 19) (vh T) (vc T) (vA T 0) (vA T 1) (vA T 2) ++ (wR cI a ((o + 19) + 4) (vr T) (vA T 3) (vA T 4) (vA T 5) (vA T 6) ++ (wS cI a ((o + 19) + 9) (vs T) (vA T 7) (vA T 8) (vA T 9) (vA T 10) (vA T 11) (vA T 12) qt2 qp2))))))) H locs := HW
          refine W.eq (g2 := F0 m 112 ls [.int (nI (wxF xs L i) - 1)]) rfl ?_
          refine lv_if_lt (tgt := 126) hx hb dL_village_112 (by decide) (fun c112 => ?_) (fun c112 => ?_)
          · exact j126 (gSki S (skF xs L i) (coF xs L i)) _ _ (by omega) hV1 hR1 _ _ _ HW (lv_sub hl [0, 1, 2] rfl)
          · have e1 := pm_pos (Nat.lt_of_le_of_lt (wxF_le xs L i) (by decide)) c112
            refine lv_aload_n hx hb dL_village_115 rfl (lv_at hl 1 rfl) ?_
            refine lv_iload_n hx hb dL_village_116 rfl (lv_at hl 0 rfl) ?_
            refine lv_aload_n hx hb dL_village_117 rfl (lv_at hl 2 rfl) ?_
            refine lv_iload_n hx hb dL_village_118 rfl (lv_at hl 0 rfl) ?_
            refine g_callSS CX HW hSX hl.1 ([]) (wXo cI a o  ++ (wVo cI a (o + 1) (vh (gSki S (skF xs L i) (coF xs L i))) (vc (gSki S (skF xs L i) (coF xs L i))) (vA (gSki S (skF xs L i) (coF xs L i)) 0) (vA (gSki S (skF xs L i) (coF xs L i)) 1) (vA (gSki S (skF xs L i) (coF xs L i)) 2) ++ (wR cI a ((o + 1) + 4) (vr (gSki S (skF xs L i) (coF xs L i))) (vA (gSki S (skF xs L i) (coF xs L i)) 3) (vA (gSki S (skF xs L i) (coF xs L i)) 4) (vA (gSki S (skF xs L i) (coF xs L i)) 5) (vA (gSki S (skF xs L i) (coF xs L i)) 6) ++ (wS cI a ((o + 1) + 9) (vs (gSki S (skF xs L i) (coF xs L i))) (vA (gSki S (skF xs L i) (coF xs L i)) 7) (vA (gSki S (skF xs L i) (coF xs L i)) 8) (vA (gSki S (skF xs L i) (coF xs L i)) 9) (vA (gSki S (skF xs L i) (coF xs L i)) 10) (vA (gSki S (skF xs L i) (coF xs L i)) 11) (vA (gSki S (skF xs L i) (coF xs L i)) 12) qt'_2 qp'_2 ++ (wVo cI a (o + 19) (vh T) (vc T) (vA T 0) (vA T 1) (vA T 2) ++ (wR cI a ((o + 19) + 4) (vr T) (vA T 3) (vA T 4) (vA T 5) (vA T 6) ++ (wS cI a ((o + 19) + 9) (vs T) (vA T 7) (vA T 8) (vA T 9) (vA T 10) (vA T 11) (vA T 12) qt2 qp2))))))) (c_L_waxOf sb L xs i (by omega) (by omega)) rfl gL_village_L_waxOf rfl hd_L_waxOf ⟨rfl, rfl, (Nat.le_of_ble_eq_true rfl), (Nat.le_of_ble_eq_true rfl)⟩ ⟨hc, hs⟩ rfl rfl (Nat.le_of_ble_eq_true rfl) dL_village_119 (fun v w1 H locs hp HW => ?_)
            obtain ⟨rfl, rfl⟩ := hp
            have HW : Hw D A s (wXo cI a o  ++ (wVo cI a (o + 1) (vh (gSki S (skF xs L i) (coF xs L i))) (vc (gSki S (skF xs L i) (coF xs L i))) (vA (gSki S (skF xs L i) (coF xs L i)) 0) (vA (gSki S (skF xs L i) (coF xs L i)) 1) (vA (gSki S (skF xs L i) (coF xs L i)) 2) ++ (wR cI a ((o + 1) + 4) (vr (gSki S (skF xs L i) (coF xs L i))) (vA (gSki S (skF xs L i) (coF xs L i)) 3) (vA (gSki S (skF xs L i) (coF xs L i)) 4) (vA (gSki S (skF xs L i) (coF xs L i)) 5) (vA (gSki S (skF xs L i) (coF xs L i)) 6) ++ (wS cI a ((o + 1) + 9) (vs (gSki S (skF xs L i) (coF xs L i))) (vA (gSki S (skF xs L i) (coF xs L i)) 7) (vA (gSki S (skF xs L i) (coF xs L i)) 8) (vA (gSki S (skF xs L i) (coF xs L i)) 9) (vA (gSki S (skF xs L i) (coF xs L i)) 10) (vA (gSki S (skF xs L i) (coF xs L i)) 11) (vA (gSki S (skF xs L i) (coF xs L i)) 12) qt'_2 qp'_2 ++ (wVo cI a (o + 19) (vh T) (vc T) (vA T 0) (vA T 1) (vA T 2) ++ (wR cI a ((o + 19) + 4) (vr T) (vA T 3) (vA T 4) (vA T 5) (vA T 6) ++ (wS cI a ((o + 19) + 9) (vs T) (vA T 7) (vA T 8) (vA T 9) (vA T 10) (vA T 11) (vA T 12) qt2 qp2))))))) H locs := HW
            refine W.eq (g2 := F0 m 122 ls [.int (nI (wxF xs L i) - 1), .int (nI i), .ref (a o)]) rfl ?_
            refine g_top (y := (nI (wxF xs L i - 1))) e1.2 ?_
            refine g_callV CX HW hl.1 ([]) ([]) (c_X3_wax o (gSki S (skF xs L i) (coF xs L i)) qt'_2 qp'_2 T qt2 qp2 i (wxF xs L i - 1) (by rw [hV1.2.1]; decide) (by rw [hV1.2.2.1]; omega) (by rw [hV1.2.2.1]; omega) (by have := wxF_le xs L i; omega) (ski_coin hV (coF_le xs L i) (wxF_co (by omega)))) rfl 0 rfl rfl gL_village_X3_wax rfl ⟨rfl, hd_X3_wax⟩ ⟨rfl, rfl, (Nat.le_of_ble_eq_true rfl), (Nat.le_of_ble_eq_true rfl)⟩ ⟨hc, hs⟩ rfl rfl (Nat.le_of_ble_eq_true rfl) dL_village_122 (fun v w1 H locs hp HW => ?_)
            obtain ⟨rfl, rfl⟩ := hp
            have HW : Hw D A s (wXo cI a o  ++ (wVo cI a (o + 1) (vh (gWax (gSki S (skF xs L i) (coF xs L i)) i (wxF xs L i - 1))) (vc (gWax (gSki S (skF xs L i) (coF xs L i)) i (wxF xs L i - 1))) (vA (gWax (gSki S (skF xs L i) (coF xs L i)) i (wxF xs L i - 1)) 0) (vA (gWax (gSki S (skF xs L i) (coF xs L i)) i (wxF xs L i - 1)) 1) (vA (gWax (gSki S (skF xs L i) (coF xs L i)) i (wxF xs L i - 1)) 2) ++ (wR cI a ((o + 1) + 4) (vr (gWax (gSki S (skF xs L i) (coF xs L i)) i (wxF xs L i - 1))) (vA (gWax (gSki S (skF xs L i) (coF xs L i)) i (wxF xs L i - 1)) 3) (vA (gWax (gSki S (skF xs L i) (coF xs L i)) i (wxF xs L i - 1)) 4) (vA (gWax (gSki S (skF xs L i) (coF xs L i)) i (wxF xs L i - 1)) 5) (vA (gWax (gSki S (skF xs L i) (coF xs L i)) i (wxF xs L i - 1)) 6) ++ (wS cI a ((o + 1) + 9) (vs (gWax (gSki S (skF xs L i) (coF xs L i)) i (wxF xs L i - 1))) (vA (gWax (gSki S (skF xs L i) (coF xs L i)) i (wxF xs L i - 1)) 7) (vA (gWax (gSki S (skF xs L i) (coF xs L i)) i (wxF xs L i - 1)) 8) (vA (gWax (gSki S (skF xs L i) (coF xs L i)) i (wxF xs L i - 1)) 9) (vA (gWax (gSki S (skF xs L i) (coF xs L i)) i (wxF xs L i - 1)) 10) (vA (gWax (gSki S (skF xs L i) (coF xs L i)) i (wxF xs L i - 1)) 11) (vA (gWax (gSki S (skF xs L i) (coF xs L i)) i (wxF xs L i - 1)) 12) qt'_2 qp'_2 ++ (wVo cI a (o + 19) (vh T) (vc T) (vA T 0) (vA T 1) (vA T 2) ++ (wR cI a ((o + 19) + 4) (vr T) (vA T 3) (vA T 4) (vA T 5) (vA T 6) ++ (wS cI a ((o + 19) + 9) (vs T) (vA T 7) (vA T 8) (vA T 9) (vA T 10) (vA T 11) (vA T 12) qt2 qp2))))))) H locs := HW
            refine W.eq (g2 := F0 m 125 ls [.int (vA (gSki S (skF xs L i) (coF xs L i)) 8 i - 2)]) rfl ?_
            refine lv_pop hx hb dL_village_125 rfl ?_
            exact j126 (gWax (gSki S (skF xs L i) (coF xs L i)) i (wxF xs L i - 1)) _ _ (by omega) (vi_wax hV1 (by omega) (by have := wxF_le xs L i; omega) (ski_coin hV (coF_le xs L i) (wxF_co (by omega)))) hR1 _ _ _ HW (lv_sub hl [0, 1, 2] rfl)
    refine lv_iconst (v := 0) hx hb dL_village_85 (by decide) ?_
    refine lv_istore_n (lv' := [(2, .int (0 : Int32)), (1, .ref (a o)), (0, .ref sb)]) hx hb dL_village_86 rfl hl (Nat.le_of_ble_eq_true rfl) rfl (fun ls hl => ?_)
    exact l87 _ 0 S qt qp rfl (by omega) hV hR _ _ _ HW (lv_sub hl [0, 1, 2] rfl)
  have j57 : ∀ (S : VS) (qt : Nat → Int32) (qp : Nat → Int32), (VI (skF xs L) 0 0 S) → (Rep (vs S) (vq S) qt qp) → ∀ (H : Heap) (locs : List Loc) (ls : Array Slot), Hw D A s (wXo cI a o  ++ (wVo cI a (o + 1) (vh S) (vc S) (vA S 0) (vA S 1) (vA S 2) ++ (wR cI a ((o + 1) + 4) (vr S) (vA S 3) (vA S 4) (vA S 5) (vA S 6) ++ (wS cI a ((o + 1) + 9) (vs S) (vA S 7) (vA S 8) (vA S 9) (vA S 10) (vA S 11) (vA S 12) qt qp ++ (wVo cI a (o + 19) (vh T) (vc T) (vA T 0) (vA T 1) (vA T 2) ++ (wR cI a ((o + 19) + 4) (vr T) (vA T 3) (vA T 4) (vA T 5) (vA T 6) ++ (wS cI a ((o + 19) + 9) (vs T) (vA T 7) (vA T 8) (vA T 9) (vA T 10) (vA T 11) (vA T 12) qt2 qp2))))))) H locs → lv_has ls 3 [(1, .ref (a o)), (0, .ref sb)] → W p l e rmV s m args below meth c H locs cells slots Q (F0 m 57 ls []) := by
    intro S qt qp hV hR H locs ls HW hl
    have l59 : ∀ (d59 : Nat) (i : Nat) (S : VS) (qt : Nat → Int32) (qp : Nat → Int32), 4 - i = d59 → (i ≤ 4) → (VI (skF xs L) i 0 S) → (Rep (vs S) (vq S) qt qp) → ∀ (H : Heap) (locs : List Loc) (ls : Array Slot), Hw D A s (wXo cI a o  ++ (wVo cI a (o + 1) (vh S) (vc S) (vA S 0) (vA S 1) (vA S 2) ++ (wR cI a ((o + 1) + 4) (vr S) (vA S 3) (vA S 4) (vA S 5) (vA S 6) ++ (wS cI a ((o + 1) + 9) (vs S) (vA S 7) (vA S 8) (vA S 9) (vA S 10) (vA S 11) (vA S 12) qt qp ++ (wVo cI a (o + 19) (vh T) (vc T) (vA T 0) (vA T 1) (vA T 2) ++ (wR cI a ((o + 19) + 4) (vr T) (vA T 3) (vA T 4) (vA T 5) (vA T 6) ++ (wS cI a ((o + 19) + 9) (vs T) (vA T 7) (vA T 8) (vA T 9) (vA T 10) (vA T 11) (vA T 12) qt2 qp2))))))) H locs → lv_has ls 3 [(2, .int (nI i)), (1, .ref (a o)), (0, .ref sb)] → W p l e rmV s m args below meth c H locs cells slots Q (F0 m 59 ls []) := by
      intro d59
      induction d59 using Nat.strongRecOn with
      | _ d59 ih59 =>
        intro i S qt qp hd59 hi hV hR H locs ls HW hl
        refine lv_iload_n hx hb dL_village_59 rfl (lv_at hl 0 rfl) ?_
        refine lv_iconst (v := 4) hx hb dL_village_60 (by decide) ?_
        refine lv_icmp_ge (tgt := 85) hx hb dL_village_61 (by decide) (fun c61 => ?_) (fun c61 => ?_)
        · have c61 := (nI_leI (a := 4) (b := i) (by decide) (by omega)).mp c61
          obtain rfl : i = 4 := by omega
          exact j85 S qt qp hV hR _ _ _ HW (lv_sub hl [1, 2] rfl)
        · have c61 : i < 4 := nI_lt_of (a := 4) (b := i) (by decide) (by omega) c61
          refine lv_aload_n hx hb dL_village_64 rfl (lv_at hl 1 rfl) ?_
          refine lv_aload_n hx hb dL_village_65 rfl (lv_at hl 2 rfl) ?_
          refine lv_iload_n hx hb dL_village_66 rfl (lv_at hl 0 rfl) ?_
          refine g_callSS CX HW hSX hl.1 ([]) (wXo cI a o  ++ (wVo cI a (o + 1) (vh S) (vc S) (vA S 0) (vA S 1) (vA S 2) ++ (wR cI a ((o + 1) + 4) (vr S) (vA S 3) (vA S 4) (vA S 5) (vA S 6) ++ (wS cI a ((o + 1) + 9) (vs S) (vA S 7) (vA S 8) (vA S 9) (vA S 10) (vA S 11) (vA S 12) qt qp ++ (wVo cI a (o + 19) (vh T) (vc T) (vA T 0) (vA T 1) (vA T 2) ++ (wR cI a ((o + 19) + 4) (vr T) (vA T 3) (vA T 4) (vA T 5) (vA T 6) ++ (wS cI a ((o + 19) + 9) (vs T) (vA T 7) (vA T 8) (vA T 9) (vA T 10) (vA T 11) (vA T 12) qt2 qp2))))))) (c_L_towOf sb L xs i (by omega) (by omega)) rfl gL_village_L_towOf rfl hd_L_towOf ⟨rfl, rfl, (Nat.le_of_ble_eq_true rfl), (Nat.le_of_ble_eq_true rfl)⟩ ⟨hc, hs⟩ rfl rfl (Nat.le_of_ble_eq_true rfl) dL_village_67 (fun v w1 H locs hp HW => ?_)
          obtain ⟨rfl, rfl⟩ := hp
          have HW : Hw D A s (wXo cI a o  ++ (wVo cI a (o + 1) (vh S) (vc S) (vA S 0) (vA S 1) (vA S 2) ++ (wR cI a ((o + 1) + 4) (vr S) (vA S 3) (vA S 4) (vA S 5) (vA S 6) ++ (wS cI a ((o + 1) + 9) (vs S) (vA S 7) (vA S 8) (vA S 9) (vA S 10) (vA S 11) (vA S 12) qt qp ++ (wVo cI a (o + 19) (vh T) (vc T) (vA T 0) (vA T 1) (vA T 2) ++ (wR cI a ((o + 19) + 4) (vr T) (vA T 3) (vA T 4) (vA T 5) (vA T 6) ++ (wS cI a ((o + 19) + 9) (vs T) (vA T 7) (vA T 8) (vA T 9) (vA T 10) (vA T 11) (vA T 12) qt2 qp2))))))) H locs := HW
          refine W.eq (g2 := F0 m 70 ls [.int (nI (toF xs L i)), .ref (a o)]) rfl ?_
          refine lv_aload_n hx hb dL_village_70 rfl (lv_at hl 2 rfl) ?_
          refine lv_iload_n hx hb dL_village_71 rfl (lv_at hl 0 rfl) ?_
          refine g_callSS CX HW hSX hl.1 ([]) (wXo cI a o  ++ (wVo cI a (o + 1) (vh S) (vc S) (vA S 0) (vA S 1) (vA S 2) ++ (wR cI a ((o + 1) + 4) (vr S) (vA S 3) (vA S 4) (vA S 5) (vA S 6) ++ (wS cI a ((o + 1) + 9) (vs S) (vA S 7) (vA S 8) (vA S 9) (vA S 10) (vA S 11) (vA S 12) qt qp ++ (wVo cI a (o + 19) (vh T) (vc T) (vA T 0) (vA T 1) (vA T 2) ++ (wR cI a ((o + 19) + 4) (vr T) (vA T 3) (vA T 4) (vA T 5) (vA T 6) ++ (wS cI a ((o + 19) + 9) (vs T) (vA T 7) (vA T 8) (vA T 9) (vA T 10) (vA T 11) (vA T 12) qt2 qp2))))))) (c_L_slopeOf sb L xs i (by omega) (by omega)) rfl gL_village_L_slopeOf rfl hd_L_slopeOf ⟨rfl, rfl, (Nat.le_of_ble_eq_true rfl), (Nat.le_of_ble_eq_true rfl)⟩ ⟨hc, hs⟩ rfl rfl (Nat.le_of_ble_eq_true rfl) dL_village_72 (fun v w1 H locs hp HW => ?_)
          obtain ⟨rfl, rfl⟩ := hp
          have HW : Hw D A s (wXo cI a o  ++ (wVo cI a (o + 1) (vh S) (vc S) (vA S 0) (vA S 1) (vA S 2) ++ (wR cI a ((o + 1) + 4) (vr S) (vA S 3) (vA S 4) (vA S 5) (vA S 6) ++ (wS cI a ((o + 1) + 9) (vs S) (vA S 7) (vA S 8) (vA S 9) (vA S 10) (vA S 11) (vA S 12) qt qp ++ (wVo cI a (o + 19) (vh T) (vc T) (vA T 0) (vA T 1) (vA T 2) ++ (wR cI a ((o + 19) + 4) (vr T) (vA T 3) (vA T 4) (vA T 5) (vA T 6) ++ (wS cI a ((o + 19) + 9) (vs T) (vA T 7) (vA T 8) (vA T 9) (vA T 10) (vA T 11) (vA T 12) qt2 qp2))))))) H locs := HW
          refine W.eq (g2 := F0 m 75 ls [.int (nI (slF xs L i)), .int (nI (toF xs L i)), .ref (a o)]) rfl ?_
          refine g_callV CX HW hl.1 ([]) ([]) (c_X3_run o S qt qp T qt2 qp2 (toF xs L i) (slF xs L i) (by rw [hV.2.1]; omega) (by rw [hV.2.2.1]; decide) (toF_le xs L i) (slF_in xs L i).1 (slF_in xs L i).2 (by rw [hV.2.1]; omega)) rfl 0 rfl rfl gL_village_X3_run rfl ⟨rfl, hd_X3_run⟩ ⟨rfl, rfl, (Nat.le_of_ble_eq_true rfl), (Nat.le_of_ble_eq_true rfl)⟩ ⟨hc, hs⟩ rfl rfl (Nat.le_of_ble_eq_true rfl) dL_village_75 (fun v w1 H locs hp HW => ?_)
          obtain ⟨rfl, rfl⟩ := hp
          have HW : Hw D A s (wXo cI a o  ++ (wVo cI a (o + 1) (vh (gRun S (toF xs L i) (slF xs L i))) (vc (gRun S (toF xs L i) (slF xs L i))) (vA (gRun S (toF xs L i) (slF xs L i)) 0) (vA (gRun S (toF xs L i) (slF xs L i)) 1) (vA (gRun S (toF xs L i) (slF xs L i)) 2) ++ (wR cI a ((o + 1) + 4) (vr (gRun S (toF xs L i) (slF xs L i))) (vA (gRun S (toF xs L i) (slF xs L i)) 3) (vA (gRun S (toF xs L i) (slF xs L i)) 4) (vA (gRun S (toF xs L i) (slF xs L i)) 5) (vA (gRun S (toF xs L i) (slF xs L i)) 6) ++ (wS cI a ((o + 1) + 9) (vs (gRun S (toF xs L i) (slF xs L i))) (vA (gRun S (toF xs L i) (slF xs L i)) 7) (vA (gRun S (toF xs L i) (slF xs L i)) 8) (vA (gRun S (toF xs L i) (slF xs L i)) 9) (vA (gRun S (toF xs L i) (slF xs L i)) 10) (vA (gRun S (toF xs L i) (slF xs L i)) 11) (vA (gRun S (toF xs L i) (slF xs L i)) 12) qt qp ++ (wVo cI a (o + 19) (vh T) (vc T) (vA T 0) (vA T 1) (vA T 2) ++ (wR cI a ((o + 19) + 4) (vr T) (vA T 3) (vA T 4) (vA T 5) (vA T 6) ++ (wS cI a ((o + 19) + 9) (vs T) (vA T 7) (vA T 8) (vA T 9) (vA T 10) (vA T 11) (vA T 12) qt2 qp2))))))) H locs := HW
          refine W.eq (g2 := F0 m 78 ls [.int (nI (vr S))]) rfl ?_
          refine lv_pop hx hb dL_village_78 rfl ?_
          refine lv_iinc (v := (nI (i + 1))) (lv' := [(2, .int (nI (i + 1))), (1, .ref (a o)), (0, .ref sb)]) hx hb dL_village_79 hl (k := 0) rfl (inc1 _) (Nat.le_of_ble_eq_true rfl) rfl (fun ls hl => ?_)
          refine lv_goto (tgt := 59) hx hb dL_village_82 (by decide) ?_
          exact ih59 _ (by omega) (i + 1) (gRun S (toF xs L i) (slF xs L i)) qt qp rfl (by omega) (vi_run hV (by omega) (toF_le xs L i) (slF_in xs L i)) hR _ _ _ HW (lv_sub hl [0, 1, 2] rfl)
    refine lv_iconst (v := 0) hx hb dL_village_57 (by decide) ?_
    refine lv_istore_n (lv' := [(2, .int (0 : Int32)), (1, .ref (a o)), (0, .ref sb)]) hx hb dL_village_58 rfl hl (Nat.le_of_ble_eq_true rfl) rfl (fun ls hl => ?_)
    exact l59 _ 0 S qt qp rfl (by omega) hV hR _ _ _ HW (lv_sub hl [0, 1, 2] rfl)
  have j33 : ∀ (S : VS) (qt : Nat → Int32) (qp : Nat → Int32), (VI (skF xs L) 0 0 S) → (Rep (vs S) (vq S) qt qp) → ∀ (H : Heap) (locs : List Loc) (ls : Array Slot), Hw D A s (wXo cI a o  ++ (wVo cI a (o + 1) (vh S) (vc S) (vA S 0) (vA S 1) (vA S 2) ++ (wR cI a ((o + 1) + 4) (vr S) (vA S 3) (vA S 4) (vA S 5) (vA S 6) ++ (wS cI a ((o + 1) + 9) (vs S) (vA S 7) (vA S 8) (vA S 9) (vA S 10) (vA S 11) (vA S 12) qt qp ++ (wVo cI a (o + 19) (vh T) (vc T) (vA T 0) (vA T 1) (vA T 2) ++ (wR cI a ((o + 19) + 4) (vr T) (vA T 3) (vA T 4) (vA T 5) (vA T 6) ++ (wS cI a ((o + 19) + 9) (vs T) (vA T 7) (vA T 8) (vA T 9) (vA T 10) (vA T 11) (vA T 12) qt2 qp2))))))) H locs → lv_has ls 3 [(1, .ref (a o)), (0, .ref sb)] → W p l e rmV s m args below meth c H locs cells slots Q (F0 m 33 ls []) := by
    intro S qt qp hV hR H locs ls HW hl
    have l35 : ∀ (d35 : Nat) (i : Nat) (S : VS) (qt : Nat → Int32) (qp : Nat → Int32), 3 - i = d35 → (i ≤ 3) → (VI (skF xs L) 0 0 S) → (Rep (vs S) (vq S) qt qp) → ∀ (H : Heap) (locs : List Loc) (ls : Array Slot), Hw D A s (wXo cI a o  ++ (wVo cI a (o + 1) (vh S) (vc S) (vA S 0) (vA S 1) (vA S 2) ++ (wR cI a ((o + 1) + 4) (vr S) (vA S 3) (vA S 4) (vA S 5) (vA S 6) ++ (wS cI a ((o + 1) + 9) (vs S) (vA S 7) (vA S 8) (vA S 9) (vA S 10) (vA S 11) (vA S 12) qt qp ++ (wVo cI a (o + 19) (vh T) (vc T) (vA T 0) (vA T 1) (vA T 2) ++ (wR cI a ((o + 19) + 4) (vr T) (vA T 3) (vA T 4) (vA T 5) (vA T 6) ++ (wS cI a ((o + 19) + 9) (vs T) (vA T 7) (vA T 8) (vA T 9) (vA T 10) (vA T 11) (vA T 12) qt2 qp2))))))) H locs → lv_has ls 3 [(2, .int (nI i)), (1, .ref (a o)), (0, .ref sb)] → W p l e rmV s m args below meth c H locs cells slots Q (F0 m 35 ls []) := by
      intro d35
      induction d35 using Nat.strongRecOn with
      | _ d35 ih35 =>
        intro i S qt qp hd35 hi hV hR H locs ls HW hl
        refine lv_iload_n hx hb dL_village_35 rfl (lv_at hl 0 rfl) ?_
        refine lv_iconst (v := 3) hx hb dL_village_36 (by decide) ?_
        refine lv_icmp_ge (tgt := 57) hx hb dL_village_37 (by decide) (fun c37 => ?_) (fun c37 => ?_)
        · have c37 := (nI_leI (a := 3) (b := i) (by decide) (by omega)).mp c37
          obtain rfl : i = 3 := by omega
          exact j57 S qt qp hV hR _ _ _ HW (lv_sub hl [1, 2] rfl)
        · have c37 : i < 3 := nI_lt_of (a := 3) (b := i) (by decide) (by omega) c37
          refine lv_aload_n hx hb dL_village_40 rfl (lv_at hl 1 rfl) ?_
          refine lv_iload_n hx hb dL_village_41 rfl (lv_at hl 0 rfl) ?_
          refine lv_aload_n hx hb dL_village_42 rfl (lv_at hl 2 rfl) ?_
          refine lv_iload_n hx hb dL_village_43 rfl (lv_at hl 0 rfl) ?_
          refine g_callSS CX HW hSX hl.1 ([]) (wXo cI a o  ++ (wVo cI a (o + 1) (vh S) (vc S) (vA S 0) (vA S 1) (vA S 2) ++ (wR cI a ((o + 1) + 4) (vr S) (vA S 3) (vA S 4) (vA S 5) (vA S 6) ++ (wS cI a ((o + 1) + 9) (vs S) (vA S 7) (vA S 8) (vA S 9) (vA S 10) (vA S 11) (vA S 12) qt qp ++ (wVo cI a (o + 19) (vh T) (vc T) (vA T 0) (vA T 1) (vA T 2) ++ (wR cI a ((o + 19) + 4) (vr T) (vA T 3) (vA T 4) (vA T 5) (vA T 6) ++ (wS cI a ((o + 19) + 9) (vs T) (vA T 7) (vA T 8) (vA T 9) (vA T 10) (vA T 11) (vA T 12) qt2 qp2))))))) (c_L_pommelsOf sb L xs i (by omega) (by omega)) rfl gL_village_L_pommelsOf rfl hd_L_pommelsOf ⟨rfl, rfl, (Nat.le_of_ble_eq_true rfl), (Nat.le_of_ble_eq_true rfl)⟩ ⟨hc, hs⟩ rfl rfl (Nat.le_of_ble_eq_true rfl) dL_village_44 (fun v w1 H locs hp HW => ?_)
          obtain ⟨rfl, rfl⟩ := hp
          have HW : Hw D A s (wXo cI a o  ++ (wVo cI a (o + 1) (vh S) (vc S) (vA S 0) (vA S 1) (vA S 2) ++ (wR cI a ((o + 1) + 4) (vr S) (vA S 3) (vA S 4) (vA S 5) (vA S 6) ++ (wS cI a ((o + 1) + 9) (vs S) (vA S 7) (vA S 8) (vA S 9) (vA S 10) (vA S 11) (vA S 12) qt qp ++ (wVo cI a (o + 19) (vh T) (vc T) (vA T 0) (vA T 1) (vA T 2) ++ (wR cI a ((o + 19) + 4) (vr T) (vA T 3) (vA T 4) (vA T 5) (vA T 6) ++ (wS cI a ((o + 19) + 9) (vs T) (vA T 7) (vA T 8) (vA T 9) (vA T 10) (vA T 11) (vA T 12) qt2 qp2))))))) H locs := HW
          refine W.eq (g2 := F0 m 47 ls [.int (nI (pmF xs L i)), .int (nI i), .ref (a o)]) rfl ?_
          refine g_callV CX HW hl.1 ([]) ([]) (c_X3_setPommels o S qt qp T qt2 qp2 i (pmF xs L i) (by omega) (pmF_in xs L i).1 (pmF_in xs L i).2 (by rw [hV.2.1]; decide) (by rw [hV.2.2.1]; decide)) rfl 0 rfl rfl gL_village_X3_setPommels rfl ⟨rfl, hd_X3_setPommels⟩ ⟨rfl, rfl, (Nat.le_of_ble_eq_true rfl), (Nat.le_of_ble_eq_true rfl)⟩ ⟨hc, hs⟩ rfl rfl (Nat.le_of_ble_eq_true rfl) dL_village_47 (fun v w1 H locs hp HW => ?_)
          obtain ⟨rfl, rfl⟩ := hp
          have HW : Hw D A s (wXo cI a o  ++ (wVo cI a (o + 1) (vh (gSetP S i (pmF xs L i))) (vc (gSetP S i (pmF xs L i))) (vA (gSetP S i (pmF xs L i)) 0) (vA (gSetP S i (pmF xs L i)) 1) (vA (gSetP S i (pmF xs L i)) 2) ++ (wR cI a ((o + 1) + 4) (vr (gSetP S i (pmF xs L i))) (vA (gSetP S i (pmF xs L i)) 3) (vA (gSetP S i (pmF xs L i)) 4) (vA (gSetP S i (pmF xs L i)) 5) (vA (gSetP S i (pmF xs L i)) 6) ++ (wS cI a ((o + 1) + 9) (vs (gSetP S i (pmF xs L i))) (vA (gSetP S i (pmF xs L i)) 7) (vA (gSetP S i (pmF xs L i)) 8) (vA (gSetP S i (pmF xs L i)) 9) (vA (gSetP S i (pmF xs L i)) 10) (vA (gSetP S i (pmF xs L i)) 11) (vA (gSetP S i (pmF xs L i)) 12) qt qp ++ (wVo cI a (o + 19) (vh T) (vc T) (vA T 0) (vA T 1) (vA T 2) ++ (wR cI a ((o + 19) + 4) (vr T) (vA T 3) (vA T 4) (vA T 5) (vA T 6) ++ (wS cI a ((o + 19) + 9) (vs T) (vA T 7) (vA T 8) (vA T 9) (vA T 10) (vA T 11) (vA T 12) qt2 qp2))))))) H locs := HW
          refine W.eq (g2 := F0 m 50 ls [.int (vA S 1 i)]) rfl ?_
          refine lv_pop hx hb dL_village_50 rfl ?_
          refine lv_iinc (v := (nI (i + 1))) (lv' := [(2, .int (nI (i + 1))), (1, .ref (a o)), (0, .ref sb)]) hx hb dL_village_51 hl (k := 0) rfl (inc1 _) (Nat.le_of_ble_eq_true rfl) rfl (fun ls hl => ?_)
          refine lv_goto (tgt := 35) hx hb dL_village_54 (by decide) ?_
          exact ih35 _ (by omega) (i + 1) (gSetP S i (pmF xs L i)) qt qp rfl (by omega) (vi_setP hV (pmF_in xs L i)) hR _ _ _ HW (lv_sub hl [0, 1, 2] rfl)
    refine lv_iconst (v := 0) hx hb dL_village_33 (by decide) ?_
    refine lv_istore_n (lv' := [(2, .int (0 : Int32)), (1, .ref (a o)), (0, .ref sb)]) hx hb dL_village_34 rfl hl (Nat.le_of_ble_eq_true rfl) rfl (fun ls hl => ?_)
    exact l35 _ 0 S qt qp rfl (by omega) hV hR _ _ _ HW (lv_sub hl [0, 1, 2] rfl)
  have l10 : ∀ (d10 : Nat) (i : Nat) (S : VS) (qt : Nat → Int32) (qp : Nat → Int32), 6 - i = d10 → (i ≤ 6) → (VI (skF xs L) 0 0 S) → (Rep (vs S) (vq S) qt qp) → ∀ (H : Heap) (locs : List Loc) (ls : Array Slot), Hw D A s (wXo cI a o  ++ (wVo cI a (o + 1) (vh S) (vc S) (vA S 0) (vA S 1) (vA S 2) ++ (wR cI a ((o + 1) + 4) (vr S) (vA S 3) (vA S 4) (vA S 5) (vA S 6) ++ (wS cI a ((o + 1) + 9) (vs S) (vA S 7) (vA S 8) (vA S 9) (vA S 10) (vA S 11) (vA S 12) qt qp ++ (wVo cI a (o + 19) (vh T) (vc T) (vA T 0) (vA T 1) (vA T 2) ++ (wR cI a ((o + 19) + 4) (vr T) (vA T 3) (vA T 4) (vA T 5) (vA T 6) ++ (wS cI a ((o + 19) + 9) (vs T) (vA T 7) (vA T 8) (vA T 9) (vA T 10) (vA T 11) (vA T 12) qt2 qp2))))))) H locs → lv_has ls 3 [(2, .int (nI i)), (1, .ref (a o)), (0, .ref sb)] → W p l e rmV s m args below meth c H locs cells slots Q (F0 m 10 ls []) := by
    intro d10
    induction d10 using Nat.strongRecOn with
    | _ d10 ih10 =>
      intro i S qt qp hd10 hi hV hR H locs ls HW hl
      refine lv_iload_n hx hb dL_village_10 rfl (lv_at hl 0 rfl) ?_
      refine lv_bipush (v := 6) hx hb dL_village_11 (by decide) ?_
      refine lv_icmp_ge (tgt := 33) hx hb dL_village_13 (by decide) (fun c13 => ?_) (fun c13 => ?_)
      · have c13 := (nI_leI (a := 6) (b := i) (by decide) (by omega)).mp c13
        obtain rfl : i = 6 := by omega
        exact j33 S qt qp hV hR _ _ _ HW (lv_sub hl [1, 2] rfl)
      · have c13 : i < 6 := nI_lt_of (a := 6) (b := i) (by decide) (by omega) c13
        refine lv_aload_n hx hb dL_village_16 rfl (lv_at hl 1 rfl) ?_
        refine lv_iload_n hx hb dL_village_17 rfl (lv_at hl 0 rfl) ?_
        refine lv_aload_n hx hb dL_village_18 rfl (lv_at hl 2 rfl) ?_
        refine lv_iload_n hx hb dL_village_19 rfl (lv_at hl 0 rfl) ?_
        refine g_callSS CX HW hSX hl.1 ([]) (wXo cI a o  ++ (wVo cI a (o + 1) (vh S) (vc S) (vA S 0) (vA S 1) (vA S 2) ++ (wR cI a ((o + 1) + 4) (vr S) (vA S 3) (vA S 4) (vA S 5) (vA S 6) ++ (wS cI a ((o + 1) + 9) (vs S) (vA S 7) (vA S 8) (vA S 9) (vA S 10) (vA S 11) (vA S 12) qt qp ++ (wVo cI a (o + 19) (vh T) (vc T) (vA T 0) (vA T 1) (vA T 2) ++ (wR cI a ((o + 19) + 4) (vr T) (vA T 3) (vA T 4) (vA T 5) (vA T 6) ++ (wS cI a ((o + 19) + 9) (vs T) (vA T 7) (vA T 8) (vA T 9) (vA T 10) (vA T 11) (vA T 12) qt2 qp2))))))) (c_L_flakeOf sb L xs i (by omega) (by omega)) rfl gL_village_L_flakeOf rfl hd_L_flakeOf ⟨rfl, rfl, (Nat.le_of_ble_eq_true rfl), (Nat.le_of_ble_eq_true rfl)⟩ ⟨hc, hs⟩ rfl rfl (Nat.le_of_ble_eq_true rfl) dL_village_20 (fun v w1 H locs hp HW => ?_)
        obtain ⟨rfl, rfl⟩ := hp
        have HW : Hw D A s (wXo cI a o  ++ (wVo cI a (o + 1) (vh S) (vc S) (vA S 0) (vA S 1) (vA S 2) ++ (wR cI a ((o + 1) + 4) (vr S) (vA S 3) (vA S 4) (vA S 5) (vA S 6) ++ (wS cI a ((o + 1) + 9) (vs S) (vA S 7) (vA S 8) (vA S 9) (vA S 10) (vA S 11) (vA S 12) qt qp ++ (wVo cI a (o + 19) (vh T) (vc T) (vA T 0) (vA T 1) (vA T 2) ++ (wR cI a ((o + 19) + 4) (vr T) (vA T 3) (vA T 4) (vA T 5) (vA T 6) ++ (wS cI a ((o + 19) + 9) (vs T) (vA T 7) (vA T 8) (vA T 9) (vA T 10) (vA T 11) (vA T 12) qt2 qp2))))))) H locs := HW
        refine W.eq (g2 := F0 m 23 ls [.int (nI (fkF xs L i)), .int (nI i), .ref (a o)]) rfl ?_
        refine g_callV CX HW hl.1 ([]) ([]) (c_X3_setFlake o S qt qp T qt2 qp2 i (fkF xs L i) (by omega) (fkF_le xs L i) (by rw [hV.2.1]; decide) (by rw [hV.2.2.1]; decide)) rfl 0 rfl rfl gL_village_X3_setFlake rfl ⟨rfl, hd_X3_setFlake⟩ ⟨rfl, rfl, (Nat.le_of_ble_eq_true rfl), (Nat.le_of_ble_eq_true rfl)⟩ ⟨hc, hs⟩ rfl rfl (Nat.le_of_ble_eq_true rfl) dL_village_23 (fun v w1 H locs hp HW => ?_)
        obtain ⟨rfl, rfl⟩ := hp
        have HW : Hw D A s (wXo cI a o  ++ (wVo cI a (o + 1) (vh (gSetF S i (fkF xs L i))) (vc (gSetF S i (fkF xs L i))) (vA (gSetF S i (fkF xs L i)) 0) (vA (gSetF S i (fkF xs L i)) 1) (vA (gSetF S i (fkF xs L i)) 2) ++ (wR cI a ((o + 1) + 4) (vr (gSetF S i (fkF xs L i))) (vA (gSetF S i (fkF xs L i)) 3) (vA (gSetF S i (fkF xs L i)) 4) (vA (gSetF S i (fkF xs L i)) 5) (vA (gSetF S i (fkF xs L i)) 6) ++ (wS cI a ((o + 1) + 9) (vs (gSetF S i (fkF xs L i))) (vA (gSetF S i (fkF xs L i)) 7) (vA (gSetF S i (fkF xs L i)) 8) (vA (gSetF S i (fkF xs L i)) 9) (vA (gSetF S i (fkF xs L i)) 10) (vA (gSetF S i (fkF xs L i)) 11) (vA (gSetF S i (fkF xs L i)) 12) qt qp ++ (wVo cI a (o + 19) (vh T) (vc T) (vA T 0) (vA T 1) (vA T 2) ++ (wR cI a ((o + 19) + 4) (vr T) (vA T 3) (vA T 4) (vA T 5) (vA T 6) ++ (wS cI a ((o + 19) + 9) (vs T) (vA T 7) (vA T 8) (vA T 9) (vA T 10) (vA T 11) (vA T 12) qt2 qp2))))))) H locs := HW
        refine W.eq (g2 := F0 m 26 ls [.int (vA S 0 i)]) rfl ?_
        refine lv_pop hx hb dL_village_26 rfl ?_
        refine lv_iinc (v := (nI (i + 1))) (lv' := [(2, .int (nI (i + 1))), (1, .ref (a o)), (0, .ref sb)]) hx hb dL_village_27 hl (k := 0) rfl (inc1 _) (Nat.le_of_ble_eq_true rfl) rfl (fun ls hl => ?_)
        refine lv_goto (tgt := 10) hx hb dL_village_30 (by decide) ?_
        exact ih10 _ (by omega) (i + 1) (gSetF S i (fkF xs L i)) qt qp rfl (by omega) (vi_setF hV (fkF_le xs L i)) hR _ _ _ HW (lv_sub hl [0, 1, 2] rfl)
  refine lv_iconst (v := 0) hx hb dL_village_8 (by decide) ?_
  refine lv_istore_n (lv' := [(2, .int (0 : Int32)), (1, .ref (a o)), (0, .ref sb)]) hx hb dL_village_9 rfl hl (Nat.le_of_ble_eq_true rfl) rfl (fun ls hl => ?_)
  exact l10 _ 0 S qt qp rfl (by omega) hV hR _ _ _ HW (lv_sub hl [0, 1, 2] rfl)
end VL
theorem in_village_3 : ∀ x ∈ u_ws RX3 TX3 2, x ∈ wsL_village := by decide +kernel
set_option maxRecDepth 100000 in
set_option maxHeartbeats 4000000 in
theorem c_L_village {l : Launch} {D : va_G} {cI cL : ClassId} (sb L : Nat) (xs : Nat → Int32) (hL : L ≤ 260) : CtS l yL_village wsL_village rmV D (ty2 cI cL) [.ref sb] sb L xs (fun v w' => ∃ (a : Nat → Nat) (S : VS) (qt qp : Nat → Int32) (T : VS) (qt2 qp2 : Nat → Int32), VI (skF xs L) 4 5 S ∧ Rep (vs S) (vq S) qt qp ∧ v = some (.ref (a 0)) ∧ w' = wXo cI a 0  ++ (wVo cI a (0 + 1) (vh S) (vc S) (vA S 0) (vA S 1) (vA S 2) ++ (wR cI a ((0 + 1) + 4) (vr S) (vA S 3) (vA S 4) (vA S 5) (vA S 6) ++ (wS cI a ((0 + 1) + 9) (vs S) (vA S 7) (vA S 8) (vA S 9) (vA S 10) (vA S 11) (vA S 12) qt qp ++ (wVo cI a (0 + 19) (vh T) (vc T) (vA T 0) (vA T 1) (vA T 2) ++ (wR cI a ((0 + 19) + 4) (vr T) (vA T 3) (vA T 4) (vA T 5) (vA T 6) ++ (wS cI a ((0 + 19) + 9) (vs T) (vA T 7) (vA T 8) (vA T 9) (vA T 10) (vA T 11) (vA T 12) qt2 qp2))))))) 37 244 := by
  refine CtS.of (cc := cL_village) (maxL := 3) (ret := (some (.object "PommelTows"))) (by decide) rfl (Nat.le_of_ble_eq_true rfl) ?_
  intro p e s m below meth c A ls CX hin hSX HW hl
  obtain ⟨hx, hb, hml, hr, hown, hts, hK, hA, hlk⟩ := id CX
  have hl : lv_has ls 3 [(0, .ref sb)] := hl
  refine g_newc CX HW (ci := 3) (fs := [.null, .null]) in_village_3 tyX3 tyX3_ok (by decide +kernel) (by decide +kernel) (by decide +kernel) rfl (by intro j hj; rcases (show j = 0 ∨ j = 1 by omega) with rfl | rfl <;> rfl) (Nat.le_of_ble_eq_true rfl) (Nat.le_of_ble_eq_true rfl) dL_village_0 (fun h3 H HW => ?_)
  have HW : Hw D A s [(h3, .inr (3, [.null, .null]))] H [] := HW
  refine W.widen (k := 1) (n := 2) (Nat.le_of_ble_eq_true rfl) (Nat.le_of_ble_eq_true rfl) ?_
  refine lv_dup hx hb dL_village_3 rfl ?_
  refine g_callI CX HW hl.1 [] [] (c_X3_init h3) rfl gL_village_X3_init (by decide +kernel) (by decide +kernel) (by decide +kernel) rfl rfl hd_X3_init ⟨rfl, rfl, (Nat.le_of_ble_eq_true rfl), (Nat.le_of_ble_eq_true rfl)⟩ ⟨(Nat.le_of_ble_eq_true rfl), (Nat.le_of_ble_eq_true rfl)⟩ rfl rfl (Nat.le_of_ble_eq_true rfl) dL_village_4 (fun v w1 H locs hp HW => ?_)
  obtain ⟨rfl, r1, r2, r3, r4, r5, r6, r7, r8, r9, r10, r11, r12, r13, r14, r15, r16, r17, r18, r19, r20, r21, r22, r23, r24, r25, r26, r27, r28, r29, r30, r31, r32, r33, r34, r35, r36, rfl⟩ := hp
  have HW : Hw D A s [(h3, .inr (3, [.ref r1, .ref r19])), (r1, .inr (2, [.int (0 : Int32), .int (0 : Int32), .ref r2, .ref r3, .ref r4, .ref r5, .ref r10])), (r2, .inl (cI, 6, .inl (upd (upd (upd (upd (upd (upd (fun _ => (0 : Int32)) 0 (1 : Int32)) 1 (1 : Int32)) 2 (1 : Int32)) 3 (1 : Int32)) 4 (1 : Int32)) 5 (1 : Int32)))), (r3, .inl (cI, 3, .inl (upd (upd (upd (fun _ => (0 : Int32)) 0 (2 : Int32)) 1 (2 : Int32)) 2 (2 : Int32)))), (r4, .inl (cI, 3, .inl (fun _ => (0 : Int32)))), (r5, .inr (0, [.int (0 : Int32), .ref r6, .ref r7, .ref r8, .ref r9])), (r6, .inl (cI, 6, .inl (fun _ => (0 : Int32)))), (r7, .inl (cI, 6, .inl (fun _ => (0 : Int32)))), (r8, .inl (cI, 6, .inl (fun _ => (0 : Int32)))), (r9, .inl (cI, 6, .inl (fun _ => (0 : Int32)))), (r10, .inr (1, [.int (0 : Int32), .ref r11, .ref r12, .ref r13, .ref r14, .ref r15, .ref r16, .ref r17, .ref r18])), (r11, .inl (cI, 8, .inl (fun _ => (0 : Int32)))), (r12, .inl (cI, 8, .inl (fun _ => (0 : Int32)))), (r13, .inl (cI, 8, .inl (fun _ => (0 : Int32)))), (r14, .inl (cI, 8, .inl (fun _ => (0 : Int32)))), (r15, .inl (cI, 8, .inl (fun _ => (0 : Int32)))), (r16, .inl (cI, 8, .inl (fun _ => (0 : Int32)))), (r17, .inl (cI, 8, .inl (fun _ => (0 : Int32)))), (r18, .inl (cI, 8, .inl (fun _ => (0 : Int32)))), (r19, .inr (2, [.int (0 : Int32), .int (0 : Int32), .ref r20, .ref r21, .ref r22, .ref r23, .ref r28])), (r20, .inl (cI, 6, .inl (upd (upd (upd (upd (upd (upd (fun _ => (0 : Int32)) 0 (1 : Int32)) 1 (1 : Int32)) 2 (1 : Int32)) 3 (1 : Int32)) 4 (1 : Int32)) 5 (1 : Int32)))), (r21, .inl (cI, 3, .inl (upd (upd (upd (fun _ => (0 : Int32)) 0 (2 : Int32)) 1 (2 : Int32)) 2 (2 : Int32)))), (r22, .inl (cI, 3, .inl (fun _ => (0 : Int32)))), (r23, .inr (0, [.int (0 : Int32), .ref r24, .ref r25, .ref r26, .ref r27])), (r24, .inl (cI, 6, .inl (fun _ => (0 : Int32)))), (r25, .inl (cI, 6, .inl (fun _ => (0 : Int32)))), (r26, .inl (cI, 6, .inl (fun _ => (0 : Int32)))), (r27, .inl (cI, 6, .inl (fun _ => (0 : Int32)))), (r28, .inr (1, [.int (0 : Int32), .ref r29, .ref r30, .ref r31, .ref r32, .ref r33, .ref r34, .ref r35, .ref r36])), (r29, .inl (cI, 8, .inl (fun _ => (0 : Int32)))), (r30, .inl (cI, 8, .inl (fun _ => (0 : Int32)))), (r31, .inl (cI, 8, .inl (fun _ => (0 : Int32)))), (r32, .inl (cI, 8, .inl (fun _ => (0 : Int32)))), (r33, .inl (cI, 8, .inl (fun _ => (0 : Int32)))), (r34, .inl (cI, 8, .inl (fun _ => (0 : Int32)))), (r35, .inl (cI, 8, .inl (fun _ => (0 : Int32)))), (r36, .inl (cI, 8, .inl (fun _ => (0 : Int32))))] H locs := HW
  refine W.eq (g2 := F0 m 7 ls [.ref h3]) rfl ?_
  refine W.widen (k := 37) (n := 244) (Nat.le_of_ble_eq_true rfl) (Nat.le_of_ble_eq_true rfl) ?_
  refine lv_astore_n (lv' := [(1, .ref h3), (0, .ref sb)]) hx hb dL_village_7 rfl hl (Nat.le_of_ble_eq_true rfl) rfl (fun ls hl => ?_)
  have HW : Hw D A s (wXo cI (adr [h3, r1, r2, r3, r4, r5, r6, r7, r8, r9, r10, r11, r12, r13, r14, r15, r16, r17, r18, r19, r20, r21, r22, r23, r24, r25, r26, r27, r28, r29, r30, r31, r32, r33, r34, r35, r36]) 0  ++ (wVo cI (adr [h3, r1, r2, r3, r4, r5, r6, r7, r8, r9, r10, r11, r12, r13, r14, r15, r16, r17, r18, r19, r20, r21, r22, r23, r24, r25, r26, r27, r28, r29, r30, r31, r32, r33, r34, r35, r36]) (0 + 1) (vh Z0) (vc Z0) (vA Z0 0) (vA Z0 1) (vA Z0 2) ++ (wR cI (adr [h3, r1, r2, r3, r4, r5, r6, r7, r8, r9, r10, r11, r12, r13, r14, r15, r16, r17, r18, r19, r20, r21, r22, r23, r24, r25, r26, r27, r28, r29, r30, r31, r32, r33, r34, r35, r36]) ((0 + 1) + 4) (vr Z0) (vA Z0 3) (vA Z0 4) (vA Z0 5) (vA Z0 6) ++ (wS cI (adr [h3, r1, r2, r3, r4, r5, r6, r7, r8, r9, r10, r11, r12, r13, r14, r15, r16, r17, r18, r19, r20, r21, r22, r23, r24, r25, r26, r27, r28, r29, r30, r31, r32, r33, r34, r35, r36]) ((0 + 1) + 9) (vs Z0) (vA Z0 7) (vA Z0 8) (vA Z0 9) (vA Z0 10) (vA Z0 11) (vA Z0 12) (fun _ => (0 : Int32)) (fun _ => (0 : Int32)) ++ (wVo cI (adr [h3, r1, r2, r3, r4, r5, r6, r7, r8, r9, r10, r11, r12, r13, r14, r15, r16, r17, r18, r19, r20, r21, r22, r23, r24, r25, r26, r27, r28, r29, r30, r31, r32, r33, r34, r35, r36]) (0 + 19) (vh Z0) (vc Z0) (vA Z0 0) (vA Z0 1) (vA Z0 2) ++ (wR cI (adr [h3, r1, r2, r3, r4, r5, r6, r7, r8, r9, r10, r11, r12, r13, r14, r15, r16, r17, r18, r19, r20, r21, r22, r23, r24, r25, r26, r27, r28, r29, r30, r31, r32, r33, r34, r35, r36]) ((0 + 19) + 4) (vr Z0) (vA Z0 3) (vA Z0 4) (vA Z0 5) (vA Z0 6) ++ (wS cI (adr [h3, r1, r2, r3, r4, r5, r6, r7, r8, r9, r10, r11, r12, r13, r14, r15, r16, r17, r18, r19, r20, r21, r22, r23, r24, r25, r26, r27, r28, r29, r30, r31, r32, r33, r34, r35, r36]) ((0 + 19) + 9) (vs Z0) (vA Z0 7) (vA Z0 8) (vA Z0 9) (vA Z0 10) (vA Z0 11) (vA Z0 12) (fun _ => (0 : Int32)) (fun _ => (0 : Int32))))))))) H locs := HW
  have hl : lv_has ls 3 [(1, .ref ((adr [h3, r1, r2, r3, r4, r5, r6, r7, r8, r9, r10, r11, r12, r13, r14, r15, r16, r17, r18, r19, r20, r21, r22, r23, r24, r25, r26, r27, r28, r29, r30, r31, r32, r33, r34, r35, r36]) 0)), (0, .ref sb)] := hl
  refine vl_body CX hSX (Nat.le_of_ble_eq_true rfl) (Nat.le_of_ble_eq_true rfl) 0 Z0 (fun _ => (0 : Int32)) (fun _ => (0 : Int32)) Z0 (fun _ => (0 : Int32)) (fun _ => (0 : Int32)) hL vi_Z0 rep_Z0 HW hl ?_
  intro S qt qp hV hR H locs ls HW hl
  refine lv_aload_n hx hb dL_village_151 rfl (lv_at hl 0 rfl) ?_
  exact g_aret CX HW rfl ⟨(adr [h3, r1, r2, r3, r4, r5, r6, r7, r8, r9, r10, r11, r12, r13, r14, r15, r16, r17, r18, r19, r20, r21, r22, r23, r24, r25, r26, r27, r28, r29, r30, r31, r32, r33, r34, r35, r36]), S, qt, qp, Z0, (fun _ => (0 : Int32)), (fun _ => (0 : Int32)), hV, hR, rfl, rfl⟩ dL_village_152
