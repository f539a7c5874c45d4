/-! the law: a turn of its loop, in steps -/
theorem join_sub (S : VS) (k t : Nat) : figT (gJoin S k t) t 1 - 1 = nI (takeQ (vq S) k t).length := by
  show nI (vq (gJoin S k t) t).length - 1 = _
  rw [join_len]
  exact pk_sub (a := (takeQ (vq S) k t).length + 1) (b := 1) (by omega)
theorem coin_gt {sk : Nat → Nat} {all : Int32} {n k : Nat} {S : VS} (h : PI sk all n S) (hk : k < 5) (hc : ¬ figK S k 1 ≤ 1) : 2 ≤ vA S 8 k := by
  obtain ⟨z, hz, e⟩ := coin_of h hk
  have hc : ¬ vA S 8 k ≤ 1 := hc
  rw [e] at hc ⊢
  have h1 : 1 < z := nI_lt_of (a := z) (b := 1) (by omega) (by decide) hc
  exact (nI_leI (a := 2) (b := z) (by decide) (by omega)).mpr h1
theorem coin_2 {sk : Nat → Nat} {all : Int32} {n k : Nat} {S : VS} (h : PI sk all n S) (hk : k < 5) (hc : 2 ≤ vA S 8 k) : ¬ vA S 8 k - 2 < 0 := by
  obtain ⟨z, hz, e⟩ := coin_of h hk
  rw [e] at hc ⊢
  have h1 : 2 ≤ z := (nI_leI (a := 2) (b := z) (by decide) (by omega)).mp hc
  rw [show nI z - 2 = nI (z - 2) from pk_sub (a := z) (b := 2) h1]
  exact nI_pos (by omega)
theorem wax_2 (S : VS) (k t : Nat) : figK (gWax S k t) k 2 = nI t := by
  show (if 0 < upd (vA S 10) k 10 k then upd (vA S 9) k (nI t) k else -1) = nI t
  rw [pk_us, pk_us, if_pos (by decide)]
theorem wax_3 (S : VS) (k t : Nat) : figK (gWax S k t) k 3 = 10 := by
  show upd (vA S 10) k 10 k = 10
  rw [pk_us]
theorem lcmp_self (x : Int64) : lg_cmp x x = 0 := by
  unfold lg_cmp
  rw [if_neg (Int64.lt_irrefl (a := x)), if_pos rfl]
theorem unt_n0 (k : Nat) (S : VS) : ¬ untS S k = 0 := by
  rcases unt_in k S with e | ⟨i, h1, h2, e⟩
  · rw [e]; decide
  · rw [e]; exact fun h9 => absurd (nI_inj (b := 0) (by omega) (by decide) h9) (by omega)
theorem unt_90 (k : Nat) (S : VS) : ¬ 90 < untS S k := by
  rcases unt_in k S with e | ⟨i, h1, h2, e⟩
  · rw [e]; decide
  · rw [e]; exact fun h9 => absurd ((nI_ltI (a := 90) (b := i) (by decide) (by omega)).mp h9) (by omega)
section LAW1
variable {p : Program} {l : Launch} {e : Env} {s : State} {m : MethodId} {args : Array Value} {below : List Frame} {meth : Method} {c : Code} {H : Heap} {locs : List Loc} {cells slots : Nat} {Q : State → Prop} {ls : Array Slot} {D : va_G} {A : Nat → Prop} {cI cL : ClassId} {a : Nat → Nat} {sb L : Nat} {xs : Nat → Int32}
set_option maxRecDepth 100000 in
set_option maxHeartbeats 4000000 in
theorem st_c0 (CX : Cx p s m args meth c cL_law 16 (some .boolean) RL wsL_law D (ty2 cI cL) A) (hSX : SX A sb L xs s) (hc : cells ≤ room_1.cells) (hs : slots ≤ room_1.slots) (o : Nat) (S : VS) (qt : Nat → Int32) (qp : Nat → Int32) (T : VS) (qt2 : Nat → Int32) (qp2 : Nat → Int32) (all : Int32) (n : Nat) (x : Int32) (k : Nat) (t : Nat) (pts : Int32) (hL : L ≤ 260) (hk : k < 5) (ht : t ≤ 2) (hn : n < 30) (hP : PI (skF xs L) all n S) (hR : Rep (vs S) (vq S) qt qp) (ept : pts = vA S 11 k) (HW : Hw D A s (wXo cI a o  ++ (wVo cI a (o + 1) (vh S) (vc S) (vA S 0) (vA S 1) (vA S 2) ++ (wR cI a ((o + 1) + 4) (vr S) (vA S 3) (vA S 4) (vA S 5) (vA S 6) ++ (wS cI a ((o + 1) + 9) (vs S) (vA S 7) (vA S 8) (vA S 9) (vA S 10) (vA S 11) (vA S 12) qt qp ++ (wVo cI a (o + 19) (vh T) (vc T) (vA T 0) (vA T 1) (vA T 2) ++ (wR cI a ((o + 19) + 4) (vr T) (vA T 3) (vA T 4) (vA T 5) (vA T 6) ++ (wS cI a ((o + 19) + 9) (vs T) (vA T 7) (vA T 8) (vA T 9) (vA T 10) (vA T 11) (vA T 12) qt2 qp2))))))) H locs) (hl : lv_has ls 16 [(7, .int pts), (6, .int (nI t)), (5, .int (nI k)), (4, .int x), (3, .int (nI n)), (2, .int all), (1, .ref (a o)), (0, .ref sb)]) (kk : ∀ (S : VS) (qt : Nat → Int32) (qp : Nat → Int32) (T : VS) (qt2 : Nat → Int32) (qp2 : Nat → Int32), (PI (skF xs L) all (n + 1) S) → (Rep (vs S) (vq S) qt qp) → (bl x 6 < 3 → vA S 11 k = pts) → ∀ (H : Heap) (locs : List Loc) (ls : Array Slot), Hw D A s (wXo cI a o  ++ (wVo cI a (o + 1) (vh S) (vc S) (vA S 0) (vA S 1) (vA S 2) ++ (wR cI a ((o + 1) + 4) (vr S) (vA S 3) (vA S 4) (vA S 5) (vA S 6) ++ (wS cI a ((o + 1) + 9) (vs S) (vA S 7) (vA S 8) (vA S 9) (vA S 10) (vA S 11) (vA S 12) qt qp ++ (wVo cI a (o + 19) (vh T) (vc T) (vA T 0) (vA T 1) (vA T 2) ++ (wR cI a ((o + 19) + 4) (vr T) (vA T 3) (vA T 4) (vA T 5) (vA T 6) ++ (wS cI a ((o + 19) + 9) (vs T) (vA T 7) (vA T 8) (vA T 9) (vA T 10) (vA T 11) (vA T 12) qt2 qp2))))))) H locs → lv_has ls 16 [(7, .int pts), (6, .int (nI t)), (5, .int (nI k)), (4, .int x), (3, .int (nI n)), (2, .int all), (1, .ref (a o)), (0, .ref sb)] → W p l e room_1 s m args below meth c H locs cells slots Q (F0 m 356 ls [])) : W p l e room_1 s m args below meth c H locs cells slots Q (F0 m 120 ls []) := by
  obtain ⟨hx, hb, hml, hr, hown, hts, hK, hA, hlk⟩ := id CX
  have hn8 : vs S ≤ 8 := hP.inv.2.1
  have hk9 : k < vs S := by rw [hP.s5]; exact hk
  have hP2 : PI (skF xs L) all n (gJoin S k t) := pi_join hP
  refine lv_aload_n hx hb dL_law_120 rfl (lv_at hl 6 rfl) ?_
  refine lv_iload hx hb dL_law_121 (lv_at hl 2 rfl) ?_
  refine lv_iload hx hb dL_law_123 (lv_at hl 1 rfl) ?_
  refine g_callV CX HW hl.1 ([]) ([]) (c_X3_join o S qt qp T qt2 qp2 k t hP.inv hR hk9 ht) rfl 0 rfl rfl gL_law_X3_join rfl ⟨rfl, hd_X3_join⟩ ⟨rfl, rfl, (Nat.le_of_ble_eq_true rfl), (Nat.le_of_ble_eq_true rfl)⟩ ⟨hc, hs⟩ rfl rfl (Nat.le_of_ble_eq_true rfl) dL_law_125 (fun v w1 H locs hp HW => ?_)
  obtain ⟨qt'_1, qp'_1, hr9_1, rfl, rfl⟩ := hp
  have HW : Hw D A s (wXo cI a o  ++ (wVo cI a (o + 1) (vh (gJoin S k t)) (vc (gJoin S k t)) (vA (gJoin S k t) 0) (vA (gJoin S k t) 1) (vA (gJoin S k t) 2) ++ (wR cI a ((o + 1) + 4) (vr (gJoin S k t)) (vA (gJoin S k t) 3) (vA (gJoin S k t) 4) (vA (gJoin S k t) 5) (vA (gJoin S k t) 6) ++ (wS cI a ((o + 1) + 9) (vs (gJoin S k t)) (vA (gJoin S k t) 7) (vA (gJoin S k t) 8) (vA (gJoin S k t) 9) (vA (gJoin S k t) 10) (vA (gJoin S k t) 11) (vA (gJoin S k t) 12) qt'_1 qp'_1 ++ (wVo cI a (o + 19) (vh T) (vc T) (vA T 0) (vA T 1) (vA T 2) ++ (wR cI a ((o + 19) + 4) (vr T) (vA T 3) (vA T 4) (vA T 5) (vA T 6) ++ (wS cI a ((o + 19) + 9) (vs T) (vA T 7) (vA T 8) (vA T 9) (vA T 10) (vA T 11) (vA T 12) qt2 qp2))))))) H locs := HW
  refine W.eq (g2 := F0 m 128 ls [.int (nI (takeQ (vq S) k t).length)]) rfl ?_
  refine lv_aload_n hx hb dL_law_128 rfl (lv_at hl 6 rfl) ?_
  refine lv_iload hx hb dL_law_129 (lv_at hl 1 rfl) ?_
  refine lv_iconst (v := 1) hx hb dL_law_131 (by decide) ?_
  refine g_callV CX HW hl.1 ([]) ([]) (c_X3_tow o (gJoin S k t) qt'_1 qp'_1 T qt2 qp2 t 1 hP2.inv hr9_1 ht (by decide)) rfl 0 rfl rfl gL_law_X3_tow rfl ⟨rfl, hd_X3_tow⟩ ⟨rfl, rfl, (Nat.le_of_ble_eq_true rfl), (Nat.le_of_ble_eq_true rfl)⟩ ⟨hc, hs⟩ rfl rfl (Nat.le_of_ble_eq_true rfl) dL_law_132 (fun v w1 H locs hp HW => ?_)
  obtain ⟨rfl, rfl⟩ := hp
  have HW : Hw D A s (wXo cI a o  ++ (wVo cI a (o + 1) (vh (gJoin S k t)) (vc (gJoin S k t)) (vA (gJoin S k t) 0) (vA (gJoin S k t) 1) (vA (gJoin S k t) 2) ++ (wR cI a ((o + 1) + 4) (vr (gJoin S k t)) (vA (gJoin S k t) 3) (vA (gJoin S k t) 4) (vA (gJoin S k t) 5) (vA (gJoin S k t) 6) ++ (wS cI a ((o + 1) + 9) (vs (gJoin S k t)) (vA (gJoin S k t) 7) (vA (gJoin S k t) 8) (vA (gJoin S k t) 9) (vA (gJoin S k t) 10) (vA (gJoin S k t) 11) (vA (gJoin S k t) 12) qt'_1 qp'_1 ++ (wVo cI a (o + 19) (vh T) (vc T) (vA T 0) (vA T 1) (vA T 2) ++ (wR cI a ((o + 19) + 4) (vr T) (vA T 3) (vA T 4) (vA T 5) (vA T 6) ++ (wS cI a ((o + 19) + 9) (vs T) (vA T 7) (vA T 8) (vA T 9) (vA T 10) (vA T 11) (vA T 12) qt2 qp2))))))) H locs := HW
  refine W.eq (g2 := F0 m 135 ls [.int (figT (gJoin S k t) t 1), .int (nI (takeQ (vq S) k t).length)]) rfl ?_
  refine lv_iconst (v := 1) hx hb dL_law_135 (by decide) ?_
  refine lv_isub hx hb dL_law_136 ?_
  refine g_top (y := (nI (takeQ (vq S) k t).length)) (join_sub _ _ _) ?_
  refine lv_icmp_ne (tgt := 173) hx hb dL_law_137 (by decide) (fun c137 => ?_) (fun c137 => ?_)
  · exact absurd rfl c137
  · refine lv_aload_n hx hb dL_law_140 rfl (lv_at hl 6 rfl) ?_
    refine lv_iload hx hb dL_law_141 (lv_at hl 1 rfl) ?_
    refine lv_aload_n hx hb dL_law_143 rfl (lv_at hl 6 rfl) ?_
    refine lv_iload hx hb dL_law_144 (lv_at hl 1 rfl) ?_
    refine lv_iconst (v := 1) hx hb dL_law_146 (by decide) ?_
    refine g_callV CX HW hl.1 ([]) ([]) (c_X3_tow o (gJoin S k t) qt'_1 qp'_1 T qt2 qp2 t 1 hP2.inv hr9_1 ht (by decide)) rfl 0 rfl rfl gL_law_X3_tow rfl ⟨rfl, hd_X3_tow⟩ ⟨rfl, rfl, (Nat.le_of_ble_eq_true rfl), (Nat.le_of_ble_eq_true rfl)⟩ ⟨hc, hs⟩ rfl rfl (Nat.le_of_ble_eq_true rfl) dL_law_147 (fun v w1 H locs hp HW => ?_)
    obtain ⟨rfl, rfl⟩ := hp
    have HW : Hw D A s (wXo cI a o  ++ (wVo cI a (o + 1) (vh (gJoin S k t)) (vc (gJoin S k t)) (vA (gJoin S k t) 0) (vA (gJoin S k t) 1) (vA (gJoin S k t) 2) ++ (wR cI a ((o + 1) + 4) (vr (gJoin S k t)) (vA (gJoin S k t) 3) (vA (gJoin S k t) 4) (vA (gJoin S k t) 5) (vA (gJoin S k t) 6) ++ (wS cI a ((o + 1) + 9) (vs (gJoin S k t)) (vA (gJoin S k t) 7) (vA (gJoin S k t) 8) (vA (gJoin S k t) 9) (vA (gJoin S k t) 10) (vA (gJoin S k t) 11) (vA (gJoin S k t) 12) qt'_1 qp'_1 ++ (wVo cI a (o + 19) (vh T) (vc T) (vA T 0) (vA T 1) (vA T 2) ++ (wR cI a ((o + 19) + 4) (vr T) (vA T 3) (vA T 4) (vA T 5) (vA T 6) ++ (wS cI a ((o + 19) + 9) (vs T) (vA T 7) (vA T 8) (vA T 9) (vA T 10) (vA T 11) (vA T 12) qt2 qp2))))))) H locs := HW
    refine W.eq (g2 := F0 m 150 ls [.int (figT (gJoin S k t) t 1), .int (nI t), .ref (a o)]) rfl ?_
    refine lv_iconst (v := 1) hx hb dL_law_150 (by decide) ?_
    refine lv_isub hx hb dL_law_151 ?_
    refine g_top (y := (nI (takeQ (vq S) k t).length)) (join_sub _ _ _) ?_
    refine g_callV CX HW hl.1 ([]) ([]) (c_X3_stands o (gJoin S k t) qt'_1 qp'_1 T qt2 qp2 t ((takeQ (vq S) k t).length) hP2.inv hr9_1 ht (by rw [join_len]; omega)) rfl 0 rfl rfl gL_law_X3_stands rfl ⟨rfl, hd_X3_stands⟩ ⟨rfl, rfl, (Nat.le_of_ble_eq_true rfl), (Nat.le_of_ble_eq_true rfl)⟩ ⟨hc, hs⟩ rfl rfl (Nat.le_of_ble_eq_true rfl) dL_law_152 (fun v w1 H locs hp HW => ?_)
    obtain ⟨rfl, rfl⟩ := hp
    have HW : Hw D A s (wXo cI a o  ++ (wVo cI a (o + 1) (vh (gJoin S k t)) (vc (gJoin S k t)) (vA (gJoin S k t) 0) (vA (gJoin S k t) 1) (vA (gJoin S k t) 2) ++ (wR cI a ((o + 1) + 4) (vr (gJoin S k t)) (vA (gJoin S k t) 3) (vA (gJoin S k t) 4) (vA (gJoin S k t) 5) (vA (gJoin S k t) 6) ++ (wS cI a ((o + 1) + 9) (vs (gJoin S k t)) (vA (gJoin S k t) 7) (vA (gJoin S k t) 8) (vA (gJoin S k t) 9) (vA (gJoin S k t) 10) (vA (gJoin S k t) 11) (vA (gJoin S k t) 12) qt'_1 qp'_1 ++ (wVo cI a (o + 19) (vh T) (vc T) (vA T 0) (vA T 1) (vA T 2) ++ (wR cI a ((o + 19) + 4) (vr T) (vA T 3) (vA T 4) (vA T 5) (vA T 6) ++ (wS cI a ((o + 19) + 9) (vs T) (vA T 7) (vA T 8) (vA T 9) (vA T 10) (vA T 11) (vA T 12) qt2 qp2))))))) H locs := HW
    refine W.eq (g2 := F0 m 155 ls [.int (oI ((vq (gJoin S k t) t)[((takeQ (vq S) k t).length)]?))]) rfl ?_
    refine g_top (y := (nI k)) (by rw [join_get]; rfl) ?_
    refine lv_iload hx hb dL_law_155 (lv_at hl 2 rfl) ?_
    refine lv_icmp_ne (tgt := 173) hx hb dL_law_157 (by decide) (fun c157 => ?_) (fun c157 => ?_)
    · exact absurd rfl c157
    · refine lv_aload_n hx hb dL_law_160 rfl (lv_at hl 6 rfl) ?_
      refine lv_iload hx hb dL_law_161 (lv_at hl 2 rfl) ?_
      refine lv_bipush (v := 6) hx hb dL_law_163 (by decide) ?_
      refine g_callV CX HW hl.1 ([]) ([]) (c_X3_told o (gJoin S k t) qt'_1 qp'_1 T qt2 qp2 k 6 hP2.inv hr9_1 hk9 (by decide)) rfl 0 rfl rfl gL_law_X3_told rfl ⟨rfl, hd_X3_told⟩ ⟨rfl, rfl, (Nat.le_of_ble_eq_true rfl), (Nat.le_of_ble_eq_true rfl)⟩ ⟨hc, hs⟩ rfl rfl (Nat.le_of_ble_eq_true rfl) dL_law_165 (fun v w1 H locs hp HW => ?_)
      obtain ⟨rfl, rfl⟩ := hp
      have HW : Hw D A s (wXo cI a o  ++ (wVo cI a (o + 1) (vh (gJoin S k t)) (vc (gJoin S k t)) (vA (gJoin S k t) 0) (vA (gJoin S k t) 1) (vA (gJoin S k t) 2) ++ (wR cI a ((o + 1) + 4) (vr (gJoin S k t)) (vA (gJoin S k t) 3) (vA (gJoin S k t) 4) (vA (gJoin S k t) 5) (vA (gJoin S k t) 6) ++ (wS cI a ((o + 1) + 9) (vs (gJoin S k t)) (vA (gJoin S k t) 7) (vA (gJoin S k t) 8) (vA (gJoin S k t) 9) (vA (gJoin S k t) 10) (vA (gJoin S k t) 11) (vA (gJoin S k t) 12) qt'_1 qp'_1 ++ (wVo cI a (o + 19) (vh T) (vc T) (vA T 0) (vA T 1) (vA T 2) ++ (wR cI a ((o + 19) + 4) (vr T) (vA T 3) (vA T 4) (vA T 5) (vA T 6) ++ (wS cI a ((o + 19) + 9) (vs T) (vA T 7) (vA T 8) (vA T 9) (vA T 10) (vA T 11) (vA T 12) qt2 qp2))))))) H locs := HW
      refine W.eq (g2 := F0 m 168 ls [.int (figK (gJoin S k t) k 6)]) rfl ?_
      refine g_top (y := (nI t)) (join_tow hr9_1 hn8 (by omega)) ?_
      refine lv_iload hx hb dL_law_168 (lv_at hl 1 rfl) ?_
      refine lv_icmp_eq (tgt := 356) hx hb dL_law_170 (by decide) (fun c170 => ?_) (fun c170 => ?_)
      · exact kk (gJoin S k t) qt'_1 qp'_1 T qt2 qp2 (pi_up hP2) hr9_1 (fun _ => ept.symm) _ _ _ HW (lv_sub hl [0, 1, 2, 3, 4, 5, 6, 7] rfl)
      · exact absurd rfl c170

set_option maxRecDepth 100000 in
set_option maxHeartbeats 4000000 in
theorem st_c1 (CX : Cx p s m args meth c cL_law 16 (some .boolean) RL wsL_law D (ty2 cI cL) A) (hSX : SX A sb L xs s) (hc : cells ≤ room_1.cells) (hs : slots ≤ room_1.slots) (o : Nat) (S : VS) (qt : Nat → Int32) (qp : Nat → Int32) (T : VS) (qt2 : Nat → Int32) (qp2 : Nat → Int32) (all : Int32) (n : Nat) (x : Int32) (k : Nat) (t : Nat) (pts : Int32) (hL : L ≤ 260) (hk : k < 5) (ht : t ≤ 2) (hn : n < 30) (hP : PI (skF xs L) all n S) (hR : Rep (vs S) (vq S) qt qp) (ept : pts = vA S 11 k) (HW : Hw D A s (wXo cI a o  ++ (wVo cI a (o + 1) (vh S) (vc S) (vA S 0) (vA S 1) (vA S 2) ++ (wR cI a ((o + 1) + 4) (vr S) (vA S 3) (vA S 4) (vA S 5) (vA S 6) ++ (wS cI a ((o + 1) + 9) (vs S) (vA S 7) (vA S 8) (vA S 9) (vA S 10) (vA S 11) (vA S 12) qt qp ++ (wVo cI a (o + 19) (vh T) (vc T) (vA T 0) (vA T 1) (vA T 2) ++ (wR cI a ((o + 19) + 4) (vr T) (vA T 3) (vA T 4) (vA T 5) (vA T 6) ++ (wS cI a ((o + 19) + 9) (vs T) (vA T 7) (vA T 8) (vA T 9) (vA T 10) (vA T 11) (vA T 12) qt2 qp2))))))) H locs) (hl : lv_has ls 16 [(7, .int pts), (6, .int (nI t)), (5, .int (nI k)), (4, .int x), (3, .int (nI n)), (2, .int all), (1, .ref (a o)), (0, .ref sb)]) (kk : ∀ (S : VS) (qt : Nat → Int32) (qp : Nat → Int32) (T : VS) (qt2 : Nat → Int32) (qp2 : Nat → Int32), (PI (skF xs L) all (n + 1) S) → (Rep (vs S) (vq S) qt qp) → (bl x 6 < 3 → vA S 11 k = pts) → ∀ (H : Heap) (locs : List Loc) (ls : Array Slot), Hw D A s (wXo cI a o  ++ (wVo cI a (o + 1) (vh S) (vc S) (vA S 0) (vA S 1) (vA S 2) ++ (wR cI a ((o + 1) + 4) (vr S) (vA S 3) (vA S 4) (vA S 5) (vA S 6) ++ (wS cI a ((o + 1) + 9) (vs S) (vA S 7) (vA S 8) (vA S 9) (vA S 10) (vA S 11) (vA S 12) qt qp ++ (wVo cI a (o + 19) (vh T) (vc T) (vA T 0) (vA T 1) (vA T 2) ++ (wR cI a ((o + 19) + 4) (vr T) (vA T 3) (vA T 4) (vA T 5) (vA T 6) ++ (wS cI a ((o + 19) + 9) (vs T) (vA T 7) (vA T 8) (vA T 9) (vA T 10) (vA T 11) (vA T 12) qt2 qp2))))))) H locs → lv_has ls 16 [(7, .int pts), (6, .int (nI t)), (5, .int (nI k)), (4, .int x), (3, .int (nI n)), (2, .int all), (1, .ref (a o)), (0, .ref sb)] → W p l e room_1 s m args below meth c H locs cells slots Q (F0 m 356 ls [])) : W p l e room_1 s m args below meth c H locs cells slots Q (F0 m 175 ls []) := by
  obtain ⟨hx, hb, hml, hr, hown, hts, hK, hA, hlk⟩ := id CX
  have hn8 : vs S ≤ 8 := hP.inv.2.1
  have hk9 : k < vs S := by rw [hP.s5]; exact hk
  refine lv_aload_n hx hb dL_law_175 rfl (lv_at hl 6 rfl) ?_
  refine lv_iload hx hb dL_law_176 (lv_at hl 2 rfl) ?_
  refine g_callV CX HW hl.1 ([]) ([]) (c_X3_leave o S qt qp T qt2 qp2 k hP.inv hR hk9) rfl 0 rfl rfl gL_law_X3_leave rfl ⟨rfl, hd_X3_leave⟩ ⟨rfl, rfl, (Nat.le_of_ble_eq_true rfl), (Nat.le_of_ble_eq_true rfl)⟩ ⟨hc, hs⟩ rfl rfl (Nat.le_of_ble_eq_true rfl) dL_law_178 (fun v w1 H locs hp HW => ?_)
  obtain ⟨qt'_1, qp'_1, hr9_1, rfl, rfl⟩ := hp
  have HW : Hw D A s (wXo cI a o  ++ (wVo cI a (o + 1) (vh (gLea S k)) (vc (gLea S k)) (vA (gLea S k) 0) (vA (gLea S k) 1) (vA (gLea S k) 2) ++ (wR cI a ((o + 1) + 4) (vr (gLea S k)) (vA (gLea S k) 3) (vA (gLea S k) 4) (vA (gLea S k) 5) (vA (gLea S k) 6) ++ (wS cI a ((o + 1) + 9) (vs (gLea S k)) (vA (gLea S k) 7) (vA (gLea S k) 8) (vA (gLea S k) 9) (vA (gLea S k) 10) (vA (gLea S k) 11) (vA (gLea S k) 12) qt'_1 qp'_1 ++ (wVo cI a (o + 19) (vh T) (vc T) (vA T 0) (vA T 1) (vA T 2) ++ (wR cI a ((o + 19) + 4) (vr T) (vA T 3) (vA T 4) (vA T 5) (vA T 6) ++ (wS cI a ((o + 19) + 9) (vs T) (vA T 7) (vA T 8) (vA T 9) (vA T 10) (vA T 11) (vA T 12) qt2 qp2))))))) H locs := HW
  refine W.eq (g2 := F0 m 181 ls [.int (bI (inQ (vq S) k))]) rfl ?_
  refine lv_aload_n hx hb dL_law_181 rfl (lv_at hl 6 rfl) ?_
  refine lv_iload hx hb dL_law_182 (lv_at hl 2 rfl) ?_
  refine g_callV CX HW hl.1 ([]) ([]) (c_X3_leave o (gLea S k) qt'_1 qp'_1 T qt2 qp2 k hP.inv hr9_1 hk9) rfl 0 rfl rfl gL_law_X3_leave rfl ⟨rfl, hd_X3_leave⟩ ⟨rfl, rfl, (Nat.le_of_ble_eq_true rfl), (Nat.le_of_ble_eq_true rfl)⟩ ⟨hc, hs⟩ rfl rfl (Nat.le_of_ble_eq_true rfl) dL_law_184 (fun v w1 H locs hp HW => ?_)
  obtain ⟨qt'_2, qp'_2, hr9_2, rfl, rfl⟩ := hp
  have HW : Hw D A s (wXo cI a o  ++ (wVo cI a (o + 1) (vh (gLea (gLea S k) k)) (vc (gLea (gLea S k) k)) (vA (gLea (gLea S k) k) 0) (vA (gLea (gLea S k) k) 1) (vA (gLea (gLea S k) k) 2) ++ (wR cI a ((o + 1) + 4) (vr (gLea (gLea S k) k)) (vA (gLea (gLea S k) k) 3) (vA (gLea (gLea S k) k) 4) (vA (gLea (gLea S k) k) 5) (vA (gLea (gLea S k) k) 6) ++ (wS cI a ((o + 1) + 9) (vs (gLea (gLea S k) k)) (vA (gLea (gLea S k) k) 7) (vA (gLea (gLea S k) k) 8) (vA (gLea (gLea S k) k) 9) (vA (gLea (gLea S k) k) 10) (vA (gLea (gLea S k) k) 11) (vA (gLea (gLea S k) k) 12) qt'_2 qp'_2 ++ (wVo cI a (o + 19) (vh T) (vc T) (vA T 0) (vA T 1) (vA T 2) ++ (wR cI a ((o + 19) + 4) (vr T) (vA T 3) (vA T 4) (vA T 5) (vA T 6) ++ (wS cI a ((o + 19) + 9) (vs T) (vA T 7) (vA T 8) (vA T 9) (vA T 10) (vA T 11) (vA T 12) qt2 qp2))))))) H locs := HW
  refine W.eq (g2 := F0 m 187 ls [.int (bI (inQ (vq (gLea S k)) k)), .int (bI (inQ (vq S) k))]) rfl ?_
  refine lv_icmp_eq (tgt := 356) hx hb dL_law_187 (by decide) (fun c187 => ?_) (fun c187 => ?_)
  · exact kk (gLea (gLea S k) k) qt'_2 qp'_2 T qt2 qp2 (pi_up (pi_lea (pi_lea hP))) hr9_2 (fun _ => ept.symm) _ _ _ HW (lv_sub hl [0, 1, 2, 3, 4, 5, 6, 7] rfl)
  · refine lv_aload_n hx hb dL_law_190 rfl (lv_at hl 6 rfl) ?_
    refine lv_iload hx hb dL_law_191 (lv_at hl 2 rfl) ?_
    refine lv_bipush (v := 6) hx hb dL_law_193 (by decide) ?_
    refine g_callV CX HW hl.1 ([]) ([]) (c_X3_told o (gLea (gLea S k) k) qt'_2 qp'_2 T qt2 qp2 k 6 hP.inv hr9_2 hk9 (by decide)) rfl 0 rfl rfl gL_law_X3_told rfl ⟨rfl, hd_X3_told⟩ ⟨rfl, rfl, (Nat.le_of_ble_eq_true rfl), (Nat.le_of_ble_eq_true rfl)⟩ ⟨hc, hs⟩ rfl rfl (Nat.le_of_ble_eq_true rfl) dL_law_195 (fun v w1 H locs hp HW => ?_)
    obtain ⟨rfl, rfl⟩ := hp
    have HW : Hw D A s (wXo cI a o  ++ (wVo cI a (o + 1) (vh (gLea (gLea S k) k)) (vc (gLea (gLea S k) k)) (vA (gLea (gLea S k) k) 0) (vA (gLea (gLea S k) k) 1) (vA (gLea (gLea S k) k) 2) ++ (wR cI a ((o + 1) + 4) (vr (gLea (gLea S k) k)) (vA (gLea (gLea S k) k) 3) (vA (gLea (gLea S k) k) 4) (vA (gLea (gLea S k) k) 5) (vA (gLea (gLea S k) k) 6) ++ (wS cI a ((o + 1) + 9) (vs (gLea (gLea S k) k)) (vA (gLea (gLea S k) k) 7) (vA (gLea (gLea S k) k) 8) (vA (gLea (gLea S k) k) 9) (vA (gLea (gLea S k) k) 10) (vA (gLea (gLea S k) k) 11) (vA (gLea (gLea S k) k) 12) qt'_2 qp'_2 ++ (wVo cI a (o + 19) (vh T) (vc T) (vA T 0) (vA T 1) (vA T 2) ++ (wR cI a ((o + 19) + 4) (vr T) (vA T 3) (vA T 4) (vA T 5) (vA T 6) ++ (wS cI a ((o + 19) + 9) (vs T) (vA T 7) (vA T 8) (vA T 9) (vA T 10) (vA T 11) (vA T 12) qt2 qp2))))))) H locs := HW
    refine W.eq (g2 := F0 m 198 ls [.int (figK (gLea (gLea S k) k) k 6)]) rfl ?_
    refine g_top (y := (-1 : Int32)) (lea_tow (S := gLea S k) hr9_1 hn8 hk9) ?_
    refine lv_iconst (v := (-1)) hx hb dL_law_198 (by decide) ?_
    refine lv_icmp_eq (tgt := 356) hx hb dL_law_199 (by decide) (fun c199 => ?_) (fun c199 => ?_)
    · exact kk (gLea (gLea S k) k) qt'_2 qp'_2 T qt2 qp2 (pi_up (pi_lea (pi_lea hP))) hr9_2 (fun _ => ept.symm) _ _ _ HW (lv_sub hl [0, 1, 2, 3, 4, 5, 6, 7] rfl)
    · exact absurd c199 (by decide)

set_option maxRecDepth 100000 in
set_option maxHeartbeats 4000000 in
theorem st_c2 (CX : Cx p s m args meth c cL_law 16 (some .boolean) RL wsL_law D (ty2 cI cL) A) (hSX : SX A sb L xs s) (hc : cells ≤ room_1.cells) (hs : slots ≤ room_1.slots) (o : Nat) (S : VS) (qt : Nat → Int32) (qp : Nat → Int32) (T : VS) (qt2 : Nat → Int32) (qp2 : Nat → Int32) (all : Int32) (n : Nat) (x : Int32) (k : Nat) (t : Nat) (pts : Int32) (hL : L ≤ 260) (hk : k < 5) (ht : t ≤ 2) (hn : n < 30) (hP : PI (skF xs L) all n S) (hR : Rep (vs S) (vq S) qt qp) (ept : pts = vA S 11 k) (HW : Hw D A s (wXo cI a o  ++ (wVo cI a (o + 1) (vh S) (vc S) (vA S 0) (vA S 1) (vA S 2) ++ (wR cI a ((o + 1) + 4) (vr S) (vA S 3) (vA S 4) (vA S 5) (vA S 6) ++ (wS cI a ((o + 1) + 9) (vs S) (vA S 7) (vA S 8) (vA S 9) (vA S 10) (vA S 11) (vA S 12) qt qp ++ (wVo cI a (o + 19) (vh T) (vc T) (vA T 0) (vA T 1) (vA T 2) ++ (wR cI a ((o + 19) + 4) (vr T) (vA T 3) (vA T 4) (vA T 5) (vA T 6) ++ (wS cI a ((o + 19) + 9) (vs T) (vA T 7) (vA T 8) (vA T 9) (vA T 10) (vA T 11) (vA T 12) qt2 qp2))))))) H locs) (hl : lv_has ls 16 [(7, .int pts), (6, .int (nI t)), (5, .int (nI k)), (4, .int x), (3, .int (nI n)), (2, .int all), (1, .ref (a o)), (0, .ref sb)]) (kk : ∀ (S : VS) (qt : Nat → Int32) (qp : Nat → Int32) (T : VS) (qt2 : Nat → Int32) (qp2 : Nat → Int32), (PI (skF xs L) all (n + 1) S) → (Rep (vs S) (vq S) qt qp) → (bl x 6 < 3 → vA S 11 k = pts) → ∀ (H : Heap) (locs : List Loc) (ls : Array Slot), Hw D A s (wXo cI a o  ++ (wVo cI a (o + 1) (vh S) (vc S) (vA S 0) (vA S 1) (vA S 2) ++ (wR cI a ((o + 1) + 4) (vr S) (vA S 3) (vA S 4) (vA S 5) (vA S 6) ++ (wS cI a ((o + 1) + 9) (vs S) (vA S 7) (vA S 8) (vA S 9) (vA S 10) (vA S 11) (vA S 12) qt qp ++ (wVo cI a (o + 19) (vh T) (vc T) (vA T 0) (vA T 1) (vA T 2) ++ (wR cI a ((o + 19) + 4) (vr T) (vA T 3) (vA T 4) (vA T 5) (vA T 6) ++ (wS cI a ((o + 19) + 9) (vs T) (vA T 7) (vA T 8) (vA T 9) (vA T 10) (vA T 11) (vA T 12) qt2 qp2))))))) H locs → lv_has ls 16 [(7, .int pts), (6, .int (nI t)), (5, .int (nI k)), (4, .int x), (3, .int (nI n)), (2, .int all), (1, .ref (a o)), (0, .ref sb)] → W p l e room_1 s m args below meth c H locs cells slots Q (F0 m 356 ls [])) : W p l e room_1 s m args below meth c H locs cells slots Q (F0 m 204 ls []) := by
  obtain ⟨hx, hb, hml, hr, hown, hts, hK, hA, hlk⟩ := id CX
  have hn8 : vs S ≤ 8 := hP.inv.2.1
  have hk9 : k < vs S := by rw [hP.s5]; exact hk
  refine lv_aload_n hx hb dL_law_204 rfl (lv_at hl 6 rfl) ?_
  refine lv_iload hx hb dL_law_205 (lv_at hl 2 rfl) ?_
  refine lv_iconst (v := 1) hx hb dL_law_207 (by decide) ?_
  refine g_callV CX HW hl.1 ([]) ([]) (c_X3_told o S qt qp T qt2 qp2 k 1 hP.inv hR hk9 (by decide)) rfl 0 rfl rfl gL_law_X3_told rfl ⟨rfl, hd_X3_told⟩ ⟨rfl, rfl, (Nat.le_of_ble_eq_true rfl), (Nat.le_of_ble_eq_true rfl)⟩ ⟨hc, hs⟩ rfl rfl (Nat.le_of_ble_eq_true rfl) dL_law_208 (fun v w1 H locs hp HW => ?_)
  obtain ⟨rfl, rfl⟩ := hp
  have HW : Hw D A s (wXo cI a o  ++ (wVo cI a (o + 1) (vh S) (vc S) (vA S 0) (vA S 1) (vA S 2) ++ (wR cI a ((o + 1) + 4) (vr S) (vA S 3) (vA S 4) (vA S 5) (vA S 6) ++ (wS cI a ((o + 1) + 9) (vs S) (vA S 7) (vA S 8) (vA S 9) (vA S 10) (vA S 11) (vA S 12) qt qp ++ (wVo cI a (o + 19) (vh T) (vc T) (vA T 0) (vA T 1) (vA T 2) ++ (wR cI a ((o + 19) + 4) (vr T) (vA T 3) (vA T 4) (vA T 5) (vA T 6) ++ (wS cI a ((o + 19) + 9) (vs T) (vA T 7) (vA T 8) (vA T 9) (vA T 10) (vA T 11) (vA T 12) qt2 qp2))))))) H locs := HW
  refine W.eq (g2 := F0 m 211 ls [.int (figK S k 1)]) rfl ?_
  refine lv_iconst (v := 1) hx hb dL_law_211 (by decide) ?_
  refine lv_icmp_le (tgt := 356) hx hb dL_law_212 (by decide) (fun c212 => ?_) (fun c212 => ?_)
  · exact kk S qt qp T qt2 qp2 (pi_up hP) hR (fun _ => ept.symm) _ _ _ HW (lv_sub hl [0, 1, 2, 3, 4, 5, 6, 7] rfl)
  · have hc2 : 2 ≤ vA S 8 k := coin_gt hP hk c212
    have hP2 : PI (skF xs L) all n (gWax S k t) := pi_wax hP hk (by omega) hc2
    refine lv_aload_n hx hb dL_law_215 rfl (lv_at hl 6 rfl) ?_
    refine lv_iload hx hb dL_law_216 (lv_at hl 2 rfl) ?_
    refine lv_iload hx hb dL_law_218 (lv_at hl 1 rfl) ?_
    refine g_callV CX HW hl.1 ([]) ([]) (c_X3_wax o S qt qp T qt2 qp2 k t hP.inv.1 hn8 hk9 (by omega) hc2) rfl 0 rfl rfl gL_law_X3_wax rfl ⟨rfl, hd_X3_wax⟩ ⟨rfl, rfl, (Nat.le_of_ble_eq_true rfl), (Nat.le_of_ble_eq_true rfl)⟩ ⟨hc, hs⟩ rfl rfl (Nat.le_of_ble_eq_true rfl) dL_law_220 (fun v w1 H locs hp HW => ?_)
    obtain ⟨rfl, rfl⟩ := hp
    have HW : Hw D A s (wXo cI a o  ++ (wVo cI a (o + 1) (vh (gWax S k t)) (vc (gWax S k t)) (vA (gWax S k t) 0) (vA (gWax S k t) 1) (vA (gWax S k t) 2) ++ (wR cI a ((o + 1) + 4) (vr (gWax S k t)) (vA (gWax S k t) 3) (vA (gWax S k t) 4) (vA (gWax S k t) 5) (vA (gWax S k t) 6) ++ (wS cI a ((o + 1) + 9) (vs (gWax S k t)) (vA (gWax S k t) 7) (vA (gWax S k t) 8) (vA (gWax S k t) 9) (vA (gWax S k t) 10) (vA (gWax S k t) 11) (vA (gWax S k t) 12) qt qp ++ (wVo cI a (o + 19) (vh T) (vc T) (vA T 0) (vA T 1) (vA T 2) ++ (wR cI a ((o + 19) + 4) (vr T) (vA T 3) (vA T 4) (vA T 5) (vA T 6) ++ (wS cI a ((o + 19) + 9) (vs T) (vA T 7) (vA T 8) (vA T 9) (vA T 10) (vA T 11) (vA T 12) qt2 qp2))))))) H locs := HW
    refine W.eq (g2 := F0 m 223 ls [.int (vA S 8 k - 2)]) rfl ?_
    refine lv_if_lt (tgt := 250) hx hb dL_law_223 (by decide) (fun c223 => ?_) (fun c223 => ?_)
    · exact absurd c223 (coin_2 hP hk hc2)
    · refine lv_aload_n hx hb dL_law_226 rfl (lv_at hl 6 rfl) ?_
      refine lv_iload hx hb dL_law_227 (lv_at hl 2 rfl) ?_
      refine lv_iconst (v := 2) hx hb dL_law_229 (by decide) ?_
      refine g_callV CX HW hl.1 ([]) ([]) (c_X3_told o (gWax S k t) qt qp T qt2 qp2 k 2 hP2.inv hR hk9 (by decide)) rfl 0 rfl rfl gL_law_X3_told rfl ⟨rfl, hd_X3_told⟩ ⟨rfl, rfl, (Nat.le_of_ble_eq_true rfl), (Nat.le_of_ble_eq_true rfl)⟩ ⟨hc, hs⟩ rfl rfl (Nat.le_of_ble_eq_true rfl) dL_law_230 (fun v w1 H locs hp HW => ?_)
      obtain ⟨rfl, rfl⟩ := hp
      have HW : Hw D A s (wXo cI a o  ++ (wVo cI a (o + 1) (vh (gWax S k t)) (vc (gWax S k t)) (vA (gWax S k t) 0) (vA (gWax S k t) 1) (vA (gWax S k t) 2) ++ (wR cI a ((o + 1) + 4) (vr (gWax S k t)) (vA (gWax S k t) 3) (vA (gWax S k t) 4) (vA (gWax S k t) 5) (vA (gWax S k t) 6) ++ (wS cI a ((o + 1) + 9) (vs (gWax S k t)) (vA (gWax S k t) 7) (vA (gWax S k t) 8) (vA (gWax S k t) 9) (vA (gWax S k t) 10) (vA (gWax S k t) 11) (vA (gWax S k t) 12) qt qp ++ (wVo cI a (o + 19) (vh T) (vc T) (vA T 0) (vA T 1) (vA T 2) ++ (wR cI a ((o + 19) + 4) (vr T) (vA T 3) (vA T 4) (vA T 5) (vA T 6) ++ (wS cI a ((o + 19) + 9) (vs T) (vA T 7) (vA T 8) (vA T 9) (vA T 10) (vA T 11) (vA T 12) qt2 qp2))))))) H locs := HW
      refine W.eq (g2 := F0 m 233 ls [.int (figK (gWax S k t) k 2)]) rfl ?_
      refine g_top (y := (nI t)) (wax_2 _ _ _) ?_
      refine lv_iload hx hb dL_law_233 (lv_at hl 1 rfl) ?_
      refine lv_icmp_ne (tgt := 250) hx hb dL_law_235 (by decide) (fun c235 => ?_) (fun c235 => ?_)
      · exact absurd rfl c235
      · refine lv_aload_n hx hb dL_law_238 rfl (lv_at hl 6 rfl) ?_
        refine lv_iload hx hb dL_law_239 (lv_at hl 2 rfl) ?_
        refine lv_iconst (v := 3) hx hb dL_law_241 (by decide) ?_
        refine g_callV CX HW hl.1 ([]) ([]) (c_X3_told o (gWax S k t) qt qp T qt2 qp2 k 3 hP2.inv hR hk9 (by decide)) rfl 0 rfl rfl gL_law_X3_told rfl ⟨rfl, hd_X3_told⟩ ⟨rfl, rfl, (Nat.le_of_ble_eq_true rfl), (Nat.le_of_ble_eq_true rfl)⟩ ⟨hc, hs⟩ rfl rfl (Nat.le_of_ble_eq_true rfl) dL_law_242 (fun v w1 H locs hp HW => ?_)
        obtain ⟨rfl, rfl⟩ := hp
        have HW : Hw D A s (wXo cI a o  ++ (wVo cI a (o + 1) (vh (gWax S k t)) (vc (gWax S k t)) (vA (gWax S k t) 0) (vA (gWax S k t) 1) (vA (gWax S k t) 2) ++ (wR cI a ((o + 1) + 4) (vr (gWax S k t)) (vA (gWax S k t) 3) (vA (gWax S k t) 4) (vA (gWax S k t) 5) (vA (gWax S k t) 6) ++ (wS cI a ((o + 1) + 9) (vs (gWax S k t)) (vA (gWax S k t) 7) (vA (gWax S k t) 8) (vA (gWax S k t) 9) (vA (gWax S k t) 10) (vA (gWax S k t) 11) (vA (gWax S k t) 12) qt qp ++ (wVo cI a (o + 19) (vh T) (vc T) (vA T 0) (vA T 1) (vA T 2) ++ (wR cI a ((o + 19) + 4) (vr T) (vA T 3) (vA T 4) (vA T 5) (vA T 6) ++ (wS cI a ((o + 19) + 9) (vs T) (vA T 7) (vA T 8) (vA T 9) (vA T 10) (vA T 11) (vA T 12) qt2 qp2))))))) H locs := HW
        refine W.eq (g2 := F0 m 245 ls [.int (figK (gWax S k t) k 3)]) rfl ?_
        refine g_top (y := (10 : Int32)) (wax_3 _ _ _) ?_
        refine lv_bipush (v := 10) hx hb dL_law_245 (by decide) ?_
        refine lv_icmp_eq (tgt := 356) hx hb dL_law_247 (by decide) (fun c247 => ?_) (fun c247 => ?_)
        · exact kk (gWax S k t) qt qp T qt2 qp2 (pi_up hP2) hR (fun _ => ept.symm) _ _ _ HW (lv_sub hl [0, 1, 2, 3, 4, 5, 6, 7] rfl)
        · exact absurd c247 (by decide)

set_option maxRecDepth 100000 in
set_option maxHeartbeats 4000000 in
theorem st_c3 (CX : Cx p s m args meth c cL_law 16 (some .boolean) RL wsL_law D (ty2 cI cL) A) (hSX : SX A sb L xs s) (hc : cells ≤ room_1.cells) (hs : slots ≤ room_1.slots) (o : Nat) (S : VS) (qt : Nat → Int32) (qp : Nat → Int32) (T : VS) (qt2 : Nat → Int32) (qp2 : Nat → Int32) (all : Int32) (n : Nat) (x : Int32) (k : Nat) (t : Nat) (pts : Int32) (hL : L ≤ 260) (hk : k < 5) (ht : t ≤ 2) (hn : n < 30) (hP : PI (skF xs L) all n S) (hR : Rep (vs S) (vq S) qt qp) (hj : ¬ bl x 6 < 3) (HW : Hw D A s (wXo cI a o  ++ (wVo cI a (o + 1) (vh S) (vc S) (vA S 0) (vA S 1) (vA S 2) ++ (wR cI a ((o + 1) + 4) (vr S) (vA S 3) (vA S 4) (vA S 5) (vA S 6) ++ (wS cI a ((o + 1) + 9) (vs S) (vA S 7) (vA S 8) (vA S 9) (vA S 10) (vA S 11) (vA S 12) qt qp ++ (wVo cI a (o + 19) (vh T) (vc T) (vA T 0) (vA T 1) (vA T 2) ++ (wR cI a ((o + 19) + 4) (vr T) (vA T 3) (vA T 4) (vA T 5) (vA T 6) ++ (wS cI a ((o + 19) + 9) (vs T) (vA T 7) (vA T 8) (vA T 9) (vA T 10) (vA T 11) (vA T 12) qt2 qp2))))))) H locs) (hl : lv_has ls 16 [(7, .int pts), (6, .int (nI t)), (5, .int (nI k)), (4, .int x), (3, .int (nI n)), (2, .int all), (1, .ref (a o)), (0, .ref sb)]) (kk : ∀ (S : VS) (qt : Nat → Int32) (qp : Nat → Int32) (T : VS) (qt2 : Nat → Int32) (qp2 : Nat → Int32), (PI (skF xs L) all (n + 1) S) → (Rep (vs S) (vq S) qt qp) → (bl x 6 < 3 → vA S 11 k = pts) → ∀ (H : Heap) (locs : List Loc) (ls : Array Slot), Hw D A s (wXo cI a o  ++ (wVo cI a (o + 1) (vh S) (vc S) (vA S 0) (vA S 1) (vA S 2) ++ (wR cI a ((o + 1) + 4) (vr S) (vA S 3) (vA S 4) (vA S 5) (vA S 6) ++ (wS cI a ((o + 1) + 9) (vs S) (vA S 7) (vA S 8) (vA S 9) (vA S 10) (vA S 11) (vA S 12) qt qp ++ (wVo cI a (o + 19) (vh T) (vc T) (vA T 0) (vA T 1) (vA T 2) ++ (wR cI a ((o + 19) + 4) (vr T) (vA T 3) (vA T 4) (vA T 5) (vA T 6) ++ (wS cI a ((o + 19) + 9) (vs T) (vA T 7) (vA T 8) (vA T 9) (vA T 10) (vA T 11) (vA T 12) qt2 qp2))))))) H locs → lv_has ls 16 [(7, .int pts), (6, .int (nI t)), (5, .int (nI k)), (4, .int x), (3, .int (nI n)), (2, .int all), (1, .ref (a o)), (0, .ref sb)] → W p l e room_1 s m args below meth c H locs cells slots Q (F0 m 356 ls [])) : W p l e room_1 s m args below meth c H locs cells slots Q (F0 m 252 ls []) := by
  obtain ⟨hx, hb, hml, hr, hown, hts, hK, hA, hlk⟩ := id CX
  have hn8 : vs S ≤ 8 := hP.inv.2.1
  have hk9 : k < vs S := by rw [hP.s5]; exact hk
  have hh : vh S + 100 < 2 ^ 31 := by have := hP.hh; omega
  refine lv_aload_n hx hb dL_law_252 rfl (lv_at hl 6 rfl) ?_
  refine lv_bipush (v := 6) hx hb dL_law_253 (by decide) ?_
  refine g_callV CX HW hl.1 ([]) ([]) (c_X3_count o S qt qp T qt2 qp2 6 hP.inv hR hh (by decide)) rfl 0 rfl rfl gL_law_X3_count rfl ⟨rfl, hd_X3_count⟩ ⟨rfl, rfl, (Nat.le_of_ble_eq_true rfl), (Nat.le_of_ble_eq_true rfl)⟩ ⟨hc, hs⟩ rfl rfl (Nat.le_of_ble_eq_true rfl) dL_law_255 (fun v w1 H locs hp HW => ?_)
  obtain ⟨rfl, rfl⟩ := hp
  have HW : Hw D A s (wXo cI a o  ++ (wVo cI a (o + 1) (vh S) (vc S) (vA S 0) (vA S 1) (vA S 2) ++ (wR cI a ((o + 1) + 4) (vr S) (vA S 3) (vA S 4) (vA S 5) (vA S 6) ++ (wS cI a ((o + 1) + 9) (vs S) (vA S 7) (vA S 8) (vA S 9) (vA S 10) (vA S 11) (vA S 12) qt qp ++ (wVo cI a (o + 19) (vh T) (vc T) (vA T 0) (vA T 1) (vA T 2) ++ (wR cI a ((o + 19) + 4) (vr T) (vA T 3) (vA T 4) (vA T 5) (vA T 6) ++ (wS cI a ((o + 19) + 9) (vs T) (vA T 7) (vA T 8) (vA T 9) (vA T 10) (vA T 11) (vA T 12) qt2 qp2))))))) H locs := HW
  refine W.eq (g2 := F0 m 258 ls [.int (figV S 6)]) rfl ?_
  refine lv_istore (lv' := [(8, .int (figV S 6)), (7, .int pts), (6, .int (nI t)), (5, .int (nI k)), (4, .int x), (3, .int (nI n)), (2, .int all), (1, .ref (a o)), (0, .ref sb)]) hx hb dL_law_258 hl (Nat.le_of_ble_eq_true rfl) rfl (fun ls hl => ?_)
  refine lv_aload_n hx hb dL_law_260 rfl (lv_at hl 7 rfl) ?_
  refine g_callV CX HW hl.1 ([]) ([]) (c_X3_digest o S qt qp T qt2 qp2 hP.inv hR hh) rfl 0 rfl rfl gL_law_X3_digest rfl ⟨rfl, hd_X3_digest⟩ ⟨rfl, rfl, (Nat.le_of_ble_eq_true rfl), (Nat.le_of_ble_eq_true rfl)⟩ ⟨hc, hs⟩ rfl rfl (Nat.le_of_ble_eq_true rfl) dL_law_261 (fun v w1 H locs hp HW => ?_)
  obtain ⟨rfl, rfl⟩ := hp
  have HW : Hw D A s (wXo cI a o  ++ (wVo cI a (o + 1) (vh S) (vc S) (vA S 0) (vA S 1) (vA S 2) ++ (wR cI a ((o + 1) + 4) (vr S) (vA S 3) (vA S 4) (vA S 5) (vA S 6) ++ (wS cI a ((o + 1) + 9) (vs S) (vA S 7) (vA S 8) (vA S 9) (vA S 10) (vA S 11) (vA S 12) qt qp ++ (wVo cI a (o + 19) (vh T) (vc T) (vA T 0) (vA T 1) (vA T 2) ++ (wR cI a ((o + 19) + 4) (vr T) (vA T 3) (vA T 4) (vA T 5) (vA T 6) ++ (wS cI a ((o + 19) + 9) (vs T) (vA T 7) (vA T 8) (vA T 9) (vA T 10) (vA T 11) (vA T 12) qt2 qp2))))))) H locs := HW
  refine W.eq (g2 := F0 m 264 ls [.long (dig S)]) rfl ?_
  refine lv_lstore (lv' := [(9, .long (dig S)), (8, .int (figV S 6)), (7, .int pts), (6, .int (nI t)), (5, .int (nI k)), (4, .int x), (3, .int (nI n)), (2, .int all), (1, .ref (a o)), (0, .ref sb)]) hx hb dL_law_264 hl (Nat.le_of_ble_eq_true rfl) rfl (fun ls hl => ?_)
  refine lv_aload_n hx hb dL_law_266 rfl (lv_at hl 8 rfl) ?_
  refine lv_iconst (v := 2) hx hb dL_law_267 (by decide) ?_
  refine lv_bipush (v := 6) hx hb dL_law_268 (by decide) ?_
  refine g_callV CX HW hl.1 ([]) ([]) (c_X3_foresee o S qt qp T qt2 qp2 2 6 hP.inv hR hh (by decide) (by decide) (by decide)) rfl 0 rfl rfl gL_law_X3_foresee rfl ⟨rfl, hd_X3_foresee⟩ ⟨rfl, rfl, (Nat.le_of_ble_eq_true rfl), (Nat.le_of_ble_eq_true rfl)⟩ ⟨hc, hs⟩ rfl rfl (Nat.le_of_ble_eq_true rfl) dL_law_270 (fun v w1 H locs hp HW => ?_)
  obtain ⟨T'_1, qt2'_1, qp2'_1, rfl, rfl⟩ := hp
  have HW : Hw D A s (wXo cI a o  ++ (wVo cI a (o + 1) (vh S) (vc S) (vA S 0) (vA S 1) (vA S 2) ++ (wR cI a ((o + 1) + 4) (vr S) (vA S 3) (vA S 4) (vA S 5) (vA S 6) ++ (wS cI a ((o + 1) + 9) (vs S) (vA S 7) (vA S 8) (vA S 9) (vA S 10) (vA S 11) (vA S 12) qt qp ++ (wVo cI a (o + 19) (vh T'_1) (vc T'_1) (vA T'_1 0) (vA T'_1 1) (vA T'_1 2) ++ (wR cI a ((o + 19) + 4) (vr T'_1) (vA T'_1 3) (vA T'_1 4) (vA T'_1 5) (vA T'_1 6) ++ (wS cI a ((o + 19) + 9) (vs T'_1) (vA T'_1 7) (vA T'_1 8) (vA T'_1 9) (vA T'_1 10) (vA T'_1 11) (vA T'_1 12) qt2'_1 qp2'_1))))))) H locs := HW
  refine W.eq (g2 := F0 m 273 ls [.int (figV (hoursS 2 S) 6)]) rfl ?_
  refine lv_istore (lv' := [(11, .int (figV (hoursS 2 S) 6)), (9, .long (dig S)), (8, .int (figV S 6)), (7, .int pts), (6, .int (nI t)), (5, .int (nI k)), (4, .int x), (3, .int (nI n)), (2, .int all), (1, .ref (a o)), (0, .ref sb)]) hx hb dL_law_273 hl (Nat.le_of_ble_eq_true rfl) rfl (fun ls hl => ?_)
  refine lv_aload_n hx hb dL_law_275 rfl (lv_at hl 9 rfl) ?_
  refine lv_iconst (v := 2) hx hb dL_law_276 (by decide) ?_
  refine lv_bipush (v := 8) hx hb dL_law_277 (by decide) ?_
  refine g_callV CX HW hl.1 ([]) ([]) (c_X3_foresee o S qt qp T'_1 qt2'_1 qp2'_1 2 8 hP.inv hR hh (by decide) (by decide) (by decide)) rfl 0 rfl rfl gL_law_X3_foresee rfl ⟨rfl, hd_X3_foresee⟩ ⟨rfl, rfl, (Nat.le_of_ble_eq_true rfl), (Nat.le_of_ble_eq_true rfl)⟩ ⟨hc, hs⟩ rfl rfl (Nat.le_of_ble_eq_true rfl) dL_law_279 (fun v w1 H locs hp HW => ?_)
  obtain ⟨T'_2, qt2'_2, qp2'_2, rfl, rfl⟩ := hp
  have HW : Hw D A s (wXo cI a o  ++ (wVo cI a (o + 1) (vh S) (vc S) (vA S 0) (vA S 1) (vA S 2) ++ (wR cI a ((o + 1) + 4) (vr S) (vA S 3) (vA S 4) (vA S 5) (vA S 6) ++ (wS cI a ((o + 1) + 9) (vs S) (vA S 7) (vA S 8) (vA S 9) (vA S 10) (vA S 11) (vA S 12) qt qp ++ (wVo cI a (o + 19) (vh T'_2) (vc T'_2) (vA T'_2 0) (vA T'_2 1) (vA T'_2 2) ++ (wR cI a ((o + 19) + 4) (vr T'_2) (vA T'_2 3) (vA T'_2 4) (vA T'_2 5) (vA T'_2 6) ++ (wS cI a ((o + 19) + 9) (vs T'_2) (vA T'_2 7) (vA T'_2 8) (vA T'_2 9) (vA T'_2 10) (vA T'_2 11) (vA T'_2 12) qt2'_2 qp2'_2))))))) H locs := HW
  refine W.eq (g2 := F0 m 282 ls [.int (figV (hoursS 2 S) 8)]) rfl ?_
  refine lv_istore (lv' := [(12, .int (figV (hoursS 2 S) 8)), (11, .int (figV (hoursS 2 S) 6)), (9, .long (dig S)), (8, .int (figV S 6)), (7, .int pts), (6, .int (nI t)), (5, .int (nI k)), (4, .int x), (3, .int (nI n)), (2, .int all), (1, .ref (a o)), (0, .ref sb)]) hx hb dL_law_282 hl (Nat.le_of_ble_eq_true rfl) rfl (fun ls hl => ?_)
  refine lv_aload_n hx hb dL_law_284 rfl (lv_at hl 10 rfl) ?_
  refine lv_iload hx hb dL_law_285 (lv_at hl 6 rfl) ?_
  refine g_callV CX HW hl.1 ([]) ([]) (c_X3_until o S qt qp T'_2 qt2'_2 qp2'_2 k hP.inv hR hh hk9) rfl 0 rfl rfl gL_law_X3_until rfl ⟨rfl, hd_X3_until⟩ ⟨rfl, rfl, (Nat.le_of_ble_eq_true rfl), (Nat.le_of_ble_eq_true rfl)⟩ ⟨hc, hs⟩ rfl rfl (Nat.le_of_ble_eq_true rfl) dL_law_287 (fun v w1 H locs hp HW => ?_)
  obtain ⟨T'_3, qt2'_3, qp2'_3, rfl, rfl⟩ := hp
  have HW : Hw D A s (wXo cI a o  ++ (wVo cI a (o + 1) (vh S) (vc S) (vA S 0) (vA S 1) (vA S 2) ++ (wR cI a ((o + 1) + 4) (vr S) (vA S 3) (vA S 4) (vA S 5) (vA S 6) ++ (wS cI a ((o + 1) + 9) (vs S) (vA S 7) (vA S 8) (vA S 9) (vA S 10) (vA S 11) (vA S 12) qt qp ++ (wVo cI a (o + 19) (vh T'_3) (vc T'_3) (vA T'_3 0) (vA T'_3 1) (vA T'_3 2) ++ (wR cI a ((o + 19) + 4) (vr T'_3) (vA T'_3 3) (vA T'_3 4) (vA T'_3 5) (vA T'_3 6) ++ (wS cI a ((o + 19) + 9) (vs T'_3) (vA T'_3 7) (vA T'_3 8) (vA T'_3 9) (vA T'_3 10) (vA T'_3 11) (vA T'_3 12) qt2'_3 qp2'_3))))))) H locs := HW
  refine W.eq (g2 := F0 m 290 ls [.int (untS S k)]) rfl ?_
  refine lv_istore (lv' := [(13, .int (untS S k)), (12, .int (figV (hoursS 2 S) 8)), (11, .int (figV (hoursS 2 S) 6)), (9, .long (dig S)), (8, .int (figV S 6)), (7, .int pts), (6, .int (nI t)), (5, .int (nI k)), (4, .int x), (3, .int (nI n)), (2, .int all), (1, .ref (a o)), (0, .ref sb)]) hx hb dL_law_290 hl (Nat.le_of_ble_eq_true rfl) rfl (fun ls hl => ?_)
  refine lv_aload_n hx hb dL_law_292 rfl (lv_at hl 11 rfl) ?_
  refine g_callV CX HW hl.1 ([]) ([]) (c_X3_digest o S qt qp T'_3 qt2'_3 qp2'_3 hP.inv hR hh) rfl 0 rfl rfl gL_law_X3_digest rfl ⟨rfl, hd_X3_digest⟩ ⟨rfl, rfl, (Nat.le_of_ble_eq_true rfl), (Nat.le_of_ble_eq_true rfl)⟩ ⟨hc, hs⟩ rfl rfl (Nat.le_of_ble_eq_true rfl) dL_law_293 (fun v w1 H locs hp HW => ?_)
  obtain ⟨rfl, rfl⟩ := hp
  have HW : Hw D A s (wXo cI a o  ++ (wVo cI a (o + 1) (vh S) (vc S) (vA S 0) (vA S 1) (vA S 2) ++ (wR cI a ((o + 1) + 4) (vr S) (vA S 3) (vA S 4) (vA S 5) (vA S 6) ++ (wS cI a ((o + 1) + 9) (vs S) (vA S 7) (vA S 8) (vA S 9) (vA S 10) (vA S 11) (vA S 12) qt qp ++ (wVo cI a (o + 19) (vh T'_3) (vc T'_3) (vA T'_3 0) (vA T'_3 1) (vA T'_3 2) ++ (wR cI a ((o + 19) + 4) (vr T'_3) (vA T'_3 3) (vA T'_3 4) (vA T'_3 5) (vA T'_3 6) ++ (wS cI a ((o + 19) + 9) (vs T'_3) (vA T'_3 7) (vA T'_3 8) (vA T'_3 9) (vA T'_3 10) (vA T'_3 11) (vA T'_3 12) qt2'_3 qp2'_3))))))) H locs := HW
  refine W.eq (g2 := F0 m 296 ls [.long (dig S)]) rfl ?_
  refine lv_lload hx hb dL_law_296 (lv_at hl 3 rfl) ?_
  refine W.lcmp hx hb dL_law_298 ?_
  refine g_top (y := (0 : Int32)) (lcmp_self _) ?_
  refine lv_if_ne (tgt := 354) hx hb dL_law_299 (by decide) (fun c299 => ?_) (fun c299 => ?_)
  · exact absurd c299 (by decide)
  · refine lv_iload hx hb dL_law_302 (lv_at hl 0 rfl) ?_
    refine lv_if_eq (tgt := 354) hx hb dL_law_304 (by decide) (fun c304 => ?_) (fun c304 => ?_)
    · exact absurd c304 (unt_n0 k S)
    · refine lv_iload hx hb dL_law_307 (lv_at hl 0 rfl) ?_
      refine lv_bipush (v := 90) hx hb dL_law_309 (by decide) ?_
      refine lv_icmp_gt (tgt := 354) hx hb dL_law_311 (by decide) (fun c311 => ?_) (fun c311 => ?_)
      · exact absurd c311 (unt_90 k S)
      · refine lv_aload_n hx hb dL_law_314 rfl (lv_at hl 11 rfl) ?_
        refine lv_iload hx hb dL_law_315 (lv_at hl 7 rfl) ?_
        refine lv_bipush (v := 6) hx hb dL_law_317 (by decide) ?_
        refine g_callV CX HW hl.1 ([]) ([]) (c_X3_told o S qt qp T'_3 qt2'_3 qp2'_3 k 6 hP.inv hR hk9 (by decide)) rfl 0 rfl rfl gL_law_X3_told rfl ⟨rfl, hd_X3_told⟩ ⟨rfl, rfl, (Nat.le_of_ble_eq_true rfl), (Nat.le_of_ble_eq_true rfl)⟩ ⟨hc, hs⟩ rfl rfl (Nat.le_of_ble_eq_true rfl) dL_law_319 (fun v w1 H locs hp HW => ?_)
        obtain ⟨rfl, rfl⟩ := hp
        have HW : Hw D A s (wXo cI a o  ++ (wVo cI a (o + 1) (vh S) (vc S) (vA S 0) (vA S 1) (vA S 2) ++ (wR cI a ((o + 1) + 4) (vr S) (vA S 3) (vA S 4) (vA S 5) (vA S 6) ++ (wS cI a ((o + 1) + 9) (vs S) (vA S 7) (vA S 8) (vA S 9) (vA S 10) (vA S 11) (vA S 12) qt qp ++ (wVo cI a (o + 19) (vh T'_3) (vc T'_3) (vA T'_3 0) (vA T'_3 1) (vA T'_3 2) ++ (wR cI a ((o + 19) + 4) (vr T'_3) (vA T'_3 3) (vA T'_3 4) (vA T'_3 5) (vA T'_3 6) ++ (wS cI a ((o + 19) + 9) (vs T'_3) (vA T'_3 7) (vA T'_3 8) (vA T'_3 9) (vA T'_3 10) (vA T'_3 11) (vA T'_3 12) qt2'_3 qp2'_3))))))) H locs := HW
        refine W.eq (g2 := F0 m 322 ls [.int (figK S k 6)]) rfl ?_
        refine lv_if_ge (tgt := 330) hx hb dL_law_322 (by decide) (fun c322 => ?_) (fun c322 => ?_)
        · refine lv_aload_n hx hb dL_law_330 rfl (lv_at hl 11 rfl) ?_
          refine lv_iconst (v := 2) hx hb dL_law_331 (by decide) ?_
          refine g_callV CX HW hl.1 ([]) ([]) (c_X3_pass o S qt qp T'_3 qt2'_3 qp2'_3 2 hP.inv hR hh (by decide) (by decide)) rfl 0 rfl rfl gL_law_X3_pass rfl ⟨rfl, hd_X3_pass⟩ ⟨rfl, rfl, (Nat.le_of_ble_eq_true rfl), (Nat.le_of_ble_eq_true rfl)⟩ ⟨hc, hs⟩ rfl rfl (Nat.le_of_ble_eq_true rfl) dL_law_332 (fun v w1 H locs hp HW => ?_)
          obtain ⟨qt'_4, qp'_4, hr9_4, rfl, rfl⟩ := hp
          have HW : Hw D A s (wXo cI a o  ++ (wVo cI a (o + 1) (vh (hoursS 2 S)) (vc (hoursS 2 S)) (vA (hoursS 2 S) 0) (vA (hoursS 2 S) 1) (vA (hoursS 2 S) 2) ++ (wR cI a ((o + 1) + 4) (vr (hoursS 2 S)) (vA (hoursS 2 S) 3) (vA (hoursS 2 S) 4) (vA (hoursS 2 S) 5) (vA (hoursS 2 S) 6) ++ (wS cI a ((o + 1) + 9) (vs (hoursS 2 S)) (vA (hoursS 2 S) 7) (vA (hoursS 2 S) 8) (vA (hoursS 2 S) 9) (vA (hoursS 2 S) 10) (vA (hoursS 2 S) 11) (vA (hoursS 2 S) 12) qt'_4 qp'_4 ++ (wVo cI a (o + 19) (vh T'_3) (vc T'_3) (vA T'_3 0) (vA T'_3 1) (vA T'_3 2) ++ (wR cI a ((o + 19) + 4) (vr T'_3) (vA T'_3 3) (vA T'_3 4) (vA T'_3 5) (vA T'_3 6) ++ (wS cI a ((o + 19) + 9) (vs T'_3) (vA T'_3 7) (vA T'_3 8) (vA T'_3 9) (vA T'_3 10) (vA T'_3 11) (vA T'_3 12) qt2'_3 qp2'_3))))))) H locs := HW
          refine W.eq (g2 := F0 m 335 ls [.int (sumP (hoursS 2 S) - sumP S)]) rfl ?_
          refine lv_iload hx hb dL_law_335 (lv_at hl 2 rfl) ?_
          refine lv_iload hx hb dL_law_337 (lv_at hl 4 rfl) ?_
          refine lv_isub hx hb dL_law_339 ?_
          refine g_top (y := (sumP (hoursS 2 S) - sumP S)) rfl ?_
          refine lv_icmp_ne (tgt := 354) hx hb dL_law_340 (by decide) (fun c340 => ?_) (fun c340 => ?_)
          · exact absurd rfl c340
          · refine lv_aload_n hx hb dL_law_343 rfl (lv_at hl 11 rfl) ?_
            refine lv_bipush (v := 8) hx hb dL_law_344 (by decide) ?_
            refine g_callV CX HW hl.1 ([]) ([]) (c_X3_count o (hoursS 2 S) qt'_4 qp'_4 T'_3 qt2'_3 qp2'_3 8 (pi_hours hP (rep_qok hR)).inv hr9_4 (by rw [vh_hoursS]; have := hP.hh; omega) (by decide)) rfl 0 rfl rfl gL_law_X3_count rfl ⟨rfl, hd_X3_count⟩ ⟨rfl, rfl, (Nat.le_of_ble_eq_true rfl), (Nat.le_of_ble_eq_true rfl)⟩ ⟨hc, hs⟩ rfl rfl (Nat.le_of_ble_eq_true rfl) dL_law_346 (fun v w1 H locs hp HW => ?_)
            obtain ⟨rfl, rfl⟩ := hp
            have HW : Hw D A s (wXo cI a o  ++ (wVo cI a (o + 1) (vh (hoursS 2 S)) (vc (hoursS 2 S)) (vA (hoursS 2 S) 0) (vA (hoursS 2 S) 1) (vA (hoursS 2 S) 2) ++ (wR cI a ((o + 1) + 4) (vr (hoursS 2 S)) (vA (hoursS 2 S) 3) (vA (hoursS 2 S) 4) (vA (hoursS 2 S) 5) (vA (hoursS 2 S) 6) ++ (wS cI a ((o + 1) + 9) (vs (hoursS 2 S)) (vA (hoursS 2 S) 7) (vA (hoursS 2 S) 8) (vA (hoursS 2 S) 9) (vA (hoursS 2 S) 10) (vA (hoursS 2 S) 11) (vA (hoursS 2 S) 12) qt'_4 qp'_4 ++ (wVo cI a (o + 19) (vh T'_3) (vc T'_3) (vA T'_3 0) (vA T'_3 1) (vA T'_3 2) ++ (wR cI a ((o + 19) + 4) (vr T'_3) (vA T'_3 3) (vA T'_3 4) (vA T'_3 5) (vA T'_3 6) ++ (wS cI a ((o + 19) + 9) (vs T'_3) (vA T'_3 7) (vA T'_3 8) (vA T'_3 9) (vA T'_3 10) (vA T'_3 11) (vA T'_3 12) qt2'_3 qp2'_3))))))) H locs := HW
            refine W.eq (g2 := F0 m 349 ls [.int (figV (hoursS 2 S) 8)]) rfl ?_
            refine lv_iload hx hb dL_law_349 (lv_at hl 1 rfl) ?_
            refine lv_icmp_eq (tgt := 356) hx hb dL_law_351 (by decide) (fun c351 => ?_) (fun c351 => ?_)
            · exact kk (hoursS 2 S) qt'_4 qp'_4 _ _ _ (pi_hours hP (rep_qok hR)) hr9_4 (fun h9 => absurd h9 hj) _ _ _ HW (lv_sub hl [5, 6, 7, 8, 9, 10, 11, 12] rfl)
            · exact absurd rfl c351
        · refine lv_iload hx hb dL_law_325 (lv_at hl 0 rfl) ?_
          refine lv_if_ge (tgt := 354) hx hb dL_law_327 (by decide) (fun c327 => ?_) (fun c327 => ?_)
          · exact absurd c327 (by rw [unt_no (towQ_neg (Int32.not_le.mp c322))]; decide)
          · refine lv_aload_n hx hb dL_law_330 rfl (lv_at hl 11 rfl) ?_
            refine lv_iconst (v := 2) hx hb dL_law_331 (by decide) ?_
            refine g_callV CX HW hl.1 ([]) ([]) (c_X3_pass o S qt qp T'_3 qt2'_3 qp2'_3 2 hP.inv hR hh (by decide) (by decide)) rfl 0 rfl rfl gL_law_X3_pass rfl ⟨rfl, hd_X3_pass⟩ ⟨rfl, rfl, (Nat.le_of_ble_eq_true rfl), (Nat.le_of_ble_eq_true rfl)⟩ ⟨hc, hs⟩ rfl rfl (Nat.le_of_ble_eq_true rfl) dL_law_332 (fun v w1 H locs hp HW => ?_)
            obtain ⟨qt'_5, qp'_5, hr9_5, rfl, rfl⟩ := hp
            have HW : Hw D A s (wXo cI a o  ++ (wVo cI a (o + 1) (vh (hoursS 2 S)) (vc (hoursS 2 S)) (vA (hoursS 2 S) 0) (vA (hoursS 2 S) 1) (vA (hoursS 2 S) 2) ++ (wR cI a ((o + 1) + 4) (vr (hoursS 2 S)) (vA (hoursS 2 S) 3) (vA (hoursS 2 S) 4) (vA (hoursS 2 S) 5) (vA (hoursS 2 S) 6) ++ (wS cI a ((o + 1) + 9) (vs (hoursS 2 S)) (vA (hoursS 2 S) 7) (vA (hoursS 2 S) 8) (vA (hoursS 2 S) 9) (vA (hoursS 2 S) 10) (vA (hoursS 2 S) 11) (vA (hoursS 2 S) 12) qt'_5 qp'_5 ++ (wVo cI a (o + 19) (vh T'_3) (vc T'_3) (vA T'_3 0) (vA T'_3 1) (vA T'_3 2) ++ (wR cI a ((o + 19) + 4) (vr T'_3) (vA T'_3 3) (vA T'_3 4) (vA T'_3 5) (vA T'_3 6) ++ (wS cI a ((o + 19) + 9) (vs T'_3) (vA T'_3 7) (vA T'_3 8) (vA T'_3 9) (vA T'_3 10) (vA T'_3 11) (vA T'_3 12) qt2'_3 qp2'_3))))))) H locs := HW
            refine W.eq (g2 := F0 m 335 ls [.int (sumP (hoursS 2 S) - sumP S)]) rfl ?_
            refine lv_iload hx hb dL_law_335 (lv_at hl 2 rfl) ?_
            refine lv_iload hx hb dL_law_337 (lv_at hl 4 rfl) ?_
            refine lv_isub hx hb dL_law_339 ?_
            refine g_top (y := (sumP (hoursS 2 S) - sumP S)) rfl ?_
            refine lv_icmp_ne (tgt := 354) hx hb dL_law_340 (by decide) (fun c340 => ?_) (fun c340 => ?_)
            · exact absurd rfl c340
            · refine lv_aload_n hx hb dL_law_343 rfl (lv_at hl 11 rfl) ?_
              refine lv_bipush (v := 8) hx hb dL_law_344 (by decide) ?_
              refine g_callV CX HW hl.1 ([]) ([]) (c_X3_count o (hoursS 2 S) qt'_5 qp'_5 T'_3 qt2'_3 qp2'_3 8 (pi_hours hP (rep_qok hR)).inv hr9_5 (by rw [vh_hoursS]; have := hP.hh; omega) (by decide)) rfl 0 rfl rfl gL_law_X3_count rfl ⟨rfl, hd_X3_count⟩ ⟨rfl, rfl, (Nat.le_of_ble_eq_true rfl), (Nat.le_of_ble_eq_true rfl)⟩ ⟨hc, hs⟩ rfl rfl (Nat.le_of_ble_eq_true rfl) dL_law_346 (fun v w1 H locs hp HW => ?_)
              obtain ⟨rfl, rfl⟩ := hp
              have HW : Hw D A s (wXo cI a o  ++ (wVo cI a (o + 1) (vh (hoursS 2 S)) (vc (hoursS 2 S)) (vA (hoursS 2 S) 0) (vA (hoursS 2 S) 1) (vA (hoursS 2 S) 2) ++ (wR cI a ((o + 1) + 4) (vr (hoursS 2 S)) (vA (hoursS 2 S) 3) (vA (hoursS 2 S) 4) (vA (hoursS 2 S) 5) (vA (hoursS 2 S) 6) ++ (wS cI a ((o + 1) + 9) (vs (hoursS 2 S)) (vA (hoursS 2 S) 7) (vA (hoursS 2 S) 8) (vA (hoursS 2 S) 9) (vA (hoursS 2 S) 10) (vA (hoursS 2 S) 11) (vA (hoursS 2 S) 12) qt'_5 qp'_5 ++ (wVo cI a (o + 19) (vh T'_3) (vc T'_3) (vA T'_3 0) (vA T'_3 1) (vA T'_3 2) ++ (wR cI a ((o + 19) + 4) (vr T'_3) (vA T'_3 3) (vA T'_3 4) (vA T'_3 5) (vA T'_3 6) ++ (wS cI a ((o + 19) + 9) (vs T'_3) (vA T'_3 7) (vA T'_3 8) (vA T'_3 9) (vA T'_3 10) (vA T'_3 11) (vA T'_3 12) qt2'_3 qp2'_3))))))) H locs := HW
              refine W.eq (g2 := F0 m 349 ls [.int (figV (hoursS 2 S) 8)]) rfl ?_
              refine lv_iload hx hb dL_law_349 (lv_at hl 1 rfl) ?_
              refine lv_icmp_eq (tgt := 356) hx hb dL_law_351 (by decide) (fun c351 => ?_) (fun c351 => ?_)
              · exact kk (hoursS 2 S) qt'_5 qp'_5 _ _ _ (pi_hours hP (rep_qok hR)) hr9_5 (fun h9 => absurd h9 hj) _ _ _ HW (lv_sub hl [5, 6, 7, 8, 9, 10, 11, 12] rfl)
              · exact absurd rfl c351

end LAW1
