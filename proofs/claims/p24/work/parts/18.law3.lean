section LAW3
variable {p : Program} {l : Launch} {e : Env} {s : State} {m : MethodId} {args : Array Value} {below : List Frame} {meth : Method} {c : Code} {H : Heap} {locs : List Loc} {cells slots : Nat} {Q : State → Prop} {ls : Array Slot} {D : va_G} {A : Nat → Prop} {cI cL : ClassId} {a : Nat → Nat} {sb L : Nat} {xs : Nat → Int32}
set_option maxRecDepth 100000 in
set_option maxHeartbeats 4000000 in
theorem st_body (CX : Cx p s m args meth c cL_law 16 (some .boolean) RL wsL_law D (ty2 cI cL) A) (hSX : SX A sb L xs s) (hc : cells ≤ room_1.cells) (hs : slots ≤ room_1.slots) (o : Nat) (S : VS) (qt : Nat → Int32) (qp : Nat → Int32) (T : VS) (qt2 : Nat → Int32) (qp2 : Nat → Int32) (all : Int32) (n : Nat) (hL : L ≤ 260) (hn : n < 30) (hP : PI (skF xs L) all n S) (hR : Rep (vs S) (vq S) qt qp) (HW : Hw D A s (wXo cI a o  ++ (wVo cI a (o + 1) (vh S) (vc S) (vA S 0) (vA S 1) (vA S 2) ++ (wR cI a ((o + 1) + 4) (vr S) (vA S 3) (vA S 4) (vA S 5) (vA S 6) ++ (wS cI a ((o + 1) + 9) (vs S) (vA S 7) (vA S 8) (vA S 9) (vA S 10) (vA S 11) (vA S 12) qt qp ++ (wVo cI a (o + 19) (vh T) (vc T) (vA T 0) (vA T 1) (vA T 2) ++ (wR cI a ((o + 19) + 4) (vr T) (vA T 3) (vA T 4) (vA T 5) (vA T 6) ++ (wS cI a ((o + 19) + 9) (vs T) (vA T 7) (vA T 8) (vA T 9) (vA T 10) (vA T 11) (vA T 12) qt2 qp2))))))) H locs) (hl : lv_has ls 16 [(3, .int (nI n)), (2, .int all), (1, .ref (a o)), (0, .ref sb)]) (kk : ∀ (S : VS) (qt : Nat → Int32) (qp : Nat → Int32) (T : VS) (qt2 : Nat → Int32) (qp2 : Nat → Int32), (PI (skF xs L) all (n + 1) S) → (Rep (vs S) (vq S) qt qp) → ∀ (H : Heap) (locs : List Loc) (ls : Array Slot), Hw D A s (wXo cI a o  ++ (wVo cI a (o + 1) (vh S) (vc S) (vA S 0) (vA S 1) (vA S 2) ++ (wR cI a ((o + 1) + 4) (vr S) (vA S 3) (vA S 4) (vA S 5) (vA S 6) ++ (wS cI a ((o + 1) + 9) (vs S) (vA S 7) (vA S 8) (vA S 9) (vA S 10) (vA S 11) (vA S 12) qt qp ++ (wVo cI a (o + 19) (vh T) (vc T) (vA T 0) (vA T 1) (vA T 2) ++ (wR cI a ((o + 19) + 4) (vr T) (vA T 3) (vA T 4) (vA T 5) (vA T 6) ++ (wS cI a ((o + 19) + 9) (vs T) (vA T 7) (vA T 8) (vA T 9) (vA T 10) (vA T 11) (vA T 12) qt2 qp2))))))) H locs → lv_has ls 16 [(3, .int (nI n)), (2, .int all), (1, .ref (a o)), (0, .ref sb)] → W p l e room_1 s m args below meth c H locs cells slots Q (F0 m 812 ls [])) : W p l e room_1 s m args below meth c H locs cells slots Q (F0 m 41 ls []) := by
  obtain ⟨hx, hb, hml, hr, hown, hts, hK, hA, hlk⟩ := id CX
  have hn8 : vs S ≤ 8 := hP.inv.2.1
  have hv5 := hP.s5
  have hh : vh S + 100 < 2 ^ 31 := by have := hP.hh; omega
  refine lv_aload_n hx hb dL_law_41 rfl (lv_at hl 3 rfl) ?_
  refine lv_iload_n hx hb dL_law_42 rfl (lv_at hl 0 rfl) ?_
  refine lv_bipush (v := 16) hx hb dL_law_43 (by decide) ?_
  refine lv_irem hx hb dL_law_45 (by decide) ?_
  refine g_top (y := (nI (n % 16))) (pk_rem (a := n) (d := 16) (by omega) (by decide) (by decide)) ?_
  refine g_callSS CX HW hSX hl.1 ([]) (wXo cI a o  ++ (wVo cI a (o + 1) (vh S) (vc S) (vA S 0) (vA S 1) (vA S 2) ++ (wR cI a ((o + 1) + 4) (vr S) (vA S 3) (vA S 4) (vA S 5) (vA S 6) ++ (wS cI a ((o + 1) + 9) (vs S) (vA S 7) (vA S 8) (vA S 9) (vA S 10) (vA S 11) (vA S 12) qt qp ++ (wVo cI a (o + 19) (vh T) (vc T) (vA T 0) (vA T 1) (vA T 2) ++ (wR cI a ((o + 19) + 4) (vr T) (vA T 3) (vA T 4) (vA T 5) (vA T 6) ++ (wS cI a ((o + 19) + 9) (vs T) (vA T 7) (vA T 8) (vA T 9) (vA T 10) (vA T 11) (vA T 12) qt2 qp2))))))) (c_L_cell sb L xs (n % 16) (by omega) (by omega)) rfl gL_law_L_cell rfl hd_L_cell ⟨rfl, rfl, (Nat.le_of_ble_eq_true rfl), (Nat.le_of_ble_eq_true rfl)⟩ ⟨hc, hs⟩ rfl rfl (Nat.le_of_ble_eq_true rfl) dL_law_46 (fun v w1 H locs hp HW => ?_)
  obtain ⟨rfl, rfl⟩ := hp
  have HW : Hw D A s (wXo cI a o  ++ (wVo cI a (o + 1) (vh S) (vc S) (vA S 0) (vA S 1) (vA S 2) ++ (wR cI a ((o + 1) + 4) (vr S) (vA S 3) (vA S 4) (vA S 5) (vA S 6) ++ (wS cI a ((o + 1) + 9) (vs S) (vA S 7) (vA S 8) (vA S 9) (vA S 10) (vA S 11) (vA S 12) qt qp ++ (wVo cI a (o + 19) (vh T) (vc T) (vA T 0) (vA T 1) (vA T 2) ++ (wR cI a ((o + 19) + 4) (vr T) (vA T 3) (vA T 4) (vA T 5) (vA T 6) ++ (wS cI a ((o + 19) + 9) (vs T) (vA T 7) (vA T 8) (vA T 9) (vA T 10) (vA T 11) (vA T 12) qt2 qp2))))))) H locs := HW
  refine W.eq (g2 := F0 m 49 ls [.int (cellF xs L (n % 16))]) rfl ?_
  refine lv_iload_n hx hb dL_law_49 rfl (lv_at hl 0 rfl) ?_
  refine lv_bipush (v := 16) hx hb dL_law_50 (by decide) ?_
  refine lv_idiv hx hb dL_law_52 (by decide) ?_
  refine lv_iconst (v := 4) hx hb dL_law_53 (by decide) ?_
  refine lv_imul hx hb dL_law_54 ?_
  obtain ⟨x, ex⟩ : ∃ z9 : Int32, z9 = (cellF xs L (n % 16) >>> (((nI n) / (16 : Int32)) * (4 : Int32) &&& 31)) := ⟨_, rfl⟩
  refine lv_ishr hx hb dL_law_55 ?_
  refine g_top (y := x) ex.symm ?_
  refine lv_istore (lv' := [(4, .int x), (3, .int (nI n)), (2, .int all), (1, .ref (a o)), (0, .ref sb)]) hx hb dL_law_56 hl (Nat.le_of_ble_eq_true rfl) rfl (fun ls hl => ?_)
  refine lv_iload hx hb dL_law_58 (lv_at hl 0 rfl) ?_
  refine lv_iconst (v := 2) hx hb dL_law_60 (by decide) ?_
  refine lv_ishr hx hb dL_law_61 ?_
  refine lv_iconst (v := 5) hx hb dL_law_62 (by decide) ?_
  obtain ⟨k, ek⟩ : ∃ z9 : Nat, z9 = bl (x >>> ((2 : Int32) &&& 31)) 5 := ⟨_, rfl⟩
  have hk : k < 5 := by rw [ek]; exact bl_lt _ (by decide)
  refine g_callS CX HW hl.1 ([]) (wXo cI a o  ++ (wVo cI a (o + 1) (vh S) (vc S) (vA S 0) (vA S 1) (vA S 2) ++ (wR cI a ((o + 1) + 4) (vr S) (vA S 3) (vA S 4) (vA S 5) (vA S 6) ++ (wS cI a ((o + 1) + 9) (vs S) (vA S 7) (vA S 8) (vA S 9) (vA S 10) (vA S 11) (vA S 12) qt qp ++ (wVo cI a (o + 19) (vh T) (vc T) (vA T 0) (vA T 1) (vA T 2) ++ (wR cI a ((o + 19) + 4) (vr T) (vA T 3) (vA T 4) (vA T 5) (vA T 6) ++ (wS cI a ((o + 19) + 9) (vs T) (vA T 7) (vA T 8) (vA T 9) (vA T 10) (vA T 11) (vA T 12) qt2 qp2))))))) (c_L_below (x >>> ((2 : Int32) &&& 31)) 5 (by decide) (by decide)) rfl gL_law_L_below rfl hd_L_below ⟨rfl, rfl, (Nat.le_of_ble_eq_true rfl), (Nat.le_of_ble_eq_true rfl)⟩ ⟨hc, hs⟩ rfl rfl (Nat.le_of_ble_eq_true rfl) dL_law_63 (fun v w1 H locs hp HW => ?_)
  obtain ⟨rfl, rfl⟩ := hp
  have HW : Hw D A s (wXo cI a o  ++ (wVo cI a (o + 1) (vh S) (vc S) (vA S 0) (vA S 1) (vA S 2) ++ (wR cI a ((o + 1) + 4) (vr S) (vA S 3) (vA S 4) (vA S 5) (vA S 6) ++ (wS cI a ((o + 1) + 9) (vs S) (vA S 7) (vA S 8) (vA S 9) (vA S 10) (vA S 11) (vA S 12) qt qp ++ (wVo cI a (o + 19) (vh T) (vc T) (vA T 0) (vA T 1) (vA T 2) ++ (wR cI a ((o + 19) + 4) (vr T) (vA T 3) (vA T 4) (vA T 5) (vA T 6) ++ (wS cI a ((o + 19) + 9) (vs T) (vA T 7) (vA T 8) (vA T 9) (vA T 10) (vA T 11) (vA T 12) qt2 qp2))))))) H locs := HW
  refine W.eq (g2 := F0 m 66 ls [.int (nI (bl (x >>> ((2 : Int32) &&& 31)) 5))]) rfl ?_
  refine g_top (y := (nI k)) (by rw [ek]) ?_
  refine lv_istore (lv' := [(5, .int (nI k)), (4, .int x), (3, .int (nI n)), (2, .int all), (1, .ref (a o)), (0, .ref sb)]) hx hb dL_law_66 hl (Nat.le_of_ble_eq_true rfl) rfl (fun ls hl => ?_)
  refine lv_iload hx hb dL_law_68 (lv_at hl 1 rfl) ?_
  refine lv_iconst (v := 5) hx hb dL_law_70 (by decide) ?_
  refine lv_ishr hx hb dL_law_71 ?_
  refine lv_iconst (v := 3) hx hb dL_law_72 (by decide) ?_
  obtain ⟨t, et⟩ : ∃ z9 : Nat, z9 = bl (x >>> ((5 : Int32) &&& 31)) 3 := ⟨_, rfl⟩
  have ht : t < 3 := by rw [et]; exact bl_lt _ (by decide)
  refine g_callS CX HW hl.1 ([]) (wXo cI a o  ++ (wVo cI a (o + 1) (vh S) (vc S) (vA S 0) (vA S 1) (vA S 2) ++ (wR cI a ((o + 1) + 4) (vr S) (vA S 3) (vA S 4) (vA S 5) (vA S 6) ++ (wS cI a ((o + 1) + 9) (vs S) (vA S 7) (vA S 8) (vA S 9) (vA S 10) (vA S 11) (vA S 12) qt qp ++ (wVo cI a (o + 19) (vh T) (vc T) (vA T 0) (vA T 1) (vA T 2) ++ (wR cI a ((o + 19) + 4) (vr T) (vA T 3) (vA T 4) (vA T 5) (vA T 6) ++ (wS cI a ((o + 19) + 9) (vs T) (vA T 7) (vA T 8) (vA T 9) (vA T 10) (vA T 11) (vA T 12) qt2 qp2))))))) (c_L_below (x >>> ((5 : Int32) &&& 31)) 3 (by decide) (by decide)) rfl gL_law_L_below rfl hd_L_below ⟨rfl, rfl, (Nat.le_of_ble_eq_true rfl), (Nat.le_of_ble_eq_true rfl)⟩ ⟨hc, hs⟩ rfl rfl (Nat.le_of_ble_eq_true rfl) dL_law_73 (fun v w1 H locs hp HW => ?_)
  obtain ⟨rfl, rfl⟩ := hp
  have HW : Hw D A s (wXo cI a o  ++ (wVo cI a (o + 1) (vh S) (vc S) (vA S 0) (vA S 1) (vA S 2) ++ (wR cI a ((o + 1) + 4) (vr S) (vA S 3) (vA S 4) (vA S 5) (vA S 6) ++ (wS cI a ((o + 1) + 9) (vs S) (vA S 7) (vA S 8) (vA S 9) (vA S 10) (vA S 11) (vA S 12) qt qp ++ (wVo cI a (o + 19) (vh T) (vc T) (vA T 0) (vA T 1) (vA T 2) ++ (wR cI a ((o + 19) + 4) (vr T) (vA T 3) (vA T 4) (vA T 5) (vA T 6) ++ (wS cI a ((o + 19) + 9) (vs T) (vA T 7) (vA T 8) (vA T 9) (vA T 10) (vA T 11) (vA T 12) qt2 qp2))))))) H locs := HW
  refine W.eq (g2 := F0 m 76 ls [.int (nI (bl (x >>> ((5 : Int32) &&& 31)) 3))]) rfl ?_
  refine g_top (y := (nI t)) (by rw [et]) ?_
  refine lv_istore (lv' := [(6, .int (nI t)), (5, .int (nI k)), (4, .int x), (3, .int (nI n)), (2, .int all), (1, .ref (a o)), (0, .ref sb)]) hx hb dL_law_76 hl (Nat.le_of_ble_eq_true rfl) rfl (fun ls hl => ?_)
  obtain ⟨pts, epts⟩ : ∃ z9 : Int32, z9 = vA S 11 k := ⟨_, rfl⟩
  have k812 := kk
  have j356 : ∀ (S : VS) (qt : Nat → Int32) (qp : Nat → Int32) (T : VS) (qt2 : Nat → Int32) (qp2 : Nat → Int32), (PI (skF xs L) all (n + 1) S) → (Rep (vs S) (vq S) qt qp) → (bl x 6 < 3 → vA S 11 k = pts) → ∀ (H : Heap) (locs : List Loc) (ls : Array Slot), Hw D A s (wXo cI a o  ++ (wVo cI a (o + 1) (vh S) (vc S) (vA S 0) (vA S 1) (vA S 2) ++ (wR cI a ((o + 1) + 4) (vr S) (vA S 3) (vA S 4) (vA S 5) (vA S 6) ++ (wS cI a ((o + 1) + 9) (vs S) (vA S 7) (vA S 8) (vA S 9) (vA S 10) (vA S 11) (vA S 12) qt qp ++ (wVo cI a (o + 19) (vh T) (vc T) (vA T 0) (vA T 1) (vA T 2) ++ (wR cI a ((o + 19) + 4) (vr T) (vA T 3) (vA T 4) (vA T 5) (vA T 6) ++ (wS cI a ((o + 19) + 9) (vs T) (vA T 7) (vA T 8) (vA T 9) (vA T 10) (vA T 11) (vA T 12) qt2 qp2))))))) H locs → lv_has ls 16 [(7, .int pts), (6, .int (nI t)), (5, .int (nI k)), (4, .int x), (3, .int (nI n)), (2, .int all), (1, .ref (a o)), (0, .ref sb)] → W p l e room_1 s m args below meth c H locs cells slots Q (F0 m 356 ls []) := by
    intro S qt qp T qt2 qp2 hP hR hpt H locs ls HW hl
    refine st_t1 CX hSX hc hs o S qt qp T qt2 qp2 all n x k t pts hL hk (by omega) hn hP hR HW hl (fun _ H locs ls HW hl => ?_)
    refine st_t2 CX hSX hc hs o S qt qp T qt2 qp2 all n x k t pts hL hk (by omega) hn hP hR hpt HW hl (fun _ H locs ls HW hl => ?_)
    refine st_t3 CX hSX hc hs o S qt qp T qt2 qp2 all n hn hP hR HW hl (fun _ H locs ls HW hl => ?_)
    refine st_t4 CX hSX hc hs o S qt qp T qt2 qp2 all n hn hP hR HW hl (fun _ H locs ls HW hl => ?_)
    exact kk S qt qp T qt2 qp2 hP hR _ _ _ HW hl
  refine lv_aload_n hx hb dL_law_78 rfl (lv_at hl 5 rfl) ?_
  refine lv_iload hx hb dL_law_79 (lv_at hl 1 rfl) ?_
  refine lv_iconst (v := 4) hx hb dL_law_81 (by decide) ?_
  refine g_callV CX HW hl.1 ([]) ([]) (c_X3_told o S qt qp T qt2 qp2 k 4 hP.inv hR (by rw [hP.s5]; exact hk) (by decide)) rfl 0 rfl rfl gL_law_X3_told rfl ⟨rfl, hd_X3_told⟩ ⟨rfl, rfl, (Nat.le_of_ble_eq_true rfl), (Nat.le_of_ble_eq_true rfl)⟩ ⟨hc, hs⟩ rfl rfl (Nat.le_of_ble_eq_true rfl) dL_law_82 (fun v w1 H locs hp HW => ?_)
  obtain ⟨rfl, rfl⟩ := hp
  have HW : Hw D A s (wXo cI a o  ++ (wVo cI a (o + 1) (vh S) (vc S) (vA S 0) (vA S 1) (vA S 2) ++ (wR cI a ((o + 1) + 4) (vr S) (vA S 3) (vA S 4) (vA S 5) (vA S 6) ++ (wS cI a ((o + 1) + 9) (vs S) (vA S 7) (vA S 8) (vA S 9) (vA S 10) (vA S 11) (vA S 12) qt qp ++ (wVo cI a (o + 19) (vh T) (vc T) (vA T 0) (vA T 1) (vA T 2) ++ (wR cI a ((o + 19) + 4) (vr T) (vA T 3) (vA T 4) (vA T 5) (vA T 6) ++ (wS cI a ((o + 19) + 9) (vs T) (vA T 7) (vA T 8) (vA T 9) (vA T 10) (vA T 11) (vA T 12) qt2 qp2))))))) H locs := HW
  refine W.eq (g2 := F0 m 85 ls [.int (figK S k 4)]) rfl ?_
  refine g_top (y := pts) epts.symm ?_
  refine lv_istore (lv' := [(7, .int pts), (6, .int (nI t)), (5, .int (nI k)), (4, .int x), (3, .int (nI n)), (2, .int all), (1, .ref (a o)), (0, .ref sb)]) hx hb dL_law_85 hl (Nat.le_of_ble_eq_true rfl) rfl (fun ls hl => ?_)
  refine lv_iload hx hb dL_law_87 (lv_at hl 3 rfl) ?_
  refine lv_bipush (v := 6) hx hb dL_law_89 (by decide) ?_
  obtain ⟨j, ej⟩ : ∃ z9 : Nat, z9 = bl x 6 := ⟨_, rfl⟩
  have hj6 : j < 6 := by rw [ej]; exact bl_lt _ (by decide)
  refine g_callS CX HW hl.1 ([]) (wXo cI a o  ++ (wVo cI a (o + 1) (vh S) (vc S) (vA S 0) (vA S 1) (vA S 2) ++ (wR cI a ((o + 1) + 4) (vr S) (vA S 3) (vA S 4) (vA S 5) (vA S 6) ++ (wS cI a ((o + 1) + 9) (vs S) (vA S 7) (vA S 8) (vA S 9) (vA S 10) (vA S 11) (vA S 12) qt qp ++ (wVo cI a (o + 19) (vh T) (vc T) (vA T 0) (vA T 1) (vA T 2) ++ (wR cI a ((o + 19) + 4) (vr T) (vA T 3) (vA T 4) (vA T 5) (vA T 6) ++ (wS cI a ((o + 19) + 9) (vs T) (vA T 7) (vA T 8) (vA T 9) (vA T 10) (vA T 11) (vA T 12) qt2 qp2))))))) (c_L_below x 6 (by decide) (by decide)) rfl gL_law_L_below rfl hd_L_below ⟨rfl, rfl, (Nat.le_of_ble_eq_true rfl), (Nat.le_of_ble_eq_true rfl)⟩ ⟨hc, hs⟩ rfl rfl (Nat.le_of_ble_eq_true rfl) dL_law_91 (fun v w1 H locs hp HW => ?_)
  obtain ⟨rfl, rfl⟩ := hp
  have HW : Hw D A s (wXo cI a o  ++ (wVo cI a (o + 1) (vh S) (vc S) (vA S 0) (vA S 1) (vA S 2) ++ (wR cI a ((o + 1) + 4) (vr S) (vA S 3) (vA S 4) (vA S 5) (vA S 6) ++ (wS cI a ((o + 1) + 9) (vs S) (vA S 7) (vA S 8) (vA S 9) (vA S 10) (vA S 11) (vA S 12) qt qp ++ (wVo cI a (o + 19) (vh T) (vc T) (vA T 0) (vA T 1) (vA T 2) ++ (wR cI a ((o + 19) + 4) (vr T) (vA T 3) (vA T 4) (vA T 5) (vA T 6) ++ (wS cI a ((o + 19) + 9) (vs T) (vA T 7) (vA T 8) (vA T 9) (vA T 10) (vA T 11) (vA T 12) qt2 qp2))))))) H locs := HW
  refine W.eq (g2 := F0 m 94 ls [.int (nI (bl x 6))]) rfl ?_
  refine g_top (y := (nI j)) (by rw [ej]) ?_
  rcases (by omega : j = 0 ∨ j = 1 ∨ j = 2 ∨ j = 3 ∨ j = 4 ∨ j = 5) with rfl | rfl | rfl | rfl | rfl | rfl
  · refine lv_tableIn (off := 26) (tgt := 120) hx hb dL_law_94 (by decide) (by decide) (by decide) (by decide) ?_
    exact st_c0 CX hSX hc hs o S qt qp T qt2 qp2 all n x k t pts hL hk (by omega) hn hP hR epts HW (lv_sub hl [0, 1, 2, 3, 4, 5, 6, 7] rfl) j356
  · refine lv_tableIn (off := 81) (tgt := 175) hx hb dL_law_94 (by decide) (by decide) (by decide) (by decide) ?_
    exact st_c1 CX hSX hc hs o S qt qp T qt2 qp2 all n x k t pts hL hk (by omega) hn hP hR epts HW (lv_sub hl [0, 1, 2, 3, 4, 5, 6, 7] rfl) j356
  · refine lv_tableIn (off := 110) (tgt := 204) hx hb dL_law_94 (by decide) (by decide) (by decide) (by decide) ?_
    exact st_c2 CX hSX hc hs o S qt qp T qt2 qp2 all n x k t pts hL hk (by omega) hn hP hR epts HW (lv_sub hl [0, 1, 2, 3, 4, 5, 6, 7] rfl) j356
  · refine lv_tableOut (tgt := 252) hx hb dL_law_94 (by decide) (by decide) ?_
    exact st_c3 CX hSX hc hs o S qt qp T qt2 qp2 all n x k t pts hL hk (by omega) hn hP hR (by omega) HW (lv_sub hl [0, 1, 2, 3, 4, 5, 6, 7] rfl) j356
  · refine lv_tableOut (tgt := 252) hx hb dL_law_94 (by decide) (by decide) ?_
    exact st_c3 CX hSX hc hs o S qt qp T qt2 qp2 all n x k t pts hL hk (by omega) hn hP hR (by omega) HW (lv_sub hl [0, 1, 2, 3, 4, 5, 6, 7] rfl) j356
  · refine lv_tableOut (tgt := 252) hx hb dL_law_94 (by decide) (by decide) ?_
    exact st_c3 CX hSX hc hs o S qt qp T qt2 qp2 all n x k t pts hL hk (by omega) hn hP hR (by omega) HW (lv_sub hl [0, 1, 2, 3, 4, 5, 6, 7] rfl) j356

set_option maxRecDepth 100000 in
set_option maxHeartbeats 4000000 in
theorem law_loop (CX : Cx p s m args meth c cL_law 16 (some .boolean) RL wsL_law D (ty2 cI cL) A) (hSX : SX A sb L xs s) (hc : cells ≤ room_1.cells) (hs : slots ≤ room_1.slots) (o : Nat) (S : VS) (qt : Nat → Int32) (qp : Nat → Int32) (T : VS) (qt2 : Nat → Int32) (qp2 : Nat → Int32) (all : Int32) (n : Nat) (hL : L ≤ 260) (hn : n ≤ 30) (hP : PI (skF xs L) all n S) (hR : Rep (vs S) (vq S) qt qp) (HW : Hw D A s (wXo cI a o  ++ (wVo cI a (o + 1) (vh S) (vc S) (vA S 0) (vA S 1) (vA S 2) ++ (wR cI a ((o + 1) + 4) (vr S) (vA S 3) (vA S 4) (vA S 5) (vA S 6) ++ (wS cI a ((o + 1) + 9) (vs S) (vA S 7) (vA S 8) (vA S 9) (vA S 10) (vA S 11) (vA S 12) qt qp ++ (wVo cI a (o + 19) (vh T) (vc T) (vA T 0) (vA T 1) (vA T 2) ++ (wR cI a ((o + 19) + 4) (vr T) (vA T 3) (vA T 4) (vA T 5) (vA T 6) ++ (wS cI a ((o + 19) + 9) (vs T) (vA T 7) (vA T 8) (vA T 9) (vA T 10) (vA T 11) (vA T 12) qt2 qp2))))))) H locs) (hl : lv_has ls 16 [(3, .int (nI n)), (2, .int all), (1, .ref (a o)), (0, .ref sb)]) (kk : ∀ (S : VS) (qt qp : Nat → Int32) (T : VS) (qt2 qp2 : Nat → Int32) (H : Heap) (locs : List Loc) (ls : Array Slot), Hw D A s (wXo cI a o  ++ (wVo cI a (o + 1) (vh S) (vc S) (vA S 0) (vA S 1) (vA S 2) ++ (wR cI a ((o + 1) + 4) (vr S) (vA S 3) (vA S 4) (vA S 5) (vA S 6) ++ (wS cI a ((o + 1) + 9) (vs S) (vA S 7) (vA S 8) (vA S 9) (vA S 10) (vA S 11) (vA S 12) qt qp ++ (wVo cI a (o + 19) (vh T) (vc T) (vA T 0) (vA T 1) (vA T 2) ++ (wR cI a ((o + 19) + 4) (vr T) (vA T 3) (vA T 4) (vA T 5) (vA T 6) ++ (wS cI a ((o + 19) + 9) (vs T) (vA T 7) (vA T 8) (vA T 9) (vA T 10) (vA T 11) (vA T 12) qt2 qp2))))))) H locs → lv_has ls 16 [(2, .int all), (1, .ref (a o)), (0, .ref sb)] → W p l e room_1 s m args below meth c H locs cells slots Q (F0 m 818 ls [])) : W p l e room_1 s m args below meth c H locs cells slots Q (F0 m 35 ls []) := by
  obtain ⟨hx, hb, hml, hr, hown, hts, hK, hA, hlk⟩ := id CX
  have l35 : ∀ (d35 : Nat) (n : Nat) (S : VS) (qt : Nat → Int32) (qp : Nat → Int32) (T : VS) (qt2 : Nat → Int32) (qp2 : Nat → Int32), 30 - n = d35 → (n ≤ 30) → (PI (skF xs L) all n S) → (Rep (vs S) (vq S) qt qp) → ∀ (H : Heap) (locs : List Loc) (ls : Array Slot), Hw D A s (wXo cI a o  ++ (wVo cI a (o + 1) (vh S) (vc S) (vA S 0) (vA S 1) (vA S 2) ++ (wR cI a ((o + 1) + 4) (vr S) (vA S 3) (vA S 4) (vA S 5) (vA S 6) ++ (wS cI a ((o + 1) + 9) (vs S) (vA S 7) (vA S 8) (vA S 9) (vA S 10) (vA S 11) (vA S 12) qt qp ++ (wVo cI a (o + 19) (vh T) (vc T) (vA T 0) (vA T 1) (vA T 2) ++ (wR cI a ((o + 19) + 4) (vr T) (vA T 3) (vA T 4) (vA T 5) (vA T 6) ++ (wS cI a ((o + 19) + 9) (vs T) (vA T 7) (vA T 8) (vA T 9) (vA T 10) (vA T 11) (vA T 12) qt2 qp2))))))) H locs → lv_has ls 16 [(3, .int (nI n)), (2, .int all), (1, .ref (a o)), (0, .ref sb)] → W p l e room_1 s m args below meth c H locs cells slots Q (F0 m 35 ls []) := by
    intro d35
    induction d35 using Nat.strongRecOn with
    | _ d35 ih35 =>
      intro n S qt qp T qt2 qp2 hd35 hn hP hR H locs ls HW hl
      refine lv_iload_n hx hb dL_law_35 rfl (lv_at hl 0 rfl) ?_
      refine lv_bipush (v := 30) hx hb dL_law_36 (by decide) ?_
      refine lv_icmp_ge (tgt := 818) hx hb dL_law_38 (by decide) (fun c38 => ?_) (fun c38 => ?_)
      · have c38 := (nI_leI (a := 30) (b := n) (by decide) (by omega)).mp c38
        exact kk S qt qp T qt2 qp2  _ _ _ HW (lv_sub hl [1, 2, 3] rfl)
      · have c38 : n < 30 := nI_lt_of (a := 30) (b := n) (by decide) (by omega) c38
        refine st_body CX hSX hc hs o S qt qp T qt2 qp2 all n hL c38 hP hR HW (lv_sub hl [0, 1, 2, 3] rfl) (fun S qt qp T qt2 qp2 hP hR H locs ls HW hl => ?_)
        refine lv_iinc (v := (nI (n + 1))) (lv' := [(3, .int (nI (n + 1))), (2, .int all), (1, .ref (a o)), (0, .ref sb)]) hx hb dL_law_812 hl (k := 0) rfl (inc1 _) (Nat.le_of_ble_eq_true rfl) rfl (fun ls hl => ?_)
        refine lv_goto (tgt := 35) hx hb dL_law_815 (by decide) ?_
        exact ih35 _ (by omega) (n + 1) S qt qp T qt2 qp2 rfl (by omega) hP hR _ _ _ HW (lv_sub hl [0, 1, 2, 3] rfl)
  exact l35 _ n S qt qp T qt2 qp2 rfl hn hP hR _ _ _ HW (lv_sub hl [0, 1, 2, 3] rfl)

set_option maxRecDepth 100000 in
set_option maxHeartbeats 4000000 in
theorem st_pre (CX : Cx p s m args meth c cL_law 16 (some .boolean) RL wsL_law D (ty2 cI cL) A) (hSX : SX A sb L xs s) (hc : cells ≤ room_1.cells) (hs : slots ≤ room_1.slots) (o : Nat) (S : VS) (qt : Nat → Int32) (qp : Nat → Int32) (T : VS) (qt2 : Nat → Int32) (qp2 : Nat → Int32) (hV : VI (skF xs L) 4 5 S) (hR : Rep (vs S) (vq S) qt qp) (HW : Hw D A s (wXo cI a o  ++ (wVo cI a (o + 1) (vh S) (vc S) (vA S 0) (vA S 1) (vA S 2) ++ (wR cI a ((o + 1) + 4) (vr S) (vA S 3) (vA S 4) (vA S 5) (vA S 6) ++ (wS cI a ((o + 1) + 9) (vs S) (vA S 7) (vA S 8) (vA S 9) (vA S 10) (vA S 11) (vA S 12) qt qp ++ (wVo cI a (o + 19) (vh T) (vc T) (vA T 0) (vA T 1) (vA T 2) ++ (wR cI a ((o + 19) + 4) (vr T) (vA T 3) (vA T 4) (vA T 5) (vA T 6) ++ (wS cI a ((o + 19) + 9) (vs T) (vA T 7) (vA T 8) (vA T 9) (vA T 10) (vA T 11) (vA T 12) qt2 qp2))))))) H locs) (hl : lv_has ls 16 [(1, .ref (a o)), (0, .ref sb)]) (kk : ∀ (_u : Unit), ∀ (H : Heap) (locs : List Loc) (ls : Array Slot), Hw D A s (wXo cI a o  ++ (wVo cI a (o + 1) (vh S) (vc S) (vA S 0) (vA S 1) (vA S 2) ++ (wR cI a ((o + 1) + 4) (vr S) (vA S 3) (vA S 4) (vA S 5) (vA S 6) ++ (wS cI a ((o + 1) + 9) (vs S) (vA S 7) (vA S 8) (vA S 9) (vA S 10) (vA S 11) (vA S 12) qt qp ++ (wVo cI a (o + 19) (vh T) (vc T) (vA T 0) (vA T 1) (vA T 2) ++ (wR cI a ((o + 19) + 4) (vr T) (vA T 3) (vA T 4) (vA T 5) (vA T 6) ++ (wS cI a ((o + 19) + 9) (vs T) (vA T 7) (vA T 8) (vA T 9) (vA T 10) (vA T 11) (vA T 12) qt2 qp2))))))) H locs → lv_has ls 16 [(3, .int (nI 0)), (2, .int (vc S + sumN (vA S 8) 5)), (1, .ref (a o)), (0, .ref sb)] → W p l e room_1 s m args below meth c H locs cells slots Q (F0 m 35 ls [])) : W p l e room_1 s m args below meth c H locs cells slots Q (F0 m 5 ls []) := by
  obtain ⟨hx, hb, hml, hr, hown, hts, hK, hA, hlk⟩ := id CX
  have hh : vh S + 100 < 2 ^ 31 := by rw [hV.2.2.2.1]; decide
  have hv5 : vs S = 5 := hV.2.2.1
  have l13 : ∀ (d0 : Nat) (i : Nat), 5 - i = d0 → (i ≤ 5) → ∀ (H : Heap) (locs : List Loc) (ls : Array Slot), Hw D A s (wXo cI a o  ++ (wVo cI a (o + 1) (vh S) (vc S) (vA S 0) (vA S 1) (vA S 2) ++ (wR cI a ((o + 1) + 4) (vr S) (vA S 3) (vA S 4) (vA S 5) (vA S 6) ++ (wS cI a ((o + 1) + 9) (vs S) (vA S 7) (vA S 8) (vA S 9) (vA S 10) (vA S 11) (vA S 12) qt qp ++ (wVo cI a (o + 19) (vh T) (vc T) (vA T 0) (vA T 1) (vA T 2) ++ (wR cI a ((o + 19) + 4) (vr T) (vA T 3) (vA T 4) (vA T 5) (vA T 6) ++ (wS cI a ((o + 19) + 9) (vs T) (vA T 7) (vA T 8) (vA T 9) (vA T 10) (vA T 11) (vA T 12) qt2 qp2))))))) H locs → lv_has ls 16 [(3, .int (nI i)), (2, .int (vc S + sumN (vA S 8) i)), (1, .ref (a o)), (0, .ref sb)] → W p l e room_1 s m args below meth c H locs cells slots Q (F0 m 13 ls []) := by
    intro d0
    induction d0 using Nat.strongRecOn with
    | _ d0 ih =>
      intro i hd0 hi H locs ls HW hl
      refine lv_iload_n hx hb dL_law_13 rfl (lv_at hl 0 rfl) ?_
      refine lv_iconst (v := 5) hx hb dL_law_14 (by decide) ?_
      refine lv_icmp_ge (tgt := 33) hx hb dL_law_15 (by decide) (fun c15 => ?_) (fun c15 => ?_)
      · have c15 := (nI_leI (a := 5) (b := i) (by decide) (by omega)).mp c15
        obtain rfl : i = 5 := by omega
        refine lv_iconst (v := 0) hx hb dL_law_33 (by decide) ?_
        refine lv_istore_n (lv' := [(3, .int (0 : Int32)), (2, .int (vc S + sumN (vA S 8) 5)), (1, .ref (a o)), (0, .ref sb)]) hx hb dL_law_34 rfl hl (Nat.le_of_ble_eq_true rfl) rfl (fun ls hl => ?_)
        exact kk ()  _ _ _ HW (lv_sub hl [0, 1, 2, 3] rfl)
      · have c15 : i < 5 := nI_lt_of (a := 5) (b := i) (by decide) (by omega) c15
        refine lv_iload_n hx hb dL_law_18 rfl (lv_at hl 1 rfl) ?_
        refine lv_aload_n hx hb dL_law_19 rfl (lv_at hl 2 rfl) ?_
        refine lv_iload_n hx hb dL_law_20 rfl (lv_at hl 0 rfl) ?_
        refine lv_iconst (v := 1) hx hb dL_law_21 (by decide) ?_
        refine g_callV CX HW hl.1 ([]) ([]) (c_X3_told o S qt qp T qt2 qp2 i 1 hV.1 hR (by omega) (by decide)) rfl 0 rfl rfl gL_law_X3_told rfl ⟨rfl, hd_X3_told⟩ ⟨rfl, rfl, (Nat.le_of_ble_eq_true rfl), (Nat.le_of_ble_eq_true rfl)⟩ ⟨hc, hs⟩ rfl rfl (Nat.le_of_ble_eq_true rfl) dL_law_22 (fun v w1 H locs hp HW => ?_)
        obtain ⟨rfl, rfl⟩ := hp
        have HW : Hw D A s (wXo cI a o  ++ (wVo cI a (o + 1) (vh S) (vc S) (vA S 0) (vA S 1) (vA S 2) ++ (wR cI a ((o + 1) + 4) (vr S) (vA S 3) (vA S 4) (vA S 5) (vA S 6) ++ (wS cI a ((o + 1) + 9) (vs S) (vA S 7) (vA S 8) (vA S 9) (vA S 10) (vA S 11) (vA S 12) qt qp ++ (wVo cI a (o + 19) (vh T) (vc T) (vA T 0) (vA T 1) (vA T 2) ++ (wR cI a ((o + 19) + 4) (vr T) (vA T 3) (vA T 4) (vA T 5) (vA T 6) ++ (wS cI a ((o + 19) + 9) (vs T) (vA T 7) (vA T 8) (vA T 9) (vA T 10) (vA T 11) (vA T 12) qt2 qp2))))))) H locs := HW
        refine W.eq (g2 := F0 m 25 ls [.int (figK S i 1), .int (vc S + sumN (vA S 8) i)]) rfl ?_
        refine lv_iadd hx hb dL_law_25 ?_
        refine g_top (y := (vc S + sumN (vA S 8) (i + 1))) (Int32.add_assoc _ _ _) ?_
        refine lv_istore_n (lv' := [(2, .int (vc S + sumN (vA S 8) (i + 1))), (3, .int (nI i)), (1, .ref (a o)), (0, .ref sb)]) hx hb dL_law_26 rfl hl (Nat.le_of_ble_eq_true rfl) rfl (fun ls hl => ?_)
        refine lv_iinc (v := (nI (i + 1))) (lv' := [(3, .int (nI (i + 1))), (2, .int (vc S + sumN (vA S 8) (i + 1))), (1, .ref (a o)), (0, .ref sb)]) hx hb dL_law_27 hl (k := 1) rfl (inc1 _) (Nat.le_of_ble_eq_true rfl) rfl (fun ls hl => ?_)
        refine lv_goto (tgt := 13) hx hb dL_law_30 (by decide) ?_
        exact ih _ (by omega) (i + 1) rfl (by omega) _ _ _ HW (lv_sub hl [0, 1, 2, 3] rfl)
  refine lv_aload_n hx hb dL_law_5 rfl (lv_at hl 0 rfl) ?_
  refine lv_iconst (v := 2) hx hb dL_law_6 (by decide) ?_
  refine g_callV CX HW hl.1 ([]) ([]) (c_X3_count o S qt qp T qt2 qp2 2 hV.1 hR hh (by decide)) rfl 0 rfl rfl gL_law_X3_count rfl ⟨rfl, hd_X3_count⟩ ⟨rfl, rfl, (Nat.le_of_ble_eq_true rfl), (Nat.le_of_ble_eq_true rfl)⟩ ⟨hc, hs⟩ rfl rfl (Nat.le_of_ble_eq_true rfl) dL_law_7 (fun v w1 H locs hp HW => ?_)
  obtain ⟨rfl, rfl⟩ := hp
  have HW : Hw D A s (wXo cI a o  ++ (wVo cI a (o + 1) (vh S) (vc S) (vA S 0) (vA S 1) (vA S 2) ++ (wR cI a ((o + 1) + 4) (vr S) (vA S 3) (vA S 4) (vA S 5) (vA S 6) ++ (wS cI a ((o + 1) + 9) (vs S) (vA S 7) (vA S 8) (vA S 9) (vA S 10) (vA S 11) (vA S 12) qt qp ++ (wVo cI a (o + 19) (vh T) (vc T) (vA T 0) (vA T 1) (vA T 2) ++ (wR cI a ((o + 19) + 4) (vr T) (vA T 3) (vA T 4) (vA T 5) (vA T 6) ++ (wS cI a ((o + 19) + 9) (vs T) (vA T 7) (vA T 8) (vA T 9) (vA T 10) (vA T 11) (vA T 12) qt2 qp2))))))) H locs := HW
  refine W.eq (g2 := F0 m 10 ls [.int (figV S 2)]) rfl ?_
  refine g_top (y := (vc S + sumN (vA S 8) 0)) (Int32.add_zero _).symm ?_
  refine lv_istore_n (lv' := [(2, .int (vc S + sumN (vA S 8) 0)), (1, .ref (a o)), (0, .ref sb)]) hx hb dL_law_10 rfl hl (Nat.le_of_ble_eq_true rfl) rfl (fun ls hl => ?_)
  refine lv_iconst (v := 0) hx hb dL_law_11 (by decide) ?_
  refine lv_istore_n (lv' := [(3, .int (0 : Int32)), (2, .int (vc S + sumN (vA S 8) 0)), (1, .ref (a o)), (0, .ref sb)]) hx hb dL_law_12 rfl hl (Nat.le_of_ble_eq_true rfl) rfl (fun ls hl => ?_)
  exact l13 _ 0 rfl (by omega) _ _ _ HW (lv_sub hl [0, 1, 2, 3] rfl)

end LAW3
