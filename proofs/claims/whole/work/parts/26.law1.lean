section GD
variable {p : Program} {l : Launch} {e : Env} {R : Room} {s : State} {m : MethodId} {args : Array Value} {below : List Frame} {meth : Method} {c : Code} {H : Heap} {locs : List Loc} {cells slots : Nat} {Q : State → Prop}
variable {cc : ByteArray} {pc nL : Nat} {ls : Array Slot} {rest : List Value} {ret : Option FieldType} {own : String} {Ts : List Cond} {D : va_G} {A : Nat → Prop} {a : Nat} {tys : List (ClassId × FieldType)} {w : va_W}
theorem g_lld (CX : Cx p s m args meth c cc nL ret own Ts D tys A) (HW : Hw D A s w H locs) (q0 : Nat) {cA : ClassId} {n k : Nat} {f : Nat → Int64} (ha : w[q0]? = some (a, .inl (cA, n, .inr (.inl f)))) (ht : tys[1]? = some (cA, .long)) {x : Int32} (hx0 : x = nI k) (hk : k < n) (hn : n < 2 ^ 31) (hdg : decode cc pc = .ok (.laload, 1))
    (kk : W p l e R s m args below meth c H locs cells slots Q (F0 m (pc + 1) ls (.long (f k) :: rest))) : W p l e R s m args below meth c H locs cells slots Q (F0 m pc ls (.int x :: .ref a :: rest)) := by
  subst hx0
  obtain ⟨hx, hb, hml, hr, hown, hts, hK, hA, hlk⟩ := CX
  refine va_lald hx hb hK.1 HW.1 q0 1 ha ht (vp_in_nI hk hn) hdg ?_
  rw [nI_clamp (by omega)]
  exact kk
/-- a read of the script -/
theorem g_sld (CX : Cx p s m args meth c cc nL ret own Ts D tys A) (HW : Hw D A s w H locs) {sb L : Nat} {xs : Nat → Int32} (hX : va_X sb L xs s s.heap) (hsb : sb < s.heap.size) (hsA : ¬ A sb) {k : Nat} (hk : k < L) (hL : L < 2 ^ 31) (hdg : decode cc pc = .ok (.iaload, 1))
    (kk : W p l e R s m args below meth c H locs cells slots Q (F0 m (pc + 1) ls (.int (xs k) :: rest))) : W p l e R s m args below meth c H locs cells slots Q (F0 m pc ls (.int (nI k) :: .ref sb :: rest)) := by
  refine va_sld CX.1 CX.2.1 hX hsb hsA HW.2.2 (vp_in_nI hk hL) hdg ?_
  rw [nI_clamp (by omega)]
  exact kk
end GD
/-- the law's world: the class, the answer's cell, the model -/
def LR (D : va_G) (cI cL : ClassId) (A : Nat → Prop) (s : State) (a1 a2 : Nat → Nat) (b : Nat) (Z : VS) (H : Heap) (locs : List Loc) : Prop :=
  ∃ (qt qp : Nat → Int32) (T : VS) (qt2 qp2 : Nat → Int32) (f : Nat → Int64) (th : Int32) (my qu : Nat → Int32) (T2 : VS) (ri2 : Int32) (my2 qu2 : Nat → Int32), Rep (vs Z) (vq Z) qt qp ∧ RepM (vq Z) my qu ∧ Hw D A s (((wXo cI a1 0  ++ (wVo cI a1 (0 + 1) (vh Z) (vc Z) (vA Z 0) (vA Z 1) (vA Z 2) ++ (wR cI a1 ((0 + 1) + 4) (vr Z) (vA Z 3) (vA Z 4) (vA Z 5) (vA Z 6) ++ (wS cI a1 ((0 + 1) + 9) (vs Z) (vA Z 7) (vA Z 8) (vA Z 9) (vA Z 10) (vA Z 11) (vA Z 12) qt qp ++ (wVo cI a1 (0 + 19) (vh T) (vc T) (vA T 0) (vA T 1) (vA T 2) ++ (wR cI a1 ((0 + 19) + 4) (vr T) (vA T 3) (vA T 4) (vA T 5) (vA T 6) ++ (wS cI a1 ((0 + 19) + 9) (vs T) (vA T 7) (vA T 8) (vA T 9) (vA T 10) (vA T 11) (vA T 12) qt2 qp2))))))) ++ [(b, .inl (cL, 1, .inr (.inl f)))]) ++ (wMo cI a2 0 th (vA Z 0) (vA Z 1) (vr Z) (vA Z 3) (vA Z 4) (vs Z) (vA Z 7) ++ (wMS cI a2 (0 + 6) (a2 0) (vh Z) (vc Z) (sumP Z) (vA Z 5) (vA Z 6) (vA Z 8) (vA Z 9) (vA Z 10) (vA Z 11) (vA Z 12) (vA Z 2) my qu ++ (wMS cI a2 (0 + 17) (a2 0) (vh T2) (vc T2) ri2 (vA T2 5) (vA T2 6) (vA T2 8) (vA T2 9) (vA T2 10) (vA T2 11) (vA T2 12) (vA T2 2) my2 qu2)))) H locs
section LAW
variable {p : Program} {l : Launch} {e : Env} {s : State} {m : MethodId} {args : Array Value} {below : List Frame} {meth : Method} {c : Code} {H : Heap} {locs : List Loc} {cells slots : Nat} {Q : State → Prop} {ls : Array Slot} {D : va_G} {A : Nat → Prop} {cI cL : ClassId} {a1 a2 : Nat → Nat} {b sb L n : Nat} {xs : Nat → Int32} {Z : VS}
set_option maxRecDepth 100000 in
set_option maxHeartbeats 4000000 in
theorem st_run (hst : l.stackTraces = false) (CX : Cx p s m args meth c cL_law 9 ret RL wsL_law D (ty2 cI cL) A) (hZ : Zs A s s.heap) (hX : va_X sb L xs s s.heap) (hsb : sb < s.heap.size) (hsA : ¬ A sb) (hL : L ≤ 1536) (hn : 3 * n + 3 ≤ L) (hI : LI Z) (hv : vh Z ≤ 60 * n) (HL : LR D cI cL A s a1 a2 b Z H locs) (hl : lv_has ls 9 [(4, .int (nI (3 * n))), (3, .ref b), (2, .ref (a2 0)), (1, .ref (a1 0)), (0, .ref sb)]) (hc : cells + 1 ≤ 1128) (hs : slots + 6 ≤ 8896)
    (kk : ∀ (Z1 : VS) (H1 : Heap) (locs1 : List Loc) (ls1 : Array Slot), LI Z1 → vh Z1 ≤ 60 * (n + 1) → LR D cI cL A s a1 a2 b Z1 H1 locs1 → lv_has ls1 9 [(4, .int (nI (3 * n))), (3, .ref b), (2, .ref (a2 0)), (1, .ref (a1 0)), (0, .ref sb)] → W p l e room_1 s m args below meth c H1 locs1 (cells + 1) (slots + 6) Q (F0 m 1418 ls1 [])) : W p l e room_1 s m args below meth c H locs cells slots Q (F0 m 136 ls []) := by
  obtain ⟨qt, qp, T, qt2, qp2, f, th, my, qu, T2, ri2, my2, qu2, hR, hM, HW⟩ := HL
  obtain ⟨hx, hb, hml, hr, hown, hts, hK, hA, hlk⟩ := id CX
  have hh : vh Z + 100 < 2 ^ 31 := by omega
  have hU : QU (vq Z) := rep_qu hR hI.1.2.1
  have hQ : Qk (vs Z) (vq Z) := rep_qok hR
  have hjq := take_lt hR hI.1.2.1
  refine lv_aload_n hx hb dL_law_136 rfl (lv_at hl 3 rfl) ?_
  refine lv_aload_n hx hb dL_law_137 rfl (lv_at hl 4 rfl) ?_
  refine lv_iload hx hb dL_law_138 (lv_at hl 0 rfl) ?_
  refine lv_iconst (v := 1) hx hb dL_law_140 (by decide) ?_
  refine lv_iadd hx hb dL_law_141 ?_
  refine g_top (y := (nI (3 * n + 1))) (nI_add _ _) ?_
  refine g_sld CX HW hX hsb hsA (k := 3 * n + 1) (by omega) (by omega) dL_law_142 ?_
  refine lv_aload_n hx hb dL_law_143 rfl (lv_at hl 4 rfl) ?_
  refine lv_iload hx hb dL_law_144 (lv_at hl 0 rfl) ?_
  refine lv_iconst (v := 2) hx hb dL_law_146 (by decide) ?_
  refine lv_iadd hx hb dL_law_147 ?_
  refine g_top (y := (nI (3 * n + 2))) (nI_add _ _) ?_
  refine g_sld CX HW hX hsb hsA (k := 3 * n + 2) (by omega) (by omega) dL_law_148 ?_
  refine lv_aload_n hx hb dL_law_149 rfl (lv_at hl 1 rfl) ?_
  refine gx_callSX (rest := []) CX hZ HW hl.1 [] (wMo cI a2 0 th (vA Z 0) (vA Z 1) (vr Z) (vA Z 3) (vA Z 4) (vs Z) (vA Z 7) ++ (wMS cI a2 (0 + 6) (a2 0) (vh Z) (vc Z) (sumP Z) (vA Z 5) (vA Z 6) (vA Z 8) (vA Z 9) (vA Z 10) (vA Z 11) (vA Z 12) (vA Z 2) my qu ++ (wMS cI a2 (0 + 17) (a2 0) (vh T2) (vc T2) ri2 (vA T2 5) (vA T2 6) (vA T2 8) (vA T2 9) (vA T2 10) (vA T2 11) (vA T2 12) (vA T2 2) my2 qu2))) (c_L_run 0 Z qt qp T qt2 qp2 (xs (3 * n + 1)) (xs (3 * n + 2)) b f hst hI.1 hR hh) rfl gL_law_L_run rfl hd_L_run ⟨rfl, rfl, (Nat.le_of_ble_eq_true rfl), (Nat.le_of_ble_eq_true rfl)⟩ ⟨hc, hs⟩ rfl rfl (Nat.le_of_ble_eq_true rfl) dL_law_150 (fun E ce q9 w1 H locs hp HW hce hcv hcl => hp.elim) (fun v w1 H locs hp HW => ?_)
  obtain ⟨Z1, r1, f1, qt1, qp1, T1, qt21, qp21, hm1, hf1, hR1, rfl, rfl⟩ := hp
  have HW : Hw D A s (((wXo cI a1 0  ++ (wVo cI a1 (0 + 1) (vh Z1) (vc Z1) (vA Z1 0) (vA Z1 1) (vA Z1 2) ++ (wR cI a1 ((0 + 1) + 4) (vr Z1) (vA Z1 3) (vA Z1 4) (vA Z1 5) (vA Z1 6) ++ (wS cI a1 ((0 + 1) + 9) (vs Z1) (vA Z1 7) (vA Z1 8) (vA Z1 9) (vA Z1 10) (vA Z1 11) (vA Z1 12) qt1 qp1 ++ (wVo cI a1 (0 + 19) (vh T1) (vc T1) (vA T1 0) (vA T1 1) (vA T1 2) ++ (wR cI a1 ((0 + 19) + 4) (vr T1) (vA T1 3) (vA T1 4) (vA T1 5) (vA T1 6) ++ (wS cI a1 ((0 + 19) + 9) (vs T1) (vA T1 7) (vA T1 8) (vA T1 9) (vA T1 10) (vA T1 11) (vA T1 12) qt21 qp21))))))) ++ [(b, .inl (cL, 1, .inr (.inl f1)))]) ++ (wMo cI a2 0 th (vA Z 0) (vA Z 1) (vr Z) (vA Z 3) (vA Z 4) (vs Z) (vA Z 7) ++ (wMS cI a2 (0 + 6) (a2 0) (vh Z) (vc Z) (sumP Z) (vA Z 5) (vA Z 6) (vA Z 8) (vA Z 9) (vA Z 10) (vA Z 11) (vA Z 12) (vA Z 2) my qu ++ (wMS cI a2 (0 + 17) (a2 0) (vh T2) (vc T2) ri2 (vA T2 5) (vA T2 6) (vA T2 8) (vA T2 9) (vA T2 10) (vA T2 11) (vA T2 12) (vA T2 2) my2 qu2)))) H locs := HW
  refine W.eq (g2 := F0 m 153 ls [.int (kRun Z (xs (3 * n + 1)) (xs (3 * n + 2)))]) rfl ?_
  refine lv_istore (lv' := [(5, .int (kRun Z (xs (3 * n + 1)) (xs (3 * n + 2)))), (4, .int (nI (3 * n))), (3, .ref b), (2, .ref (a2 0)), (1, .ref (a1 0)), (0, .ref sb)]) hx hb dL_law_153 hl (Nat.le_of_ble_eq_true rfl) rfl (fun ls hl => ?_)
  refine lv_aload_n hx hb dL_law_155 rfl (lv_at hl 3 rfl) ?_
  refine lv_aload_n hx hb dL_law_156 rfl (lv_at hl 5 rfl) ?_
  refine lv_iload hx hb dL_law_157 (lv_at hl 1 rfl) ?_
  refine lv_iconst (v := 1) hx hb dL_law_159 (by decide) ?_
  refine lv_iadd hx hb dL_law_160 ?_
  refine g_top (y := (nI (3 * n + 1))) (nI_add _ _) ?_
  refine g_sld CX HW hX hsb hsA (k := 3 * n + 1) (by omega) (by omega) dL_law_161 ?_
  refine lv_aload_n hx hb dL_law_162 rfl (lv_at hl 5 rfl) ?_
  refine lv_iload hx hb dL_law_163 (lv_at hl 1 rfl) ?_
  refine lv_iconst (v := 2) hx hb dL_law_165 (by decide) ?_
  refine lv_iadd hx hb dL_law_166 ?_
  refine g_top (y := (nI (3 * n + 2))) (nI_add _ _) ?_
  refine g_sld CX HW hX hsb hsA (k := 3 * n + 2) (by omega) (by omega) dL_law_167 ?_
  refine g_callV (rest := []) CX HW hl.1 ((wXo cI a1 0  ++ (wVo cI a1 (0 + 1) (vh Z1) (vc Z1) (vA Z1 0) (vA Z1 1) (vA Z1 2) ++ (wR cI a1 ((0 + 1) + 4) (vr Z1) (vA Z1 3) (vA Z1 4) (vA Z1 5) (vA Z1 6) ++ (wS cI a1 ((0 + 1) + 9) (vs Z1) (vA Z1 7) (vA Z1 8) (vA Z1 9) (vA Z1 10) (vA Z1 11) (vA Z1 12) qt1 qp1 ++ (wVo cI a1 (0 + 19) (vh T1) (vc T1) (vA T1 0) (vA T1 1) (vA T1 2) ++ (wR cI a1 ((0 + 19) + 4) (vr T1) (vA T1 3) (vA T1 4) (vA T1 5) (vA T1 6) ++ (wS cI a1 ((0 + 19) + 9) (vs T1) (vA T1 7) (vA T1 8) (vA T1 9) (vA T1 10) (vA T1 11) (vA T1 12) qt21 qp21))))))) ++ [(b, .inl (cL, 1, .inr (.inl f1)))]) [] (c_X5_run 0 Z th my qu T2 ri2 my2 qu2 (xs (3 * n + 1)) (xs (3 * n + 2)) hI.1 hM hQ hU hh) rfl 0 rfl rfl gL_law_X5_run rfl ⟨rfl, hd_X5_run⟩ ⟨rfl, rfl, (Nat.le_of_ble_eq_true rfl), (Nat.le_of_ble_eq_true rfl)⟩ ⟨hc, hs⟩ rfl rfl (Nat.le_of_ble_eq_true rfl) dL_law_168 (fun v w1 H locs hp HW => ?_)
  obtain ⟨Z2, r2, my1, qu1, T3, ri3, my3, qu3, hm2, hM1, rfl, rfl⟩ := hp
  have HW : Hw D A s (((wXo cI a1 0  ++ (wVo cI a1 (0 + 1) (vh Z1) (vc Z1) (vA Z1 0) (vA Z1 1) (vA Z1 2) ++ (wR cI a1 ((0 + 1) + 4) (vr Z1) (vA Z1 3) (vA Z1 4) (vA Z1 5) (vA Z1 6) ++ (wS cI a1 ((0 + 1) + 9) (vs Z1) (vA Z1 7) (vA Z1 8) (vA Z1 9) (vA Z1 10) (vA Z1 11) (vA Z1 12) qt1 qp1 ++ (wVo cI a1 (0 + 19) (vh T1) (vc T1) (vA T1 0) (vA T1 1) (vA T1 2) ++ (wR cI a1 ((0 + 19) + 4) (vr T1) (vA T1 3) (vA T1 4) (vA T1 5) (vA T1 6) ++ (wS cI a1 ((0 + 19) + 9) (vs T1) (vA T1 7) (vA T1 8) (vA T1 9) (vA T1 10) (vA T1 11) (vA T1 12) qt21 qp21))))))) ++ [(b, .inl (cL, 1, .inr (.inl f1)))]) ++ (wMo cI a2 0 (kRun Z (xs (3 * n + 1)) (xs (3 * n + 2))) (vA Z2 0) (vA Z2 1) (vr Z2) (vA Z2 3) (vA Z2 4) (vs Z2) (vA Z2 7) ++ (wMS cI a2 (0 + 6) (a2 0) (vh Z2) (vc Z2) (sumP Z2) (vA Z2 5) (vA Z2 6) (vA Z2 8) (vA Z2 9) (vA Z2 10) (vA Z2 11) (vA Z2 12) (vA Z2 2) my1 qu1 ++ (wMS cI a2 (0 + 17) (a2 0) (vh T3) (vc T3) ri3 (vA T3 5) (vA T3 6) (vA T3 8) (vA T3 9) (vA T3 10) (vA T3 11) (vA T3 12) (vA T3 2) my3 qu3)))) H locs := HW
  obtain ⟨heq, hreq⟩ := mok_eq hm1 hm2
  rw [heq] at HW hM1
  have HW : Hw D A s (((wXo cI a1 0  ++ (wVo cI a1 (0 + 1) (vh Z1) (vc Z1) (vA Z1 0) (vA Z1 1) (vA Z1 2) ++ (wR cI a1 ((0 + 1) + 4) (vr Z1) (vA Z1 3) (vA Z1 4) (vA Z1 5) (vA Z1 6) ++ (wS cI a1 ((0 + 1) + 9) (vs Z1) (vA Z1 7) (vA Z1 8) (vA Z1 9) (vA Z1 10) (vA Z1 11) (vA Z1 12) qt1 qp1 ++ (wVo cI a1 (0 + 19) (vh T1) (vc T1) (vA T1 0) (vA T1 1) (vA T1 2) ++ (wR cI a1 ((0 + 19) + 4) (vr T1) (vA T1 3) (vA T1 4) (vA T1 5) (vA T1 6) ++ (wS cI a1 ((0 + 19) + 9) (vs T1) (vA T1 7) (vA T1 8) (vA T1 9) (vA T1 10) (vA T1 11) (vA T1 12) qt21 qp21))))))) ++ [(b, .inl (cL, 1, .inr (.inl f1)))]) ++ (wMo cI a2 0 (kRun Z (xs (3 * n + 1)) (xs (3 * n + 2))) (vA Z1 0) (vA Z1 1) (vr Z1) (vA Z1 3) (vA Z1 4) (vs Z1) (vA Z1 7) ++ (wMS cI a2 (0 + 6) (a2 0) (vh Z1) (vc Z1) (sumP Z1) (vA Z1 5) (vA Z1 6) (vA Z1 8) (vA Z1 9) (vA Z1 10) (vA Z1 11) (vA Z1 12) (vA Z1 2) my1 qu1 ++ (wMS cI a2 (0 + 17) (a2 0) (vh T3) (vc T3) ri3 (vA T3 5) (vA T3 6) (vA T3 8) (vA T3 9) (vA T3 10) (vA T3 11) (vA T3 12) (vA T3 2) my3 qu3)))) H locs := HW
  have hZ1 := mok_li hm1 hI (li_sRun hI)
  refine W.eq (g2 := F0 m 171 ls [.int r2]) rfl ?_
  refine lv_istore (lv' := [(6, .int r2), (5, .int (kRun Z (xs (3 * n + 1)) (xs (3 * n + 2)))), (4, .int (nI (3 * n))), (3, .ref b), (2, .ref (a2 0)), (1, .ref (a1 0)), (0, .ref sb)]) hx hb dL_law_171 hl (Nat.le_of_ble_eq_true rfl) rfl (fun ls hl => ?_)
  refine lv_aload_n hx hb dL_law_173 rfl (lv_at hl 4 rfl) ?_
  refine g_callV (rest := []) CX HW hl.1 ((wXo cI a1 0  ++ (wVo cI a1 (0 + 1) (vh Z1) (vc Z1) (vA Z1 0) (vA Z1 1) (vA Z1 2) ++ (wR cI a1 ((0 + 1) + 4) (vr Z1) (vA Z1 3) (vA Z1 4) (vA Z1 5) (vA Z1 6) ++ (wS cI a1 ((0 + 1) + 9) (vs Z1) (vA Z1 7) (vA Z1 8) (vA Z1 9) (vA Z1 10) (vA Z1 11) (vA Z1 12) qt1 qp1 ++ (wVo cI a1 (0 + 19) (vh T1) (vc T1) (vA T1 0) (vA T1 1) (vA T1 2) ++ (wR cI a1 ((0 + 19) + 4) (vr T1) (vA T1 3) (vA T1 4) (vA T1 5) (vA T1 6) ++ (wS cI a1 ((0 + 19) + 9) (vs T1) (vA T1 7) (vA T1 8) (vA T1 9) (vA T1 10) (vA T1 11) (vA T1 12) qt21 qp21))))))) ++ [(b, .inl (cL, 1, .inr (.inl f1)))]) (wMS cI a2 (0 + 6) (a2 0) (vh Z1) (vc Z1) (sumP Z1) (vA Z1 5) (vA Z1 6) (vA Z1 8) (vA Z1 9) (vA Z1 10) (vA Z1 11) (vA Z1 12) (vA Z1 2) my1 qu1 ++ (wMS cI a2 (0 + 17) (a2 0) (vh T3) (vc T3) ri3 (vA T3 5) (vA T3 6) (vA T3 8) (vA T3 9) (vA T3 10) (vA T3 11) (vA T3 12) (vA T3 2) my3 qu3)) (c_X5_thrown 0 Z1 (kRun Z (xs (3 * n + 1)) (xs (3 * n + 2)))) (by simp only [List.append_assoc]) 0 rfl rfl gL_law_X5_thrown rfl ⟨rfl, hd_X5_thrown⟩ ⟨rfl, rfl, (Nat.le_of_ble_eq_true rfl), (Nat.le_of_ble_eq_true rfl)⟩ ⟨hc, hs⟩ rfl rfl (Nat.le_of_ble_eq_true rfl) dL_law_174 (fun v w1 H locs hp HW => ?_)
  obtain ⟨rfl, rfl⟩ := hp
  have HW : Hw D A s (((wXo cI a1 0  ++ (wVo cI a1 (0 + 1) (vh Z1) (vc Z1) (vA Z1 0) (vA Z1 1) (vA Z1 2) ++ (wR cI a1 ((0 + 1) + 4) (vr Z1) (vA Z1 3) (vA Z1 4) (vA Z1 5) (vA Z1 6) ++ (wS cI a1 ((0 + 1) + 9) (vs Z1) (vA Z1 7) (vA Z1 8) (vA Z1 9) (vA Z1 10) (vA Z1 11) (vA Z1 12) qt1 qp1 ++ (wVo cI a1 (0 + 19) (vh T1) (vc T1) (vA T1 0) (vA T1 1) (vA T1 2) ++ (wR cI a1 ((0 + 19) + 4) (vr T1) (vA T1 3) (vA T1 4) (vA T1 5) (vA T1 6) ++ (wS cI a1 ((0 + 19) + 9) (vs T1) (vA T1 7) (vA T1 8) (vA T1 9) (vA T1 10) (vA T1 11) (vA T1 12) qt21 qp21))))))) ++ [(b, .inl (cL, 1, .inr (.inl f1)))]) ++ (wMo cI a2 0 (kRun Z (xs (3 * n + 1)) (xs (3 * n + 2))) (vA Z1 0) (vA Z1 1) (vr Z1) (vA Z1 3) (vA Z1 4) (vs Z1) (vA Z1 7) ++ (wMS cI a2 (0 + 6) (a2 0) (vh Z1) (vc Z1) (sumP Z1) (vA Z1 5) (vA Z1 6) (vA Z1 8) (vA Z1 9) (vA Z1 10) (vA Z1 11) (vA Z1 12) (vA Z1 2) my1 qu1 ++ (wMS cI a2 (0 + 17) (a2 0) (vh T3) (vc T3) ri3 (vA T3 5) (vA T3 6) (vA T3 8) (vA T3 9) (vA T3 10) (vA T3 11) (vA T3 12) (vA T3 2) my3 qu3)))) H locs := HW
  refine W.eq (g2 := F0 m 177 ls [.int (kRun Z (xs (3 * n + 1)) (xs (3 * n + 2)))]) rfl ?_
  refine lv_iload hx hb dL_law_177 (lv_at hl 1 rfl) ?_
  refine lv_icmp_eq (tgt := 184) hx hb dL_law_179 (by decide) (fun _ => ?_) (fun c9 => absurd rfl c9)
  refine lv_iload hx hb dL_law_184 (lv_at hl 1 rfl) ?_
  refine lv_if_ne (tgt := 201) hx hb dL_law_186 (by decide) (fun _ => ?_) (fun c8 => ?_)
  rotate_left
  · have e9 : f1 0 = Int32.toInt64 r2 := by rw [hf1 c8, hreq c8]
    refine lv_aload_n hx hb dL_law_189 rfl (lv_at hl 3 rfl) ?_
    refine lv_iconst (v := 0) hx hb dL_law_190 (by decide) ?_
    refine g_lld CX HW 37 (k := 0) rfl rfl rfl (by decide) (by decide) dL_law_191 ?_
    rw [e9]
    refine lv_iload hx hb dL_law_192 (lv_at hl 0 rfl) ?_
    refine lv_i2l (v := Int32.toInt64 r2) hx hb dL_law_194 rfl ?_
    refine W.lcmp hx hb dL_law_195 ?_
    rw [lcmp_self]
    refine lv_if_eq (tgt := 201) hx hb dL_law_196 (by decide) (fun _ => ?_) (fun c7 => absurd rfl c7)
    refine lv_goto (tgt := 1418) hx hb dL_law_201 (by decide) ?_
    exact kk Z1 _ _ _ hZ1.1 (by have := hZ1.2; omega) ⟨qt1, qp1, T1, qt21, qp21, f1, (kRun Z (xs (3 * n + 1)) (xs (3 * n + 2))), my1, qu1, T3, ri3, my3, qu3, hR1, hM1, HW⟩ (lv_sub hl [2, 3, 4, 5, 6] rfl)
  · skip
    refine lv_goto (tgt := 1418) hx hb dL_law_201 (by decide) ?_
    exact kk Z1 _ _ _ hZ1.1 (by have := hZ1.2; omega) ⟨qt1, qp1, T1, qt21, qp21, f1, (kRun Z (xs (3 * n + 1)) (xs (3 * n + 2))), my1, qu1, T3, ri3, my3, qu3, hR1, hM1, HW⟩ (lv_sub hl [2, 3, 4, 5, 6] rfl)

set_option maxRecDepth 100000 in
set_option maxHeartbeats 4000000 in
theorem st_setPommels (hst : l.stackTraces = false) (CX : Cx p s m args meth c cL_law 9 ret RL wsL_law D (ty2 cI cL) A) (hZ : Zs A s s.heap) (hX : va_X sb L xs s s.heap) (hsb : sb < s.heap.size) (hsA : ¬ A sb) (hL : L ≤ 1536) (hn : 3 * n + 3 ≤ L) (hI : LI Z) (hv : vh Z ≤ 60 * n) (HL : LR D cI cL A s a1 a2 b Z H locs) (hl : lv_has ls 9 [(4, .int (nI (3 * n))), (3, .ref b), (2, .ref (a2 0)), (1, .ref (a1 0)), (0, .ref sb)]) (hc : cells + 1 ≤ 1128) (hs : slots + 6 ≤ 8896)
    (kk : ∀ (Z1 : VS) (H1 : Heap) (locs1 : List Loc) (ls1 : Array Slot), LI Z1 → vh Z1 ≤ 60 * (n + 1) → LR D cI cL A s a1 a2 b Z1 H1 locs1 → lv_has ls1 9 [(4, .int (nI (3 * n))), (3, .ref b), (2, .ref (a2 0)), (1, .ref (a1 0)), (0, .ref sb)] → W p l e room_1 s m args below meth c H1 locs1 (cells + 1) (slots + 6) Q (F0 m 1418 ls1 [])) : W p l e room_1 s m args below meth c H locs cells slots Q (F0 m 204 ls []) := by
  obtain ⟨qt, qp, T, qt2, qp2, f, th, my, qu, T2, ri2, my2, qu2, hR, hM, HW⟩ := HL
  obtain ⟨hx, hb, hml, hr, hown, hts, hK, hA, hlk⟩ := id CX
  have hh : vh Z + 100 < 2 ^ 31 := by omega
  have hU : QU (vq Z) := rep_qu hR hI.1.2.1
  have hQ : Qk (vs Z) (vq Z) := rep_qok hR
  have hjq := take_lt hR hI.1.2.1
  refine lv_aload_n hx hb dL_law_204 rfl (lv_at hl 3 rfl) ?_
  refine lv_aload_n hx hb dL_law_205 rfl (lv_at hl 4 rfl) ?_
  refine lv_iload hx hb dL_law_206 (lv_at hl 0 rfl) ?_
  refine lv_iconst (v := 1) hx hb dL_law_208 (by decide) ?_
  refine lv_iadd hx hb dL_law_209 ?_
  refine g_top (y := (nI (3 * n + 1))) (nI_add _ _) ?_
  refine g_sld CX HW hX hsb hsA (k := 3 * n + 1) (by omega) (by omega) dL_law_210 ?_
  refine lv_aload_n hx hb dL_law_211 rfl (lv_at hl 4 rfl) ?_
  refine lv_iload hx hb dL_law_212 (lv_at hl 0 rfl) ?_
  refine lv_iconst (v := 2) hx hb dL_law_214 (by decide) ?_
  refine lv_iadd hx hb dL_law_215 ?_
  refine g_top (y := (nI (3 * n + 2))) (nI_add _ _) ?_
  refine g_sld CX HW hX hsb hsA (k := 3 * n + 2) (by omega) (by omega) dL_law_216 ?_
  refine lv_aload_n hx hb dL_law_217 rfl (lv_at hl 1 rfl) ?_
  refine gx_callSX (rest := []) CX hZ HW hl.1 [] (wMo cI a2 0 th (vA Z 0) (vA Z 1) (vr Z) (vA Z 3) (vA Z 4) (vs Z) (vA Z 7) ++ (wMS cI a2 (0 + 6) (a2 0) (vh Z) (vc Z) (sumP Z) (vA Z 5) (vA Z 6) (vA Z 8) (vA Z 9) (vA Z 10) (vA Z 11) (vA Z 12) (vA Z 2) my qu ++ (wMS cI a2 (0 + 17) (a2 0) (vh T2) (vc T2) ri2 (vA T2 5) (vA T2 6) (vA T2 8) (vA T2 9) (vA T2 10) (vA T2 11) (vA T2 12) (vA T2 2) my2 qu2))) (c_L_setPommels 0 Z qt qp T qt2 qp2 (xs (3 * n + 1)) (xs (3 * n + 2)) b f hst hI.1 hR hh) rfl gL_law_L_setPommels rfl hd_L_setPommels ⟨rfl, rfl, (Nat.le_of_ble_eq_true rfl), (Nat.le_of_ble_eq_true rfl)⟩ ⟨hc, hs⟩ rfl rfl (Nat.le_of_ble_eq_true rfl) dL_law_218 (fun E ce q9 w1 H locs hp HW hce hcv hcl => hp.elim) (fun v w1 H locs hp HW => ?_)
  obtain ⟨Z1, r1, f1, qt1, qp1, T1, qt21, qp21, hm1, hf1, hR1, rfl, rfl⟩ := hp
  have HW : Hw D A s (((wXo cI a1 0  ++ (wVo cI a1 (0 + 1) (vh Z1) (vc Z1) (vA Z1 0) (vA Z1 1) (vA Z1 2) ++ (wR cI a1 ((0 + 1) + 4) (vr Z1) (vA Z1 3) (vA Z1 4) (vA Z1 5) (vA Z1 6) ++ (wS cI a1 ((0 + 1) + 9) (vs Z1) (vA Z1 7) (vA Z1 8) (vA Z1 9) (vA Z1 10) (vA Z1 11) (vA Z1 12) qt1 qp1 ++ (wVo cI a1 (0 + 19) (vh T1) (vc T1) (vA T1 0) (vA T1 1) (vA T1 2) ++ (wR cI a1 ((0 + 19) + 4) (vr T1) (vA T1 3) (vA T1 4) (vA T1 5) (vA T1 6) ++ (wS cI a1 ((0 + 19) + 9) (vs T1) (vA T1 7) (vA T1 8) (vA T1 9) (vA T1 10) (vA T1 11) (vA T1 12) qt21 qp21))))))) ++ [(b, .inl (cL, 1, .inr (.inl f1)))]) ++ (wMo cI a2 0 th (vA Z 0) (vA Z 1) (vr Z) (vA Z 3) (vA Z 4) (vs Z) (vA Z 7) ++ (wMS cI a2 (0 + 6) (a2 0) (vh Z) (vc Z) (sumP Z) (vA Z 5) (vA Z 6) (vA Z 8) (vA Z 9) (vA Z 10) (vA Z 11) (vA Z 12) (vA Z 2) my qu ++ (wMS cI a2 (0 + 17) (a2 0) (vh T2) (vc T2) ri2 (vA T2 5) (vA T2 6) (vA T2 8) (vA T2 9) (vA T2 10) (vA T2 11) (vA T2 12) (vA T2 2) my2 qu2)))) H locs := HW
  refine W.eq (g2 := F0 m 221 ls [.int (kSetP (xs (3 * n + 1)) (xs (3 * n + 2)))]) rfl ?_
  refine lv_istore (lv' := [(5, .int (kSetP (xs (3 * n + 1)) (xs (3 * n + 2)))), (4, .int (nI (3 * n))), (3, .ref b), (2, .ref (a2 0)), (1, .ref (a1 0)), (0, .ref sb)]) hx hb dL_law_221 hl (Nat.le_of_ble_eq_true rfl) rfl (fun ls hl => ?_)
  refine lv_aload_n hx hb dL_law_223 rfl (lv_at hl 3 rfl) ?_
  refine lv_aload_n hx hb dL_law_224 rfl (lv_at hl 5 rfl) ?_
  refine lv_iload hx hb dL_law_225 (lv_at hl 1 rfl) ?_
  refine lv_iconst (v := 1) hx hb dL_law_227 (by decide) ?_
  refine lv_iadd hx hb dL_law_228 ?_
  refine g_top (y := (nI (3 * n + 1))) (nI_add _ _) ?_
  refine g_sld CX HW hX hsb hsA (k := 3 * n + 1) (by omega) (by omega) dL_law_229 ?_
  refine lv_aload_n hx hb dL_law_230 rfl (lv_at hl 5 rfl) ?_
  refine lv_iload hx hb dL_law_231 (lv_at hl 1 rfl) ?_
  refine lv_iconst (v := 2) hx hb dL_law_233 (by decide) ?_
  refine lv_iadd hx hb dL_law_234 ?_
  refine g_top (y := (nI (3 * n + 2))) (nI_add _ _) ?_
  refine g_sld CX HW hX hsb hsA (k := 3 * n + 2) (by omega) (by omega) dL_law_235 ?_
  refine g_callV (rest := []) CX HW hl.1 ((wXo cI a1 0  ++ (wVo cI a1 (0 + 1) (vh Z1) (vc Z1) (vA Z1 0) (vA Z1 1) (vA Z1 2) ++ (wR cI a1 ((0 + 1) + 4) (vr Z1) (vA Z1 3) (vA Z1 4) (vA Z1 5) (vA Z1 6) ++ (wS cI a1 ((0 + 1) + 9) (vs Z1) (vA Z1 7) (vA Z1 8) (vA Z1 9) (vA Z1 10) (vA Z1 11) (vA Z1 12) qt1 qp1 ++ (wVo cI a1 (0 + 19) (vh T1) (vc T1) (vA T1 0) (vA T1 1) (vA T1 2) ++ (wR cI a1 ((0 + 19) + 4) (vr T1) (vA T1 3) (vA T1 4) (vA T1 5) (vA T1 6) ++ (wS cI a1 ((0 + 19) + 9) (vs T1) (vA T1 7) (vA T1 8) (vA T1 9) (vA T1 10) (vA T1 11) (vA T1 12) qt21 qp21))))))) ++ [(b, .inl (cL, 1, .inr (.inl f1)))]) [] (c_X5_setPommels 0 Z th my qu T2 ri2 my2 qu2 (xs (3 * n + 1)) (xs (3 * n + 2)) hI.1 hM hQ hU hh) rfl 0 rfl rfl gL_law_X5_setPommels rfl ⟨rfl, hd_X5_setPommels⟩ ⟨rfl, rfl, (Nat.le_of_ble_eq_true rfl), (Nat.le_of_ble_eq_true rfl)⟩ ⟨hc, hs⟩ rfl rfl (Nat.le_of_ble_eq_true rfl) dL_law_236 (fun v w1 H locs hp HW => ?_)
  obtain ⟨Z2, r2, my1, qu1, T3, ri3, my3, qu3, hm2, hM1, rfl, rfl⟩ := hp
  have HW : Hw D A s (((wXo cI a1 0  ++ (wVo cI a1 (0 + 1) (vh Z1) (vc Z1) (vA Z1 0) (vA Z1 1) (vA Z1 2) ++ (wR cI a1 ((0 + 1) + 4) (vr Z1) (vA Z1 3) (vA Z1 4) (vA Z1 5) (vA Z1 6) ++ (wS cI a1 ((0 + 1) + 9) (vs Z1) (vA Z1 7) (vA Z1 8) (vA Z1 9) (vA Z1 10) (vA Z1 11) (vA Z1 12) qt1 qp1 ++ (wVo cI a1 (0 + 19) (vh T1) (vc T1) (vA T1 0) (vA T1 1) (vA T1 2) ++ (wR cI a1 ((0 + 19) + 4) (vr T1) (vA T1 3) (vA T1 4) (vA T1 5) (vA T1 6) ++ (wS cI a1 ((0 + 19) + 9) (vs T1) (vA T1 7) (vA T1 8) (vA T1 9) (vA T1 10) (vA T1 11) (vA T1 12) qt21 qp21))))))) ++ [(b, .inl (cL, 1, .inr (.inl f1)))]) ++ (wMo cI a2 0 (kSetP (xs (3 * n + 1)) (xs (3 * n + 2))) (vA Z2 0) (vA Z2 1) (vr Z2) (vA Z2 3) (vA Z2 4) (vs Z2) (vA Z2 7) ++ (wMS cI a2 (0 + 6) (a2 0) (vh Z2) (vc Z2) (sumP Z2) (vA Z2 5) (vA Z2 6) (vA Z2 8) (vA Z2 9) (vA Z2 10) (vA Z2 11) (vA Z2 12) (vA Z2 2) my1 qu1 ++ (wMS cI a2 (0 + 17) (a2 0) (vh T3) (vc T3) ri3 (vA T3 5) (vA T3 6) (vA T3 8) (vA T3 9) (vA T3 10) (vA T3 11) (vA T3 12) (vA T3 2) my3 qu3)))) H locs := HW
  obtain ⟨heq, hreq⟩ := mok_eq hm1 hm2
  rw [heq] at HW hM1
  have HW : Hw D A s (((wXo cI a1 0  ++ (wVo cI a1 (0 + 1) (vh Z1) (vc Z1) (vA Z1 0) (vA Z1 1) (vA Z1 2) ++ (wR cI a1 ((0 + 1) + 4) (vr Z1) (vA Z1 3) (vA Z1 4) (vA Z1 5) (vA Z1 6) ++ (wS cI a1 ((0 + 1) + 9) (vs Z1) (vA Z1 7) (vA Z1 8) (vA Z1 9) (vA Z1 10) (vA Z1 11) (vA Z1 12) qt1 qp1 ++ (wVo cI a1 (0 + 19) (vh T1) (vc T1) (vA T1 0) (vA T1 1) (vA T1 2) ++ (wR cI a1 ((0 + 19) + 4) (vr T1) (vA T1 3) (vA T1 4) (vA T1 5) (vA T1 6) ++ (wS cI a1 ((0 + 19) + 9) (vs T1) (vA T1 7) (vA T1 8) (vA T1 9) (vA T1 10) (vA T1 11) (vA T1 12) qt21 qp21))))))) ++ [(b, .inl (cL, 1, .inr (.inl f1)))]) ++ (wMo cI a2 0 (kSetP (xs (3 * n + 1)) (xs (3 * n + 2))) (vA Z1 0) (vA Z1 1) (vr Z1) (vA Z1 3) (vA Z1 4) (vs Z1) (vA Z1 7) ++ (wMS cI a2 (0 + 6) (a2 0) (vh Z1) (vc Z1) (sumP Z1) (vA Z1 5) (vA Z1 6) (vA Z1 8) (vA Z1 9) (vA Z1 10) (vA Z1 11) (vA Z1 12) (vA Z1 2) my1 qu1 ++ (wMS cI a2 (0 + 17) (a2 0) (vh T3) (vc T3) ri3 (vA T3 5) (vA T3 6) (vA T3 8) (vA T3 9) (vA T3 10) (vA T3 11) (vA T3 12) (vA T3 2) my3 qu3)))) H locs := HW
  have hZ1 := mok_li hm1 hI (li_sSetP hI)
  refine W.eq (g2 := F0 m 239 ls [.int r2]) rfl ?_
  refine lv_istore (lv' := [(6, .int r2), (5, .int (kSetP (xs (3 * n + 1)) (xs (3 * n + 2)))), (4, .int (nI (3 * n))), (3, .ref b), (2, .ref (a2 0)), (1, .ref (a1 0)), (0, .ref sb)]) hx hb dL_law_239 hl (Nat.le_of_ble_eq_true rfl) rfl (fun ls hl => ?_)
  refine lv_aload_n hx hb dL_law_241 rfl (lv_at hl 4 rfl) ?_
  refine g_callV (rest := []) CX HW hl.1 ((wXo cI a1 0  ++ (wVo cI a1 (0 + 1) (vh Z1) (vc Z1) (vA Z1 0) (vA Z1 1) (vA Z1 2) ++ (wR cI a1 ((0 + 1) + 4) (vr Z1) (vA Z1 3) (vA Z1 4) (vA Z1 5) (vA Z1 6) ++ (wS cI a1 ((0 + 1) + 9) (vs Z1) (vA Z1 7) (vA Z1 8) (vA Z1 9) (vA Z1 10) (vA Z1 11) (vA Z1 12) qt1 qp1 ++ (wVo cI a1 (0 + 19) (vh T1) (vc T1) (vA T1 0) (vA T1 1) (vA T1 2) ++ (wR cI a1 ((0 + 19) + 4) (vr T1) (vA T1 3) (vA T1 4) (vA T1 5) (vA T1 6) ++ (wS cI a1 ((0 + 19) + 9) (vs T1) (vA T1 7) (vA T1 8) (vA T1 9) (vA T1 10) (vA T1 11) (vA T1 12) qt21 qp21))))))) ++ [(b, .inl (cL, 1, .inr (.inl f1)))]) (wMS cI a2 (0 + 6) (a2 0) (vh Z1) (vc Z1) (sumP Z1) (vA Z1 5) (vA Z1 6) (vA Z1 8) (vA Z1 9) (vA Z1 10) (vA Z1 11) (vA Z1 12) (vA Z1 2) my1 qu1 ++ (wMS cI a2 (0 + 17) (a2 0) (vh T3) (vc T3) ri3 (vA T3 5) (vA T3 6) (vA T3 8) (vA T3 9) (vA T3 10) (vA T3 11) (vA T3 12) (vA T3 2) my3 qu3)) (c_X5_thrown 0 Z1 (kSetP (xs (3 * n + 1)) (xs (3 * n + 2)))) (by simp only [List.append_assoc]) 0 rfl rfl gL_law_X5_thrown rfl ⟨rfl, hd_X5_thrown⟩ ⟨rfl, rfl, (Nat.le_of_ble_eq_true rfl), (Nat.le_of_ble_eq_true rfl)⟩ ⟨hc, hs⟩ rfl rfl (Nat.le_of_ble_eq_true rfl) dL_law_242 (fun v w1 H locs hp HW => ?_)
  obtain ⟨rfl, rfl⟩ := hp
  have HW : Hw D A s (((wXo cI a1 0  ++ (wVo cI a1 (0 + 1) (vh Z1) (vc Z1) (vA Z1 0) (vA Z1 1) (vA Z1 2) ++ (wR cI a1 ((0 + 1) + 4) (vr Z1) (vA Z1 3) (vA Z1 4) (vA Z1 5) (vA Z1 6) ++ (wS cI a1 ((0 + 1) + 9) (vs Z1) (vA Z1 7) (vA Z1 8) (vA Z1 9) (vA Z1 10) (vA Z1 11) (vA Z1 12) qt1 qp1 ++ (wVo cI a1 (0 + 19) (vh T1) (vc T1) (vA T1 0) (vA T1 1) (vA T1 2) ++ (wR cI a1 ((0 + 19) + 4) (vr T1) (vA T1 3) (vA T1 4) (vA T1 5) (vA T1 6) ++ (wS cI a1 ((0 + 19) + 9) (vs T1) (vA T1 7) (vA T1 8) (vA T1 9) (vA T1 10) (vA T1 11) (vA T1 12) qt21 qp21))))))) ++ [(b, .inl (cL, 1, .inr (.inl f1)))]) ++ (wMo cI a2 0 (kSetP (xs (3 * n + 1)) (xs (3 * n + 2))) (vA Z1 0) (vA Z1 1) (vr Z1) (vA Z1 3) (vA Z1 4) (vs Z1) (vA Z1 7) ++ (wMS cI a2 (0 + 6) (a2 0) (vh Z1) (vc Z1) (sumP Z1) (vA Z1 5) (vA Z1 6) (vA Z1 8) (vA Z1 9) (vA Z1 10) (vA Z1 11) (vA Z1 12) (vA Z1 2) my1 qu1 ++ (wMS cI a2 (0 + 17) (a2 0) (vh T3) (vc T3) ri3 (vA T3 5) (vA T3 6) (vA T3 8) (vA T3 9) (vA T3 10) (vA T3 11) (vA T3 12) (vA T3 2) my3 qu3)))) H locs := HW
  refine W.eq (g2 := F0 m 245 ls [.int (kSetP (xs (3 * n + 1)) (xs (3 * n + 2)))]) rfl ?_
  refine lv_iload hx hb dL_law_245 (lv_at hl 1 rfl) ?_
  refine lv_icmp_eq (tgt := 252) hx hb dL_law_247 (by decide) (fun _ => ?_) (fun c9 => absurd rfl c9)
  refine lv_iload hx hb dL_law_252 (lv_at hl 1 rfl) ?_
  refine lv_if_ne (tgt := 269) hx hb dL_law_254 (by decide) (fun _ => ?_) (fun c8 => ?_)
  rotate_left
  · have e9 : f1 0 = Int32.toInt64 r2 := by rw [hf1 c8, hreq c8]
    refine lv_aload_n hx hb dL_law_257 rfl (lv_at hl 3 rfl) ?_
    refine lv_iconst (v := 0) hx hb dL_law_258 (by decide) ?_
    refine g_lld CX HW 37 (k := 0) rfl rfl rfl (by decide) (by decide) dL_law_259 ?_
    rw [e9]
    refine lv_iload hx hb dL_law_260 (lv_at hl 0 rfl) ?_
    refine lv_i2l (v := Int32.toInt64 r2) hx hb dL_law_262 rfl ?_
    refine W.lcmp hx hb dL_law_263 ?_
    rw [lcmp_self]
    refine lv_if_eq (tgt := 269) hx hb dL_law_264 (by decide) (fun _ => ?_) (fun c7 => absurd rfl c7)
    refine lv_goto (tgt := 1418) hx hb dL_law_269 (by decide) ?_
    exact kk Z1 _ _ _ hZ1.1 (by have := hZ1.2; omega) ⟨qt1, qp1, T1, qt21, qp21, f1, (kSetP (xs (3 * n + 1)) (xs (3 * n + 2))), my1, qu1, T3, ri3, my3, qu3, hR1, hM1, HW⟩ (lv_sub hl [2, 3, 4, 5, 6] rfl)
  · skip
    refine lv_goto (tgt := 1418) hx hb dL_law_269 (by decide) ?_
    exact kk Z1 _ _ _ hZ1.1 (by have := hZ1.2; omega) ⟨qt1, qp1, T1, qt21, qp21, f1, (kSetP (xs (3 * n + 1)) (xs (3 * n + 2))), my1, qu1, T3, ri3, my3, qu3, hR1, hM1, HW⟩ (lv_sub hl [2, 3, 4, 5, 6] rfl)

set_option maxRecDepth 100000 in
set_option maxHeartbeats 4000000 in
theorem st_setFlake (hst : l.stackTraces = false) (CX : Cx p s m args meth c cL_law 9 ret RL wsL_law D (ty2 cI cL) A) (hZ : Zs A s s.heap) (hX : va_X sb L xs s s.heap) (hsb : sb < s.heap.size) (hsA : ¬ A sb) (hL : L ≤ 1536) (hn : 3 * n + 3 ≤ L) (hI : LI Z) (hv : vh Z ≤ 60 * n) (HL : LR D cI cL A s a1 a2 b Z H locs) (hl : lv_has ls 9 [(4, .int (nI (3 * n))), (3, .ref b), (2, .ref (a2 0)), (1, .ref (a1 0)), (0, .ref sb)]) (hc : cells + 1 ≤ 1128) (hs : slots + 6 ≤ 8896)
    (kk : ∀ (Z1 : VS) (H1 : Heap) (locs1 : List Loc) (ls1 : Array Slot), LI Z1 → vh Z1 ≤ 60 * (n + 1) → LR D cI cL A s a1 a2 b Z1 H1 locs1 → lv_has ls1 9 [(4, .int (nI (3 * n))), (3, .ref b), (2, .ref (a2 0)), (1, .ref (a1 0)), (0, .ref sb)] → W p l e room_1 s m args below meth c H1 locs1 (cells + 1) (slots + 6) Q (F0 m 1418 ls1 [])) : W p l e room_1 s m args below meth c H locs cells slots Q (F0 m 272 ls []) := by
  obtain ⟨qt, qp, T, qt2, qp2, f, th, my, qu, T2, ri2, my2, qu2, hR, hM, HW⟩ := HL
  obtain ⟨hx, hb, hml, hr, hown, hts, hK, hA, hlk⟩ := id CX
  have hh : vh Z + 100 < 2 ^ 31 := by omega
  have hU : QU (vq Z) := rep_qu hR hI.1.2.1
  have hQ : Qk (vs Z) (vq Z) := rep_qok hR
  have hjq := take_lt hR hI.1.2.1
  refine lv_aload_n hx hb dL_law_272 rfl (lv_at hl 3 rfl) ?_
  refine lv_aload_n hx hb dL_law_273 rfl (lv_at hl 4 rfl) ?_
  refine lv_iload hx hb dL_law_274 (lv_at hl 0 rfl) ?_
  refine lv_iconst (v := 1) hx hb dL_law_276 (by decide) ?_
  refine lv_iadd hx hb dL_law_277 ?_
  refine g_top (y := (nI (3 * n + 1))) (nI_add _ _) ?_
  refine g_sld CX HW hX hsb hsA (k := 3 * n + 1) (by omega) (by omega) dL_law_278 ?_
  refine lv_aload_n hx hb dL_law_279 rfl (lv_at hl 4 rfl) ?_
  refine lv_iload hx hb dL_law_280 (lv_at hl 0 rfl) ?_
  refine lv_iconst (v := 2) hx hb dL_law_282 (by decide) ?_
  refine lv_iadd hx hb dL_law_283 ?_
  refine g_top (y := (nI (3 * n + 2))) (nI_add _ _) ?_
  refine g_sld CX HW hX hsb hsA (k := 3 * n + 2) (by omega) (by omega) dL_law_284 ?_
  refine lv_aload_n hx hb dL_law_285 rfl (lv_at hl 1 rfl) ?_
  refine gx_callSX (rest := []) CX hZ HW hl.1 [] (wMo cI a2 0 th (vA Z 0) (vA Z 1) (vr Z) (vA Z 3) (vA Z 4) (vs Z) (vA Z 7) ++ (wMS cI a2 (0 + 6) (a2 0) (vh Z) (vc Z) (sumP Z) (vA Z 5) (vA Z 6) (vA Z 8) (vA Z 9) (vA Z 10) (vA Z 11) (vA Z 12) (vA Z 2) my qu ++ (wMS cI a2 (0 + 17) (a2 0) (vh T2) (vc T2) ri2 (vA T2 5) (vA T2 6) (vA T2 8) (vA T2 9) (vA T2 10) (vA T2 11) (vA T2 12) (vA T2 2) my2 qu2))) (c_L_setFlake 0 Z qt qp T qt2 qp2 (xs (3 * n + 1)) (xs (3 * n + 2)) b f hst hI.1 hR hh) rfl gL_law_L_setFlake rfl hd_L_setFlake ⟨rfl, rfl, (Nat.le_of_ble_eq_true rfl), (Nat.le_of_ble_eq_true rfl)⟩ ⟨hc, hs⟩ rfl rfl (Nat.le_of_ble_eq_true rfl) dL_law_286 (fun E ce q9 w1 H locs hp HW hce hcv hcl => hp.elim) (fun v w1 H locs hp HW => ?_)
  obtain ⟨Z1, r1, f1, qt1, qp1, T1, qt21, qp21, hm1, hf1, hR1, rfl, rfl⟩ := hp
  have HW : Hw D A s (((wXo cI a1 0  ++ (wVo cI a1 (0 + 1) (vh Z1) (vc Z1) (vA Z1 0) (vA Z1 1) (vA Z1 2) ++ (wR cI a1 ((0 + 1) + 4) (vr Z1) (vA Z1 3) (vA Z1 4) (vA Z1 5) (vA Z1 6) ++ (wS cI a1 ((0 + 1) + 9) (vs Z1) (vA Z1 7) (vA Z1 8) (vA Z1 9) (vA Z1 10) (vA Z1 11) (vA Z1 12) qt1 qp1 ++ (wVo cI a1 (0 + 19) (vh T1) (vc T1) (vA T1 0) (vA T1 1) (vA T1 2) ++ (wR cI a1 ((0 + 19) + 4) (vr T1) (vA T1 3) (vA T1 4) (vA T1 5) (vA T1 6) ++ (wS cI a1 ((0 + 19) + 9) (vs T1) (vA T1 7) (vA T1 8) (vA T1 9) (vA T1 10) (vA T1 11) (vA T1 12) qt21 qp21))))))) ++ [(b, .inl (cL, 1, .inr (.inl f1)))]) ++ (wMo cI a2 0 th (vA Z 0) (vA Z 1) (vr Z) (vA Z 3) (vA Z 4) (vs Z) (vA Z 7) ++ (wMS cI a2 (0 + 6) (a2 0) (vh Z) (vc Z) (sumP Z) (vA Z 5) (vA Z 6) (vA Z 8) (vA Z 9) (vA Z 10) (vA Z 11) (vA Z 12) (vA Z 2) my qu ++ (wMS cI a2 (0 + 17) (a2 0) (vh T2) (vc T2) ri2 (vA T2 5) (vA T2 6) (vA T2 8) (vA T2 9) (vA T2 10) (vA T2 11) (vA T2 12) (vA T2 2) my2 qu2)))) H locs := HW
  refine W.eq (g2 := F0 m 289 ls [.int (kSetF (xs (3 * n + 1)) (xs (3 * n + 2)))]) rfl ?_
  refine lv_istore (lv' := [(5, .int (kSetF (xs (3 * n + 1)) (xs (3 * n + 2)))), (4, .int (nI (3 * n))), (3, .ref b), (2, .ref (a2 0)), (1, .ref (a1 0)), (0, .ref sb)]) hx hb dL_law_289 hl (Nat.le_of_ble_eq_true rfl) rfl (fun ls hl => ?_)
  refine lv_aload_n hx hb dL_law_291 rfl (lv_at hl 3 rfl) ?_
  refine lv_aload_n hx hb dL_law_292 rfl (lv_at hl 5 rfl) ?_
  refine lv_iload hx hb dL_law_293 (lv_at hl 1 rfl) ?_
  refine lv_iconst (v := 1) hx hb dL_law_295 (by decide) ?_
  refine lv_iadd hx hb dL_law_296 ?_
  refine g_top (y := (nI (3 * n + 1))) (nI_add _ _) ?_
  refine g_sld CX HW hX hsb hsA (k := 3 * n + 1) (by omega) (by omega) dL_law_297 ?_
  refine lv_aload_n hx hb dL_law_298 rfl (lv_at hl 5 rfl) ?_
  refine lv_iload hx hb dL_law_299 (lv_at hl 1 rfl) ?_
  refine lv_iconst (v := 2) hx hb dL_law_301 (by decide) ?_
  refine lv_iadd hx hb dL_law_302 ?_
  refine g_top (y := (nI (3 * n + 2))) (nI_add _ _) ?_
  refine g_sld CX HW hX hsb hsA (k := 3 * n + 2) (by omega) (by omega) dL_law_303 ?_
  refine g_callV (rest := []) CX HW hl.1 ((wXo cI a1 0  ++ (wVo cI a1 (0 + 1) (vh Z1) (vc Z1) (vA Z1 0) (vA Z1 1) (vA Z1 2) ++ (wR cI a1 ((0 + 1) + 4) (vr Z1) (vA Z1 3) (vA Z1 4) (vA Z1 5) (vA Z1 6) ++ (wS cI a1 ((0 + 1) + 9) (vs Z1) (vA Z1 7) (vA Z1 8) (vA Z1 9) (vA Z1 10) (vA Z1 11) (vA Z1 12) qt1 qp1 ++ (wVo cI a1 (0 + 19) (vh T1) (vc T1) (vA T1 0) (vA T1 1) (vA T1 2) ++ (wR cI a1 ((0 + 19) + 4) (vr T1) (vA T1 3) (vA T1 4) (vA T1 5) (vA T1 6) ++ (wS cI a1 ((0 + 19) + 9) (vs T1) (vA T1 7) (vA T1 8) (vA T1 9) (vA T1 10) (vA T1 11) (vA T1 12) qt21 qp21))))))) ++ [(b, .inl (cL, 1, .inr (.inl f1)))]) [] (c_X5_setFlake 0 Z th my qu T2 ri2 my2 qu2 (xs (3 * n + 1)) (xs (3 * n + 2)) hI.1 hM hQ hU hh) rfl 0 rfl rfl gL_law_X5_setFlake rfl ⟨rfl, hd_X5_setFlake⟩ ⟨rfl, rfl, (Nat.le_of_ble_eq_true rfl), (Nat.le_of_ble_eq_true rfl)⟩ ⟨hc, hs⟩ rfl rfl (Nat.le_of_ble_eq_true rfl) dL_law_304 (fun v w1 H locs hp HW => ?_)
  obtain ⟨Z2, r2, my1, qu1, T3, ri3, my3, qu3, hm2, hM1, rfl, rfl⟩ := hp
  have HW : Hw D A s (((wXo cI a1 0  ++ (wVo cI a1 (0 + 1) (vh Z1) (vc Z1) (vA Z1 0) (vA Z1 1) (vA Z1 2) ++ (wR cI a1 ((0 + 1) + 4) (vr Z1) (vA Z1 3) (vA Z1 4) (vA Z1 5) (vA Z1 6) ++ (wS cI a1 ((0 + 1) + 9) (vs Z1) (vA Z1 7) (vA Z1 8) (vA Z1 9) (vA Z1 10) (vA Z1 11) (vA Z1 12) qt1 qp1 ++ (wVo cI a1 (0 + 19) (vh T1) (vc T1) (vA T1 0) (vA T1 1) (vA T1 2) ++ (wR cI a1 ((0 + 19) + 4) (vr T1) (vA T1 3) (vA T1 4) (vA T1 5) (vA T1 6) ++ (wS cI a1 ((0 + 19) + 9) (vs T1) (vA T1 7) (vA T1 8) (vA T1 9) (vA T1 10) (vA T1 11) (vA T1 12) qt21 qp21))))))) ++ [(b, .inl (cL, 1, .inr (.inl f1)))]) ++ (wMo cI a2 0 (kSetF (xs (3 * n + 1)) (xs (3 * n + 2))) (vA Z2 0) (vA Z2 1) (vr Z2) (vA Z2 3) (vA Z2 4) (vs Z2) (vA Z2 7) ++ (wMS cI a2 (0 + 6) (a2 0) (vh Z2) (vc Z2) (sumP Z2) (vA Z2 5) (vA Z2 6) (vA Z2 8) (vA Z2 9) (vA Z2 10) (vA Z2 11) (vA Z2 12) (vA Z2 2) my1 qu1 ++ (wMS cI a2 (0 + 17) (a2 0) (vh T3) (vc T3) ri3 (vA T3 5) (vA T3 6) (vA T3 8) (vA T3 9) (vA T3 10) (vA T3 11) (vA T3 12) (vA T3 2) my3 qu3)))) H locs := HW
  obtain ⟨heq, hreq⟩ := mok_eq hm1 hm2
  rw [heq] at HW hM1
  have HW : Hw D A s (((wXo cI a1 0  ++ (wVo cI a1 (0 + 1) (vh Z1) (vc Z1) (vA Z1 0) (vA Z1 1) (vA Z1 2) ++ (wR cI a1 ((0 + 1) + 4) (vr Z1) (vA Z1 3) (vA Z1 4) (vA Z1 5) (vA Z1 6) ++ (wS cI a1 ((0 + 1) + 9) (vs Z1) (vA Z1 7) (vA Z1 8) (vA Z1 9) (vA Z1 10) (vA Z1 11) (vA Z1 12) qt1 qp1 ++ (wVo cI a1 (0 + 19) (vh T1) (vc T1) (vA T1 0) (vA T1 1) (vA T1 2) ++ (wR cI a1 ((0 + 19) + 4) (vr T1) (vA T1 3) (vA T1 4) (vA T1 5) (vA T1 6) ++ (wS cI a1 ((0 + 19) + 9) (vs T1) (vA T1 7) (vA T1 8) (vA T1 9) (vA T1 10) (vA T1 11) (vA T1 12) qt21 qp21))))))) ++ [(b, .inl (cL, 1, .inr (.inl f1)))]) ++ (wMo cI a2 0 (kSetF (xs (3 * n + 1)) (xs (3 * n + 2))) (vA Z1 0) (vA Z1 1) (vr Z1) (vA Z1 3) (vA Z1 4) (vs Z1) (vA Z1 7) ++ (wMS cI a2 (0 + 6) (a2 0) (vh Z1) (vc Z1) (sumP Z1) (vA Z1 5) (vA Z1 6) (vA Z1 8) (vA Z1 9) (vA Z1 10) (vA Z1 11) (vA Z1 12) (vA Z1 2) my1 qu1 ++ (wMS cI a2 (0 + 17) (a2 0) (vh T3) (vc T3) ri3 (vA T3 5) (vA T3 6) (vA T3 8) (vA T3 9) (vA T3 10) (vA T3 11) (vA T3 12) (vA T3 2) my3 qu3)))) H locs := HW
  have hZ1 := mok_li hm1 hI (li_sSetF hI)
  refine W.eq (g2 := F0 m 307 ls [.int r2]) rfl ?_
  refine lv_istore (lv' := [(6, .int r2), (5, .int (kSetF (xs (3 * n + 1)) (xs (3 * n + 2)))), (4, .int (nI (3 * n))), (3, .ref b), (2, .ref (a2 0)), (1, .ref (a1 0)), (0, .ref sb)]) hx hb dL_law_307 hl (Nat.le_of_ble_eq_true rfl) rfl (fun ls hl => ?_)
  refine lv_aload_n hx hb dL_law_309 rfl (lv_at hl 4 rfl) ?_
  refine g_callV (rest := []) CX HW hl.1 ((wXo cI a1 0  ++ (wVo cI a1 (0 + 1) (vh Z1) (vc Z1) (vA Z1 0) (vA Z1 1) (vA Z1 2) ++ (wR cI a1 ((0 + 1) + 4) (vr Z1) (vA Z1 3) (vA Z1 4) (vA Z1 5) (vA Z1 6) ++ (wS cI a1 ((0 + 1) + 9) (vs Z1) (vA Z1 7) (vA Z1 8) (vA Z1 9) (vA Z1 10) (vA Z1 11) (vA Z1 12) qt1 qp1 ++ (wVo cI a1 (0 + 19) (vh T1) (vc T1) (vA T1 0) (vA T1 1) (vA T1 2) ++ (wR cI a1 ((0 + 19) + 4) (vr T1) (vA T1 3) (vA T1 4) (vA T1 5) (vA T1 6) ++ (wS cI a1 ((0 + 19) + 9) (vs T1) (vA T1 7) (vA T1 8) (vA T1 9) (vA T1 10) (vA T1 11) (vA T1 12) qt21 qp21))))))) ++ [(b, .inl (cL, 1, .inr (.inl f1)))]) (wMS cI a2 (0 + 6) (a2 0) (vh Z1) (vc Z1) (sumP Z1) (vA Z1 5) (vA Z1 6) (vA Z1 8) (vA Z1 9) (vA Z1 10) (vA Z1 11) (vA Z1 12) (vA Z1 2) my1 qu1 ++ (wMS cI a2 (0 + 17) (a2 0) (vh T3) (vc T3) ri3 (vA T3 5) (vA T3 6) (vA T3 8) (vA T3 9) (vA T3 10) (vA T3 11) (vA T3 12) (vA T3 2) my3 qu3)) (c_X5_thrown 0 Z1 (kSetF (xs (3 * n + 1)) (xs (3 * n + 2)))) (by simp only [List.append_assoc]) 0 rfl rfl gL_law_X5_thrown rfl ⟨rfl, hd_X5_thrown⟩ ⟨rfl, rfl, (Nat.le_of_ble_eq_true rfl), (Nat.le_of_ble_eq_true rfl)⟩ ⟨hc, hs⟩ rfl rfl (Nat.le_of_ble_eq_true rfl) dL_law_310 (fun v w1 H locs hp HW => ?_)
  obtain ⟨rfl, rfl⟩ := hp
  have HW : Hw D A s (((wXo cI a1 0  ++ (wVo cI a1 (0 + 1) (vh Z1) (vc Z1) (vA Z1 0) (vA Z1 1) (vA Z1 2) ++ (wR cI a1 ((0 + 1) + 4) (vr Z1) (vA Z1 3) (vA Z1 4) (vA Z1 5) (vA Z1 6) ++ (wS cI a1 ((0 + 1) + 9) (vs Z1) (vA Z1 7) (vA Z1 8) (vA Z1 9) (vA Z1 10) (vA Z1 11) (vA Z1 12) qt1 qp1 ++ (wVo cI a1 (0 + 19) (vh T1) (vc T1) (vA T1 0) (vA T1 1) (vA T1 2) ++ (wR cI a1 ((0 + 19) + 4) (vr T1) (vA T1 3) (vA T1 4) (vA T1 5) (vA T1 6) ++ (wS cI a1 ((0 + 19) + 9) (vs T1) (vA T1 7) (vA T1 8) (vA T1 9) (vA T1 10) (vA T1 11) (vA T1 12) qt21 qp21))))))) ++ [(b, .inl (cL, 1, .inr (.inl f1)))]) ++ (wMo cI a2 0 (kSetF (xs (3 * n + 1)) (xs (3 * n + 2))) (vA Z1 0) (vA Z1 1) (vr Z1) (vA Z1 3) (vA Z1 4) (vs Z1) (vA Z1 7) ++ (wMS cI a2 (0 + 6) (a2 0) (vh Z1) (vc Z1) (sumP Z1) (vA Z1 5) (vA Z1 6) (vA Z1 8) (vA Z1 9) (vA Z1 10) (vA Z1 11) (vA Z1 12) (vA Z1 2) my1 qu1 ++ (wMS cI a2 (0 + 17) (a2 0) (vh T3) (vc T3) ri3 (vA T3 5) (vA T3 6) (vA T3 8) (vA T3 9) (vA T3 10) (vA T3 11) (vA T3 12) (vA T3 2) my3 qu3)))) H locs := HW
  refine W.eq (g2 := F0 m 313 ls [.int (kSetF (xs (3 * n + 1)) (xs (3 * n + 2)))]) rfl ?_
  refine lv_iload hx hb dL_law_313 (lv_at hl 1 rfl) ?_
  refine lv_icmp_eq (tgt := 320) hx hb dL_law_315 (by decide) (fun _ => ?_) (fun c9 => absurd rfl c9)
  refine lv_iload hx hb dL_law_320 (lv_at hl 1 rfl) ?_
  refine lv_if_ne (tgt := 337) hx hb dL_law_322 (by decide) (fun _ => ?_) (fun c8 => ?_)
  rotate_left
  · have e9 : f1 0 = Int32.toInt64 r2 := by rw [hf1 c8, hreq c8]
    refine lv_aload_n hx hb dL_law_325 rfl (lv_at hl 3 rfl) ?_
    refine lv_iconst (v := 0) hx hb dL_law_326 (by decide) ?_
    refine g_lld CX HW 37 (k := 0) rfl rfl rfl (by decide) (by decide) dL_law_327 ?_
    rw [e9]
    refine lv_iload hx hb dL_law_328 (lv_at hl 0 rfl) ?_
    refine lv_i2l (v := Int32.toInt64 r2) hx hb dL_law_330 rfl ?_
    refine W.lcmp hx hb dL_law_331 ?_
    rw [lcmp_self]
    refine lv_if_eq (tgt := 337) hx hb dL_law_332 (by decide) (fun _ => ?_) (fun c7 => absurd rfl c7)
    refine lv_goto (tgt := 1418) hx hb dL_law_337 (by decide) ?_
    exact kk Z1 _ _ _ hZ1.1 (by have := hZ1.2; omega) ⟨qt1, qp1, T1, qt21, qp21, f1, (kSetF (xs (3 * n + 1)) (xs (3 * n + 2))), my1, qu1, T3, ri3, my3, qu3, hR1, hM1, HW⟩ (lv_sub hl [2, 3, 4, 5, 6] rfl)
  · skip
    refine lv_goto (tgt := 1418) hx hb dL_law_337 (by decide) ?_
    exact kk Z1 _ _ _ hZ1.1 (by have := hZ1.2; omega) ⟨qt1, qp1, T1, qt21, qp21, f1, (kSetF (xs (3 * n + 1)) (xs (3 * n + 2))), my1, qu1, T3, ri3, my3, qu3, hR1, hM1, HW⟩ (lv_sub hl [2, 3, 4, 5, 6] rfl)

set_option maxRecDepth 100000 in
set_option maxHeartbeats 4000000 in
theorem st_cannon (hst : l.stackTraces = false) (CX : Cx p s m args meth c cL_law 9 ret RL wsL_law D (ty2 cI cL) A) (hZ : Zs A s s.heap) (hX : va_X sb L xs s s.heap) (hsb : sb < s.heap.size) (hsA : ¬ A sb) (hL : L ≤ 1536) (hn : 3 * n + 3 ≤ L) (hI : LI Z) (hv : vh Z ≤ 60 * n) (HL : LR D cI cL A s a1 a2 b Z H locs) (hl : lv_has ls 9 [(4, .int (nI (3 * n))), (3, .ref b), (2, .ref (a2 0)), (1, .ref (a1 0)), (0, .ref sb)]) (hc : cells + 1 ≤ 1128) (hs : slots + 6 ≤ 8896)
    (kk : ∀ (Z1 : VS) (H1 : Heap) (locs1 : List Loc) (ls1 : Array Slot), LI Z1 → vh Z1 ≤ 60 * (n + 1) → LR D cI cL A s a1 a2 b Z1 H1 locs1 → lv_has ls1 9 [(4, .int (nI (3 * n))), (3, .ref b), (2, .ref (a2 0)), (1, .ref (a1 0)), (0, .ref sb)] → W p l e room_1 s m args below meth c H1 locs1 (cells + 1) (slots + 6) Q (F0 m 1418 ls1 [])) : W p l e room_1 s m args below meth c H locs cells slots Q (F0 m 340 ls []) := by
  obtain ⟨qt, qp, T, qt2, qp2, f, th, my, qu, T2, ri2, my2, qu2, hR, hM, HW⟩ := HL
  obtain ⟨hx, hb, hml, hr, hown, hts, hK, hA, hlk⟩ := id CX
  have hh : vh Z + 100 < 2 ^ 31 := by omega
  have hU : QU (vq Z) := rep_qu hR hI.1.2.1
  have hQ : Qk (vs Z) (vq Z) := rep_qok hR
  have hjq := take_lt hR hI.1.2.1
  refine lv_aload_n hx hb dL_law_340 rfl (lv_at hl 3 rfl) ?_
  refine lv_aload_n hx hb dL_law_341 rfl (lv_at hl 4 rfl) ?_
  refine lv_iload hx hb dL_law_342 (lv_at hl 0 rfl) ?_
  refine lv_iconst (v := 1) hx hb dL_law_344 (by decide) ?_
  refine lv_iadd hx hb dL_law_345 ?_
  refine g_top (y := (nI (3 * n + 1))) (nI_add _ _) ?_
  refine g_sld CX HW hX hsb hsA (k := 3 * n + 1) (by omega) (by omega) dL_law_346 ?_
  refine lv_aload_n hx hb dL_law_347 rfl (lv_at hl 1 rfl) ?_
  refine gx_callSX (rest := []) CX hZ HW hl.1 [] (wMo cI a2 0 th (vA Z 0) (vA Z 1) (vr Z) (vA Z 3) (vA Z 4) (vs Z) (vA Z 7) ++ (wMS cI a2 (0 + 6) (a2 0) (vh Z) (vc Z) (sumP Z) (vA Z 5) (vA Z 6) (vA Z 8) (vA Z 9) (vA Z 10) (vA Z 11) (vA Z 12) (vA Z 2) my qu ++ (wMS cI a2 (0 + 17) (a2 0) (vh T2) (vc T2) ri2 (vA T2 5) (vA T2 6) (vA T2 8) (vA T2 9) (vA T2 10) (vA T2 11) (vA T2 12) (vA T2 2) my2 qu2))) (c_L_cannon 0 Z qt qp T qt2 qp2 (xs (3 * n + 1)) b f hst hI.1 hR hh) rfl gL_law_L_cannon rfl hd_L_cannon ⟨rfl, rfl, (Nat.le_of_ble_eq_true rfl), (Nat.le_of_ble_eq_true rfl)⟩ ⟨hc, hs⟩ rfl rfl (Nat.le_of_ble_eq_true rfl) dL_law_348 (fun E ce q9 w1 H locs hp HW hce hcv hcl => hp.elim) (fun v w1 H locs hp HW => ?_)
  obtain ⟨Z1, r1, f1, qt1, qp1, T1, qt21, qp21, hm1, hf1, hR1, rfl, rfl⟩ := hp
  have HW : Hw D A s (((wXo cI a1 0  ++ (wVo cI a1 (0 + 1) (vh Z1) (vc Z1) (vA Z1 0) (vA Z1 1) (vA Z1 2) ++ (wR cI a1 ((0 + 1) + 4) (vr Z1) (vA Z1 3) (vA Z1 4) (vA Z1 5) (vA Z1 6) ++ (wS cI a1 ((0 + 1) + 9) (vs Z1) (vA Z1 7) (vA Z1 8) (vA Z1 9) (vA Z1 10) (vA Z1 11) (vA Z1 12) qt1 qp1 ++ (wVo cI a1 (0 + 19) (vh T1) (vc T1) (vA T1 0) (vA T1 1) (vA T1 2) ++ (wR cI a1 ((0 + 19) + 4) (vr T1) (vA T1 3) (vA T1 4) (vA T1 5) (vA T1 6) ++ (wS cI a1 ((0 + 19) + 9) (vs T1) (vA T1 7) (vA T1 8) (vA T1 9) (vA T1 10) (vA T1 11) (vA T1 12) qt21 qp21))))))) ++ [(b, .inl (cL, 1, .inr (.inl f1)))]) ++ (wMo cI a2 0 th (vA Z 0) (vA Z 1) (vr Z) (vA Z 3) (vA Z 4) (vs Z) (vA Z 7) ++ (wMS cI a2 (0 + 6) (a2 0) (vh Z) (vc Z) (sumP Z) (vA Z 5) (vA Z 6) (vA Z 8) (vA Z 9) (vA Z 10) (vA Z 11) (vA Z 12) (vA Z 2) my qu ++ (wMS cI a2 (0 + 17) (a2 0) (vh T2) (vc T2) ri2 (vA T2 5) (vA T2 6) (vA T2 8) (vA T2 9) (vA T2 10) (vA T2 11) (vA T2 12) (vA T2 2) my2 qu2)))) H locs := HW
  refine W.eq (g2 := F0 m 351 ls [.int (kCan Z (xs (3 * n + 1)))]) rfl ?_
  refine lv_istore (lv' := [(5, .int (kCan Z (xs (3 * n + 1)))), (4, .int (nI (3 * n))), (3, .ref b), (2, .ref (a2 0)), (1, .ref (a1 0)), (0, .ref sb)]) hx hb dL_law_351 hl (Nat.le_of_ble_eq_true rfl) rfl (fun ls hl => ?_)
  refine lv_aload_n hx hb dL_law_353 rfl (lv_at hl 3 rfl) ?_
  refine lv_aload_n hx hb dL_law_354 rfl (lv_at hl 5 rfl) ?_
  refine lv_iload hx hb dL_law_355 (lv_at hl 1 rfl) ?_
  refine lv_iconst (v := 1) hx hb dL_law_357 (by decide) ?_
  refine lv_iadd hx hb dL_law_358 ?_
  refine g_top (y := (nI (3 * n + 1))) (nI_add _ _) ?_
  refine g_sld CX HW hX hsb hsA (k := 3 * n + 1) (by omega) (by omega) dL_law_359 ?_
  refine g_callV (rest := []) CX HW hl.1 ((wXo cI a1 0  ++ (wVo cI a1 (0 + 1) (vh Z1) (vc Z1) (vA Z1 0) (vA Z1 1) (vA Z1 2) ++ (wR cI a1 ((0 + 1) + 4) (vr Z1) (vA Z1 3) (vA Z1 4) (vA Z1 5) (vA Z1 6) ++ (wS cI a1 ((0 + 1) + 9) (vs Z1) (vA Z1 7) (vA Z1 8) (vA Z1 9) (vA Z1 10) (vA Z1 11) (vA Z1 12) qt1 qp1 ++ (wVo cI a1 (0 + 19) (vh T1) (vc T1) (vA T1 0) (vA T1 1) (vA T1 2) ++ (wR cI a1 ((0 + 19) + 4) (vr T1) (vA T1 3) (vA T1 4) (vA T1 5) (vA T1 6) ++ (wS cI a1 ((0 + 19) + 9) (vs T1) (vA T1 7) (vA T1 8) (vA T1 9) (vA T1 10) (vA T1 11) (vA T1 12) qt21 qp21))))))) ++ [(b, .inl (cL, 1, .inr (.inl f1)))]) [] (c_X5_cannon 0 Z th my qu T2 ri2 my2 qu2 (xs (3 * n + 1)) hI.1 hM hQ hU hh) rfl 0 rfl rfl gL_law_X5_cannon rfl ⟨rfl, hd_X5_cannon⟩ ⟨rfl, rfl, (Nat.le_of_ble_eq_true rfl), (Nat.le_of_ble_eq_true rfl)⟩ ⟨hc, hs⟩ rfl rfl (Nat.le_of_ble_eq_true rfl) dL_law_360 (fun v w1 H locs hp HW => ?_)
  obtain ⟨Z2, r2, my1, qu1, T3, ri3, my3, qu3, hm2, hM1, rfl, rfl⟩ := hp
  have HW : Hw D A s (((wXo cI a1 0  ++ (wVo cI a1 (0 + 1) (vh Z1) (vc Z1) (vA Z1 0) (vA Z1 1) (vA Z1 2) ++ (wR cI a1 ((0 + 1) + 4) (vr Z1) (vA Z1 3) (vA Z1 4) (vA Z1 5) (vA Z1 6) ++ (wS cI a1 ((0 + 1) + 9) (vs Z1) (vA Z1 7) (vA Z1 8) (vA Z1 9) (vA Z1 10) (vA Z1 11) (vA Z1 12) qt1 qp1 ++ (wVo cI a1 (0 + 19) (vh T1) (vc T1) (vA T1 0) (vA T1 1) (vA T1 2) ++ (wR cI a1 ((0 + 19) + 4) (vr T1) (vA T1 3) (vA T1 4) (vA T1 5) (vA T1 6) ++ (wS cI a1 ((0 + 19) + 9) (vs T1) (vA T1 7) (vA T1 8) (vA T1 9) (vA T1 10) (vA T1 11) (vA T1 12) qt21 qp21))))))) ++ [(b, .inl (cL, 1, .inr (.inl f1)))]) ++ (wMo cI a2 0 (kCan Z (xs (3 * n + 1))) (vA Z2 0) (vA Z2 1) (vr Z2) (vA Z2 3) (vA Z2 4) (vs Z2) (vA Z2 7) ++ (wMS cI a2 (0 + 6) (a2 0) (vh Z2) (vc Z2) (sumP Z2) (vA Z2 5) (vA Z2 6) (vA Z2 8) (vA Z2 9) (vA Z2 10) (vA Z2 11) (vA Z2 12) (vA Z2 2) my1 qu1 ++ (wMS cI a2 (0 + 17) (a2 0) (vh T3) (vc T3) ri3 (vA T3 5) (vA T3 6) (vA T3 8) (vA T3 9) (vA T3 10) (vA T3 11) (vA T3 12) (vA T3 2) my3 qu3)))) H locs := HW
  obtain ⟨heq, hreq⟩ := mok_eq hm1 hm2
  rw [heq] at HW hM1
  have HW : Hw D A s (((wXo cI a1 0  ++ (wVo cI a1 (0 + 1) (vh Z1) (vc Z1) (vA Z1 0) (vA Z1 1) (vA Z1 2) ++ (wR cI a1 ((0 + 1) + 4) (vr Z1) (vA Z1 3) (vA Z1 4) (vA Z1 5) (vA Z1 6) ++ (wS cI a1 ((0 + 1) + 9) (vs Z1) (vA Z1 7) (vA Z1 8) (vA Z1 9) (vA Z1 10) (vA Z1 11) (vA Z1 12) qt1 qp1 ++ (wVo cI a1 (0 + 19) (vh T1) (vc T1) (vA T1 0) (vA T1 1) (vA T1 2) ++ (wR cI a1 ((0 + 19) + 4) (vr T1) (vA T1 3) (vA T1 4) (vA T1 5) (vA T1 6) ++ (wS cI a1 ((0 + 19) + 9) (vs T1) (vA T1 7) (vA T1 8) (vA T1 9) (vA T1 10) (vA T1 11) (vA T1 12) qt21 qp21))))))) ++ [(b, .inl (cL, 1, .inr (.inl f1)))]) ++ (wMo cI a2 0 (kCan Z (xs (3 * n + 1))) (vA Z1 0) (vA Z1 1) (vr Z1) (vA Z1 3) (vA Z1 4) (vs Z1) (vA Z1 7) ++ (wMS cI a2 (0 + 6) (a2 0) (vh Z1) (vc Z1) (sumP Z1) (vA Z1 5) (vA Z1 6) (vA Z1 8) (vA Z1 9) (vA Z1 10) (vA Z1 11) (vA Z1 12) (vA Z1 2) my1 qu1 ++ (wMS cI a2 (0 + 17) (a2 0) (vh T3) (vc T3) ri3 (vA T3 5) (vA T3 6) (vA T3 8) (vA T3 9) (vA T3 10) (vA T3 11) (vA T3 12) (vA T3 2) my3 qu3)))) H locs := HW
  have hZ1 := mok_li hm1 hI (li_sCan hI)
  refine W.eq (g2 := F0 m 363 ls [.int r2]) rfl ?_
  refine lv_istore (lv' := [(6, .int r2), (5, .int (kCan Z (xs (3 * n + 1)))), (4, .int (nI (3 * n))), (3, .ref b), (2, .ref (a2 0)), (1, .ref (a1 0)), (0, .ref sb)]) hx hb dL_law_363 hl (Nat.le_of_ble_eq_true rfl) rfl (fun ls hl => ?_)
  refine lv_aload_n hx hb dL_law_365 rfl (lv_at hl 4 rfl) ?_
  refine g_callV (rest := []) CX HW hl.1 ((wXo cI a1 0  ++ (wVo cI a1 (0 + 1) (vh Z1) (vc Z1) (vA Z1 0) (vA Z1 1) (vA Z1 2) ++ (wR cI a1 ((0 + 1) + 4) (vr Z1) (vA Z1 3) (vA Z1 4) (vA Z1 5) (vA Z1 6) ++ (wS cI a1 ((0 + 1) + 9) (vs Z1) (vA Z1 7) (vA Z1 8) (vA Z1 9) (vA Z1 10) (vA Z1 11) (vA Z1 12) qt1 qp1 ++ (wVo cI a1 (0 + 19) (vh T1) (vc T1) (vA T1 0) (vA T1 1) (vA T1 2) ++ (wR cI a1 ((0 + 19) + 4) (vr T1) (vA T1 3) (vA T1 4) (vA T1 5) (vA T1 6) ++ (wS cI a1 ((0 + 19) + 9) (vs T1) (vA T1 7) (vA T1 8) (vA T1 9) (vA T1 10) (vA T1 11) (vA T1 12) qt21 qp21))))))) ++ [(b, .inl (cL, 1, .inr (.inl f1)))]) (wMS cI a2 (0 + 6) (a2 0) (vh Z1) (vc Z1) (sumP Z1) (vA Z1 5) (vA Z1 6) (vA Z1 8) (vA Z1 9) (vA Z1 10) (vA Z1 11) (vA Z1 12) (vA Z1 2) my1 qu1 ++ (wMS cI a2 (0 + 17) (a2 0) (vh T3) (vc T3) ri3 (vA T3 5) (vA T3 6) (vA T3 8) (vA T3 9) (vA T3 10) (vA T3 11) (vA T3 12) (vA T3 2) my3 qu3)) (c_X5_thrown 0 Z1 (kCan Z (xs (3 * n + 1)))) (by simp only [List.append_assoc]) 0 rfl rfl gL_law_X5_thrown rfl ⟨rfl, hd_X5_thrown⟩ ⟨rfl, rfl, (Nat.le_of_ble_eq_true rfl), (Nat.le_of_ble_eq_true rfl)⟩ ⟨hc, hs⟩ rfl rfl (Nat.le_of_ble_eq_true rfl) dL_law_366 (fun v w1 H locs hp HW => ?_)
  obtain ⟨rfl, rfl⟩ := hp
  have HW : Hw D A s (((wXo cI a1 0  ++ (wVo cI a1 (0 + 1) (vh Z1) (vc Z1) (vA Z1 0) (vA Z1 1) (vA Z1 2) ++ (wR cI a1 ((0 + 1) + 4) (vr Z1) (vA Z1 3) (vA Z1 4) (vA Z1 5) (vA Z1 6) ++ (wS cI a1 ((0 + 1) + 9) (vs Z1) (vA Z1 7) (vA Z1 8) (vA Z1 9) (vA Z1 10) (vA Z1 11) (vA Z1 12) qt1 qp1 ++ (wVo cI a1 (0 + 19) (vh T1) (vc T1) (vA T1 0) (vA T1 1) (vA T1 2) ++ (wR cI a1 ((0 + 19) + 4) (vr T1) (vA T1 3) (vA T1 4) (vA T1 5) (vA T1 6) ++ (wS cI a1 ((0 + 19) + 9) (vs T1) (vA T1 7) (vA T1 8) (vA T1 9) (vA T1 10) (vA T1 11) (vA T1 12) qt21 qp21))))))) ++ [(b, .inl (cL, 1, .inr (.inl f1)))]) ++ (wMo cI a2 0 (kCan Z (xs (3 * n + 1))) (vA Z1 0) (vA Z1 1) (vr Z1) (vA Z1 3) (vA Z1 4) (vs Z1) (vA Z1 7) ++ (wMS cI a2 (0 + 6) (a2 0) (vh Z1) (vc Z1) (sumP Z1) (vA Z1 5) (vA Z1 6) (vA Z1 8) (vA Z1 9) (vA Z1 10) (vA Z1 11) (vA Z1 12) (vA Z1 2) my1 qu1 ++ (wMS cI a2 (0 + 17) (a2 0) (vh T3) (vc T3) ri3 (vA T3 5) (vA T3 6) (vA T3 8) (vA T3 9) (vA T3 10) (vA T3 11) (vA T3 12) (vA T3 2) my3 qu3)))) H locs := HW
  refine W.eq (g2 := F0 m 369 ls [.int (kCan Z (xs (3 * n + 1)))]) rfl ?_
  refine lv_iload hx hb dL_law_369 (lv_at hl 1 rfl) ?_
  refine lv_icmp_eq (tgt := 376) hx hb dL_law_371 (by decide) (fun _ => ?_) (fun c9 => absurd rfl c9)
  refine lv_iload hx hb dL_law_376 (lv_at hl 1 rfl) ?_
  refine lv_if_ne (tgt := 393) hx hb dL_law_378 (by decide) (fun _ => ?_) (fun c8 => ?_)
  rotate_left
  · have e9 : f1 0 = Int32.toInt64 r2 := by rw [hf1 c8, hreq c8]
    refine lv_aload_n hx hb dL_law_381 rfl (lv_at hl 3 rfl) ?_
    refine lv_iconst (v := 0) hx hb dL_law_382 (by decide) ?_
    refine g_lld CX HW 37 (k := 0) rfl rfl rfl (by decide) (by decide) dL_law_383 ?_
    rw [e9]
    refine lv_iload hx hb dL_law_384 (lv_at hl 0 rfl) ?_
    refine lv_i2l (v := Int32.toInt64 r2) hx hb dL_law_386 rfl ?_
    refine W.lcmp hx hb dL_law_387 ?_
    rw [lcmp_self]
    refine lv_if_eq (tgt := 393) hx hb dL_law_388 (by decide) (fun _ => ?_) (fun c7 => absurd rfl c7)
    refine lv_goto (tgt := 1418) hx hb dL_law_393 (by decide) ?_
    exact kk Z1 _ _ _ hZ1.1 (by have := hZ1.2; omega) ⟨qt1, qp1, T1, qt21, qp21, f1, (kCan Z (xs (3 * n + 1))), my1, qu1, T3, ri3, my3, qu3, hR1, hM1, HW⟩ (lv_sub hl [2, 3, 4, 5, 6] rfl)
  · skip
    refine lv_goto (tgt := 1418) hx hb dL_law_393 (by decide) ?_
    exact kk Z1 _ _ _ hZ1.1 (by have := hZ1.2; omega) ⟨qt1, qp1, T1, qt21, qp21, f1, (kCan Z (xs (3 * n + 1))), my1, qu1, T3, ri3, my3, qu3, hR1, hM1, HW⟩ (lv_sub hl [2, 3, 4, 5, 6] rfl)

set_option maxRecDepth 100000 in
set_option maxHeartbeats 4000000 in
theorem st_blast (hst : l.stackTraces = false) (CX : Cx p s m args meth c cL_law 9 ret RL wsL_law D (ty2 cI cL) A) (hZ : Zs A s s.heap) (hX : va_X sb L xs s s.heap) (hsb : sb < s.heap.size) (hsA : ¬ A sb) (hL : L ≤ 1536) (hn : 3 * n + 3 ≤ L) (hI : LI Z) (hv : vh Z ≤ 60 * n) (HL : LR D cI cL A s a1 a2 b Z H locs) (hl : lv_has ls 9 [(4, .int (nI (3 * n))), (3, .ref b), (2, .ref (a2 0)), (1, .ref (a1 0)), (0, .ref sb)]) (hc : cells + 1 ≤ 1128) (hs : slots + 6 ≤ 8896)
    (kk : ∀ (Z1 : VS) (H1 : Heap) (locs1 : List Loc) (ls1 : Array Slot), LI Z1 → vh Z1 ≤ 60 * (n + 1) → LR D cI cL A s a1 a2 b Z1 H1 locs1 → lv_has ls1 9 [(4, .int (nI (3 * n))), (3, .ref b), (2, .ref (a2 0)), (1, .ref (a1 0)), (0, .ref sb)] → W p l e room_1 s m args below meth c H1 locs1 (cells + 1) (slots + 6) Q (F0 m 1418 ls1 [])) : W p l e room_1 s m args below meth c H locs cells slots Q (F0 m 396 ls []) := by
  obtain ⟨qt, qp, T, qt2, qp2, f, th, my, qu, T2, ri2, my2, qu2, hR, hM, HW⟩ := HL
  obtain ⟨hx, hb, hml, hr, hown, hts, hK, hA, hlk⟩ := id CX
  have hh : vh Z + 100 < 2 ^ 31 := by omega
  have hU : QU (vq Z) := rep_qu hR hI.1.2.1
  have hQ : Qk (vs Z) (vq Z) := rep_qok hR
  have hjq := take_lt hR hI.1.2.1
  refine lv_aload_n hx hb dL_law_396 rfl (lv_at hl 3 rfl) ?_
  refine lv_aload_n hx hb dL_law_397 rfl (lv_at hl 4 rfl) ?_
  refine lv_iload hx hb dL_law_398 (lv_at hl 0 rfl) ?_
  refine lv_iconst (v := 1) hx hb dL_law_400 (by decide) ?_
  refine lv_iadd hx hb dL_law_401 ?_
  refine g_top (y := (nI (3 * n + 1))) (nI_add _ _) ?_
  refine g_sld CX HW hX hsb hsA (k := 3 * n + 1) (by omega) (by omega) dL_law_402 ?_
  refine lv_aload_n hx hb dL_law_403 rfl (lv_at hl 1 rfl) ?_
  refine gx_callSX (rest := []) CX hZ HW hl.1 [] (wMo cI a2 0 th (vA Z 0) (vA Z 1) (vr Z) (vA Z 3) (vA Z 4) (vs Z) (vA Z 7) ++ (wMS cI a2 (0 + 6) (a2 0) (vh Z) (vc Z) (sumP Z) (vA Z 5) (vA Z 6) (vA Z 8) (vA Z 9) (vA Z 10) (vA Z 11) (vA Z 12) (vA Z 2) my qu ++ (wMS cI a2 (0 + 17) (a2 0) (vh T2) (vc T2) ri2 (vA T2 5) (vA T2 6) (vA T2 8) (vA T2 9) (vA T2 10) (vA T2 11) (vA T2 12) (vA T2 2) my2 qu2))) (c_L_blast 0 Z qt qp T qt2 qp2 (xs (3 * n + 1)) b f hst hI.1 hR hh) rfl gL_law_L_blast rfl hd_L_blast ⟨rfl, rfl, (Nat.le_of_ble_eq_true rfl), (Nat.le_of_ble_eq_true rfl)⟩ ⟨hc, hs⟩ rfl rfl (Nat.le_of_ble_eq_true rfl) dL_law_404 (fun E ce q9 w1 H locs hp HW hce hcv hcl => hp.elim) (fun v w1 H locs hp HW => ?_)
  obtain ⟨Z1, r1, f1, qt1, qp1, T1, qt21, qp21, hm1, hf1, hR1, rfl, rfl⟩ := hp
  have HW : Hw D A s (((wXo cI a1 0  ++ (wVo cI a1 (0 + 1) (vh Z1) (vc Z1) (vA Z1 0) (vA Z1 1) (vA Z1 2) ++ (wR cI a1 ((0 + 1) + 4) (vr Z1) (vA Z1 3) (vA Z1 4) (vA Z1 5) (vA Z1 6) ++ (wS cI a1 ((0 + 1) + 9) (vs Z1) (vA Z1 7) (vA Z1 8) (vA Z1 9) (vA Z1 10) (vA Z1 11) (vA Z1 12) qt1 qp1 ++ (wVo cI a1 (0 + 19) (vh T1) (vc T1) (vA T1 0) (vA T1 1) (vA T1 2) ++ (wR cI a1 ((0 + 19) + 4) (vr T1) (vA T1 3) (vA T1 4) (vA T1 5) (vA T1 6) ++ (wS cI a1 ((0 + 19) + 9) (vs T1) (vA T1 7) (vA T1 8) (vA T1 9) (vA T1 10) (vA T1 11) (vA T1 12) qt21 qp21))))))) ++ [(b, .inl (cL, 1, .inr (.inl f1)))]) ++ (wMo cI a2 0 th (vA Z 0) (vA Z 1) (vr Z) (vA Z 3) (vA Z 4) (vs Z) (vA Z 7) ++ (wMS cI a2 (0 + 6) (a2 0) (vh Z) (vc Z) (sumP Z) (vA Z 5) (vA Z 6) (vA Z 8) (vA Z 9) (vA Z 10) (vA Z 11) (vA Z 12) (vA Z 2) my qu ++ (wMS cI a2 (0 + 17) (a2 0) (vh T2) (vc T2) ri2 (vA T2 5) (vA T2 6) (vA T2 8) (vA T2 9) (vA T2 10) (vA T2 11) (vA T2 12) (vA T2 2) my2 qu2)))) H locs := HW
  refine W.eq (g2 := F0 m 407 ls [.int (kBla Z (xs (3 * n + 1)))]) rfl ?_
  refine lv_istore (lv' := [(5, .int (kBla Z (xs (3 * n + 1)))), (4, .int (nI (3 * n))), (3, .ref b), (2, .ref (a2 0)), (1, .ref (a1 0)), (0, .ref sb)]) hx hb dL_law_407 hl (Nat.le_of_ble_eq_true rfl) rfl (fun ls hl => ?_)
  refine lv_aload_n hx hb dL_law_409 rfl (lv_at hl 3 rfl) ?_
  refine lv_aload_n hx hb dL_law_410 rfl (lv_at hl 5 rfl) ?_
  refine lv_iload hx hb dL_law_411 (lv_at hl 1 rfl) ?_
  refine lv_iconst (v := 1) hx hb dL_law_413 (by decide) ?_
  refine lv_iadd hx hb dL_law_414 ?_
  refine g_top (y := (nI (3 * n + 1))) (nI_add _ _) ?_
  refine g_sld CX HW hX hsb hsA (k := 3 * n + 1) (by omega) (by omega) dL_law_415 ?_
  refine g_callV (rest := []) CX HW hl.1 ((wXo cI a1 0  ++ (wVo cI a1 (0 + 1) (vh Z1) (vc Z1) (vA Z1 0) (vA Z1 1) (vA Z1 2) ++ (wR cI a1 ((0 + 1) + 4) (vr Z1) (vA Z1 3) (vA Z1 4) (vA Z1 5) (vA Z1 6) ++ (wS cI a1 ((0 + 1) + 9) (vs Z1) (vA Z1 7) (vA Z1 8) (vA Z1 9) (vA Z1 10) (vA Z1 11) (vA Z1 12) qt1 qp1 ++ (wVo cI a1 (0 + 19) (vh T1) (vc T1) (vA T1 0) (vA T1 1) (vA T1 2) ++ (wR cI a1 ((0 + 19) + 4) (vr T1) (vA T1 3) (vA T1 4) (vA T1 5) (vA T1 6) ++ (wS cI a1 ((0 + 19) + 9) (vs T1) (vA T1 7) (vA T1 8) (vA T1 9) (vA T1 10) (vA T1 11) (vA T1 12) qt21 qp21))))))) ++ [(b, .inl (cL, 1, .inr (.inl f1)))]) [] (c_X5_blast 0 Z th my qu T2 ri2 my2 qu2 (xs (3 * n + 1)) hI.1 hM hQ hU hh) rfl 0 rfl rfl gL_law_X5_blast rfl ⟨rfl, hd_X5_blast⟩ ⟨rfl, rfl, (Nat.le_of_ble_eq_true rfl), (Nat.le_of_ble_eq_true rfl)⟩ ⟨hc, hs⟩ rfl rfl (Nat.le_of_ble_eq_true rfl) dL_law_416 (fun v w1 H locs hp HW => ?_)
  obtain ⟨Z2, r2, my1, qu1, T3, ri3, my3, qu3, hm2, hM1, rfl, rfl⟩ := hp
  have HW : Hw D A s (((wXo cI a1 0  ++ (wVo cI a1 (0 + 1) (vh Z1) (vc Z1) (vA Z1 0) (vA Z1 1) (vA Z1 2) ++ (wR cI a1 ((0 + 1) + 4) (vr Z1) (vA Z1 3) (vA Z1 4) (vA Z1 5) (vA Z1 6) ++ (wS cI a1 ((0 + 1) + 9) (vs Z1) (vA Z1 7) (vA Z1 8) (vA Z1 9) (vA Z1 10) (vA Z1 11) (vA Z1 12) qt1 qp1 ++ (wVo cI a1 (0 + 19) (vh T1) (vc T1) (vA T1 0) (vA T1 1) (vA T1 2) ++ (wR cI a1 ((0 + 19) + 4) (vr T1) (vA T1 3) (vA T1 4) (vA T1 5) (vA T1 6) ++ (wS cI a1 ((0 + 19) + 9) (vs T1) (vA T1 7) (vA T1 8) (vA T1 9) (vA T1 10) (vA T1 11) (vA T1 12) qt21 qp21))))))) ++ [(b, .inl (cL, 1, .inr (.inl f1)))]) ++ (wMo cI a2 0 (kBla Z (xs (3 * n + 1))) (vA Z2 0) (vA Z2 1) (vr Z2) (vA Z2 3) (vA Z2 4) (vs Z2) (vA Z2 7) ++ (wMS cI a2 (0 + 6) (a2 0) (vh Z2) (vc Z2) (sumP Z2) (vA Z2 5) (vA Z2 6) (vA Z2 8) (vA Z2 9) (vA Z2 10) (vA Z2 11) (vA Z2 12) (vA Z2 2) my1 qu1 ++ (wMS cI a2 (0 + 17) (a2 0) (vh T3) (vc T3) ri3 (vA T3 5) (vA T3 6) (vA T3 8) (vA T3 9) (vA T3 10) (vA T3 11) (vA T3 12) (vA T3 2) my3 qu3)))) H locs := HW
  obtain ⟨heq, hreq⟩ := mok_eq hm1 hm2
  rw [heq] at HW hM1
  have HW : Hw D A s (((wXo cI a1 0  ++ (wVo cI a1 (0 + 1) (vh Z1) (vc Z1) (vA Z1 0) (vA Z1 1) (vA Z1 2) ++ (wR cI a1 ((0 + 1) + 4) (vr Z1) (vA Z1 3) (vA Z1 4) (vA Z1 5) (vA Z1 6) ++ (wS cI a1 ((0 + 1) + 9) (vs Z1) (vA Z1 7) (vA Z1 8) (vA Z1 9) (vA Z1 10) (vA Z1 11) (vA Z1 12) qt1 qp1 ++ (wVo cI a1 (0 + 19) (vh T1) (vc T1) (vA T1 0) (vA T1 1) (vA T1 2) ++ (wR cI a1 ((0 + 19) + 4) (vr T1) (vA T1 3) (vA T1 4) (vA T1 5) (vA T1 6) ++ (wS cI a1 ((0 + 19) + 9) (vs T1) (vA T1 7) (vA T1 8) (vA T1 9) (vA T1 10) (vA T1 11) (vA T1 12) qt21 qp21))))))) ++ [(b, .inl (cL, 1, .inr (.inl f1)))]) ++ (wMo cI a2 0 (kBla Z (xs (3 * n + 1))) (vA Z1 0) (vA Z1 1) (vr Z1) (vA Z1 3) (vA Z1 4) (vs Z1) (vA Z1 7) ++ (wMS cI a2 (0 + 6) (a2 0) (vh Z1) (vc Z1) (sumP Z1) (vA Z1 5) (vA Z1 6) (vA Z1 8) (vA Z1 9) (vA Z1 10) (vA Z1 11) (vA Z1 12) (vA Z1 2) my1 qu1 ++ (wMS cI a2 (0 + 17) (a2 0) (vh T3) (vc T3) ri3 (vA T3 5) (vA T3 6) (vA T3 8) (vA T3 9) (vA T3 10) (vA T3 11) (vA T3 12) (vA T3 2) my3 qu3)))) H locs := HW
  have hZ1 := mok_li hm1 hI (li_sBla hI)
  refine W.eq (g2 := F0 m 419 ls [.int r2]) rfl ?_
  refine lv_istore (lv' := [(6, .int r2), (5, .int (kBla Z (xs (3 * n + 1)))), (4, .int (nI (3 * n))), (3, .ref b), (2, .ref (a2 0)), (1, .ref (a1 0)), (0, .ref sb)]) hx hb dL_law_419 hl (Nat.le_of_ble_eq_true rfl) rfl (fun ls hl => ?_)
  refine lv_aload_n hx hb dL_law_421 rfl (lv_at hl 4 rfl) ?_
  refine g_callV (rest := []) CX HW hl.1 ((wXo cI a1 0  ++ (wVo cI a1 (0 + 1) (vh Z1) (vc Z1) (vA Z1 0) (vA Z1 1) (vA Z1 2) ++ (wR cI a1 ((0 + 1) + 4) (vr Z1) (vA Z1 3) (vA Z1 4) (vA Z1 5) (vA Z1 6) ++ (wS cI a1 ((0 + 1) + 9) (vs Z1) (vA Z1 7) (vA Z1 8) (vA Z1 9) (vA Z1 10) (vA Z1 11) (vA Z1 12) qt1 qp1 ++ (wVo cI a1 (0 + 19) (vh T1) (vc T1) (vA T1 0) (vA T1 1) (vA T1 2) ++ (wR cI a1 ((0 + 19) + 4) (vr T1) (vA T1 3) (vA T1 4) (vA T1 5) (vA T1 6) ++ (wS cI a1 ((0 + 19) + 9) (vs T1) (vA T1 7) (vA T1 8) (vA T1 9) (vA T1 10) (vA T1 11) (vA T1 12) qt21 qp21))))))) ++ [(b, .inl (cL, 1, .inr (.inl f1)))]) (wMS cI a2 (0 + 6) (a2 0) (vh Z1) (vc Z1) (sumP Z1) (vA Z1 5) (vA Z1 6) (vA Z1 8) (vA Z1 9) (vA Z1 10) (vA Z1 11) (vA Z1 12) (vA Z1 2) my1 qu1 ++ (wMS cI a2 (0 + 17) (a2 0) (vh T3) (vc T3) ri3 (vA T3 5) (vA T3 6) (vA T3 8) (vA T3 9) (vA T3 10) (vA T3 11) (vA T3 12) (vA T3 2) my3 qu3)) (c_X5_thrown 0 Z1 (kBla Z (xs (3 * n + 1)))) (by simp only [List.append_assoc]) 0 rfl rfl gL_law_X5_thrown rfl ⟨rfl, hd_X5_thrown⟩ ⟨rfl, rfl, (Nat.le_of_ble_eq_true rfl), (Nat.le_of_ble_eq_true rfl)⟩ ⟨hc, hs⟩ rfl rfl (Nat.le_of_ble_eq_true rfl) dL_law_422 (fun v w1 H locs hp HW => ?_)
  obtain ⟨rfl, rfl⟩ := hp
  have HW : Hw D A s (((wXo cI a1 0  ++ (wVo cI a1 (0 + 1) (vh Z1) (vc Z1) (vA Z1 0) (vA Z1 1) (vA Z1 2) ++ (wR cI a1 ((0 + 1) + 4) (vr Z1) (vA Z1 3) (vA Z1 4) (vA Z1 5) (vA Z1 6) ++ (wS cI a1 ((0 + 1) + 9) (vs Z1) (vA Z1 7) (vA Z1 8) (vA Z1 9) (vA Z1 10) (vA Z1 11) (vA Z1 12) qt1 qp1 ++ (wVo cI a1 (0 + 19) (vh T1) (vc T1) (vA T1 0) (vA T1 1) (vA T1 2) ++ (wR cI a1 ((0 + 19) + 4) (vr T1) (vA T1 3) (vA T1 4) (vA T1 5) (vA T1 6) ++ (wS cI a1 ((0 + 19) + 9) (vs T1) (vA T1 7) (vA T1 8) (vA T1 9) (vA T1 10) (vA T1 11) (vA T1 12) qt21 qp21))))))) ++ [(b, .inl (cL, 1, .inr (.inl f1)))]) ++ (wMo cI a2 0 (kBla Z (xs (3 * n + 1))) (vA Z1 0) (vA Z1 1) (vr Z1) (vA Z1 3) (vA Z1 4) (vs Z1) (vA Z1 7) ++ (wMS cI a2 (0 + 6) (a2 0) (vh Z1) (vc Z1) (sumP Z1) (vA Z1 5) (vA Z1 6) (vA Z1 8) (vA Z1 9) (vA Z1 10) (vA Z1 11) (vA Z1 12) (vA Z1 2) my1 qu1 ++ (wMS cI a2 (0 + 17) (a2 0) (vh T3) (vc T3) ri3 (vA T3 5) (vA T3 6) (vA T3 8) (vA T3 9) (vA T3 10) (vA T3 11) (vA T3 12) (vA T3 2) my3 qu3)))) H locs := HW
  refine W.eq (g2 := F0 m 425 ls [.int (kBla Z (xs (3 * n + 1)))]) rfl ?_
  refine lv_iload hx hb dL_law_425 (lv_at hl 1 rfl) ?_
  refine lv_icmp_eq (tgt := 432) hx hb dL_law_427 (by decide) (fun _ => ?_) (fun c9 => absurd rfl c9)
  refine lv_iload hx hb dL_law_432 (lv_at hl 1 rfl) ?_
  refine lv_if_ne (tgt := 449) hx hb dL_law_434 (by decide) (fun _ => ?_) (fun c8 => ?_)
  rotate_left
  · have e9 : f1 0 = Int32.toInt64 r2 := by rw [hf1 c8, hreq c8]
    refine lv_aload_n hx hb dL_law_437 rfl (lv_at hl 3 rfl) ?_
    refine lv_iconst (v := 0) hx hb dL_law_438 (by decide) ?_
    refine g_lld CX HW 37 (k := 0) rfl rfl rfl (by decide) (by decide) dL_law_439 ?_
    rw [e9]
    refine lv_iload hx hb dL_law_440 (lv_at hl 0 rfl) ?_
    refine lv_i2l (v := Int32.toInt64 r2) hx hb dL_law_442 rfl ?_
    refine W.lcmp hx hb dL_law_443 ?_
    rw [lcmp_self]
    refine lv_if_eq (tgt := 449) hx hb dL_law_444 (by decide) (fun _ => ?_) (fun c7 => absurd rfl c7)
    refine lv_goto (tgt := 1418) hx hb dL_law_449 (by decide) ?_
    exact kk Z1 _ _ _ hZ1.1 (by have := hZ1.2; omega) ⟨qt1, qp1, T1, qt21, qp21, f1, (kBla Z (xs (3 * n + 1))), my1, qu1, T3, ri3, my3, qu3, hR1, hM1, HW⟩ (lv_sub hl [2, 3, 4, 5, 6] rfl)
  · skip
    refine lv_goto (tgt := 1418) hx hb dL_law_449 (by decide) ?_
    exact kk Z1 _ _ _ hZ1.1 (by have := hZ1.2; omega) ⟨qt1, qp1, T1, qt21, qp21, f1, (kBla Z (xs (3 * n + 1))), my1, qu1, T3, ri3, my3, qu3, hR1, hM1, HW⟩ (lv_sub hl [2, 3, 4, 5, 6] rfl)

set_option maxRecDepth 100000 in
set_option maxHeartbeats 4000000 in
theorem st_skier (hst : l.stackTraces = false) (CX : Cx p s m args meth c cL_law 9 ret RL wsL_law D (ty2 cI cL) A) (hZ : Zs A s s.heap) (hX : va_X sb L xs s s.heap) (hsb : sb < s.heap.size) (hsA : ¬ A sb) (hL : L ≤ 1536) (hn : 3 * n + 3 ≤ L) (hI : LI Z) (hv : vh Z ≤ 60 * n) (HL : LR D cI cL A s a1 a2 b Z H locs) (hl : lv_has ls 9 [(4, .int (nI (3 * n))), (3, .ref b), (2, .ref (a2 0)), (1, .ref (a1 0)), (0, .ref sb)]) (hc : cells + 1 ≤ 1128) (hs : slots + 6 ≤ 8896)
    (kk : ∀ (Z1 : VS) (H1 : Heap) (locs1 : List Loc) (ls1 : Array Slot), LI Z1 → vh Z1 ≤ 60 * (n + 1) → LR D cI cL A s a1 a2 b Z1 H1 locs1 → lv_has ls1 9 [(4, .int (nI (3 * n))), (3, .ref b), (2, .ref (a2 0)), (1, .ref (a1 0)), (0, .ref sb)] → W p l e room_1 s m args below meth c H1 locs1 (cells + 1) (slots + 6) Q (F0 m 1418 ls1 [])) : W p l e room_1 s m args below meth c H locs cells slots Q (F0 m 452 ls []) := by
  obtain ⟨qt, qp, T, qt2, qp2, f, th, my, qu, T2, ri2, my2, qu2, hR, hM, HW⟩ := HL
  obtain ⟨hx, hb, hml, hr, hown, hts, hK, hA, hlk⟩ := id CX
  have hh : vh Z + 100 < 2 ^ 31 := by omega
  have hU : QU (vq Z) := rep_qu hR hI.1.2.1
  have hQ : Qk (vs Z) (vq Z) := rep_qok hR
  have hjq := take_lt hR hI.1.2.1
  refine lv_aload_n hx hb dL_law_452 rfl (lv_at hl 3 rfl) ?_
  refine lv_aload_n hx hb dL_law_453 rfl (lv_at hl 4 rfl) ?_
  refine lv_iload hx hb dL_law_454 (lv_at hl 0 rfl) ?_
  refine lv_iconst (v := 1) hx hb dL_law_456 (by decide) ?_
  refine lv_iadd hx hb dL_law_457 ?_
  refine g_top (y := (nI (3 * n + 1))) (nI_add _ _) ?_
  refine g_sld CX HW hX hsb hsA (k := 3 * n + 1) (by omega) (by omega) dL_law_458 ?_
  refine lv_aload_n hx hb dL_law_459 rfl (lv_at hl 4 rfl) ?_
  refine lv_iload hx hb dL_law_460 (lv_at hl 0 rfl) ?_
  refine lv_iconst (v := 2) hx hb dL_law_462 (by decide) ?_
  refine lv_iadd hx hb dL_law_463 ?_
  refine g_top (y := (nI (3 * n + 2))) (nI_add _ _) ?_
  refine g_sld CX HW hX hsb hsA (k := 3 * n + 2) (by omega) (by omega) dL_law_464 ?_
  refine lv_aload_n hx hb dL_law_465 rfl (lv_at hl 1 rfl) ?_
  refine gx_callSX (rest := []) CX hZ HW hl.1 [] (wMo cI a2 0 th (vA Z 0) (vA Z 1) (vr Z) (vA Z 3) (vA Z 4) (vs Z) (vA Z 7) ++ (wMS cI a2 (0 + 6) (a2 0) (vh Z) (vc Z) (sumP Z) (vA Z 5) (vA Z 6) (vA Z 8) (vA Z 9) (vA Z 10) (vA Z 11) (vA Z 12) (vA Z 2) my qu ++ (wMS cI a2 (0 + 17) (a2 0) (vh T2) (vc T2) ri2 (vA T2 5) (vA T2 6) (vA T2 8) (vA T2 9) (vA T2 10) (vA T2 11) (vA T2 12) (vA T2 2) my2 qu2))) (c_L_skier 0 Z qt qp T qt2 qp2 (xs (3 * n + 1)) (xs (3 * n + 2)) b f hst hI.1 hR hh) rfl gL_law_L_skier rfl hd_L_skier ⟨rfl, rfl, (Nat.le_of_ble_eq_true rfl), (Nat.le_of_ble_eq_true rfl)⟩ ⟨hc, hs⟩ rfl rfl (Nat.le_of_ble_eq_true rfl) dL_law_466 (fun E ce q9 w1 H locs hp HW hce hcv hcl => hp.elim) (fun v w1 H locs hp HW => ?_)
  obtain ⟨Z1, r1, f1, qt1, qp1, T1, qt21, qp21, hm1, hf1, hR1, rfl, rfl⟩ := hp
  have HW : Hw D A s (((wXo cI a1 0  ++ (wVo cI a1 (0 + 1) (vh Z1) (vc Z1) (vA Z1 0) (vA Z1 1) (vA Z1 2) ++ (wR cI a1 ((0 + 1) + 4) (vr Z1) (vA Z1 3) (vA Z1 4) (vA Z1 5) (vA Z1 6) ++ (wS cI a1 ((0 + 1) + 9) (vs Z1) (vA Z1 7) (vA Z1 8) (vA Z1 9) (vA Z1 10) (vA Z1 11) (vA Z1 12) qt1 qp1 ++ (wVo cI a1 (0 + 19) (vh T1) (vc T1) (vA T1 0) (vA T1 1) (vA T1 2) ++ (wR cI a1 ((0 + 19) + 4) (vr T1) (vA T1 3) (vA T1 4) (vA T1 5) (vA T1 6) ++ (wS cI a1 ((0 + 19) + 9) (vs T1) (vA T1 7) (vA T1 8) (vA T1 9) (vA T1 10) (vA T1 11) (vA T1 12) qt21 qp21))))))) ++ [(b, .inl (cL, 1, .inr (.inl f1)))]) ++ (wMo cI a2 0 th (vA Z 0) (vA Z 1) (vr Z) (vA Z 3) (vA Z 4) (vs Z) (vA Z 7) ++ (wMS cI a2 (0 + 6) (a2 0) (vh Z) (vc Z) (sumP Z) (vA Z 5) (vA Z 6) (vA Z 8) (vA Z 9) (vA Z 10) (vA Z 11) (vA Z 12) (vA Z 2) my qu ++ (wMS cI a2 (0 + 17) (a2 0) (vh T2) (vc T2) ri2 (vA T2 5) (vA T2 6) (vA T2 8) (vA T2 9) (vA T2 10) (vA T2 11) (vA T2 12) (vA T2 2) my2 qu2)))) H locs := HW
  refine W.eq (g2 := F0 m 469 ls [.int (kSki Z (xs (3 * n + 1)) (xs (3 * n + 2)))]) rfl ?_
  refine lv_istore (lv' := [(5, .int (kSki Z (xs (3 * n + 1)) (xs (3 * n + 2)))), (4, .int (nI (3 * n))), (3, .ref b), (2, .ref (a2 0)), (1, .ref (a1 0)), (0, .ref sb)]) hx hb dL_law_469 hl (Nat.le_of_ble_eq_true rfl) rfl (fun ls hl => ?_)
  refine lv_aload_n hx hb dL_law_471 rfl (lv_at hl 3 rfl) ?_
  refine lv_aload_n hx hb dL_law_472 rfl (lv_at hl 5 rfl) ?_
  refine lv_iload hx hb dL_law_473 (lv_at hl 1 rfl) ?_
  refine lv_iconst (v := 1) hx hb dL_law_475 (by decide) ?_
  refine lv_iadd hx hb dL_law_476 ?_
  refine g_top (y := (nI (3 * n + 1))) (nI_add _ _) ?_
  refine g_sld CX HW hX hsb hsA (k := 3 * n + 1) (by omega) (by omega) dL_law_477 ?_
  refine lv_aload_n hx hb dL_law_478 rfl (lv_at hl 5 rfl) ?_
  refine lv_iload hx hb dL_law_479 (lv_at hl 1 rfl) ?_
  refine lv_iconst (v := 2) hx hb dL_law_481 (by decide) ?_
  refine lv_iadd hx hb dL_law_482 ?_
  refine g_top (y := (nI (3 * n + 2))) (nI_add _ _) ?_
  refine g_sld CX HW hX hsb hsA (k := 3 * n + 2) (by omega) (by omega) dL_law_483 ?_
  refine g_callV (rest := []) CX HW hl.1 ((wXo cI a1 0  ++ (wVo cI a1 (0 + 1) (vh Z1) (vc Z1) (vA Z1 0) (vA Z1 1) (vA Z1 2) ++ (wR cI a1 ((0 + 1) + 4) (vr Z1) (vA Z1 3) (vA Z1 4) (vA Z1 5) (vA Z1 6) ++ (wS cI a1 ((0 + 1) + 9) (vs Z1) (vA Z1 7) (vA Z1 8) (vA Z1 9) (vA Z1 10) (vA Z1 11) (vA Z1 12) qt1 qp1 ++ (wVo cI a1 (0 + 19) (vh T1) (vc T1) (vA T1 0) (vA T1 1) (vA T1 2) ++ (wR cI a1 ((0 + 19) + 4) (vr T1) (vA T1 3) (vA T1 4) (vA T1 5) (vA T1 6) ++ (wS cI a1 ((0 + 19) + 9) (vs T1) (vA T1 7) (vA T1 8) (vA T1 9) (vA T1 10) (vA T1 11) (vA T1 12) qt21 qp21))))))) ++ [(b, .inl (cL, 1, .inr (.inl f1)))]) [] (c_X5_skier 0 Z th my qu T2 ri2 my2 qu2 (xs (3 * n + 1)) (xs (3 * n + 2)) hI.1 hM hQ hU hh) rfl 0 rfl rfl gL_law_X5_skier rfl ⟨rfl, hd_X5_skier⟩ ⟨rfl, rfl, (Nat.le_of_ble_eq_true rfl), (Nat.le_of_ble_eq_true rfl)⟩ ⟨hc, hs⟩ rfl rfl (Nat.le_of_ble_eq_true rfl) dL_law_484 (fun v w1 H locs hp HW => ?_)
  obtain ⟨Z2, r2, my1, qu1, T3, ri3, my3, qu3, hm2, hM1, rfl, rfl⟩ := hp
  have HW : Hw D A s (((wXo cI a1 0  ++ (wVo cI a1 (0 + 1) (vh Z1) (vc Z1) (vA Z1 0) (vA Z1 1) (vA Z1 2) ++ (wR cI a1 ((0 + 1) + 4) (vr Z1) (vA Z1 3) (vA Z1 4) (vA Z1 5) (vA Z1 6) ++ (wS cI a1 ((0 + 1) + 9) (vs Z1) (vA Z1 7) (vA Z1 8) (vA Z1 9) (vA Z1 10) (vA Z1 11) (vA Z1 12) qt1 qp1 ++ (wVo cI a1 (0 + 19) (vh T1) (vc T1) (vA T1 0) (vA T1 1) (vA T1 2) ++ (wR cI a1 ((0 + 19) + 4) (vr T1) (vA T1 3) (vA T1 4) (vA T1 5) (vA T1 6) ++ (wS cI a1 ((0 + 19) + 9) (vs T1) (vA T1 7) (vA T1 8) (vA T1 9) (vA T1 10) (vA T1 11) (vA T1 12) qt21 qp21))))))) ++ [(b, .inl (cL, 1, .inr (.inl f1)))]) ++ (wMo cI a2 0 (kSki Z (xs (3 * n + 1)) (xs (3 * n + 2))) (vA Z2 0) (vA Z2 1) (vr Z2) (vA Z2 3) (vA Z2 4) (vs Z2) (vA Z2 7) ++ (wMS cI a2 (0 + 6) (a2 0) (vh Z2) (vc Z2) (sumP Z2) (vA Z2 5) (vA Z2 6) (vA Z2 8) (vA Z2 9) (vA Z2 10) (vA Z2 11) (vA Z2 12) (vA Z2 2) my1 qu1 ++ (wMS cI a2 (0 + 17) (a2 0) (vh T3) (vc T3) ri3 (vA T3 5) (vA T3 6) (vA T3 8) (vA T3 9) (vA T3 10) (vA T3 11) (vA T3 12) (vA T3 2) my3 qu3)))) H locs := HW
  obtain ⟨heq, hreq⟩ := mok_eq hm1 hm2
  rw [heq] at HW hM1
  have HW : Hw D A s (((wXo cI a1 0  ++ (wVo cI a1 (0 + 1) (vh Z1) (vc Z1) (vA Z1 0) (vA Z1 1) (vA Z1 2) ++ (wR cI a1 ((0 + 1) + 4) (vr Z1) (vA Z1 3) (vA Z1 4) (vA Z1 5) (vA Z1 6) ++ (wS cI a1 ((0 + 1) + 9) (vs Z1) (vA Z1 7) (vA Z1 8) (vA Z1 9) (vA Z1 10) (vA Z1 11) (vA Z1 12) qt1 qp1 ++ (wVo cI a1 (0 + 19) (vh T1) (vc T1) (vA T1 0) (vA T1 1) (vA T1 2) ++ (wR cI a1 ((0 + 19) + 4) (vr T1) (vA T1 3) (vA T1 4) (vA T1 5) (vA T1 6) ++ (wS cI a1 ((0 + 19) + 9) (vs T1) (vA T1 7) (vA T1 8) (vA T1 9) (vA T1 10) (vA T1 11) (vA T1 12) qt21 qp21))))))) ++ [(b, .inl (cL, 1, .inr (.inl f1)))]) ++ (wMo cI a2 0 (kSki Z (xs (3 * n + 1)) (xs (3 * n + 2))) (vA Z1 0) (vA Z1 1) (vr Z1) (vA Z1 3) (vA Z1 4) (vs Z1) (vA Z1 7) ++ (wMS cI a2 (0 + 6) (a2 0) (vh Z1) (vc Z1) (sumP Z1) (vA Z1 5) (vA Z1 6) (vA Z1 8) (vA Z1 9) (vA Z1 10) (vA Z1 11) (vA Z1 12) (vA Z1 2) my1 qu1 ++ (wMS cI a2 (0 + 17) (a2 0) (vh T3) (vc T3) ri3 (vA T3 5) (vA T3 6) (vA T3 8) (vA T3 9) (vA T3 10) (vA T3 11) (vA T3 12) (vA T3 2) my3 qu3)))) H locs := HW
  have hZ1 := mok_li hm1 hI (li_sSki hI)
  refine W.eq (g2 := F0 m 487 ls [.int r2]) rfl ?_
  refine lv_istore (lv' := [(6, .int r2), (5, .int (kSki Z (xs (3 * n + 1)) (xs (3 * n + 2)))), (4, .int (nI (3 * n))), (3, .ref b), (2, .ref (a2 0)), (1, .ref (a1 0)), (0, .ref sb)]) hx hb dL_law_487 hl (Nat.le_of_ble_eq_true rfl) rfl (fun ls hl => ?_)
  refine lv_aload_n hx hb dL_law_489 rfl (lv_at hl 4 rfl) ?_
  refine g_callV (rest := []) CX HW hl.1 ((wXo cI a1 0  ++ (wVo cI a1 (0 + 1) (vh Z1) (vc Z1) (vA Z1 0) (vA Z1 1) (vA Z1 2) ++ (wR cI a1 ((0 + 1) + 4) (vr Z1) (vA Z1 3) (vA Z1 4) (vA Z1 5) (vA Z1 6) ++ (wS cI a1 ((0 + 1) + 9) (vs Z1) (vA Z1 7) (vA Z1 8) (vA Z1 9) (vA Z1 10) (vA Z1 11) (vA Z1 12) qt1 qp1 ++ (wVo cI a1 (0 + 19) (vh T1) (vc T1) (vA T1 0) (vA T1 1) (vA T1 2) ++ (wR cI a1 ((0 + 19) + 4) (vr T1) (vA T1 3) (vA T1 4) (vA T1 5) (vA T1 6) ++ (wS cI a1 ((0 + 19) + 9) (vs T1) (vA T1 7) (vA T1 8) (vA T1 9) (vA T1 10) (vA T1 11) (vA T1 12) qt21 qp21))))))) ++ [(b, .inl (cL, 1, .inr (.inl f1)))]) (wMS cI a2 (0 + 6) (a2 0) (vh Z1) (vc Z1) (sumP Z1) (vA Z1 5) (vA Z1 6) (vA Z1 8) (vA Z1 9) (vA Z1 10) (vA Z1 11) (vA Z1 12) (vA Z1 2) my1 qu1 ++ (wMS cI a2 (0 + 17) (a2 0) (vh T3) (vc T3) ri3 (vA T3 5) (vA T3 6) (vA T3 8) (vA T3 9) (vA T3 10) (vA T3 11) (vA T3 12) (vA T3 2) my3 qu3)) (c_X5_thrown 0 Z1 (kSki Z (xs (3 * n + 1)) (xs (3 * n + 2)))) (by simp only [List.append_assoc]) 0 rfl rfl gL_law_X5_thrown rfl ⟨rfl, hd_X5_thrown⟩ ⟨rfl, rfl, (Nat.le_of_ble_eq_true rfl), (Nat.le_of_ble_eq_true rfl)⟩ ⟨hc, hs⟩ rfl rfl (Nat.le_of_ble_eq_true rfl) dL_law_490 (fun v w1 H locs hp HW => ?_)
  obtain ⟨rfl, rfl⟩ := hp
  have HW : Hw D A s (((wXo cI a1 0  ++ (wVo cI a1 (0 + 1) (vh Z1) (vc Z1) (vA Z1 0) (vA Z1 1) (vA Z1 2) ++ (wR cI a1 ((0 + 1) + 4) (vr Z1) (vA Z1 3) (vA Z1 4) (vA Z1 5) (vA Z1 6) ++ (wS cI a1 ((0 + 1) + 9) (vs Z1) (vA Z1 7) (vA Z1 8) (vA Z1 9) (vA Z1 10) (vA Z1 11) (vA Z1 12) qt1 qp1 ++ (wVo cI a1 (0 + 19) (vh T1) (vc T1) (vA T1 0) (vA T1 1) (vA T1 2) ++ (wR cI a1 ((0 + 19) + 4) (vr T1) (vA T1 3) (vA T1 4) (vA T1 5) (vA T1 6) ++ (wS cI a1 ((0 + 19) + 9) (vs T1) (vA T1 7) (vA T1 8) (vA T1 9) (vA T1 10) (vA T1 11) (vA T1 12) qt21 qp21))))))) ++ [(b, .inl (cL, 1, .inr (.inl f1)))]) ++ (wMo cI a2 0 (kSki Z (xs (3 * n + 1)) (xs (3 * n + 2))) (vA Z1 0) (vA Z1 1) (vr Z1) (vA Z1 3) (vA Z1 4) (vs Z1) (vA Z1 7) ++ (wMS cI a2 (0 + 6) (a2 0) (vh Z1) (vc Z1) (sumP Z1) (vA Z1 5) (vA Z1 6) (vA Z1 8) (vA Z1 9) (vA Z1 10) (vA Z1 11) (vA Z1 12) (vA Z1 2) my1 qu1 ++ (wMS cI a2 (0 + 17) (a2 0) (vh T3) (vc T3) ri3 (vA T3 5) (vA T3 6) (vA T3 8) (vA T3 9) (vA T3 10) (vA T3 11) (vA T3 12) (vA T3 2) my3 qu3)))) H locs := HW
  refine W.eq (g2 := F0 m 493 ls [.int (kSki Z (xs (3 * n + 1)) (xs (3 * n + 2)))]) rfl ?_
  refine lv_iload hx hb dL_law_493 (lv_at hl 1 rfl) ?_
  refine lv_icmp_eq (tgt := 500) hx hb dL_law_495 (by decide) (fun _ => ?_) (fun c9 => absurd rfl c9)
  refine lv_iload hx hb dL_law_500 (lv_at hl 1 rfl) ?_
  refine lv_if_ne (tgt := 517) hx hb dL_law_502 (by decide) (fun _ => ?_) (fun c8 => ?_)
  rotate_left
  · have e9 : f1 0 = Int32.toInt64 r2 := by rw [hf1 c8, hreq c8]
    refine lv_aload_n hx hb dL_law_505 rfl (lv_at hl 3 rfl) ?_
    refine lv_iconst (v := 0) hx hb dL_law_506 (by decide) ?_
    refine g_lld CX HW 37 (k := 0) rfl rfl rfl (by decide) (by decide) dL_law_507 ?_
    rw [e9]
    refine lv_iload hx hb dL_law_508 (lv_at hl 0 rfl) ?_
    refine lv_i2l (v := Int32.toInt64 r2) hx hb dL_law_510 rfl ?_
    refine W.lcmp hx hb dL_law_511 ?_
    rw [lcmp_self]
    refine lv_if_eq (tgt := 517) hx hb dL_law_512 (by decide) (fun _ => ?_) (fun c7 => absurd rfl c7)
    refine lv_goto (tgt := 1418) hx hb dL_law_517 (by decide) ?_
    exact kk Z1 _ _ _ hZ1.1 (by have := hZ1.2; omega) ⟨qt1, qp1, T1, qt21, qp21, f1, (kSki Z (xs (3 * n + 1)) (xs (3 * n + 2))), my1, qu1, T3, ri3, my3, qu3, hR1, hM1, HW⟩ (lv_sub hl [2, 3, 4, 5, 6] rfl)
  · skip
    refine lv_goto (tgt := 1418) hx hb dL_law_517 (by decide) ?_
    exact kk Z1 _ _ _ hZ1.1 (by have := hZ1.2; omega) ⟨qt1, qp1, T1, qt21, qp21, f1, (kSki Z (xs (3 * n + 1)) (xs (3 * n + 2))), my1, qu1, T3, ri3, my3, qu3, hR1, hM1, HW⟩ (lv_sub hl [2, 3, 4, 5, 6] rfl)

set_option maxRecDepth 100000 in
set_option maxHeartbeats 4000000 in
theorem st_wax (hst : l.stackTraces = false) (CX : Cx p s m args meth c cL_law 9 ret RL wsL_law D (ty2 cI cL) A) (hZ : Zs A s s.heap) (hX : va_X sb L xs s s.heap) (hsb : sb < s.heap.size) (hsA : ¬ A sb) (hL : L ≤ 1536) (hn : 3 * n + 3 ≤ L) (hI : LI Z) (hv : vh Z ≤ 60 * n) (HL : LR D cI cL A s a1 a2 b Z H locs) (hl : lv_has ls 9 [(4, .int (nI (3 * n))), (3, .ref b), (2, .ref (a2 0)), (1, .ref (a1 0)), (0, .ref sb)]) (hc : cells + 1 ≤ 1128) (hs : slots + 6 ≤ 8896)
    (kk : ∀ (Z1 : VS) (H1 : Heap) (locs1 : List Loc) (ls1 : Array Slot), LI Z1 → vh Z1 ≤ 60 * (n + 1) → LR D cI cL A s a1 a2 b Z1 H1 locs1 → lv_has ls1 9 [(4, .int (nI (3 * n))), (3, .ref b), (2, .ref (a2 0)), (1, .ref (a1 0)), (0, .ref sb)] → W p l e room_1 s m args below meth c H1 locs1 (cells + 1) (slots + 6) Q (F0 m 1418 ls1 [])) : W p l e room_1 s m args below meth c H locs cells slots Q (F0 m 520 ls []) := by
  obtain ⟨qt, qp, T, qt2, qp2, f, th, my, qu, T2, ri2, my2, qu2, hR, hM, HW⟩ := HL
  obtain ⟨hx, hb, hml, hr, hown, hts, hK, hA, hlk⟩ := id CX
  have hh : vh Z + 100 < 2 ^ 31 := by omega
  have hU : QU (vq Z) := rep_qu hR hI.1.2.1
  have hQ : Qk (vs Z) (vq Z) := rep_qok hR
  have hjq := take_lt hR hI.1.2.1
  refine lv_aload_n hx hb dL_law_520 rfl (lv_at hl 3 rfl) ?_
  refine lv_aload_n hx hb dL_law_521 rfl (lv_at hl 4 rfl) ?_
  refine lv_iload hx hb dL_law_522 (lv_at hl 0 rfl) ?_
  refine lv_iconst (v := 1) hx hb dL_law_524 (by decide) ?_
  refine lv_iadd hx hb dL_law_525 ?_
  refine g_top (y := (nI (3 * n + 1))) (nI_add _ _) ?_
  refine g_sld CX HW hX hsb hsA (k := 3 * n + 1) (by omega) (by omega) dL_law_526 ?_
  refine lv_aload_n hx hb dL_law_527 rfl (lv_at hl 4 rfl) ?_
  refine lv_iload hx hb dL_law_528 (lv_at hl 0 rfl) ?_
  refine lv_iconst (v := 2) hx hb dL_law_530 (by decide) ?_
  refine lv_iadd hx hb dL_law_531 ?_
  refine g_top (y := (nI (3 * n + 2))) (nI_add _ _) ?_
  refine g_sld CX HW hX hsb hsA (k := 3 * n + 2) (by omega) (by omega) dL_law_532 ?_
  refine lv_aload_n hx hb dL_law_533 rfl (lv_at hl 1 rfl) ?_
  refine gx_callSX (rest := []) CX hZ HW hl.1 [] (wMo cI a2 0 th (vA Z 0) (vA Z 1) (vr Z) (vA Z 3) (vA Z 4) (vs Z) (vA Z 7) ++ (wMS cI a2 (0 + 6) (a2 0) (vh Z) (vc Z) (sumP Z) (vA Z 5) (vA Z 6) (vA Z 8) (vA Z 9) (vA Z 10) (vA Z 11) (vA Z 12) (vA Z 2) my qu ++ (wMS cI a2 (0 + 17) (a2 0) (vh T2) (vc T2) ri2 (vA T2 5) (vA T2 6) (vA T2 8) (vA T2 9) (vA T2 10) (vA T2 11) (vA T2 12) (vA T2 2) my2 qu2))) (c_L_wax 0 Z qt qp T qt2 qp2 (xs (3 * n + 1)) (xs (3 * n + 2)) b f hst hI.1 hR hh) rfl gL_law_L_wax rfl hd_L_wax ⟨rfl, rfl, (Nat.le_of_ble_eq_true rfl), (Nat.le_of_ble_eq_true rfl)⟩ ⟨hc, hs⟩ rfl rfl (Nat.le_of_ble_eq_true rfl) dL_law_534 (fun E ce q9 w1 H locs hp HW hce hcv hcl => hp.elim) (fun v w1 H locs hp HW => ?_)
  obtain ⟨Z1, r1, f1, qt1, qp1, T1, qt21, qp21, hm1, hf1, hR1, rfl, rfl⟩ := hp
  have HW : Hw D A s (((wXo cI a1 0  ++ (wVo cI a1 (0 + 1) (vh Z1) (vc Z1) (vA Z1 0) (vA Z1 1) (vA Z1 2) ++ (wR cI a1 ((0 + 1) + 4) (vr Z1) (vA Z1 3) (vA Z1 4) (vA Z1 5) (vA Z1 6) ++ (wS cI a1 ((0 + 1) + 9) (vs Z1) (vA Z1 7) (vA Z1 8) (vA Z1 9) (vA Z1 10) (vA Z1 11) (vA Z1 12) qt1 qp1 ++ (wVo cI a1 (0 + 19) (vh T1) (vc T1) (vA T1 0) (vA T1 1) (vA T1 2) ++ (wR cI a1 ((0 + 19) + 4) (vr T1) (vA T1 3) (vA T1 4) (vA T1 5) (vA T1 6) ++ (wS cI a1 ((0 + 19) + 9) (vs T1) (vA T1 7) (vA T1 8) (vA T1 9) (vA T1 10) (vA T1 11) (vA T1 12) qt21 qp21))))))) ++ [(b, .inl (cL, 1, .inr (.inl f1)))]) ++ (wMo cI a2 0 th (vA Z 0) (vA Z 1) (vr Z) (vA Z 3) (vA Z 4) (vs Z) (vA Z 7) ++ (wMS cI a2 (0 + 6) (a2 0) (vh Z) (vc Z) (sumP Z) (vA Z 5) (vA Z 6) (vA Z 8) (vA Z 9) (vA Z 10) (vA Z 11) (vA Z 12) (vA Z 2) my qu ++ (wMS cI a2 (0 + 17) (a2 0) (vh T2) (vc T2) ri2 (vA T2 5) (vA T2 6) (vA T2 8) (vA T2 9) (vA T2 10) (vA T2 11) (vA T2 12) (vA T2 2) my2 qu2)))) H locs := HW
  refine W.eq (g2 := F0 m 537 ls [.int (kWax Z (xs (3 * n + 1)) (xs (3 * n + 2)))]) rfl ?_
  refine lv_istore (lv' := [(5, .int (kWax Z (xs (3 * n + 1)) (xs (3 * n + 2)))), (4, .int (nI (3 * n))), (3, .ref b), (2, .ref (a2 0)), (1, .ref (a1 0)), (0, .ref sb)]) hx hb dL_law_537 hl (Nat.le_of_ble_eq_true rfl) rfl (fun ls hl => ?_)
  refine lv_aload_n hx hb dL_law_539 rfl (lv_at hl 3 rfl) ?_
  refine lv_aload_n hx hb dL_law_540 rfl (lv_at hl 5 rfl) ?_
  refine lv_iload hx hb dL_law_541 (lv_at hl 1 rfl) ?_
  refine lv_iconst (v := 1) hx hb dL_law_543 (by decide) ?_
  refine lv_iadd hx hb dL_law_544 ?_
  refine g_top (y := (nI (3 * n + 1))) (nI_add _ _) ?_
  refine g_sld CX HW hX hsb hsA (k := 3 * n + 1) (by omega) (by omega) dL_law_545 ?_
  refine lv_aload_n hx hb dL_law_546 rfl (lv_at hl 5 rfl) ?_
  refine lv_iload hx hb dL_law_547 (lv_at hl 1 rfl) ?_
  refine lv_iconst (v := 2) hx hb dL_law_549 (by decide) ?_
  refine lv_iadd hx hb dL_law_550 ?_
  refine g_top (y := (nI (3 * n + 2))) (nI_add _ _) ?_
  refine g_sld CX HW hX hsb hsA (k := 3 * n + 2) (by omega) (by omega) dL_law_551 ?_
  refine g_callV (rest := []) CX HW hl.1 ((wXo cI a1 0  ++ (wVo cI a1 (0 + 1) (vh Z1) (vc Z1) (vA Z1 0) (vA Z1 1) (vA Z1 2) ++ (wR cI a1 ((0 + 1) + 4) (vr Z1) (vA Z1 3) (vA Z1 4) (vA Z1 5) (vA Z1 6) ++ (wS cI a1 ((0 + 1) + 9) (vs Z1) (vA Z1 7) (vA Z1 8) (vA Z1 9) (vA Z1 10) (vA Z1 11) (vA Z1 12) qt1 qp1 ++ (wVo cI a1 (0 + 19) (vh T1) (vc T1) (vA T1 0) (vA T1 1) (vA T1 2) ++ (wR cI a1 ((0 + 19) + 4) (vr T1) (vA T1 3) (vA T1 4) (vA T1 5) (vA T1 6) ++ (wS cI a1 ((0 + 19) + 9) (vs T1) (vA T1 7) (vA T1 8) (vA T1 9) (vA T1 10) (vA T1 11) (vA T1 12) qt21 qp21))))))) ++ [(b, .inl (cL, 1, .inr (.inl f1)))]) [] (c_X5_wax 0 Z th my qu T2 ri2 my2 qu2 (xs (3 * n + 1)) (xs (3 * n + 2)) hI.1 hM hQ hU hh) rfl 0 rfl rfl gL_law_X5_wax rfl ⟨rfl, hd_X5_wax⟩ ⟨rfl, rfl, (Nat.le_of_ble_eq_true rfl), (Nat.le_of_ble_eq_true rfl)⟩ ⟨hc, hs⟩ rfl rfl (Nat.le_of_ble_eq_true rfl) dL_law_552 (fun v w1 H locs hp HW => ?_)
  obtain ⟨Z2, r2, my1, qu1, T3, ri3, my3, qu3, hm2, hM1, rfl, rfl⟩ := hp
  have HW : Hw D A s (((wXo cI a1 0  ++ (wVo cI a1 (0 + 1) (vh Z1) (vc Z1) (vA Z1 0) (vA Z1 1) (vA Z1 2) ++ (wR cI a1 ((0 + 1) + 4) (vr Z1) (vA Z1 3) (vA Z1 4) (vA Z1 5) (vA Z1 6) ++ (wS cI a1 ((0 + 1) + 9) (vs Z1) (vA Z1 7) (vA Z1 8) (vA Z1 9) (vA Z1 10) (vA Z1 11) (vA Z1 12) qt1 qp1 ++ (wVo cI a1 (0 + 19) (vh T1) (vc T1) (vA T1 0) (vA T1 1) (vA T1 2) ++ (wR cI a1 ((0 + 19) + 4) (vr T1) (vA T1 3) (vA T1 4) (vA T1 5) (vA T1 6) ++ (wS cI a1 ((0 + 19) + 9) (vs T1) (vA T1 7) (vA T1 8) (vA T1 9) (vA T1 10) (vA T1 11) (vA T1 12) qt21 qp21))))))) ++ [(b, .inl (cL, 1, .inr (.inl f1)))]) ++ (wMo cI a2 0 (kWax Z (xs (3 * n + 1)) (xs (3 * n + 2))) (vA Z2 0) (vA Z2 1) (vr Z2) (vA Z2 3) (vA Z2 4) (vs Z2) (vA Z2 7) ++ (wMS cI a2 (0 + 6) (a2 0) (vh Z2) (vc Z2) (sumP Z2) (vA Z2 5) (vA Z2 6) (vA Z2 8) (vA Z2 9) (vA Z2 10) (vA Z2 11) (vA Z2 12) (vA Z2 2) my1 qu1 ++ (wMS cI a2 (0 + 17) (a2 0) (vh T3) (vc T3) ri3 (vA T3 5) (vA T3 6) (vA T3 8) (vA T3 9) (vA T3 10) (vA T3 11) (vA T3 12) (vA T3 2) my3 qu3)))) H locs := HW
  obtain ⟨heq, hreq⟩ := mok_eq hm1 hm2
  rw [heq] at HW hM1
  have HW : Hw D A s (((wXo cI a1 0  ++ (wVo cI a1 (0 + 1) (vh Z1) (vc Z1) (vA Z1 0) (vA Z1 1) (vA Z1 2) ++ (wR cI a1 ((0 + 1) + 4) (vr Z1) (vA Z1 3) (vA Z1 4) (vA Z1 5) (vA Z1 6) ++ (wS cI a1 ((0 + 1) + 9) (vs Z1) (vA Z1 7) (vA Z1 8) (vA Z1 9) (vA Z1 10) (vA Z1 11) (vA Z1 12) qt1 qp1 ++ (wVo cI a1 (0 + 19) (vh T1) (vc T1) (vA T1 0) (vA T1 1) (vA T1 2) ++ (wR cI a1 ((0 + 19) + 4) (vr T1) (vA T1 3) (vA T1 4) (vA T1 5) (vA T1 6) ++ (wS cI a1 ((0 + 19) + 9) (vs T1) (vA T1 7) (vA T1 8) (vA T1 9) (vA T1 10) (vA T1 11) (vA T1 12) qt21 qp21))))))) ++ [(b, .inl (cL, 1, .inr (.inl f1)))]) ++ (wMo cI a2 0 (kWax Z (xs (3 * n + 1)) (xs (3 * n + 2))) (vA Z1 0) (vA Z1 1) (vr Z1) (vA Z1 3) (vA Z1 4) (vs Z1) (vA Z1 7) ++ (wMS cI a2 (0 + 6) (a2 0) (vh Z1) (vc Z1) (sumP Z1) (vA Z1 5) (vA Z1 6) (vA Z1 8) (vA Z1 9) (vA Z1 10) (vA Z1 11) (vA Z1 12) (vA Z1 2) my1 qu1 ++ (wMS cI a2 (0 + 17) (a2 0) (vh T3) (vc T3) ri3 (vA T3 5) (vA T3 6) (vA T3 8) (vA T3 9) (vA T3 10) (vA T3 11) (vA T3 12) (vA T3 2) my3 qu3)))) H locs := HW
  have hZ1 := mok_li hm1 hI (li_sWax hI)
  refine W.eq (g2 := F0 m 555 ls [.int r2]) rfl ?_
  refine lv_istore (lv' := [(6, .int r2), (5, .int (kWax Z (xs (3 * n + 1)) (xs (3 * n + 2)))), (4, .int (nI (3 * n))), (3, .ref b), (2, .ref (a2 0)), (1, .ref (a1 0)), (0, .ref sb)]) hx hb dL_law_555 hl (Nat.le_of_ble_eq_true rfl) rfl (fun ls hl => ?_)
  refine lv_aload_n hx hb dL_law_557 rfl (lv_at hl 4 rfl) ?_
  refine g_callV (rest := []) CX HW hl.1 ((wXo cI a1 0  ++ (wVo cI a1 (0 + 1) (vh Z1) (vc Z1) (vA Z1 0) (vA Z1 1) (vA Z1 2) ++ (wR cI a1 ((0 + 1) + 4) (vr Z1) (vA Z1 3) (vA Z1 4) (vA Z1 5) (vA Z1 6) ++ (wS cI a1 ((0 + 1) + 9) (vs Z1) (vA Z1 7) (vA Z1 8) (vA Z1 9) (vA Z1 10) (vA Z1 11) (vA Z1 12) qt1 qp1 ++ (wVo cI a1 (0 + 19) (vh T1) (vc T1) (vA T1 0) (vA T1 1) (vA T1 2) ++ (wR cI a1 ((0 + 19) + 4) (vr T1) (vA T1 3) (vA T1 4) (vA T1 5) (vA T1 6) ++ (wS cI a1 ((0 + 19) + 9) (vs T1) (vA T1 7) (vA T1 8) (vA T1 9) (vA T1 10) (vA T1 11) (vA T1 12) qt21 qp21))))))) ++ [(b, .inl (cL, 1, .inr (.inl f1)))]) (wMS cI a2 (0 + 6) (a2 0) (vh Z1) (vc Z1) (sumP Z1) (vA Z1 5) (vA Z1 6) (vA Z1 8) (vA Z1 9) (vA Z1 10) (vA Z1 11) (vA Z1 12) (vA Z1 2) my1 qu1 ++ (wMS cI a2 (0 + 17) (a2 0) (vh T3) (vc T3) ri3 (vA T3 5) (vA T3 6) (vA T3 8) (vA T3 9) (vA T3 10) (vA T3 11) (vA T3 12) (vA T3 2) my3 qu3)) (c_X5_thrown 0 Z1 (kWax Z (xs (3 * n + 1)) (xs (3 * n + 2)))) (by simp only [List.append_assoc]) 0 rfl rfl gL_law_X5_thrown rfl ⟨rfl, hd_X5_thrown⟩ ⟨rfl, rfl, (Nat.le_of_ble_eq_true rfl), (Nat.le_of_ble_eq_true rfl)⟩ ⟨hc, hs⟩ rfl rfl (Nat.le_of_ble_eq_true rfl) dL_law_558 (fun v w1 H locs hp HW => ?_)
  obtain ⟨rfl, rfl⟩ := hp
  have HW : Hw D A s (((wXo cI a1 0  ++ (wVo cI a1 (0 + 1) (vh Z1) (vc Z1) (vA Z1 0) (vA Z1 1) (vA Z1 2) ++ (wR cI a1 ((0 + 1) + 4) (vr Z1) (vA Z1 3) (vA Z1 4) (vA Z1 5) (vA Z1 6) ++ (wS cI a1 ((0 + 1) + 9) (vs Z1) (vA Z1 7) (vA Z1 8) (vA Z1 9) (vA Z1 10) (vA Z1 11) (vA Z1 12) qt1 qp1 ++ (wVo cI a1 (0 + 19) (vh T1) (vc T1) (vA T1 0) (vA T1 1) (vA T1 2) ++ (wR cI a1 ((0 + 19) + 4) (vr T1) (vA T1 3) (vA T1 4) (vA T1 5) (vA T1 6) ++ (wS cI a1 ((0 + 19) + 9) (vs T1) (vA T1 7) (vA T1 8) (vA T1 9) (vA T1 10) (vA T1 11) (vA T1 12) qt21 qp21))))))) ++ [(b, .inl (cL, 1, .inr (.inl f1)))]) ++ (wMo cI a2 0 (kWax Z (xs (3 * n + 1)) (xs (3 * n + 2))) (vA Z1 0) (vA Z1 1) (vr Z1) (vA Z1 3) (vA Z1 4) (vs Z1) (vA Z1 7) ++ (wMS cI a2 (0 + 6) (a2 0) (vh Z1) (vc Z1) (sumP Z1) (vA Z1 5) (vA Z1 6) (vA Z1 8) (vA Z1 9) (vA Z1 10) (vA Z1 11) (vA Z1 12) (vA Z1 2) my1 qu1 ++ (wMS cI a2 (0 + 17) (a2 0) (vh T3) (vc T3) ri3 (vA T3 5) (vA T3 6) (vA T3 8) (vA T3 9) (vA T3 10) (vA T3 11) (vA T3 12) (vA T3 2) my3 qu3)))) H locs := HW
  refine W.eq (g2 := F0 m 561 ls [.int (kWax Z (xs (3 * n + 1)) (xs (3 * n + 2)))]) rfl ?_
  refine lv_iload hx hb dL_law_561 (lv_at hl 1 rfl) ?_
  refine lv_icmp_eq (tgt := 568) hx hb dL_law_563 (by decide) (fun _ => ?_) (fun c9 => absurd rfl c9)
  refine lv_iload hx hb dL_law_568 (lv_at hl 1 rfl) ?_
  refine lv_if_ne (tgt := 585) hx hb dL_law_570 (by decide) (fun _ => ?_) (fun c8 => ?_)
  rotate_left
  · have e9 : f1 0 = Int32.toInt64 r2 := by rw [hf1 c8, hreq c8]
    refine lv_aload_n hx hb dL_law_573 rfl (lv_at hl 3 rfl) ?_
    refine lv_iconst (v := 0) hx hb dL_law_574 (by decide) ?_
    refine g_lld CX HW 37 (k := 0) rfl rfl rfl (by decide) (by decide) dL_law_575 ?_
    rw [e9]
    refine lv_iload hx hb dL_law_576 (lv_at hl 0 rfl) ?_
    refine lv_i2l (v := Int32.toInt64 r2) hx hb dL_law_578 rfl ?_
    refine W.lcmp hx hb dL_law_579 ?_
    rw [lcmp_self]
    refine lv_if_eq (tgt := 585) hx hb dL_law_580 (by decide) (fun _ => ?_) (fun c7 => absurd rfl c7)
    refine lv_goto (tgt := 1418) hx hb dL_law_585 (by decide) ?_
    exact kk Z1 _ _ _ hZ1.1 (by have := hZ1.2; omega) ⟨qt1, qp1, T1, qt21, qp21, f1, (kWax Z (xs (3 * n + 1)) (xs (3 * n + 2))), my1, qu1, T3, ri3, my3, qu3, hR1, hM1, HW⟩ (lv_sub hl [2, 3, 4, 5, 6] rfl)
  · skip
    refine lv_goto (tgt := 1418) hx hb dL_law_585 (by decide) ?_
    exact kk Z1 _ _ _ hZ1.1 (by have := hZ1.2; omega) ⟨qt1, qp1, T1, qt21, qp21, f1, (kWax Z (xs (3 * n + 1)) (xs (3 * n + 2))), my1, qu1, T3, ri3, my3, qu3, hR1, hM1, HW⟩ (lv_sub hl [2, 3, 4, 5, 6] rfl)

set_option maxRecDepth 100000 in
set_option maxHeartbeats 4000000 in
theorem st_join (hst : l.stackTraces = false) (CX : Cx p s m args meth c cL_law 9 ret RL wsL_law D (ty2 cI cL) A) (hZ : Zs A s s.heap) (hX : va_X sb L xs s s.heap) (hsb : sb < s.heap.size) (hsA : ¬ A sb) (hL : L ≤ 1536) (hn : 3 * n + 3 ≤ L) (hI : LI Z) (hv : vh Z ≤ 60 * n) (HL : LR D cI cL A s a1 a2 b Z H locs) (hl : lv_has ls 9 [(4, .int (nI (3 * n))), (3, .ref b), (2, .ref (a2 0)), (1, .ref (a1 0)), (0, .ref sb)]) (hc : cells + 1 ≤ 1128) (hs : slots + 6 ≤ 8896)
    (kk : ∀ (Z1 : VS) (H1 : Heap) (locs1 : List Loc) (ls1 : Array Slot), LI Z1 → vh Z1 ≤ 60 * (n + 1) → LR D cI cL A s a1 a2 b Z1 H1 locs1 → lv_has ls1 9 [(4, .int (nI (3 * n))), (3, .ref b), (2, .ref (a2 0)), (1, .ref (a1 0)), (0, .ref sb)] → W p l e room_1 s m args below meth c H1 locs1 (cells + 1) (slots + 6) Q (F0 m 1418 ls1 [])) : W p l e room_1 s m args below meth c H locs cells slots Q (F0 m 588 ls []) := by
  obtain ⟨qt, qp, T, qt2, qp2, f, th, my, qu, T2, ri2, my2, qu2, hR, hM, HW⟩ := HL
  obtain ⟨hx, hb, hml, hr, hown, hts, hK, hA, hlk⟩ := id CX
  have hh : vh Z + 100 < 2 ^ 31 := by omega
  have hU : QU (vq Z) := rep_qu hR hI.1.2.1
  have hQ : Qk (vs Z) (vq Z) := rep_qok hR
  have hjq := take_lt hR hI.1.2.1
  refine lv_aload_n hx hb dL_law_588 rfl (lv_at hl 3 rfl) ?_
  refine lv_aload_n hx hb dL_law_589 rfl (lv_at hl 4 rfl) ?_
  refine lv_iload hx hb dL_law_590 (lv_at hl 0 rfl) ?_
  refine lv_iconst (v := 1) hx hb dL_law_592 (by decide) ?_
  refine lv_iadd hx hb dL_law_593 ?_
  refine g_top (y := (nI (3 * n + 1))) (nI_add _ _) ?_
  refine g_sld CX HW hX hsb hsA (k := 3 * n + 1) (by omega) (by omega) dL_law_594 ?_
  refine lv_aload_n hx hb dL_law_595 rfl (lv_at hl 4 rfl) ?_
  refine lv_iload hx hb dL_law_596 (lv_at hl 0 rfl) ?_
  refine lv_iconst (v := 2) hx hb dL_law_598 (by decide) ?_
  refine lv_iadd hx hb dL_law_599 ?_
  refine g_top (y := (nI (3 * n + 2))) (nI_add _ _) ?_
  refine g_sld CX HW hX hsb hsA (k := 3 * n + 2) (by omega) (by omega) dL_law_600 ?_
  refine lv_aload_n hx hb dL_law_601 rfl (lv_at hl 1 rfl) ?_
  refine gx_callSX (rest := []) CX hZ HW hl.1 [] (wMo cI a2 0 th (vA Z 0) (vA Z 1) (vr Z) (vA Z 3) (vA Z 4) (vs Z) (vA Z 7) ++ (wMS cI a2 (0 + 6) (a2 0) (vh Z) (vc Z) (sumP Z) (vA Z 5) (vA Z 6) (vA Z 8) (vA Z 9) (vA Z 10) (vA Z 11) (vA Z 12) (vA Z 2) my qu ++ (wMS cI a2 (0 + 17) (a2 0) (vh T2) (vc T2) ri2 (vA T2 5) (vA T2 6) (vA T2 8) (vA T2 9) (vA T2 10) (vA T2 11) (vA T2 12) (vA T2 2) my2 qu2))) (c_L_join 0 Z qt qp T qt2 qp2 (xs (3 * n + 1)) (xs (3 * n + 2)) b f hst hI.1 hR hh) rfl gL_law_L_join rfl hd_L_join ⟨rfl, rfl, (Nat.le_of_ble_eq_true rfl), (Nat.le_of_ble_eq_true rfl)⟩ ⟨hc, hs⟩ rfl rfl (Nat.le_of_ble_eq_true rfl) dL_law_602 (fun E ce q9 w1 H locs hp HW hce hcv hcl => hp.elim) (fun v w1 H locs hp HW => ?_)
  obtain ⟨Z1, r1, f1, qt1, qp1, T1, qt21, qp21, hm1, hf1, hR1, rfl, rfl⟩ := hp
  have HW : Hw D A s (((wXo cI a1 0  ++ (wVo cI a1 (0 + 1) (vh Z1) (vc Z1) (vA Z1 0) (vA Z1 1) (vA Z1 2) ++ (wR cI a1 ((0 + 1) + 4) (vr Z1) (vA Z1 3) (vA Z1 4) (vA Z1 5) (vA Z1 6) ++ (wS cI a1 ((0 + 1) + 9) (vs Z1) (vA Z1 7) (vA Z1 8) (vA Z1 9) (vA Z1 10) (vA Z1 11) (vA Z1 12) qt1 qp1 ++ (wVo cI a1 (0 + 19) (vh T1) (vc T1) (vA T1 0) (vA T1 1) (vA T1 2) ++ (wR cI a1 ((0 + 19) + 4) (vr T1) (vA T1 3) (vA T1 4) (vA T1 5) (vA T1 6) ++ (wS cI a1 ((0 + 19) + 9) (vs T1) (vA T1 7) (vA T1 8) (vA T1 9) (vA T1 10) (vA T1 11) (vA T1 12) qt21 qp21))))))) ++ [(b, .inl (cL, 1, .inr (.inl f1)))]) ++ (wMo cI a2 0 th (vA Z 0) (vA Z 1) (vr Z) (vA Z 3) (vA Z 4) (vs Z) (vA Z 7) ++ (wMS cI a2 (0 + 6) (a2 0) (vh Z) (vc Z) (sumP Z) (vA Z 5) (vA Z 6) (vA Z 8) (vA Z 9) (vA Z 10) (vA Z 11) (vA Z 12) (vA Z 2) my qu ++ (wMS cI a2 (0 + 17) (a2 0) (vh T2) (vc T2) ri2 (vA T2 5) (vA T2 6) (vA T2 8) (vA T2 9) (vA T2 10) (vA T2 11) (vA T2 12) (vA T2 2) my2 qu2)))) H locs := HW
  refine W.eq (g2 := F0 m 605 ls [.int (kJoin Z (xs (3 * n + 1)) (xs (3 * n + 2)))]) rfl ?_
  refine lv_istore (lv' := [(5, .int (kJoin Z (xs (3 * n + 1)) (xs (3 * n + 2)))), (4, .int (nI (3 * n))), (3, .ref b), (2, .ref (a2 0)), (1, .ref (a1 0)), (0, .ref sb)]) hx hb dL_law_605 hl (Nat.le_of_ble_eq_true rfl) rfl (fun ls hl => ?_)
  refine lv_aload_n hx hb dL_law_607 rfl (lv_at hl 3 rfl) ?_
  refine lv_aload_n hx hb dL_law_608 rfl (lv_at hl 5 rfl) ?_
  refine lv_iload hx hb dL_law_609 (lv_at hl 1 rfl) ?_
  refine lv_iconst (v := 1) hx hb dL_law_611 (by decide) ?_
  refine lv_iadd hx hb dL_law_612 ?_
  refine g_top (y := (nI (3 * n + 1))) (nI_add _ _) ?_
  refine g_sld CX HW hX hsb hsA (k := 3 * n + 1) (by omega) (by omega) dL_law_613 ?_
  refine lv_aload_n hx hb dL_law_614 rfl (lv_at hl 5 rfl) ?_
  refine lv_iload hx hb dL_law_615 (lv_at hl 1 rfl) ?_
  refine lv_iconst (v := 2) hx hb dL_law_617 (by decide) ?_
  refine lv_iadd hx hb dL_law_618 ?_
  refine g_top (y := (nI (3 * n + 2))) (nI_add _ _) ?_
  refine g_sld CX HW hX hsb hsA (k := 3 * n + 2) (by omega) (by omega) dL_law_619 ?_
  refine g_callV (rest := []) CX HW hl.1 ((wXo cI a1 0  ++ (wVo cI a1 (0 + 1) (vh Z1) (vc Z1) (vA Z1 0) (vA Z1 1) (vA Z1 2) ++ (wR cI a1 ((0 + 1) + 4) (vr Z1) (vA Z1 3) (vA Z1 4) (vA Z1 5) (vA Z1 6) ++ (wS cI a1 ((0 + 1) + 9) (vs Z1) (vA Z1 7) (vA Z1 8) (vA Z1 9) (vA Z1 10) (vA Z1 11) (vA Z1 12) qt1 qp1 ++ (wVo cI a1 (0 + 19) (vh T1) (vc T1) (vA T1 0) (vA T1 1) (vA T1 2) ++ (wR cI a1 ((0 + 19) + 4) (vr T1) (vA T1 3) (vA T1 4) (vA T1 5) (vA T1 6) ++ (wS cI a1 ((0 + 19) + 9) (vs T1) (vA T1 7) (vA T1 8) (vA T1 9) (vA T1 10) (vA T1 11) (vA T1 12) qt21 qp21))))))) ++ [(b, .inl (cL, 1, .inr (.inl f1)))]) [] (c_X5_join 0 Z th my qu T2 ri2 my2 qu2 (xs (3 * n + 1)) (xs (3 * n + 2)) hI.1 hM hQ hU hh hjq) rfl 0 rfl rfl gL_law_X5_join rfl ⟨rfl, hd_X5_join⟩ ⟨rfl, rfl, (Nat.le_of_ble_eq_true rfl), (Nat.le_of_ble_eq_true rfl)⟩ ⟨hc, hs⟩ rfl rfl (Nat.le_of_ble_eq_true rfl) dL_law_620 (fun v w1 H locs hp HW => ?_)
  obtain ⟨Z2, r2, my1, qu1, T3, ri3, my3, qu3, hm2, hM1, rfl, rfl⟩ := hp
  have HW : Hw D A s (((wXo cI a1 0  ++ (wVo cI a1 (0 + 1) (vh Z1) (vc Z1) (vA Z1 0) (vA Z1 1) (vA Z1 2) ++ (wR cI a1 ((0 + 1) + 4) (vr Z1) (vA Z1 3) (vA Z1 4) (vA Z1 5) (vA Z1 6) ++ (wS cI a1 ((0 + 1) + 9) (vs Z1) (vA Z1 7) (vA Z1 8) (vA Z1 9) (vA Z1 10) (vA Z1 11) (vA Z1 12) qt1 qp1 ++ (wVo cI a1 (0 + 19) (vh T1) (vc T1) (vA T1 0) (vA T1 1) (vA T1 2) ++ (wR cI a1 ((0 + 19) + 4) (vr T1) (vA T1 3) (vA T1 4) (vA T1 5) (vA T1 6) ++ (wS cI a1 ((0 + 19) + 9) (vs T1) (vA T1 7) (vA T1 8) (vA T1 9) (vA T1 10) (vA T1 11) (vA T1 12) qt21 qp21))))))) ++ [(b, .inl (cL, 1, .inr (.inl f1)))]) ++ (wMo cI a2 0 (kJoin Z (xs (3 * n + 1)) (xs (3 * n + 2))) (vA Z2 0) (vA Z2 1) (vr Z2) (vA Z2 3) (vA Z2 4) (vs Z2) (vA Z2 7) ++ (wMS cI a2 (0 + 6) (a2 0) (vh Z2) (vc Z2) (sumP Z2) (vA Z2 5) (vA Z2 6) (vA Z2 8) (vA Z2 9) (vA Z2 10) (vA Z2 11) (vA Z2 12) (vA Z2 2) my1 qu1 ++ (wMS cI a2 (0 + 17) (a2 0) (vh T3) (vc T3) ri3 (vA T3 5) (vA T3 6) (vA T3 8) (vA T3 9) (vA T3 10) (vA T3 11) (vA T3 12) (vA T3 2) my3 qu3)))) H locs := HW
  obtain ⟨heq, hreq⟩ := mok_eq hm1 hm2
  rw [heq] at HW hM1
  have HW : Hw D A s (((wXo cI a1 0  ++ (wVo cI a1 (0 + 1) (vh Z1) (vc Z1) (vA Z1 0) (vA Z1 1) (vA Z1 2) ++ (wR cI a1 ((0 + 1) + 4) (vr Z1) (vA Z1 3) (vA Z1 4) (vA Z1 5) (vA Z1 6) ++ (wS cI a1 ((0 + 1) + 9) (vs Z1) (vA Z1 7) (vA Z1 8) (vA Z1 9) (vA Z1 10) (vA Z1 11) (vA Z1 12) qt1 qp1 ++ (wVo cI a1 (0 + 19) (vh T1) (vc T1) (vA T1 0) (vA T1 1) (vA T1 2) ++ (wR cI a1 ((0 + 19) + 4) (vr T1) (vA T1 3) (vA T1 4) (vA T1 5) (vA T1 6) ++ (wS cI a1 ((0 + 19) + 9) (vs T1) (vA T1 7) (vA T1 8) (vA T1 9) (vA T1 10) (vA T1 11) (vA T1 12) qt21 qp21))))))) ++ [(b, .inl (cL, 1, .inr (.inl f1)))]) ++ (wMo cI a2 0 (kJoin Z (xs (3 * n + 1)) (xs (3 * n + 2))) (vA Z1 0) (vA Z1 1) (vr Z1) (vA Z1 3) (vA Z1 4) (vs Z1) (vA Z1 7) ++ (wMS cI a2 (0 + 6) (a2 0) (vh Z1) (vc Z1) (sumP Z1) (vA Z1 5) (vA Z1 6) (vA Z1 8) (vA Z1 9) (vA Z1 10) (vA Z1 11) (vA Z1 12) (vA Z1 2) my1 qu1 ++ (wMS cI a2 (0 + 17) (a2 0) (vh T3) (vc T3) ri3 (vA T3 5) (vA T3 6) (vA T3 8) (vA T3 9) (vA T3 10) (vA T3 11) (vA T3 12) (vA T3 2) my3 qu3)))) H locs := HW
  have hZ1 := mok_li hm1 hI (li_sJoin hI)
  refine W.eq (g2 := F0 m 623 ls [.int r2]) rfl ?_
  refine lv_istore (lv' := [(6, .int r2), (5, .int (kJoin Z (xs (3 * n + 1)) (xs (3 * n + 2)))), (4, .int (nI (3 * n))), (3, .ref b), (2, .ref (a2 0)), (1, .ref (a1 0)), (0, .ref sb)]) hx hb dL_law_623 hl (Nat.le_of_ble_eq_true rfl) rfl (fun ls hl => ?_)
  refine lv_aload_n hx hb dL_law_625 rfl (lv_at hl 4 rfl) ?_
  refine g_callV (rest := []) CX HW hl.1 ((wXo cI a1 0  ++ (wVo cI a1 (0 + 1) (vh Z1) (vc Z1) (vA Z1 0) (vA Z1 1) (vA Z1 2) ++ (wR cI a1 ((0 + 1) + 4) (vr Z1) (vA Z1 3) (vA Z1 4) (vA Z1 5) (vA Z1 6) ++ (wS cI a1 ((0 + 1) + 9) (vs Z1) (vA Z1 7) (vA Z1 8) (vA Z1 9) (vA Z1 10) (vA Z1 11) (vA Z1 12) qt1 qp1 ++ (wVo cI a1 (0 + 19) (vh T1) (vc T1) (vA T1 0) (vA T1 1) (vA T1 2) ++ (wR cI a1 ((0 + 19) + 4) (vr T1) (vA T1 3) (vA T1 4) (vA T1 5) (vA T1 6) ++ (wS cI a1 ((0 + 19) + 9) (vs T1) (vA T1 7) (vA T1 8) (vA T1 9) (vA T1 10) (vA T1 11) (vA T1 12) qt21 qp21))))))) ++ [(b, .inl (cL, 1, .inr (.inl f1)))]) (wMS cI a2 (0 + 6) (a2 0) (vh Z1) (vc Z1) (sumP Z1) (vA Z1 5) (vA Z1 6) (vA Z1 8) (vA Z1 9) (vA Z1 10) (vA Z1 11) (vA Z1 12) (vA Z1 2) my1 qu1 ++ (wMS cI a2 (0 + 17) (a2 0) (vh T3) (vc T3) ri3 (vA T3 5) (vA T3 6) (vA T3 8) (vA T3 9) (vA T3 10) (vA T3 11) (vA T3 12) (vA T3 2) my3 qu3)) (c_X5_thrown 0 Z1 (kJoin Z (xs (3 * n + 1)) (xs (3 * n + 2)))) (by simp only [List.append_assoc]) 0 rfl rfl gL_law_X5_thrown rfl ⟨rfl, hd_X5_thrown⟩ ⟨rfl, rfl, (Nat.le_of_ble_eq_true rfl), (Nat.le_of_ble_eq_true rfl)⟩ ⟨hc, hs⟩ rfl rfl (Nat.le_of_ble_eq_true rfl) dL_law_626 (fun v w1 H locs hp HW => ?_)
  obtain ⟨rfl, rfl⟩ := hp
  have HW : Hw D A s (((wXo cI a1 0  ++ (wVo cI a1 (0 + 1) (vh Z1) (vc Z1) (vA Z1 0) (vA Z1 1) (vA Z1 2) ++ (wR cI a1 ((0 + 1) + 4) (vr Z1) (vA Z1 3) (vA Z1 4) (vA Z1 5) (vA Z1 6) ++ (wS cI a1 ((0 + 1) + 9) (vs Z1) (vA Z1 7) (vA Z1 8) (vA Z1 9) (vA Z1 10) (vA Z1 11) (vA Z1 12) qt1 qp1 ++ (wVo cI a1 (0 + 19) (vh T1) (vc T1) (vA T1 0) (vA T1 1) (vA T1 2) ++ (wR cI a1 ((0 + 19) + 4) (vr T1) (vA T1 3) (vA T1 4) (vA T1 5) (vA T1 6) ++ (wS cI a1 ((0 + 19) + 9) (vs T1) (vA T1 7) (vA T1 8) (vA T1 9) (vA T1 10) (vA T1 11) (vA T1 12) qt21 qp21))))))) ++ [(b, .inl (cL, 1, .inr (.inl f1)))]) ++ (wMo cI a2 0 (kJoin Z (xs (3 * n + 1)) (xs (3 * n + 2))) (vA Z1 0) (vA Z1 1) (vr Z1) (vA Z1 3) (vA Z1 4) (vs Z1) (vA Z1 7) ++ (wMS cI a2 (0 + 6) (a2 0) (vh Z1) (vc Z1) (sumP Z1) (vA Z1 5) (vA Z1 6) (vA Z1 8) (vA Z1 9) (vA Z1 10) (vA Z1 11) (vA Z1 12) (vA Z1 2) my1 qu1 ++ (wMS cI a2 (0 + 17) (a2 0) (vh T3) (vc T3) ri3 (vA T3 5) (vA T3 6) (vA T3 8) (vA T3 9) (vA T3 10) (vA T3 11) (vA T3 12) (vA T3 2) my3 qu3)))) H locs := HW
  refine W.eq (g2 := F0 m 629 ls [.int (kJoin Z (xs (3 * n + 1)) (xs (3 * n + 2)))]) rfl ?_
  refine lv_iload hx hb dL_law_629 (lv_at hl 1 rfl) ?_
  refine lv_icmp_eq (tgt := 636) hx hb dL_law_631 (by decide) (fun _ => ?_) (fun c9 => absurd rfl c9)
  refine lv_iload hx hb dL_law_636 (lv_at hl 1 rfl) ?_
  refine lv_if_ne (tgt := 653) hx hb dL_law_638 (by decide) (fun _ => ?_) (fun c8 => ?_)
  rotate_left
  · have e9 : f1 0 = Int32.toInt64 r2 := by rw [hf1 c8, hreq c8]
    refine lv_aload_n hx hb dL_law_641 rfl (lv_at hl 3 rfl) ?_
    refine lv_iconst (v := 0) hx hb dL_law_642 (by decide) ?_
    refine g_lld CX HW 37 (k := 0) rfl rfl rfl (by decide) (by decide) dL_law_643 ?_
    rw [e9]
    refine lv_iload hx hb dL_law_644 (lv_at hl 0 rfl) ?_
    refine lv_i2l (v := Int32.toInt64 r2) hx hb dL_law_646 rfl ?_
    refine W.lcmp hx hb dL_law_647 ?_
    rw [lcmp_self]
    refine lv_if_eq (tgt := 653) hx hb dL_law_648 (by decide) (fun _ => ?_) (fun c7 => absurd rfl c7)
    refine lv_goto (tgt := 1418) hx hb dL_law_653 (by decide) ?_
    exact kk Z1 _ _ _ hZ1.1 (by have := hZ1.2; omega) ⟨qt1, qp1, T1, qt21, qp21, f1, (kJoin Z (xs (3 * n + 1)) (xs (3 * n + 2))), my1, qu1, T3, ri3, my3, qu3, hR1, hM1, HW⟩ (lv_sub hl [2, 3, 4, 5, 6] rfl)
  · skip
    refine lv_goto (tgt := 1418) hx hb dL_law_653 (by decide) ?_
    exact kk Z1 _ _ _ hZ1.1 (by have := hZ1.2; omega) ⟨qt1, qp1, T1, qt21, qp21, f1, (kJoin Z (xs (3 * n + 1)) (xs (3 * n + 2))), my1, qu1, T3, ri3, my3, qu3, hR1, hM1, HW⟩ (lv_sub hl [2, 3, 4, 5, 6] rfl)

set_option maxRecDepth 100000 in
set_option maxHeartbeats 4000000 in
theorem st_leave (hst : l.stackTraces = false) (CX : Cx p s m args meth c cL_law 9 ret RL wsL_law D (ty2 cI cL) A) (hZ : Zs A s s.heap) (hX : va_X sb L xs s s.heap) (hsb : sb < s.heap.size) (hsA : ¬ A sb) (hL : L ≤ 1536) (hn : 3 * n + 3 ≤ L) (hI : LI Z) (hv : vh Z ≤ 60 * n) (HL : LR D cI cL A s a1 a2 b Z H locs) (hl : lv_has ls 9 [(4, .int (nI (3 * n))), (3, .ref b), (2, .ref (a2 0)), (1, .ref (a1 0)), (0, .ref sb)]) (hc : cells + 1 ≤ 1128) (hs : slots + 6 ≤ 8896)
    (kk : ∀ (Z1 : VS) (H1 : Heap) (locs1 : List Loc) (ls1 : Array Slot), LI Z1 → vh Z1 ≤ 60 * (n + 1) → LR D cI cL A s a1 a2 b Z1 H1 locs1 → lv_has ls1 9 [(4, .int (nI (3 * n))), (3, .ref b), (2, .ref (a2 0)), (1, .ref (a1 0)), (0, .ref sb)] → W p l e room_1 s m args below meth c H1 locs1 (cells + 1) (slots + 6) Q (F0 m 1418 ls1 [])) : W p l e room_1 s m args below meth c H locs cells slots Q (F0 m 656 ls []) := by
  obtain ⟨qt, qp, T, qt2, qp2, f, th, my, qu, T2, ri2, my2, qu2, hR, hM, HW⟩ := HL
  obtain ⟨hx, hb, hml, hr, hown, hts, hK, hA, hlk⟩ := id CX
  have hh : vh Z + 100 < 2 ^ 31 := by omega
  have hU : QU (vq Z) := rep_qu hR hI.1.2.1
  have hQ : Qk (vs Z) (vq Z) := rep_qok hR
  have hjq := take_lt hR hI.1.2.1
  refine lv_aload_n hx hb dL_law_656 rfl (lv_at hl 3 rfl) ?_
  refine lv_aload_n hx hb dL_law_657 rfl (lv_at hl 4 rfl) ?_
  refine lv_iload hx hb dL_law_658 (lv_at hl 0 rfl) ?_
  refine lv_iconst (v := 1) hx hb dL_law_660 (by decide) ?_
  refine lv_iadd hx hb dL_law_661 ?_
  refine g_top (y := (nI (3 * n + 1))) (nI_add _ _) ?_
  refine g_sld CX HW hX hsb hsA (k := 3 * n + 1) (by omega) (by omega) dL_law_662 ?_
  refine lv_aload_n hx hb dL_law_663 rfl (lv_at hl 1 rfl) ?_
  refine gx_callSX (rest := []) CX hZ HW hl.1 [] (wMo cI a2 0 th (vA Z 0) (vA Z 1) (vr Z) (vA Z 3) (vA Z 4) (vs Z) (vA Z 7) ++ (wMS cI a2 (0 + 6) (a2 0) (vh Z) (vc Z) (sumP Z) (vA Z 5) (vA Z 6) (vA Z 8) (vA Z 9) (vA Z 10) (vA Z 11) (vA Z 12) (vA Z 2) my qu ++ (wMS cI a2 (0 + 17) (a2 0) (vh T2) (vc T2) ri2 (vA T2 5) (vA T2 6) (vA T2 8) (vA T2 9) (vA T2 10) (vA T2 11) (vA T2 12) (vA T2 2) my2 qu2))) (c_L_leave 0 Z qt qp T qt2 qp2 (xs (3 * n + 1)) b f hst hI.1 hR hh) rfl gL_law_L_leave rfl hd_L_leave ⟨rfl, rfl, (Nat.le_of_ble_eq_true rfl), (Nat.le_of_ble_eq_true rfl)⟩ ⟨hc, hs⟩ rfl rfl (Nat.le_of_ble_eq_true rfl) dL_law_664 (fun E ce q9 w1 H locs hp HW hce hcv hcl => hp.elim) (fun v w1 H locs hp HW => ?_)
  obtain ⟨Z1, r1, f1, qt1, qp1, T1, qt21, qp21, hm1, hf1, hR1, rfl, rfl⟩ := hp
  have HW : Hw D A s (((wXo cI a1 0  ++ (wVo cI a1 (0 + 1) (vh Z1) (vc Z1) (vA Z1 0) (vA Z1 1) (vA Z1 2) ++ (wR cI a1 ((0 + 1) + 4) (vr Z1) (vA Z1 3) (vA Z1 4) (vA Z1 5) (vA Z1 6) ++ (wS cI a1 ((0 + 1) + 9) (vs Z1) (vA Z1 7) (vA Z1 8) (vA Z1 9) (vA Z1 10) (vA Z1 11) (vA Z1 12) qt1 qp1 ++ (wVo cI a1 (0 + 19) (vh T1) (vc T1) (vA T1 0) (vA T1 1) (vA T1 2) ++ (wR cI a1 ((0 + 19) + 4) (vr T1) (vA T1 3) (vA T1 4) (vA T1 5) (vA T1 6) ++ (wS cI a1 ((0 + 19) + 9) (vs T1) (vA T1 7) (vA T1 8) (vA T1 9) (vA T1 10) (vA T1 11) (vA T1 12) qt21 qp21))))))) ++ [(b, .inl (cL, 1, .inr (.inl f1)))]) ++ (wMo cI a2 0 th (vA Z 0) (vA Z 1) (vr Z) (vA Z 3) (vA Z 4) (vs Z) (vA Z 7) ++ (wMS cI a2 (0 + 6) (a2 0) (vh Z) (vc Z) (sumP Z) (vA Z 5) (vA Z 6) (vA Z 8) (vA Z 9) (vA Z 10) (vA Z 11) (vA Z 12) (vA Z 2) my qu ++ (wMS cI a2 (0 + 17) (a2 0) (vh T2) (vc T2) ri2 (vA T2 5) (vA T2 6) (vA T2 8) (vA T2 9) (vA T2 10) (vA T2 11) (vA T2 12) (vA T2 2) my2 qu2)))) H locs := HW
  refine W.eq (g2 := F0 m 667 ls [.int (kLea Z (xs (3 * n + 1)))]) rfl ?_
  refine lv_istore (lv' := [(5, .int (kLea Z (xs (3 * n + 1)))), (4, .int (nI (3 * n))), (3, .ref b), (2, .ref (a2 0)), (1, .ref (a1 0)), (0, .ref sb)]) hx hb dL_law_667 hl (Nat.le_of_ble_eq_true rfl) rfl (fun ls hl => ?_)
  refine lv_aload_n hx hb dL_law_669 rfl (lv_at hl 3 rfl) ?_
  refine lv_aload_n hx hb dL_law_670 rfl (lv_at hl 5 rfl) ?_
  refine lv_iload hx hb dL_law_671 (lv_at hl 1 rfl) ?_
  refine lv_iconst (v := 1) hx hb dL_law_673 (by decide) ?_
  refine lv_iadd hx hb dL_law_674 ?_
  refine g_top (y := (nI (3 * n + 1))) (nI_add _ _) ?_
  refine g_sld CX HW hX hsb hsA (k := 3 * n + 1) (by omega) (by omega) dL_law_675 ?_
  refine g_callV (rest := []) CX HW hl.1 ((wXo cI a1 0  ++ (wVo cI a1 (0 + 1) (vh Z1) (vc Z1) (vA Z1 0) (vA Z1 1) (vA Z1 2) ++ (wR cI a1 ((0 + 1) + 4) (vr Z1) (vA Z1 3) (vA Z1 4) (vA Z1 5) (vA Z1 6) ++ (wS cI a1 ((0 + 1) + 9) (vs Z1) (vA Z1 7) (vA Z1 8) (vA Z1 9) (vA Z1 10) (vA Z1 11) (vA Z1 12) qt1 qp1 ++ (wVo cI a1 (0 + 19) (vh T1) (vc T1) (vA T1 0) (vA T1 1) (vA T1 2) ++ (wR cI a1 ((0 + 19) + 4) (vr T1) (vA T1 3) (vA T1 4) (vA T1 5) (vA T1 6) ++ (wS cI a1 ((0 + 19) + 9) (vs T1) (vA T1 7) (vA T1 8) (vA T1 9) (vA T1 10) (vA T1 11) (vA T1 12) qt21 qp21))))))) ++ [(b, .inl (cL, 1, .inr (.inl f1)))]) [] (c_X5_leave 0 Z th my qu T2 ri2 my2 qu2 (xs (3 * n + 1)) hI.1 hM hQ hU hh) rfl 0 rfl rfl gL_law_X5_leave rfl ⟨rfl, hd_X5_leave⟩ ⟨rfl, rfl, (Nat.le_of_ble_eq_true rfl), (Nat.le_of_ble_eq_true rfl)⟩ ⟨hc, hs⟩ rfl rfl (Nat.le_of_ble_eq_true rfl) dL_law_676 (fun v w1 H locs hp HW => ?_)
  obtain ⟨Z2, r2, my1, qu1, T3, ri3, my3, qu3, hm2, hM1, rfl, rfl⟩ := hp
  have HW : Hw D A s (((wXo cI a1 0  ++ (wVo cI a1 (0 + 1) (vh Z1) (vc Z1) (vA Z1 0) (vA Z1 1) (vA Z1 2) ++ (wR cI a1 ((0 + 1) + 4) (vr Z1) (vA Z1 3) (vA Z1 4) (vA Z1 5) (vA Z1 6) ++ (wS cI a1 ((0 + 1) + 9) (vs Z1) (vA Z1 7) (vA Z1 8) (vA Z1 9) (vA Z1 10) (vA Z1 11) (vA Z1 12) qt1 qp1 ++ (wVo cI a1 (0 + 19) (vh T1) (vc T1) (vA T1 0) (vA T1 1) (vA T1 2) ++ (wR cI a1 ((0 + 19) + 4) (vr T1) (vA T1 3) (vA T1 4) (vA T1 5) (vA T1 6) ++ (wS cI a1 ((0 + 19) + 9) (vs T1) (vA T1 7) (vA T1 8) (vA T1 9) (vA T1 10) (vA T1 11) (vA T1 12) qt21 qp21))))))) ++ [(b, .inl (cL, 1, .inr (.inl f1)))]) ++ (wMo cI a2 0 (kLea Z (xs (3 * n + 1))) (vA Z2 0) (vA Z2 1) (vr Z2) (vA Z2 3) (vA Z2 4) (vs Z2) (vA Z2 7) ++ (wMS cI a2 (0 + 6) (a2 0) (vh Z2) (vc Z2) (sumP Z2) (vA Z2 5) (vA Z2 6) (vA Z2 8) (vA Z2 9) (vA Z2 10) (vA Z2 11) (vA Z2 12) (vA Z2 2) my1 qu1 ++ (wMS cI a2 (0 + 17) (a2 0) (vh T3) (vc T3) ri3 (vA T3 5) (vA T3 6) (vA T3 8) (vA T3 9) (vA T3 10) (vA T3 11) (vA T3 12) (vA T3 2) my3 qu3)))) H locs := HW
  obtain ⟨heq, hreq⟩ := mok_eq hm1 hm2
  rw [heq] at HW hM1
  have HW : Hw D A s (((wXo cI a1 0  ++ (wVo cI a1 (0 + 1) (vh Z1) (vc Z1) (vA Z1 0) (vA Z1 1) (vA Z1 2) ++ (wR cI a1 ((0 + 1) + 4) (vr Z1) (vA Z1 3) (vA Z1 4) (vA Z1 5) (vA Z1 6) ++ (wS cI a1 ((0 + 1) + 9) (vs Z1) (vA Z1 7) (vA Z1 8) (vA Z1 9) (vA Z1 10) (vA Z1 11) (vA Z1 12) qt1 qp1 ++ (wVo cI a1 (0 + 19) (vh T1) (vc T1) (vA T1 0) (vA T1 1) (vA T1 2) ++ (wR cI a1 ((0 + 19) + 4) (vr T1) (vA T1 3) (vA T1 4) (vA T1 5) (vA T1 6) ++ (wS cI a1 ((0 + 19) + 9) (vs T1) (vA T1 7) (vA T1 8) (vA T1 9) (vA T1 10) (vA T1 11) (vA T1 12) qt21 qp21))))))) ++ [(b, .inl (cL, 1, .inr (.inl f1)))]) ++ (wMo cI a2 0 (kLea Z (xs (3 * n + 1))) (vA Z1 0) (vA Z1 1) (vr Z1) (vA Z1 3) (vA Z1 4) (vs Z1) (vA Z1 7) ++ (wMS cI a2 (0 + 6) (a2 0) (vh Z1) (vc Z1) (sumP Z1) (vA Z1 5) (vA Z1 6) (vA Z1 8) (vA Z1 9) (vA Z1 10) (vA Z1 11) (vA Z1 12) (vA Z1 2) my1 qu1 ++ (wMS cI a2 (0 + 17) (a2 0) (vh T3) (vc T3) ri3 (vA T3 5) (vA T3 6) (vA T3 8) (vA T3 9) (vA T3 10) (vA T3 11) (vA T3 12) (vA T3 2) my3 qu3)))) H locs := HW
  have hZ1 := mok_li hm1 hI (li_sLea hI)
  refine W.eq (g2 := F0 m 679 ls [.int r2]) rfl ?_
  refine lv_istore (lv' := [(6, .int r2), (5, .int (kLea Z (xs (3 * n + 1)))), (4, .int (nI (3 * n))), (3, .ref b), (2, .ref (a2 0)), (1, .ref (a1 0)), (0, .ref sb)]) hx hb dL_law_679 hl (Nat.le_of_ble_eq_true rfl) rfl (fun ls hl => ?_)
  refine lv_aload_n hx hb dL_law_681 rfl (lv_at hl 4 rfl) ?_
  refine g_callV (rest := []) CX HW hl.1 ((wXo cI a1 0  ++ (wVo cI a1 (0 + 1) (vh Z1) (vc Z1) (vA Z1 0) (vA Z1 1) (vA Z1 2) ++ (wR cI a1 ((0 + 1) + 4) (vr Z1) (vA Z1 3) (vA Z1 4) (vA Z1 5) (vA Z1 6) ++ (wS cI a1 ((0 + 1) + 9) (vs Z1) (vA Z1 7) (vA Z1 8) (vA Z1 9) (vA Z1 10) (vA Z1 11) (vA Z1 12) qt1 qp1 ++ (wVo cI a1 (0 + 19) (vh T1) (vc T1) (vA T1 0) (vA T1 1) (vA T1 2) ++ (wR cI a1 ((0 + 19) + 4) (vr T1) (vA T1 3) (vA T1 4) (vA T1 5) (vA T1 6) ++ (wS cI a1 ((0 + 19) + 9) (vs T1) (vA T1 7) (vA T1 8) (vA T1 9) (vA T1 10) (vA T1 11) (vA T1 12) qt21 qp21))))))) ++ [(b, .inl (cL, 1, .inr (.inl f1)))]) (wMS cI a2 (0 + 6) (a2 0) (vh Z1) (vc Z1) (sumP Z1) (vA Z1 5) (vA Z1 6) (vA Z1 8) (vA Z1 9) (vA Z1 10) (vA Z1 11) (vA Z1 12) (vA Z1 2) my1 qu1 ++ (wMS cI a2 (0 + 17) (a2 0) (vh T3) (vc T3) ri3 (vA T3 5) (vA T3 6) (vA T3 8) (vA T3 9) (vA T3 10) (vA T3 11) (vA T3 12) (vA T3 2) my3 qu3)) (c_X5_thrown 0 Z1 (kLea Z (xs (3 * n + 1)))) (by simp only [List.append_assoc]) 0 rfl rfl gL_law_X5_thrown rfl ⟨rfl, hd_X5_thrown⟩ ⟨rfl, rfl, (Nat.le_of_ble_eq_true rfl), (Nat.le_of_ble_eq_true rfl)⟩ ⟨hc, hs⟩ rfl rfl (Nat.le_of_ble_eq_true rfl) dL_law_682 (fun v w1 H locs hp HW => ?_)
  obtain ⟨rfl, rfl⟩ := hp
  have HW : Hw D A s (((wXo cI a1 0  ++ (wVo cI a1 (0 + 1) (vh Z1) (vc Z1) (vA Z1 0) (vA Z1 1) (vA Z1 2) ++ (wR cI a1 ((0 + 1) + 4) (vr Z1) (vA Z1 3) (vA Z1 4) (vA Z1 5) (vA Z1 6) ++ (wS cI a1 ((0 + 1) + 9) (vs Z1) (vA Z1 7) (vA Z1 8) (vA Z1 9) (vA Z1 10) (vA Z1 11) (vA Z1 12) qt1 qp1 ++ (wVo cI a1 (0 + 19) (vh T1) (vc T1) (vA T1 0) (vA T1 1) (vA T1 2) ++ (wR cI a1 ((0 + 19) + 4) (vr T1) (vA T1 3) (vA T1 4) (vA T1 5) (vA T1 6) ++ (wS cI a1 ((0 + 19) + 9) (vs T1) (vA T1 7) (vA T1 8) (vA T1 9) (vA T1 10) (vA T1 11) (vA T1 12) qt21 qp21))))))) ++ [(b, .inl (cL, 1, .inr (.inl f1)))]) ++ (wMo cI a2 0 (kLea Z (xs (3 * n + 1))) (vA Z1 0) (vA Z1 1) (vr Z1) (vA Z1 3) (vA Z1 4) (vs Z1) (vA Z1 7) ++ (wMS cI a2 (0 + 6) (a2 0) (vh Z1) (vc Z1) (sumP Z1) (vA Z1 5) (vA Z1 6) (vA Z1 8) (vA Z1 9) (vA Z1 10) (vA Z1 11) (vA Z1 12) (vA Z1 2) my1 qu1 ++ (wMS cI a2 (0 + 17) (a2 0) (vh T3) (vc T3) ri3 (vA T3 5) (vA T3 6) (vA T3 8) (vA T3 9) (vA T3 10) (vA T3 11) (vA T3 12) (vA T3 2) my3 qu3)))) H locs := HW
  refine W.eq (g2 := F0 m 685 ls [.int (kLea Z (xs (3 * n + 1)))]) rfl ?_
  refine lv_iload hx hb dL_law_685 (lv_at hl 1 rfl) ?_
  refine lv_icmp_eq (tgt := 692) hx hb dL_law_687 (by decide) (fun _ => ?_) (fun c9 => absurd rfl c9)
  refine lv_iload hx hb dL_law_692 (lv_at hl 1 rfl) ?_
  refine lv_if_ne (tgt := 716) hx hb dL_law_694 (by decide) (fun _ => ?_) (fun c8 => ?_)
  rotate_left
  · have e9 : f1 0 = Int32.toInt64 r2 := by rw [hf1 c8, hreq c8]
    refine lv_aload_n hx hb dL_law_697 rfl (lv_at hl 3 rfl) ?_
    refine lv_iconst (v := 0) hx hb dL_law_698 (by decide) ?_
    refine g_lld CX HW 37 (k := 0) rfl rfl rfl (by decide) (by decide) dL_law_699 ?_
    rw [e9]
    refine lv_iload hx hb dL_law_700 (lv_at hl 0 rfl) ?_
    have e8 : r2 = bI (inQ (vq Z) (natI (xs (3 * n + 1)))) := (hm2.2 c8).1
    refine lv_if_eq (tgt := 709) hx hb dL_law_702 (by decide) (fun c7 => ?_) (fun c7 => ?_)
    · rw [c7]
      refine lv_lconst (v := 0) hx hb dL_law_709 (by decide) ?_
      refine W.lcmp hx hb dL_law_710 ?_
      rw [show lg_cmp (Int32.toInt64 ((0 : Int32))) ((0 : Int64)) = 0 from by decide]
      refine lv_if_eq (tgt := 716) hx hb dL_law_711 (by decide) (fun _ => ?_) (fun c7 => absurd rfl c7)
      refine lv_goto (tgt := 1418) hx hb dL_law_716 (by decide) ?_
      exact kk Z1 _ _ _ hZ1.1 (by have := hZ1.2; omega) ⟨qt1, qp1, T1, qt21, qp21, f1, (kLea Z (xs (3 * n + 1))), my1, qu1, T3, ri3, my3, qu3, hR1, hM1, HW⟩ (lv_sub hl [2, 3, 4, 5, 6] rfl)
    · rw [show r2 = 1 from by rcases bI_01 (inQ (vq Z) (natI (xs (3 * n + 1)))) with h9 | h9; (· exact absurd (e8.trans h9) c7); (· exact e8.trans h9)]
      refine lv_lconst (v := 1) hx hb dL_law_705 (by decide) ?_
      refine lv_goto (tgt := 710) hx hb dL_law_706 (by decide) ?_
      refine W.lcmp hx hb dL_law_710 ?_
      rw [show lg_cmp (Int32.toInt64 ((1 : Int32))) ((1 : Int64)) = 0 from by decide]
      refine lv_if_eq (tgt := 716) hx hb dL_law_711 (by decide) (fun _ => ?_) (fun c7 => absurd rfl c7)
      refine lv_goto (tgt := 1418) hx hb dL_law_716 (by decide) ?_
      exact kk Z1 _ _ _ hZ1.1 (by have := hZ1.2; omega) ⟨qt1, qp1, T1, qt21, qp21, f1, (kLea Z (xs (3 * n + 1))), my1, qu1, T3, ri3, my3, qu3, hR1, hM1, HW⟩ (lv_sub hl [2, 3, 4, 5, 6] rfl)
  · skip
    refine lv_goto (tgt := 1418) hx hb dL_law_716 (by decide) ?_
    exact kk Z1 _ _ _ hZ1.1 (by have := hZ1.2; omega) ⟨qt1, qp1, T1, qt21, qp21, f1, (kLea Z (xs (3 * n + 1))), my1, qu1, T3, ri3, my3, qu3, hR1, hM1, HW⟩ (lv_sub hl [2, 3, 4, 5, 6] rfl)

set_option maxRecDepth 100000 in
set_option maxHeartbeats 4000000 in
theorem st_about (hst : l.stackTraces = false) (CX : Cx p s m args meth c cL_law 9 ret RL wsL_law D (ty2 cI cL) A) (hZ : Zs A s s.heap) (hX : va_X sb L xs s s.heap) (hsb : sb < s.heap.size) (hsA : ¬ A sb) (hL : L ≤ 1536) (hn : 3 * n + 3 ≤ L) (hI : LI Z) (hv : vh Z ≤ 60 * n) (HL : LR D cI cL A s a1 a2 b Z H locs) (hl : lv_has ls 9 [(4, .int (nI (3 * n))), (3, .ref b), (2, .ref (a2 0)), (1, .ref (a1 0)), (0, .ref sb)]) (hc : cells + 1 ≤ 1128) (hs : slots + 6 ≤ 8896)
    (kk : ∀ (Z1 : VS) (H1 : Heap) (locs1 : List Loc) (ls1 : Array Slot), LI Z1 → vh Z1 ≤ 60 * (n + 1) → LR D cI cL A s a1 a2 b Z1 H1 locs1 → lv_has ls1 9 [(4, .int (nI (3 * n))), (3, .ref b), (2, .ref (a2 0)), (1, .ref (a1 0)), (0, .ref sb)] → W p l e room_1 s m args below meth c H1 locs1 (cells + 1) (slots + 6) Q (F0 m 1418 ls1 [])) : W p l e room_1 s m args below meth c H locs cells slots Q (F0 m 719 ls []) := by
  obtain ⟨qt, qp, T, qt2, qp2, f, th, my, qu, T2, ri2, my2, qu2, hR, hM, HW⟩ := HL
  obtain ⟨hx, hb, hml, hr, hown, hts, hK, hA, hlk⟩ := id CX
  have hh : vh Z + 100 < 2 ^ 31 := by omega
  have hU : QU (vq Z) := rep_qu hR hI.1.2.1
  have hQ : Qk (vs Z) (vq Z) := rep_qok hR
  have hjq := take_lt hR hI.1.2.1
  refine lv_aload_n hx hb dL_law_719 rfl (lv_at hl 3 rfl) ?_
  refine lv_aload_n hx hb dL_law_720 rfl (lv_at hl 4 rfl) ?_
  refine lv_iload hx hb dL_law_721 (lv_at hl 0 rfl) ?_
  refine lv_iconst (v := 1) hx hb dL_law_723 (by decide) ?_
  refine lv_iadd hx hb dL_law_724 ?_
  refine g_top (y := (nI (3 * n + 1))) (nI_add _ _) ?_
  refine g_sld CX HW hX hsb hsA (k := 3 * n + 1) (by omega) (by omega) dL_law_725 ?_
  refine lv_aload_n hx hb dL_law_726 rfl (lv_at hl 4 rfl) ?_
  refine lv_iload hx hb dL_law_727 (lv_at hl 0 rfl) ?_
  refine lv_iconst (v := 2) hx hb dL_law_729 (by decide) ?_
  refine lv_iadd hx hb dL_law_730 ?_
  refine g_top (y := (nI (3 * n + 2))) (nI_add _ _) ?_
  refine g_sld CX HW hX hsb hsA (k := 3 * n + 2) (by omega) (by omega) dL_law_731 ?_
  refine lv_aload_n hx hb dL_law_732 rfl (lv_at hl 1 rfl) ?_
  refine gx_callSX (rest := []) CX hZ HW hl.1 [] (wMo cI a2 0 th (vA Z 0) (vA Z 1) (vr Z) (vA Z 3) (vA Z 4) (vs Z) (vA Z 7) ++ (wMS cI a2 (0 + 6) (a2 0) (vh Z) (vc Z) (sumP Z) (vA Z 5) (vA Z 6) (vA Z 8) (vA Z 9) (vA Z 10) (vA Z 11) (vA Z 12) (vA Z 2) my qu ++ (wMS cI a2 (0 + 17) (a2 0) (vh T2) (vc T2) ri2 (vA T2 5) (vA T2 6) (vA T2 8) (vA T2 9) (vA T2 10) (vA T2 11) (vA T2 12) (vA T2 2) my2 qu2))) (c_L_about 0 Z qt qp T qt2 qp2 (xs (3 * n + 1)) (xs (3 * n + 2)) b f hst hI.1 hR hh) rfl gL_law_L_about rfl hd_L_about ⟨rfl, rfl, (Nat.le_of_ble_eq_true rfl), (Nat.le_of_ble_eq_true rfl)⟩ ⟨hc, hs⟩ rfl rfl (Nat.le_of_ble_eq_true rfl) dL_law_733 (fun E ce q9 w1 H locs hp HW hce hcv hcl => hp.elim) (fun v w1 H locs hp HW => ?_)
  obtain ⟨Z1, r1, f1, qt1, qp1, T1, qt21, qp21, hm1, hf1, hR1, rfl, rfl⟩ := hp
  have HW : Hw D A s (((wXo cI a1 0  ++ (wVo cI a1 (0 + 1) (vh Z1) (vc Z1) (vA Z1 0) (vA Z1 1) (vA Z1 2) ++ (wR cI a1 ((0 + 1) + 4) (vr Z1) (vA Z1 3) (vA Z1 4) (vA Z1 5) (vA Z1 6) ++ (wS cI a1 ((0 + 1) + 9) (vs Z1) (vA Z1 7) (vA Z1 8) (vA Z1 9) (vA Z1 10) (vA Z1 11) (vA Z1 12) qt1 qp1 ++ (wVo cI a1 (0 + 19) (vh T1) (vc T1) (vA T1 0) (vA T1 1) (vA T1 2) ++ (wR cI a1 ((0 + 19) + 4) (vr T1) (vA T1 3) (vA T1 4) (vA T1 5) (vA T1 6) ++ (wS cI a1 ((0 + 19) + 9) (vs T1) (vA T1 7) (vA T1 8) (vA T1 9) (vA T1 10) (vA T1 11) (vA T1 12) qt21 qp21))))))) ++ [(b, .inl (cL, 1, .inr (.inl f1)))]) ++ (wMo cI a2 0 th (vA Z 0) (vA Z 1) (vr Z) (vA Z 3) (vA Z 4) (vs Z) (vA Z 7) ++ (wMS cI a2 (0 + 6) (a2 0) (vh Z) (vc Z) (sumP Z) (vA Z 5) (vA Z 6) (vA Z 8) (vA Z 9) (vA Z 10) (vA Z 11) (vA Z 12) (vA Z 2) my qu ++ (wMS cI a2 (0 + 17) (a2 0) (vh T2) (vc T2) ri2 (vA T2 5) (vA T2 6) (vA T2 8) (vA T2 9) (vA T2 10) (vA T2 11) (vA T2 12) (vA T2 2) my2 qu2)))) H locs := HW
  refine W.eq (g2 := F0 m 736 ls [.int (kAbo Z (xs (3 * n + 1)) (xs (3 * n + 2)))]) rfl ?_
  refine lv_istore (lv' := [(5, .int (kAbo Z (xs (3 * n + 1)) (xs (3 * n + 2)))), (4, .int (nI (3 * n))), (3, .ref b), (2, .ref (a2 0)), (1, .ref (a1 0)), (0, .ref sb)]) hx hb dL_law_736 hl (Nat.le_of_ble_eq_true rfl) rfl (fun ls hl => ?_)
  refine lv_aload_n hx hb dL_law_738 rfl (lv_at hl 3 rfl) ?_
  refine lv_aload_n hx hb dL_law_739 rfl (lv_at hl 5 rfl) ?_
  refine lv_iload hx hb dL_law_740 (lv_at hl 1 rfl) ?_
  refine lv_iconst (v := 1) hx hb dL_law_742 (by decide) ?_
  refine lv_iadd hx hb dL_law_743 ?_
  refine g_top (y := (nI (3 * n + 1))) (nI_add _ _) ?_
  refine g_sld CX HW hX hsb hsA (k := 3 * n + 1) (by omega) (by omega) dL_law_744 ?_
  refine lv_aload_n hx hb dL_law_745 rfl (lv_at hl 5 rfl) ?_
  refine lv_iload hx hb dL_law_746 (lv_at hl 1 rfl) ?_
  refine lv_iconst (v := 2) hx hb dL_law_748 (by decide) ?_
  refine lv_iadd hx hb dL_law_749 ?_
  refine g_top (y := (nI (3 * n + 2))) (nI_add _ _) ?_
  refine g_sld CX HW hX hsb hsA (k := 3 * n + 2) (by omega) (by omega) dL_law_750 ?_
  refine g_callV (rest := []) CX HW hl.1 ((wXo cI a1 0  ++ (wVo cI a1 (0 + 1) (vh Z1) (vc Z1) (vA Z1 0) (vA Z1 1) (vA Z1 2) ++ (wR cI a1 ((0 + 1) + 4) (vr Z1) (vA Z1 3) (vA Z1 4) (vA Z1 5) (vA Z1 6) ++ (wS cI a1 ((0 + 1) + 9) (vs Z1) (vA Z1 7) (vA Z1 8) (vA Z1 9) (vA Z1 10) (vA Z1 11) (vA Z1 12) qt1 qp1 ++ (wVo cI a1 (0 + 19) (vh T1) (vc T1) (vA T1 0) (vA T1 1) (vA T1 2) ++ (wR cI a1 ((0 + 19) + 4) (vr T1) (vA T1 3) (vA T1 4) (vA T1 5) (vA T1 6) ++ (wS cI a1 ((0 + 19) + 9) (vs T1) (vA T1 7) (vA T1 8) (vA T1 9) (vA T1 10) (vA T1 11) (vA T1 12) qt21 qp21))))))) ++ [(b, .inl (cL, 1, .inr (.inl f1)))]) [] (c_X5_about 0 Z th my qu T2 ri2 my2 qu2 (xs (3 * n + 1)) (xs (3 * n + 2)) hI.1 hM hQ hU hh) rfl 0 rfl rfl gL_law_X5_about rfl ⟨rfl, hd_X5_about⟩ ⟨rfl, rfl, (Nat.le_of_ble_eq_true rfl), (Nat.le_of_ble_eq_true rfl)⟩ ⟨hc, hs⟩ rfl rfl (Nat.le_of_ble_eq_true rfl) dL_law_751 (fun v w1 H locs hp HW => ?_)
  obtain ⟨Z2, r2, my1, qu1, T3, ri3, my3, qu3, hm2, hM1, rfl, rfl⟩ := hp
  have HW : Hw D A s (((wXo cI a1 0  ++ (wVo cI a1 (0 + 1) (vh Z1) (vc Z1) (vA Z1 0) (vA Z1 1) (vA Z1 2) ++ (wR cI a1 ((0 + 1) + 4) (vr Z1) (vA Z1 3) (vA Z1 4) (vA Z1 5) (vA Z1 6) ++ (wS cI a1 ((0 + 1) + 9) (vs Z1) (vA Z1 7) (vA Z1 8) (vA Z1 9) (vA Z1 10) (vA Z1 11) (vA Z1 12) qt1 qp1 ++ (wVo cI a1 (0 + 19) (vh T1) (vc T1) (vA T1 0) (vA T1 1) (vA T1 2) ++ (wR cI a1 ((0 + 19) + 4) (vr T1) (vA T1 3) (vA T1 4) (vA T1 5) (vA T1 6) ++ (wS cI a1 ((0 + 19) + 9) (vs T1) (vA T1 7) (vA T1 8) (vA T1 9) (vA T1 10) (vA T1 11) (vA T1 12) qt21 qp21))))))) ++ [(b, .inl (cL, 1, .inr (.inl f1)))]) ++ (wMo cI a2 0 (kAbo Z (xs (3 * n + 1)) (xs (3 * n + 2))) (vA Z2 0) (vA Z2 1) (vr Z2) (vA Z2 3) (vA Z2 4) (vs Z2) (vA Z2 7) ++ (wMS cI a2 (0 + 6) (a2 0) (vh Z2) (vc Z2) (sumP Z2) (vA Z2 5) (vA Z2 6) (vA Z2 8) (vA Z2 9) (vA Z2 10) (vA Z2 11) (vA Z2 12) (vA Z2 2) my1 qu1 ++ (wMS cI a2 (0 + 17) (a2 0) (vh T3) (vc T3) ri3 (vA T3 5) (vA T3 6) (vA T3 8) (vA T3 9) (vA T3 10) (vA T3 11) (vA T3 12) (vA T3 2) my3 qu3)))) H locs := HW
  obtain ⟨heq, hreq⟩ := mok_eq hm1 hm2
  rw [heq] at HW hM1
  have HW : Hw D A s (((wXo cI a1 0  ++ (wVo cI a1 (0 + 1) (vh Z1) (vc Z1) (vA Z1 0) (vA Z1 1) (vA Z1 2) ++ (wR cI a1 ((0 + 1) + 4) (vr Z1) (vA Z1 3) (vA Z1 4) (vA Z1 5) (vA Z1 6) ++ (wS cI a1 ((0 + 1) + 9) (vs Z1) (vA Z1 7) (vA Z1 8) (vA Z1 9) (vA Z1 10) (vA Z1 11) (vA Z1 12) qt1 qp1 ++ (wVo cI a1 (0 + 19) (vh T1) (vc T1) (vA T1 0) (vA T1 1) (vA T1 2) ++ (wR cI a1 ((0 + 19) + 4) (vr T1) (vA T1 3) (vA T1 4) (vA T1 5) (vA T1 6) ++ (wS cI a1 ((0 + 19) + 9) (vs T1) (vA T1 7) (vA T1 8) (vA T1 9) (vA T1 10) (vA T1 11) (vA T1 12) qt21 qp21))))))) ++ [(b, .inl (cL, 1, .inr (.inl f1)))]) ++ (wMo cI a2 0 (kAbo Z (xs (3 * n + 1)) (xs (3 * n + 2))) (vA Z1 0) (vA Z1 1) (vr Z1) (vA Z1 3) (vA Z1 4) (vs Z1) (vA Z1 7) ++ (wMS cI a2 (0 + 6) (a2 0) (vh Z1) (vc Z1) (sumP Z1) (vA Z1 5) (vA Z1 6) (vA Z1 8) (vA Z1 9) (vA Z1 10) (vA Z1 11) (vA Z1 12) (vA Z1 2) my1 qu1 ++ (wMS cI a2 (0 + 17) (a2 0) (vh T3) (vc T3) ri3 (vA T3 5) (vA T3 6) (vA T3 8) (vA T3 9) (vA T3 10) (vA T3 11) (vA T3 12) (vA T3 2) my3 qu3)))) H locs := HW
  have hZ1 := mok_li hm1 hI (li_same hI)
  refine W.eq (g2 := F0 m 754 ls [.int r2]) rfl ?_
  refine lv_istore (lv' := [(6, .int r2), (5, .int (kAbo Z (xs (3 * n + 1)) (xs (3 * n + 2)))), (4, .int (nI (3 * n))), (3, .ref b), (2, .ref (a2 0)), (1, .ref (a1 0)), (0, .ref sb)]) hx hb dL_law_754 hl (Nat.le_of_ble_eq_true rfl) rfl (fun ls hl => ?_)
  refine lv_aload_n hx hb dL_law_756 rfl (lv_at hl 4 rfl) ?_
  refine g_callV (rest := []) CX HW hl.1 ((wXo cI a1 0  ++ (wVo cI a1 (0 + 1) (vh Z1) (vc Z1) (vA Z1 0) (vA Z1 1) (vA Z1 2) ++ (wR cI a1 ((0 + 1) + 4) (vr Z1) (vA Z1 3) (vA Z1 4) (vA Z1 5) (vA Z1 6) ++ (wS cI a1 ((0 + 1) + 9) (vs Z1) (vA Z1 7) (vA Z1 8) (vA Z1 9) (vA Z1 10) (vA Z1 11) (vA Z1 12) qt1 qp1 ++ (wVo cI a1 (0 + 19) (vh T1) (vc T1) (vA T1 0) (vA T1 1) (vA T1 2) ++ (wR cI a1 ((0 + 19) + 4) (vr T1) (vA T1 3) (vA T1 4) (vA T1 5) (vA T1 6) ++ (wS cI a1 ((0 + 19) + 9) (vs T1) (vA T1 7) (vA T1 8) (vA T1 9) (vA T1 10) (vA T1 11) (vA T1 12) qt21 qp21))))))) ++ [(b, .inl (cL, 1, .inr (.inl f1)))]) (wMS cI a2 (0 + 6) (a2 0) (vh Z1) (vc Z1) (sumP Z1) (vA Z1 5) (vA Z1 6) (vA Z1 8) (vA Z1 9) (vA Z1 10) (vA Z1 11) (vA Z1 12) (vA Z1 2) my1 qu1 ++ (wMS cI a2 (0 + 17) (a2 0) (vh T3) (vc T3) ri3 (vA T3 5) (vA T3 6) (vA T3 8) (vA T3 9) (vA T3 10) (vA T3 11) (vA T3 12) (vA T3 2) my3 qu3)) (c_X5_thrown 0 Z1 (kAbo Z (xs (3 * n + 1)) (xs (3 * n + 2)))) (by simp only [List.append_assoc]) 0 rfl rfl gL_law_X5_thrown rfl ⟨rfl, hd_X5_thrown⟩ ⟨rfl, rfl, (Nat.le_of_ble_eq_true rfl), (Nat.le_of_ble_eq_true rfl)⟩ ⟨hc, hs⟩ rfl rfl (Nat.le_of_ble_eq_true rfl) dL_law_757 (fun v w1 H locs hp HW => ?_)
  obtain ⟨rfl, rfl⟩ := hp
  have HW : Hw D A s (((wXo cI a1 0  ++ (wVo cI a1 (0 + 1) (vh Z1) (vc Z1) (vA Z1 0) (vA Z1 1) (vA Z1 2) ++ (wR cI a1 ((0 + 1) + 4) (vr Z1) (vA Z1 3) (vA Z1 4) (vA Z1 5) (vA Z1 6) ++ (wS cI a1 ((0 + 1) + 9) (vs Z1) (vA Z1 7) (vA Z1 8) (vA Z1 9) (vA Z1 10) (vA Z1 11) (vA Z1 12) qt1 qp1 ++ (wVo cI a1 (0 + 19) (vh T1) (vc T1) (vA T1 0) (vA T1 1) (vA T1 2) ++ (wR cI a1 ((0 + 19) + 4) (vr T1) (vA T1 3) (vA T1 4) (vA T1 5) (vA T1 6) ++ (wS cI a1 ((0 + 19) + 9) (vs T1) (vA T1 7) (vA T1 8) (vA T1 9) (vA T1 10) (vA T1 11) (vA T1 12) qt21 qp21))))))) ++ [(b, .inl (cL, 1, .inr (.inl f1)))]) ++ (wMo cI a2 0 (kAbo Z (xs (3 * n + 1)) (xs (3 * n + 2))) (vA Z1 0) (vA Z1 1) (vr Z1) (vA Z1 3) (vA Z1 4) (vs Z1) (vA Z1 7) ++ (wMS cI a2 (0 + 6) (a2 0) (vh Z1) (vc Z1) (sumP Z1) (vA Z1 5) (vA Z1 6) (vA Z1 8) (vA Z1 9) (vA Z1 10) (vA Z1 11) (vA Z1 12) (vA Z1 2) my1 qu1 ++ (wMS cI a2 (0 + 17) (a2 0) (vh T3) (vc T3) ri3 (vA T3 5) (vA T3 6) (vA T3 8) (vA T3 9) (vA T3 10) (vA T3 11) (vA T3 12) (vA T3 2) my3 qu3)))) H locs := HW
  refine W.eq (g2 := F0 m 760 ls [.int (kAbo Z (xs (3 * n + 1)) (xs (3 * n + 2)))]) rfl ?_
  refine lv_iload hx hb dL_law_760 (lv_at hl 1 rfl) ?_
  refine lv_icmp_eq (tgt := 767) hx hb dL_law_762 (by decide) (fun _ => ?_) (fun c9 => absurd rfl c9)
  refine lv_iload hx hb dL_law_767 (lv_at hl 1 rfl) ?_
  refine lv_if_ne (tgt := 784) hx hb dL_law_769 (by decide) (fun _ => ?_) (fun c8 => ?_)
  rotate_left
  · have e9 : f1 0 = Int32.toInt64 r2 := by rw [hf1 c8, hreq c8]
    refine lv_aload_n hx hb dL_law_772 rfl (lv_at hl 3 rfl) ?_
    refine lv_iconst (v := 0) hx hb dL_law_773 (by decide) ?_
    refine g_lld CX HW 37 (k := 0) rfl rfl rfl (by decide) (by decide) dL_law_774 ?_
    rw [e9]
    refine lv_iload hx hb dL_law_775 (lv_at hl 0 rfl) ?_
    refine lv_i2l (v := Int32.toInt64 r2) hx hb dL_law_777 rfl ?_
    refine W.lcmp hx hb dL_law_778 ?_
    rw [lcmp_self]
    refine lv_if_eq (tgt := 784) hx hb dL_law_779 (by decide) (fun _ => ?_) (fun c7 => absurd rfl c7)
    refine lv_goto (tgt := 1418) hx hb dL_law_784 (by decide) ?_
    exact kk Z1 _ _ _ hZ1.1 (by have := hZ1.2; omega) ⟨qt1, qp1, T1, qt21, qp21, f1, (kAbo Z (xs (3 * n + 1)) (xs (3 * n + 2))), my1, qu1, T3, ri3, my3, qu3, hR1, hM1, HW⟩ (lv_sub hl [2, 3, 4, 5, 6] rfl)
  · skip
    refine lv_goto (tgt := 1418) hx hb dL_law_784 (by decide) ?_
    exact kk Z1 _ _ _ hZ1.1 (by have := hZ1.2; omega) ⟨qt1, qp1, T1, qt21, qp21, f1, (kAbo Z (xs (3 * n + 1)) (xs (3 * n + 2))), my1, qu1, T3, ri3, my3, qu3, hR1, hM1, HW⟩ (lv_sub hl [2, 3, 4, 5, 6] rfl)

set_option maxRecDepth 100000 in
set_option maxHeartbeats 4000000 in
theorem st_told (hst : l.stackTraces = false) (CX : Cx p s m args meth c cL_law 9 ret RL wsL_law D (ty2 cI cL) A) (hZ : Zs A s s.heap) (hX : va_X sb L xs s s.heap) (hsb : sb < s.heap.size) (hsA : ¬ A sb) (hL : L ≤ 1536) (hn : 3 * n + 3 ≤ L) (hI : LI Z) (hv : vh Z ≤ 60 * n) (HL : LR D cI cL A s a1 a2 b Z H locs) (hl : lv_has ls 9 [(4, .int (nI (3 * n))), (3, .ref b), (2, .ref (a2 0)), (1, .ref (a1 0)), (0, .ref sb)]) (hc : cells + 1 ≤ 1128) (hs : slots + 6 ≤ 8896)
    (kk : ∀ (Z1 : VS) (H1 : Heap) (locs1 : List Loc) (ls1 : Array Slot), LI Z1 → vh Z1 ≤ 60 * (n + 1) → LR D cI cL A s a1 a2 b Z1 H1 locs1 → lv_has ls1 9 [(4, .int (nI (3 * n))), (3, .ref b), (2, .ref (a2 0)), (1, .ref (a1 0)), (0, .ref sb)] → W p l e room_1 s m args below meth c H1 locs1 (cells + 1) (slots + 6) Q (F0 m 1418 ls1 [])) : W p l e room_1 s m args below meth c H locs cells slots Q (F0 m 787 ls []) := by
  obtain ⟨qt, qp, T, qt2, qp2, f, th, my, qu, T2, ri2, my2, qu2, hR, hM, HW⟩ := HL
  obtain ⟨hx, hb, hml, hr, hown, hts, hK, hA, hlk⟩ := id CX
  have hh : vh Z + 100 < 2 ^ 31 := by omega
  have hU : QU (vq Z) := rep_qu hR hI.1.2.1
  have hQ : Qk (vs Z) (vq Z) := rep_qok hR
  have hjq := take_lt hR hI.1.2.1
  refine lv_aload_n hx hb dL_law_787 rfl (lv_at hl 3 rfl) ?_
  refine lv_aload_n hx hb dL_law_788 rfl (lv_at hl 4 rfl) ?_
  refine lv_iload hx hb dL_law_789 (lv_at hl 0 rfl) ?_
  refine lv_iconst (v := 1) hx hb dL_law_791 (by decide) ?_
  refine lv_iadd hx hb dL_law_792 ?_
  refine g_top (y := (nI (3 * n + 1))) (nI_add _ _) ?_
  refine g_sld CX HW hX hsb hsA (k := 3 * n + 1) (by omega) (by omega) dL_law_793 ?_
  refine lv_aload_n hx hb dL_law_794 rfl (lv_at hl 4 rfl) ?_
  refine lv_iload hx hb dL_law_795 (lv_at hl 0 rfl) ?_
  refine lv_iconst (v := 2) hx hb dL_law_797 (by decide) ?_
  refine lv_iadd hx hb dL_law_798 ?_
  refine g_top (y := (nI (3 * n + 2))) (nI_add _ _) ?_
  refine g_sld CX HW hX hsb hsA (k := 3 * n + 2) (by omega) (by omega) dL_law_799 ?_
  refine lv_aload_n hx hb dL_law_800 rfl (lv_at hl 1 rfl) ?_
  refine gx_callSX (rest := []) CX hZ HW hl.1 [] (wMo cI a2 0 th (vA Z 0) (vA Z 1) (vr Z) (vA Z 3) (vA Z 4) (vs Z) (vA Z 7) ++ (wMS cI a2 (0 + 6) (a2 0) (vh Z) (vc Z) (sumP Z) (vA Z 5) (vA Z 6) (vA Z 8) (vA Z 9) (vA Z 10) (vA Z 11) (vA Z 12) (vA Z 2) my qu ++ (wMS cI a2 (0 + 17) (a2 0) (vh T2) (vc T2) ri2 (vA T2 5) (vA T2 6) (vA T2 8) (vA T2 9) (vA T2 10) (vA T2 11) (vA T2 12) (vA T2 2) my2 qu2))) (c_L_told 0 Z qt qp T qt2 qp2 (xs (3 * n + 1)) (xs (3 * n + 2)) b f hst hI.1 hR hh) rfl gL_law_L_told rfl hd_L_told ⟨rfl, rfl, (Nat.le_of_ble_eq_true rfl), (Nat.le_of_ble_eq_true rfl)⟩ ⟨hc, hs⟩ rfl rfl (Nat.le_of_ble_eq_true rfl) dL_law_801 (fun E ce q9 w1 H locs hp HW hce hcv hcl => hp.elim) (fun v w1 H locs hp HW => ?_)
  obtain ⟨Z1, r1, f1, qt1, qp1, T1, qt21, qp21, hm1, hf1, hR1, rfl, rfl⟩ := hp
  have HW : Hw D A s (((wXo cI a1 0  ++ (wVo cI a1 (0 + 1) (vh Z1) (vc Z1) (vA Z1 0) (vA Z1 1) (vA Z1 2) ++ (wR cI a1 ((0 + 1) + 4) (vr Z1) (vA Z1 3) (vA Z1 4) (vA Z1 5) (vA Z1 6) ++ (wS cI a1 ((0 + 1) + 9) (vs Z1) (vA Z1 7) (vA Z1 8) (vA Z1 9) (vA Z1 10) (vA Z1 11) (vA Z1 12) qt1 qp1 ++ (wVo cI a1 (0 + 19) (vh T1) (vc T1) (vA T1 0) (vA T1 1) (vA T1 2) ++ (wR cI a1 ((0 + 19) + 4) (vr T1) (vA T1 3) (vA T1 4) (vA T1 5) (vA T1 6) ++ (wS cI a1 ((0 + 19) + 9) (vs T1) (vA T1 7) (vA T1 8) (vA T1 9) (vA T1 10) (vA T1 11) (vA T1 12) qt21 qp21))))))) ++ [(b, .inl (cL, 1, .inr (.inl f1)))]) ++ (wMo cI a2 0 th (vA Z 0) (vA Z 1) (vr Z) (vA Z 3) (vA Z 4) (vs Z) (vA Z 7) ++ (wMS cI a2 (0 + 6) (a2 0) (vh Z) (vc Z) (sumP Z) (vA Z 5) (vA Z 6) (vA Z 8) (vA Z 9) (vA Z 10) (vA Z 11) (vA Z 12) (vA Z 2) my qu ++ (wMS cI a2 (0 + 17) (a2 0) (vh T2) (vc T2) ri2 (vA T2 5) (vA T2 6) (vA T2 8) (vA T2 9) (vA T2 10) (vA T2 11) (vA T2 12) (vA T2 2) my2 qu2)))) H locs := HW
  refine W.eq (g2 := F0 m 804 ls [.int (kTol Z (xs (3 * n + 1)) (xs (3 * n + 2)))]) rfl ?_
  refine lv_istore (lv' := [(5, .int (kTol Z (xs (3 * n + 1)) (xs (3 * n + 2)))), (4, .int (nI (3 * n))), (3, .ref b), (2, .ref (a2 0)), (1, .ref (a1 0)), (0, .ref sb)]) hx hb dL_law_804 hl (Nat.le_of_ble_eq_true rfl) rfl (fun ls hl => ?_)
  refine lv_aload_n hx hb dL_law_806 rfl (lv_at hl 3 rfl) ?_
  refine lv_aload_n hx hb dL_law_807 rfl (lv_at hl 5 rfl) ?_
  refine lv_iload hx hb dL_law_808 (lv_at hl 1 rfl) ?_
  refine lv_iconst (v := 1) hx hb dL_law_810 (by decide) ?_
  refine lv_iadd hx hb dL_law_811 ?_
  refine g_top (y := (nI (3 * n + 1))) (nI_add _ _) ?_
  refine g_sld CX HW hX hsb hsA (k := 3 * n + 1) (by omega) (by omega) dL_law_812 ?_
  refine lv_aload_n hx hb dL_law_813 rfl (lv_at hl 5 rfl) ?_
  refine lv_iload hx hb dL_law_814 (lv_at hl 1 rfl) ?_
  refine lv_iconst (v := 2) hx hb dL_law_816 (by decide) ?_
  refine lv_iadd hx hb dL_law_817 ?_
  refine g_top (y := (nI (3 * n + 2))) (nI_add _ _) ?_
  refine g_sld CX HW hX hsb hsA (k := 3 * n + 2) (by omega) (by omega) dL_law_818 ?_
  refine g_callV (rest := []) CX HW hl.1 ((wXo cI a1 0  ++ (wVo cI a1 (0 + 1) (vh Z1) (vc Z1) (vA Z1 0) (vA Z1 1) (vA Z1 2) ++ (wR cI a1 ((0 + 1) + 4) (vr Z1) (vA Z1 3) (vA Z1 4) (vA Z1 5) (vA Z1 6) ++ (wS cI a1 ((0 + 1) + 9) (vs Z1) (vA Z1 7) (vA Z1 8) (vA Z1 9) (vA Z1 10) (vA Z1 11) (vA Z1 12) qt1 qp1 ++ (wVo cI a1 (0 + 19) (vh T1) (vc T1) (vA T1 0) (vA T1 1) (vA T1 2) ++ (wR cI a1 ((0 + 19) + 4) (vr T1) (vA T1 3) (vA T1 4) (vA T1 5) (vA T1 6) ++ (wS cI a1 ((0 + 19) + 9) (vs T1) (vA T1 7) (vA T1 8) (vA T1 9) (vA T1 10) (vA T1 11) (vA T1 12) qt21 qp21))))))) ++ [(b, .inl (cL, 1, .inr (.inl f1)))]) [] (c_X5_told 0 Z th my qu T2 ri2 my2 qu2 (xs (3 * n + 1)) (xs (3 * n + 2)) hI.1 hM hQ hU hh) rfl 0 rfl rfl gL_law_X5_told rfl ⟨rfl, hd_X5_told⟩ ⟨rfl, rfl, (Nat.le_of_ble_eq_true rfl), (Nat.le_of_ble_eq_true rfl)⟩ ⟨hc, hs⟩ rfl rfl (Nat.le_of_ble_eq_true rfl) dL_law_819 (fun v w1 H locs hp HW => ?_)
  obtain ⟨Z2, r2, my1, qu1, T3, ri3, my3, qu3, hm2, hM1, rfl, rfl⟩ := hp
  have HW : Hw D A s (((wXo cI a1 0  ++ (wVo cI a1 (0 + 1) (vh Z1) (vc Z1) (vA Z1 0) (vA Z1 1) (vA Z1 2) ++ (wR cI a1 ((0 + 1) + 4) (vr Z1) (vA Z1 3) (vA Z1 4) (vA Z1 5) (vA Z1 6) ++ (wS cI a1 ((0 + 1) + 9) (vs Z1) (vA Z1 7) (vA Z1 8) (vA Z1 9) (vA Z1 10) (vA Z1 11) (vA Z1 12) qt1 qp1 ++ (wVo cI a1 (0 + 19) (vh T1) (vc T1) (vA T1 0) (vA T1 1) (vA T1 2) ++ (wR cI a1 ((0 + 19) + 4) (vr T1) (vA T1 3) (vA T1 4) (vA T1 5) (vA T1 6) ++ (wS cI a1 ((0 + 19) + 9) (vs T1) (vA T1 7) (vA T1 8) (vA T1 9) (vA T1 10) (vA T1 11) (vA T1 12) qt21 qp21))))))) ++ [(b, .inl (cL, 1, .inr (.inl f1)))]) ++ (wMo cI a2 0 (kTol Z (xs (3 * n + 1)) (xs (3 * n + 2))) (vA Z2 0) (vA Z2 1) (vr Z2) (vA Z2 3) (vA Z2 4) (vs Z2) (vA Z2 7) ++ (wMS cI a2 (0 + 6) (a2 0) (vh Z2) (vc Z2) (sumP Z2) (vA Z2 5) (vA Z2 6) (vA Z2 8) (vA Z2 9) (vA Z2 10) (vA Z2 11) (vA Z2 12) (vA Z2 2) my1 qu1 ++ (wMS cI a2 (0 + 17) (a2 0) (vh T3) (vc T3) ri3 (vA T3 5) (vA T3 6) (vA T3 8) (vA T3 9) (vA T3 10) (vA T3 11) (vA T3 12) (vA T3 2) my3 qu3)))) H locs := HW
  obtain ⟨heq, hreq⟩ := mok_eq hm1 hm2
  rw [heq] at HW hM1
  have HW : Hw D A s (((wXo cI a1 0  ++ (wVo cI a1 (0 + 1) (vh Z1) (vc Z1) (vA Z1 0) (vA Z1 1) (vA Z1 2) ++ (wR cI a1 ((0 + 1) + 4) (vr Z1) (vA Z1 3) (vA Z1 4) (vA Z1 5) (vA Z1 6) ++ (wS cI a1 ((0 + 1) + 9) (vs Z1) (vA Z1 7) (vA Z1 8) (vA Z1 9) (vA Z1 10) (vA Z1 11) (vA Z1 12) qt1 qp1 ++ (wVo cI a1 (0 + 19) (vh T1) (vc T1) (vA T1 0) (vA T1 1) (vA T1 2) ++ (wR cI a1 ((0 + 19) + 4) (vr T1) (vA T1 3) (vA T1 4) (vA T1 5) (vA T1 6) ++ (wS cI a1 ((0 + 19) + 9) (vs T1) (vA T1 7) (vA T1 8) (vA T1 9) (vA T1 10) (vA T1 11) (vA T1 12) qt21 qp21))))))) ++ [(b, .inl (cL, 1, .inr (.inl f1)))]) ++ (wMo cI a2 0 (kTol Z (xs (3 * n + 1)) (xs (3 * n + 2))) (vA Z1 0) (vA Z1 1) (vr Z1) (vA Z1 3) (vA Z1 4) (vs Z1) (vA Z1 7) ++ (wMS cI a2 (0 + 6) (a2 0) (vh Z1) (vc Z1) (sumP Z1) (vA Z1 5) (vA Z1 6) (vA Z1 8) (vA Z1 9) (vA Z1 10) (vA Z1 11) (vA Z1 12) (vA Z1 2) my1 qu1 ++ (wMS cI a2 (0 + 17) (a2 0) (vh T3) (vc T3) ri3 (vA T3 5) (vA T3 6) (vA T3 8) (vA T3 9) (vA T3 10) (vA T3 11) (vA T3 12) (vA T3 2) my3 qu3)))) H locs := HW
  have hZ1 := mok_li hm1 hI (li_same hI)
  refine W.eq (g2 := F0 m 822 ls [.int r2]) rfl ?_
  refine lv_istore (lv' := [(6, .int r2), (5, .int (kTol Z (xs (3 * n + 1)) (xs (3 * n + 2)))), (4, .int (nI (3 * n))), (3, .ref b), (2, .ref (a2 0)), (1, .ref (a1 0)), (0, .ref sb)]) hx hb dL_law_822 hl (Nat.le_of_ble_eq_true rfl) rfl (fun ls hl => ?_)
  refine lv_aload_n hx hb dL_law_824 rfl (lv_at hl 4 rfl) ?_
  refine g_callV (rest := []) CX HW hl.1 ((wXo cI a1 0  ++ (wVo cI a1 (0 + 1) (vh Z1) (vc Z1) (vA Z1 0) (vA Z1 1) (vA Z1 2) ++ (wR cI a1 ((0 + 1) + 4) (vr Z1) (vA Z1 3) (vA Z1 4) (vA Z1 5) (vA Z1 6) ++ (wS cI a1 ((0 + 1) + 9) (vs Z1) (vA Z1 7) (vA Z1 8) (vA Z1 9) (vA Z1 10) (vA Z1 11) (vA Z1 12) qt1 qp1 ++ (wVo cI a1 (0 + 19) (vh T1) (vc T1) (vA T1 0) (vA T1 1) (vA T1 2) ++ (wR cI a1 ((0 + 19) + 4) (vr T1) (vA T1 3) (vA T1 4) (vA T1 5) (vA T1 6) ++ (wS cI a1 ((0 + 19) + 9) (vs T1) (vA T1 7) (vA T1 8) (vA T1 9) (vA T1 10) (vA T1 11) (vA T1 12) qt21 qp21))))))) ++ [(b, .inl (cL, 1, .inr (.inl f1)))]) (wMS cI a2 (0 + 6) (a2 0) (vh Z1) (vc Z1) (sumP Z1) (vA Z1 5) (vA Z1 6) (vA Z1 8) (vA Z1 9) (vA Z1 10) (vA Z1 11) (vA Z1 12) (vA Z1 2) my1 qu1 ++ (wMS cI a2 (0 + 17) (a2 0) (vh T3) (vc T3) ri3 (vA T3 5) (vA T3 6) (vA T3 8) (vA T3 9) (vA T3 10) (vA T3 11) (vA T3 12) (vA T3 2) my3 qu3)) (c_X5_thrown 0 Z1 (kTol Z (xs (3 * n + 1)) (xs (3 * n + 2)))) (by simp only [List.append_assoc]) 0 rfl rfl gL_law_X5_thrown rfl ⟨rfl, hd_X5_thrown⟩ ⟨rfl, rfl, (Nat.le_of_ble_eq_true rfl), (Nat.le_of_ble_eq_true rfl)⟩ ⟨hc, hs⟩ rfl rfl (Nat.le_of_ble_eq_true rfl) dL_law_825 (fun v w1 H locs hp HW => ?_)
  obtain ⟨rfl, rfl⟩ := hp
  have HW : Hw D A s (((wXo cI a1 0  ++ (wVo cI a1 (0 + 1) (vh Z1) (vc Z1) (vA Z1 0) (vA Z1 1) (vA Z1 2) ++ (wR cI a1 ((0 + 1) + 4) (vr Z1) (vA Z1 3) (vA Z1 4) (vA Z1 5) (vA Z1 6) ++ (wS cI a1 ((0 + 1) + 9) (vs Z1) (vA Z1 7) (vA Z1 8) (vA Z1 9) (vA Z1 10) (vA Z1 11) (vA Z1 12) qt1 qp1 ++ (wVo cI a1 (0 + 19) (vh T1) (vc T1) (vA T1 0) (vA T1 1) (vA T1 2) ++ (wR cI a1 ((0 + 19) + 4) (vr T1) (vA T1 3) (vA T1 4) (vA T1 5) (vA T1 6) ++ (wS cI a1 ((0 + 19) + 9) (vs T1) (vA T1 7) (vA T1 8) (vA T1 9) (vA T1 10) (vA T1 11) (vA T1 12) qt21 qp21))))))) ++ [(b, .inl (cL, 1, .inr (.inl f1)))]) ++ (wMo cI a2 0 (kTol Z (xs (3 * n + 1)) (xs (3 * n + 2))) (vA Z1 0) (vA Z1 1) (vr Z1) (vA Z1 3) (vA Z1 4) (vs Z1) (vA Z1 7) ++ (wMS cI a2 (0 + 6) (a2 0) (vh Z1) (vc Z1) (sumP Z1) (vA Z1 5) (vA Z1 6) (vA Z1 8) (vA Z1 9) (vA Z1 10) (vA Z1 11) (vA Z1 12) (vA Z1 2) my1 qu1 ++ (wMS cI a2 (0 + 17) (a2 0) (vh T3) (vc T3) ri3 (vA T3 5) (vA T3 6) (vA T3 8) (vA T3 9) (vA T3 10) (vA T3 11) (vA T3 12) (vA T3 2) my3 qu3)))) H locs := HW
  refine W.eq (g2 := F0 m 828 ls [.int (kTol Z (xs (3 * n + 1)) (xs (3 * n + 2)))]) rfl ?_
  refine lv_iload hx hb dL_law_828 (lv_at hl 1 rfl) ?_
  refine lv_icmp_eq (tgt := 835) hx hb dL_law_830 (by decide) (fun _ => ?_) (fun c9 => absurd rfl c9)
  refine lv_iload hx hb dL_law_835 (lv_at hl 1 rfl) ?_
  refine lv_if_ne (tgt := 852) hx hb dL_law_837 (by decide) (fun _ => ?_) (fun c8 => ?_)
  rotate_left
  · have e9 : f1 0 = Int32.toInt64 r2 := by rw [hf1 c8, hreq c8]
    refine lv_aload_n hx hb dL_law_840 rfl (lv_at hl 3 rfl) ?_
    refine lv_iconst (v := 0) hx hb dL_law_841 (by decide) ?_
    refine g_lld CX HW 37 (k := 0) rfl rfl rfl (by decide) (by decide) dL_law_842 ?_
    rw [e9]
    refine lv_iload hx hb dL_law_843 (lv_at hl 0 rfl) ?_
    refine lv_i2l (v := Int32.toInt64 r2) hx hb dL_law_845 rfl ?_
    refine W.lcmp hx hb dL_law_846 ?_
    rw [lcmp_self]
    refine lv_if_eq (tgt := 852) hx hb dL_law_847 (by decide) (fun _ => ?_) (fun c7 => absurd rfl c7)
    refine lv_goto (tgt := 1418) hx hb dL_law_852 (by decide) ?_
    exact kk Z1 _ _ _ hZ1.1 (by have := hZ1.2; omega) ⟨qt1, qp1, T1, qt21, qp21, f1, (kTol Z (xs (3 * n + 1)) (xs (3 * n + 2))), my1, qu1, T3, ri3, my3, qu3, hR1, hM1, HW⟩ (lv_sub hl [2, 3, 4, 5, 6] rfl)
  · skip
    refine lv_goto (tgt := 1418) hx hb dL_law_852 (by decide) ?_
    exact kk Z1 _ _ _ hZ1.1 (by have := hZ1.2; omega) ⟨qt1, qp1, T1, qt21, qp21, f1, (kTol Z (xs (3 * n + 1)) (xs (3 * n + 2))), my1, qu1, T3, ri3, my3, qu3, hR1, hM1, HW⟩ (lv_sub hl [2, 3, 4, 5, 6] rfl)

set_option maxRecDepth 100000 in
set_option maxHeartbeats 4000000 in
theorem st_tow (hst : l.stackTraces = false) (CX : Cx p s m args meth c cL_law 9 ret RL wsL_law D (ty2 cI cL) A) (hZ : Zs A s s.heap) (hX : va_X sb L xs s s.heap) (hsb : sb < s.heap.size) (hsA : ¬ A sb) (hL : L ≤ 1536) (hn : 3 * n + 3 ≤ L) (hI : LI Z) (hv : vh Z ≤ 60 * n) (HL : LR D cI cL A s a1 a2 b Z H locs) (hl : lv_has ls 9 [(4, .int (nI (3 * n))), (3, .ref b), (2, .ref (a2 0)), (1, .ref (a1 0)), (0, .ref sb)]) (hc : cells + 1 ≤ 1128) (hs : slots + 6 ≤ 8896)
    (kk : ∀ (Z1 : VS) (H1 : Heap) (locs1 : List Loc) (ls1 : Array Slot), LI Z1 → vh Z1 ≤ 60 * (n + 1) → LR D cI cL A s a1 a2 b Z1 H1 locs1 → lv_has ls1 9 [(4, .int (nI (3 * n))), (3, .ref b), (2, .ref (a2 0)), (1, .ref (a1 0)), (0, .ref sb)] → W p l e room_1 s m args below meth c H1 locs1 (cells + 1) (slots + 6) Q (F0 m 1418 ls1 [])) : W p l e room_1 s m args below meth c H locs cells slots Q (F0 m 855 ls []) := by
  obtain ⟨qt, qp, T, qt2, qp2, f, th, my, qu, T2, ri2, my2, qu2, hR, hM, HW⟩ := HL
  obtain ⟨hx, hb, hml, hr, hown, hts, hK, hA, hlk⟩ := id CX
  have hh : vh Z + 100 < 2 ^ 31 := by omega
  have hU : QU (vq Z) := rep_qu hR hI.1.2.1
  have hQ : Qk (vs Z) (vq Z) := rep_qok hR
  have hjq := take_lt hR hI.1.2.1
  refine lv_aload_n hx hb dL_law_855 rfl (lv_at hl 3 rfl) ?_
  refine lv_aload_n hx hb dL_law_856 rfl (lv_at hl 4 rfl) ?_
  refine lv_iload hx hb dL_law_857 (lv_at hl 0 rfl) ?_
  refine lv_iconst (v := 1) hx hb dL_law_859 (by decide) ?_
  refine lv_iadd hx hb dL_law_860 ?_
  refine g_top (y := (nI (3 * n + 1))) (nI_add _ _) ?_
  refine g_sld CX HW hX hsb hsA (k := 3 * n + 1) (by omega) (by omega) dL_law_861 ?_
  refine lv_aload_n hx hb dL_law_862 rfl (lv_at hl 4 rfl) ?_
  refine lv_iload hx hb dL_law_863 (lv_at hl 0 rfl) ?_
  refine lv_iconst (v := 2) hx hb dL_law_865 (by decide) ?_
  refine lv_iadd hx hb dL_law_866 ?_
  refine g_top (y := (nI (3 * n + 2))) (nI_add _ _) ?_
  refine g_sld CX HW hX hsb hsA (k := 3 * n + 2) (by omega) (by omega) dL_law_867 ?_
  refine lv_aload_n hx hb dL_law_868 rfl (lv_at hl 1 rfl) ?_
  refine gx_callSX (rest := []) CX hZ HW hl.1 [] (wMo cI a2 0 th (vA Z 0) (vA Z 1) (vr Z) (vA Z 3) (vA Z 4) (vs Z) (vA Z 7) ++ (wMS cI a2 (0 + 6) (a2 0) (vh Z) (vc Z) (sumP Z) (vA Z 5) (vA Z 6) (vA Z 8) (vA Z 9) (vA Z 10) (vA Z 11) (vA Z 12) (vA Z 2) my qu ++ (wMS cI a2 (0 + 17) (a2 0) (vh T2) (vc T2) ri2 (vA T2 5) (vA T2 6) (vA T2 8) (vA T2 9) (vA T2 10) (vA T2 11) (vA T2 12) (vA T2 2) my2 qu2))) (c_L_tow 0 Z qt qp T qt2 qp2 (xs (3 * n + 1)) (xs (3 * n + 2)) b f hst hI.1 hR hh) rfl gL_law_L_tow rfl hd_L_tow ⟨rfl, rfl, (Nat.le_of_ble_eq_true rfl), (Nat.le_of_ble_eq_true rfl)⟩ ⟨hc, hs⟩ rfl rfl (Nat.le_of_ble_eq_true rfl) dL_law_869 (fun E ce q9 w1 H locs hp HW hce hcv hcl => hp.elim) (fun v w1 H locs hp HW => ?_)
  obtain ⟨Z1, r1, f1, qt1, qp1, T1, qt21, qp21, hm1, hf1, hR1, rfl, rfl⟩ := hp
  have HW : Hw D A s (((wXo cI a1 0  ++ (wVo cI a1 (0 + 1) (vh Z1) (vc Z1) (vA Z1 0) (vA Z1 1) (vA Z1 2) ++ (wR cI a1 ((0 + 1) + 4) (vr Z1) (vA Z1 3) (vA Z1 4) (vA Z1 5) (vA Z1 6) ++ (wS cI a1 ((0 + 1) + 9) (vs Z1) (vA Z1 7) (vA Z1 8) (vA Z1 9) (vA Z1 10) (vA Z1 11) (vA Z1 12) qt1 qp1 ++ (wVo cI a1 (0 + 19) (vh T1) (vc T1) (vA T1 0) (vA T1 1) (vA T1 2) ++ (wR cI a1 ((0 + 19) + 4) (vr T1) (vA T1 3) (vA T1 4) (vA T1 5) (vA T1 6) ++ (wS cI a1 ((0 + 19) + 9) (vs T1) (vA T1 7) (vA T1 8) (vA T1 9) (vA T1 10) (vA T1 11) (vA T1 12) qt21 qp21))))))) ++ [(b, .inl (cL, 1, .inr (.inl f1)))]) ++ (wMo cI a2 0 th (vA Z 0) (vA Z 1) (vr Z) (vA Z 3) (vA Z 4) (vs Z) (vA Z 7) ++ (wMS cI a2 (0 + 6) (a2 0) (vh Z) (vc Z) (sumP Z) (vA Z 5) (vA Z 6) (vA Z 8) (vA Z 9) (vA Z 10) (vA Z 11) (vA Z 12) (vA Z 2) my qu ++ (wMS cI a2 (0 + 17) (a2 0) (vh T2) (vc T2) ri2 (vA T2 5) (vA T2 6) (vA T2 8) (vA T2 9) (vA T2 10) (vA T2 11) (vA T2 12) (vA T2 2) my2 qu2)))) H locs := HW
  refine W.eq (g2 := F0 m 872 ls [.int (kTow (xs (3 * n + 1)) (xs (3 * n + 2)))]) rfl ?_
  refine lv_istore (lv' := [(5, .int (kTow (xs (3 * n + 1)) (xs (3 * n + 2)))), (4, .int (nI (3 * n))), (3, .ref b), (2, .ref (a2 0)), (1, .ref (a1 0)), (0, .ref sb)]) hx hb dL_law_872 hl (Nat.le_of_ble_eq_true rfl) rfl (fun ls hl => ?_)
  refine lv_aload_n hx hb dL_law_874 rfl (lv_at hl 3 rfl) ?_
  refine lv_aload_n hx hb dL_law_875 rfl (lv_at hl 5 rfl) ?_
  refine lv_iload hx hb dL_law_876 (lv_at hl 1 rfl) ?_
  refine lv_iconst (v := 1) hx hb dL_law_878 (by decide) ?_
  refine lv_iadd hx hb dL_law_879 ?_
  refine g_top (y := (nI (3 * n + 1))) (nI_add _ _) ?_
  refine g_sld CX HW hX hsb hsA (k := 3 * n + 1) (by omega) (by omega) dL_law_880 ?_
  refine lv_aload_n hx hb dL_law_881 rfl (lv_at hl 5 rfl) ?_
  refine lv_iload hx hb dL_law_882 (lv_at hl 1 rfl) ?_
  refine lv_iconst (v := 2) hx hb dL_law_884 (by decide) ?_
  refine lv_iadd hx hb dL_law_885 ?_
  refine g_top (y := (nI (3 * n + 2))) (nI_add _ _) ?_
  refine g_sld CX HW hX hsb hsA (k := 3 * n + 2) (by omega) (by omega) dL_law_886 ?_
  refine g_callV (rest := []) CX HW hl.1 ((wXo cI a1 0  ++ (wVo cI a1 (0 + 1) (vh Z1) (vc Z1) (vA Z1 0) (vA Z1 1) (vA Z1 2) ++ (wR cI a1 ((0 + 1) + 4) (vr Z1) (vA Z1 3) (vA Z1 4) (vA Z1 5) (vA Z1 6) ++ (wS cI a1 ((0 + 1) + 9) (vs Z1) (vA Z1 7) (vA Z1 8) (vA Z1 9) (vA Z1 10) (vA Z1 11) (vA Z1 12) qt1 qp1 ++ (wVo cI a1 (0 + 19) (vh T1) (vc T1) (vA T1 0) (vA T1 1) (vA T1 2) ++ (wR cI a1 ((0 + 19) + 4) (vr T1) (vA T1 3) (vA T1 4) (vA T1 5) (vA T1 6) ++ (wS cI a1 ((0 + 19) + 9) (vs T1) (vA T1 7) (vA T1 8) (vA T1 9) (vA T1 10) (vA T1 11) (vA T1 12) qt21 qp21))))))) ++ [(b, .inl (cL, 1, .inr (.inl f1)))]) [] (c_X5_tow 0 Z th my qu T2 ri2 my2 qu2 (xs (3 * n + 1)) (xs (3 * n + 2)) hI.1 hM hQ hU hh) rfl 0 rfl rfl gL_law_X5_tow rfl ⟨rfl, hd_X5_tow⟩ ⟨rfl, rfl, (Nat.le_of_ble_eq_true rfl), (Nat.le_of_ble_eq_true rfl)⟩ ⟨hc, hs⟩ rfl rfl (Nat.le_of_ble_eq_true rfl) dL_law_887 (fun v w1 H locs hp HW => ?_)
  obtain ⟨Z2, r2, my1, qu1, T3, ri3, my3, qu3, hm2, hM1, rfl, rfl⟩ := hp
  have HW : Hw D A s (((wXo cI a1 0  ++ (wVo cI a1 (0 + 1) (vh Z1) (vc Z1) (vA Z1 0) (vA Z1 1) (vA Z1 2) ++ (wR cI a1 ((0 + 1) + 4) (vr Z1) (vA Z1 3) (vA Z1 4) (vA Z1 5) (vA Z1 6) ++ (wS cI a1 ((0 + 1) + 9) (vs Z1) (vA Z1 7) (vA Z1 8) (vA Z1 9) (vA Z1 10) (vA Z1 11) (vA Z1 12) qt1 qp1 ++ (wVo cI a1 (0 + 19) (vh T1) (vc T1) (vA T1 0) (vA T1 1) (vA T1 2) ++ (wR cI a1 ((0 + 19) + 4) (vr T1) (vA T1 3) (vA T1 4) (vA T1 5) (vA T1 6) ++ (wS cI a1 ((0 + 19) + 9) (vs T1) (vA T1 7) (vA T1 8) (vA T1 9) (vA T1 10) (vA T1 11) (vA T1 12) qt21 qp21))))))) ++ [(b, .inl (cL, 1, .inr (.inl f1)))]) ++ (wMo cI a2 0 (kTow (xs (3 * n + 1)) (xs (3 * n + 2))) (vA Z2 0) (vA Z2 1) (vr Z2) (vA Z2 3) (vA Z2 4) (vs Z2) (vA Z2 7) ++ (wMS cI a2 (0 + 6) (a2 0) (vh Z2) (vc Z2) (sumP Z2) (vA Z2 5) (vA Z2 6) (vA Z2 8) (vA Z2 9) (vA Z2 10) (vA Z2 11) (vA Z2 12) (vA Z2 2) my1 qu1 ++ (wMS cI a2 (0 + 17) (a2 0) (vh T3) (vc T3) ri3 (vA T3 5) (vA T3 6) (vA T3 8) (vA T3 9) (vA T3 10) (vA T3 11) (vA T3 12) (vA T3 2) my3 qu3)))) H locs := HW
  obtain ⟨heq, hreq⟩ := mok_eq hm1 hm2
  rw [heq] at HW hM1
  have HW : Hw D A s (((wXo cI a1 0  ++ (wVo cI a1 (0 + 1) (vh Z1) (vc Z1) (vA Z1 0) (vA Z1 1) (vA Z1 2) ++ (wR cI a1 ((0 + 1) + 4) (vr Z1) (vA Z1 3) (vA Z1 4) (vA Z1 5) (vA Z1 6) ++ (wS cI a1 ((0 + 1) + 9) (vs Z1) (vA Z1 7) (vA Z1 8) (vA Z1 9) (vA Z1 10) (vA Z1 11) (vA Z1 12) qt1 qp1 ++ (wVo cI a1 (0 + 19) (vh T1) (vc T1) (vA T1 0) (vA T1 1) (vA T1 2) ++ (wR cI a1 ((0 + 19) + 4) (vr T1) (vA T1 3) (vA T1 4) (vA T1 5) (vA T1 6) ++ (wS cI a1 ((0 + 19) + 9) (vs T1) (vA T1 7) (vA T1 8) (vA T1 9) (vA T1 10) (vA T1 11) (vA T1 12) qt21 qp21))))))) ++ [(b, .inl (cL, 1, .inr (.inl f1)))]) ++ (wMo cI a2 0 (kTow (xs (3 * n + 1)) (xs (3 * n + 2))) (vA Z1 0) (vA Z1 1) (vr Z1) (vA Z1 3) (vA Z1 4) (vs Z1) (vA Z1 7) ++ (wMS cI a2 (0 + 6) (a2 0) (vh Z1) (vc Z1) (sumP Z1) (vA Z1 5) (vA Z1 6) (vA Z1 8) (vA Z1 9) (vA Z1 10) (vA Z1 11) (vA Z1 12) (vA Z1 2) my1 qu1 ++ (wMS cI a2 (0 + 17) (a2 0) (vh T3) (vc T3) ri3 (vA T3 5) (vA T3 6) (vA T3 8) (vA T3 9) (vA T3 10) (vA T3 11) (vA T3 12) (vA T3 2) my3 qu3)))) H locs := HW
  have hZ1 := mok_li hm1 hI (li_same hI)
  refine W.eq (g2 := F0 m 890 ls [.int r2]) rfl ?_
  refine lv_istore (lv' := [(6, .int r2), (5, .int (kTow (xs (3 * n + 1)) (xs (3 * n + 2)))), (4, .int (nI (3 * n))), (3, .ref b), (2, .ref (a2 0)), (1, .ref (a1 0)), (0, .ref sb)]) hx hb dL_law_890 hl (Nat.le_of_ble_eq_true rfl) rfl (fun ls hl => ?_)
  refine lv_aload_n hx hb dL_law_892 rfl (lv_at hl 4 rfl) ?_
  refine g_callV (rest := []) CX HW hl.1 ((wXo cI a1 0  ++ (wVo cI a1 (0 + 1) (vh Z1) (vc Z1) (vA Z1 0) (vA Z1 1) (vA Z1 2) ++ (wR cI a1 ((0 + 1) + 4) (vr Z1) (vA Z1 3) (vA Z1 4) (vA Z1 5) (vA Z1 6) ++ (wS cI a1 ((0 + 1) + 9) (vs Z1) (vA Z1 7) (vA Z1 8) (vA Z1 9) (vA Z1 10) (vA Z1 11) (vA Z1 12) qt1 qp1 ++ (wVo cI a1 (0 + 19) (vh T1) (vc T1) (vA T1 0) (vA T1 1) (vA T1 2) ++ (wR cI a1 ((0 + 19) + 4) (vr T1) (vA T1 3) (vA T1 4) (vA T1 5) (vA T1 6) ++ (wS cI a1 ((0 + 19) + 9) (vs T1) (vA T1 7) (vA T1 8) (vA T1 9) (vA T1 10) (vA T1 11) (vA T1 12) qt21 qp21))))))) ++ [(b, .inl (cL, 1, .inr (.inl f1)))]) (wMS cI a2 (0 + 6) (a2 0) (vh Z1) (vc Z1) (sumP Z1) (vA Z1 5) (vA Z1 6) (vA Z1 8) (vA Z1 9) (vA Z1 10) (vA Z1 11) (vA Z1 12) (vA Z1 2) my1 qu1 ++ (wMS cI a2 (0 + 17) (a2 0) (vh T3) (vc T3) ri3 (vA T3 5) (vA T3 6) (vA T3 8) (vA T3 9) (vA T3 10) (vA T3 11) (vA T3 12) (vA T3 2) my3 qu3)) (c_X5_thrown 0 Z1 (kTow (xs (3 * n + 1)) (xs (3 * n + 2)))) (by simp only [List.append_assoc]) 0 rfl rfl gL_law_X5_thrown rfl ⟨rfl, hd_X5_thrown⟩ ⟨rfl, rfl, (Nat.le_of_ble_eq_true rfl), (Nat.le_of_ble_eq_true rfl)⟩ ⟨hc, hs⟩ rfl rfl (Nat.le_of_ble_eq_true rfl) dL_law_893 (fun v w1 H locs hp HW => ?_)
  obtain ⟨rfl, rfl⟩ := hp
  have HW : Hw D A s (((wXo cI a1 0  ++ (wVo cI a1 (0 + 1) (vh Z1) (vc Z1) (vA Z1 0) (vA Z1 1) (vA Z1 2) ++ (wR cI a1 ((0 + 1) + 4) (vr Z1) (vA Z1 3) (vA Z1 4) (vA Z1 5) (vA Z1 6) ++ (wS cI a1 ((0 + 1) + 9) (vs Z1) (vA Z1 7) (vA Z1 8) (vA Z1 9) (vA Z1 10) (vA Z1 11) (vA Z1 12) qt1 qp1 ++ (wVo cI a1 (0 + 19) (vh T1) (vc T1) (vA T1 0) (vA T1 1) (vA T1 2) ++ (wR cI a1 ((0 + 19) + 4) (vr T1) (vA T1 3) (vA T1 4) (vA T1 5) (vA T1 6) ++ (wS cI a1 ((0 + 19) + 9) (vs T1) (vA T1 7) (vA T1 8) (vA T1 9) (vA T1 10) (vA T1 11) (vA T1 12) qt21 qp21))))))) ++ [(b, .inl (cL, 1, .inr (.inl f1)))]) ++ (wMo cI a2 0 (kTow (xs (3 * n + 1)) (xs (3 * n + 2))) (vA Z1 0) (vA Z1 1) (vr Z1) (vA Z1 3) (vA Z1 4) (vs Z1) (vA Z1 7) ++ (wMS cI a2 (0 + 6) (a2 0) (vh Z1) (vc Z1) (sumP Z1) (vA Z1 5) (vA Z1 6) (vA Z1 8) (vA Z1 9) (vA Z1 10) (vA Z1 11) (vA Z1 12) (vA Z1 2) my1 qu1 ++ (wMS cI a2 (0 + 17) (a2 0) (vh T3) (vc T3) ri3 (vA T3 5) (vA T3 6) (vA T3 8) (vA T3 9) (vA T3 10) (vA T3 11) (vA T3 12) (vA T3 2) my3 qu3)))) H locs := HW
  refine W.eq (g2 := F0 m 896 ls [.int (kTow (xs (3 * n + 1)) (xs (3 * n + 2)))]) rfl ?_
  refine lv_iload hx hb dL_law_896 (lv_at hl 1 rfl) ?_
  refine lv_icmp_eq (tgt := 903) hx hb dL_law_898 (by decide) (fun _ => ?_) (fun c9 => absurd rfl c9)
  refine lv_iload hx hb dL_law_903 (lv_at hl 1 rfl) ?_
  refine lv_if_ne (tgt := 920) hx hb dL_law_905 (by decide) (fun _ => ?_) (fun c8 => ?_)
  rotate_left
  · have e9 : f1 0 = Int32.toInt64 r2 := by rw [hf1 c8, hreq c8]
    refine lv_aload_n hx hb dL_law_908 rfl (lv_at hl 3 rfl) ?_
    refine lv_iconst (v := 0) hx hb dL_law_909 (by decide) ?_
    refine g_lld CX HW 37 (k := 0) rfl rfl rfl (by decide) (by decide) dL_law_910 ?_
    rw [e9]
    refine lv_iload hx hb dL_law_911 (lv_at hl 0 rfl) ?_
    refine lv_i2l (v := Int32.toInt64 r2) hx hb dL_law_913 rfl ?_
    refine W.lcmp hx hb dL_law_914 ?_
    rw [lcmp_self]
    refine lv_if_eq (tgt := 920) hx hb dL_law_915 (by decide) (fun _ => ?_) (fun c7 => absurd rfl c7)
    refine lv_goto (tgt := 1418) hx hb dL_law_920 (by decide) ?_
    exact kk Z1 _ _ _ hZ1.1 (by have := hZ1.2; omega) ⟨qt1, qp1, T1, qt21, qp21, f1, (kTow (xs (3 * n + 1)) (xs (3 * n + 2))), my1, qu1, T3, ri3, my3, qu3, hR1, hM1, HW⟩ (lv_sub hl [2, 3, 4, 5, 6] rfl)
  · skip
    refine lv_goto (tgt := 1418) hx hb dL_law_920 (by decide) ?_
    exact kk Z1 _ _ _ hZ1.1 (by have := hZ1.2; omega) ⟨qt1, qp1, T1, qt21, qp21, f1, (kTow (xs (3 * n + 1)) (xs (3 * n + 2))), my1, qu1, T3, ri3, my3, qu3, hR1, hM1, HW⟩ (lv_sub hl [2, 3, 4, 5, 6] rfl)

set_option maxRecDepth 100000 in
set_option maxHeartbeats 4000000 in
theorem st_stands (hst : l.stackTraces = false) (CX : Cx p s m args meth c cL_law 9 ret RL wsL_law D (ty2 cI cL) A) (hZ : Zs A s s.heap) (hX : va_X sb L xs s s.heap) (hsb : sb < s.heap.size) (hsA : ¬ A sb) (hL : L ≤ 1536) (hn : 3 * n + 3 ≤ L) (hI : LI Z) (hv : vh Z ≤ 60 * n) (HL : LR D cI cL A s a1 a2 b Z H locs) (hl : lv_has ls 9 [(4, .int (nI (3 * n))), (3, .ref b), (2, .ref (a2 0)), (1, .ref (a1 0)), (0, .ref sb)]) (hc : cells + 1 ≤ 1128) (hs : slots + 6 ≤ 8896)
    (kk : ∀ (Z1 : VS) (H1 : Heap) (locs1 : List Loc) (ls1 : Array Slot), LI Z1 → vh Z1 ≤ 60 * (n + 1) → LR D cI cL A s a1 a2 b Z1 H1 locs1 → lv_has ls1 9 [(4, .int (nI (3 * n))), (3, .ref b), (2, .ref (a2 0)), (1, .ref (a1 0)), (0, .ref sb)] → W p l e room_1 s m args below meth c H1 locs1 (cells + 1) (slots + 6) Q (F0 m 1418 ls1 [])) : W p l e room_1 s m args below meth c H locs cells slots Q (F0 m 923 ls []) := by
  obtain ⟨qt, qp, T, qt2, qp2, f, th, my, qu, T2, ri2, my2, qu2, hR, hM, HW⟩ := HL
  obtain ⟨hx, hb, hml, hr, hown, hts, hK, hA, hlk⟩ := id CX
  have hh : vh Z + 100 < 2 ^ 31 := by omega
  have hU : QU (vq Z) := rep_qu hR hI.1.2.1
  have hQ : Qk (vs Z) (vq Z) := rep_qok hR
  have hjq := take_lt hR hI.1.2.1
  refine lv_aload_n hx hb dL_law_923 rfl (lv_at hl 3 rfl) ?_
  refine lv_aload_n hx hb dL_law_924 rfl (lv_at hl 4 rfl) ?_
  refine lv_iload hx hb dL_law_925 (lv_at hl 0 rfl) ?_
  refine lv_iconst (v := 1) hx hb dL_law_927 (by decide) ?_
  refine lv_iadd hx hb dL_law_928 ?_
  refine g_top (y := (nI (3 * n + 1))) (nI_add _ _) ?_
  refine g_sld CX HW hX hsb hsA (k := 3 * n + 1) (by omega) (by omega) dL_law_929 ?_
  refine lv_aload_n hx hb dL_law_930 rfl (lv_at hl 4 rfl) ?_
  refine lv_iload hx hb dL_law_931 (lv_at hl 0 rfl) ?_
  refine lv_iconst (v := 2) hx hb dL_law_933 (by decide) ?_
  refine lv_iadd hx hb dL_law_934 ?_
  refine g_top (y := (nI (3 * n + 2))) (nI_add _ _) ?_
  refine g_sld CX HW hX hsb hsA (k := 3 * n + 2) (by omega) (by omega) dL_law_935 ?_
  refine lv_aload_n hx hb dL_law_936 rfl (lv_at hl 1 rfl) ?_
  refine gx_callSX (rest := []) CX hZ HW hl.1 [] (wMo cI a2 0 th (vA Z 0) (vA Z 1) (vr Z) (vA Z 3) (vA Z 4) (vs Z) (vA Z 7) ++ (wMS cI a2 (0 + 6) (a2 0) (vh Z) (vc Z) (sumP Z) (vA Z 5) (vA Z 6) (vA Z 8) (vA Z 9) (vA Z 10) (vA Z 11) (vA Z 12) (vA Z 2) my qu ++ (wMS cI a2 (0 + 17) (a2 0) (vh T2) (vc T2) ri2 (vA T2 5) (vA T2 6) (vA T2 8) (vA T2 9) (vA T2 10) (vA T2 11) (vA T2 12) (vA T2 2) my2 qu2))) (c_L_stands 0 Z qt qp T qt2 qp2 (xs (3 * n + 1)) (xs (3 * n + 2)) b f hst hI.1 hR hh) rfl gL_law_L_stands rfl hd_L_stands ⟨rfl, rfl, (Nat.le_of_ble_eq_true rfl), (Nat.le_of_ble_eq_true rfl)⟩ ⟨hc, hs⟩ rfl rfl (Nat.le_of_ble_eq_true rfl) dL_law_937 (fun E ce q9 w1 H locs hp HW hce hcv hcl => hp.elim) (fun v w1 H locs hp HW => ?_)
  obtain ⟨Z1, r1, f1, qt1, qp1, T1, qt21, qp21, hm1, hf1, hR1, rfl, rfl⟩ := hp
  have HW : Hw D A s (((wXo cI a1 0  ++ (wVo cI a1 (0 + 1) (vh Z1) (vc Z1) (vA Z1 0) (vA Z1 1) (vA Z1 2) ++ (wR cI a1 ((0 + 1) + 4) (vr Z1) (vA Z1 3) (vA Z1 4) (vA Z1 5) (vA Z1 6) ++ (wS cI a1 ((0 + 1) + 9) (vs Z1) (vA Z1 7) (vA Z1 8) (vA Z1 9) (vA Z1 10) (vA Z1 11) (vA Z1 12) qt1 qp1 ++ (wVo cI a1 (0 + 19) (vh T1) (vc T1) (vA T1 0) (vA T1 1) (vA T1 2) ++ (wR cI a1 ((0 + 19) + 4) (vr T1) (vA T1 3) (vA T1 4) (vA T1 5) (vA T1 6) ++ (wS cI a1 ((0 + 19) + 9) (vs T1) (vA T1 7) (vA T1 8) (vA T1 9) (vA T1 10) (vA T1 11) (vA T1 12) qt21 qp21))))))) ++ [(b, .inl (cL, 1, .inr (.inl f1)))]) ++ (wMo cI a2 0 th (vA Z 0) (vA Z 1) (vr Z) (vA Z 3) (vA Z 4) (vs Z) (vA Z 7) ++ (wMS cI a2 (0 + 6) (a2 0) (vh Z) (vc Z) (sumP Z) (vA Z 5) (vA Z 6) (vA Z 8) (vA Z 9) (vA Z 10) (vA Z 11) (vA Z 12) (vA Z 2) my qu ++ (wMS cI a2 (0 + 17) (a2 0) (vh T2) (vc T2) ri2 (vA T2 5) (vA T2 6) (vA T2 8) (vA T2 9) (vA T2 10) (vA T2 11) (vA T2 12) (vA T2 2) my2 qu2)))) H locs := HW
  refine W.eq (g2 := F0 m 940 ls [.int (kSta Z (xs (3 * n + 1)) (xs (3 * n + 2)))]) rfl ?_
  refine lv_istore (lv' := [(5, .int (kSta Z (xs (3 * n + 1)) (xs (3 * n + 2)))), (4, .int (nI (3 * n))), (3, .ref b), (2, .ref (a2 0)), (1, .ref (a1 0)), (0, .ref sb)]) hx hb dL_law_940 hl (Nat.le_of_ble_eq_true rfl) rfl (fun ls hl => ?_)
  refine lv_aload_n hx hb dL_law_942 rfl (lv_at hl 3 rfl) ?_
  refine lv_aload_n hx hb dL_law_943 rfl (lv_at hl 5 rfl) ?_
  refine lv_iload hx hb dL_law_944 (lv_at hl 1 rfl) ?_
  refine lv_iconst (v := 1) hx hb dL_law_946 (by decide) ?_
  refine lv_iadd hx hb dL_law_947 ?_
  refine g_top (y := (nI (3 * n + 1))) (nI_add _ _) ?_
  refine g_sld CX HW hX hsb hsA (k := 3 * n + 1) (by omega) (by omega) dL_law_948 ?_
  refine lv_aload_n hx hb dL_law_949 rfl (lv_at hl 5 rfl) ?_
  refine lv_iload hx hb dL_law_950 (lv_at hl 1 rfl) ?_
  refine lv_iconst (v := 2) hx hb dL_law_952 (by decide) ?_
  refine lv_iadd hx hb dL_law_953 ?_
  refine g_top (y := (nI (3 * n + 2))) (nI_add _ _) ?_
  refine g_sld CX HW hX hsb hsA (k := 3 * n + 2) (by omega) (by omega) dL_law_954 ?_
  refine g_callV (rest := []) CX HW hl.1 ((wXo cI a1 0  ++ (wVo cI a1 (0 + 1) (vh Z1) (vc Z1) (vA Z1 0) (vA Z1 1) (vA Z1 2) ++ (wR cI a1 ((0 + 1) + 4) (vr Z1) (vA Z1 3) (vA Z1 4) (vA Z1 5) (vA Z1 6) ++ (wS cI a1 ((0 + 1) + 9) (vs Z1) (vA Z1 7) (vA Z1 8) (vA Z1 9) (vA Z1 10) (vA Z1 11) (vA Z1 12) qt1 qp1 ++ (wVo cI a1 (0 + 19) (vh T1) (vc T1) (vA T1 0) (vA T1 1) (vA T1 2) ++ (wR cI a1 ((0 + 19) + 4) (vr T1) (vA T1 3) (vA T1 4) (vA T1 5) (vA T1 6) ++ (wS cI a1 ((0 + 19) + 9) (vs T1) (vA T1 7) (vA T1 8) (vA T1 9) (vA T1 10) (vA T1 11) (vA T1 12) qt21 qp21))))))) ++ [(b, .inl (cL, 1, .inr (.inl f1)))]) [] (c_X5_stands 0 Z th my qu T2 ri2 my2 qu2 (xs (3 * n + 1)) (xs (3 * n + 2)) hI.1 hM hQ hU hh) rfl 0 rfl rfl gL_law_X5_stands rfl ⟨rfl, hd_X5_stands⟩ ⟨rfl, rfl, (Nat.le_of_ble_eq_true rfl), (Nat.le_of_ble_eq_true rfl)⟩ ⟨hc, hs⟩ rfl rfl (Nat.le_of_ble_eq_true rfl) dL_law_955 (fun v w1 H locs hp HW => ?_)
  obtain ⟨Z2, r2, my1, qu1, T3, ri3, my3, qu3, hm2, hM1, rfl, rfl⟩ := hp
  have HW : Hw D A s (((wXo cI a1 0  ++ (wVo cI a1 (0 + 1) (vh Z1) (vc Z1) (vA Z1 0) (vA Z1 1) (vA Z1 2) ++ (wR cI a1 ((0 + 1) + 4) (vr Z1) (vA Z1 3) (vA Z1 4) (vA Z1 5) (vA Z1 6) ++ (wS cI a1 ((0 + 1) + 9) (vs Z1) (vA Z1 7) (vA Z1 8) (vA Z1 9) (vA Z1 10) (vA Z1 11) (vA Z1 12) qt1 qp1 ++ (wVo cI a1 (0 + 19) (vh T1) (vc T1) (vA T1 0) (vA T1 1) (vA T1 2) ++ (wR cI a1 ((0 + 19) + 4) (vr T1) (vA T1 3) (vA T1 4) (vA T1 5) (vA T1 6) ++ (wS cI a1 ((0 + 19) + 9) (vs T1) (vA T1 7) (vA T1 8) (vA T1 9) (vA T1 10) (vA T1 11) (vA T1 12) qt21 qp21))))))) ++ [(b, .inl (cL, 1, .inr (.inl f1)))]) ++ (wMo cI a2 0 (kSta Z (xs (3 * n + 1)) (xs (3 * n + 2))) (vA Z2 0) (vA Z2 1) (vr Z2) (vA Z2 3) (vA Z2 4) (vs Z2) (vA Z2 7) ++ (wMS cI a2 (0 + 6) (a2 0) (vh Z2) (vc Z2) (sumP Z2) (vA Z2 5) (vA Z2 6) (vA Z2 8) (vA Z2 9) (vA Z2 10) (vA Z2 11) (vA Z2 12) (vA Z2 2) my1 qu1 ++ (wMS cI a2 (0 + 17) (a2 0) (vh T3) (vc T3) ri3 (vA T3 5) (vA T3 6) (vA T3 8) (vA T3 9) (vA T3 10) (vA T3 11) (vA T3 12) (vA T3 2) my3 qu3)))) H locs := HW
  obtain ⟨heq, hreq⟩ := mok_eq hm1 hm2
  rw [heq] at HW hM1
  have HW : Hw D A s (((wXo cI a1 0  ++ (wVo cI a1 (0 + 1) (vh Z1) (vc Z1) (vA Z1 0) (vA Z1 1) (vA Z1 2) ++ (wR cI a1 ((0 + 1) + 4) (vr Z1) (vA Z1 3) (vA Z1 4) (vA Z1 5) (vA Z1 6) ++ (wS cI a1 ((0 + 1) + 9) (vs Z1) (vA Z1 7) (vA Z1 8) (vA Z1 9) (vA Z1 10) (vA Z1 11) (vA Z1 12) qt1 qp1 ++ (wVo cI a1 (0 + 19) (vh T1) (vc T1) (vA T1 0) (vA T1 1) (vA T1 2) ++ (wR cI a1 ((0 + 19) + 4) (vr T1) (vA T1 3) (vA T1 4) (vA T1 5) (vA T1 6) ++ (wS cI a1 ((0 + 19) + 9) (vs T1) (vA T1 7) (vA T1 8) (vA T1 9) (vA T1 10) (vA T1 11) (vA T1 12) qt21 qp21))))))) ++ [(b, .inl (cL, 1, .inr (.inl f1)))]) ++ (wMo cI a2 0 (kSta Z (xs (3 * n + 1)) (xs (3 * n + 2))) (vA Z1 0) (vA Z1 1) (vr Z1) (vA Z1 3) (vA Z1 4) (vs Z1) (vA Z1 7) ++ (wMS cI a2 (0 + 6) (a2 0) (vh Z1) (vc Z1) (sumP Z1) (vA Z1 5) (vA Z1 6) (vA Z1 8) (vA Z1 9) (vA Z1 10) (vA Z1 11) (vA Z1 12) (vA Z1 2) my1 qu1 ++ (wMS cI a2 (0 + 17) (a2 0) (vh T3) (vc T3) ri3 (vA T3 5) (vA T3 6) (vA T3 8) (vA T3 9) (vA T3 10) (vA T3 11) (vA T3 12) (vA T3 2) my3 qu3)))) H locs := HW
  have hZ1 := mok_li hm1 hI (li_same hI)
  refine W.eq (g2 := F0 m 958 ls [.int r2]) rfl ?_
  refine lv_istore (lv' := [(6, .int r2), (5, .int (kSta Z (xs (3 * n + 1)) (xs (3 * n + 2)))), (4, .int (nI (3 * n))), (3, .ref b), (2, .ref (a2 0)), (1, .ref (a1 0)), (0, .ref sb)]) hx hb dL_law_958 hl (Nat.le_of_ble_eq_true rfl) rfl (fun ls hl => ?_)
  refine lv_aload_n hx hb dL_law_960 rfl (lv_at hl 4 rfl) ?_
  refine g_callV (rest := []) CX HW hl.1 ((wXo cI a1 0  ++ (wVo cI a1 (0 + 1) (vh Z1) (vc Z1) (vA Z1 0) (vA Z1 1) (vA Z1 2) ++ (wR cI a1 ((0 + 1) + 4) (vr Z1) (vA Z1 3) (vA Z1 4) (vA Z1 5) (vA Z1 6) ++ (wS cI a1 ((0 + 1) + 9) (vs Z1) (vA Z1 7) (vA Z1 8) (vA Z1 9) (vA Z1 10) (vA Z1 11) (vA Z1 12) qt1 qp1 ++ (wVo cI a1 (0 + 19) (vh T1) (vc T1) (vA T1 0) (vA T1 1) (vA T1 2) ++ (wR cI a1 ((0 + 19) + 4) (vr T1) (vA T1 3) (vA T1 4) (vA T1 5) (vA T1 6) ++ (wS cI a1 ((0 + 19) + 9) (vs T1) (vA T1 7) (vA T1 8) (vA T1 9) (vA T1 10) (vA T1 11) (vA T1 12) qt21 qp21))))))) ++ [(b, .inl (cL, 1, .inr (.inl f1)))]) (wMS cI a2 (0 + 6) (a2 0) (vh Z1) (vc Z1) (sumP Z1) (vA Z1 5) (vA Z1 6) (vA Z1 8) (vA Z1 9) (vA Z1 10) (vA Z1 11) (vA Z1 12) (vA Z1 2) my1 qu1 ++ (wMS cI a2 (0 + 17) (a2 0) (vh T3) (vc T3) ri3 (vA T3 5) (vA T3 6) (vA T3 8) (vA T3 9) (vA T3 10) (vA T3 11) (vA T3 12) (vA T3 2) my3 qu3)) (c_X5_thrown 0 Z1 (kSta Z (xs (3 * n + 1)) (xs (3 * n + 2)))) (by simp only [List.append_assoc]) 0 rfl rfl gL_law_X5_thrown rfl ⟨rfl, hd_X5_thrown⟩ ⟨rfl, rfl, (Nat.le_of_ble_eq_true rfl), (Nat.le_of_ble_eq_true rfl)⟩ ⟨hc, hs⟩ rfl rfl (Nat.le_of_ble_eq_true rfl) dL_law_961 (fun v w1 H locs hp HW => ?_)
  obtain ⟨rfl, rfl⟩ := hp
  have HW : Hw D A s (((wXo cI a1 0  ++ (wVo cI a1 (0 + 1) (vh Z1) (vc Z1) (vA Z1 0) (vA Z1 1) (vA Z1 2) ++ (wR cI a1 ((0 + 1) + 4) (vr Z1) (vA Z1 3) (vA Z1 4) (vA Z1 5) (vA Z1 6) ++ (wS cI a1 ((0 + 1) + 9) (vs Z1) (vA Z1 7) (vA Z1 8) (vA Z1 9) (vA Z1 10) (vA Z1 11) (vA Z1 12) qt1 qp1 ++ (wVo cI a1 (0 + 19) (vh T1) (vc T1) (vA T1 0) (vA T1 1) (vA T1 2) ++ (wR cI a1 ((0 + 19) + 4) (vr T1) (vA T1 3) (vA T1 4) (vA T1 5) (vA T1 6) ++ (wS cI a1 ((0 + 19) + 9) (vs T1) (vA T1 7) (vA T1 8) (vA T1 9) (vA T1 10) (vA T1 11) (vA T1 12) qt21 qp21))))))) ++ [(b, .inl (cL, 1, .inr (.inl f1)))]) ++ (wMo cI a2 0 (kSta Z (xs (3 * n + 1)) (xs (3 * n + 2))) (vA Z1 0) (vA Z1 1) (vr Z1) (vA Z1 3) (vA Z1 4) (vs Z1) (vA Z1 7) ++ (wMS cI a2 (0 + 6) (a2 0) (vh Z1) (vc Z1) (sumP Z1) (vA Z1 5) (vA Z1 6) (vA Z1 8) (vA Z1 9) (vA Z1 10) (vA Z1 11) (vA Z1 12) (vA Z1 2) my1 qu1 ++ (wMS cI a2 (0 + 17) (a2 0) (vh T3) (vc T3) ri3 (vA T3 5) (vA T3 6) (vA T3 8) (vA T3 9) (vA T3 10) (vA T3 11) (vA T3 12) (vA T3 2) my3 qu3)))) H locs := HW
  refine W.eq (g2 := F0 m 964 ls [.int (kSta Z (xs (3 * n + 1)) (xs (3 * n + 2)))]) rfl ?_
  refine lv_iload hx hb dL_law_964 (lv_at hl 1 rfl) ?_
  refine lv_icmp_eq (tgt := 971) hx hb dL_law_966 (by decide) (fun _ => ?_) (fun c9 => absurd rfl c9)
  refine lv_iload hx hb dL_law_971 (lv_at hl 1 rfl) ?_
  refine lv_if_ne (tgt := 988) hx hb dL_law_973 (by decide) (fun _ => ?_) (fun c8 => ?_)
  rotate_left
  · have e9 : f1 0 = Int32.toInt64 r2 := by rw [hf1 c8, hreq c8]
    refine lv_aload_n hx hb dL_law_976 rfl (lv_at hl 3 rfl) ?_
    refine lv_iconst (v := 0) hx hb dL_law_977 (by decide) ?_
    refine g_lld CX HW 37 (k := 0) rfl rfl rfl (by decide) (by decide) dL_law_978 ?_
    rw [e9]
    refine lv_iload hx hb dL_law_979 (lv_at hl 0 rfl) ?_
    refine lv_i2l (v := Int32.toInt64 r2) hx hb dL_law_981 rfl ?_
    refine W.lcmp hx hb dL_law_982 ?_
    rw [lcmp_self]
    refine lv_if_eq (tgt := 988) hx hb dL_law_983 (by decide) (fun _ => ?_) (fun c7 => absurd rfl c7)
    refine lv_goto (tgt := 1418) hx hb dL_law_988 (by decide) ?_
    exact kk Z1 _ _ _ hZ1.1 (by have := hZ1.2; omega) ⟨qt1, qp1, T1, qt21, qp21, f1, (kSta Z (xs (3 * n + 1)) (xs (3 * n + 2))), my1, qu1, T3, ri3, my3, qu3, hR1, hM1, HW⟩ (lv_sub hl [2, 3, 4, 5, 6] rfl)
  · skip
    refine lv_goto (tgt := 1418) hx hb dL_law_988 (by decide) ?_
    exact kk Z1 _ _ _ hZ1.1 (by have := hZ1.2; omega) ⟨qt1, qp1, T1, qt21, qp21, f1, (kSta Z (xs (3 * n + 1)) (xs (3 * n + 2))), my1, qu1, T3, ri3, my3, qu3, hR1, hM1, HW⟩ (lv_sub hl [2, 3, 4, 5, 6] rfl)

set_option maxRecDepth 100000 in
set_option maxHeartbeats 4000000 in
theorem st_choice (hst : l.stackTraces = false) (CX : Cx p s m args meth c cL_law 9 ret RL wsL_law D (ty2 cI cL) A) (hZ : Zs A s s.heap) (hX : va_X sb L xs s s.heap) (hsb : sb < s.heap.size) (hsA : ¬ A sb) (hL : L ≤ 1536) (hn : 3 * n + 3 ≤ L) (hI : LI Z) (hv : vh Z ≤ 60 * n) (HL : LR D cI cL A s a1 a2 b Z H locs) (hl : lv_has ls 9 [(4, .int (nI (3 * n))), (3, .ref b), (2, .ref (a2 0)), (1, .ref (a1 0)), (0, .ref sb)]) (hc : cells + 1 ≤ 1128) (hs : slots + 6 ≤ 8896)
    (kk : ∀ (Z1 : VS) (H1 : Heap) (locs1 : List Loc) (ls1 : Array Slot), LI Z1 → vh Z1 ≤ 60 * (n + 1) → LR D cI cL A s a1 a2 b Z1 H1 locs1 → lv_has ls1 9 [(4, .int (nI (3 * n))), (3, .ref b), (2, .ref (a2 0)), (1, .ref (a1 0)), (0, .ref sb)] → W p l e room_1 s m args below meth c H1 locs1 (cells + 1) (slots + 6) Q (F0 m 1418 ls1 [])) : W p l e room_1 s m args below meth c H locs cells slots Q (F0 m 991 ls []) := by
  obtain ⟨qt, qp, T, qt2, qp2, f, th, my, qu, T2, ri2, my2, qu2, hR, hM, HW⟩ := HL
  obtain ⟨hx, hb, hml, hr, hown, hts, hK, hA, hlk⟩ := id CX
  have hh : vh Z + 100 < 2 ^ 31 := by omega
  have hU : QU (vq Z) := rep_qu hR hI.1.2.1
  have hQ : Qk (vs Z) (vq Z) := rep_qok hR
  have hjq := take_lt hR hI.1.2.1
  refine lv_aload_n hx hb dL_law_991 rfl (lv_at hl 3 rfl) ?_
  refine lv_aload_n hx hb dL_law_992 rfl (lv_at hl 4 rfl) ?_
  refine lv_iload hx hb dL_law_993 (lv_at hl 0 rfl) ?_
  refine lv_iconst (v := 1) hx hb dL_law_995 (by decide) ?_
  refine lv_iadd hx hb dL_law_996 ?_
  refine g_top (y := (nI (3 * n + 1))) (nI_add _ _) ?_
  refine g_sld CX HW hX hsb hsA (k := 3 * n + 1) (by omega) (by omega) dL_law_997 ?_
  refine lv_aload_n hx hb dL_law_998 rfl (lv_at hl 4 rfl) ?_
  refine lv_iload hx hb dL_law_999 (lv_at hl 0 rfl) ?_
  refine lv_iconst (v := 2) hx hb dL_law_1001 (by decide) ?_
  refine lv_iadd hx hb dL_law_1002 ?_
  refine g_top (y := (nI (3 * n + 2))) (nI_add _ _) ?_
  refine g_sld CX HW hX hsb hsA (k := 3 * n + 2) (by omega) (by omega) dL_law_1003 ?_
  refine lv_aload_n hx hb dL_law_1004 rfl (lv_at hl 1 rfl) ?_
  refine gx_callSX (rest := []) CX hZ HW hl.1 [] (wMo cI a2 0 th (vA Z 0) (vA Z 1) (vr Z) (vA Z 3) (vA Z 4) (vs Z) (vA Z 7) ++ (wMS cI a2 (0 + 6) (a2 0) (vh Z) (vc Z) (sumP Z) (vA Z 5) (vA Z 6) (vA Z 8) (vA Z 9) (vA Z 10) (vA Z 11) (vA Z 12) (vA Z 2) my qu ++ (wMS cI a2 (0 + 17) (a2 0) (vh T2) (vc T2) ri2 (vA T2 5) (vA T2 6) (vA T2 8) (vA T2 9) (vA T2 10) (vA T2 11) (vA T2 12) (vA T2 2) my2 qu2))) (c_L_choice 0 Z qt qp T qt2 qp2 (xs (3 * n + 1)) (xs (3 * n + 2)) b f hst hI.1 hR hh) rfl gL_law_L_choice rfl hd_L_choice ⟨rfl, rfl, (Nat.le_of_ble_eq_true rfl), (Nat.le_of_ble_eq_true rfl)⟩ ⟨hc, hs⟩ rfl rfl (Nat.le_of_ble_eq_true rfl) dL_law_1005 (fun E ce q9 w1 H locs hp HW hce hcv hcl => hp.elim) (fun v w1 H locs hp HW => ?_)
  obtain ⟨Z1, r1, f1, qt1, qp1, T1, qt21, qp21, hm1, hf1, hR1, rfl, rfl⟩ := hp
  have HW : Hw D A s (((wXo cI a1 0  ++ (wVo cI a1 (0 + 1) (vh Z1) (vc Z1) (vA Z1 0) (vA Z1 1) (vA Z1 2) ++ (wR cI a1 ((0 + 1) + 4) (vr Z1) (vA Z1 3) (vA Z1 4) (vA Z1 5) (vA Z1 6) ++ (wS cI a1 ((0 + 1) + 9) (vs Z1) (vA Z1 7) (vA Z1 8) (vA Z1 9) (vA Z1 10) (vA Z1 11) (vA Z1 12) qt1 qp1 ++ (wVo cI a1 (0 + 19) (vh T1) (vc T1) (vA T1 0) (vA T1 1) (vA T1 2) ++ (wR cI a1 ((0 + 19) + 4) (vr T1) (vA T1 3) (vA T1 4) (vA T1 5) (vA T1 6) ++ (wS cI a1 ((0 + 19) + 9) (vs T1) (vA T1 7) (vA T1 8) (vA T1 9) (vA T1 10) (vA T1 11) (vA T1 12) qt21 qp21))))))) ++ [(b, .inl (cL, 1, .inr (.inl f1)))]) ++ (wMo cI a2 0 th (vA Z 0) (vA Z 1) (vr Z) (vA Z 3) (vA Z 4) (vs Z) (vA Z 7) ++ (wMS cI a2 (0 + 6) (a2 0) (vh Z) (vc Z) (sumP Z) (vA Z 5) (vA Z 6) (vA Z 8) (vA Z 9) (vA Z 10) (vA Z 11) (vA Z 12) (vA Z 2) my qu ++ (wMS cI a2 (0 + 17) (a2 0) (vh T2) (vc T2) ri2 (vA T2 5) (vA T2 6) (vA T2 8) (vA T2 9) (vA T2 10) (vA T2 11) (vA T2 12) (vA T2 2) my2 qu2)))) H locs := HW
  refine W.eq (g2 := F0 m 1008 ls [.int (kJoin Z (xs (3 * n + 1)) (xs (3 * n + 2)))]) rfl ?_
  refine lv_istore (lv' := [(5, .int (kJoin Z (xs (3 * n + 1)) (xs (3 * n + 2)))), (4, .int (nI (3 * n))), (3, .ref b), (2, .ref (a2 0)), (1, .ref (a1 0)), (0, .ref sb)]) hx hb dL_law_1008 hl (Nat.le_of_ble_eq_true rfl) rfl (fun ls hl => ?_)
  refine lv_aload_n hx hb dL_law_1010 rfl (lv_at hl 3 rfl) ?_
  refine lv_aload_n hx hb dL_law_1011 rfl (lv_at hl 5 rfl) ?_
  refine lv_iload hx hb dL_law_1012 (lv_at hl 1 rfl) ?_
  refine lv_iconst (v := 1) hx hb dL_law_1014 (by decide) ?_
  refine lv_iadd hx hb dL_law_1015 ?_
  refine g_top (y := (nI (3 * n + 1))) (nI_add _ _) ?_
  refine g_sld CX HW hX hsb hsA (k := 3 * n + 1) (by omega) (by omega) dL_law_1016 ?_
  refine lv_aload_n hx hb dL_law_1017 rfl (lv_at hl 5 rfl) ?_
  refine lv_iload hx hb dL_law_1018 (lv_at hl 1 rfl) ?_
  refine lv_iconst (v := 2) hx hb dL_law_1020 (by decide) ?_
  refine lv_iadd hx hb dL_law_1021 ?_
  refine g_top (y := (nI (3 * n + 2))) (nI_add _ _) ?_
  refine g_sld CX HW hX hsb hsA (k := 3 * n + 2) (by omega) (by omega) dL_law_1022 ?_
  refine g_callV (rest := []) CX HW hl.1 ((wXo cI a1 0  ++ (wVo cI a1 (0 + 1) (vh Z1) (vc Z1) (vA Z1 0) (vA Z1 1) (vA Z1 2) ++ (wR cI a1 ((0 + 1) + 4) (vr Z1) (vA Z1 3) (vA Z1 4) (vA Z1 5) (vA Z1 6) ++ (wS cI a1 ((0 + 1) + 9) (vs Z1) (vA Z1 7) (vA Z1 8) (vA Z1 9) (vA Z1 10) (vA Z1 11) (vA Z1 12) qt1 qp1 ++ (wVo cI a1 (0 + 19) (vh T1) (vc T1) (vA T1 0) (vA T1 1) (vA T1 2) ++ (wR cI a1 ((0 + 19) + 4) (vr T1) (vA T1 3) (vA T1 4) (vA T1 5) (vA T1 6) ++ (wS cI a1 ((0 + 19) + 9) (vs T1) (vA T1 7) (vA T1 8) (vA T1 9) (vA T1 10) (vA T1 11) (vA T1 12) qt21 qp21))))))) ++ [(b, .inl (cL, 1, .inr (.inl f1)))]) [] (c_X5_choice 0 Z th my qu T2 ri2 my2 qu2 (xs (3 * n + 1)) (xs (3 * n + 2)) hI.1 hM hQ hU hh) rfl 0 rfl rfl gL_law_X5_choice rfl ⟨rfl, hd_X5_choice⟩ ⟨rfl, rfl, (Nat.le_of_ble_eq_true rfl), (Nat.le_of_ble_eq_true rfl)⟩ ⟨hc, hs⟩ rfl rfl (Nat.le_of_ble_eq_true rfl) dL_law_1023 (fun v w1 H locs hp HW => ?_)
  obtain ⟨Z2, r2, my1, qu1, T3, ri3, my3, qu3, hm2, hM1, rfl, rfl⟩ := hp
  have HW : Hw D A s (((wXo cI a1 0  ++ (wVo cI a1 (0 + 1) (vh Z1) (vc Z1) (vA Z1 0) (vA Z1 1) (vA Z1 2) ++ (wR cI a1 ((0 + 1) + 4) (vr Z1) (vA Z1 3) (vA Z1 4) (vA Z1 5) (vA Z1 6) ++ (wS cI a1 ((0 + 1) + 9) (vs Z1) (vA Z1 7) (vA Z1 8) (vA Z1 9) (vA Z1 10) (vA Z1 11) (vA Z1 12) qt1 qp1 ++ (wVo cI a1 (0 + 19) (vh T1) (vc T1) (vA T1 0) (vA T1 1) (vA T1 2) ++ (wR cI a1 ((0 + 19) + 4) (vr T1) (vA T1 3) (vA T1 4) (vA T1 5) (vA T1 6) ++ (wS cI a1 ((0 + 19) + 9) (vs T1) (vA T1 7) (vA T1 8) (vA T1 9) (vA T1 10) (vA T1 11) (vA T1 12) qt21 qp21))))))) ++ [(b, .inl (cL, 1, .inr (.inl f1)))]) ++ (wMo cI a2 0 (kJoin Z (xs (3 * n + 1)) (xs (3 * n + 2))) (vA Z2 0) (vA Z2 1) (vr Z2) (vA Z2 3) (vA Z2 4) (vs Z2) (vA Z2 7) ++ (wMS cI a2 (0 + 6) (a2 0) (vh Z2) (vc Z2) (sumP Z2) (vA Z2 5) (vA Z2 6) (vA Z2 8) (vA Z2 9) (vA Z2 10) (vA Z2 11) (vA Z2 12) (vA Z2 2) my1 qu1 ++ (wMS cI a2 (0 + 17) (a2 0) (vh T3) (vc T3) ri3 (vA T3 5) (vA T3 6) (vA T3 8) (vA T3 9) (vA T3 10) (vA T3 11) (vA T3 12) (vA T3 2) my3 qu3)))) H locs := HW
  obtain ⟨heq, hreq⟩ := mok_eq hm1 hm2
  rw [heq] at HW hM1
  have HW : Hw D A s (((wXo cI a1 0  ++ (wVo cI a1 (0 + 1) (vh Z1) (vc Z1) (vA Z1 0) (vA Z1 1) (vA Z1 2) ++ (wR cI a1 ((0 + 1) + 4) (vr Z1) (vA Z1 3) (vA Z1 4) (vA Z1 5) (vA Z1 6) ++ (wS cI a1 ((0 + 1) + 9) (vs Z1) (vA Z1 7) (vA Z1 8) (vA Z1 9) (vA Z1 10) (vA Z1 11) (vA Z1 12) qt1 qp1 ++ (wVo cI a1 (0 + 19) (vh T1) (vc T1) (vA T1 0) (vA T1 1) (vA T1 2) ++ (wR cI a1 ((0 + 19) + 4) (vr T1) (vA T1 3) (vA T1 4) (vA T1 5) (vA T1 6) ++ (wS cI a1 ((0 + 19) + 9) (vs T1) (vA T1 7) (vA T1 8) (vA T1 9) (vA T1 10) (vA T1 11) (vA T1 12) qt21 qp21))))))) ++ [(b, .inl (cL, 1, .inr (.inl f1)))]) ++ (wMo cI a2 0 (kJoin Z (xs (3 * n + 1)) (xs (3 * n + 2))) (vA Z1 0) (vA Z1 1) (vr Z1) (vA Z1 3) (vA Z1 4) (vs Z1) (vA Z1 7) ++ (wMS cI a2 (0 + 6) (a2 0) (vh Z1) (vc Z1) (sumP Z1) (vA Z1 5) (vA Z1 6) (vA Z1 8) (vA Z1 9) (vA Z1 10) (vA Z1 11) (vA Z1 12) (vA Z1 2) my1 qu1 ++ (wMS cI a2 (0 + 17) (a2 0) (vh T3) (vc T3) ri3 (vA T3 5) (vA T3 6) (vA T3 8) (vA T3 9) (vA T3 10) (vA T3 11) (vA T3 12) (vA T3 2) my3 qu3)))) H locs := HW
  have hZ1 := mok_li hm1 hI (li_same hI)
  refine W.eq (g2 := F0 m 1026 ls [.int r2]) rfl ?_
  refine lv_istore (lv' := [(6, .int r2), (5, .int (kJoin Z (xs (3 * n + 1)) (xs (3 * n + 2)))), (4, .int (nI (3 * n))), (3, .ref b), (2, .ref (a2 0)), (1, .ref (a1 0)), (0, .ref sb)]) hx hb dL_law_1026 hl (Nat.le_of_ble_eq_true rfl) rfl (fun ls hl => ?_)
  refine lv_aload_n hx hb dL_law_1028 rfl (lv_at hl 4 rfl) ?_
  refine g_callV (rest := []) CX HW hl.1 ((wXo cI a1 0  ++ (wVo cI a1 (0 + 1) (vh Z1) (vc Z1) (vA Z1 0) (vA Z1 1) (vA Z1 2) ++ (wR cI a1 ((0 + 1) + 4) (vr Z1) (vA Z1 3) (vA Z1 4) (vA Z1 5) (vA Z1 6) ++ (wS cI a1 ((0 + 1) + 9) (vs Z1) (vA Z1 7) (vA Z1 8) (vA Z1 9) (vA Z1 10) (vA Z1 11) (vA Z1 12) qt1 qp1 ++ (wVo cI a1 (0 + 19) (vh T1) (vc T1) (vA T1 0) (vA T1 1) (vA T1 2) ++ (wR cI a1 ((0 + 19) + 4) (vr T1) (vA T1 3) (vA T1 4) (vA T1 5) (vA T1 6) ++ (wS cI a1 ((0 + 19) + 9) (vs T1) (vA T1 7) (vA T1 8) (vA T1 9) (vA T1 10) (vA T1 11) (vA T1 12) qt21 qp21))))))) ++ [(b, .inl (cL, 1, .inr (.inl f1)))]) (wMS cI a2 (0 + 6) (a2 0) (vh Z1) (vc Z1) (sumP Z1) (vA Z1 5) (vA Z1 6) (vA Z1 8) (vA Z1 9) (vA Z1 10) (vA Z1 11) (vA Z1 12) (vA Z1 2) my1 qu1 ++ (wMS cI a2 (0 + 17) (a2 0) (vh T3) (vc T3) ri3 (vA T3 5) (vA T3 6) (vA T3 8) (vA T3 9) (vA T3 10) (vA T3 11) (vA T3 12) (vA T3 2) my3 qu3)) (c_X5_thrown 0 Z1 (kJoin Z (xs (3 * n + 1)) (xs (3 * n + 2)))) (by simp only [List.append_assoc]) 0 rfl rfl gL_law_X5_thrown rfl ⟨rfl, hd_X5_thrown⟩ ⟨rfl, rfl, (Nat.le_of_ble_eq_true rfl), (Nat.le_of_ble_eq_true rfl)⟩ ⟨hc, hs⟩ rfl rfl (Nat.le_of_ble_eq_true rfl) dL_law_1029 (fun v w1 H locs hp HW => ?_)
  obtain ⟨rfl, rfl⟩ := hp
  have HW : Hw D A s (((wXo cI a1 0  ++ (wVo cI a1 (0 + 1) (vh Z1) (vc Z1) (vA Z1 0) (vA Z1 1) (vA Z1 2) ++ (wR cI a1 ((0 + 1) + 4) (vr Z1) (vA Z1 3) (vA Z1 4) (vA Z1 5) (vA Z1 6) ++ (wS cI a1 ((0 + 1) + 9) (vs Z1) (vA Z1 7) (vA Z1 8) (vA Z1 9) (vA Z1 10) (vA Z1 11) (vA Z1 12) qt1 qp1 ++ (wVo cI a1 (0 + 19) (vh T1) (vc T1) (vA T1 0) (vA T1 1) (vA T1 2) ++ (wR cI a1 ((0 + 19) + 4) (vr T1) (vA T1 3) (vA T1 4) (vA T1 5) (vA T1 6) ++ (wS cI a1 ((0 + 19) + 9) (vs T1) (vA T1 7) (vA T1 8) (vA T1 9) (vA T1 10) (vA T1 11) (vA T1 12) qt21 qp21))))))) ++ [(b, .inl (cL, 1, .inr (.inl f1)))]) ++ (wMo cI a2 0 (kJoin Z (xs (3 * n + 1)) (xs (3 * n + 2))) (vA Z1 0) (vA Z1 1) (vr Z1) (vA Z1 3) (vA Z1 4) (vs Z1) (vA Z1 7) ++ (wMS cI a2 (0 + 6) (a2 0) (vh Z1) (vc Z1) (sumP Z1) (vA Z1 5) (vA Z1 6) (vA Z1 8) (vA Z1 9) (vA Z1 10) (vA Z1 11) (vA Z1 12) (vA Z1 2) my1 qu1 ++ (wMS cI a2 (0 + 17) (a2 0) (vh T3) (vc T3) ri3 (vA T3 5) (vA T3 6) (vA T3 8) (vA T3 9) (vA T3 10) (vA T3 11) (vA T3 12) (vA T3 2) my3 qu3)))) H locs := HW
  refine W.eq (g2 := F0 m 1032 ls [.int (kJoin Z (xs (3 * n + 1)) (xs (3 * n + 2)))]) rfl ?_
  refine lv_iload hx hb dL_law_1032 (lv_at hl 1 rfl) ?_
  refine lv_icmp_eq (tgt := 1039) hx hb dL_law_1034 (by decide) (fun _ => ?_) (fun c9 => absurd rfl c9)
  refine lv_iload hx hb dL_law_1039 (lv_at hl 1 rfl) ?_
  refine lv_if_ne (tgt := 1056) hx hb dL_law_1041 (by decide) (fun _ => ?_) (fun c8 => ?_)
  rotate_left
  · have e9 : f1 0 = Int32.toInt64 r2 := by rw [hf1 c8, hreq c8]
    refine lv_aload_n hx hb dL_law_1044 rfl (lv_at hl 3 rfl) ?_
    refine lv_iconst (v := 0) hx hb dL_law_1045 (by decide) ?_
    refine g_lld CX HW 37 (k := 0) rfl rfl rfl (by decide) (by decide) dL_law_1046 ?_
    rw [e9]
    refine lv_iload hx hb dL_law_1047 (lv_at hl 0 rfl) ?_
    refine lv_i2l (v := Int32.toInt64 r2) hx hb dL_law_1049 rfl ?_
    refine W.lcmp hx hb dL_law_1050 ?_
    rw [lcmp_self]
    refine lv_if_eq (tgt := 1056) hx hb dL_law_1051 (by decide) (fun _ => ?_) (fun c7 => absurd rfl c7)
    refine lv_goto (tgt := 1418) hx hb dL_law_1056 (by decide) ?_
    exact kk Z1 _ _ _ hZ1.1 (by have := hZ1.2; omega) ⟨qt1, qp1, T1, qt21, qp21, f1, (kJoin Z (xs (3 * n + 1)) (xs (3 * n + 2))), my1, qu1, T3, ri3, my3, qu3, hR1, hM1, HW⟩ (lv_sub hl [2, 3, 4, 5, 6] rfl)
  · skip
    refine lv_goto (tgt := 1418) hx hb dL_law_1056 (by decide) ?_
    exact kk Z1 _ _ _ hZ1.1 (by have := hZ1.2; omega) ⟨qt1, qp1, T1, qt21, qp21, f1, (kJoin Z (xs (3 * n + 1)) (xs (3 * n + 2))), my1, qu1, T3, ri3, my3, qu3, hR1, hM1, HW⟩ (lv_sub hl [2, 3, 4, 5, 6] rfl)

set_option maxRecDepth 100000 in
set_option maxHeartbeats 4000000 in
theorem st_count (hst : l.stackTraces = false) (CX : Cx p s m args meth c cL_law 9 ret RL wsL_law D (ty2 cI cL) A) (hZ : Zs A s s.heap) (hX : va_X sb L xs s s.heap) (hsb : sb < s.heap.size) (hsA : ¬ A sb) (hL : L ≤ 1536) (hn : 3 * n + 3 ≤ L) (hI : LI Z) (hv : vh Z ≤ 60 * n) (HL : LR D cI cL A s a1 a2 b Z H locs) (hl : lv_has ls 9 [(4, .int (nI (3 * n))), (3, .ref b), (2, .ref (a2 0)), (1, .ref (a1 0)), (0, .ref sb)]) (hc : cells + 1 ≤ 1128) (hs : slots + 6 ≤ 8896)
    (kk : ∀ (Z1 : VS) (H1 : Heap) (locs1 : List Loc) (ls1 : Array Slot), LI Z1 → vh Z1 ≤ 60 * (n + 1) → LR D cI cL A s a1 a2 b Z1 H1 locs1 → lv_has ls1 9 [(4, .int (nI (3 * n))), (3, .ref b), (2, .ref (a2 0)), (1, .ref (a1 0)), (0, .ref sb)] → W p l e room_1 s m args below meth c H1 locs1 (cells + 1) (slots + 6) Q (F0 m 1418 ls1 [])) : W p l e room_1 s m args below meth c H locs cells slots Q (F0 m 1059 ls []) := by
  obtain ⟨qt, qp, T, qt2, qp2, f, th, my, qu, T2, ri2, my2, qu2, hR, hM, HW⟩ := HL
  obtain ⟨hx, hb, hml, hr, hown, hts, hK, hA, hlk⟩ := id CX
  have hh : vh Z + 100 < 2 ^ 31 := by omega
  have hU : QU (vq Z) := rep_qu hR hI.1.2.1
  have hQ : Qk (vs Z) (vq Z) := rep_qok hR
  have hjq := take_lt hR hI.1.2.1
  refine lv_aload_n hx hb dL_law_1059 rfl (lv_at hl 3 rfl) ?_
  refine lv_aload_n hx hb dL_law_1060 rfl (lv_at hl 4 rfl) ?_
  refine lv_iload hx hb dL_law_1061 (lv_at hl 0 rfl) ?_
  refine lv_iconst (v := 1) hx hb dL_law_1063 (by decide) ?_
  refine lv_iadd hx hb dL_law_1064 ?_
  refine g_top (y := (nI (3 * n + 1))) (nI_add _ _) ?_
  refine g_sld CX HW hX hsb hsA (k := 3 * n + 1) (by omega) (by omega) dL_law_1065 ?_
  refine lv_aload_n hx hb dL_law_1066 rfl (lv_at hl 1 rfl) ?_
  refine gx_callSX (rest := []) CX hZ HW hl.1 [] (wMo cI a2 0 th (vA Z 0) (vA Z 1) (vr Z) (vA Z 3) (vA Z 4) (vs Z) (vA Z 7) ++ (wMS cI a2 (0 + 6) (a2 0) (vh Z) (vc Z) (sumP Z) (vA Z 5) (vA Z 6) (vA Z 8) (vA Z 9) (vA Z 10) (vA Z 11) (vA Z 12) (vA Z 2) my qu ++ (wMS cI a2 (0 + 17) (a2 0) (vh T2) (vc T2) ri2 (vA T2 5) (vA T2 6) (vA T2 8) (vA T2 9) (vA T2 10) (vA T2 11) (vA T2 12) (vA T2 2) my2 qu2))) (c_L_count 0 Z qt qp T qt2 qp2 (xs (3 * n + 1)) b f hst hI.1 hR hh) rfl gL_law_L_count rfl hd_L_count ⟨rfl, rfl, (Nat.le_of_ble_eq_true rfl), (Nat.le_of_ble_eq_true rfl)⟩ ⟨hc, hs⟩ rfl rfl (Nat.le_of_ble_eq_true rfl) dL_law_1067 (fun E ce q9 w1 H locs hp HW hce hcv hcl => hp.elim) (fun v w1 H locs hp HW => ?_)
  obtain ⟨Z1, r1, f1, qt1, qp1, T1, qt21, qp21, hm1, hf1, hR1, rfl, rfl⟩ := hp
  have HW : Hw D A s (((wXo cI a1 0  ++ (wVo cI a1 (0 + 1) (vh Z1) (vc Z1) (vA Z1 0) (vA Z1 1) (vA Z1 2) ++ (wR cI a1 ((0 + 1) + 4) (vr Z1) (vA Z1 3) (vA Z1 4) (vA Z1 5) (vA Z1 6) ++ (wS cI a1 ((0 + 1) + 9) (vs Z1) (vA Z1 7) (vA Z1 8) (vA Z1 9) (vA Z1 10) (vA Z1 11) (vA Z1 12) qt1 qp1 ++ (wVo cI a1 (0 + 19) (vh T1) (vc T1) (vA T1 0) (vA T1 1) (vA T1 2) ++ (wR cI a1 ((0 + 19) + 4) (vr T1) (vA T1 3) (vA T1 4) (vA T1 5) (vA T1 6) ++ (wS cI a1 ((0 + 19) + 9) (vs T1) (vA T1 7) (vA T1 8) (vA T1 9) (vA T1 10) (vA T1 11) (vA T1 12) qt21 qp21))))))) ++ [(b, .inl (cL, 1, .inr (.inl f1)))]) ++ (wMo cI a2 0 th (vA Z 0) (vA Z 1) (vr Z) (vA Z 3) (vA Z 4) (vs Z) (vA Z 7) ++ (wMS cI a2 (0 + 6) (a2 0) (vh Z) (vc Z) (sumP Z) (vA Z 5) (vA Z 6) (vA Z 8) (vA Z 9) (vA Z 10) (vA Z 11) (vA Z 12) (vA Z 2) my qu ++ (wMS cI a2 (0 + 17) (a2 0) (vh T2) (vc T2) ri2 (vA T2 5) (vA T2 6) (vA T2 8) (vA T2 9) (vA T2 10) (vA T2 11) (vA T2 12) (vA T2 2) my2 qu2)))) H locs := HW
  refine W.eq (g2 := F0 m 1070 ls [.int (kCou (xs (3 * n + 1)))]) rfl ?_
  refine lv_istore (lv' := [(5, .int (kCou (xs (3 * n + 1)))), (4, .int (nI (3 * n))), (3, .ref b), (2, .ref (a2 0)), (1, .ref (a1 0)), (0, .ref sb)]) hx hb dL_law_1070 hl (Nat.le_of_ble_eq_true rfl) rfl (fun ls hl => ?_)
  refine lv_aload_n hx hb dL_law_1072 rfl (lv_at hl 3 rfl) ?_
  refine lv_aload_n hx hb dL_law_1073 rfl (lv_at hl 5 rfl) ?_
  refine lv_iload hx hb dL_law_1074 (lv_at hl 1 rfl) ?_
  refine lv_iconst (v := 1) hx hb dL_law_1076 (by decide) ?_
  refine lv_iadd hx hb dL_law_1077 ?_
  refine g_top (y := (nI (3 * n + 1))) (nI_add _ _) ?_
  refine g_sld CX HW hX hsb hsA (k := 3 * n + 1) (by omega) (by omega) dL_law_1078 ?_
  refine g_callV (rest := []) CX HW hl.1 ((wXo cI a1 0  ++ (wVo cI a1 (0 + 1) (vh Z1) (vc Z1) (vA Z1 0) (vA Z1 1) (vA Z1 2) ++ (wR cI a1 ((0 + 1) + 4) (vr Z1) (vA Z1 3) (vA Z1 4) (vA Z1 5) (vA Z1 6) ++ (wS cI a1 ((0 + 1) + 9) (vs Z1) (vA Z1 7) (vA Z1 8) (vA Z1 9) (vA Z1 10) (vA Z1 11) (vA Z1 12) qt1 qp1 ++ (wVo cI a1 (0 + 19) (vh T1) (vc T1) (vA T1 0) (vA T1 1) (vA T1 2) ++ (wR cI a1 ((0 + 19) + 4) (vr T1) (vA T1 3) (vA T1 4) (vA T1 5) (vA T1 6) ++ (wS cI a1 ((0 + 19) + 9) (vs T1) (vA T1 7) (vA T1 8) (vA T1 9) (vA T1 10) (vA T1 11) (vA T1 12) qt21 qp21))))))) ++ [(b, .inl (cL, 1, .inr (.inl f1)))]) [] (c_X5_count 0 Z th my qu T2 ri2 my2 qu2 (xs (3 * n + 1)) hI.1 hM hQ hU hh) rfl 0 rfl rfl gL_law_X5_count rfl ⟨rfl, hd_X5_count⟩ ⟨rfl, rfl, (Nat.le_of_ble_eq_true rfl), (Nat.le_of_ble_eq_true rfl)⟩ ⟨hc, hs⟩ rfl rfl (Nat.le_of_ble_eq_true rfl) dL_law_1079 (fun v w1 H locs hp HW => ?_)
  obtain ⟨Z2, r2, my1, qu1, T3, ri3, my3, qu3, hm2, hM1, rfl, rfl⟩ := hp
  have HW : Hw D A s (((wXo cI a1 0  ++ (wVo cI a1 (0 + 1) (vh Z1) (vc Z1) (vA Z1 0) (vA Z1 1) (vA Z1 2) ++ (wR cI a1 ((0 + 1) + 4) (vr Z1) (vA Z1 3) (vA Z1 4) (vA Z1 5) (vA Z1 6) ++ (wS cI a1 ((0 + 1) + 9) (vs Z1) (vA Z1 7) (vA Z1 8) (vA Z1 9) (vA Z1 10) (vA Z1 11) (vA Z1 12) qt1 qp1 ++ (wVo cI a1 (0 + 19) (vh T1) (vc T1) (vA T1 0) (vA T1 1) (vA T1 2) ++ (wR cI a1 ((0 + 19) + 4) (vr T1) (vA T1 3) (vA T1 4) (vA T1 5) (vA T1 6) ++ (wS cI a1 ((0 + 19) + 9) (vs T1) (vA T1 7) (vA T1 8) (vA T1 9) (vA T1 10) (vA T1 11) (vA T1 12) qt21 qp21))))))) ++ [(b, .inl (cL, 1, .inr (.inl f1)))]) ++ (wMo cI a2 0 (kCou (xs (3 * n + 1))) (vA Z2 0) (vA Z2 1) (vr Z2) (vA Z2 3) (vA Z2 4) (vs Z2) (vA Z2 7) ++ (wMS cI a2 (0 + 6) (a2 0) (vh Z2) (vc Z2) (sumP Z2) (vA Z2 5) (vA Z2 6) (vA Z2 8) (vA Z2 9) (vA Z2 10) (vA Z2 11) (vA Z2 12) (vA Z2 2) my1 qu1 ++ (wMS cI a2 (0 + 17) (a2 0) (vh T3) (vc T3) ri3 (vA T3 5) (vA T3 6) (vA T3 8) (vA T3 9) (vA T3 10) (vA T3 11) (vA T3 12) (vA T3 2) my3 qu3)))) H locs := HW
  obtain ⟨heq, hreq⟩ := mok_eq hm1 hm2
  rw [heq] at HW hM1
  have HW : Hw D A s (((wXo cI a1 0  ++ (wVo cI a1 (0 + 1) (vh Z1) (vc Z1) (vA Z1 0) (vA Z1 1) (vA Z1 2) ++ (wR cI a1 ((0 + 1) + 4) (vr Z1) (vA Z1 3) (vA Z1 4) (vA Z1 5) (vA Z1 6) ++ (wS cI a1 ((0 + 1) + 9) (vs Z1) (vA Z1 7) (vA Z1 8) (vA Z1 9) (vA Z1 10) (vA Z1 11) (vA Z1 12) qt1 qp1 ++ (wVo cI a1 (0 + 19) (vh T1) (vc T1) (vA T1 0) (vA T1 1) (vA T1 2) ++ (wR cI a1 ((0 + 19) + 4) (vr T1) (vA T1 3) (vA T1 4) (vA T1 5) (vA T1 6) ++ (wS cI a1 ((0 + 19) + 9) (vs T1) (vA T1 7) (vA T1 8) (vA T1 9) (vA T1 10) (vA T1 11) (vA T1 12) qt21 qp21))))))) ++ [(b, .inl (cL, 1, .inr (.inl f1)))]) ++ (wMo cI a2 0 (kCou (xs (3 * n + 1))) (vA Z1 0) (vA Z1 1) (vr Z1) (vA Z1 3) (vA Z1 4) (vs Z1) (vA Z1 7) ++ (wMS cI a2 (0 + 6) (a2 0) (vh Z1) (vc Z1) (sumP Z1) (vA Z1 5) (vA Z1 6) (vA Z1 8) (vA Z1 9) (vA Z1 10) (vA Z1 11) (vA Z1 12) (vA Z1 2) my1 qu1 ++ (wMS cI a2 (0 + 17) (a2 0) (vh T3) (vc T3) ri3 (vA T3 5) (vA T3 6) (vA T3 8) (vA T3 9) (vA T3 10) (vA T3 11) (vA T3 12) (vA T3 2) my3 qu3)))) H locs := HW
  have hZ1 := mok_li hm1 hI (li_same hI)
  refine W.eq (g2 := F0 m 1082 ls [.int r2]) rfl ?_
  refine lv_istore (lv' := [(6, .int r2), (5, .int (kCou (xs (3 * n + 1)))), (4, .int (nI (3 * n))), (3, .ref b), (2, .ref (a2 0)), (1, .ref (a1 0)), (0, .ref sb)]) hx hb dL_law_1082 hl (Nat.le_of_ble_eq_true rfl) rfl (fun ls hl => ?_)
  refine lv_aload_n hx hb dL_law_1084 rfl (lv_at hl 4 rfl) ?_
  refine g_callV (rest := []) CX HW hl.1 ((wXo cI a1 0  ++ (wVo cI a1 (0 + 1) (vh Z1) (vc Z1) (vA Z1 0) (vA Z1 1) (vA Z1 2) ++ (wR cI a1 ((0 + 1) + 4) (vr Z1) (vA Z1 3) (vA Z1 4) (vA Z1 5) (vA Z1 6) ++ (wS cI a1 ((0 + 1) + 9) (vs Z1) (vA Z1 7) (vA Z1 8) (vA Z1 9) (vA Z1 10) (vA Z1 11) (vA Z1 12) qt1 qp1 ++ (wVo cI a1 (0 + 19) (vh T1) (vc T1) (vA T1 0) (vA T1 1) (vA T1 2) ++ (wR cI a1 ((0 + 19) + 4) (vr T1) (vA T1 3) (vA T1 4) (vA T1 5) (vA T1 6) ++ (wS cI a1 ((0 + 19) + 9) (vs T1) (vA T1 7) (vA T1 8) (vA T1 9) (vA T1 10) (vA T1 11) (vA T1 12) qt21 qp21))))))) ++ [(b, .inl (cL, 1, .inr (.inl f1)))]) (wMS cI a2 (0 + 6) (a2 0) (vh Z1) (vc Z1) (sumP Z1) (vA Z1 5) (vA Z1 6) (vA Z1 8) (vA Z1 9) (vA Z1 10) (vA Z1 11) (vA Z1 12) (vA Z1 2) my1 qu1 ++ (wMS cI a2 (0 + 17) (a2 0) (vh T3) (vc T3) ri3 (vA T3 5) (vA T3 6) (vA T3 8) (vA T3 9) (vA T3 10) (vA T3 11) (vA T3 12) (vA T3 2) my3 qu3)) (c_X5_thrown 0 Z1 (kCou (xs (3 * n + 1)))) (by simp only [List.append_assoc]) 0 rfl rfl gL_law_X5_thrown rfl ⟨rfl, hd_X5_thrown⟩ ⟨rfl, rfl, (Nat.le_of_ble_eq_true rfl), (Nat.le_of_ble_eq_true rfl)⟩ ⟨hc, hs⟩ rfl rfl (Nat.le_of_ble_eq_true rfl) dL_law_1085 (fun v w1 H locs hp HW => ?_)
  obtain ⟨rfl, rfl⟩ := hp
  have HW : Hw D A s (((wXo cI a1 0  ++ (wVo cI a1 (0 + 1) (vh Z1) (vc Z1) (vA Z1 0) (vA Z1 1) (vA Z1 2) ++ (wR cI a1 ((0 + 1) + 4) (vr Z1) (vA Z1 3) (vA Z1 4) (vA Z1 5) (vA Z1 6) ++ (wS cI a1 ((0 + 1) + 9) (vs Z1) (vA Z1 7) (vA Z1 8) (vA Z1 9) (vA Z1 10) (vA Z1 11) (vA Z1 12) qt1 qp1 ++ (wVo cI a1 (0 + 19) (vh T1) (vc T1) (vA T1 0) (vA T1 1) (vA T1 2) ++ (wR cI a1 ((0 + 19) + 4) (vr T1) (vA T1 3) (vA T1 4) (vA T1 5) (vA T1 6) ++ (wS cI a1 ((0 + 19) + 9) (vs T1) (vA T1 7) (vA T1 8) (vA T1 9) (vA T1 10) (vA T1 11) (vA T1 12) qt21 qp21))))))) ++ [(b, .inl (cL, 1, .inr (.inl f1)))]) ++ (wMo cI a2 0 (kCou (xs (3 * n + 1))) (vA Z1 0) (vA Z1 1) (vr Z1) (vA Z1 3) (vA Z1 4) (vs Z1) (vA Z1 7) ++ (wMS cI a2 (0 + 6) (a2 0) (vh Z1) (vc Z1) (sumP Z1) (vA Z1 5) (vA Z1 6) (vA Z1 8) (vA Z1 9) (vA Z1 10) (vA Z1 11) (vA Z1 12) (vA Z1 2) my1 qu1 ++ (wMS cI a2 (0 + 17) (a2 0) (vh T3) (vc T3) ri3 (vA T3 5) (vA T3 6) (vA T3 8) (vA T3 9) (vA T3 10) (vA T3 11) (vA T3 12) (vA T3 2) my3 qu3)))) H locs := HW
  refine W.eq (g2 := F0 m 1088 ls [.int (kCou (xs (3 * n + 1)))]) rfl ?_
  refine lv_iload hx hb dL_law_1088 (lv_at hl 1 rfl) ?_
  refine lv_icmp_eq (tgt := 1095) hx hb dL_law_1090 (by decide) (fun _ => ?_) (fun c9 => absurd rfl c9)
  refine lv_iload hx hb dL_law_1095 (lv_at hl 1 rfl) ?_
  refine lv_if_ne (tgt := 1112) hx hb dL_law_1097 (by decide) (fun _ => ?_) (fun c8 => ?_)
  rotate_left
  · have e9 : f1 0 = Int32.toInt64 r2 := by rw [hf1 c8, hreq c8]
    refine lv_aload_n hx hb dL_law_1100 rfl (lv_at hl 3 rfl) ?_
    refine lv_iconst (v := 0) hx hb dL_law_1101 (by decide) ?_
    refine g_lld CX HW 37 (k := 0) rfl rfl rfl (by decide) (by decide) dL_law_1102 ?_
    rw [e9]
    refine lv_iload hx hb dL_law_1103 (lv_at hl 0 rfl) ?_
    refine lv_i2l (v := Int32.toInt64 r2) hx hb dL_law_1105 rfl ?_
    refine W.lcmp hx hb dL_law_1106 ?_
    rw [lcmp_self]
    refine lv_if_eq (tgt := 1112) hx hb dL_law_1107 (by decide) (fun _ => ?_) (fun c7 => absurd rfl c7)
    refine lv_goto (tgt := 1418) hx hb dL_law_1112 (by decide) ?_
    exact kk Z1 _ _ _ hZ1.1 (by have := hZ1.2; omega) ⟨qt1, qp1, T1, qt21, qp21, f1, (kCou (xs (3 * n + 1))), my1, qu1, T3, ri3, my3, qu3, hR1, hM1, HW⟩ (lv_sub hl [2, 3, 4, 5, 6] rfl)
  · skip
    refine lv_goto (tgt := 1418) hx hb dL_law_1112 (by decide) ?_
    exact kk Z1 _ _ _ hZ1.1 (by have := hZ1.2; omega) ⟨qt1, qp1, T1, qt21, qp21, f1, (kCou (xs (3 * n + 1))), my1, qu1, T3, ri3, my3, qu3, hR1, hM1, HW⟩ (lv_sub hl [2, 3, 4, 5, 6] rfl)

set_option maxRecDepth 100000 in
set_option maxHeartbeats 4000000 in
theorem st_pass (hst : l.stackTraces = false) (CX : Cx p s m args meth c cL_law 9 ret RL wsL_law D (ty2 cI cL) A) (hZ : Zs A s s.heap) (hX : va_X sb L xs s s.heap) (hsb : sb < s.heap.size) (hsA : ¬ A sb) (hL : L ≤ 1536) (hn : 3 * n + 3 ≤ L) (hI : LI Z) (hv : vh Z ≤ 60 * n) (HL : LR D cI cL A s a1 a2 b Z H locs) (hl : lv_has ls 9 [(4, .int (nI (3 * n))), (3, .ref b), (2, .ref (a2 0)), (1, .ref (a1 0)), (0, .ref sb)]) (hc : cells + 1 ≤ 1128) (hs : slots + 6 ≤ 8896)
    (kk : ∀ (Z1 : VS) (H1 : Heap) (locs1 : List Loc) (ls1 : Array Slot), LI Z1 → vh Z1 ≤ 60 * (n + 1) → LR D cI cL A s a1 a2 b Z1 H1 locs1 → lv_has ls1 9 [(4, .int (nI (3 * n))), (3, .ref b), (2, .ref (a2 0)), (1, .ref (a1 0)), (0, .ref sb)] → W p l e room_1 s m args below meth c H1 locs1 (cells + 1) (slots + 6) Q (F0 m 1418 ls1 [])) : W p l e room_1 s m args below meth c H locs cells slots Q (F0 m 1115 ls []) := by
  obtain ⟨qt, qp, T, qt2, qp2, f, th, my, qu, T2, ri2, my2, qu2, hR, hM, HW⟩ := HL
  obtain ⟨hx, hb, hml, hr, hown, hts, hK, hA, hlk⟩ := id CX
  have hh : vh Z + 100 < 2 ^ 31 := by omega
  have hU : QU (vq Z) := rep_qu hR hI.1.2.1
  have hQ : Qk (vs Z) (vq Z) := rep_qok hR
  have hjq := take_lt hR hI.1.2.1
  refine lv_aload_n hx hb dL_law_1115 rfl (lv_at hl 3 rfl) ?_
  refine lv_aload_n hx hb dL_law_1116 rfl (lv_at hl 4 rfl) ?_
  refine lv_iload hx hb dL_law_1117 (lv_at hl 0 rfl) ?_
  refine lv_iconst (v := 1) hx hb dL_law_1119 (by decide) ?_
  refine lv_iadd hx hb dL_law_1120 ?_
  refine g_top (y := (nI (3 * n + 1))) (nI_add _ _) ?_
  refine g_sld CX HW hX hsb hsA (k := 3 * n + 1) (by omega) (by omega) dL_law_1121 ?_
  refine lv_aload_n hx hb dL_law_1122 rfl (lv_at hl 1 rfl) ?_
  refine gx_callSX (rest := []) CX hZ HW hl.1 [] (wMo cI a2 0 th (vA Z 0) (vA Z 1) (vr Z) (vA Z 3) (vA Z 4) (vs Z) (vA Z 7) ++ (wMS cI a2 (0 + 6) (a2 0) (vh Z) (vc Z) (sumP Z) (vA Z 5) (vA Z 6) (vA Z 8) (vA Z 9) (vA Z 10) (vA Z 11) (vA Z 12) (vA Z 2) my qu ++ (wMS cI a2 (0 + 17) (a2 0) (vh T2) (vc T2) ri2 (vA T2 5) (vA T2 6) (vA T2 8) (vA T2 9) (vA T2 10) (vA T2 11) (vA T2 12) (vA T2 2) my2 qu2))) (c_L_pass 0 Z qt qp T qt2 qp2 (xs (3 * n + 1)) b f hst hI.1 hR hh) rfl gL_law_L_pass rfl hd_L_pass ⟨rfl, rfl, (Nat.le_of_ble_eq_true rfl), (Nat.le_of_ble_eq_true rfl)⟩ ⟨hc, hs⟩ rfl rfl (Nat.le_of_ble_eq_true rfl) dL_law_1123 (fun E ce q9 w1 H locs hp HW hce hcv hcl => hp.elim) (fun v w1 H locs hp HW => ?_)
  obtain ⟨Z1, r1, f1, qt1, qp1, T1, qt21, qp21, hm1, hf1, hR1, rfl, rfl⟩ := hp
  have HW : Hw D A s (((wXo cI a1 0  ++ (wVo cI a1 (0 + 1) (vh Z1) (vc Z1) (vA Z1 0) (vA Z1 1) (vA Z1 2) ++ (wR cI a1 ((0 + 1) + 4) (vr Z1) (vA Z1 3) (vA Z1 4) (vA Z1 5) (vA Z1 6) ++ (wS cI a1 ((0 + 1) + 9) (vs Z1) (vA Z1 7) (vA Z1 8) (vA Z1 9) (vA Z1 10) (vA Z1 11) (vA Z1 12) qt1 qp1 ++ (wVo cI a1 (0 + 19) (vh T1) (vc T1) (vA T1 0) (vA T1 1) (vA T1 2) ++ (wR cI a1 ((0 + 19) + 4) (vr T1) (vA T1 3) (vA T1 4) (vA T1 5) (vA T1 6) ++ (wS cI a1 ((0 + 19) + 9) (vs T1) (vA T1 7) (vA T1 8) (vA T1 9) (vA T1 10) (vA T1 11) (vA T1 12) qt21 qp21))))))) ++ [(b, .inl (cL, 1, .inr (.inl f1)))]) ++ (wMo cI a2 0 th (vA Z 0) (vA Z 1) (vr Z) (vA Z 3) (vA Z 4) (vs Z) (vA Z 7) ++ (wMS cI a2 (0 + 6) (a2 0) (vh Z) (vc Z) (sumP Z) (vA Z 5) (vA Z 6) (vA Z 8) (vA Z 9) (vA Z 10) (vA Z 11) (vA Z 12) (vA Z 2) my qu ++ (wMS cI a2 (0 + 17) (a2 0) (vh T2) (vc T2) ri2 (vA T2 5) (vA T2 6) (vA T2 8) (vA T2 9) (vA T2 10) (vA T2 11) (vA T2 12) (vA T2 2) my2 qu2)))) H locs := HW
  refine W.eq (g2 := F0 m 1126 ls [.int (kPas (xs (3 * n + 1)))]) rfl ?_
  refine lv_istore (lv' := [(5, .int (kPas (xs (3 * n + 1)))), (4, .int (nI (3 * n))), (3, .ref b), (2, .ref (a2 0)), (1, .ref (a1 0)), (0, .ref sb)]) hx hb dL_law_1126 hl (Nat.le_of_ble_eq_true rfl) rfl (fun ls hl => ?_)
  refine lv_aload_n hx hb dL_law_1128 rfl (lv_at hl 3 rfl) ?_
  refine lv_aload_n hx hb dL_law_1129 rfl (lv_at hl 5 rfl) ?_
  refine lv_iload hx hb dL_law_1130 (lv_at hl 1 rfl) ?_
  refine lv_iconst (v := 1) hx hb dL_law_1132 (by decide) ?_
  refine lv_iadd hx hb dL_law_1133 ?_
  refine g_top (y := (nI (3 * n + 1))) (nI_add _ _) ?_
  refine g_sld CX HW hX hsb hsA (k := 3 * n + 1) (by omega) (by omega) dL_law_1134 ?_
  refine g_callV (rest := []) CX HW hl.1 ((wXo cI a1 0  ++ (wVo cI a1 (0 + 1) (vh Z1) (vc Z1) (vA Z1 0) (vA Z1 1) (vA Z1 2) ++ (wR cI a1 ((0 + 1) + 4) (vr Z1) (vA Z1 3) (vA Z1 4) (vA Z1 5) (vA Z1 6) ++ (wS cI a1 ((0 + 1) + 9) (vs Z1) (vA Z1 7) (vA Z1 8) (vA Z1 9) (vA Z1 10) (vA Z1 11) (vA Z1 12) qt1 qp1 ++ (wVo cI a1 (0 + 19) (vh T1) (vc T1) (vA T1 0) (vA T1 1) (vA T1 2) ++ (wR cI a1 ((0 + 19) + 4) (vr T1) (vA T1 3) (vA T1 4) (vA T1 5) (vA T1 6) ++ (wS cI a1 ((0 + 19) + 9) (vs T1) (vA T1 7) (vA T1 8) (vA T1 9) (vA T1 10) (vA T1 11) (vA T1 12) qt21 qp21))))))) ++ [(b, .inl (cL, 1, .inr (.inl f1)))]) [] (c_X5_pass 0 Z th my qu T2 ri2 my2 qu2 (xs (3 * n + 1)) hI.1 hM hQ hU hh) rfl 0 rfl rfl gL_law_X5_pass rfl ⟨rfl, hd_X5_pass⟩ ⟨rfl, rfl, (Nat.le_of_ble_eq_true rfl), (Nat.le_of_ble_eq_true rfl)⟩ ⟨hc, hs⟩ rfl rfl (Nat.le_of_ble_eq_true rfl) dL_law_1135 (fun v w1 H locs hp HW => ?_)
  obtain ⟨Z2, r2, my1, qu1, T3, ri3, my3, qu3, hm2, hM1, rfl, rfl⟩ := hp
  have HW : Hw D A s (((wXo cI a1 0  ++ (wVo cI a1 (0 + 1) (vh Z1) (vc Z1) (vA Z1 0) (vA Z1 1) (vA Z1 2) ++ (wR cI a1 ((0 + 1) + 4) (vr Z1) (vA Z1 3) (vA Z1 4) (vA Z1 5) (vA Z1 6) ++ (wS cI a1 ((0 + 1) + 9) (vs Z1) (vA Z1 7) (vA Z1 8) (vA Z1 9) (vA Z1 10) (vA Z1 11) (vA Z1 12) qt1 qp1 ++ (wVo cI a1 (0 + 19) (vh T1) (vc T1) (vA T1 0) (vA T1 1) (vA T1 2) ++ (wR cI a1 ((0 + 19) + 4) (vr T1) (vA T1 3) (vA T1 4) (vA T1 5) (vA T1 6) ++ (wS cI a1 ((0 + 19) + 9) (vs T1) (vA T1 7) (vA T1 8) (vA T1 9) (vA T1 10) (vA T1 11) (vA T1 12) qt21 qp21))))))) ++ [(b, .inl (cL, 1, .inr (.inl f1)))]) ++ (wMo cI a2 0 (kPas (xs (3 * n + 1))) (vA Z2 0) (vA Z2 1) (vr Z2) (vA Z2 3) (vA Z2 4) (vs Z2) (vA Z2 7) ++ (wMS cI a2 (0 + 6) (a2 0) (vh Z2) (vc Z2) (sumP Z2) (vA Z2 5) (vA Z2 6) (vA Z2 8) (vA Z2 9) (vA Z2 10) (vA Z2 11) (vA Z2 12) (vA Z2 2) my1 qu1 ++ (wMS cI a2 (0 + 17) (a2 0) (vh T3) (vc T3) ri3 (vA T3 5) (vA T3 6) (vA T3 8) (vA T3 9) (vA T3 10) (vA T3 11) (vA T3 12) (vA T3 2) my3 qu3)))) H locs := HW
  obtain ⟨heq, hreq⟩ := mok_eq hm1 hm2
  rw [heq] at HW hM1
  have HW : Hw D A s (((wXo cI a1 0  ++ (wVo cI a1 (0 + 1) (vh Z1) (vc Z1) (vA Z1 0) (vA Z1 1) (vA Z1 2) ++ (wR cI a1 ((0 + 1) + 4) (vr Z1) (vA Z1 3) (vA Z1 4) (vA Z1 5) (vA Z1 6) ++ (wS cI a1 ((0 + 1) + 9) (vs Z1) (vA Z1 7) (vA Z1 8) (vA Z1 9) (vA Z1 10) (vA Z1 11) (vA Z1 12) qt1 qp1 ++ (wVo cI a1 (0 + 19) (vh T1) (vc T1) (vA T1 0) (vA T1 1) (vA T1 2) ++ (wR cI a1 ((0 + 19) + 4) (vr T1) (vA T1 3) (vA T1 4) (vA T1 5) (vA T1 6) ++ (wS cI a1 ((0 + 19) + 9) (vs T1) (vA T1 7) (vA T1 8) (vA T1 9) (vA T1 10) (vA T1 11) (vA T1 12) qt21 qp21))))))) ++ [(b, .inl (cL, 1, .inr (.inl f1)))]) ++ (wMo cI a2 0 (kPas (xs (3 * n + 1))) (vA Z1 0) (vA Z1 1) (vr Z1) (vA Z1 3) (vA Z1 4) (vs Z1) (vA Z1 7) ++ (wMS cI a2 (0 + 6) (a2 0) (vh Z1) (vc Z1) (sumP Z1) (vA Z1 5) (vA Z1 6) (vA Z1 8) (vA Z1 9) (vA Z1 10) (vA Z1 11) (vA Z1 12) (vA Z1 2) my1 qu1 ++ (wMS cI a2 (0 + 17) (a2 0) (vh T3) (vc T3) ri3 (vA T3 5) (vA T3 6) (vA T3 8) (vA T3 9) (vA T3 10) (vA T3 11) (vA T3 12) (vA T3 2) my3 qu3)))) H locs := HW
  have hZ1 := mok_li hm1 hI (li_pass (rep_qok hR) hI)
  refine W.eq (g2 := F0 m 1138 ls [.int r2]) rfl ?_
  refine lv_istore (lv' := [(6, .int r2), (5, .int (kPas (xs (3 * n + 1)))), (4, .int (nI (3 * n))), (3, .ref b), (2, .ref (a2 0)), (1, .ref (a1 0)), (0, .ref sb)]) hx hb dL_law_1138 hl (Nat.le_of_ble_eq_true rfl) rfl (fun ls hl => ?_)
  refine lv_aload_n hx hb dL_law_1140 rfl (lv_at hl 4 rfl) ?_
  refine g_callV (rest := []) CX HW hl.1 ((wXo cI a1 0  ++ (wVo cI a1 (0 + 1) (vh Z1) (vc Z1) (vA Z1 0) (vA Z1 1) (vA Z1 2) ++ (wR cI a1 ((0 + 1) + 4) (vr Z1) (vA Z1 3) (vA Z1 4) (vA Z1 5) (vA Z1 6) ++ (wS cI a1 ((0 + 1) + 9) (vs Z1) (vA Z1 7) (vA Z1 8) (vA Z1 9) (vA Z1 10) (vA Z1 11) (vA Z1 12) qt1 qp1 ++ (wVo cI a1 (0 + 19) (vh T1) (vc T1) (vA T1 0) (vA T1 1) (vA T1 2) ++ (wR cI a1 ((0 + 19) + 4) (vr T1) (vA T1 3) (vA T1 4) (vA T1 5) (vA T1 6) ++ (wS cI a1 ((0 + 19) + 9) (vs T1) (vA T1 7) (vA T1 8) (vA T1 9) (vA T1 10) (vA T1 11) (vA T1 12) qt21 qp21))))))) ++ [(b, .inl (cL, 1, .inr (.inl f1)))]) (wMS cI a2 (0 + 6) (a2 0) (vh Z1) (vc Z1) (sumP Z1) (vA Z1 5) (vA Z1 6) (vA Z1 8) (vA Z1 9) (vA Z1 10) (vA Z1 11) (vA Z1 12) (vA Z1 2) my1 qu1 ++ (wMS cI a2 (0 + 17) (a2 0) (vh T3) (vc T3) ri3 (vA T3 5) (vA T3 6) (vA T3 8) (vA T3 9) (vA T3 10) (vA T3 11) (vA T3 12) (vA T3 2) my3 qu3)) (c_X5_thrown 0 Z1 (kPas (xs (3 * n + 1)))) (by simp only [List.append_assoc]) 0 rfl rfl gL_law_X5_thrown rfl ⟨rfl, hd_X5_thrown⟩ ⟨rfl, rfl, (Nat.le_of_ble_eq_true rfl), (Nat.le_of_ble_eq_true rfl)⟩ ⟨hc, hs⟩ rfl rfl (Nat.le_of_ble_eq_true rfl) dL_law_1141 (fun v w1 H locs hp HW => ?_)
  obtain ⟨rfl, rfl⟩ := hp
  have HW : Hw D A s (((wXo cI a1 0  ++ (wVo cI a1 (0 + 1) (vh Z1) (vc Z1) (vA Z1 0) (vA Z1 1) (vA Z1 2) ++ (wR cI a1 ((0 + 1) + 4) (vr Z1) (vA Z1 3) (vA Z1 4) (vA Z1 5) (vA Z1 6) ++ (wS cI a1 ((0 + 1) + 9) (vs Z1) (vA Z1 7) (vA Z1 8) (vA Z1 9) (vA Z1 10) (vA Z1 11) (vA Z1 12) qt1 qp1 ++ (wVo cI a1 (0 + 19) (vh T1) (vc T1) (vA T1 0) (vA T1 1) (vA T1 2) ++ (wR cI a1 ((0 + 19) + 4) (vr T1) (vA T1 3) (vA T1 4) (vA T1 5) (vA T1 6) ++ (wS cI a1 ((0 + 19) + 9) (vs T1) (vA T1 7) (vA T1 8) (vA T1 9) (vA T1 10) (vA T1 11) (vA T1 12) qt21 qp21))))))) ++ [(b, .inl (cL, 1, .inr (.inl f1)))]) ++ (wMo cI a2 0 (kPas (xs (3 * n + 1))) (vA Z1 0) (vA Z1 1) (vr Z1) (vA Z1 3) (vA Z1 4) (vs Z1) (vA Z1 7) ++ (wMS cI a2 (0 + 6) (a2 0) (vh Z1) (vc Z1) (sumP Z1) (vA Z1 5) (vA Z1 6) (vA Z1 8) (vA Z1 9) (vA Z1 10) (vA Z1 11) (vA Z1 12) (vA Z1 2) my1 qu1 ++ (wMS cI a2 (0 + 17) (a2 0) (vh T3) (vc T3) ri3 (vA T3 5) (vA T3 6) (vA T3 8) (vA T3 9) (vA T3 10) (vA T3 11) (vA T3 12) (vA T3 2) my3 qu3)))) H locs := HW
  refine W.eq (g2 := F0 m 1144 ls [.int (kPas (xs (3 * n + 1)))]) rfl ?_
  refine lv_iload hx hb dL_law_1144 (lv_at hl 1 rfl) ?_
  refine lv_icmp_eq (tgt := 1151) hx hb dL_law_1146 (by decide) (fun _ => ?_) (fun c9 => absurd rfl c9)
  refine lv_iload hx hb dL_law_1151 (lv_at hl 1 rfl) ?_
  refine lv_if_ne (tgt := 1168) hx hb dL_law_1153 (by decide) (fun _ => ?_) (fun c8 => ?_)
  rotate_left
  · have e9 : f1 0 = Int32.toInt64 r2 := by rw [hf1 c8, hreq c8]
    refine lv_aload_n hx hb dL_law_1156 rfl (lv_at hl 3 rfl) ?_
    refine lv_iconst (v := 0) hx hb dL_law_1157 (by decide) ?_
    refine g_lld CX HW 37 (k := 0) rfl rfl rfl (by decide) (by decide) dL_law_1158 ?_
    rw [e9]
    refine lv_iload hx hb dL_law_1159 (lv_at hl 0 rfl) ?_
    refine lv_i2l (v := Int32.toInt64 r2) hx hb dL_law_1161 rfl ?_
    refine W.lcmp hx hb dL_law_1162 ?_
    rw [lcmp_self]
    refine lv_if_eq (tgt := 1168) hx hb dL_law_1163 (by decide) (fun _ => ?_) (fun c7 => absurd rfl c7)
    refine lv_goto (tgt := 1418) hx hb dL_law_1168 (by decide) ?_
    exact kk Z1 _ _ _ hZ1.1 (by have := hZ1.2; omega) ⟨qt1, qp1, T1, qt21, qp21, f1, (kPas (xs (3 * n + 1))), my1, qu1, T3, ri3, my3, qu3, hR1, hM1, HW⟩ (lv_sub hl [2, 3, 4, 5, 6] rfl)
  · skip
    refine lv_goto (tgt := 1418) hx hb dL_law_1168 (by decide) ?_
    exact kk Z1 _ _ _ hZ1.1 (by have := hZ1.2; omega) ⟨qt1, qp1, T1, qt21, qp21, f1, (kPas (xs (3 * n + 1))), my1, qu1, T3, ri3, my3, qu3, hR1, hM1, HW⟩ (lv_sub hl [2, 3, 4, 5, 6] rfl)

set_option maxRecDepth 100000 in
set_option maxHeartbeats 4000000 in
theorem st_until (hst : l.stackTraces = false) (CX : Cx p s m args meth c cL_law 9 ret RL wsL_law D (ty2 cI cL) A) (hZ : Zs A s s.heap) (hX : va_X sb L xs s s.heap) (hsb : sb < s.heap.size) (hsA : ¬ A sb) (hL : L ≤ 1536) (hn : 3 * n + 3 ≤ L) (hI : LI Z) (hv : vh Z ≤ 60 * n) (HL : LR D cI cL A s a1 a2 b Z H locs) (hl : lv_has ls 9 [(4, .int (nI (3 * n))), (3, .ref b), (2, .ref (a2 0)), (1, .ref (a1 0)), (0, .ref sb)]) (hc : cells + 1 ≤ 1128) (hs : slots + 6 ≤ 8896)
    (kk : ∀ (Z1 : VS) (H1 : Heap) (locs1 : List Loc) (ls1 : Array Slot), LI Z1 → vh Z1 ≤ 60 * (n + 1) → LR D cI cL A s a1 a2 b Z1 H1 locs1 → lv_has ls1 9 [(4, .int (nI (3 * n))), (3, .ref b), (2, .ref (a2 0)), (1, .ref (a1 0)), (0, .ref sb)] → W p l e room_1 s m args below meth c H1 locs1 (cells + 1) (slots + 6) Q (F0 m 1418 ls1 [])) : W p l e room_1 s m args below meth c H locs cells slots Q (F0 m 1171 ls []) := by
  obtain ⟨qt, qp, T, qt2, qp2, f, th, my, qu, T2, ri2, my2, qu2, hR, hM, HW⟩ := HL
  obtain ⟨hx, hb, hml, hr, hown, hts, hK, hA, hlk⟩ := id CX
  have hh : vh Z + 100 < 2 ^ 31 := by omega
  have hU : QU (vq Z) := rep_qu hR hI.1.2.1
  have hQ : Qk (vs Z) (vq Z) := rep_qok hR
  have hjq := take_lt hR hI.1.2.1
  refine lv_aload_n hx hb dL_law_1171 rfl (lv_at hl 3 rfl) ?_
  refine lv_aload_n hx hb dL_law_1172 rfl (lv_at hl 4 rfl) ?_
  refine lv_iload hx hb dL_law_1173 (lv_at hl 0 rfl) ?_
  refine lv_iconst (v := 1) hx hb dL_law_1175 (by decide) ?_
  refine lv_iadd hx hb dL_law_1176 ?_
  refine g_top (y := (nI (3 * n + 1))) (nI_add _ _) ?_
  refine g_sld CX HW hX hsb hsA (k := 3 * n + 1) (by omega) (by omega) dL_law_1177 ?_
  refine lv_aload_n hx hb dL_law_1178 rfl (lv_at hl 1 rfl) ?_
  refine gx_callSX (rest := []) CX hZ HW hl.1 [] (wMo cI a2 0 th (vA Z 0) (vA Z 1) (vr Z) (vA Z 3) (vA Z 4) (vs Z) (vA Z 7) ++ (wMS cI a2 (0 + 6) (a2 0) (vh Z) (vc Z) (sumP Z) (vA Z 5) (vA Z 6) (vA Z 8) (vA Z 9) (vA Z 10) (vA Z 11) (vA Z 12) (vA Z 2) my qu ++ (wMS cI a2 (0 + 17) (a2 0) (vh T2) (vc T2) ri2 (vA T2 5) (vA T2 6) (vA T2 8) (vA T2 9) (vA T2 10) (vA T2 11) (vA T2 12) (vA T2 2) my2 qu2))) (c_L_until 0 Z qt qp T qt2 qp2 (xs (3 * n + 1)) b f hst hI.1 hR hh) rfl gL_law_L_until rfl hd_L_until ⟨rfl, rfl, (Nat.le_of_ble_eq_true rfl), (Nat.le_of_ble_eq_true rfl)⟩ ⟨hc, hs⟩ rfl rfl (Nat.le_of_ble_eq_true rfl) dL_law_1179 (fun E ce q9 w1 H locs hp HW hce hcv hcl => hp.elim) (fun v w1 H locs hp HW => ?_)
  obtain ⟨Z1, r1, f1, qt1, qp1, T1, qt21, qp21, hm1, hf1, hR1, rfl, rfl⟩ := hp
  have HW : Hw D A s (((wXo cI a1 0  ++ (wVo cI a1 (0 + 1) (vh Z1) (vc Z1) (vA Z1 0) (vA Z1 1) (vA Z1 2) ++ (wR cI a1 ((0 + 1) + 4) (vr Z1) (vA Z1 3) (vA Z1 4) (vA Z1 5) (vA Z1 6) ++ (wS cI a1 ((0 + 1) + 9) (vs Z1) (vA Z1 7) (vA Z1 8) (vA Z1 9) (vA Z1 10) (vA Z1 11) (vA Z1 12) qt1 qp1 ++ (wVo cI a1 (0 + 19) (vh T1) (vc T1) (vA T1 0) (vA T1 1) (vA T1 2) ++ (wR cI a1 ((0 + 19) + 4) (vr T1) (vA T1 3) (vA T1 4) (vA T1 5) (vA T1 6) ++ (wS cI a1 ((0 + 19) + 9) (vs T1) (vA T1 7) (vA T1 8) (vA T1 9) (vA T1 10) (vA T1 11) (vA T1 12) qt21 qp21))))))) ++ [(b, .inl (cL, 1, .inr (.inl f1)))]) ++ (wMo cI a2 0 th (vA Z 0) (vA Z 1) (vr Z) (vA Z 3) (vA Z 4) (vs Z) (vA Z 7) ++ (wMS cI a2 (0 + 6) (a2 0) (vh Z) (vc Z) (sumP Z) (vA Z 5) (vA Z 6) (vA Z 8) (vA Z 9) (vA Z 10) (vA Z 11) (vA Z 12) (vA Z 2) my qu ++ (wMS cI a2 (0 + 17) (a2 0) (vh T2) (vc T2) ri2 (vA T2 5) (vA T2 6) (vA T2 8) (vA T2 9) (vA T2 10) (vA T2 11) (vA T2 12) (vA T2 2) my2 qu2)))) H locs := HW
  refine W.eq (g2 := F0 m 1182 ls [.int (kLea Z (xs (3 * n + 1)))]) rfl ?_
  refine lv_istore (lv' := [(5, .int (kLea Z (xs (3 * n + 1)))), (4, .int (nI (3 * n))), (3, .ref b), (2, .ref (a2 0)), (1, .ref (a1 0)), (0, .ref sb)]) hx hb dL_law_1182 hl (Nat.le_of_ble_eq_true rfl) rfl (fun ls hl => ?_)
  refine lv_aload_n hx hb dL_law_1184 rfl (lv_at hl 3 rfl) ?_
  refine lv_aload_n hx hb dL_law_1185 rfl (lv_at hl 5 rfl) ?_
  refine lv_iload hx hb dL_law_1186 (lv_at hl 1 rfl) ?_
  refine lv_iconst (v := 1) hx hb dL_law_1188 (by decide) ?_
  refine lv_iadd hx hb dL_law_1189 ?_
  refine g_top (y := (nI (3 * n + 1))) (nI_add _ _) ?_
  refine g_sld CX HW hX hsb hsA (k := 3 * n + 1) (by omega) (by omega) dL_law_1190 ?_
  refine g_callV (rest := []) CX HW hl.1 ((wXo cI a1 0  ++ (wVo cI a1 (0 + 1) (vh Z1) (vc Z1) (vA Z1 0) (vA Z1 1) (vA Z1 2) ++ (wR cI a1 ((0 + 1) + 4) (vr Z1) (vA Z1 3) (vA Z1 4) (vA Z1 5) (vA Z1 6) ++ (wS cI a1 ((0 + 1) + 9) (vs Z1) (vA Z1 7) (vA Z1 8) (vA Z1 9) (vA Z1 10) (vA Z1 11) (vA Z1 12) qt1 qp1 ++ (wVo cI a1 (0 + 19) (vh T1) (vc T1) (vA T1 0) (vA T1 1) (vA T1 2) ++ (wR cI a1 ((0 + 19) + 4) (vr T1) (vA T1 3) (vA T1 4) (vA T1 5) (vA T1 6) ++ (wS cI a1 ((0 + 19) + 9) (vs T1) (vA T1 7) (vA T1 8) (vA T1 9) (vA T1 10) (vA T1 11) (vA T1 12) qt21 qp21))))))) ++ [(b, .inl (cL, 1, .inr (.inl f1)))]) [] (c_X5_until 0 Z th my qu T2 ri2 my2 qu2 (xs (3 * n + 1)) hI.1 hM hQ hU hh) rfl 0 rfl rfl gL_law_X5_until rfl ⟨rfl, hd_X5_until⟩ ⟨rfl, rfl, (Nat.le_of_ble_eq_true rfl), (Nat.le_of_ble_eq_true rfl)⟩ ⟨hc, hs⟩ rfl rfl (Nat.le_of_ble_eq_true rfl) dL_law_1191 (fun v w1 H locs hp HW => ?_)
  obtain ⟨Z2, r2, my1, qu1, T3, ri3, my3, qu3, hm2, hM1, rfl, rfl⟩ := hp
  have HW : Hw D A s (((wXo cI a1 0  ++ (wVo cI a1 (0 + 1) (vh Z1) (vc Z1) (vA Z1 0) (vA Z1 1) (vA Z1 2) ++ (wR cI a1 ((0 + 1) + 4) (vr Z1) (vA Z1 3) (vA Z1 4) (vA Z1 5) (vA Z1 6) ++ (wS cI a1 ((0 + 1) + 9) (vs Z1) (vA Z1 7) (vA Z1 8) (vA Z1 9) (vA Z1 10) (vA Z1 11) (vA Z1 12) qt1 qp1 ++ (wVo cI a1 (0 + 19) (vh T1) (vc T1) (vA T1 0) (vA T1 1) (vA T1 2) ++ (wR cI a1 ((0 + 19) + 4) (vr T1) (vA T1 3) (vA T1 4) (vA T1 5) (vA T1 6) ++ (wS cI a1 ((0 + 19) + 9) (vs T1) (vA T1 7) (vA T1 8) (vA T1 9) (vA T1 10) (vA T1 11) (vA T1 12) qt21 qp21))))))) ++ [(b, .inl (cL, 1, .inr (.inl f1)))]) ++ (wMo cI a2 0 (kLea Z (xs (3 * n + 1))) (vA Z2 0) (vA Z2 1) (vr Z2) (vA Z2 3) (vA Z2 4) (vs Z2) (vA Z2 7) ++ (wMS cI a2 (0 + 6) (a2 0) (vh Z2) (vc Z2) (sumP Z2) (vA Z2 5) (vA Z2 6) (vA Z2 8) (vA Z2 9) (vA Z2 10) (vA Z2 11) (vA Z2 12) (vA Z2 2) my1 qu1 ++ (wMS cI a2 (0 + 17) (a2 0) (vh T3) (vc T3) ri3 (vA T3 5) (vA T3 6) (vA T3 8) (vA T3 9) (vA T3 10) (vA T3 11) (vA T3 12) (vA T3 2) my3 qu3)))) H locs := HW
  obtain ⟨heq, hreq⟩ := mok_eq hm1 hm2
  rw [heq] at HW hM1
  have HW : Hw D A s (((wXo cI a1 0  ++ (wVo cI a1 (0 + 1) (vh Z1) (vc Z1) (vA Z1 0) (vA Z1 1) (vA Z1 2) ++ (wR cI a1 ((0 + 1) + 4) (vr Z1) (vA Z1 3) (vA Z1 4) (vA Z1 5) (vA Z1 6) ++ (wS cI a1 ((0 + 1) + 9) (vs Z1) (vA Z1 7) (vA Z1 8) (vA Z1 9) (vA Z1 10) (vA Z1 11) (vA Z1 12) qt1 qp1 ++ (wVo cI a1 (0 + 19) (vh T1) (vc T1) (vA T1 0) (vA T1 1) (vA T1 2) ++ (wR cI a1 ((0 + 19) + 4) (vr T1) (vA T1 3) (vA T1 4) (vA T1 5) (vA T1 6) ++ (wS cI a1 ((0 + 19) + 9) (vs T1) (vA T1 7) (vA T1 8) (vA T1 9) (vA T1 10) (vA T1 11) (vA T1 12) qt21 qp21))))))) ++ [(b, .inl (cL, 1, .inr (.inl f1)))]) ++ (wMo cI a2 0 (kLea Z (xs (3 * n + 1))) (vA Z1 0) (vA Z1 1) (vr Z1) (vA Z1 3) (vA Z1 4) (vs Z1) (vA Z1 7) ++ (wMS cI a2 (0 + 6) (a2 0) (vh Z1) (vc Z1) (sumP Z1) (vA Z1 5) (vA Z1 6) (vA Z1 8) (vA Z1 9) (vA Z1 10) (vA Z1 11) (vA Z1 12) (vA Z1 2) my1 qu1 ++ (wMS cI a2 (0 + 17) (a2 0) (vh T3) (vc T3) ri3 (vA T3 5) (vA T3 6) (vA T3 8) (vA T3 9) (vA T3 10) (vA T3 11) (vA T3 12) (vA T3 2) my3 qu3)))) H locs := HW
  have hZ1 := mok_li hm1 hI (li_same hI)
  refine W.eq (g2 := F0 m 1194 ls [.int r2]) rfl ?_
  refine lv_istore (lv' := [(6, .int r2), (5, .int (kLea Z (xs (3 * n + 1)))), (4, .int (nI (3 * n))), (3, .ref b), (2, .ref (a2 0)), (1, .ref (a1 0)), (0, .ref sb)]) hx hb dL_law_1194 hl (Nat.le_of_ble_eq_true rfl) rfl (fun ls hl => ?_)
  refine lv_aload_n hx hb dL_law_1196 rfl (lv_at hl 4 rfl) ?_
  refine g_callV (rest := []) CX HW hl.1 ((wXo cI a1 0  ++ (wVo cI a1 (0 + 1) (vh Z1) (vc Z1) (vA Z1 0) (vA Z1 1) (vA Z1 2) ++ (wR cI a1 ((0 + 1) + 4) (vr Z1) (vA Z1 3) (vA Z1 4) (vA Z1 5) (vA Z1 6) ++ (wS cI a1 ((0 + 1) + 9) (vs Z1) (vA Z1 7) (vA Z1 8) (vA Z1 9) (vA Z1 10) (vA Z1 11) (vA Z1 12) qt1 qp1 ++ (wVo cI a1 (0 + 19) (vh T1) (vc T1) (vA T1 0) (vA T1 1) (vA T1 2) ++ (wR cI a1 ((0 + 19) + 4) (vr T1) (vA T1 3) (vA T1 4) (vA T1 5) (vA T1 6) ++ (wS cI a1 ((0 + 19) + 9) (vs T1) (vA T1 7) (vA T1 8) (vA T1 9) (vA T1 10) (vA T1 11) (vA T1 12) qt21 qp21))))))) ++ [(b, .inl (cL, 1, .inr (.inl f1)))]) (wMS cI a2 (0 + 6) (a2 0) (vh Z1) (vc Z1) (sumP Z1) (vA Z1 5) (vA Z1 6) (vA Z1 8) (vA Z1 9) (vA Z1 10) (vA Z1 11) (vA Z1 12) (vA Z1 2) my1 qu1 ++ (wMS cI a2 (0 + 17) (a2 0) (vh T3) (vc T3) ri3 (vA T3 5) (vA T3 6) (vA T3 8) (vA T3 9) (vA T3 10) (vA T3 11) (vA T3 12) (vA T3 2) my3 qu3)) (c_X5_thrown 0 Z1 (kLea Z (xs (3 * n + 1)))) (by simp only [List.append_assoc]) 0 rfl rfl gL_law_X5_thrown rfl ⟨rfl, hd_X5_thrown⟩ ⟨rfl, rfl, (Nat.le_of_ble_eq_true rfl), (Nat.le_of_ble_eq_true rfl)⟩ ⟨hc, hs⟩ rfl rfl (Nat.le_of_ble_eq_true rfl) dL_law_1197 (fun v w1 H locs hp HW => ?_)
  obtain ⟨rfl, rfl⟩ := hp
  have HW : Hw D A s (((wXo cI a1 0  ++ (wVo cI a1 (0 + 1) (vh Z1) (vc Z1) (vA Z1 0) (vA Z1 1) (vA Z1 2) ++ (wR cI a1 ((0 + 1) + 4) (vr Z1) (vA Z1 3) (vA Z1 4) (vA Z1 5) (vA Z1 6) ++ (wS cI a1 ((0 + 1) + 9) (vs Z1) (vA Z1 7) (vA Z1 8) (vA Z1 9) (vA Z1 10) (vA Z1 11) (vA Z1 12) qt1 qp1 ++ (wVo cI a1 (0 + 19) (vh T1) (vc T1) (vA T1 0) (vA T1 1) (vA T1 2) ++ (wR cI a1 ((0 + 19) + 4) (vr T1) (vA T1 3) (vA T1 4) (vA T1 5) (vA T1 6) ++ (wS cI a1 ((0 + 19) + 9) (vs T1) (vA T1 7) (vA T1 8) (vA T1 9) (vA T1 10) (vA T1 11) (vA T1 12) qt21 qp21))))))) ++ [(b, .inl (cL, 1, .inr (.inl f1)))]) ++ (wMo cI a2 0 (kLea Z (xs (3 * n + 1))) (vA Z1 0) (vA Z1 1) (vr Z1) (vA Z1 3) (vA Z1 4) (vs Z1) (vA Z1 7) ++ (wMS cI a2 (0 + 6) (a2 0) (vh Z1) (vc Z1) (sumP Z1) (vA Z1 5) (vA Z1 6) (vA Z1 8) (vA Z1 9) (vA Z1 10) (vA Z1 11) (vA Z1 12) (vA Z1 2) my1 qu1 ++ (wMS cI a2 (0 + 17) (a2 0) (vh T3) (vc T3) ri3 (vA T3 5) (vA T3 6) (vA T3 8) (vA T3 9) (vA T3 10) (vA T3 11) (vA T3 12) (vA T3 2) my3 qu3)))) H locs := HW
  refine W.eq (g2 := F0 m 1200 ls [.int (kLea Z (xs (3 * n + 1)))]) rfl ?_
  refine lv_iload hx hb dL_law_1200 (lv_at hl 1 rfl) ?_
  refine lv_icmp_eq (tgt := 1207) hx hb dL_law_1202 (by decide) (fun _ => ?_) (fun c9 => absurd rfl c9)
  refine lv_iload hx hb dL_law_1207 (lv_at hl 1 rfl) ?_
  refine lv_if_ne (tgt := 1224) hx hb dL_law_1209 (by decide) (fun _ => ?_) (fun c8 => ?_)
  rotate_left
  · have e9 : f1 0 = Int32.toInt64 r2 := by rw [hf1 c8, hreq c8]
    refine lv_aload_n hx hb dL_law_1212 rfl (lv_at hl 3 rfl) ?_
    refine lv_iconst (v := 0) hx hb dL_law_1213 (by decide) ?_
    refine g_lld CX HW 37 (k := 0) rfl rfl rfl (by decide) (by decide) dL_law_1214 ?_
    rw [e9]
    refine lv_iload hx hb dL_law_1215 (lv_at hl 0 rfl) ?_
    refine lv_i2l (v := Int32.toInt64 r2) hx hb dL_law_1217 rfl ?_
    refine W.lcmp hx hb dL_law_1218 ?_
    rw [lcmp_self]
    refine lv_if_eq (tgt := 1224) hx hb dL_law_1219 (by decide) (fun _ => ?_) (fun c7 => absurd rfl c7)
    refine lv_goto (tgt := 1418) hx hb dL_law_1224 (by decide) ?_
    exact kk Z1 _ _ _ hZ1.1 (by have := hZ1.2; omega) ⟨qt1, qp1, T1, qt21, qp21, f1, (kLea Z (xs (3 * n + 1))), my1, qu1, T3, ri3, my3, qu3, hR1, hM1, HW⟩ (lv_sub hl [2, 3, 4, 5, 6] rfl)
  · skip
    refine lv_goto (tgt := 1418) hx hb dL_law_1224 (by decide) ?_
    exact kk Z1 _ _ _ hZ1.1 (by have := hZ1.2; omega) ⟨qt1, qp1, T1, qt21, qp21, f1, (kLea Z (xs (3 * n + 1))), my1, qu1, T3, ri3, my3, qu3, hR1, hM1, HW⟩ (lv_sub hl [2, 3, 4, 5, 6] rfl)

set_option maxRecDepth 100000 in
set_option maxHeartbeats 4000000 in
theorem st_foresee (hst : l.stackTraces = false) (CX : Cx p s m args meth c cL_law 9 ret RL wsL_law D (ty2 cI cL) A) (hZ : Zs A s s.heap) (hX : va_X sb L xs s s.heap) (hsb : sb < s.heap.size) (hsA : ¬ A sb) (hL : L ≤ 1536) (hn : 3 * n + 3 ≤ L) (hI : LI Z) (hv : vh Z ≤ 60 * n) (HL : LR D cI cL A s a1 a2 b Z H locs) (hl : lv_has ls 9 [(4, .int (nI (3 * n))), (3, .ref b), (2, .ref (a2 0)), (1, .ref (a1 0)), (0, .ref sb)]) (hc : cells + 1 ≤ 1128) (hs : slots + 6 ≤ 8896)
    (kk : ∀ (Z1 : VS) (H1 : Heap) (locs1 : List Loc) (ls1 : Array Slot), LI Z1 → vh Z1 ≤ 60 * (n + 1) → LR D cI cL A s a1 a2 b Z1 H1 locs1 → lv_has ls1 9 [(4, .int (nI (3 * n))), (3, .ref b), (2, .ref (a2 0)), (1, .ref (a1 0)), (0, .ref sb)] → W p l e room_1 s m args below meth c H1 locs1 (cells + 1) (slots + 6) Q (F0 m 1418 ls1 [])) : W p l e room_1 s m args below meth c H locs cells slots Q (F0 m 1227 ls []) := by
  obtain ⟨qt, qp, T, qt2, qp2, f, th, my, qu, T2, ri2, my2, qu2, hR, hM, HW⟩ := HL
  obtain ⟨hx, hb, hml, hr, hown, hts, hK, hA, hlk⟩ := id CX
  have hh : vh Z + 100 < 2 ^ 31 := by omega
  have hU : QU (vq Z) := rep_qu hR hI.1.2.1
  have hQ : Qk (vs Z) (vq Z) := rep_qok hR
  have hjq := take_lt hR hI.1.2.1
  refine lv_aload_n hx hb dL_law_1227 rfl (lv_at hl 3 rfl) ?_
  refine lv_aload_n hx hb dL_law_1228 rfl (lv_at hl 4 rfl) ?_
  refine lv_iload hx hb dL_law_1229 (lv_at hl 0 rfl) ?_
  refine lv_iconst (v := 1) hx hb dL_law_1231 (by decide) ?_
  refine lv_iadd hx hb dL_law_1232 ?_
  refine g_top (y := (nI (3 * n + 1))) (nI_add _ _) ?_
  refine g_sld CX HW hX hsb hsA (k := 3 * n + 1) (by omega) (by omega) dL_law_1233 ?_
  refine lv_aload_n hx hb dL_law_1234 rfl (lv_at hl 4 rfl) ?_
  refine lv_iload hx hb dL_law_1235 (lv_at hl 0 rfl) ?_
  refine lv_iconst (v := 2) hx hb dL_law_1237 (by decide) ?_
  refine lv_iadd hx hb dL_law_1238 ?_
  refine g_top (y := (nI (3 * n + 2))) (nI_add _ _) ?_
  refine g_sld CX HW hX hsb hsA (k := 3 * n + 2) (by omega) (by omega) dL_law_1239 ?_
  refine lv_aload_n hx hb dL_law_1240 rfl (lv_at hl 1 rfl) ?_
  refine gx_callSX (rest := []) CX hZ HW hl.1 [] (wMo cI a2 0 th (vA Z 0) (vA Z 1) (vr Z) (vA Z 3) (vA Z 4) (vs Z) (vA Z 7) ++ (wMS cI a2 (0 + 6) (a2 0) (vh Z) (vc Z) (sumP Z) (vA Z 5) (vA Z 6) (vA Z 8) (vA Z 9) (vA Z 10) (vA Z 11) (vA Z 12) (vA Z 2) my qu ++ (wMS cI a2 (0 + 17) (a2 0) (vh T2) (vc T2) ri2 (vA T2 5) (vA T2 6) (vA T2 8) (vA T2 9) (vA T2 10) (vA T2 11) (vA T2 12) (vA T2 2) my2 qu2))) (c_L_foresee 0 Z qt qp T qt2 qp2 (xs (3 * n + 1)) (xs (3 * n + 2)) b f hst hI.1 hR hh) rfl gL_law_L_foresee rfl hd_L_foresee ⟨rfl, rfl, (Nat.le_of_ble_eq_true rfl), (Nat.le_of_ble_eq_true rfl)⟩ ⟨hc, hs⟩ rfl rfl (Nat.le_of_ble_eq_true rfl) dL_law_1241 (fun E ce q9 w1 H locs hp HW hce hcv hcl => hp.elim) (fun v w1 H locs hp HW => ?_)
  obtain ⟨Z1, r1, f1, qt1, qp1, T1, qt21, qp21, hm1, hf1, hR1, rfl, rfl⟩ := hp
  have HW : Hw D A s (((wXo cI a1 0  ++ (wVo cI a1 (0 + 1) (vh Z1) (vc Z1) (vA Z1 0) (vA Z1 1) (vA Z1 2) ++ (wR cI a1 ((0 + 1) + 4) (vr Z1) (vA Z1 3) (vA Z1 4) (vA Z1 5) (vA Z1 6) ++ (wS cI a1 ((0 + 1) + 9) (vs Z1) (vA Z1 7) (vA Z1 8) (vA Z1 9) (vA Z1 10) (vA Z1 11) (vA Z1 12) qt1 qp1 ++ (wVo cI a1 (0 + 19) (vh T1) (vc T1) (vA T1 0) (vA T1 1) (vA T1 2) ++ (wR cI a1 ((0 + 19) + 4) (vr T1) (vA T1 3) (vA T1 4) (vA T1 5) (vA T1 6) ++ (wS cI a1 ((0 + 19) + 9) (vs T1) (vA T1 7) (vA T1 8) (vA T1 9) (vA T1 10) (vA T1 11) (vA T1 12) qt21 qp21))))))) ++ [(b, .inl (cL, 1, .inr (.inl f1)))]) ++ (wMo cI a2 0 th (vA Z 0) (vA Z 1) (vr Z) (vA Z 3) (vA Z 4) (vs Z) (vA Z 7) ++ (wMS cI a2 (0 + 6) (a2 0) (vh Z) (vc Z) (sumP Z) (vA Z 5) (vA Z 6) (vA Z 8) (vA Z 9) (vA Z 10) (vA Z 11) (vA Z 12) (vA Z 2) my qu ++ (wMS cI a2 (0 + 17) (a2 0) (vh T2) (vc T2) ri2 (vA T2 5) (vA T2 6) (vA T2 8) (vA T2 9) (vA T2 10) (vA T2 11) (vA T2 12) (vA T2 2) my2 qu2)))) H locs := HW
  refine W.eq (g2 := F0 m 1244 ls [.int (kFor (xs (3 * n + 1)) (xs (3 * n + 2)))]) rfl ?_
  refine lv_istore (lv' := [(5, .int (kFor (xs (3 * n + 1)) (xs (3 * n + 2)))), (4, .int (nI (3 * n))), (3, .ref b), (2, .ref (a2 0)), (1, .ref (a1 0)), (0, .ref sb)]) hx hb dL_law_1244 hl (Nat.le_of_ble_eq_true rfl) rfl (fun ls hl => ?_)
  refine lv_aload_n hx hb dL_law_1246 rfl (lv_at hl 3 rfl) ?_
  refine lv_aload_n hx hb dL_law_1247 rfl (lv_at hl 5 rfl) ?_
  refine lv_iload hx hb dL_law_1248 (lv_at hl 1 rfl) ?_
  refine lv_iconst (v := 1) hx hb dL_law_1250 (by decide) ?_
  refine lv_iadd hx hb dL_law_1251 ?_
  refine g_top (y := (nI (3 * n + 1))) (nI_add _ _) ?_
  refine g_sld CX HW hX hsb hsA (k := 3 * n + 1) (by omega) (by omega) dL_law_1252 ?_
  refine lv_aload_n hx hb dL_law_1253 rfl (lv_at hl 5 rfl) ?_
  refine lv_iload hx hb dL_law_1254 (lv_at hl 1 rfl) ?_
  refine lv_iconst (v := 2) hx hb dL_law_1256 (by decide) ?_
  refine lv_iadd hx hb dL_law_1257 ?_
  refine g_top (y := (nI (3 * n + 2))) (nI_add _ _) ?_
  refine g_sld CX HW hX hsb hsA (k := 3 * n + 2) (by omega) (by omega) dL_law_1258 ?_
  refine g_callV (rest := []) CX HW hl.1 ((wXo cI a1 0  ++ (wVo cI a1 (0 + 1) (vh Z1) (vc Z1) (vA Z1 0) (vA Z1 1) (vA Z1 2) ++ (wR cI a1 ((0 + 1) + 4) (vr Z1) (vA Z1 3) (vA Z1 4) (vA Z1 5) (vA Z1 6) ++ (wS cI a1 ((0 + 1) + 9) (vs Z1) (vA Z1 7) (vA Z1 8) (vA Z1 9) (vA Z1 10) (vA Z1 11) (vA Z1 12) qt1 qp1 ++ (wVo cI a1 (0 + 19) (vh T1) (vc T1) (vA T1 0) (vA T1 1) (vA T1 2) ++ (wR cI a1 ((0 + 19) + 4) (vr T1) (vA T1 3) (vA T1 4) (vA T1 5) (vA T1 6) ++ (wS cI a1 ((0 + 19) + 9) (vs T1) (vA T1 7) (vA T1 8) (vA T1 9) (vA T1 10) (vA T1 11) (vA T1 12) qt21 qp21))))))) ++ [(b, .inl (cL, 1, .inr (.inl f1)))]) [] (c_X5_foresee 0 Z th my qu T2 ri2 my2 qu2 (xs (3 * n + 1)) (xs (3 * n + 2)) hI.1 hM hQ hU hh) rfl 0 rfl rfl gL_law_X5_foresee rfl ⟨rfl, hd_X5_foresee⟩ ⟨rfl, rfl, (Nat.le_of_ble_eq_true rfl), (Nat.le_of_ble_eq_true rfl)⟩ ⟨hc, hs⟩ rfl rfl (Nat.le_of_ble_eq_true rfl) dL_law_1259 (fun v w1 H locs hp HW => ?_)
  obtain ⟨Z2, r2, my1, qu1, T3, ri3, my3, qu3, hm2, hM1, rfl, rfl⟩ := hp
  have HW : Hw D A s (((wXo cI a1 0  ++ (wVo cI a1 (0 + 1) (vh Z1) (vc Z1) (vA Z1 0) (vA Z1 1) (vA Z1 2) ++ (wR cI a1 ((0 + 1) + 4) (vr Z1) (vA Z1 3) (vA Z1 4) (vA Z1 5) (vA Z1 6) ++ (wS cI a1 ((0 + 1) + 9) (vs Z1) (vA Z1 7) (vA Z1 8) (vA Z1 9) (vA Z1 10) (vA Z1 11) (vA Z1 12) qt1 qp1 ++ (wVo cI a1 (0 + 19) (vh T1) (vc T1) (vA T1 0) (vA T1 1) (vA T1 2) ++ (wR cI a1 ((0 + 19) + 4) (vr T1) (vA T1 3) (vA T1 4) (vA T1 5) (vA T1 6) ++ (wS cI a1 ((0 + 19) + 9) (vs T1) (vA T1 7) (vA T1 8) (vA T1 9) (vA T1 10) (vA T1 11) (vA T1 12) qt21 qp21))))))) ++ [(b, .inl (cL, 1, .inr (.inl f1)))]) ++ (wMo cI a2 0 (kFor (xs (3 * n + 1)) (xs (3 * n + 2))) (vA Z2 0) (vA Z2 1) (vr Z2) (vA Z2 3) (vA Z2 4) (vs Z2) (vA Z2 7) ++ (wMS cI a2 (0 + 6) (a2 0) (vh Z2) (vc Z2) (sumP Z2) (vA Z2 5) (vA Z2 6) (vA Z2 8) (vA Z2 9) (vA Z2 10) (vA Z2 11) (vA Z2 12) (vA Z2 2) my1 qu1 ++ (wMS cI a2 (0 + 17) (a2 0) (vh T3) (vc T3) ri3 (vA T3 5) (vA T3 6) (vA T3 8) (vA T3 9) (vA T3 10) (vA T3 11) (vA T3 12) (vA T3 2) my3 qu3)))) H locs := HW
  obtain ⟨heq, hreq⟩ := mok_eq hm1 hm2
  rw [heq] at HW hM1
  have HW : Hw D A s (((wXo cI a1 0  ++ (wVo cI a1 (0 + 1) (vh Z1) (vc Z1) (vA Z1 0) (vA Z1 1) (vA Z1 2) ++ (wR cI a1 ((0 + 1) + 4) (vr Z1) (vA Z1 3) (vA Z1 4) (vA Z1 5) (vA Z1 6) ++ (wS cI a1 ((0 + 1) + 9) (vs Z1) (vA Z1 7) (vA Z1 8) (vA Z1 9) (vA Z1 10) (vA Z1 11) (vA Z1 12) qt1 qp1 ++ (wVo cI a1 (0 + 19) (vh T1) (vc T1) (vA T1 0) (vA T1 1) (vA T1 2) ++ (wR cI a1 ((0 + 19) + 4) (vr T1) (vA T1 3) (vA T1 4) (vA T1 5) (vA T1 6) ++ (wS cI a1 ((0 + 19) + 9) (vs T1) (vA T1 7) (vA T1 8) (vA T1 9) (vA T1 10) (vA T1 11) (vA T1 12) qt21 qp21))))))) ++ [(b, .inl (cL, 1, .inr (.inl f1)))]) ++ (wMo cI a2 0 (kFor (xs (3 * n + 1)) (xs (3 * n + 2))) (vA Z1 0) (vA Z1 1) (vr Z1) (vA Z1 3) (vA Z1 4) (vs Z1) (vA Z1 7) ++ (wMS cI a2 (0 + 6) (a2 0) (vh Z1) (vc Z1) (sumP Z1) (vA Z1 5) (vA Z1 6) (vA Z1 8) (vA Z1 9) (vA Z1 10) (vA Z1 11) (vA Z1 12) (vA Z1 2) my1 qu1 ++ (wMS cI a2 (0 + 17) (a2 0) (vh T3) (vc T3) ri3 (vA T3 5) (vA T3 6) (vA T3 8) (vA T3 9) (vA T3 10) (vA T3 11) (vA T3 12) (vA T3 2) my3 qu3)))) H locs := HW
  have hZ1 := mok_li hm1 hI (li_same hI)
  refine W.eq (g2 := F0 m 1262 ls [.int r2]) rfl ?_
  refine lv_istore (lv' := [(6, .int r2), (5, .int (kFor (xs (3 * n + 1)) (xs (3 * n + 2)))), (4, .int (nI (3 * n))), (3, .ref b), (2, .ref (a2 0)), (1, .ref (a1 0)), (0, .ref sb)]) hx hb dL_law_1262 hl (Nat.le_of_ble_eq_true rfl) rfl (fun ls hl => ?_)
  refine lv_aload_n hx hb dL_law_1264 rfl (lv_at hl 4 rfl) ?_
  refine g_callV (rest := []) CX HW hl.1 ((wXo cI a1 0  ++ (wVo cI a1 (0 + 1) (vh Z1) (vc Z1) (vA Z1 0) (vA Z1 1) (vA Z1 2) ++ (wR cI a1 ((0 + 1) + 4) (vr Z1) (vA Z1 3) (vA Z1 4) (vA Z1 5) (vA Z1 6) ++ (wS cI a1 ((0 + 1) + 9) (vs Z1) (vA Z1 7) (vA Z1 8) (vA Z1 9) (vA Z1 10) (vA Z1 11) (vA Z1 12) qt1 qp1 ++ (wVo cI a1 (0 + 19) (vh T1) (vc T1) (vA T1 0) (vA T1 1) (vA T1 2) ++ (wR cI a1 ((0 + 19) + 4) (vr T1) (vA T1 3) (vA T1 4) (vA T1 5) (vA T1 6) ++ (wS cI a1 ((0 + 19) + 9) (vs T1) (vA T1 7) (vA T1 8) (vA T1 9) (vA T1 10) (vA T1 11) (vA T1 12) qt21 qp21))))))) ++ [(b, .inl (cL, 1, .inr (.inl f1)))]) (wMS cI a2 (0 + 6) (a2 0) (vh Z1) (vc Z1) (sumP Z1) (vA Z1 5) (vA Z1 6) (vA Z1 8) (vA Z1 9) (vA Z1 10) (vA Z1 11) (vA Z1 12) (vA Z1 2) my1 qu1 ++ (wMS cI a2 (0 + 17) (a2 0) (vh T3) (vc T3) ri3 (vA T3 5) (vA T3 6) (vA T3 8) (vA T3 9) (vA T3 10) (vA T3 11) (vA T3 12) (vA T3 2) my3 qu3)) (c_X5_thrown 0 Z1 (kFor (xs (3 * n + 1)) (xs (3 * n + 2)))) (by simp only [List.append_assoc]) 0 rfl rfl gL_law_X5_thrown rfl ⟨rfl, hd_X5_thrown⟩ ⟨rfl, rfl, (Nat.le_of_ble_eq_true rfl), (Nat.le_of_ble_eq_true rfl)⟩ ⟨hc, hs⟩ rfl rfl (Nat.le_of_ble_eq_true rfl) dL_law_1265 (fun v w1 H locs hp HW => ?_)
  obtain ⟨rfl, rfl⟩ := hp
  have HW : Hw D A s (((wXo cI a1 0  ++ (wVo cI a1 (0 + 1) (vh Z1) (vc Z1) (vA Z1 0) (vA Z1 1) (vA Z1 2) ++ (wR cI a1 ((0 + 1) + 4) (vr Z1) (vA Z1 3) (vA Z1 4) (vA Z1 5) (vA Z1 6) ++ (wS cI a1 ((0 + 1) + 9) (vs Z1) (vA Z1 7) (vA Z1 8) (vA Z1 9) (vA Z1 10) (vA Z1 11) (vA Z1 12) qt1 qp1 ++ (wVo cI a1 (0 + 19) (vh T1) (vc T1) (vA T1 0) (vA T1 1) (vA T1 2) ++ (wR cI a1 ((0 + 19) + 4) (vr T1) (vA T1 3) (vA T1 4) (vA T1 5) (vA T1 6) ++ (wS cI a1 ((0 + 19) + 9) (vs T1) (vA T1 7) (vA T1 8) (vA T1 9) (vA T1 10) (vA T1 11) (vA T1 12) qt21 qp21))))))) ++ [(b, .inl (cL, 1, .inr (.inl f1)))]) ++ (wMo cI a2 0 (kFor (xs (3 * n + 1)) (xs (3 * n + 2))) (vA Z1 0) (vA Z1 1) (vr Z1) (vA Z1 3) (vA Z1 4) (vs Z1) (vA Z1 7) ++ (wMS cI a2 (0 + 6) (a2 0) (vh Z1) (vc Z1) (sumP Z1) (vA Z1 5) (vA Z1 6) (vA Z1 8) (vA Z1 9) (vA Z1 10) (vA Z1 11) (vA Z1 12) (vA Z1 2) my1 qu1 ++ (wMS cI a2 (0 + 17) (a2 0) (vh T3) (vc T3) ri3 (vA T3 5) (vA T3 6) (vA T3 8) (vA T3 9) (vA T3 10) (vA T3 11) (vA T3 12) (vA T3 2) my3 qu3)))) H locs := HW
  refine W.eq (g2 := F0 m 1268 ls [.int (kFor (xs (3 * n + 1)) (xs (3 * n + 2)))]) rfl ?_
  refine lv_iload hx hb dL_law_1268 (lv_at hl 1 rfl) ?_
  refine lv_icmp_eq (tgt := 1275) hx hb dL_law_1270 (by decide) (fun _ => ?_) (fun c9 => absurd rfl c9)
  refine lv_iload hx hb dL_law_1275 (lv_at hl 1 rfl) ?_
  refine lv_if_ne (tgt := 1292) hx hb dL_law_1277 (by decide) (fun _ => ?_) (fun c8 => ?_)
  rotate_left
  · have e9 : f1 0 = Int32.toInt64 r2 := by rw [hf1 c8, hreq c8]
    refine lv_aload_n hx hb dL_law_1280 rfl (lv_at hl 3 rfl) ?_
    refine lv_iconst (v := 0) hx hb dL_law_1281 (by decide) ?_
    refine g_lld CX HW 37 (k := 0) rfl rfl rfl (by decide) (by decide) dL_law_1282 ?_
    rw [e9]
    refine lv_iload hx hb dL_law_1283 (lv_at hl 0 rfl) ?_
    refine lv_i2l (v := Int32.toInt64 r2) hx hb dL_law_1285 rfl ?_
    refine W.lcmp hx hb dL_law_1286 ?_
    rw [lcmp_self]
    refine lv_if_eq (tgt := 1292) hx hb dL_law_1287 (by decide) (fun _ => ?_) (fun c7 => absurd rfl c7)
    refine lv_goto (tgt := 1418) hx hb dL_law_1292 (by decide) ?_
    exact kk Z1 _ _ _ hZ1.1 (by have := hZ1.2; omega) ⟨qt1, qp1, T1, qt21, qp21, f1, (kFor (xs (3 * n + 1)) (xs (3 * n + 2))), my1, qu1, T3, ri3, my3, qu3, hR1, hM1, HW⟩ (lv_sub hl [2, 3, 4, 5, 6] rfl)
  · skip
    refine lv_goto (tgt := 1418) hx hb dL_law_1292 (by decide) ?_
    exact kk Z1 _ _ _ hZ1.1 (by have := hZ1.2; omega) ⟨qt1, qp1, T1, qt21, qp21, f1, (kFor (xs (3 * n + 1)) (xs (3 * n + 2))), my1, qu1, T3, ri3, my3, qu3, hR1, hM1, HW⟩ (lv_sub hl [2, 3, 4, 5, 6] rfl)

set_option maxRecDepth 100000 in
set_option maxHeartbeats 4000000 in
theorem st_advise (hst : l.stackTraces = false) (CX : Cx p s m args meth c cL_law 9 ret RL wsL_law D (ty2 cI cL) A) (hZ : Zs A s s.heap) (hX : va_X sb L xs s s.heap) (hsb : sb < s.heap.size) (hsA : ¬ A sb) (hL : L ≤ 1536) (hn : 3 * n + 3 ≤ L) (hI : LI Z) (hv : vh Z ≤ 60 * n) (HL : LR D cI cL A s a1 a2 b Z H locs) (hl : lv_has ls 9 [(4, .int (nI (3 * n))), (3, .ref b), (2, .ref (a2 0)), (1, .ref (a1 0)), (0, .ref sb)]) (hc : cells + 1 ≤ 1128) (hs : slots + 6 ≤ 8896)
    (kk : ∀ (Z1 : VS) (H1 : Heap) (locs1 : List Loc) (ls1 : Array Slot), LI Z1 → vh Z1 ≤ 60 * (n + 1) → LR D cI cL A s a1 a2 b Z1 H1 locs1 → lv_has ls1 9 [(4, .int (nI (3 * n))), (3, .ref b), (2, .ref (a2 0)), (1, .ref (a1 0)), (0, .ref sb)] → W p l e room_1 s m args below meth c H1 locs1 (cells + 1) (slots + 6) Q (F0 m 1418 ls1 [])) : W p l e room_1 s m args below meth c H locs cells slots Q (F0 m 1295 ls []) := by
  obtain ⟨qt, qp, T, qt2, qp2, f, th, my, qu, T2, ri2, my2, qu2, hR, hM, HW⟩ := HL
  obtain ⟨hx, hb, hml, hr, hown, hts, hK, hA, hlk⟩ := id CX
  have hh : vh Z + 100 < 2 ^ 31 := by omega
  have hU : QU (vq Z) := rep_qu hR hI.1.2.1
  have hQ : Qk (vs Z) (vq Z) := rep_qok hR
  have hjq := take_lt hR hI.1.2.1
  refine lv_aload_n hx hb dL_law_1295 rfl (lv_at hl 3 rfl) ?_
  refine lv_aload_n hx hb dL_law_1296 rfl (lv_at hl 4 rfl) ?_
  refine lv_iload hx hb dL_law_1297 (lv_at hl 0 rfl) ?_
  refine lv_iconst (v := 1) hx hb dL_law_1299 (by decide) ?_
  refine lv_iadd hx hb dL_law_1300 ?_
  refine g_top (y := (nI (3 * n + 1))) (nI_add _ _) ?_
  refine g_sld CX HW hX hsb hsA (k := 3 * n + 1) (by omega) (by omega) dL_law_1301 ?_
  refine lv_aload_n hx hb dL_law_1302 rfl (lv_at hl 4 rfl) ?_
  refine lv_iload hx hb dL_law_1303 (lv_at hl 0 rfl) ?_
  refine lv_iconst (v := 2) hx hb dL_law_1305 (by decide) ?_
  refine lv_iadd hx hb dL_law_1306 ?_
  refine g_top (y := (nI (3 * n + 2))) (nI_add _ _) ?_
  refine g_sld CX HW hX hsb hsA (k := 3 * n + 2) (by omega) (by omega) dL_law_1307 ?_
  refine lv_aload_n hx hb dL_law_1308 rfl (lv_at hl 1 rfl) ?_
  refine gx_callSX (rest := []) CX hZ HW hl.1 [] (wMo cI a2 0 th (vA Z 0) (vA Z 1) (vr Z) (vA Z 3) (vA Z 4) (vs Z) (vA Z 7) ++ (wMS cI a2 (0 + 6) (a2 0) (vh Z) (vc Z) (sumP Z) (vA Z 5) (vA Z 6) (vA Z 8) (vA Z 9) (vA Z 10) (vA Z 11) (vA Z 12) (vA Z 2) my qu ++ (wMS cI a2 (0 + 17) (a2 0) (vh T2) (vc T2) ri2 (vA T2 5) (vA T2 6) (vA T2 8) (vA T2 9) (vA T2 10) (vA T2 11) (vA T2 12) (vA T2 2) my2 qu2))) (c_L_advise 0 Z qt qp T qt2 qp2 (xs (3 * n + 1)) (xs (3 * n + 2)) b f hst hI.1 hR hh) rfl gL_law_L_advise rfl hd_L_advise ⟨rfl, rfl, (Nat.le_of_ble_eq_true rfl), (Nat.le_of_ble_eq_true rfl)⟩ ⟨hc, hs⟩ rfl rfl (Nat.le_of_ble_eq_true rfl) dL_law_1309 (fun E ce q9 w1 H locs hp HW hce hcv hcl => hp.elim) (fun v w1 H locs hp HW => ?_)
  obtain ⟨Z1, r1, f1, qt1, qp1, T1, qt21, qp21, hm1, hf1, hR1, rfl, rfl⟩ := hp
  have HW : Hw D A s (((wXo cI a1 0  ++ (wVo cI a1 (0 + 1) (vh Z1) (vc Z1) (vA Z1 0) (vA Z1 1) (vA Z1 2) ++ (wR cI a1 ((0 + 1) + 4) (vr Z1) (vA Z1 3) (vA Z1 4) (vA Z1 5) (vA Z1 6) ++ (wS cI a1 ((0 + 1) + 9) (vs Z1) (vA Z1 7) (vA Z1 8) (vA Z1 9) (vA Z1 10) (vA Z1 11) (vA Z1 12) qt1 qp1 ++ (wVo cI a1 (0 + 19) (vh T1) (vc T1) (vA T1 0) (vA T1 1) (vA T1 2) ++ (wR cI a1 ((0 + 19) + 4) (vr T1) (vA T1 3) (vA T1 4) (vA T1 5) (vA T1 6) ++ (wS cI a1 ((0 + 19) + 9) (vs T1) (vA T1 7) (vA T1 8) (vA T1 9) (vA T1 10) (vA T1 11) (vA T1 12) qt21 qp21))))))) ++ [(b, .inl (cL, 1, .inr (.inl f1)))]) ++ (wMo cI a2 0 th (vA Z 0) (vA Z 1) (vr Z) (vA Z 3) (vA Z 4) (vs Z) (vA Z 7) ++ (wMS cI a2 (0 + 6) (a2 0) (vh Z) (vc Z) (sumP Z) (vA Z 5) (vA Z 6) (vA Z 8) (vA Z 9) (vA Z 10) (vA Z 11) (vA Z 12) (vA Z 2) my qu ++ (wMS cI a2 (0 + 17) (a2 0) (vh T2) (vc T2) ri2 (vA T2 5) (vA T2 6) (vA T2 8) (vA T2 9) (vA T2 10) (vA T2 11) (vA T2 12) (vA T2 2) my2 qu2)))) H locs := HW
  refine W.eq (g2 := F0 m 1312 ls [.int (kAdv Z (xs (3 * n + 1)) (xs (3 * n + 2)))]) rfl ?_
  refine lv_istore (lv' := [(5, .int (kAdv Z (xs (3 * n + 1)) (xs (3 * n + 2)))), (4, .int (nI (3 * n))), (3, .ref b), (2, .ref (a2 0)), (1, .ref (a1 0)), (0, .ref sb)]) hx hb dL_law_1312 hl (Nat.le_of_ble_eq_true rfl) rfl (fun ls hl => ?_)
  refine lv_aload_n hx hb dL_law_1314 rfl (lv_at hl 3 rfl) ?_
  refine lv_aload_n hx hb dL_law_1315 rfl (lv_at hl 5 rfl) ?_
  refine lv_iload hx hb dL_law_1316 (lv_at hl 1 rfl) ?_
  refine lv_iconst (v := 1) hx hb dL_law_1318 (by decide) ?_
  refine lv_iadd hx hb dL_law_1319 ?_
  refine g_top (y := (nI (3 * n + 1))) (nI_add _ _) ?_
  refine g_sld CX HW hX hsb hsA (k := 3 * n + 1) (by omega) (by omega) dL_law_1320 ?_
  refine lv_aload_n hx hb dL_law_1321 rfl (lv_at hl 5 rfl) ?_
  refine lv_iload hx hb dL_law_1322 (lv_at hl 1 rfl) ?_
  refine lv_iconst (v := 2) hx hb dL_law_1324 (by decide) ?_
  refine lv_iadd hx hb dL_law_1325 ?_
  refine g_top (y := (nI (3 * n + 2))) (nI_add _ _) ?_
  refine g_sld CX HW hX hsb hsA (k := 3 * n + 2) (by omega) (by omega) dL_law_1326 ?_
  refine g_callV (rest := []) CX HW hl.1 ((wXo cI a1 0  ++ (wVo cI a1 (0 + 1) (vh Z1) (vc Z1) (vA Z1 0) (vA Z1 1) (vA Z1 2) ++ (wR cI a1 ((0 + 1) + 4) (vr Z1) (vA Z1 3) (vA Z1 4) (vA Z1 5) (vA Z1 6) ++ (wS cI a1 ((0 + 1) + 9) (vs Z1) (vA Z1 7) (vA Z1 8) (vA Z1 9) (vA Z1 10) (vA Z1 11) (vA Z1 12) qt1 qp1 ++ (wVo cI a1 (0 + 19) (vh T1) (vc T1) (vA T1 0) (vA T1 1) (vA T1 2) ++ (wR cI a1 ((0 + 19) + 4) (vr T1) (vA T1 3) (vA T1 4) (vA T1 5) (vA T1 6) ++ (wS cI a1 ((0 + 19) + 9) (vs T1) (vA T1 7) (vA T1 8) (vA T1 9) (vA T1 10) (vA T1 11) (vA T1 12) qt21 qp21))))))) ++ [(b, .inl (cL, 1, .inr (.inl f1)))]) [] (c_X5_advise 0 Z th my qu T2 ri2 my2 qu2 (xs (3 * n + 1)) (xs (3 * n + 2)) hI.1 hM hQ hU hh) rfl 0 rfl rfl gL_law_X5_advise rfl ⟨rfl, hd_X5_advise⟩ ⟨rfl, rfl, (Nat.le_of_ble_eq_true rfl), (Nat.le_of_ble_eq_true rfl)⟩ ⟨hc, hs⟩ rfl rfl (Nat.le_of_ble_eq_true rfl) dL_law_1327 (fun v w1 H locs hp HW => ?_)
  obtain ⟨Z2, r2, my1, qu1, T3, ri3, my3, qu3, hm2, hM1, rfl, rfl⟩ := hp
  have HW : Hw D A s (((wXo cI a1 0  ++ (wVo cI a1 (0 + 1) (vh Z1) (vc Z1) (vA Z1 0) (vA Z1 1) (vA Z1 2) ++ (wR cI a1 ((0 + 1) + 4) (vr Z1) (vA Z1 3) (vA Z1 4) (vA Z1 5) (vA Z1 6) ++ (wS cI a1 ((0 + 1) + 9) (vs Z1) (vA Z1 7) (vA Z1 8) (vA Z1 9) (vA Z1 10) (vA Z1 11) (vA Z1 12) qt1 qp1 ++ (wVo cI a1 (0 + 19) (vh T1) (vc T1) (vA T1 0) (vA T1 1) (vA T1 2) ++ (wR cI a1 ((0 + 19) + 4) (vr T1) (vA T1 3) (vA T1 4) (vA T1 5) (vA T1 6) ++ (wS cI a1 ((0 + 19) + 9) (vs T1) (vA T1 7) (vA T1 8) (vA T1 9) (vA T1 10) (vA T1 11) (vA T1 12) qt21 qp21))))))) ++ [(b, .inl (cL, 1, .inr (.inl f1)))]) ++ (wMo cI a2 0 (kAdv Z (xs (3 * n + 1)) (xs (3 * n + 2))) (vA Z2 0) (vA Z2 1) (vr Z2) (vA Z2 3) (vA Z2 4) (vs Z2) (vA Z2 7) ++ (wMS cI a2 (0 + 6) (a2 0) (vh Z2) (vc Z2) (sumP Z2) (vA Z2 5) (vA Z2 6) (vA Z2 8) (vA Z2 9) (vA Z2 10) (vA Z2 11) (vA Z2 12) (vA Z2 2) my1 qu1 ++ (wMS cI a2 (0 + 17) (a2 0) (vh T3) (vc T3) ri3 (vA T3 5) (vA T3 6) (vA T3 8) (vA T3 9) (vA T3 10) (vA T3 11) (vA T3 12) (vA T3 2) my3 qu3)))) H locs := HW
  obtain ⟨heq, hreq⟩ := mok_eq hm1 hm2
  rw [heq] at HW hM1
  have HW : Hw D A s (((wXo cI a1 0  ++ (wVo cI a1 (0 + 1) (vh Z1) (vc Z1) (vA Z1 0) (vA Z1 1) (vA Z1 2) ++ (wR cI a1 ((0 + 1) + 4) (vr Z1) (vA Z1 3) (vA Z1 4) (vA Z1 5) (vA Z1 6) ++ (wS cI a1 ((0 + 1) + 9) (vs Z1) (vA Z1 7) (vA Z1 8) (vA Z1 9) (vA Z1 10) (vA Z1 11) (vA Z1 12) qt1 qp1 ++ (wVo cI a1 (0 + 19) (vh T1) (vc T1) (vA T1 0) (vA T1 1) (vA T1 2) ++ (wR cI a1 ((0 + 19) + 4) (vr T1) (vA T1 3) (vA T1 4) (vA T1 5) (vA T1 6) ++ (wS cI a1 ((0 + 19) + 9) (vs T1) (vA T1 7) (vA T1 8) (vA T1 9) (vA T1 10) (vA T1 11) (vA T1 12) qt21 qp21))))))) ++ [(b, .inl (cL, 1, .inr (.inl f1)))]) ++ (wMo cI a2 0 (kAdv Z (xs (3 * n + 1)) (xs (3 * n + 2))) (vA Z1 0) (vA Z1 1) (vr Z1) (vA Z1 3) (vA Z1 4) (vs Z1) (vA Z1 7) ++ (wMS cI a2 (0 + 6) (a2 0) (vh Z1) (vc Z1) (sumP Z1) (vA Z1 5) (vA Z1 6) (vA Z1 8) (vA Z1 9) (vA Z1 10) (vA Z1 11) (vA Z1 12) (vA Z1 2) my1 qu1 ++ (wMS cI a2 (0 + 17) (a2 0) (vh T3) (vc T3) ri3 (vA T3 5) (vA T3 6) (vA T3 8) (vA T3 9) (vA T3 10) (vA T3 11) (vA T3 12) (vA T3 2) my3 qu3)))) H locs := HW
  have hZ1 := mok_li hm1 hI (li_same hI)
  refine W.eq (g2 := F0 m 1330 ls [.int r2]) rfl ?_
  refine lv_istore (lv' := [(6, .int r2), (5, .int (kAdv Z (xs (3 * n + 1)) (xs (3 * n + 2)))), (4, .int (nI (3 * n))), (3, .ref b), (2, .ref (a2 0)), (1, .ref (a1 0)), (0, .ref sb)]) hx hb dL_law_1330 hl (Nat.le_of_ble_eq_true rfl) rfl (fun ls hl => ?_)
  refine lv_aload_n hx hb dL_law_1332 rfl (lv_at hl 4 rfl) ?_
  refine g_callV (rest := []) CX HW hl.1 ((wXo cI a1 0  ++ (wVo cI a1 (0 + 1) (vh Z1) (vc Z1) (vA Z1 0) (vA Z1 1) (vA Z1 2) ++ (wR cI a1 ((0 + 1) + 4) (vr Z1) (vA Z1 3) (vA Z1 4) (vA Z1 5) (vA Z1 6) ++ (wS cI a1 ((0 + 1) + 9) (vs Z1) (vA Z1 7) (vA Z1 8) (vA Z1 9) (vA Z1 10) (vA Z1 11) (vA Z1 12) qt1 qp1 ++ (wVo cI a1 (0 + 19) (vh T1) (vc T1) (vA T1 0) (vA T1 1) (vA T1 2) ++ (wR cI a1 ((0 + 19) + 4) (vr T1) (vA T1 3) (vA T1 4) (vA T1 5) (vA T1 6) ++ (wS cI a1 ((0 + 19) + 9) (vs T1) (vA T1 7) (vA T1 8) (vA T1 9) (vA T1 10) (vA T1 11) (vA T1 12) qt21 qp21))))))) ++ [(b, .inl (cL, 1, .inr (.inl f1)))]) (wMS cI a2 (0 + 6) (a2 0) (vh Z1) (vc Z1) (sumP Z1) (vA Z1 5) (vA Z1 6) (vA Z1 8) (vA Z1 9) (vA Z1 10) (vA Z1 11) (vA Z1 12) (vA Z1 2) my1 qu1 ++ (wMS cI a2 (0 + 17) (a2 0) (vh T3) (vc T3) ri3 (vA T3 5) (vA T3 6) (vA T3 8) (vA T3 9) (vA T3 10) (vA T3 11) (vA T3 12) (vA T3 2) my3 qu3)) (c_X5_thrown 0 Z1 (kAdv Z (xs (3 * n + 1)) (xs (3 * n + 2)))) (by simp only [List.append_assoc]) 0 rfl rfl gL_law_X5_thrown rfl ⟨rfl, hd_X5_thrown⟩ ⟨rfl, rfl, (Nat.le_of_ble_eq_true rfl), (Nat.le_of_ble_eq_true rfl)⟩ ⟨hc, hs⟩ rfl rfl (Nat.le_of_ble_eq_true rfl) dL_law_1333 (fun v w1 H locs hp HW => ?_)
  obtain ⟨rfl, rfl⟩ := hp
  have HW : Hw D A s (((wXo cI a1 0  ++ (wVo cI a1 (0 + 1) (vh Z1) (vc Z1) (vA Z1 0) (vA Z1 1) (vA Z1 2) ++ (wR cI a1 ((0 + 1) + 4) (vr Z1) (vA Z1 3) (vA Z1 4) (vA Z1 5) (vA Z1 6) ++ (wS cI a1 ((0 + 1) + 9) (vs Z1) (vA Z1 7) (vA Z1 8) (vA Z1 9) (vA Z1 10) (vA Z1 11) (vA Z1 12) qt1 qp1 ++ (wVo cI a1 (0 + 19) (vh T1) (vc T1) (vA T1 0) (vA T1 1) (vA T1 2) ++ (wR cI a1 ((0 + 19) + 4) (vr T1) (vA T1 3) (vA T1 4) (vA T1 5) (vA T1 6) ++ (wS cI a1 ((0 + 19) + 9) (vs T1) (vA T1 7) (vA T1 8) (vA T1 9) (vA T1 10) (vA T1 11) (vA T1 12) qt21 qp21))))))) ++ [(b, .inl (cL, 1, .inr (.inl f1)))]) ++ (wMo cI a2 0 (kAdv Z (xs (3 * n + 1)) (xs (3 * n + 2))) (vA Z1 0) (vA Z1 1) (vr Z1) (vA Z1 3) (vA Z1 4) (vs Z1) (vA Z1 7) ++ (wMS cI a2 (0 + 6) (a2 0) (vh Z1) (vc Z1) (sumP Z1) (vA Z1 5) (vA Z1 6) (vA Z1 8) (vA Z1 9) (vA Z1 10) (vA Z1 11) (vA Z1 12) (vA Z1 2) my1 qu1 ++ (wMS cI a2 (0 + 17) (a2 0) (vh T3) (vc T3) ri3 (vA T3 5) (vA T3 6) (vA T3 8) (vA T3 9) (vA T3 10) (vA T3 11) (vA T3 12) (vA T3 2) my3 qu3)))) H locs := HW
  refine W.eq (g2 := F0 m 1336 ls [.int (kAdv Z (xs (3 * n + 1)) (xs (3 * n + 2)))]) rfl ?_
  refine lv_iload hx hb dL_law_1336 (lv_at hl 1 rfl) ?_
  refine lv_icmp_eq (tgt := 1343) hx hb dL_law_1338 (by decide) (fun _ => ?_) (fun c9 => absurd rfl c9)
  refine lv_iload hx hb dL_law_1343 (lv_at hl 1 rfl) ?_
  refine lv_if_ne (tgt := 1360) hx hb dL_law_1345 (by decide) (fun _ => ?_) (fun c8 => ?_)
  rotate_left
  · have e9 : f1 0 = Int32.toInt64 r2 := by rw [hf1 c8, hreq c8]
    refine lv_aload_n hx hb dL_law_1348 rfl (lv_at hl 3 rfl) ?_
    refine lv_iconst (v := 0) hx hb dL_law_1349 (by decide) ?_
    refine g_lld CX HW 37 (k := 0) rfl rfl rfl (by decide) (by decide) dL_law_1350 ?_
    rw [e9]
    refine lv_iload hx hb dL_law_1351 (lv_at hl 0 rfl) ?_
    refine lv_i2l (v := Int32.toInt64 r2) hx hb dL_law_1353 rfl ?_
    refine W.lcmp hx hb dL_law_1354 ?_
    rw [lcmp_self]
    refine lv_if_eq (tgt := 1360) hx hb dL_law_1355 (by decide) (fun _ => ?_) (fun c7 => absurd rfl c7)
    refine lv_goto (tgt := 1418) hx hb dL_law_1360 (by decide) ?_
    exact kk Z1 _ _ _ hZ1.1 (by have := hZ1.2; omega) ⟨qt1, qp1, T1, qt21, qp21, f1, (kAdv Z (xs (3 * n + 1)) (xs (3 * n + 2))), my1, qu1, T3, ri3, my3, qu3, hR1, hM1, HW⟩ (lv_sub hl [2, 3, 4, 5, 6] rfl)
  · skip
    refine lv_goto (tgt := 1418) hx hb dL_law_1360 (by decide) ?_
    exact kk Z1 _ _ _ hZ1.1 (by have := hZ1.2; omega) ⟨qt1, qp1, T1, qt21, qp21, f1, (kAdv Z (xs (3 * n + 1)) (xs (3 * n + 2))), my1, qu1, T3, ri3, my3, qu3, hR1, hM1, HW⟩ (lv_sub hl [2, 3, 4, 5, 6] rfl)

end LAW
