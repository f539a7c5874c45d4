section GE
variable {p : Program} {l : Launch} {e : Env} {R : Room} {s : State} {m : MethodId} {args : Array Value} {below : List Frame} {meth : Method} {c : Code} {H : Heap} {locs : List Loc} {cells slots : Nat} {Q : State → Prop}
variable {cc : ByteArray} {pc nL : Nat} {ls : Array Slot} {rest : List Value} {ret : Option FieldType} {own : String} {Ts : List Cond} {D : va_G} {A : Nat → Prop} {a : Nat} {tys : List (ClassId × FieldType)} {w : va_W}
theorem gd_run {pre wc suf : va_W} {post : Option Value → va_W → Prop} {st0 : List Value} {av : Array Value} {mc ms : Nat} (HW : Hw D A s w H locs) (hw : w = pre ++ (wc ++ suf)) (hA : ∀ q : Nat, s.heap.size ≤ q → A q)
    (hr : va_RunD lw_cs p l e R s m args below meth c H locs cells slots mc ms (F0 m pc ls st0) rest (cQ D (va_A wc H.size) post av) (va_A wc H.size))
    (kk : ∀ (d1 : Drawn) (v : Option Value) (w1 : va_W) (H1 : Heap) (locs1 : List Loc), s.drawn.sameBut d1 lw_cs → post v w1 → Hw D A s (pre ++ (w1 ++ suf)) H1 locs1 → W p l e R (s.setDrawn d1) m args below meth c H1 locs1 (cells + mc) (slots + ms) Q (F0 m (pc + 3) ls (v.toList ++ rest))) : W p l e R s m args below meth c H locs cells slots Q (F0 m pc ls st0) := by
  subst hw
  intro T hT X
  obtain ⟨-, -, hF, hj⟩ := g_cut HW hA
  obtain ⟨hP, hD, hS⟩ := HW
  obtain ⟨v, st₀, t, T', L, d', hd', h0, X', hL, e1, e2, ⟨⟨v', w1, hv, hp, hP1, hD1⟩, hz, hk⟩, st⟩ := hr T hT X
  cases hv
  rw [h0] at hz hk
  obtain ⟨j1, j2⟩ := hj t.heap w1 hk hP1 hD1
  rw [← e1] at j1 hz hk
  obtain ⟨t2, a1, b1⟩ := kk d' v w1 T'.heap (locs ++ L) hd' hp ⟨j1, j2, Nat.le_trans hS.1 hz, fun q h1 h2 => (hk q (Nat.lt_of_lt_of_le h1 hS.1) (fun z => h2 (hF q z))).trans (hS.2.1 q h1 h2), fun q hq => by
      rcases List.mem_append.mp hq with h | h
      · exact hS.2.2 q h
      · exact hF _ (hL q h)⟩ T' rfl X'
  exact ⟨t2, st t2 a1, b1⟩
/-- an instance method that may draw -/
theorem gd_callV {y : MethodName} {index n maxL : Nat} {bytes : ByteArray} {rt : Option FieldType} {ws2 ws2' : List Cond} {rm2 : Room} {b ci : Nat} {fs : List Value} {C : String} {T : u_T} {N : Nat} {As st0 : List Value} {wc : va_W} {post : Option Value → va_W → Prop} (CX : Cx p s m args meth c cc nL ret own Ts D tys A) (HW : Hw D A s w H locs) (hl : ls.size = nL) (pre suf : va_W) (hc : CtD l y ws2 rm2 D tys (.ref b :: As) wc post 0 0) (hw : w = pre ++ (wc ++ suf)) (qr : Nat) (he : wc[qr]? = some (b, .inr (ci, fs))) (hci : vwCl[ci]? = some (C, T, N))
    (hG : GoodIn Ts (wsV own index C y ws2)) (hy : ws2 = Cond.code y bytes maxL rt :: ws2') (hd : y.cls = C ∧ y.cls ≠ "java/lang/invoke/MethodHandle" ∧ y.cls ≠ "java/lang/invoke/VarHandle" ∧ (parseMethodDescriptor y.desc).map (fun d => d.parameters.length) = some n) (hR : rm2.cells = 0 ∧ rm2.slots = 0 ∧ rm2.frames + 1 ≤ R.frames ∧ 8 + (maxL + 11) + rm2.locals ≤ R.locals) (hcs : cells ≤ R.cells ∧ slots ≤ R.slots) (hn : As.length = n) (hst : st0 = As.reverse ++ .ref b :: rest) (hW : (rest.map fun v => v.category).sum ≤ 8) (hdg : decode cc pc = .ok (.invokevirtual index, 3))
    (kk : ∀ (d1 : Drawn) (v : Option Value) (w1 : va_W) (H1 : Heap) (locs1 : List Loc), s.drawn.sameBut d1 lw_cs → post v w1 → Hw D A s (pre ++ (w1 ++ suf)) H1 locs1 → W p l e R (s.setDrawn d1) m args below meth c H1 locs1 cells slots Q (F0 m (pc + 3) ls (v.toList ++ rest))) : W p l e R s m args below meth c H locs cells slots Q (F0 m pc ls st0) :=
  gd_run HW hw CX.hA (va_runV_D CX.fix (hc H.size) (cwV n CX.fix.2.2.2.2 hG hy hR.1 hR.2.1 hd ⟨hR.2.2.1, hR.2.2.2⟩) (g_preV CX HW hw hci he As) rfl hn hl hst (lv_room hW) hdg hcs) kk
end GE
theorem nan_dec {a : UInt64} (h : isNaN64 a = true) : FP.Core.decode FP.Core.b64 a.toNat = .nan := by
  have h1 := isNaN64_iff.mp h
  rw [show (0x7fffffffffffffff : Nat) = 2 ^ 63 - 1 by decide, Nat.and_two_pow_sub_one_eq_mod] at h1
  have h2 := a.toNat_lt
  have e1 : FP.Core.fieldE FP.Core.b64 a.toNat = 2047 := by
    show a.toNat / 2 ^ 52 % 2 ^ 11 = 2047
    omega
  have e2 : FP.Core.fieldT FP.Core.b64 a.toNat ≠ 0 := by
    show a.toNat % 2 ^ 52 ≠ 0
    omega
  unfold FP.Core.decode
  rw [if_pos (show FP.Core.fieldE FP.Core.b64 a.toNat = FP.Core.b64.exps - 1 from e1), if_neg e2]
theorem nan_cmp {a : UInt64} (h : isNaN64 a = true) : ¬ cmpValue (FP.dcmp a a) .l = 0 := by
  have e : FP.dcmp a a = none := by
    show FP.Core.order (FP.Core.decode FP.Core.b64 a.toNat) (FP.Core.decode FP.Core.b64 a.toNat) = none
    rw [nan_dec h]; rfl
  rw [e]; decide
theorem mean_nan {a b x : UInt64} (h1 : alike64 a x = true) (h2 : alike64 b x = true) (hc : ¬ cmpValue (FP.dcmp a b) .l = 0) : (¬ cmpValue (FP.dcmp a a) .l = 0) ∧ ¬ cmpValue (FP.dcmp b b) .l = 0 := by
  simp only [alike64, Bool.or_eq_true, decide_eq_true_eq, Bool.and_eq_true] at h1 h2
  rcases h1 with rfl | ⟨ha, hx⟩
  · rcases h2 with rfl | ⟨hb, hx⟩
    · exact ⟨hc, hc⟩
    · exact ⟨nan_cmp hx, nan_cmp hb⟩
  · rcases h2 with rfl | ⟨hb, -⟩
    · exact ⟨nan_cmp ha, nan_cmp hx⟩
    · exact ⟨nan_cmp ha, nan_cmp hb⟩
section LAW2
variable {p : Program} {l : Launch} {e : Env} {s : State} {m : MethodId} {args : Array Value} {below : List Frame} {meth : Method} {c : Code} {H : Heap} {locs : List Loc} {cells slots : Nat} {Q : State → Prop} {ls : Array Slot} {D : va_G} {A : Nat → Prop} {cI cL : ClassId} {a1 a2 : Nat → Nat} {b sb L n : Nat} {xs : Nat → Int32} {Z : VS}
set_option maxRecDepth 100000 in
set_option maxHeartbeats 4000000 in
theorem st_mean (hst : l.stackTraces = false) (CX : Cx p s m args meth c cL_law 9 ret RL wsL_law D (ty2 cI cL) A) (hZ : Zs A s s.heap) (hX : va_X sb L xs s s.heap) (hsb : sb < s.heap.size) (hsA : ¬ A sb) (hL : L ≤ 1536) (hn : 3 * n + 3 ≤ L) (hI : LI Z) (hv : vh Z ≤ 60 * n) (HL : LR D cI cL A s a1 a2 b Z H locs) (hl : lv_has ls 9 [(4, .int (nI (3 * n))), (3, .ref b), (2, .ref (a2 0)), (1, .ref (a1 0)), (0, .ref sb)]) (hc : cells + 1 ≤ 1128) (hs : slots + 6 ≤ 8896)
    (kk : ∀ (d1 : Drawn) (H1 : Heap) (locs1 : List Loc) (ls1 : Array Slot), s.drawn.sameBut d1 lw_cs → LR D cI cL A s a1 a2 b Z H1 locs1 → lv_has ls1 9 [(4, .int (nI (3 * n))), (3, .ref b), (2, .ref (a2 0)), (1, .ref (a1 0)), (0, .ref sb)] → W p l e room_1 (s.setDrawn d1) m args below meth c H1 locs1 (cells + 1) (slots + 6) Q (F0 m 1418 ls1 [])) : W p l e room_1 s m args below meth c H locs cells slots Q (F0 m 1363 ls []) := by
  obtain ⟨qt, qp, T, qt2, qp2, f, th, my, qu, T2, ri2, my2, qu2, hR, hM, HW⟩ := HL
  obtain ⟨hx, hb, hml, hr, hown, hts, hK, hA, hlk⟩ := id CX
  have hh : vh Z + 100 < 2 ^ 31 := by omega
  have hU : QU (vq Z) := rep_qu hR hI.1.2.1
  have hQ : Qk (vs Z) (vq Z) := rep_qok hR
  have hjq := take_lt hR hI.1.2.1
  refine lv_aload_n hx hb dL_law_1363 rfl (lv_at hl 3 rfl) ?_
  refine gd_callV (rest := []) CX HW hl.1 [] ([(b, .inl (cL, 1, .inr (.inl f)))] ++ (wMo cI a2 0 th (vA Z 0) (vA Z 1) (vr Z) (vA Z 3) (vA Z 4) (vs Z) (vA Z 7) ++ (wMS cI a2 (0 + 6) (a2 0) (vh Z) (vc Z) (sumP Z) (vA Z 5) (vA Z 6) (vA Z 8) (vA Z 9) (vA Z 10) (vA Z 11) (vA Z 12) (vA Z 2) my qu ++ (wMS cI a2 (0 + 17) (a2 0) (vh T2) (vc T2) ri2 (vA T2 5) (vA T2 6) (vA T2 8) (vA T2 9) (vA T2 10) (vA T2 11) (vA T2 12) (vA T2 2) my2 qu2)))) (c_X3_mean 0 Z qt qp T qt2 qp2 hI.1.2.1) (by simp only [List.append_assoc, List.nil_append]) 0 rfl rfl gL_law_X3_mean rfl ⟨rfl, hd_X3_mean⟩ ⟨rfl, rfl, (Nat.le_of_ble_eq_true rfl), (Nat.le_of_ble_eq_true rfl)⟩ ⟨by show cells ≤ 1128; omega, by show slots ≤ 8896; omega⟩ rfl rfl (Nat.le_of_ble_eq_true rfl) dL_law_1364 (fun d1 v w1 H locs hd1 hp HW => ?_)
  obtain ⟨ra, hal1, rfl, rfl⟩ := hp
  have HW : Hw D A (s.setDrawn d1) (((wXo cI a1 0  ++ (wVo cI a1 (0 + 1) (vh Z) (vc Z) (vA Z 0) (vA Z 1) (vA Z 2) ++ (wR cI a1 ((0 + 1) + 4) (vr Z) (vA Z 3) (vA Z 4) (vA Z 5) (vA Z 6) ++ (wS cI a1 ((0 + 1) + 9) (vs Z) (vA Z 7) (vA Z 8) (vA Z 9) (vA Z 10) (vA Z 11) (vA Z 12) qt qp ++ (wVo cI a1 (0 + 19) (vh T) (vc T) (vA T 0) (vA T 1) (vA T 2) ++ (wR cI a1 ((0 + 19) + 4) (vr T) (vA T 3) (vA T 4) (vA T 5) (vA T 6) ++ (wS cI a1 ((0 + 19) + 9) (vs T) (vA T 7) (vA T 8) (vA T 9) (vA T 10) (vA T 11) (vA T 12) qt2 qp2))))))) ++ [(b, .inl (cL, 1, .inr (.inl f)))]) ++ (wMo cI a2 0 th (vA Z 0) (vA Z 1) (vr Z) (vA Z 3) (vA Z 4) (vs Z) (vA Z 7) ++ (wMS cI a2 (0 + 6) (a2 0) (vh Z) (vc Z) (sumP Z) (vA Z 5) (vA Z 6) (vA Z 8) (vA Z 9) (vA Z 10) (vA Z 11) (vA Z 12) (vA Z 2) my qu ++ (wMS cI a2 (0 + 17) (a2 0) (vh T2) (vc T2) ri2 (vA T2 5) (vA T2 6) (vA T2 8) (vA T2 9) (vA T2 10) (vA T2 11) (vA T2 12) (vA T2 2) my2 qu2)))) H locs := by
    have h9 : Hw D A (s.setDrawn d1) _ H locs := HW
    simp only [List.append_assoc, List.nil_append] at h9 ⊢
    exact h9
  have CX1 := CX.dr d1
  refine W.eq (g2 := F0 m 1367 ls [.double ra]) rfl ?_
  refine lv_dstore (lv' := [(5, .double ra), (4, .int (nI (3 * n))), (3, .ref b), (2, .ref (a2 0)), (1, .ref (a1 0)), (0, .ref sb)]) hx hb dL_law_1367 hl (Nat.le_of_ble_eq_true rfl) rfl (fun ls hl => ?_)
  refine lv_aload_n hx hb dL_law_1369 rfl (lv_at hl 3 rfl) ?_
  refine gd_callV (rest := []) CX1 HW hl.1 ((wXo cI a1 0  ++ (wVo cI a1 (0 + 1) (vh Z) (vc Z) (vA Z 0) (vA Z 1) (vA Z 2) ++ (wR cI a1 ((0 + 1) + 4) (vr Z) (vA Z 3) (vA Z 4) (vA Z 5) (vA Z 6) ++ (wS cI a1 ((0 + 1) + 9) (vs Z) (vA Z 7) (vA Z 8) (vA Z 9) (vA Z 10) (vA Z 11) (vA Z 12) qt qp ++ (wVo cI a1 (0 + 19) (vh T) (vc T) (vA T 0) (vA T 1) (vA T 2) ++ (wR cI a1 ((0 + 19) + 4) (vr T) (vA T 3) (vA T 4) (vA T 5) (vA T 6) ++ (wS cI a1 ((0 + 19) + 9) (vs T) (vA T 7) (vA T 8) (vA T 9) (vA T 10) (vA T 11) (vA T 12) qt2 qp2))))))) ++ [(b, .inl (cL, 1, .inr (.inl f)))]) [] (c_X5_mean 0 Z th my qu T2 ri2 my2 qu2 hI.1.2.1) rfl 0 rfl rfl gL_law_X5_mean rfl ⟨rfl, hd_X5_mean⟩ ⟨rfl, rfl, (Nat.le_of_ble_eq_true rfl), (Nat.le_of_ble_eq_true rfl)⟩ ⟨by show cells ≤ 1128; omega, by show slots ≤ 8896; omega⟩ rfl rfl (Nat.le_of_ble_eq_true rfl) dL_law_1370 (fun d2 v w1 H locs hd2 hp HW => ?_)
  obtain ⟨rb, hal2, rfl, rfl⟩ := hp
  have hd3 : s.drawn.sameBut d2 lw_cs := hd1.trans hd2
  have HW : Hw D A s (((wXo cI a1 0  ++ (wVo cI a1 (0 + 1) (vh Z) (vc Z) (vA Z 0) (vA Z 1) (vA Z 2) ++ (wR cI a1 ((0 + 1) + 4) (vr Z) (vA Z 3) (vA Z 4) (vA Z 5) (vA Z 6) ++ (wS cI a1 ((0 + 1) + 9) (vs Z) (vA Z 7) (vA Z 8) (vA Z 9) (vA Z 10) (vA Z 11) (vA Z 12) qt qp ++ (wVo cI a1 (0 + 19) (vh T) (vc T) (vA T 0) (vA T 1) (vA T 2) ++ (wR cI a1 ((0 + 19) + 4) (vr T) (vA T 3) (vA T 4) (vA T 5) (vA T 6) ++ (wS cI a1 ((0 + 19) + 9) (vs T) (vA T 7) (vA T 8) (vA T 9) (vA T 10) (vA T 11) (vA T 12) qt2 qp2))))))) ++ [(b, .inl (cL, 1, .inr (.inl f)))]) ++ (wMo cI a2 0 (0 : Int32) (vA Z 0) (vA Z 1) (vr Z) (vA Z 3) (vA Z 4) (vs Z) (vA Z 7) ++ (wMS cI a2 (0 + 6) (a2 0) (vh Z) (vc Z) (sumP Z) (vA Z 5) (vA Z 6) (vA Z 8) (vA Z 9) (vA Z 10) (vA Z 11) (vA Z 12) (vA Z 2) my qu ++ (wMS cI a2 (0 + 17) (a2 0) (vh T2) (vc T2) ri2 (vA T2 5) (vA T2 6) (vA T2 8) (vA T2 9) (vA T2 10) (vA T2 11) (vA T2 12) (vA T2 2) my2 qu2)))) H locs := HW
  show W p l e room_1 (s.setDrawn d2) m args below meth c H locs _ _ Q _
  refine W.eq (g2 := F0 m 1373 ls [.double rb]) rfl ?_
  refine lv_dstore (lv' := [(7, .double rb), (5, .double ra), (4, .int (nI (3 * n))), (3, .ref b), (2, .ref (a2 0)), (1, .ref (a1 0)), (0, .ref sb)]) hx hb dL_law_1373 hl (Nat.le_of_ble_eq_true rfl) rfl (fun ls hl => ?_)
  have K : W p l e room_1 (s.setDrawn d2) m args below meth c H locs (cells + 1) (slots + 6) Q (F0 m 1401 ls []) := by
    refine lv_goto (tgt := 1418) hx hb dL_law_1401 (by decide) ?_
    exact kk d2 _ _ _ hd3 ⟨qt, qp, T, qt2, qp2, f, 0, my, qu, T2, ri2, my2, qu2, hR, hM, HW⟩ (lv_sub hl [2, 3, 4, 5, 6] rfl)
  refine W.widen (k := cells + 1) (n := slots + 6) (by omega) (by omega) ?_
  refine lv_dload hx hb dL_law_1375 (lv_at hl 1 rfl) ?_
  refine lv_dload hx hb dL_law_1377 (lv_at hl 0 rfl) ?_
  refine lv_dcmp hx hb dL_law_1379 ?_
  refine lv_if_eq (tgt := 1401) hx hb dL_law_1380 (by decide) (fun _ => K) (fun c1 => ?_)
  obtain ⟨hna, hnb⟩ := mean_nan hal1 hal2 c1
  refine lv_dload hx hb dL_law_1383 (lv_at hl 1 rfl) ?_
  refine lv_dload hx hb dL_law_1385 (lv_at hl 1 rfl) ?_
  refine lv_dcmp hx hb dL_law_1387 ?_
  refine lv_if_eq (tgt := 1399) hx hb dL_law_1388 (by decide) (fun c2 => absurd c2 hna) (fun _ => ?_)
  refine lv_dload hx hb dL_law_1391 (lv_at hl 0 rfl) ?_
  refine lv_dload hx hb dL_law_1393 (lv_at hl 0 rfl) ?_
  refine lv_dcmp hx hb dL_law_1395 ?_
  refine lv_if_ne (tgt := 1401) hx hb dL_law_1396 (by decide) (fun _ => K) (fun c2 => absurd c2 hnb)

set_option maxRecDepth 100000 in
set_option maxHeartbeats 4000000 in
theorem st_digest (hst : l.stackTraces = false) (CX : Cx p s m args meth c cL_law 9 ret RL wsL_law D (ty2 cI cL) A) (hZ : Zs A s s.heap) (hX : va_X sb L xs s s.heap) (hsb : sb < s.heap.size) (hsA : ¬ A sb) (hL : L ≤ 1536) (hn : 3 * n + 3 ≤ L) (hI : LI Z) (hv : vh Z ≤ 60 * n) (HL : LR D cI cL A s a1 a2 b Z H locs) (hl : lv_has ls 9 [(4, .int (nI (3 * n))), (3, .ref b), (2, .ref (a2 0)), (1, .ref (a1 0)), (0, .ref sb)]) (hc : cells + 1 ≤ 1128) (hs : slots + 6 ≤ 8896)
    (kk : ∀ (Z1 : VS) (H1 : Heap) (locs1 : List Loc) (ls1 : Array Slot), LI Z1 → vh Z1 ≤ 60 * (n + 1) → LR D cI cL A s a1 a2 b Z1 H1 locs1 → lv_has ls1 9 [(4, .int (nI (3 * n))), (3, .ref b), (2, .ref (a2 0)), (1, .ref (a1 0)), (0, .ref sb)] → W p l e room_1 s m args below meth c H1 locs1 (cells + 1) (slots + 6) Q (F0 m 1418 ls1 [])) : W p l e room_1 s m args below meth c H locs cells slots Q (F0 m 1404 ls []) := by
  obtain ⟨qt, qp, T, qt2, qp2, f, th, my, qu, T2, ri2, my2, qu2, hR, hM, HW⟩ := HL
  obtain ⟨hx, hb, hml, hr, hown, hts, hK, hA, hlk⟩ := id CX
  have hh : vh Z + 100 < 2 ^ 31 := by omega
  have hU : QU (vq Z) := rep_qu hR hI.1.2.1
  have hQ : Qk (vs Z) (vq Z) := rep_qok hR
  have hjq := take_lt hR hI.1.2.1
  refine lv_aload_n hx hb dL_law_1404 rfl (lv_at hl 3 rfl) ?_
  refine g_callV (rest := []) CX HW hl.1 [] ([(b, .inl (cL, 1, .inr (.inl f)))] ++ (wMo cI a2 0 th (vA Z 0) (vA Z 1) (vr Z) (vA Z 3) (vA Z 4) (vs Z) (vA Z 7) ++ (wMS cI a2 (0 + 6) (a2 0) (vh Z) (vc Z) (sumP Z) (vA Z 5) (vA Z 6) (vA Z 8) (vA Z 9) (vA Z 10) (vA Z 11) (vA Z 12) (vA Z 2) my qu ++ (wMS cI a2 (0 + 17) (a2 0) (vh T2) (vc T2) ri2 (vA T2 5) (vA T2 6) (vA T2 8) (vA T2 9) (vA T2 10) (vA T2 11) (vA T2 12) (vA T2 2) my2 qu2)))) (c_X3_digest 0 Z qt qp T qt2 qp2 hI.1 hR hh) (by simp only [List.append_assoc, List.nil_append]) 0 rfl rfl gL_law_X3_digest rfl ⟨rfl, hd_X3_digest⟩ ⟨rfl, rfl, (Nat.le_of_ble_eq_true rfl), (Nat.le_of_ble_eq_true rfl)⟩ ⟨by show cells ≤ 1128; omega, by show slots ≤ 8896; omega⟩ rfl rfl (Nat.le_of_ble_eq_true rfl) dL_law_1405 (fun v w1 H locs hp HW => ?_)
  obtain ⟨rfl, rfl⟩ := hp
  have HW : Hw D A s (((wXo cI a1 0  ++ (wVo cI a1 (0 + 1) (vh Z) (vc Z) (vA Z 0) (vA Z 1) (vA Z 2) ++ (wR cI a1 ((0 + 1) + 4) (vr Z) (vA Z 3) (vA Z 4) (vA Z 5) (vA Z 6) ++ (wS cI a1 ((0 + 1) + 9) (vs Z) (vA Z 7) (vA Z 8) (vA Z 9) (vA Z 10) (vA Z 11) (vA Z 12) qt qp ++ (wVo cI a1 (0 + 19) (vh T) (vc T) (vA T 0) (vA T 1) (vA T 2) ++ (wR cI a1 ((0 + 19) + 4) (vr T) (vA T 3) (vA T 4) (vA T 5) (vA T 6) ++ (wS cI a1 ((0 + 19) + 9) (vs T) (vA T 7) (vA T 8) (vA T 9) (vA T 10) (vA T 11) (vA T 12) qt2 qp2))))))) ++ [(b, .inl (cL, 1, .inr (.inl f)))]) ++ (wMo cI a2 0 th (vA Z 0) (vA Z 1) (vr Z) (vA Z 3) (vA Z 4) (vs Z) (vA Z 7) ++ (wMS cI a2 (0 + 6) (a2 0) (vh Z) (vc Z) (sumP Z) (vA Z 5) (vA Z 6) (vA Z 8) (vA Z 9) (vA Z 10) (vA Z 11) (vA Z 12) (vA Z 2) my qu ++ (wMS cI a2 (0 + 17) (a2 0) (vh T2) (vc T2) ri2 (vA T2 5) (vA T2 6) (vA T2 8) (vA T2 9) (vA T2 10) (vA T2 11) (vA T2 12) (vA T2 2) my2 qu2)))) H locs := by
    have h9 := HW
    simp only [List.append_assoc, List.nil_append] at h9 ⊢
    exact h9
  refine W.eq (g2 := F0 m 1408 ls [.long (dig Z)]) rfl ?_
  refine lv_aload_n hx hb dL_law_1408 rfl (lv_at hl 2 rfl) ?_
  refine g_callV (rest := [.long (dig Z)]) CX HW hl.1 ((wXo cI a1 0  ++ (wVo cI a1 (0 + 1) (vh Z) (vc Z) (vA Z 0) (vA Z 1) (vA Z 2) ++ (wR cI a1 ((0 + 1) + 4) (vr Z) (vA Z 3) (vA Z 4) (vA Z 5) (vA Z 6) ++ (wS cI a1 ((0 + 1) + 9) (vs Z) (vA Z 7) (vA Z 8) (vA Z 9) (vA Z 10) (vA Z 11) (vA Z 12) qt qp ++ (wVo cI a1 (0 + 19) (vh T) (vc T) (vA T 0) (vA T 1) (vA T 2) ++ (wR cI a1 ((0 + 19) + 4) (vr T) (vA T 3) (vA T 4) (vA T 5) (vA T 6) ++ (wS cI a1 ((0 + 19) + 9) (vs T) (vA T 7) (vA T 8) (vA T 9) (vA T 10) (vA T 11) (vA T 12) qt2 qp2))))))) ++ [(b, .inl (cL, 1, .inr (.inl f)))]) [] (c_X5_digest 0 Z th my qu T2 ri2 my2 qu2 hI.1 hM hQ hU hh) rfl 0 rfl rfl gL_law_X5_digest rfl ⟨rfl, hd_X5_digest⟩ ⟨rfl, rfl, (Nat.le_of_ble_eq_true rfl), (Nat.le_of_ble_eq_true rfl)⟩ ⟨by show cells ≤ 1128; omega, by show slots ≤ 8896; omega⟩ rfl rfl (Nat.le_of_ble_eq_true rfl) dL_law_1409 (fun v w1 H locs hp HW => ?_)
  obtain ⟨rfl, rfl⟩ := hp
  have HW : Hw D A s (((wXo cI a1 0  ++ (wVo cI a1 (0 + 1) (vh Z) (vc Z) (vA Z 0) (vA Z 1) (vA Z 2) ++ (wR cI a1 ((0 + 1) + 4) (vr Z) (vA Z 3) (vA Z 4) (vA Z 5) (vA Z 6) ++ (wS cI a1 ((0 + 1) + 9) (vs Z) (vA Z 7) (vA Z 8) (vA Z 9) (vA Z 10) (vA Z 11) (vA Z 12) qt qp ++ (wVo cI a1 (0 + 19) (vh T) (vc T) (vA T 0) (vA T 1) (vA T 2) ++ (wR cI a1 ((0 + 19) + 4) (vr T) (vA T 3) (vA T 4) (vA T 5) (vA T 6) ++ (wS cI a1 ((0 + 19) + 9) (vs T) (vA T 7) (vA T 8) (vA T 9) (vA T 10) (vA T 11) (vA T 12) qt2 qp2))))))) ++ [(b, .inl (cL, 1, .inr (.inl f)))]) ++ (wMo cI a2 0 (0 : Int32) (vA Z 0) (vA Z 1) (vr Z) (vA Z 3) (vA Z 4) (vs Z) (vA Z 7) ++ (wMS cI a2 (0 + 6) (a2 0) (vh Z) (vc Z) (sumP Z) (vA Z 5) (vA Z 6) (vA Z 8) (vA Z 9) (vA Z 10) (vA Z 11) (vA Z 12) (vA Z 2) my qu ++ (wMS cI a2 (0 + 17) (a2 0) (vh T2) (vc T2) ri2 (vA T2 5) (vA T2 6) (vA T2 8) (vA T2 9) (vA T2 10) (vA T2 11) (vA T2 12) (vA T2 2) my2 qu2)))) H locs := HW
  refine W.eq (g2 := F0 m 1412 ls [.long (dig Z), .long (dig Z)]) rfl ?_
  refine W.lcmp hx hb dL_law_1412 ?_
  rw [lcmp_self]
  refine lv_if_eq (tgt := 1418) hx hb dL_law_1413 (by decide) (fun _ => ?_) (fun c7 => absurd rfl c7)
  refine W.widen (k := cells + 1) (n := slots + 6) (by omega) (by omega) ?_
  exact kk Z _ _ _ hI (by omega) ⟨qt, qp, T, qt2, qp2, f, 0, my, qu, T2, ri2, my2, qu2, hR, hM, HW⟩ hl

end LAW2
