theorem hd_X3_copyRow : yX3_copyRow.cls ≠ "java/lang/invoke/MethodHandle" ∧ yX3_copyRow.cls ≠ "java/lang/invoke/VarHandle" ∧ (parseMethodDescriptor yX3_copyRow.desc).map (fun d => d.parameters.length) = some 2 := by decide +kernel
theorem vp_row {cA : ClassId} {n : Nat} {f g : Nat → Int32} (h : ∀ k, k < n → f k = g k) : vp_cell cA (n, .inl f) = vp_cell cA (n, .inl g) := by
  rw [vp_cell_i, vp_cell_i]
  unfold arrV
  congr 2
  funext j
  show Value.int (f j.val) = Value.int (g j.val)
  rw [h j.val j.isLt]
/-- a row's cell says nothing of what lies beyond its length -/
theorem va_P_row {D : va_G} {cl : List vw_C} {w : va_W} {H : Heap} {cI : ClassId} {y q1 n : Nat} {f g : Nat → Int32} (h : va_P D cl (w.set q1 (y, .inl (cI, n, .inl f))) H) (hfg : ∀ k, k < n → f k = g k) : va_P D cl (w.set q1 (y, .inl (cI, n, .inl g))) H := by
  intro k q hk
  by_cases hkq : k = q1
  · subst hkq
    have hl : k < w.length := by
      have := (List.getElem?_eq_some_iff.mp hk).1
      rwa [List.length_set] at this
    rw [List.getElem?_set_self hl] at hk
    cases hk
    have h1 := h k _ (List.getElem?_set_self hl)
    show H[y]? = some (vp_cell cI (n, .inl g))
    rw [← vp_row hfg]
    exact h1
  · rw [List.getElem?_set_ne (Ne.symm hkq)] at hk
    exact h k q (by rw [List.getElem?_set_ne (Ne.symm hkq)]; exact hk)
section GC
variable {p : Program} {l : Launch} {e : Env} {R : Room} {s : State} {m : MethodId} {args : Array Value} {below : List Frame} {meth : Method} {c : Code} {H : Heap} {locs : List Loc} {cells slots : Nat} {Q : State → Prop}
variable {cc : ByteArray} {pc nL : Nat} {ls : Array Slot} {rest : List Value} {ret : Option FieldType} {own : String} {Ts : List Cond} {D : va_G} {A : Nat → Prop} {tys : List (ClassId × FieldType)} {w : va_W}
/-- a whole row copied over another of the same length -/
theorem g_copy (CX : Cx p s m args meth c cc nL ret own Ts D tys A) (HW : Hw D A s w H locs) (hls : ls.size = nL) {x y n index : Nat} (q0 q1 : Nat) {f g : Nat → Int32} {cI : ClassId} (ha0 : w[q0]? = some (x, .inl (cI, n, .inl f))) (ha1 : w[q1]? = some (y, .inl (cI, n, .inl g))) (ht : tys[0]? = some (cI, .int)) (hn : n < 2 ^ 31)
    (hlk : Cond.methodLink own index arraycopyName ∈ Ts) (hnat : Cond.native arraycopyName ∈ Ts) (hstat : Cond.static arraycopyName ∈ Ts) (hini : Cond.initialized "java/lang/System" ∈ Ts) (hf : 1 ≤ R.frames) (hlo : (rest.map fun v => v.category).sum + (nativeFrameWords "java/lang/System" "arraycopy" 5 + 11) ≤ R.locals) (hdg : decode cc pc = .ok (.invokestatic index, 3))
    (kk : ∀ (H1 : Heap) (locs1 : List Loc), Hw D A s (w.set q1 (y, .inl (cI, n, .inl f))) H1 locs1 → W p l e R s m args below meth c H1 locs1 cells slots Q (F0 m (pc + 3) ls rest)) : W p l e R s m args below meth c H locs cells slots Q (F0 m pc ls (.int (nI n) :: .int 0 :: .ref y :: .int 0 :: .ref x :: rest)) := by
  obtain ⟨hx, hb, hml, hr, hown, hts, hK, hA, hlk0⟩ := CX
  have e0 : (0 : Int32).toNatClampNeg = 0 := by decide
  have en : (nI n).toNatClampNeg = n := nI_clamp hn
  refine va_copyi hx hb (hml.trans hls.symm) hown (hts _ hlk) (hts _ hnat) (hts _ hstat) (hts _ hini) hK.1 HW.1 HW.2.1 HW.2.2 q0 q1 0 0 ha0 ha1 ht ht rfl (by decide) (by decide) (nI_pos hn) (by rw [e0, en]; omega) (by rw [e0, en]; omega) (fun _ _ => rfl) hf hlo hdg (fun H1 l1 h1 h2 h3 => kk H1 l1 ⟨?_, ?_, h3⟩)
  · refine va_P_row h1 (fun k hk => ?_)
    rw [e0, en, pk_cpy_in (Nat.zero_le _) (by omega)]
    congr 1; omega
  · exact HW.2.1.set ha1
end GC
set_option maxRecDepth 100000 in
set_option maxHeartbeats 4000000 in
theorem c_X3_copyRow {l : Launch} {D : va_G} {cI cL : ClassId} (w : va_W) (x y q0 q1 n : Nat) (f g : Nat → Int32) (h0 : w[q0]? = some (x, .inl (cI, n, .inl f))) (h1 : w[q1]? = some (y, .inl (cI, n, .inl g))) (hn : n < 2 ^ 31) : Ct l yX3_copyRow wsX3_copyRow { frames := 1, cells := 0, slots := 0, locals := 60 } D (ty2 cI cL) [.ref x, .ref y] w (fun v w' => v = none ∧ w' = w.set q1 (y, .inl (cI, n, .inl f))) 0 0 := by
  refine Ct.of (cc := cX3_copyRow) (maxL := 2) (ret := none) (by decide) rfl (Nat.le_of_ble_eq_true rfl) ?_
  intro p e s m below meth c A ls CX hin HW hl
  obtain ⟨hx, hb, hml, hr, hown, hts, hK, hA, hlk⟩ := id CX
  have hl : lv_has ls 2 [(0, .ref x), (1, .ref y)] := hl
  refine lv_aload_n hx hb dX3_copyRow_0 rfl (lv_at hl 0 rfl) ?_
  refine lv_iconst (v := 0) hx hb dX3_copyRow_1 (by decide) ?_
  refine lv_aload_n hx hb dX3_copyRow_2 rfl (lv_at hl 1 rfl) ?_
  refine lv_iconst (v := 0) hx hb dX3_copyRow_3 (by decide) ?_
  refine lv_aload_n hx hb dX3_copyRow_4 rfl (lv_at hl 0 rfl) ?_
  refine g_len CX HW q0 h0 rfl dX3_copyRow_5 ?_
  refine lv_aload_n hx hb dX3_copyRow_6 rfl (lv_at hl 1 rfl) ?_
  refine g_len CX HW q1 h1 rfl dX3_copyRow_7 ?_
  refine va_mmin hx hb (hml.trans hl.1.symm) hown (hts (.methodLink RX3 194 Lib.Math.min.name) (by decide +kernel)) (hts (.static Lib.Math.min.name) (by decide +kernel)) (hts (.initialized "java/lang/Math") (by decide +kernel)) (hts (.code Lib.Math.min.name Lib.Math.min.code 2 (some .int)) (by decide +kernel)) (Nat.le_of_ble_eq_true rfl) (Nat.le_of_ble_eq_true rfl) (Nat.zero_le _) (Nat.zero_le _) dX3_copyRow_8 ?_
  refine g_top (y := nI n) (by rw [ite_self]) ?_
  refine g_copy CX HW hl.1 q0 q1 h0 h1 rfl hn (index := 202) (by decide +kernel) (by decide +kernel) (by decide +kernel) (by decide +kernel) (Nat.le_of_ble_eq_true rfl) (Nat.le_of_ble_eq_true rfl) dX3_copyRow_11 (fun H locs HW => ?_)
  exact g_vret CX HW rfl ⟨rfl, rfl⟩ dX3_copyRow_14
theorem Ct.ofF {l : Launch} {y : MethodName} {ws ws' : List Cond} {rm : Room} {D : va_G} {tys : List (ClassId × FieldType)} {av : List Value} {w : va_W} {post : Option Value → va_W → Prop} {mc ms : Nat} {cc : ByteArray} {maxL : Nat} {ret : Option FieldType}
    (hy : plainFor y = true) (hw : ws = Cond.code y cc maxL ret :: ws') (hav : (lg_sl av).length ≤ maxL)
    (body : ∀ (p : Program) (e : Env) (s : State) (m : MethodId) (below : List Frame) (meth : Method) (c : Code) (A : Nat → Prop) (ls : Array Slot), Cx p s m av.toArray meth c cc maxL ret y.cls ws D tys A → meth.name = y.name → Hw D A s w s.heap [] → lv_has ls maxL (lv_args 0 av) →
      W p l e rm s m av.toArray below meth c s.heap [] 0 0 (MQ below (cQ D A post) av.toArray s mc ms A) (F0 m 0 ls [])) : Ct l y ws rm D tys av w post mc ms := by
  intro sz
  refine va_MetF (cc := cc) (maxL := maxL) (ret := ret) hy hw ?_
  intro p e s m args below meth c s₁ B hml hv
  obtain ⟨rfl, hsz, hP, hK, hD0⟩ := hv
  subst hsz
  have hown : s.vm.findClass y.cls = some m.cls := findClass_of_methodNamed B.named
  have hD := hD0.self (sz := s.heap.size)
  have hA : ∀ q : Nat, s.heap.size ≤ q → va_A w s.heap.size q := fun q h => Or.inr h
  have hl := lv_entry av (n := maxL) hav
  rw [lg_entry_eq]
  exact body p e s m below meth c (va_A w s.heap.size) _ ⟨B.exec, B.bytes, hml, B.returns, hown, atoms_spec (ws := ws) B.pre, hK, hA, B.notSynchronized⟩ (name_of_methodNamed B.named B.method).1 ⟨hP, hD, va_S.rf⟩ hl
theorem xor_pos {x y : Nat} (hx : x < 2 ^ 31) (hy : y < 2 ^ 31) : ¬ (nI x ^^^ nI y < 0) := by
  intro h
  have h1 := Int32.lt_iff_toInt_lt.mp h
  rw [Int32.toInt_zero] at h1
  have h2 : (nI x ^^^ nI y).toInt = ((x ^^^ y : Nat) : Int) := by
    have h3 : nI x ^^^ nI y = nI (x ^^^ y) := by
      apply Int32.toBitVec_inj.mp
      rw [Int32.toBitVec_xor]
      apply BitVec.eq_of_toNat_eq
      rw [BitVec.toNat_xor, pk_tn (by omega), pk_tn (by omega), pk_tn (Nat.xor_lt_two_pow (n := 32) (by omega) (by omega))]
    rw [h3]
    exact nI_toInt (Nat.xor_lt_two_pow hx hy)
  omega
theorem hd_J9_floorMod_7cf53 : yJ9_floorMod_7cf53.cls ≠ "java/lang/invoke/MethodHandle" ∧ yJ9_floorMod_7cf53.cls ≠ "java/lang/invoke/VarHandle" ∧ (parseMethodDescriptor yJ9_floorMod_7cf53.desc).map (fun d => d.parameters.length) = some 2 := by decide +kernel
set_option maxRecDepth 100000 in
set_option maxHeartbeats 4000000 in
theorem c_J9_floorMod_7cf53 {l : Launch} {D : va_G} {cI cL : ClassId} (x : Nat) (y : Nat) (hx9 : x < 2 ^ 31) (hy0 : 0 < y) (hy9 : y < 2 ^ 31) : Ct l yJ9_floorMod_7cf53 wsJ9_floorMod_7cf53 { frames := 0, cells := 0, slots := 0, locals := 0 } D (ty2 cI cL) [.int (nI x), .int (nI y)] ([]) (fun v w' => v = some (.int (nI (x % y))) ∧ w' = []) 0 0 := by
  refine Ct.ofF (cc := cJ9_floorMod_7cf53) (maxL := 3) (ret := (some .int)) (by decide +kernel) rfl (Nat.le_of_ble_eq_true rfl) ?_
  intro p e s m below meth c A ls CX hin HW hl
  obtain ⟨hx, hb, hml, hr, hown, hts, hK, hA, hlk⟩ := id CX
  have hl : lv_has ls 3 [(0, .int (nI x)), (1, .int (nI y))] := hl
  refine lv_iload_n hx hb dJ9_floorMod_7cf53_0 rfl (lv_at hl 0 rfl) ?_
  refine lv_iload_n hx hb dJ9_floorMod_7cf53_1 rfl (lv_at hl 1 rfl) ?_
  refine lv_irem hx hb dJ9_floorMod_7cf53_2 (nI_ne0 hy0 hy9) ?_
  refine g_top (y := (nI (x % y))) (pk_rem hx9 hy0 hy9) ?_
  refine lv_istore_n (lv' := [(2, .int (nI (x % y))), (0, .int (nI x)), (1, .int (nI y))]) hx hb dJ9_floorMod_7cf53_3 rfl hl (Nat.le_of_ble_eq_true rfl) rfl (fun ls hl => ?_)
  refine lv_iload_n hx hb dJ9_floorMod_7cf53_4 rfl (lv_at hl 1 rfl) ?_
  refine lv_iload_n hx hb dJ9_floorMod_7cf53_5 rfl (lv_at hl 2 rfl) ?_
  refine lv_ixor hx hb dJ9_floorMod_7cf53_6 ?_
  refine lv_if_ge (tgt := 18) hx hb dJ9_floorMod_7cf53_7 (by decide) (fun c7 => ?_) (fun c7 => ?_)
  · refine lv_iload_n hx hb dJ9_floorMod_7cf53_18 rfl (lv_at hl 0 rfl) ?_
    exact g_iret CX HW rfl ⟨rfl, rfl⟩ dJ9_floorMod_7cf53_19
  · exact absurd c7 (fun h => xor_pos hx9 hy9 (Int32.not_le.mp h))
theorem hd_X0_copyFrom : yX0_copyFrom.cls ≠ "java/lang/invoke/MethodHandle" ∧ yX0_copyFrom.cls ≠ "java/lang/invoke/VarHandle" ∧ (parseMethodDescriptor yX0_copyFrom.desc).map (fun d => d.parameters.length) = some 1 := by decide +kernel
theorem fl_X0_copyFrom_9 : Cond.fieldLink RX0 9 (TX0 0).1 (TX0 0).2.1 (TX0 0).2.2.1 ∈ wsX0_copyFrom := by decide +kernel
theorem in_X0_copyFrom_0 : ∀ x ∈ u_ws RX0 TX0 5, x ∈ wsX0_copyFrom := by decide +kernel
theorem fl_X0_copyFrom_15 : Cond.fieldLink RX0 15 (TX0 1).1 (TX0 1).2.1 (TX0 1).2.2.1 ∈ wsX0_copyFrom := by decide +kernel
theorem sn_X0_copyFrom_X3_copyRow : Cond.initialized yX3_copyRow.cls ∈ wsX0_copyFrom ∧ Cond.static yX3_copyRow ∈ wsX0_copyFrom := ⟨by decide +kernel, by decide +kernel⟩
theorem fl_X0_copyFrom_19 : Cond.fieldLink RX0 19 (TX0 2).1 (TX0 2).2.1 (TX0 2).2.2.1 ∈ wsX0_copyFrom := by decide +kernel
theorem fl_X0_copyFrom_22 : Cond.fieldLink RX0 22 (TX0 3).1 (TX0 3).2.1 (TX0 3).2.2.1 ∈ wsX0_copyFrom := by decide +kernel
theorem fl_X0_copyFrom_25 : Cond.fieldLink RX0 25 (TX0 4).1 (TX0 4).2.1 (TX0 4).2.2.1 ∈ wsX0_copyFrom := by decide +kernel
set_option maxRecDepth 100000 in
set_option maxHeartbeats 4000000 in
theorem c_X0_copyFrom {l : Launch} {D : va_G} {cI cL : ClassId} {a : Nat → Nat} (o2 : Nat) (o : Nat) (n2 : Nat) (tw2 : Nat → Int32) (sl2 : Nat → Int32) (dp2 : Nat → Int32) (kd2 : Nat → Int32) (n : Nat) (tw : Nat → Int32) (sl : Nat → Int32) (dp : Nat → Int32) (kd : Nat → Int32) : Ct l yX0_copyFrom wsX0_copyFrom { frames := 2, cells := 0, slots := 0, locals := 81 } D (ty2 cI cL) [.ref (a o), .ref (a o2)] (wR cI a o2 n2 tw2 sl2 dp2 kd2 ++ (wR cI a o n tw sl dp kd)) (fun v w' => v = none ∧ w' = wR cI a o2 n2 tw2 sl2 dp2 kd2 ++ (wR cI a o n2 tw2 sl2 dp2 kd2)) 0 0 := by
  refine Ct.of (cc := cX0_copyFrom) (maxL := 2) (ret := none) (by decide) rfl (Nat.le_of_ble_eq_true rfl) ?_
  intro p e s m below meth c A ls CX hin HW hl
  obtain ⟨hx, hb, hml, hr, hown, hts, hK, hA, hlk⟩ := id CX
  have hl : lv_has ls 2 [(0, .ref (a o)), (1, .ref (a o2))] := hl
  refine lv_aload_n hx hb dX0_copyFrom_0 rfl (lv_at hl 0 rfl) ?_
  refine lv_aload_n hx hb dX0_copyFrom_1 rfl (lv_at hl 1 rfl) ?_
  refine g_get CX HW in_X0_copyFrom_0 0 0 rfl rfl (Nat.le_of_ble_eq_true rfl) fl_X0_copyFrom_9 rfl dX0_copyFrom_2 ?_
  refine g_put CX HW in_X0_copyFrom_0 tyX0 tyX0_ok nmX0 5 0 rfl rfl (Nat.le_of_ble_eq_true rfl) fl_X0_copyFrom_9 rfl rfl rfl (Nat.le_of_ble_eq_true rfl) dX0_copyFrom_5 (fun H locs HW => ?_)
  have HW : Hw D A s (wR cI a o2 n2 tw2 sl2 dp2 kd2 ++ (wR cI a o n2 tw sl dp kd)) H locs := HW
  refine lv_aload_n hx hb dX0_copyFrom_8 rfl (lv_at hl 1 rfl) ?_
  refine g_get CX HW in_X0_copyFrom_0 0 1 rfl rfl (Nat.le_of_ble_eq_true rfl) fl_X0_copyFrom_15 rfl dX0_copyFrom_9 ?_
  refine lv_aload_n hx hb dX0_copyFrom_12 rfl (lv_at hl 0 rfl) ?_
  refine g_get CX HW in_X0_copyFrom_0 5 1 rfl rfl (Nat.le_of_ble_eq_true rfl) fl_X0_copyFrom_15 rfl dX0_copyFrom_13 ?_
  refine g_callSN (host := "PommelTows") CX HW hl.1 [] [] (c_X3_copyRow (wR cI a o2 n2 tw2 sl2 dp2 kd2 ++ (wR cI a o n2 tw sl dp kd)) (a (o2 + 1)) (a (o + 1)) 1 6 6 tw2 tw rfl rfl (Nat.le_of_ble_eq_true rfl)) (List.append_nil _).symm gX0_copyFrom_X3_copyRow_n40 sn_X0_copyFrom_X3_copyRow (by decide +kernel) rfl hd_X3_copyRow ⟨rfl, rfl, (Nat.le_of_ble_eq_true rfl), (Nat.le_of_ble_eq_true rfl)⟩ ⟨(Nat.zero_le _), (Nat.zero_le _)⟩ rfl rfl (Nat.le_of_ble_eq_true rfl) dX0_copyFrom_16 (fun v w1 H locs hp HW => ?_)
  obtain ⟨rfl, rfl⟩ := hp
  have HW : Hw D A s (wR cI a o2 n2 tw2 sl2 dp2 kd2 ++ (wR cI a o n2 tw2 sl dp kd)) H locs := HW
  refine W.eq (g2 := F0 m 19 ls []) rfl ?_
  refine lv_aload_n hx hb dX0_copyFrom_19 rfl (lv_at hl 1 rfl) ?_
  refine g_get CX HW in_X0_copyFrom_0 0 2 rfl rfl (Nat.le_of_ble_eq_true rfl) fl_X0_copyFrom_19 rfl dX0_copyFrom_20 ?_
  refine lv_aload_n hx hb dX0_copyFrom_23 rfl (lv_at hl 0 rfl) ?_
  refine g_get CX HW in_X0_copyFrom_0 5 2 rfl rfl (Nat.le_of_ble_eq_true rfl) fl_X0_copyFrom_19 rfl dX0_copyFrom_24 ?_
  refine g_callSN (host := "PommelTows") CX HW hl.1 [] [] (c_X3_copyRow (wR cI a o2 n2 tw2 sl2 dp2 kd2 ++ (wR cI a o n2 tw2 sl dp kd)) (a (o2 + 2)) (a (o + 2)) 2 7 6 sl2 sl rfl rfl (Nat.le_of_ble_eq_true rfl)) (List.append_nil _).symm gX0_copyFrom_X3_copyRow_n40 sn_X0_copyFrom_X3_copyRow (by decide +kernel) rfl hd_X3_copyRow ⟨rfl, rfl, (Nat.le_of_ble_eq_true rfl), (Nat.le_of_ble_eq_true rfl)⟩ ⟨(Nat.zero_le _), (Nat.zero_le _)⟩ rfl rfl (Nat.le_of_ble_eq_true rfl) dX0_copyFrom_27 (fun v w1 H locs hp HW => ?_)
  obtain ⟨rfl, rfl⟩ := hp
  have HW : Hw D A s (wR cI a o2 n2 tw2 sl2 dp2 kd2 ++ (wR cI a o n2 tw2 sl2 dp kd)) H locs := HW
  refine W.eq (g2 := F0 m 30 ls []) rfl ?_
  refine lv_aload_n hx hb dX0_copyFrom_30 rfl (lv_at hl 1 rfl) ?_
  refine g_get CX HW in_X0_copyFrom_0 0 3 rfl rfl (Nat.le_of_ble_eq_true rfl) fl_X0_copyFrom_22 rfl dX0_copyFrom_31 ?_
  refine lv_aload_n hx hb dX0_copyFrom_34 rfl (lv_at hl 0 rfl) ?_
  refine g_get CX HW in_X0_copyFrom_0 5 3 rfl rfl (Nat.le_of_ble_eq_true rfl) fl_X0_copyFrom_22 rfl dX0_copyFrom_35 ?_
  refine g_callSN (host := "PommelTows") CX HW hl.1 [] [] (c_X3_copyRow (wR cI a o2 n2 tw2 sl2 dp2 kd2 ++ (wR cI a o n2 tw2 sl2 dp kd)) (a (o2 + 3)) (a (o + 3)) 3 8 6 dp2 dp rfl rfl (Nat.le_of_ble_eq_true rfl)) (List.append_nil _).symm gX0_copyFrom_X3_copyRow_n40 sn_X0_copyFrom_X3_copyRow (by decide +kernel) rfl hd_X3_copyRow ⟨rfl, rfl, (Nat.le_of_ble_eq_true rfl), (Nat.le_of_ble_eq_true rfl)⟩ ⟨(Nat.zero_le _), (Nat.zero_le _)⟩ rfl rfl (Nat.le_of_ble_eq_true rfl) dX0_copyFrom_38 (fun v w1 H locs hp HW => ?_)
  obtain ⟨rfl, rfl⟩ := hp
  have HW : Hw D A s (wR cI a o2 n2 tw2 sl2 dp2 kd2 ++ (wR cI a o n2 tw2 sl2 dp2 kd)) H locs := HW
  refine W.eq (g2 := F0 m 41 ls []) rfl ?_
  refine lv_aload_n hx hb dX0_copyFrom_41 rfl (lv_at hl 1 rfl) ?_
  refine g_get CX HW in_X0_copyFrom_0 0 4 rfl rfl (Nat.le_of_ble_eq_true rfl) fl_X0_copyFrom_25 rfl dX0_copyFrom_42 ?_
  refine lv_aload_n hx hb dX0_copyFrom_45 rfl (lv_at hl 0 rfl) ?_
  refine g_get CX HW in_X0_copyFrom_0 5 4 rfl rfl (Nat.le_of_ble_eq_true rfl) fl_X0_copyFrom_25 rfl dX0_copyFrom_46 ?_
  refine g_callSN (host := "PommelTows") CX HW hl.1 [] [] (c_X3_copyRow (wR cI a o2 n2 tw2 sl2 dp2 kd2 ++ (wR cI a o n2 tw2 sl2 dp2 kd)) (a (o2 + 4)) (a (o + 4)) 4 9 6 kd2 kd rfl rfl (Nat.le_of_ble_eq_true rfl)) (List.append_nil _).symm gX0_copyFrom_X3_copyRow_n40 sn_X0_copyFrom_X3_copyRow (by decide +kernel) rfl hd_X3_copyRow ⟨rfl, rfl, (Nat.le_of_ble_eq_true rfl), (Nat.le_of_ble_eq_true rfl)⟩ ⟨(Nat.zero_le _), (Nat.zero_le _)⟩ rfl rfl (Nat.le_of_ble_eq_true rfl) dX0_copyFrom_49 (fun v w1 H locs hp HW => ?_)
  obtain ⟨rfl, rfl⟩ := hp
  have HW : Hw D A s (wR cI a o2 n2 tw2 sl2 dp2 kd2 ++ (wR cI a o n2 tw2 sl2 dp2 kd2)) H locs := HW
  refine W.eq (g2 := F0 m 52 ls []) rfl ?_
  exact g_vret CX HW rfl ⟨rfl, rfl⟩ dX0_copyFrom_52

theorem hd_X1_copyFrom : yX1_copyFrom.cls ≠ "java/lang/invoke/MethodHandle" ∧ yX1_copyFrom.cls ≠ "java/lang/invoke/VarHandle" ∧ (parseMethodDescriptor yX1_copyFrom.desc).map (fun d => d.parameters.length) = some 1 := by decide +kernel
theorem fl_X1_copyFrom_9 : Cond.fieldLink RX1 9 (TX1 0).1 (TX1 0).2.1 (TX1 0).2.2.1 ∈ wsX1_copyFrom := by decide +kernel
theorem in_X1_copyFrom_1 : ∀ x ∈ u_ws RX1 TX1 9, x ∈ wsX1_copyFrom := by decide +kernel
theorem fl_X1_copyFrom_15 : Cond.fieldLink RX1 15 (TX1 1).1 (TX1 1).2.1 (TX1 1).2.2.1 ∈ wsX1_copyFrom := by decide +kernel
theorem sn_X1_copyFrom_X3_copyRow : Cond.initialized yX3_copyRow.cls ∈ wsX1_copyFrom ∧ Cond.static yX3_copyRow ∈ wsX1_copyFrom := ⟨by decide +kernel, by decide +kernel⟩
theorem fl_X1_copyFrom_19 : Cond.fieldLink RX1 19 (TX1 2).1 (TX1 2).2.1 (TX1 2).2.2.1 ∈ wsX1_copyFrom := by decide +kernel
theorem fl_X1_copyFrom_22 : Cond.fieldLink RX1 22 (TX1 3).1 (TX1 3).2.1 (TX1 3).2.2.1 ∈ wsX1_copyFrom := by decide +kernel
theorem fl_X1_copyFrom_25 : Cond.fieldLink RX1 25 (TX1 4).1 (TX1 4).2.1 (TX1 4).2.2.1 ∈ wsX1_copyFrom := by decide +kernel
theorem fl_X1_copyFrom_28 : Cond.fieldLink RX1 28 (TX1 5).1 (TX1 5).2.1 (TX1 5).2.2.1 ∈ wsX1_copyFrom := by decide +kernel
theorem fl_X1_copyFrom_31 : Cond.fieldLink RX1 31 (TX1 6).1 (TX1 6).2.1 (TX1 6).2.2.1 ∈ wsX1_copyFrom := by decide +kernel
theorem fl_X1_copyFrom_34 : Cond.fieldLink RX1 34 (TX1 7).1 (TX1 7).2.1 (TX1 7).2.2.1 ∈ wsX1_copyFrom := by decide +kernel
theorem fl_X1_copyFrom_37 : Cond.fieldLink RX1 37 (TX1 8).1 (TX1 8).2.1 (TX1 8).2.2.1 ∈ wsX1_copyFrom := by decide +kernel
set_option maxRecDepth 100000 in
set_option maxHeartbeats 4000000 in
theorem c_X1_copyFrom {l : Launch} {D : va_G} {cI cL : ClassId} {a : Nat → Nat} (o2 : Nat) (o : Nat) (n2 : Nat) (sk2 : Nat → Int32) (cn2 : Nat → Int32) (wx2 : Nat → Int32) (ly2 : Nat → Int32) (pt2 : Nat → Int32) (rd2 : Nat → Int32) (qt2 : Nat → Int32) (qp2 : Nat → Int32) (n : Nat) (sk : Nat → Int32) (cn : Nat → Int32) (wx : Nat → Int32) (ly : Nat → Int32) (pt : Nat → Int32) (rd : Nat → Int32) (qt : Nat → Int32) (qp : Nat → Int32) : Ct l yX1_copyFrom wsX1_copyFrom { frames := 2, cells := 0, slots := 0, locals := 81 } D (ty2 cI cL) [.ref (a o), .ref (a o2)] (wS cI a o2 n2 sk2 cn2 wx2 ly2 pt2 rd2 qt2 qp2 ++ (wS cI a o n sk cn wx ly pt rd qt qp)) (fun v w' => v = none ∧ w' = wS cI a o2 n2 sk2 cn2 wx2 ly2 pt2 rd2 qt2 qp2 ++ (wS cI a o n2 sk2 cn2 wx2 ly2 pt2 rd2 qt2 qp2)) 0 0 := by
  refine Ct.of (cc := cX1_copyFrom) (maxL := 2) (ret := none) (by decide) rfl (Nat.le_of_ble_eq_true rfl) ?_
  intro p e s m below meth c A ls CX hin HW hl
  obtain ⟨hx, hb, hml, hr, hown, hts, hK, hA, hlk⟩ := id CX
  have hl : lv_has ls 2 [(0, .ref (a o)), (1, .ref (a o2))] := hl
  refine lv_aload_n hx hb dX1_copyFrom_0 rfl (lv_at hl 0 rfl) ?_
  refine lv_aload_n hx hb dX1_copyFrom_1 rfl (lv_at hl 1 rfl) ?_
  refine g_get CX HW in_X1_copyFrom_1 0 0 rfl rfl (Nat.le_of_ble_eq_true rfl) fl_X1_copyFrom_9 rfl dX1_copyFrom_2 ?_
  refine g_put CX HW in_X1_copyFrom_1 tyX1 tyX1_ok nmX1 9 0 rfl rfl (Nat.le_of_ble_eq_true rfl) fl_X1_copyFrom_9 rfl rfl rfl (Nat.le_of_ble_eq_true rfl) dX1_copyFrom_5 (fun H locs HW => ?_)
  have HW : Hw D A s (wS cI a o2 n2 sk2 cn2 wx2 ly2 pt2 rd2 qt2 qp2 ++ (wS cI a o n2 sk cn wx ly pt rd qt qp)) H locs := HW
  refine lv_aload_n hx hb dX1_copyFrom_8 rfl (lv_at hl 1 rfl) ?_
  refine g_get CX HW in_X1_copyFrom_1 0 1 rfl rfl (Nat.le_of_ble_eq_true rfl) fl_X1_copyFrom_15 rfl dX1_copyFrom_9 ?_
  refine lv_aload_n hx hb dX1_copyFrom_12 rfl (lv_at hl 0 rfl) ?_
  refine g_get CX HW in_X1_copyFrom_1 9 1 rfl rfl (Nat.le_of_ble_eq_true rfl) fl_X1_copyFrom_15 rfl dX1_copyFrom_13 ?_
  refine g_callSN (host := "PommelTows") CX HW hl.1 [] [] (c_X3_copyRow (wS cI a o2 n2 sk2 cn2 wx2 ly2 pt2 rd2 qt2 qp2 ++ (wS cI a o n2 sk cn wx ly pt rd qt qp)) (a (o2 + 1)) (a (o + 1)) 1 10 8 sk2 sk rfl rfl (Nat.le_of_ble_eq_true rfl)) (List.append_nil _).symm gX1_copyFrom_X3_copyRow_n53 sn_X1_copyFrom_X3_copyRow (by decide +kernel) rfl hd_X3_copyRow ⟨rfl, rfl, (Nat.le_of_ble_eq_true rfl), (Nat.le_of_ble_eq_true rfl)⟩ ⟨(Nat.zero_le _), (Nat.zero_le _)⟩ rfl rfl (Nat.le_of_ble_eq_true rfl) dX1_copyFrom_16 (fun v w1 H locs hp HW => ?_)
  obtain ⟨rfl, rfl⟩ := hp
  have HW : Hw D A s (wS cI a o2 n2 sk2 cn2 wx2 ly2 pt2 rd2 qt2 qp2 ++ (wS cI a o n2 sk2 cn wx ly pt rd qt qp)) H locs := HW
  refine W.eq (g2 := F0 m 19 ls []) rfl ?_
  refine lv_aload_n hx hb dX1_copyFrom_19 rfl (lv_at hl 1 rfl) ?_
  refine g_get CX HW in_X1_copyFrom_1 0 2 rfl rfl (Nat.le_of_ble_eq_true rfl) fl_X1_copyFrom_19 rfl dX1_copyFrom_20 ?_
  refine lv_aload_n hx hb dX1_copyFrom_23 rfl (lv_at hl 0 rfl) ?_
  refine g_get CX HW in_X1_copyFrom_1 9 2 rfl rfl (Nat.le_of_ble_eq_true rfl) fl_X1_copyFrom_19 rfl dX1_copyFrom_24 ?_
  refine g_callSN (host := "PommelTows") CX HW hl.1 [] [] (c_X3_copyRow (wS cI a o2 n2 sk2 cn2 wx2 ly2 pt2 rd2 qt2 qp2 ++ (wS cI a o n2 sk2 cn wx ly pt rd qt qp)) (a (o2 + 2)) (a (o + 2)) 2 11 8 cn2 cn rfl rfl (Nat.le_of_ble_eq_true rfl)) (List.append_nil _).symm gX1_copyFrom_X3_copyRow_n53 sn_X1_copyFrom_X3_copyRow (by decide +kernel) rfl hd_X3_copyRow ⟨rfl, rfl, (Nat.le_of_ble_eq_true rfl), (Nat.le_of_ble_eq_true rfl)⟩ ⟨(Nat.zero_le _), (Nat.zero_le _)⟩ rfl rfl (Nat.le_of_ble_eq_true rfl) dX1_copyFrom_27 (fun v w1 H locs hp HW => ?_)
  obtain ⟨rfl, rfl⟩ := hp
  have HW : Hw D A s (wS cI a o2 n2 sk2 cn2 wx2 ly2 pt2 rd2 qt2 qp2 ++ (wS cI a o n2 sk2 cn2 wx ly pt rd qt qp)) H locs := HW
  refine W.eq (g2 := F0 m 30 ls []) rfl ?_
  refine lv_aload_n hx hb dX1_copyFrom_30 rfl (lv_at hl 1 rfl) ?_
  refine g_get CX HW in_X1_copyFrom_1 0 3 rfl rfl (Nat.le_of_ble_eq_true rfl) fl_X1_copyFrom_22 rfl dX1_copyFrom_31 ?_
  refine lv_aload_n hx hb dX1_copyFrom_34 rfl (lv_at hl 0 rfl) ?_
  refine g_get CX HW in_X1_copyFrom_1 9 3 rfl rfl (Nat.le_of_ble_eq_true rfl) fl_X1_copyFrom_22 rfl dX1_copyFrom_35 ?_
  refine g_callSN (host := "PommelTows") CX HW hl.1 [] [] (c_X3_copyRow (wS cI a o2 n2 sk2 cn2 wx2 ly2 pt2 rd2 qt2 qp2 ++ (wS cI a o n2 sk2 cn2 wx ly pt rd qt qp)) (a (o2 + 3)) (a (o + 3)) 3 12 8 wx2 wx rfl rfl (Nat.le_of_ble_eq_true rfl)) (List.append_nil _).symm gX1_copyFrom_X3_copyRow_n53 sn_X1_copyFrom_X3_copyRow (by decide +kernel) rfl hd_X3_copyRow ⟨rfl, rfl, (Nat.le_of_ble_eq_true rfl), (Nat.le_of_ble_eq_true rfl)⟩ ⟨(Nat.zero_le _), (Nat.zero_le _)⟩ rfl rfl (Nat.le_of_ble_eq_true rfl) dX1_copyFrom_38 (fun v w1 H locs hp HW => ?_)
  obtain ⟨rfl, rfl⟩ := hp
  have HW : Hw D A s (wS cI a o2 n2 sk2 cn2 wx2 ly2 pt2 rd2 qt2 qp2 ++ (wS cI a o n2 sk2 cn2 wx2 ly pt rd qt qp)) H locs := HW
  refine W.eq (g2 := F0 m 41 ls []) rfl ?_
  refine lv_aload_n hx hb dX1_copyFrom_41 rfl (lv_at hl 1 rfl) ?_
  refine g_get CX HW in_X1_copyFrom_1 0 4 rfl rfl (Nat.le_of_ble_eq_true rfl) fl_X1_copyFrom_25 rfl dX1_copyFrom_42 ?_
  refine lv_aload_n hx hb dX1_copyFrom_45 rfl (lv_at hl 0 rfl) ?_
  refine g_get CX HW in_X1_copyFrom_1 9 4 rfl rfl (Nat.le_of_ble_eq_true rfl) fl_X1_copyFrom_25 rfl dX1_copyFrom_46 ?_
  refine g_callSN (host := "PommelTows") CX HW hl.1 [] [] (c_X3_copyRow (wS cI a o2 n2 sk2 cn2 wx2 ly2 pt2 rd2 qt2 qp2 ++ (wS cI a o n2 sk2 cn2 wx2 ly pt rd qt qp)) (a (o2 + 4)) (a (o + 4)) 4 13 8 ly2 ly rfl rfl (Nat.le_of_ble_eq_true rfl)) (List.append_nil _).symm gX1_copyFrom_X3_copyRow_n53 sn_X1_copyFrom_X3_copyRow (by decide +kernel) rfl hd_X3_copyRow ⟨rfl, rfl, (Nat.le_of_ble_eq_true rfl), (Nat.le_of_ble_eq_true rfl)⟩ ⟨(Nat.zero_le _), (Nat.zero_le _)⟩ rfl rfl (Nat.le_of_ble_eq_true rfl) dX1_copyFrom_49 (fun v w1 H locs hp HW => ?_)
  obtain ⟨rfl, rfl⟩ := hp
  have HW : Hw D A s (wS cI a o2 n2 sk2 cn2 wx2 ly2 pt2 rd2 qt2 qp2 ++ (wS cI a o n2 sk2 cn2 wx2 ly2 pt rd qt qp)) H locs := HW
  refine W.eq (g2 := F0 m 52 ls []) rfl ?_
  refine lv_aload_n hx hb dX1_copyFrom_52 rfl (lv_at hl 1 rfl) ?_
  refine g_get CX HW in_X1_copyFrom_1 0 5 rfl rfl (Nat.le_of_ble_eq_true rfl) fl_X1_copyFrom_28 rfl dX1_copyFrom_53 ?_
  refine lv_aload_n hx hb dX1_copyFrom_56 rfl (lv_at hl 0 rfl) ?_
  refine g_get CX HW in_X1_copyFrom_1 9 5 rfl rfl (Nat.le_of_ble_eq_true rfl) fl_X1_copyFrom_28 rfl dX1_copyFrom_57 ?_
  refine g_callSN (host := "PommelTows") CX HW hl.1 [] [] (c_X3_copyRow (wS cI a o2 n2 sk2 cn2 wx2 ly2 pt2 rd2 qt2 qp2 ++ (wS cI a o n2 sk2 cn2 wx2 ly2 pt rd qt qp)) (a (o2 + 5)) (a (o + 5)) 5 14 8 pt2 pt rfl rfl (Nat.le_of_ble_eq_true rfl)) (List.append_nil _).symm gX1_copyFrom_X3_copyRow_n53 sn_X1_copyFrom_X3_copyRow (by decide +kernel) rfl hd_X3_copyRow ⟨rfl, rfl, (Nat.le_of_ble_eq_true rfl), (Nat.le_of_ble_eq_true rfl)⟩ ⟨(Nat.zero_le _), (Nat.zero_le _)⟩ rfl rfl (Nat.le_of_ble_eq_true rfl) dX1_copyFrom_60 (fun v w1 H locs hp HW => ?_)
  obtain ⟨rfl, rfl⟩ := hp
  have HW : Hw D A s (wS cI a o2 n2 sk2 cn2 wx2 ly2 pt2 rd2 qt2 qp2 ++ (wS cI a o n2 sk2 cn2 wx2 ly2 pt2 rd qt qp)) H locs := HW
  refine W.eq (g2 := F0 m 63 ls []) rfl ?_
  refine lv_aload_n hx hb dX1_copyFrom_63 rfl (lv_at hl 1 rfl) ?_
  refine g_get CX HW in_X1_copyFrom_1 0 6 rfl rfl (Nat.le_of_ble_eq_true rfl) fl_X1_copyFrom_31 rfl dX1_copyFrom_64 ?_
  refine lv_aload_n hx hb dX1_copyFrom_67 rfl (lv_at hl 0 rfl) ?_
  refine g_get CX HW in_X1_copyFrom_1 9 6 rfl rfl (Nat.le_of_ble_eq_true rfl) fl_X1_copyFrom_31 rfl dX1_copyFrom_68 ?_
  refine g_callSN (host := "PommelTows") CX HW hl.1 [] [] (c_X3_copyRow (wS cI a o2 n2 sk2 cn2 wx2 ly2 pt2 rd2 qt2 qp2 ++ (wS cI a o n2 sk2 cn2 wx2 ly2 pt2 rd qt qp)) (a (o2 + 6)) (a (o + 6)) 6 15 8 rd2 rd rfl rfl (Nat.le_of_ble_eq_true rfl)) (List.append_nil _).symm gX1_copyFrom_X3_copyRow_n53 sn_X1_copyFrom_X3_copyRow (by decide +kernel) rfl hd_X3_copyRow ⟨rfl, rfl, (Nat.le_of_ble_eq_true rfl), (Nat.le_of_ble_eq_true rfl)⟩ ⟨(Nat.zero_le _), (Nat.zero_le _)⟩ rfl rfl (Nat.le_of_ble_eq_true rfl) dX1_copyFrom_71 (fun v w1 H locs hp HW => ?_)
  obtain ⟨rfl, rfl⟩ := hp
  have HW : Hw D A s (wS cI a o2 n2 sk2 cn2 wx2 ly2 pt2 rd2 qt2 qp2 ++ (wS cI a o n2 sk2 cn2 wx2 ly2 pt2 rd2 qt qp)) H locs := HW
  refine W.eq (g2 := F0 m 74 ls []) rfl ?_
  refine lv_aload_n hx hb dX1_copyFrom_74 rfl (lv_at hl 1 rfl) ?_
  refine g_get CX HW in_X1_copyFrom_1 0 7 rfl rfl (Nat.le_of_ble_eq_true rfl) fl_X1_copyFrom_34 rfl dX1_copyFrom_75 ?_
  refine lv_aload_n hx hb dX1_copyFrom_78 rfl (lv_at hl 0 rfl) ?_
  refine g_get CX HW in_X1_copyFrom_1 9 7 rfl rfl (Nat.le_of_ble_eq_true rfl) fl_X1_copyFrom_34 rfl dX1_copyFrom_79 ?_
  refine g_callSN (host := "PommelTows") CX HW hl.1 [] [] (c_X3_copyRow (wS cI a o2 n2 sk2 cn2 wx2 ly2 pt2 rd2 qt2 qp2 ++ (wS cI a o n2 sk2 cn2 wx2 ly2 pt2 rd2 qt qp)) (a (o2 + 7)) (a (o + 7)) 7 16 8 qt2 qt rfl rfl (Nat.le_of_ble_eq_true rfl)) (List.append_nil _).symm gX1_copyFrom_X3_copyRow_n53 sn_X1_copyFrom_X3_copyRow (by decide +kernel) rfl hd_X3_copyRow ⟨rfl, rfl, (Nat.le_of_ble_eq_true rfl), (Nat.le_of_ble_eq_true rfl)⟩ ⟨(Nat.zero_le _), (Nat.zero_le _)⟩ rfl rfl (Nat.le_of_ble_eq_true rfl) dX1_copyFrom_82 (fun v w1 H locs hp HW => ?_)
  obtain ⟨rfl, rfl⟩ := hp
  have HW : Hw D A s (wS cI a o2 n2 sk2 cn2 wx2 ly2 pt2 rd2 qt2 qp2 ++ (wS cI a o n2 sk2 cn2 wx2 ly2 pt2 rd2 qt2 qp)) H locs := HW
  refine W.eq (g2 := F0 m 85 ls []) rfl ?_
  refine lv_aload_n hx hb dX1_copyFrom_85 rfl (lv_at hl 1 rfl) ?_
  refine g_get CX HW in_X1_copyFrom_1 0 8 rfl rfl (Nat.le_of_ble_eq_true rfl) fl_X1_copyFrom_37 rfl dX1_copyFrom_86 ?_
  refine lv_aload_n hx hb dX1_copyFrom_89 rfl (lv_at hl 0 rfl) ?_
  refine g_get CX HW in_X1_copyFrom_1 9 8 rfl rfl (Nat.le_of_ble_eq_true rfl) fl_X1_copyFrom_37 rfl dX1_copyFrom_90 ?_
  refine g_callSN (host := "PommelTows") CX HW hl.1 [] [] (c_X3_copyRow (wS cI a o2 n2 sk2 cn2 wx2 ly2 pt2 rd2 qt2 qp2 ++ (wS cI a o n2 sk2 cn2 wx2 ly2 pt2 rd2 qt2 qp)) (a (o2 + 8)) (a (o + 8)) 8 17 8 qp2 qp rfl rfl (Nat.le_of_ble_eq_true rfl)) (List.append_nil _).symm gX1_copyFrom_X3_copyRow_n53 sn_X1_copyFrom_X3_copyRow (by decide +kernel) rfl hd_X3_copyRow ⟨rfl, rfl, (Nat.le_of_ble_eq_true rfl), (Nat.le_of_ble_eq_true rfl)⟩ ⟨(Nat.zero_le _), (Nat.zero_le _)⟩ rfl rfl (Nat.le_of_ble_eq_true rfl) dX1_copyFrom_93 (fun v w1 H locs hp HW => ?_)
  obtain ⟨rfl, rfl⟩ := hp
  have HW : Hw D A s (wS cI a o2 n2 sk2 cn2 wx2 ly2 pt2 rd2 qt2 qp2 ++ (wS cI a o n2 sk2 cn2 wx2 ly2 pt2 rd2 qt2 qp2)) H locs := HW
  refine W.eq (g2 := F0 m 96 ls []) rfl ?_
  exact g_vret CX HW rfl ⟨rfl, rfl⟩ dX1_copyFrom_96
