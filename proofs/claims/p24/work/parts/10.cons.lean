section GC
variable {p : Program} {l : Launch} {e : Env} {R : Room} {s : State} {m : MethodId} {args : Array Value} {below : List Frame} {meth : Method} {c : Code} {H : Heap} {locs : List Loc} {cells slots : Nat} {Q : State → Prop}
variable {cc : ByteArray} {pc nL : Nat} {ls : Array Slot} {rest : List Value} {ret : Option FieldType} {own : String} {Ts : List Cond} {D : va_G} {A : Nat → Prop} {tys : List (ClassId × FieldType)} {w : va_W}
/-- a new array of ints, the last cell -/
theorem g_newa (CX : Cx p s m args meth c cc nL ret own Ts D tys A) (HW : Hw D A s w H locs) {cI : ClassId} (ht : tys[0]? = some (cI, .int)) (harr : Cond.arrayClass .int ∈ Ts) {n : Int32} {N : Nat} (hn : ¬ n < 0) (hN : n.toNatClampNeg = N) (hb2 : N * componentBytes .int ≤ 536870912) (hcells : cells + 1 ≤ R.cells) (hslots : slots + N ≤ R.slots) (hdg : decode cc pc = .ok (.newarray .int, 2))
    (kk : ∀ (q : Nat) (H1 : Heap), Hw D A s (w ++ [(q, .inl (cI, N, .inl (fun _ => 0)))]) H1 locs → W p l e R s m args below meth c H1 locs (cells + 1) (slots + N) Q (F0 m (pc + 2) ls (.ref q :: rest))) : W p l e R s m args below meth c H locs cells slots Q (F0 m pc ls (.int n :: rest)) := by
  obtain ⟨hx, hb, hml, hr, hown, hts, hK, hA, hlk⟩ := CX
  refine va_newa (atype := .int) (ty := .int) (a0 := (N, .inl (fun _ => 0))) hx hb (hts _ harr) rfl hK.1 HW.1 HW.2.1 HW.2.2 hA (fun cA => by rw [vp_cell_i]; rfl) hn hN hb2 hcells hslots hdg (fun q cA H1 h0 h1 h2 h3 => ?_)
  have e1 : va_RA s cI .int := (hK.1.2 0 _ ht).2
  have e2 : va_RA s cA .int := (h0.2 tys.length (cA, .int) (by rw [List.getElem?_append_right (Nat.le_refl _), Nat.sub_self]; rfl)).2
  have e3 : cA = cI := Option.some.inj (Eq.trans (Eq.symm e2) e1)
  subst e3
  exact kk q H1 ⟨h1, h2, h3⟩
/-- a new object, the last cell -/
theorem g_newc (CX : Cx p s m args meth c cc nL ret own Ts D tys A) (HW : Hw D A s w H locs) {C : String} {T : u_T} {N ci index : Nat} {fs : List Value} (hin : ∀ x ∈ u_ws C T N, x ∈ Ts) (ty : Nat → FieldType) (hty : ∀ k, k < N → parseFieldDescriptor (T k).2.2.1 = some (ty k)) (hcl : Cond.classLink own index C ∈ Ts) (hinst : Cond.instantiable C N ∈ Ts) (hini : Cond.initialized C ∈ Ts) (hc : vwCl[ci]? = some (C, T, N)) (hfs : ∀ j, j < N → defaultValue (ty j) = vp_V fs j) (hcells : cells + 1 ≤ R.cells) (hslots : slots + N ≤ R.slots) (hdg : decode cc pc = .ok (.new index, 3))
    (kk : ∀ (q : Nat) (H1 : Heap), Hw D A s (w ++ [(q, .inr (ci, fs))]) H1 locs → W p l e R s m args below meth c H1 locs (cells + 1) (slots + N) Q (F0 m (pc + 3) ls (.ref q :: rest))) : W p l e R s m args below meth c H locs cells slots Q (F0 m pc ls rest) := by
  obtain ⟨hx, hb, hml, hr, hown, hts, hK, hA, hlk⟩ := CX
  exact va_new hx hb hts hin ty hty hown (hts _ hcl) (hts _ hinst) (hts _ hini) hK.1 HW.1 HW.2.1 HW.2.2 hA hc hfs hcells hslots hdg (fun q H1 h1 h2 h3 => kk q H1 ⟨h1, h2, h3⟩)
/-- a constructor's call -/
theorem g_callI {y : MethodName} {index n maxL mc ms : Nat} {bytes : ByteArray} {ws2 ws2' : List Cond} {rm2 : Room} {b : Nat} {As st0 : List Value} {wc : va_W} {post : Option Value → va_W → Prop} (CX : Cx p s m args meth c cc nL ret own Ts D tys A) (HW : Hw D A s w H locs) (hl : ls.size = nL) (pre suf : va_W) (hc : Ct l y ws2 rm2 D tys (.ref b :: As) wc post mc ms) (hw : w = pre ++ (wc ++ suf))
    (hG : GoodIn Ts ws2) (hlk : Cond.methodLink own index y ∈ Ts) (hini : Cond.initialized y.cls ∈ Ts) (him : Cond.instanceMethod y ∈ Ts) (hy : ws2 = Cond.code y bytes maxL none :: ws2') (hyn : y.name = "<init>") (hd : y.cls ≠ "java/lang/invoke/MethodHandle" ∧ y.cls ≠ "java/lang/invoke/VarHandle" ∧ (parseMethodDescriptor y.desc).map (fun d => d.parameters.length) = some n) (hR : rm2.cells = mc ∧ rm2.slots = ms ∧ rm2.frames + 1 ≤ R.frames ∧ 8 + (maxL + 11) + rm2.locals ≤ R.locals) (hcs : cells + mc ≤ R.cells ∧ slots + ms ≤ R.slots) (hn : As.length = n) (hst : st0 = As.reverse ++ .ref b :: rest) (hW : (rest.map fun v => v.category).sum ≤ 8) (hdg : decode cc pc = .ok (.invokespecial index, 3))
    (kk : ∀ (v : Option Value) (w1 : va_W) (H1 : Heap) (locs1 : List Loc), post v w1 → Hw D A s (pre ++ (w1 ++ suf)) H1 locs1 → W p l e R s m args below meth c H1 locs1 (cells + mc) (slots + ms) Q (F0 m (pc + 3) ls (v.toList ++ rest))) : W p l e R s m args below meth c H locs cells slots Q (F0 m pc ls st0) :=
  g_run HW hw CX.hA (va_runI CX.fix (hc H.size) (cwI n CX.fix.2.2.2.2 hG hy hR.1 hR.2.1 (CX.fix.2.2.2.2 _ hini) (CX.fix.2.2.2.2 _ hlk) (CX.fix.2.2.2.2 _ him) hyn hd ⟨hR.2.2.1, hR.2.2.2⟩) (g_pre CX HW hw (.ref b :: As)) rfl hn hl hst (lv_room hW) hdg hcs) kk
/-- a private constructor of a nest mate -/
theorem g_callIN {y : MethodName} {host : String} {index n maxL mc ms : Nat} {bytes : ByteArray} {ws2 ws2' : List Cond} {rm2 : Room} {b : Nat} {As st0 : List Value} {wc : va_W} {post : Option Value → va_W → Prop} (CX : Cx p s m args meth c cc nL ret own Ts D tys A) (HW : Hw D A s w H locs) (hl : ls.size = nL) (pre suf : va_W) (hc : Ct l y ws2 rm2 D tys (.ref b :: As) wc post mc ms) (hw : w = pre ++ (wc ++ suf))
    (hG : GoodIn Ts ws2) (hlk : Cond.methodLinkNest own index y host ∈ nwl) (hini : Cond.initialized y.cls ∈ Ts) (him : Cond.instanceMethod y ∈ Ts) (hy : ws2 = Cond.code y bytes maxL none :: ws2') (hyn : y.name = "<init>") (hd : y.cls ≠ "java/lang/invoke/MethodHandle" ∧ y.cls ≠ "java/lang/invoke/VarHandle" ∧ (parseMethodDescriptor y.desc).map (fun d => d.parameters.length) = some n) (hR : rm2.cells = mc ∧ rm2.slots = ms ∧ rm2.frames + 1 ≤ R.frames ∧ 8 + (maxL + 11) + rm2.locals ≤ R.locals) (hcs : cells + mc ≤ R.cells ∧ slots + ms ≤ R.slots) (hn : As.length = n) (hst : st0 = As.reverse ++ .ref b :: rest) (hW : (rest.map fun v => v.category).sum ≤ 8) (hdg : decode cc pc = .ok (.invokespecial index, 3))
    (kk : ∀ (v : Option Value) (w1 : va_W) (H1 : Heap) (locs1 : List Loc), post v w1 → Hw D A s (pre ++ (w1 ++ suf)) H1 locs1 → W p l e R s m args below meth c H1 locs1 (cells + mc) (slots + ms) Q (F0 m (pc + 3) ls (v.toList ++ rest))) : W p l e R s m args below meth c H locs cells slots Q (F0 m pc ls st0) :=
  g_run HW hw CX.hA (va_runIN (host := host) CX.fix (hc H.size) ⟨va_cnB n CX.fix.2.2.2.2 hG hy hR.1 hR.2.1 (CX.hK.nest hlk) (CX.fix.2.2.2.2 _ hini) hd ⟨hR.2.2.1, hR.2.2.2⟩, hyn, CX.fix.2.2.2.2 _ him⟩ (g_pre CX HW hw (.ref b :: As)) rfl hn hl hst (lv_room hW) hdg hcs) kk
end GC
theorem hd_X0_init : yX0_init.cls ≠ "java/lang/invoke/MethodHandle" ∧ yX0_init.cls ≠ "java/lang/invoke/VarHandle" ∧ (parseMethodDescriptor yX0_init.desc).map (fun d => d.parameters.length) = some 0 := by decide +kernel
theorem oi_X0_init : Cond.methodLink RX0 3 objectInit ∈ wsX0_init ∧ Cond.instanceMethod objectInit ∈ wsX0_init ∧ Cond.code objectInit ⟨#[0xb1]⟩ 1 none ∈ wsX0_init := ⟨by decide +kernel, by decide +kernel, by decide +kernel⟩
theorem fl_X0_init_9 : Cond.fieldLink RX0 9 (TX0 0).1 (TX0 0).2.1 (TX0 0).2.2.1 ∈ wsX0_init := by decide +kernel
theorem in_X0_init_0 : ∀ x ∈ u_ws RX0 TX0 5, x ∈ wsX0_init := by decide +kernel
theorem ar_X0_init : Cond.arrayClass .int ∈ wsX0_init := by decide +kernel
theorem fl_X0_init_15 : Cond.fieldLink RX0 15 (TX0 1).1 (TX0 1).2.1 (TX0 1).2.2.1 ∈ wsX0_init := by decide +kernel
theorem fl_X0_init_19 : Cond.fieldLink RX0 19 (TX0 2).1 (TX0 2).2.1 (TX0 2).2.2.1 ∈ wsX0_init := by decide +kernel
theorem fl_X0_init_22 : Cond.fieldLink RX0 22 (TX0 3).1 (TX0 3).2.1 (TX0 3).2.2.1 ∈ wsX0_init := by decide +kernel
theorem fl_X0_init_25 : Cond.fieldLink RX0 25 (TX0 4).1 (TX0 4).2.1 (TX0 4).2.2.1 ∈ wsX0_init := by decide +kernel
set_option maxRecDepth 100000 in
set_option maxHeartbeats 4000000 in
theorem c_X0_init {l : Launch} {D : va_G} {cI cL : ClassId} (h : Nat) : Ct l yX0_init wsX0_init { frames := 1, cells := 4, slots := 24, locals := 12 } D (ty2 cI cL) [.ref h] [(h, .inr (0, [.int (0 : Int32), .null, .null, .null, .null]))] (fun v w' => v = none ∧ ∃ q1 q2 q3 q4 : Nat, w' = [(h, .inr (0, [.int (0 : Int32), .ref q1, .ref q2, .ref q3, .ref q4])), (q1, .inl (cI, 6, .inl (fun _ => (0 : Int32)))), (q2, .inl (cI, 6, .inl (fun _ => (0 : Int32)))), (q3, .inl (cI, 6, .inl (fun _ => (0 : Int32)))), (q4, .inl (cI, 6, .inl (fun _ => (0 : Int32))))]) 4 24 := by
  refine Ct.of (cc := cX0_init) (maxL := 1) (ret := none) (by decide) rfl (Nat.le_of_ble_eq_true rfl) ?_
  intro p e s m below meth c A ls CX hin HW hl
  obtain ⟨hx, hb, hml, hr, hown, hts, hK, hA, hlk⟩ := id CX
  have hin : meth.name = "<init>" := hin
  have HW : Hw D A s [(h, .inr (0, [.int (0 : Int32), .null, .null, .null, .null]))] s.heap [] := HW
  have hl : lv_has ls 1 [(0, .ref h)] := hl
  refine lv_aload_n hx hb dX0_init_0 rfl (lv_at hl 0 rfl) ?_
  refine W.objInit hx hb hown (hts _ oi_X0_init.1) (hts _ oi_X0_init.2.1) (hts _ oi_X0_init.2.2) rfl (by rw [hml]; exact hl.1) rfl dX0_init_1 (Nat.le_of_ble_eq_true rfl) (Nat.le_of_ble_eq_true rfl) ?_
  refine W.eq (g2 := F0 m 4 ls []) rfl ?_
  refine lv_aload_n hx hb dX0_init_4 rfl (lv_at hl 0 rfl) ?_
  refine lv_iconst (v := 0) hx hb dX0_init_5 (by decide) ?_
  refine g_put CX HW in_X0_init_0 tyX0 tyX0_ok nmX0 0 0 rfl rfl (Nat.le_of_ble_eq_true rfl) fl_X0_init_9 rfl rfl rfl (Nat.le_of_ble_eq_true rfl) dX0_init_6 (fun H locs HW => ?_)
  have HW : Hw D A s [(h, .inr (0, [.int (0 : Int32), .null, .null, .null, .null]))] H locs := HW
  refine lv_aload_n hx hb dX0_init_9 rfl (lv_at hl 0 rfl) ?_
  refine lv_bipush (v := 6) hx hb dX0_init_10 (by decide) ?_
  refine g_newa CX HW rfl ar_X0_init (n := 6) (N := 6) (by decide) (by decide) (by decide) (Nat.le_of_ble_eq_true rfl) (Nat.le_of_ble_eq_true rfl) dX0_init_12 (fun q1 H HW => ?_)
  have HW : Hw D A s [(h, .inr (0, [.int (0 : Int32), .null, .null, .null, .null])), (q1, .inl (cI, 6, .inl (fun _ => (0 : Int32))))] H locs := HW
  refine W.widen (k := 1) (n := 6) (Nat.le_of_ble_eq_true rfl) (Nat.le_of_ble_eq_true rfl) ?_
  refine g_putF CX hin HW in_X0_init_0 tyX0 tyX0_ok nmX0 0 1 rfl rfl (Nat.le_of_ble_eq_true rfl) fl_X0_init_15 rfl rfl rfl rfl (Nat.le_of_ble_eq_true rfl) dX0_init_14 (fun H locs HW => ?_)
  have HW : Hw D A s [(h, .inr (0, [.int (0 : Int32), .ref q1, .null, .null, .null])), (q1, .inl (cI, 6, .inl (fun _ => (0 : Int32))))] H locs := HW
  refine lv_aload_n hx hb dX0_init_17 rfl (lv_at hl 0 rfl) ?_
  refine lv_bipush (v := 6) hx hb dX0_init_18 (by decide) ?_
  refine g_newa CX HW rfl ar_X0_init (n := 6) (N := 6) (by decide) (by decide) (by decide) (Nat.le_of_ble_eq_true rfl) (Nat.le_of_ble_eq_true rfl) dX0_init_20 (fun q2 H HW => ?_)
  have HW : Hw D A s [(h, .inr (0, [.int (0 : Int32), .ref q1, .null, .null, .null])), (q1, .inl (cI, 6, .inl (fun _ => (0 : Int32)))), (q2, .inl (cI, 6, .inl (fun _ => (0 : Int32))))] H locs := HW
  refine W.widen (k := 2) (n := 12) (Nat.le_of_ble_eq_true rfl) (Nat.le_of_ble_eq_true rfl) ?_
  refine g_putF CX hin HW in_X0_init_0 tyX0 tyX0_ok nmX0 0 2 rfl rfl (Nat.le_of_ble_eq_true rfl) fl_X0_init_19 rfl rfl rfl rfl (Nat.le_of_ble_eq_true rfl) dX0_init_22 (fun H locs HW => ?_)
  have HW : Hw D A s [(h, .inr (0, [.int (0 : Int32), .ref q1, .ref q2, .null, .null])), (q1, .inl (cI, 6, .inl (fun _ => (0 : Int32)))), (q2, .inl (cI, 6, .inl (fun _ => (0 : Int32))))] H locs := HW
  refine lv_aload_n hx hb dX0_init_25 rfl (lv_at hl 0 rfl) ?_
  refine lv_bipush (v := 6) hx hb dX0_init_26 (by decide) ?_
  refine g_newa CX HW rfl ar_X0_init (n := 6) (N := 6) (by decide) (by decide) (by decide) (Nat.le_of_ble_eq_true rfl) (Nat.le_of_ble_eq_true rfl) dX0_init_28 (fun q3 H HW => ?_)
  have HW : Hw D A s [(h, .inr (0, [.int (0 : Int32), .ref q1, .ref q2, .null, .null])), (q1, .inl (cI, 6, .inl (fun _ => (0 : Int32)))), (q2, .inl (cI, 6, .inl (fun _ => (0 : Int32)))), (q3, .inl (cI, 6, .inl (fun _ => (0 : Int32))))] H locs := HW
  refine W.widen (k := 3) (n := 18) (Nat.le_of_ble_eq_true rfl) (Nat.le_of_ble_eq_true rfl) ?_
  refine g_putF CX hin HW in_X0_init_0 tyX0 tyX0_ok nmX0 0 3 rfl rfl (Nat.le_of_ble_eq_true rfl) fl_X0_init_22 rfl rfl rfl rfl (Nat.le_of_ble_eq_true rfl) dX0_init_30 (fun H locs HW => ?_)
  have HW : Hw D A s [(h, .inr (0, [.int (0 : Int32), .ref q1, .ref q2, .ref q3, .null])), (q1, .inl (cI, 6, .inl (fun _ => (0 : Int32)))), (q2, .inl (cI, 6, .inl (fun _ => (0 : Int32)))), (q3, .inl (cI, 6, .inl (fun _ => (0 : Int32))))] H locs := HW
  refine lv_aload_n hx hb dX0_init_33 rfl (lv_at hl 0 rfl) ?_
  refine lv_bipush (v := 6) hx hb dX0_init_34 (by decide) ?_
  refine g_newa CX HW rfl ar_X0_init (n := 6) (N := 6) (by decide) (by decide) (by decide) (Nat.le_of_ble_eq_true rfl) (Nat.le_of_ble_eq_true rfl) dX0_init_36 (fun q4 H HW => ?_)
  have HW : Hw D A s [(h, .inr (0, [.int (0 : Int32), .ref q1, .ref q2, .ref q3, .null])), (q1, .inl (cI, 6, .inl (fun _ => (0 : Int32)))), (q2, .inl (cI, 6, .inl (fun _ => (0 : Int32)))), (q3, .inl (cI, 6, .inl (fun _ => (0 : Int32)))), (q4, .inl (cI, 6, .inl (fun _ => (0 : Int32))))] H locs := HW
  refine W.widen (k := 4) (n := 24) (Nat.le_of_ble_eq_true rfl) (Nat.le_of_ble_eq_true rfl) ?_
  refine g_putF CX hin HW in_X0_init_0 tyX0 tyX0_ok nmX0 0 4 rfl rfl (Nat.le_of_ble_eq_true rfl) fl_X0_init_25 rfl rfl rfl rfl (Nat.le_of_ble_eq_true rfl) dX0_init_38 (fun H locs HW => ?_)
  have HW : Hw D A s [(h, .inr (0, [.int (0 : Int32), .ref q1, .ref q2, .ref q3, .ref q4])), (q1, .inl (cI, 6, .inl (fun _ => (0 : Int32)))), (q2, .inl (cI, 6, .inl (fun _ => (0 : Int32)))), (q3, .inl (cI, 6, .inl (fun _ => (0 : Int32)))), (q4, .inl (cI, 6, .inl (fun _ => (0 : Int32))))] H locs := HW
  exact g_vret CX HW rfl ⟨rfl, q1, q2, q3, q4, rfl⟩ dX0_init_41

theorem hd_X1_init : yX1_init.cls ≠ "java/lang/invoke/MethodHandle" ∧ yX1_init.cls ≠ "java/lang/invoke/VarHandle" ∧ (parseMethodDescriptor yX1_init.desc).map (fun d => d.parameters.length) = some 0 := by decide +kernel
theorem oi_X1_init : Cond.methodLink RX1 3 objectInit ∈ wsX1_init ∧ Cond.instanceMethod objectInit ∈ wsX1_init ∧ Cond.code objectInit ⟨#[0xb1]⟩ 1 none ∈ wsX1_init := ⟨by decide +kernel, by decide +kernel, by decide +kernel⟩
theorem fl_X1_init_9 : Cond.fieldLink RX1 9 (TX1 0).1 (TX1 0).2.1 (TX1 0).2.2.1 ∈ wsX1_init := by decide +kernel
theorem in_X1_init_1 : ∀ x ∈ u_ws RX1 TX1 9, x ∈ wsX1_init := by decide +kernel
theorem ar_X1_init : Cond.arrayClass .int ∈ wsX1_init := by decide +kernel
theorem fl_X1_init_15 : Cond.fieldLink RX1 15 (TX1 1).1 (TX1 1).2.1 (TX1 1).2.2.1 ∈ wsX1_init := by decide +kernel
theorem fl_X1_init_19 : Cond.fieldLink RX1 19 (TX1 2).1 (TX1 2).2.1 (TX1 2).2.2.1 ∈ wsX1_init := by decide +kernel
theorem fl_X1_init_22 : Cond.fieldLink RX1 22 (TX1 3).1 (TX1 3).2.1 (TX1 3).2.2.1 ∈ wsX1_init := by decide +kernel
theorem fl_X1_init_25 : Cond.fieldLink RX1 25 (TX1 4).1 (TX1 4).2.1 (TX1 4).2.2.1 ∈ wsX1_init := by decide +kernel
theorem fl_X1_init_28 : Cond.fieldLink RX1 28 (TX1 5).1 (TX1 5).2.1 (TX1 5).2.2.1 ∈ wsX1_init := by decide +kernel
theorem fl_X1_init_31 : Cond.fieldLink RX1 31 (TX1 6).1 (TX1 6).2.1 (TX1 6).2.2.1 ∈ wsX1_init := by decide +kernel
theorem fl_X1_init_34 : Cond.fieldLink RX1 34 (TX1 7).1 (TX1 7).2.1 (TX1 7).2.2.1 ∈ wsX1_init := by decide +kernel
theorem fl_X1_init_37 : Cond.fieldLink RX1 37 (TX1 8).1 (TX1 8).2.1 (TX1 8).2.2.1 ∈ wsX1_init := by decide +kernel
set_option maxRecDepth 100000 in
set_option maxHeartbeats 4000000 in
theorem c_X1_init {l : Launch} {D : va_G} {cI cL : ClassId} (h : Nat) : Ct l yX1_init wsX1_init { frames := 1, cells := 8, slots := 64, locals := 12 } D (ty2 cI cL) [.ref h] [(h, .inr (1, [.int (0 : Int32), .null, .null, .null, .null, .null, .null, .null, .null]))] (fun v w' => v = none ∧ ∃ q1 q2 q3 q4 q5 q6 q7 q8 : Nat, w' = [(h, .inr (1, [.int (0 : Int32), .ref q1, .ref q2, .ref q3, .ref q4, .ref q5, .ref q6, .ref q7, .ref q8])), (q1, .inl (cI, 8, .inl (fun _ => (0 : Int32)))), (q2, .inl (cI, 8, .inl (fun _ => (0 : Int32)))), (q3, .inl (cI, 8, .inl (fun _ => (0 : Int32)))), (q4, .inl (cI, 8, .inl (fun _ => (0 : Int32)))), (q5, .inl (cI, 8, .inl (fun _ => (0 : Int32)))), (q6, .inl (cI, 8, .inl (fun _ => (0 : Int32)))), (q7, .inl (cI, 8, .inl (fun _ => (0 : Int32)))), (q8, .inl (cI, 8, .inl (fun _ => (0 : Int32))))]) 8 64 := by
  refine Ct.of (cc := cX1_init) (maxL := 1) (ret := none) (by decide) rfl (Nat.le_of_ble_eq_true rfl) ?_
  intro p e s m below meth c A ls CX hin HW hl
  obtain ⟨hx, hb, hml, hr, hown, hts, hK, hA, hlk⟩ := id CX
  have hin : meth.name = "<init>" := hin
  have HW : Hw D A s [(h, .inr (1, [.int (0 : Int32), .null, .null, .null, .null, .null, .null, .null, .null]))] s.heap [] := HW
  have hl : lv_has ls 1 [(0, .ref h)] := hl
  refine lv_aload_n hx hb dX1_init_0 rfl (lv_at hl 0 rfl) ?_
  refine W.objInit hx hb hown (hts _ oi_X1_init.1) (hts _ oi_X1_init.2.1) (hts _ oi_X1_init.2.2) rfl (by rw [hml]; exact hl.1) rfl dX1_init_1 (Nat.le_of_ble_eq_true rfl) (Nat.le_of_ble_eq_true rfl) ?_
  refine W.eq (g2 := F0 m 4 ls []) rfl ?_
  refine lv_aload_n hx hb dX1_init_4 rfl (lv_at hl 0 rfl) ?_
  refine lv_iconst (v := 0) hx hb dX1_init_5 (by decide) ?_
  refine g_put CX HW in_X1_init_1 tyX1 tyX1_ok nmX1 0 0 rfl rfl (Nat.le_of_ble_eq_true rfl) fl_X1_init_9 rfl rfl rfl (Nat.le_of_ble_eq_true rfl) dX1_init_6 (fun H locs HW => ?_)
  have HW : Hw D A s [(h, .inr (1, [.int (0 : Int32), .null, .null, .null, .null, .null, .null, .null, .null]))] H locs := HW
  refine lv_aload_n hx hb dX1_init_9 rfl (lv_at hl 0 rfl) ?_
  refine lv_bipush (v := 8) hx hb dX1_init_10 (by decide) ?_
  refine g_newa CX HW rfl ar_X1_init (n := 8) (N := 8) (by decide) (by decide) (by decide) (Nat.le_of_ble_eq_true rfl) (Nat.le_of_ble_eq_true rfl) dX1_init_12 (fun q1 H HW => ?_)
  have HW : Hw D A s [(h, .inr (1, [.int (0 : Int32), .null, .null, .null, .null, .null, .null, .null, .null])), (q1, .inl (cI, 8, .inl (fun _ => (0 : Int32))))] H locs := HW
  refine W.widen (k := 1) (n := 8) (Nat.le_of_ble_eq_true rfl) (Nat.le_of_ble_eq_true rfl) ?_
  refine g_putF CX hin HW in_X1_init_1 tyX1 tyX1_ok nmX1 0 1 rfl rfl (Nat.le_of_ble_eq_true rfl) fl_X1_init_15 rfl rfl rfl rfl (Nat.le_of_ble_eq_true rfl) dX1_init_14 (fun H locs HW => ?_)
  have HW : Hw D A s [(h, .inr (1, [.int (0 : Int32), .ref q1, .null, .null, .null, .null, .null, .null, .null])), (q1, .inl (cI, 8, .inl (fun _ => (0 : Int32))))] H locs := HW
  refine lv_aload_n hx hb dX1_init_17 rfl (lv_at hl 0 rfl) ?_
  refine lv_bipush (v := 8) hx hb dX1_init_18 (by decide) ?_
  refine g_newa CX HW rfl ar_X1_init (n := 8) (N := 8) (by decide) (by decide) (by decide) (Nat.le_of_ble_eq_true rfl) (Nat.le_of_ble_eq_true rfl) dX1_init_20 (fun q2 H HW => ?_)
  have HW : Hw D A s [(h, .inr (1, [.int (0 : Int32), .ref q1, .null, .null, .null, .null, .null, .null, .null])), (q1, .inl (cI, 8, .inl (fun _ => (0 : Int32)))), (q2, .inl (cI, 8, .inl (fun _ => (0 : Int32))))] H locs := HW
  refine W.widen (k := 2) (n := 16) (Nat.le_of_ble_eq_true rfl) (Nat.le_of_ble_eq_true rfl) ?_
  refine g_putF CX hin HW in_X1_init_1 tyX1 tyX1_ok nmX1 0 2 rfl rfl (Nat.le_of_ble_eq_true rfl) fl_X1_init_19 rfl rfl rfl rfl (Nat.le_of_ble_eq_true rfl) dX1_init_22 (fun H locs HW => ?_)
  have HW : Hw D A s [(h, .inr (1, [.int (0 : Int32), .ref q1, .ref q2, .null, .null, .null, .null, .null, .null])), (q1, .inl (cI, 8, .inl (fun _ => (0 : Int32)))), (q2, .inl (cI, 8, .inl (fun _ => (0 : Int32))))] H locs := HW
  refine lv_aload_n hx hb dX1_init_25 rfl (lv_at hl 0 rfl) ?_
  refine lv_bipush (v := 8) hx hb dX1_init_26 (by decide) ?_
  refine g_newa CX HW rfl ar_X1_init (n := 8) (N := 8) (by decide) (by decide) (by decide) (Nat.le_of_ble_eq_true rfl) (Nat.le_of_ble_eq_true rfl) dX1_init_28 (fun q3 H HW => ?_)
  have HW : Hw D A s [(h, .inr (1, [.int (0 : Int32), .ref q1, .ref q2, .null, .null, .null, .null, .null, .null])), (q1, .inl (cI, 8, .inl (fun _ => (0 : Int32)))), (q2, .inl (cI, 8, .inl (fun _ => (0 : Int32)))), (q3, .inl (cI, 8, .inl (fun _ => (0 : Int32))))] H locs := HW
  refine W.widen (k := 3) (n := 24) (Nat.le_of_ble_eq_true rfl) (Nat.le_of_ble_eq_true rfl) ?_
  refine g_putF CX hin HW in_X1_init_1 tyX1 tyX1_ok nmX1 0 3 rfl rfl (Nat.le_of_ble_eq_true rfl) fl_X1_init_22 rfl rfl rfl rfl (Nat.le_of_ble_eq_true rfl) dX1_init_30 (fun H locs HW => ?_)
  have HW : Hw D A s [(h, .inr (1, [.int (0 : Int32), .ref q1, .ref q2, .ref q3, .null, .null, .null, .null, .null])), (q1, .inl (cI, 8, .inl (fun _ => (0 : Int32)))), (q2, .inl (cI, 8, .inl (fun _ => (0 : Int32)))), (q3, .inl (cI, 8, .inl (fun _ => (0 : Int32))))] H locs := HW
  refine lv_aload_n hx hb dX1_init_33 rfl (lv_at hl 0 rfl) ?_
  refine lv_bipush (v := 8) hx hb dX1_init_34 (by decide) ?_
  refine g_newa CX HW rfl ar_X1_init (n := 8) (N := 8) (by decide) (by decide) (by decide) (Nat.le_of_ble_eq_true rfl) (Nat.le_of_ble_eq_true rfl) dX1_init_36 (fun q4 H HW => ?_)
  have HW : Hw D A s [(h, .inr (1, [.int (0 : Int32), .ref q1, .ref q2, .ref q3, .null, .null, .null, .null, .null])), (q1, .inl (cI, 8, .inl (fun _ => (0 : Int32)))), (q2, .inl (cI, 8, .inl (fun _ => (0 : Int32)))), (q3, .inl (cI, 8, .inl (fun _ => (0 : Int32)))), (q4, .inl (cI, 8, .inl (fun _ => (0 : Int32))))] H locs := HW
  refine W.widen (k := 4) (n := 32) (Nat.le_of_ble_eq_true rfl) (Nat.le_of_ble_eq_true rfl) ?_
  refine g_putF CX hin HW in_X1_init_1 tyX1 tyX1_ok nmX1 0 4 rfl rfl (Nat.le_of_ble_eq_true rfl) fl_X1_init_25 rfl rfl rfl rfl (Nat.le_of_ble_eq_true rfl) dX1_init_38 (fun H locs HW => ?_)
  have HW : Hw D A s [(h, .inr (1, [.int (0 : Int32), .ref q1, .ref q2, .ref q3, .ref q4, .null, .null, .null, .null])), (q1, .inl (cI, 8, .inl (fun _ => (0 : Int32)))), (q2, .inl (cI, 8, .inl (fun _ => (0 : Int32)))), (q3, .inl (cI, 8, .inl (fun _ => (0 : Int32)))), (q4, .inl (cI, 8, .inl (fun _ => (0 : Int32))))] H locs := HW
  refine lv_aload_n hx hb dX1_init_41 rfl (lv_at hl 0 rfl) ?_
  refine lv_bipush (v := 8) hx hb dX1_init_42 (by decide) ?_
  refine g_newa CX HW rfl ar_X1_init (n := 8) (N := 8) (by decide) (by decide) (by decide) (Nat.le_of_ble_eq_true rfl) (Nat.le_of_ble_eq_true rfl) dX1_init_44 (fun q5 H HW => ?_)
  have HW : Hw D A s [(h, .inr (1, [.int (0 : Int32), .ref q1, .ref q2, .ref q3, .ref q4, .null, .null, .null, .null])), (q1, .inl (cI, 8, .inl (fun _ => (0 : Int32)))), (q2, .inl (cI, 8, .inl (fun _ => (0 : Int32)))), (q3, .inl (cI, 8, .inl (fun _ => (0 : Int32)))), (q4, .inl (cI, 8, .inl (fun _ => (0 : Int32)))), (q5, .inl (cI, 8, .inl (fun _ => (0 : Int32))))] H locs := HW
  refine W.widen (k := 5) (n := 40) (Nat.le_of_ble_eq_true rfl) (Nat.le_of_ble_eq_true rfl) ?_
  refine g_putF CX hin HW in_X1_init_1 tyX1 tyX1_ok nmX1 0 5 rfl rfl (Nat.le_of_ble_eq_true rfl) fl_X1_init_28 rfl rfl rfl rfl (Nat.le_of_ble_eq_true rfl) dX1_init_46 (fun H locs HW => ?_)
  have HW : Hw D A s [(h, .inr (1, [.int (0 : Int32), .ref q1, .ref q2, .ref q3, .ref q4, .ref q5, .null, .null, .null])), (q1, .inl (cI, 8, .inl (fun _ => (0 : Int32)))), (q2, .inl (cI, 8, .inl (fun _ => (0 : Int32)))), (q3, .inl (cI, 8, .inl (fun _ => (0 : Int32)))), (q4, .inl (cI, 8, .inl (fun _ => (0 : Int32)))), (q5, .inl (cI, 8, .inl (fun _ => (0 : Int32))))] H locs := HW
  refine lv_aload_n hx hb dX1_init_49 rfl (lv_at hl 0 rfl) ?_
  refine lv_bipush (v := 8) hx hb dX1_init_50 (by decide) ?_
  refine g_newa CX HW rfl ar_X1_init (n := 8) (N := 8) (by decide) (by decide) (by decide) (Nat.le_of_ble_eq_true rfl) (Nat.le_of_ble_eq_true rfl) dX1_init_52 (fun q6 H HW => ?_)
  have HW : Hw D A s [(h, .inr (1, [.int (0 : Int32), .ref q1, .ref q2, .ref q3, .ref q4, .ref q5, .null, .null, .null])), (q1, .inl (cI, 8, .inl (fun _ => (0 : Int32)))), (q2, .inl (cI, 8, .inl (fun _ => (0 : Int32)))), (q3, .inl (cI, 8, .inl (fun _ => (0 : Int32)))), (q4, .inl (cI, 8, .inl (fun _ => (0 : Int32)))), (q5, .inl (cI, 8, .inl (fun _ => (0 : Int32)))), (q6, .inl (cI, 8, .inl (fun _ => (0 : Int32))))] H locs := HW
  refine W.widen (k := 6) (n := 48) (Nat.le_of_ble_eq_true rfl) (Nat.le_of_ble_eq_true rfl) ?_
  refine g_putF CX hin HW in_X1_init_1 tyX1 tyX1_ok nmX1 0 6 rfl rfl (Nat.le_of_ble_eq_true rfl) fl_X1_init_31 rfl rfl rfl rfl (Nat.le_of_ble_eq_true rfl) dX1_init_54 (fun H locs HW => ?_)
  have HW : Hw D A s [(h, .inr (1, [.int (0 : Int32), .ref q1, .ref q2, .ref q3, .ref q4, .ref q5, .ref q6, .null, .null])), (q1, .inl (cI, 8, .inl (fun _ => (0 : Int32)))), (q2, .inl (cI, 8, .inl (fun _ => (0 : Int32)))), (q3, .inl (cI, 8, .inl (fun _ => (0 : Int32)))), (q4, .inl (cI, 8, .inl (fun _ => (0 : Int32)))), (q5, .inl (cI, 8, .inl (fun _ => (0 : Int32)))), (q6, .inl (cI, 8, .inl (fun _ => (0 : Int32))))] H locs := HW
  refine lv_aload_n hx hb dX1_init_57 rfl (lv_at hl 0 rfl) ?_
  refine lv_bipush (v := 8) hx hb dX1_init_58 (by decide) ?_
  refine g_newa CX HW rfl ar_X1_init (n := 8) (N := 8) (by decide) (by decide) (by decide) (Nat.le_of_ble_eq_true rfl) (Nat.le_of_ble_eq_true rfl) dX1_init_60 (fun q7 H HW => ?_)
  have HW : Hw D A s [(h, .inr (1, [.int (0 : Int32), .ref q1, .ref q2, .ref q3, .ref q4, .ref q5, .ref q6, .null, .null])), (q1, .inl (cI, 8, .inl (fun _ => (0 : Int32)))), (q2, .inl (cI, 8, .inl (fun _ => (0 : Int32)))), (q3, .inl (cI, 8, .inl (fun _ => (0 : Int32)))), (q4, .inl (cI, 8, .inl (fun _ => (0 : Int32)))), (q5, .inl (cI, 8, .inl (fun _ => (0 : Int32)))), (q6, .inl (cI, 8, .inl (fun _ => (0 : Int32)))), (q7, .inl (cI, 8, .inl (fun _ => (0 : Int32))))] H locs := HW
  refine W.widen (k := 7) (n := 56) (Nat.le_of_ble_eq_true rfl) (Nat.le_of_ble_eq_true rfl) ?_
  refine g_putF CX hin HW in_X1_init_1 tyX1 tyX1_ok nmX1 0 7 rfl rfl (Nat.le_of_ble_eq_true rfl) fl_X1_init_34 rfl rfl rfl rfl (Nat.le_of_ble_eq_true rfl) dX1_init_62 (fun H locs HW => ?_)
  have HW : Hw D A s [(h, .inr (1, [.int (0 : Int32), .ref q1, .ref q2, .ref q3, .ref q4, .ref q5, .ref q6, .ref q7, .null])), (q1, .inl (cI, 8, .inl (fun _ => (0 : Int32)))), (q2, .inl (cI, 8, .inl (fun _ => (0 : Int32)))), (q3, .inl (cI, 8, .inl (fun _ => (0 : Int32)))), (q4, .inl (cI, 8, .inl (fun _ => (0 : Int32)))), (q5, .inl (cI, 8, .inl (fun _ => (0 : Int32)))), (q6, .inl (cI, 8, .inl (fun _ => (0 : Int32)))), (q7, .inl (cI, 8, .inl (fun _ => (0 : Int32))))] H locs := HW
  refine lv_aload_n hx hb dX1_init_65 rfl (lv_at hl 0 rfl) ?_
  refine lv_bipush (v := 8) hx hb dX1_init_66 (by decide) ?_
  refine g_newa CX HW rfl ar_X1_init (n := 8) (N := 8) (by decide) (by decide) (by decide) (Nat.le_of_ble_eq_true rfl) (Nat.le_of_ble_eq_true rfl) dX1_init_68 (fun q8 H HW => ?_)
  have HW : Hw D A s [(h, .inr (1, [.int (0 : Int32), .ref q1, .ref q2, .ref q3, .ref q4, .ref q5, .ref q6, .ref q7, .null])), (q1, .inl (cI, 8, .inl (fun _ => (0 : Int32)))), (q2, .inl (cI, 8, .inl (fun _ => (0 : Int32)))), (q3, .inl (cI, 8, .inl (fun _ => (0 : Int32)))), (q4, .inl (cI, 8, .inl (fun _ => (0 : Int32)))), (q5, .inl (cI, 8, .inl (fun _ => (0 : Int32)))), (q6, .inl (cI, 8, .inl (fun _ => (0 : Int32)))), (q7, .inl (cI, 8, .inl (fun _ => (0 : Int32)))), (q8, .inl (cI, 8, .inl (fun _ => (0 : Int32))))] H locs := HW
  refine W.widen (k := 8) (n := 64) (Nat.le_of_ble_eq_true rfl) (Nat.le_of_ble_eq_true rfl) ?_
  refine g_putF CX hin HW in_X1_init_1 tyX1 tyX1_ok nmX1 0 8 rfl rfl (Nat.le_of_ble_eq_true rfl) fl_X1_init_37 rfl rfl rfl rfl (Nat.le_of_ble_eq_true rfl) dX1_init_70 (fun H locs HW => ?_)
  have HW : Hw D A s [(h, .inr (1, [.int (0 : Int32), .ref q1, .ref q2, .ref q3, .ref q4, .ref q5, .ref q6, .ref q7, .ref q8])), (q1, .inl (cI, 8, .inl (fun _ => (0 : Int32)))), (q2, .inl (cI, 8, .inl (fun _ => (0 : Int32)))), (q3, .inl (cI, 8, .inl (fun _ => (0 : Int32)))), (q4, .inl (cI, 8, .inl (fun _ => (0 : Int32)))), (q5, .inl (cI, 8, .inl (fun _ => (0 : Int32)))), (q6, .inl (cI, 8, .inl (fun _ => (0 : Int32)))), (q7, .inl (cI, 8, .inl (fun _ => (0 : Int32)))), (q8, .inl (cI, 8, .inl (fun _ => (0 : Int32))))] H locs := HW
  exact g_vret CX HW rfl ⟨rfl, q1, q2, q3, q4, q5, q6, q7, q8, rfl⟩ dX1_init_73

theorem hd_X2_init : yX2_init.cls ≠ "java/lang/invoke/MethodHandle" ∧ yX2_init.cls ≠ "java/lang/invoke/VarHandle" ∧ (parseMethodDescriptor yX2_init.desc).map (fun d => d.parameters.length) = some 0 := by decide +kernel
theorem oi_X2_init : Cond.methodLink RX2 3 objectInit ∈ wsX2_init ∧ Cond.instanceMethod objectInit ∈ wsX2_init ∧ Cond.code objectInit ⟨#[0xb1]⟩ 1 none ∈ wsX2_init := ⟨by decide +kernel, by decide +kernel, by decide +kernel⟩
theorem fl_X2_init_9 : Cond.fieldLink RX2 9 (TX2 0).1 (TX2 0).2.1 (TX2 0).2.2.1 ∈ wsX2_init := by decide +kernel
theorem in_X2_init_2 : ∀ x ∈ u_ws RX2 TX2 7, x ∈ wsX2_init := by decide +kernel
theorem fl_X2_init_15 : Cond.fieldLink RX2 15 (TX2 1).1 (TX2 1).2.1 (TX2 1).2.2.1 ∈ wsX2_init := by decide +kernel
theorem ar_X2_init : Cond.arrayClass .int ∈ wsX2_init := by decide +kernel
theorem fl_X2_init_18 : Cond.fieldLink RX2 18 (TX2 2).1 (TX2 2).2.1 (TX2 2).2.2.1 ∈ wsX2_init := by decide +kernel
theorem fl_X2_init_22 : Cond.fieldLink RX2 22 (TX2 3).1 (TX2 3).2.1 (TX2 3).2.2.1 ∈ wsX2_init := by decide +kernel
theorem fl_X2_init_25 : Cond.fieldLink RX2 25 (TX2 4).1 (TX2 4).2.1 (TX2 4).2.2.1 ∈ wsX2_init := by decide +kernel
theorem nc_X2_init_28 : Cond.classLink RX2 28 RX0 ∈ wsX2_init := by decide +kernel
theorem ni_X2_init_X0 : Cond.instantiable RX0 5 ∈ wsX2_init := by decide +kernel
theorem nz_X2_init_X0 : Cond.initialized RX0 ∈ wsX2_init := by decide +kernel
theorem in_X2_init_0 : ∀ x ∈ u_ws RX0 TX0 5, x ∈ wsX2_init := by decide +kernel
theorem iz_X2_init_X0_init : Cond.initialized yX0_init.cls ∈ wsX2_init := by decide +kernel
theorem im_X2_init_X0_init : Cond.instanceMethod yX0_init ∈ wsX2_init := by decide +kernel
theorem fl_X2_init_31 : Cond.fieldLink RX2 31 (TX2 5).1 (TX2 5).2.1 (TX2 5).2.2.1 ∈ wsX2_init := by decide +kernel
theorem nc_X2_init_35 : Cond.classLink RX2 35 RX1 ∈ wsX2_init := by decide +kernel
theorem ni_X2_init_X1 : Cond.instantiable RX1 9 ∈ wsX2_init := by decide +kernel
theorem nz_X2_init_X1 : Cond.initialized RX1 ∈ wsX2_init := by decide +kernel
theorem in_X2_init_1 : ∀ x ∈ u_ws RX1 TX1 9, x ∈ wsX2_init := by decide +kernel
theorem iz_X2_init_X1_init : Cond.initialized yX1_init.cls ∈ wsX2_init := by decide +kernel
theorem im_X2_init_X1_init : Cond.instanceMethod yX1_init ∈ wsX2_init := by decide +kernel
theorem fl_X2_init_38 : Cond.fieldLink RX2 38 (TX2 6).1 (TX2 6).2.1 (TX2 6).2.2.1 ∈ wsX2_init := by decide +kernel
set_option maxRecDepth 100000 in
set_option maxHeartbeats 4000000 in
theorem c_X2_init {l : Launch} {D : va_G} {cI cL : ClassId} (h : Nat) : Ct l yX2_init wsX2_init { frames := 2, cells := 17, slots := 114, locals := 32 } D (ty2 cI cL) [.ref h] [(h, .inr (2, [.int (0 : Int32), .int (0 : Int32), .null, .null, .null, .null, .null]))] (fun v w' => v = none ∧ ∃ q1 q2 q3 q4 q5 q6 q7 q8 q9 q10 q11 q12 q13 q14 q15 q16 q17 : Nat, w' = [(h, .inr (2, [.int (0 : Int32), .int (0 : Int32), .ref q1, .ref q2, .ref q3, .ref q4, .ref q9])), (q1, .inl (cI, 6, .inl (upd (upd (upd (upd (upd (upd (fun _ => (0 : Int32)) 0 (1 : Int32)) 1 (1 : Int32)) 2 (1 : Int32)) 3 (1 : Int32)) 4 (1 : Int32)) 5 (1 : Int32)))), (q2, .inl (cI, 3, .inl (upd (upd (upd (fun _ => (0 : Int32)) 0 (2 : Int32)) 1 (2 : Int32)) 2 (2 : Int32)))), (q3, .inl (cI, 3, .inl (fun _ => (0 : Int32)))), (q4, .inr (0, [.int (0 : Int32), .ref q5, .ref q6, .ref q7, .ref q8])), (q5, .inl (cI, 6, .inl (fun _ => (0 : Int32)))), (q6, .inl (cI, 6, .inl (fun _ => (0 : Int32)))), (q7, .inl (cI, 6, .inl (fun _ => (0 : Int32)))), (q8, .inl (cI, 6, .inl (fun _ => (0 : Int32)))), (q9, .inr (1, [.int (0 : Int32), .ref q10, .ref q11, .ref q12, .ref q13, .ref q14, .ref q15, .ref q16, .ref q17])), (q10, .inl (cI, 8, .inl (fun _ => (0 : Int32)))), (q11, .inl (cI, 8, .inl (fun _ => (0 : Int32)))), (q12, .inl (cI, 8, .inl (fun _ => (0 : Int32)))), (q13, .inl (cI, 8, .inl (fun _ => (0 : Int32)))), (q14, .inl (cI, 8, .inl (fun _ => (0 : Int32)))), (q15, .inl (cI, 8, .inl (fun _ => (0 : Int32)))), (q16, .inl (cI, 8, .inl (fun _ => (0 : Int32)))), (q17, .inl (cI, 8, .inl (fun _ => (0 : Int32))))]) 17 114 := by
  refine Ct.of (cc := cX2_init) (maxL := 2) (ret := none) (by decide) rfl (Nat.le_of_ble_eq_true rfl) ?_
  intro p e s m below meth c A ls CX hin HW hl
  obtain ⟨hx, hb, hml, hr, hown, hts, hK, hA, hlk⟩ := id CX
  have hin : meth.name = "<init>" := hin
  have HW : Hw D A s [(h, .inr (2, [.int (0 : Int32), .int (0 : Int32), .null, .null, .null, .null, .null]))] s.heap [] := HW
  have hl : lv_has ls 2 [(0, .ref h)] := hl
  refine lv_aload_n hx hb dX2_init_0 rfl (lv_at hl 0 rfl) ?_
  refine W.objInit hx hb hown (hts _ oi_X2_init.1) (hts _ oi_X2_init.2.1) (hts _ oi_X2_init.2.2) rfl (by rw [hml]; exact hl.1) rfl dX2_init_1 (Nat.le_of_ble_eq_true rfl) (Nat.le_of_ble_eq_true rfl) ?_
  refine W.eq (g2 := F0 m 4 ls []) rfl ?_
  refine lv_aload_n hx hb dX2_init_4 rfl (lv_at hl 0 rfl) ?_
  refine lv_iconst (v := 0) hx hb dX2_init_5 (by decide) ?_
  refine g_put CX HW in_X2_init_2 tyX2 tyX2_ok nmX2 0 0 rfl rfl (Nat.le_of_ble_eq_true rfl) fl_X2_init_9 rfl rfl rfl (Nat.le_of_ble_eq_true rfl) dX2_init_6 (fun H locs HW => ?_)
  have HW : Hw D A s [(h, .inr (2, [.int (0 : Int32), .int (0 : Int32), .null, .null, .null, .null, .null]))] H locs := HW
  refine lv_aload_n hx hb dX2_init_9 rfl (lv_at hl 0 rfl) ?_
  refine lv_iconst (v := 0) hx hb dX2_init_10 (by decide) ?_
  refine g_put CX HW in_X2_init_2 tyX2 tyX2_ok nmX2 0 1 rfl rfl (Nat.le_of_ble_eq_true rfl) fl_X2_init_15 rfl rfl rfl (Nat.le_of_ble_eq_true rfl) dX2_init_11 (fun H locs HW => ?_)
  have HW : Hw D A s [(h, .inr (2, [.int (0 : Int32), .int (0 : Int32), .null, .null, .null, .null, .null]))] H locs := HW
  refine lv_aload_n hx hb dX2_init_14 rfl (lv_at hl 0 rfl) ?_
  refine lv_bipush (v := 6) hx hb dX2_init_15 (by decide) ?_
  refine g_newa CX HW rfl ar_X2_init (n := 6) (N := 6) (by decide) (by decide) (by decide) (Nat.le_of_ble_eq_true rfl) (Nat.le_of_ble_eq_true rfl) dX2_init_17 (fun q1 H HW => ?_)
  have HW : Hw D A s [(h, .inr (2, [.int (0 : Int32), .int (0 : Int32), .null, .null, .null, .null, .null])), (q1, .inl (cI, 6, .inl (fun _ => (0 : Int32))))] H locs := HW
  refine W.widen (k := 1) (n := 6) (Nat.le_of_ble_eq_true rfl) (Nat.le_of_ble_eq_true rfl) ?_
  refine g_putF CX hin HW in_X2_init_2 tyX2 tyX2_ok nmX2 0 2 rfl rfl (Nat.le_of_ble_eq_true rfl) fl_X2_init_18 rfl rfl rfl rfl (Nat.le_of_ble_eq_true rfl) dX2_init_19 (fun H locs HW => ?_)
  have HW : Hw D A s [(h, .inr (2, [.int (0 : Int32), .int (0 : Int32), .ref q1, .null, .null, .null, .null])), (q1, .inl (cI, 6, .inl (fun _ => (0 : Int32))))] H locs := HW
  refine lv_aload_n hx hb dX2_init_22 rfl (lv_at hl 0 rfl) ?_
  refine lv_iconst (v := 3) hx hb dX2_init_23 (by decide) ?_
  refine g_newa CX HW rfl ar_X2_init (n := 3) (N := 3) (by decide) (by decide) (by decide) (Nat.le_of_ble_eq_true rfl) (Nat.le_of_ble_eq_true rfl) dX2_init_24 (fun q2 H HW => ?_)
  have HW : Hw D A s [(h, .inr (2, [.int (0 : Int32), .int (0 : Int32), .ref q1, .null, .null, .null, .null])), (q1, .inl (cI, 6, .inl (fun _ => (0 : Int32)))), (q2, .inl (cI, 3, .inl (fun _ => (0 : Int32))))] H locs := HW
  refine W.widen (k := 2) (n := 9) (Nat.le_of_ble_eq_true rfl) (Nat.le_of_ble_eq_true rfl) ?_
  refine g_putF CX hin HW in_X2_init_2 tyX2 tyX2_ok nmX2 0 3 rfl rfl (Nat.le_of_ble_eq_true rfl) fl_X2_init_22 rfl rfl rfl rfl (Nat.le_of_ble_eq_true rfl) dX2_init_26 (fun H locs HW => ?_)
  have HW : Hw D A s [(h, .inr (2, [.int (0 : Int32), .int (0 : Int32), .ref q1, .ref q2, .null, .null, .null])), (q1, .inl (cI, 6, .inl (fun _ => (0 : Int32)))), (q2, .inl (cI, 3, .inl (fun _ => (0 : Int32))))] H locs := HW
  refine lv_aload_n hx hb dX2_init_29 rfl (lv_at hl 0 rfl) ?_
  refine lv_iconst (v := 3) hx hb dX2_init_30 (by decide) ?_
  refine g_newa CX HW rfl ar_X2_init (n := 3) (N := 3) (by decide) (by decide) (by decide) (Nat.le_of_ble_eq_true rfl) (Nat.le_of_ble_eq_true rfl) dX2_init_31 (fun q3 H HW => ?_)
  have HW : Hw D A s [(h, .inr (2, [.int (0 : Int32), .int (0 : Int32), .ref q1, .ref q2, .null, .null, .null])), (q1, .inl (cI, 6, .inl (fun _ => (0 : Int32)))), (q2, .inl (cI, 3, .inl (fun _ => (0 : Int32)))), (q3, .inl (cI, 3, .inl (fun _ => (0 : Int32))))] H locs := HW
  refine W.widen (k := 3) (n := 12) (Nat.le_of_ble_eq_true rfl) (Nat.le_of_ble_eq_true rfl) ?_
  refine g_putF CX hin HW in_X2_init_2 tyX2 tyX2_ok nmX2 0 4 rfl rfl (Nat.le_of_ble_eq_true rfl) fl_X2_init_25 rfl rfl rfl rfl (Nat.le_of_ble_eq_true rfl) dX2_init_33 (fun H locs HW => ?_)
  have HW : Hw D A s [(h, .inr (2, [.int (0 : Int32), .int (0 : Int32), .ref q1, .ref q2, .ref q3, .null, .null])), (q1, .inl (cI, 6, .inl (fun _ => (0 : Int32)))), (q2, .inl (cI, 3, .inl (fun _ => (0 : Int32)))), (q3, .inl (cI, 3, .inl (fun _ => (0 : Int32))))] H locs := HW
  refine lv_aload_n hx hb dX2_init_36 rfl (lv_at hl 0 rfl) ?_
  refine g_newc CX HW (ci := 0) (fs := [.int (0 : Int32), .null, .null, .null, .null]) in_X2_init_0 tyX0 tyX0_ok nc_X2_init_28 ni_X2_init_X0 nz_X2_init_X0 rfl (by intro j hj; rcases (show j = 0 ∨ j = 1 ∨ j = 2 ∨ j = 3 ∨ j = 4 by omega) with rfl | rfl | rfl | rfl | rfl <;> rfl) (Nat.le_of_ble_eq_true rfl) (Nat.le_of_ble_eq_true rfl) dX2_init_37 (fun q4 H HW => ?_)
  have HW : Hw D A s [(h, .inr (2, [.int (0 : Int32), .int (0 : Int32), .ref q1, .ref q2, .ref q3, .null, .null])), (q1, .inl (cI, 6, .inl (fun _ => (0 : Int32)))), (q2, .inl (cI, 3, .inl (fun _ => (0 : Int32)))), (q3, .inl (cI, 3, .inl (fun _ => (0 : Int32)))), (q4, .inr (0, [.int (0 : Int32), .null, .null, .null, .null]))] H locs := HW
  refine W.widen (k := 4) (n := 17) (Nat.le_of_ble_eq_true rfl) (Nat.le_of_ble_eq_true rfl) ?_
  refine lv_dup hx hb dX2_init_40 rfl ?_
  refine g_callIN (host := "PommelTows") CX HW hl.1 [(h, .inr (2, [.int (0 : Int32), .int (0 : Int32), .ref q1, .ref q2, .ref q3, .null, .null])), (q1, .inl (cI, 6, .inl (fun _ => (0 : Int32)))), (q2, .inl (cI, 3, .inl (fun _ => (0 : Int32)))), (q3, .inl (cI, 3, .inl (fun _ => (0 : Int32))))] [] (c_X0_init q4) rfl gX2_init_X0_init_n30 (by decide +kernel) iz_X2_init_X0_init im_X2_init_X0_init rfl rfl hd_X0_init ⟨rfl, rfl, (Nat.le_of_ble_eq_true rfl), (Nat.le_of_ble_eq_true rfl)⟩ ⟨(Nat.le_of_ble_eq_true rfl), (Nat.le_of_ble_eq_true rfl)⟩ rfl rfl (Nat.le_of_ble_eq_true rfl) dX2_init_41 (fun v w1 H locs hp HW => ?_)
  obtain ⟨rfl, q5, q6, q7, q8, rfl⟩ := hp
  have HW : Hw D A s [(h, .inr (2, [.int (0 : Int32), .int (0 : Int32), .ref q1, .ref q2, .ref q3, .null, .null])), (q1, .inl (cI, 6, .inl (fun _ => (0 : Int32)))), (q2, .inl (cI, 3, .inl (fun _ => (0 : Int32)))), (q3, .inl (cI, 3, .inl (fun _ => (0 : Int32)))), (q4, .inr (0, [.int (0 : Int32), .ref q5, .ref q6, .ref q7, .ref q8])), (q5, .inl (cI, 6, .inl (fun _ => (0 : Int32)))), (q6, .inl (cI, 6, .inl (fun _ => (0 : Int32)))), (q7, .inl (cI, 6, .inl (fun _ => (0 : Int32)))), (q8, .inl (cI, 6, .inl (fun _ => (0 : Int32))))] H locs := HW
  refine W.eq (g2 := F0 m 44 ls [.ref q4, .ref h]) rfl ?_
  refine W.widen (k := 8) (n := 41) (Nat.le_of_ble_eq_true rfl) (Nat.le_of_ble_eq_true rfl) ?_
  refine g_putF CX hin HW in_X2_init_2 tyX2 tyX2_ok nmX2 0 5 rfl rfl (Nat.le_of_ble_eq_true rfl) fl_X2_init_31 rfl rfl rfl rfl (Nat.le_of_ble_eq_true rfl) dX2_init_44 (fun H locs HW => ?_)
  have HW : Hw D A s [(h, .inr (2, [.int (0 : Int32), .int (0 : Int32), .ref q1, .ref q2, .ref q3, .ref q4, .null])), (q1, .inl (cI, 6, .inl (fun _ => (0 : Int32)))), (q2, .inl (cI, 3, .inl (fun _ => (0 : Int32)))), (q3, .inl (cI, 3, .inl (fun _ => (0 : Int32)))), (q4, .inr (0, [.int (0 : Int32), .ref q5, .ref q6, .ref q7, .ref q8])), (q5, .inl (cI, 6, .inl (fun _ => (0 : Int32)))), (q6, .inl (cI, 6, .inl (fun _ => (0 : Int32)))), (q7, .inl (cI, 6, .inl (fun _ => (0 : Int32)))), (q8, .inl (cI, 6, .inl (fun _ => (0 : Int32))))] H locs := HW
  refine lv_aload_n hx hb dX2_init_47 rfl (lv_at hl 0 rfl) ?_
  refine g_newc CX HW (ci := 1) (fs := [.int (0 : Int32), .null, .null, .null, .null, .null, .null, .null, .null]) in_X2_init_1 tyX1 tyX1_ok nc_X2_init_35 ni_X2_init_X1 nz_X2_init_X1 rfl (by intro j hj; rcases (show j = 0 ∨ j = 1 ∨ j = 2 ∨ j = 3 ∨ j = 4 ∨ j = 5 ∨ j = 6 ∨ j = 7 ∨ j = 8 by omega) with rfl | rfl | rfl | rfl | rfl | rfl | rfl | rfl | rfl <;> rfl) (Nat.le_of_ble_eq_true rfl) (Nat.le_of_ble_eq_true rfl) dX2_init_48 (fun q9 H HW => ?_)
  have HW : Hw D A s [(h, .inr (2, [.int (0 : Int32), .int (0 : Int32), .ref q1, .ref q2, .ref q3, .ref q4, .null])), (q1, .inl (cI, 6, .inl (fun _ => (0 : Int32)))), (q2, .inl (cI, 3, .inl (fun _ => (0 : Int32)))), (q3, .inl (cI, 3, .inl (fun _ => (0 : Int32)))), (q4, .inr (0, [.int (0 : Int32), .ref q5, .ref q6, .ref q7, .ref q8])), (q5, .inl (cI, 6, .inl (fun _ => (0 : Int32)))), (q6, .inl (cI, 6, .inl (fun _ => (0 : Int32)))), (q7, .inl (cI, 6, .inl (fun _ => (0 : Int32)))), (q8, .inl (cI, 6, .inl (fun _ => (0 : Int32)))), (q9, .inr (1, [.int (0 : Int32), .null, .null, .null, .null, .null, .null, .null, .null]))] H locs := HW
  refine W.widen (k := 9) (n := 50) (Nat.le_of_ble_eq_true rfl) (Nat.le_of_ble_eq_true rfl) ?_
  refine lv_dup hx hb dX2_init_51 rfl ?_
  refine g_callIN (host := "PommelTows") CX HW hl.1 [(h, .inr (2, [.int (0 : Int32), .int (0 : Int32), .ref q1, .ref q2, .ref q3, .ref q4, .null])), (q1, .inl (cI, 6, .inl (fun _ => (0 : Int32)))), (q2, .inl (cI, 3, .inl (fun _ => (0 : Int32)))), (q3, .inl (cI, 3, .inl (fun _ => (0 : Int32)))), (q4, .inr (0, [.int (0 : Int32), .ref q5, .ref q6, .ref q7, .ref q8])), (q5, .inl (cI, 6, .inl (fun _ => (0 : Int32)))), (q6, .inl (cI, 6, .inl (fun _ => (0 : Int32)))), (q7, .inl (cI, 6, .inl (fun _ => (0 : Int32)))), (q8, .inl (cI, 6, .inl (fun _ => (0 : Int32))))] [] (c_X1_init q9) rfl gX2_init_X1_init_n37 (by decide +kernel) iz_X2_init_X1_init im_X2_init_X1_init rfl rfl hd_X1_init ⟨rfl, rfl, (Nat.le_of_ble_eq_true rfl), (Nat.le_of_ble_eq_true rfl)⟩ ⟨(Nat.le_of_ble_eq_true rfl), (Nat.le_of_ble_eq_true rfl)⟩ rfl rfl (Nat.le_of_ble_eq_true rfl) dX2_init_52 (fun v w1 H locs hp HW => ?_)
  obtain ⟨rfl, q10, q11, q12, q13, q14, q15, q16, q17, rfl⟩ := hp
  have HW : Hw D A s [(h, .inr (2, [.int (0 : Int32), .int (0 : Int32), .ref q1, .ref q2, .ref q3, .ref q4, .null])), (q1, .inl (cI, 6, .inl (fun _ => (0 : Int32)))), (q2, .inl (cI, 3, .inl (fun _ => (0 : Int32)))), (q3, .inl (cI, 3, .inl (fun _ => (0 : Int32)))), (q4, .inr (0, [.int (0 : Int32), .ref q5, .ref q6, .ref q7, .ref q8])), (q5, .inl (cI, 6, .inl (fun _ => (0 : Int32)))), (q6, .inl (cI, 6, .inl (fun _ => (0 : Int32)))), (q7, .inl (cI, 6, .inl (fun _ => (0 : Int32)))), (q8, .inl (cI, 6, .inl (fun _ => (0 : Int32)))), (q9, .inr (1, [.int (0 : Int32), .ref q10, .ref q11, .ref q12, .ref q13, .ref q14, .ref q15, .ref q16, .ref q17])), (q10, .inl (cI, 8, .inl (fun _ => (0 : Int32)))), (q11, .inl (cI, 8, .inl (fun _ => (0 : Int32)))), (q12, .inl (cI, 8, .inl (fun _ => (0 : Int32)))), (q13, .inl (cI, 8, .inl (fun _ => (0 : Int32)))), (q14, .inl (cI, 8, .inl (fun _ => (0 : Int32)))), (q15, .inl (cI, 8, .inl (fun _ => (0 : Int32)))), (q16, .inl (cI, 8, .inl (fun _ => (0 : Int32)))), (q17, .inl (cI, 8, .inl (fun _ => (0 : Int32))))] H locs := HW
  refine W.eq (g2 := F0 m 55 ls [.ref q9, .ref h]) rfl ?_
  refine W.widen (k := 17) (n := 114) (Nat.le_of_ble_eq_true rfl) (Nat.le_of_ble_eq_true rfl) ?_
  refine g_putF CX hin HW in_X2_init_2 tyX2 tyX2_ok nmX2 0 6 rfl rfl (Nat.le_of_ble_eq_true rfl) fl_X2_init_38 rfl rfl rfl rfl (Nat.le_of_ble_eq_true rfl) dX2_init_55 (fun H locs HW => ?_)
  have HW : Hw D A s [(h, .inr (2, [.int (0 : Int32), .int (0 : Int32), .ref q1, .ref q2, .ref q3, .ref q4, .ref q9])), (q1, .inl (cI, 6, .inl (fun _ => (0 : Int32)))), (q2, .inl (cI, 3, .inl (fun _ => (0 : Int32)))), (q3, .inl (cI, 3, .inl (fun _ => (0 : Int32)))), (q4, .inr (0, [.int (0 : Int32), .ref q5, .ref q6, .ref q7, .ref q8])), (q5, .inl (cI, 6, .inl (fun _ => (0 : Int32)))), (q6, .inl (cI, 6, .inl (fun _ => (0 : Int32)))), (q7, .inl (cI, 6, .inl (fun _ => (0 : Int32)))), (q8, .inl (cI, 6, .inl (fun _ => (0 : Int32)))), (q9, .inr (1, [.int (0 : Int32), .ref q10, .ref q11, .ref q12, .ref q13, .ref q14, .ref q15, .ref q16, .ref q17])), (q10, .inl (cI, 8, .inl (fun _ => (0 : Int32)))), (q11, .inl (cI, 8, .inl (fun _ => (0 : Int32)))), (q12, .inl (cI, 8, .inl (fun _ => (0 : Int32)))), (q13, .inl (cI, 8, .inl (fun _ => (0 : Int32)))), (q14, .inl (cI, 8, .inl (fun _ => (0 : Int32)))), (q15, .inl (cI, 8, .inl (fun _ => (0 : Int32)))), (q16, .inl (cI, 8, .inl (fun _ => (0 : Int32)))), (q17, .inl (cI, 8, .inl (fun _ => (0 : Int32))))] H locs := HW
  refine lv_iconst (v := 0) hx hb dX2_init_58 (by decide) ?_
  refine lv_istore_n (lv' := [(1, .int (0 : Int32)), (0, .ref h)]) hx hb dX2_init_59 rfl hl (Nat.le_of_ble_eq_true rfl) rfl (fun ls hl => ?_)
  refine lv_iload_n hx hb dX2_init_60 rfl (lv_at hl 0 rfl) ?_
  refine lv_bipush (v := 6) hx hb dX2_init_61 (by decide) ?_
  refine lv_icmp_ge (tgt := 79) hx hb dX2_init_63 (by decide) (fun c9 => ?_) (fun c9 => ?_)
  · exact absurd c9 (by decide)
  refine lv_aload_n hx hb dX2_init_66 rfl (lv_at hl 1 rfl) ?_
  refine g_get CX HW in_X2_init_2 0 2 rfl rfl (Nat.le_of_ble_eq_true rfl) fl_X2_init_18 rfl dX2_init_67 ?_
  refine lv_iload_n hx hb dX2_init_70 rfl (lv_at hl 0 rfl) ?_
  refine lv_iconst (v := 1) hx hb dX2_init_71 (by decide) ?_
  refine g_ast CX HW 1 (k := 0) rfl rfl rfl (Nat.le_of_ble_eq_true rfl) (Nat.le_of_ble_eq_true rfl) dX2_init_72 (fun H locs HW => ?_)
  have HW : Hw D A s [(h, .inr (2, [.int (0 : Int32), .int (0 : Int32), .ref q1, .ref q2, .ref q3, .ref q4, .ref q9])), (q1, .inl (cI, 6, .inl (upd (fun _ => (0 : Int32)) 0 (1 : Int32)))), (q2, .inl (cI, 3, .inl (fun _ => (0 : Int32)))), (q3, .inl (cI, 3, .inl (fun _ => (0 : Int32)))), (q4, .inr (0, [.int (0 : Int32), .ref q5, .ref q6, .ref q7, .ref q8])), (q5, .inl (cI, 6, .inl (fun _ => (0 : Int32)))), (q6, .inl (cI, 6, .inl (fun _ => (0 : Int32)))), (q7, .inl (cI, 6, .inl (fun _ => (0 : Int32)))), (q8, .inl (cI, 6, .inl (fun _ => (0 : Int32)))), (q9, .inr (1, [.int (0 : Int32), .ref q10, .ref q11, .ref q12, .ref q13, .ref q14, .ref q15, .ref q16, .ref q17])), (q10, .inl (cI, 8, .inl (fun _ => (0 : Int32)))), (q11, .inl (cI, 8, .inl (fun _ => (0 : Int32)))), (q12, .inl (cI, 8, .inl (fun _ => (0 : Int32)))), (q13, .inl (cI, 8, .inl (fun _ => (0 : Int32)))), (q14, .inl (cI, 8, .inl (fun _ => (0 : Int32)))), (q15, .inl (cI, 8, .inl (fun _ => (0 : Int32)))), (q16, .inl (cI, 8, .inl (fun _ => (0 : Int32)))), (q17, .inl (cI, 8, .inl (fun _ => (0 : Int32))))] H locs := HW
  refine lv_iinc (v := (1 : Int32)) (lv' := [(1, .int (1 : Int32)), (0, .ref h)]) hx hb dX2_init_73 hl (k := 0) rfl (by decide) (Nat.le_of_ble_eq_true rfl) rfl (fun ls hl => ?_)
  refine lv_goto (tgt := 60) hx hb dX2_init_76 (by decide) ?_
  refine lv_iload_n hx hb dX2_init_60 rfl (lv_at hl 0 rfl) ?_
  refine lv_bipush (v := 6) hx hb dX2_init_61 (by decide) ?_
  refine lv_icmp_ge (tgt := 79) hx hb dX2_init_63 (by decide) (fun c9 => ?_) (fun c9 => ?_)
  · exact absurd c9 (by decide)
  refine lv_aload_n hx hb dX2_init_66 rfl (lv_at hl 1 rfl) ?_
  refine g_get CX HW in_X2_init_2 0 2 rfl rfl (Nat.le_of_ble_eq_true rfl) fl_X2_init_18 rfl dX2_init_67 ?_
  refine lv_iload_n hx hb dX2_init_70 rfl (lv_at hl 0 rfl) ?_
  refine lv_iconst (v := 1) hx hb dX2_init_71 (by decide) ?_
  refine g_ast CX HW 1 (k := 1) rfl rfl rfl (Nat.le_of_ble_eq_true rfl) (Nat.le_of_ble_eq_true rfl) dX2_init_72 (fun H locs HW => ?_)
  have HW : Hw D A s [(h, .inr (2, [.int (0 : Int32), .int (0 : Int32), .ref q1, .ref q2, .ref q3, .ref q4, .ref q9])), (q1, .inl (cI, 6, .inl (upd (upd (fun _ => (0 : Int32)) 0 (1 : Int32)) 1 (1 : Int32)))), (q2, .inl (cI, 3, .inl (fun _ => (0 : Int32)))), (q3, .inl (cI, 3, .inl (fun _ => (0 : Int32)))), (q4, .inr (0, [.int (0 : Int32), .ref q5, .ref q6, .ref q7, .ref q8])), (q5, .inl (cI, 6, .inl (fun _ => (0 : Int32)))), (q6, .inl (cI, 6, .inl (fun _ => (0 : Int32)))), (q7, .inl (cI, 6, .inl (fun _ => (0 : Int32)))), (q8, .inl (cI, 6, .inl (fun _ => (0 : Int32)))), (q9, .inr (1, [.int (0 : Int32), .ref q10, .ref q11, .ref q12, .ref q13, .ref q14, .ref q15, .ref q16, .ref q17])), (q10, .inl (cI, 8, .inl (fun _ => (0 : Int32)))), (q11, .inl (cI, 8, .inl (fun _ => (0 : Int32)))), (q12, .inl (cI, 8, .inl (fun _ => (0 : Int32)))), (q13, .inl (cI, 8, .inl (fun _ => (0 : Int32)))), (q14, .inl (cI, 8, .inl (fun _ => (0 : Int32)))), (q15, .inl (cI, 8, .inl (fun _ => (0 : Int32)))), (q16, .inl (cI, 8, .inl (fun _ => (0 : Int32)))), (q17, .inl (cI, 8, .inl (fun _ => (0 : Int32))))] H locs := HW
  refine lv_iinc (v := (2 : Int32)) (lv' := [(1, .int (2 : Int32)), (0, .ref h)]) hx hb dX2_init_73 hl (k := 0) rfl (by decide) (Nat.le_of_ble_eq_true rfl) rfl (fun ls hl => ?_)
  refine lv_goto (tgt := 60) hx hb dX2_init_76 (by decide) ?_
  refine lv_iload_n hx hb dX2_init_60 rfl (lv_at hl 0 rfl) ?_
  refine lv_bipush (v := 6) hx hb dX2_init_61 (by decide) ?_
  refine lv_icmp_ge (tgt := 79) hx hb dX2_init_63 (by decide) (fun c9 => ?_) (fun c9 => ?_)
  · exact absurd c9 (by decide)
  refine lv_aload_n hx hb dX2_init_66 rfl (lv_at hl 1 rfl) ?_
  refine g_get CX HW in_X2_init_2 0 2 rfl rfl (Nat.le_of_ble_eq_true rfl) fl_X2_init_18 rfl dX2_init_67 ?_
  refine lv_iload_n hx hb dX2_init_70 rfl (lv_at hl 0 rfl) ?_
  refine lv_iconst (v := 1) hx hb dX2_init_71 (by decide) ?_
  refine g_ast CX HW 1 (k := 2) rfl rfl rfl (Nat.le_of_ble_eq_true rfl) (Nat.le_of_ble_eq_true rfl) dX2_init_72 (fun H locs HW => ?_)
  have HW : Hw D A s [(h, .inr (2, [.int (0 : Int32), .int (0 : Int32), .ref q1, .ref q2, .ref q3, .ref q4, .ref q9])), (q1, .inl (cI, 6, .inl (upd (upd (upd (fun _ => (0 : Int32)) 0 (1 : Int32)) 1 (1 : Int32)) 2 (1 : Int32)))), (q2, .inl (cI, 3, .inl (fun _ => (0 : Int32)))), (q3, .inl (cI, 3, .inl (fun _ => (0 : Int32)))), (q4, .inr (0, [.int (0 : Int32), .ref q5, .ref q6, .ref q7, .ref q8])), (q5, .inl (cI, 6, .inl (fun _ => (0 : Int32)))), (q6, .inl (cI, 6, .inl (fun _ => (0 : Int32)))), (q7, .inl (cI, 6, .inl (fun _ => (0 : Int32)))), (q8, .inl (cI, 6, .inl (fun _ => (0 : Int32)))), (q9, .inr (1, [.int (0 : Int32), .ref q10, .ref q11, .ref q12, .ref q13, .ref q14, .ref q15, .ref q16, .ref q17])), (q10, .inl (cI, 8, .inl (fun _ => (0 : Int32)))), (q11, .inl (cI, 8, .inl (fun _ => (0 : Int32)))), (q12, .inl (cI, 8, .inl (fun _ => (0 : Int32)))), (q13, .inl (cI, 8, .inl (fun _ => (0 : Int32)))), (q14, .inl (cI, 8, .inl (fun _ => (0 : Int32)))), (q15, .inl (cI, 8, .inl (fun _ => (0 : Int32)))), (q16, .inl (cI, 8, .inl (fun _ => (0 : Int32)))), (q17, .inl (cI, 8, .inl (fun _ => (0 : Int32))))] H locs := HW
  refine lv_iinc (v := (3 : Int32)) (lv' := [(1, .int (3 : Int32)), (0, .ref h)]) hx hb dX2_init_73 hl (k := 0) rfl (by decide) (Nat.le_of_ble_eq_true rfl) rfl (fun ls hl => ?_)
  refine lv_goto (tgt := 60) hx hb dX2_init_76 (by decide) ?_
  refine lv_iload_n hx hb dX2_init_60 rfl (lv_at hl 0 rfl) ?_
  refine lv_bipush (v := 6) hx hb dX2_init_61 (by decide) ?_
  refine lv_icmp_ge (tgt := 79) hx hb dX2_init_63 (by decide) (fun c9 => ?_) (fun c9 => ?_)
  · exact absurd c9 (by decide)
  refine lv_aload_n hx hb dX2_init_66 rfl (lv_at hl 1 rfl) ?_
  refine g_get CX HW in_X2_init_2 0 2 rfl rfl (Nat.le_of_ble_eq_true rfl) fl_X2_init_18 rfl dX2_init_67 ?_
  refine lv_iload_n hx hb dX2_init_70 rfl (lv_at hl 0 rfl) ?_
  refine lv_iconst (v := 1) hx hb dX2_init_71 (by decide) ?_
  refine g_ast CX HW 1 (k := 3) rfl rfl rfl (Nat.le_of_ble_eq_true rfl) (Nat.le_of_ble_eq_true rfl) dX2_init_72 (fun H locs HW => ?_)
  have HW : Hw D A s [(h, .inr (2, [.int (0 : Int32), .int (0 : Int32), .ref q1, .ref q2, .ref q3, .ref q4, .ref q9])), (q1, .inl (cI, 6, .inl (upd (upd (upd (upd (fun _ => (0 : Int32)) 0 (1 : Int32)) 1 (1 : Int32)) 2 (1 : Int32)) 3 (1 : Int32)))), (q2, .inl (cI, 3, .inl (fun _ => (0 : Int32)))), (q3, .inl (cI, 3, .inl (fun _ => (0 : Int32)))), (q4, .inr (0, [.int (0 : Int32), .ref q5, .ref q6, .ref q7, .ref q8])), (q5, .inl (cI, 6, .inl (fun _ => (0 : Int32)))), (q6, .inl (cI, 6, .inl (fun _ => (0 : Int32)))), (q7, .inl (cI, 6, .inl (fun _ => (0 : Int32)))), (q8, .inl (cI, 6, .inl (fun _ => (0 : Int32)))), (q9, .inr (1, [.int (0 : Int32), .ref q10, .ref q11, .ref q12, .ref q13, .ref q14, .ref q15, .ref q16, .ref q17])), (q10, .inl (cI, 8, .inl (fun _ => (0 : Int32)))), (q11, .inl (cI, 8, .inl (fun _ => (0 : Int32)))), (q12, .inl (cI, 8, .inl (fun _ => (0 : Int32)))), (q13, .inl (cI, 8, .inl (fun _ => (0 : Int32)))), (q14, .inl (cI, 8, .inl (fun _ => (0 : Int32)))), (q15, .inl (cI, 8, .inl (fun _ => (0 : Int32)))), (q16, .inl (cI, 8, .inl (fun _ => (0 : Int32)))), (q17, .inl (cI, 8, .inl (fun _ => (0 : Int32))))] H locs := HW
  refine lv_iinc (v := (4 : Int32)) (lv' := [(1, .int (4 : Int32)), (0, .ref h)]) hx hb dX2_init_73 hl (k := 0) rfl (by decide) (Nat.le_of_ble_eq_true rfl) rfl (fun ls hl => ?_)
  refine lv_goto (tgt := 60) hx hb dX2_init_76 (by decide) ?_
  refine lv_iload_n hx hb dX2_init_60 rfl (lv_at hl 0 rfl) ?_
  refine lv_bipush (v := 6) hx hb dX2_init_61 (by decide) ?_
  refine lv_icmp_ge (tgt := 79) hx hb dX2_init_63 (by decide) (fun c9 => ?_) (fun c9 => ?_)
  · exact absurd c9 (by decide)
  refine lv_aload_n hx hb dX2_init_66 rfl (lv_at hl 1 rfl) ?_
  refine g_get CX HW in_X2_init_2 0 2 rfl rfl (Nat.le_of_ble_eq_true rfl) fl_X2_init_18 rfl dX2_init_67 ?_
  refine lv_iload_n hx hb dX2_init_70 rfl (lv_at hl 0 rfl) ?_
  refine lv_iconst (v := 1) hx hb dX2_init_71 (by decide) ?_
  refine g_ast CX HW 1 (k := 4) rfl rfl rfl (Nat.le_of_ble_eq_true rfl) (Nat.le_of_ble_eq_true rfl) dX2_init_72 (fun H locs HW => ?_)
  have HW : Hw D A s [(h, .inr (2, [.int (0 : Int32), .int (0 : Int32), .ref q1, .ref q2, .ref q3, .ref q4, .ref q9])), (q1, .inl (cI, 6, .inl (upd (upd (upd (upd (upd (fun _ => (0 : Int32)) 0 (1 : Int32)) 1 (1 : Int32)) 2 (1 : Int32)) 3 (1 : Int32)) 4 (1 : Int32)))), (q2, .inl (cI, 3, .inl (fun _ => (0 : Int32)))), (q3, .inl (cI, 3, .inl (fun _ => (0 : Int32)))), (q4, .inr (0, [.int (0 : Int32), .ref q5, .ref q6, .ref q7, .ref q8])), (q5, .inl (cI, 6, .inl (fun _ => (0 : Int32)))), (q6, .inl (cI, 6, .inl (fun _ => (0 : Int32)))), (q7, .inl (cI, 6, .inl (fun _ => (0 : Int32)))), (q8, .inl (cI, 6, .inl (fun _ => (0 : Int32)))), (q9, .inr (1, [.int (0 : Int32), .ref q10, .ref q11, .ref q12, .ref q13, .ref q14, .ref q15, .ref q16, .ref q17])), (q10, .inl (cI, 8, .inl (fun _ => (0 : Int32)))), (q11, .inl (cI, 8, .inl (fun _ => (0 : Int32)))), (q12, .inl (cI, 8, .inl (fun _ => (0 : Int32)))), (q13, .inl (cI, 8, .inl (fun _ => (0 : Int32)))), (q14, .inl (cI, 8, .inl (fun _ => (0 : Int32)))), (q15, .inl (cI, 8, .inl (fun _ => (0 : Int32)))), (q16, .inl (cI, 8, .inl (fun _ => (0 : Int32)))), (q17, .inl (cI, 8, .inl (fun _ => (0 : Int32))))] H locs := HW
  refine lv_iinc (v := (5 : Int32)) (lv' := [(1, .int (5 : Int32)), (0, .ref h)]) hx hb dX2_init_73 hl (k := 0) rfl (by decide) (Nat.le_of_ble_eq_true rfl) rfl (fun ls hl => ?_)
  refine lv_goto (tgt := 60) hx hb dX2_init_76 (by decide) ?_
  refine lv_iload_n hx hb dX2_init_60 rfl (lv_at hl 0 rfl) ?_
  refine lv_bipush (v := 6) hx hb dX2_init_61 (by decide) ?_
  refine lv_icmp_ge (tgt := 79) hx hb dX2_init_63 (by decide) (fun c9 => ?_) (fun c9 => ?_)
  · exact absurd c9 (by decide)
  refine lv_aload_n hx hb dX2_init_66 rfl (lv_at hl 1 rfl) ?_
  refine g_get CX HW in_X2_init_2 0 2 rfl rfl (Nat.le_of_ble_eq_true rfl) fl_X2_init_18 rfl dX2_init_67 ?_
  refine lv_iload_n hx hb dX2_init_70 rfl (lv_at hl 0 rfl) ?_
  refine lv_iconst (v := 1) hx hb dX2_init_71 (by decide) ?_
  refine g_ast CX HW 1 (k := 5) rfl rfl rfl (Nat.le_of_ble_eq_true rfl) (Nat.le_of_ble_eq_true rfl) dX2_init_72 (fun H locs HW => ?_)
  have HW : Hw D A s [(h, .inr (2, [.int (0 : Int32), .int (0 : Int32), .ref q1, .ref q2, .ref q3, .ref q4, .ref q9])), (q1, .inl (cI, 6, .inl (upd (upd (upd (upd (upd (upd (fun _ => (0 : Int32)) 0 (1 : Int32)) 1 (1 : Int32)) 2 (1 : Int32)) 3 (1 : Int32)) 4 (1 : Int32)) 5 (1 : Int32)))), (q2, .inl (cI, 3, .inl (fun _ => (0 : Int32)))), (q3, .inl (cI, 3, .inl (fun _ => (0 : Int32)))), (q4, .inr (0, [.int (0 : Int32), .ref q5, .ref q6, .ref q7, .ref q8])), (q5, .inl (cI, 6, .inl (fun _ => (0 : Int32)))), (q6, .inl (cI, 6, .inl (fun _ => (0 : Int32)))), (q7, .inl (cI, 6, .inl (fun _ => (0 : Int32)))), (q8, .inl (cI, 6, .inl (fun _ => (0 : Int32)))), (q9, .inr (1, [.int (0 : Int32), .ref q10, .ref q11, .ref q12, .ref q13, .ref q14, .ref q15, .ref q16, .ref q17])), (q10, .inl (cI, 8, .inl (fun _ => (0 : Int32)))), (q11, .inl (cI, 8, .inl (fun _ => (0 : Int32)))), (q12, .inl (cI, 8, .inl (fun _ => (0 : Int32)))), (q13, .inl (cI, 8, .inl (fun _ => (0 : Int32)))), (q14, .inl (cI, 8, .inl (fun _ => (0 : Int32)))), (q15, .inl (cI, 8, .inl (fun _ => (0 : Int32)))), (q16, .inl (cI, 8, .inl (fun _ => (0 : Int32)))), (q17, .inl (cI, 8, .inl (fun _ => (0 : Int32))))] H locs := HW
  refine lv_iinc (v := (6 : Int32)) (lv' := [(1, .int (6 : Int32)), (0, .ref h)]) hx hb dX2_init_73 hl (k := 0) rfl (by decide) (Nat.le_of_ble_eq_true rfl) rfl (fun ls hl => ?_)
  refine lv_goto (tgt := 60) hx hb dX2_init_76 (by decide) ?_
  refine lv_iload_n hx hb dX2_init_60 rfl (lv_at hl 0 rfl) ?_
  refine lv_bipush (v := 6) hx hb dX2_init_61 (by decide) ?_
  refine lv_icmp_ge (tgt := 79) hx hb dX2_init_63 (by decide) (fun c9 => ?_) (fun c9 => ?_)
  rotate_left
  · exact absurd c9 (by decide)
  refine lv_iconst (v := 0) hx hb dX2_init_79 (by decide) ?_
  refine lv_istore_n (lv' := [(1, .int (0 : Int32)), (0, .ref h)]) hx hb dX2_init_80 rfl hl (Nat.le_of_ble_eq_true rfl) rfl (fun ls hl => ?_)
  refine lv_iload_n hx hb dX2_init_81 rfl (lv_at hl 0 rfl) ?_
  refine lv_iconst (v := 3) hx hb dX2_init_82 (by decide) ?_
  refine lv_icmp_ge (tgt := 99) hx hb dX2_init_83 (by decide) (fun c9 => ?_) (fun c9 => ?_)
  · exact absurd c9 (by decide)
  refine lv_aload_n hx hb dX2_init_86 rfl (lv_at hl 1 rfl) ?_
  refine g_get CX HW in_X2_init_2 0 3 rfl rfl (Nat.le_of_ble_eq_true rfl) fl_X2_init_22 rfl dX2_init_87 ?_
  refine lv_iload_n hx hb dX2_init_90 rfl (lv_at hl 0 rfl) ?_
  refine lv_iconst (v := 2) hx hb dX2_init_91 (by decide) ?_
  refine g_ast CX HW 2 (k := 0) rfl rfl rfl (Nat.le_of_ble_eq_true rfl) (Nat.le_of_ble_eq_true rfl) dX2_init_92 (fun H locs HW => ?_)
  have HW : Hw D A s [(h, .inr (2, [.int (0 : Int32), .int (0 : Int32), .ref q1, .ref q2, .ref q3, .ref q4, .ref q9])), (q1, .inl (cI, 6, .inl (upd (upd (upd (upd (upd (upd (fun _ => (0 : Int32)) 0 (1 : Int32)) 1 (1 : Int32)) 2 (1 : Int32)) 3 (1 : Int32)) 4 (1 : Int32)) 5 (1 : Int32)))), (q2, .inl (cI, 3, .inl (upd (fun _ => (0 : Int32)) 0 (2 : Int32)))), (q3, .inl (cI, 3, .inl (fun _ => (0 : Int32)))), (q4, .inr (0, [.int (0 : Int32), .ref q5, .ref q6, .ref q7, .ref q8])), (q5, .inl (cI, 6, .inl (fun _ => (0 : Int32)))), (q6, .inl (cI, 6, .inl (fun _ => (0 : Int32)))), (q7, .inl (cI, 6, .inl (fun _ => (0 : Int32)))), (q8, .inl (cI, 6, .inl (fun _ => (0 : Int32)))), (q9, .inr (1, [.int (0 : Int32), .ref q10, .ref q11, .ref q12, .ref q13, .ref q14, .ref q15, .ref q16, .ref q17])), (q10, .inl (cI, 8, .inl (fun _ => (0 : Int32)))), (q11, .inl (cI, 8, .inl (fun _ => (0 : Int32)))), (q12, .inl (cI, 8, .inl (fun _ => (0 : Int32)))), (q13, .inl (cI, 8, .inl (fun _ => (0 : Int32)))), (q14, .inl (cI, 8, .inl (fun _ => (0 : Int32)))), (q15, .inl (cI, 8, .inl (fun _ => (0 : Int32)))), (q16, .inl (cI, 8, .inl (fun _ => (0 : Int32)))), (q17, .inl (cI, 8, .inl (fun _ => (0 : Int32))))] H locs := HW
  refine lv_iinc (v := (1 : Int32)) (lv' := [(1, .int (1 : Int32)), (0, .ref h)]) hx hb dX2_init_93 hl (k := 0) rfl (by decide) (Nat.le_of_ble_eq_true rfl) rfl (fun ls hl => ?_)
  refine lv_goto (tgt := 81) hx hb dX2_init_96 (by decide) ?_
  refine lv_iload_n hx hb dX2_init_81 rfl (lv_at hl 0 rfl) ?_
  refine lv_iconst (v := 3) hx hb dX2_init_82 (by decide) ?_
  refine lv_icmp_ge (tgt := 99) hx hb dX2_init_83 (by decide) (fun c9 => ?_) (fun c9 => ?_)
  · exact absurd c9 (by decide)
  refine lv_aload_n hx hb dX2_init_86 rfl (lv_at hl 1 rfl) ?_
  refine g_get CX HW in_X2_init_2 0 3 rfl rfl (Nat.le_of_ble_eq_true rfl) fl_X2_init_22 rfl dX2_init_87 ?_
  refine lv_iload_n hx hb dX2_init_90 rfl (lv_at hl 0 rfl) ?_
  refine lv_iconst (v := 2) hx hb dX2_init_91 (by decide) ?_
  refine g_ast CX HW 2 (k := 1) rfl rfl rfl (Nat.le_of_ble_eq_true rfl) (Nat.le_of_ble_eq_true rfl) dX2_init_92 (fun H locs HW => ?_)
  have HW : Hw D A s [(h, .inr (2, [.int (0 : Int32), .int (0 : Int32), .ref q1, .ref q2, .ref q3, .ref q4, .ref q9])), (q1, .inl (cI, 6, .inl (upd (upd (upd (upd (upd (upd (fun _ => (0 : Int32)) 0 (1 : Int32)) 1 (1 : Int32)) 2 (1 : Int32)) 3 (1 : Int32)) 4 (1 : Int32)) 5 (1 : Int32)))), (q2, .inl (cI, 3, .inl (upd (upd (fun _ => (0 : Int32)) 0 (2 : Int32)) 1 (2 : Int32)))), (q3, .inl (cI, 3, .inl (fun _ => (0 : Int32)))), (q4, .inr (0, [.int (0 : Int32), .ref q5, .ref q6, .ref q7, .ref q8])), (q5, .inl (cI, 6, .inl (fun _ => (0 : Int32)))), (q6, .inl (cI, 6, .inl (fun _ => (0 : Int32)))), (q7, .inl (cI, 6, .inl (fun _ => (0 : Int32)))), (q8, .inl (cI, 6, .inl (fun _ => (0 : Int32)))), (q9, .inr (1, [.int (0 : Int32), .ref q10, .ref q11, .ref q12, .ref q13, .ref q14, .ref q15, .ref q16, .ref q17])), (q10, .inl (cI, 8, .inl (fun _ => (0 : Int32)))), (q11, .inl (cI, 8, .inl (fun _ => (0 : Int32)))), (q12, .inl (cI, 8, .inl (fun _ => (0 : Int32)))), (q13, .inl (cI, 8, .inl (fun _ => (0 : Int32)))), (q14, .inl (cI, 8, .inl (fun _ => (0 : Int32)))), (q15, .inl (cI, 8, .inl (fun _ => (0 : Int32)))), (q16, .inl (cI, 8, .inl (fun _ => (0 : Int32)))), (q17, .inl (cI, 8, .inl (fun _ => (0 : Int32))))] H locs := HW
  refine lv_iinc (v := (2 : Int32)) (lv' := [(1, .int (2 : Int32)), (0, .ref h)]) hx hb dX2_init_93 hl (k := 0) rfl (by decide) (Nat.le_of_ble_eq_true rfl) rfl (fun ls hl => ?_)
  refine lv_goto (tgt := 81) hx hb dX2_init_96 (by decide) ?_
  refine lv_iload_n hx hb dX2_init_81 rfl (lv_at hl 0 rfl) ?_
  refine lv_iconst (v := 3) hx hb dX2_init_82 (by decide) ?_
  refine lv_icmp_ge (tgt := 99) hx hb dX2_init_83 (by decide) (fun c9 => ?_) (fun c9 => ?_)
  · exact absurd c9 (by decide)
  refine lv_aload_n hx hb dX2_init_86 rfl (lv_at hl 1 rfl) ?_
  refine g_get CX HW in_X2_init_2 0 3 rfl rfl (Nat.le_of_ble_eq_true rfl) fl_X2_init_22 rfl dX2_init_87 ?_
  refine lv_iload_n hx hb dX2_init_90 rfl (lv_at hl 0 rfl) ?_
  refine lv_iconst (v := 2) hx hb dX2_init_91 (by decide) ?_
  refine g_ast CX HW 2 (k := 2) rfl rfl rfl (Nat.le_of_ble_eq_true rfl) (Nat.le_of_ble_eq_true rfl) dX2_init_92 (fun H locs HW => ?_)
  have HW : Hw D A s [(h, .inr (2, [.int (0 : Int32), .int (0 : Int32), .ref q1, .ref q2, .ref q3, .ref q4, .ref q9])), (q1, .inl (cI, 6, .inl (upd (upd (upd (upd (upd (upd (fun _ => (0 : Int32)) 0 (1 : Int32)) 1 (1 : Int32)) 2 (1 : Int32)) 3 (1 : Int32)) 4 (1 : Int32)) 5 (1 : Int32)))), (q2, .inl (cI, 3, .inl (upd (upd (upd (fun _ => (0 : Int32)) 0 (2 : Int32)) 1 (2 : Int32)) 2 (2 : Int32)))), (q3, .inl (cI, 3, .inl (fun _ => (0 : Int32)))), (q4, .inr (0, [.int (0 : Int32), .ref q5, .ref q6, .ref q7, .ref q8])), (q5, .inl (cI, 6, .inl (fun _ => (0 : Int32)))), (q6, .inl (cI, 6, .inl (fun _ => (0 : Int32)))), (q7, .inl (cI, 6, .inl (fun _ => (0 : Int32)))), (q8, .inl (cI, 6, .inl (fun _ => (0 : Int32)))), (q9, .inr (1, [.int (0 : Int32), .ref q10, .ref q11, .ref q12, .ref q13, .ref q14, .ref q15, .ref q16, .ref q17])), (q10, .inl (cI, 8, .inl (fun _ => (0 : Int32)))), (q11, .inl (cI, 8, .inl (fun _ => (0 : Int32)))), (q12, .inl (cI, 8, .inl (fun _ => (0 : Int32)))), (q13, .inl (cI, 8, .inl (fun _ => (0 : Int32)))), (q14, .inl (cI, 8, .inl (fun _ => (0 : Int32)))), (q15, .inl (cI, 8, .inl (fun _ => (0 : Int32)))), (q16, .inl (cI, 8, .inl (fun _ => (0 : Int32)))), (q17, .inl (cI, 8, .inl (fun _ => (0 : Int32))))] H locs := HW
  refine lv_iinc (v := (3 : Int32)) (lv' := [(1, .int (3 : Int32)), (0, .ref h)]) hx hb dX2_init_93 hl (k := 0) rfl (by decide) (Nat.le_of_ble_eq_true rfl) rfl (fun ls hl => ?_)
  refine lv_goto (tgt := 81) hx hb dX2_init_96 (by decide) ?_
  refine lv_iload_n hx hb dX2_init_81 rfl (lv_at hl 0 rfl) ?_
  refine lv_iconst (v := 3) hx hb dX2_init_82 (by decide) ?_
  refine lv_icmp_ge (tgt := 99) hx hb dX2_init_83 (by decide) (fun c9 => ?_) (fun c9 => ?_)
  rotate_left
  · exact absurd c9 (by decide)
  exact g_vret CX HW rfl ⟨rfl, q1, q2, q3, q4, q5, q6, q7, q8, q9, q10, q11, q12, q13, q14, q15, q16, q17, rfl⟩ dX2_init_99

theorem hd_X3_init : yX3_init.cls ≠ "java/lang/invoke/MethodHandle" ∧ yX3_init.cls ≠ "java/lang/invoke/VarHandle" ∧ (parseMethodDescriptor yX3_init.desc).map (fun d => d.parameters.length) = some 0 := by decide +kernel
theorem oi_X3_init : Cond.methodLink RX3 1 objectInit ∈ wsX3_init ∧ Cond.instanceMethod objectInit ∈ wsX3_init ∧ Cond.code objectInit ⟨#[0xb1]⟩ 1 none ∈ wsX3_init := ⟨by decide +kernel, by decide +kernel, by decide +kernel⟩
theorem nc_X3_init_7 : Cond.classLink RX3 7 RX2 ∈ wsX3_init := by decide +kernel
theorem ni_X3_init_X2 : Cond.instantiable RX2 7 ∈ wsX3_init := by decide +kernel
theorem nz_X3_init_X2 : Cond.initialized RX2 ∈ wsX3_init := by decide +kernel
theorem in_X3_init_2 : ∀ x ∈ u_ws RX2 TX2 7, x ∈ wsX3_init := by decide +kernel
theorem iz_X3_init_X2_init : Cond.initialized yX2_init.cls ∈ wsX3_init := by decide +kernel
theorem im_X3_init_X2_init : Cond.instanceMethod yX2_init ∈ wsX3_init := by decide +kernel
theorem ml_X3_init_9 : Cond.methodLink RX3 9 yX2_init ∈ wsX3_init := by decide +kernel
theorem fl_X3_init_10 : Cond.fieldLink RX3 10 (TX3 0).1 (TX3 0).2.1 (TX3 0).2.2.1 ∈ wsX3_init := by decide +kernel
theorem in_X3_init_3 : ∀ x ∈ u_ws RX3 TX3 2, x ∈ wsX3_init := by decide +kernel
theorem fl_X3_init_16 : Cond.fieldLink RX3 16 (TX3 1).1 (TX3 1).2.1 (TX3 1).2.2.1 ∈ wsX3_init := by decide +kernel
set_option maxRecDepth 100000 in
set_option maxHeartbeats 4000000 in
theorem c_X3_init {l : Launch} {D : va_G} {cI cL : ClassId} (h : Nat) : Ct l yX3_init wsX3_init { frames := 3, cells := 36, slots := 242, locals := 53 } D (ty2 cI cL) [.ref h] [(h, .inr (3, [.null, .null]))] (fun v w' => v = none ∧ ∃ q1 q2 q3 q4 q5 q6 q7 q8 q9 q10 q11 q12 q13 q14 q15 q16 q17 q18 q19 q20 q21 q22 q23 q24 q25 q26 q27 q28 q29 q30 q31 q32 q33 q34 q35 q36 : Nat, w' = [(h, .inr (3, [.ref q1, .ref q19])), (q1, .inr (2, [.int (0 : Int32), .int (0 : Int32), .ref q2, .ref q3, .ref q4, .ref q5, .ref q10])), (q2, .inl (cI, 6, .inl (upd (upd (upd (upd (upd (upd (fun _ => (0 : Int32)) 0 (1 : Int32)) 1 (1 : Int32)) 2 (1 : Int32)) 3 (1 : Int32)) 4 (1 : Int32)) 5 (1 : Int32)))), (q3, .inl (cI, 3, .inl (upd (upd (upd (fun _ => (0 : Int32)) 0 (2 : Int32)) 1 (2 : Int32)) 2 (2 : Int32)))), (q4, .inl (cI, 3, .inl (fun _ => (0 : Int32)))), (q5, .inr (0, [.int (0 : Int32), .ref q6, .ref q7, .ref q8, .ref q9])), (q6, .inl (cI, 6, .inl (fun _ => (0 : Int32)))), (q7, .inl (cI, 6, .inl (fun _ => (0 : Int32)))), (q8, .inl (cI, 6, .inl (fun _ => (0 : Int32)))), (q9, .inl (cI, 6, .inl (fun _ => (0 : Int32)))), (q10, .inr (1, [.int (0 : Int32), .ref q11, .ref q12, .ref q13, .ref q14, .ref q15, .ref q16, .ref q17, .ref q18])), (q11, .inl (cI, 8, .inl (fun _ => (0 : Int32)))), (q12, .inl (cI, 8, .inl (fun _ => (0 : Int32)))), (q13, .inl (cI, 8, .inl (fun _ => (0 : Int32)))), (q14, .inl (cI, 8, .inl (fun _ => (0 : Int32)))), (q15, .inl (cI, 8, .inl (fun _ => (0 : Int32)))), (q16, .inl (cI, 8, .inl (fun _ => (0 : Int32)))), (q17, .inl (cI, 8, .inl (fun _ => (0 : Int32)))), (q18, .inl (cI, 8, .inl (fun _ => (0 : Int32)))), (q19, .inr (2, [.int (0 : Int32), .int (0 : Int32), .ref q20, .ref q21, .ref q22, .ref q23, .ref q28])), (q20, .inl (cI, 6, .inl (upd (upd (upd (upd (upd (upd (fun _ => (0 : Int32)) 0 (1 : Int32)) 1 (1 : Int32)) 2 (1 : Int32)) 3 (1 : Int32)) 4 (1 : Int32)) 5 (1 : Int32)))), (q21, .inl (cI, 3, .inl (upd (upd (upd (fun _ => (0 : Int32)) 0 (2 : Int32)) 1 (2 : Int32)) 2 (2 : Int32)))), (q22, .inl (cI, 3, .inl (fun _ => (0 : Int32)))), (q23, .inr (0, [.int (0 : Int32), .ref q24, .ref q25, .ref q26, .ref q27])), (q24, .inl (cI, 6, .inl (fun _ => (0 : Int32)))), (q25, .inl (cI, 6, .inl (fun _ => (0 : Int32)))), (q26, .inl (cI, 6, .inl (fun _ => (0 : Int32)))), (q27, .inl (cI, 6, .inl (fun _ => (0 : Int32)))), (q28, .inr (1, [.int (0 : Int32), .ref q29, .ref q30, .ref q31, .ref q32, .ref q33, .ref q34, .ref q35, .ref q36])), (q29, .inl (cI, 8, .inl (fun _ => (0 : Int32)))), (q30, .inl (cI, 8, .inl (fun _ => (0 : Int32)))), (q31, .inl (cI, 8, .inl (fun _ => (0 : Int32)))), (q32, .inl (cI, 8, .inl (fun _ => (0 : Int32)))), (q33, .inl (cI, 8, .inl (fun _ => (0 : Int32)))), (q34, .inl (cI, 8, .inl (fun _ => (0 : Int32)))), (q35, .inl (cI, 8, .inl (fun _ => (0 : Int32)))), (q36, .inl (cI, 8, .inl (fun _ => (0 : Int32))))]) 36 242 := by
  refine Ct.of (cc := cX3_init) (maxL := 1) (ret := none) (by decide) rfl (Nat.le_of_ble_eq_true rfl) ?_
  intro p e s m below meth c A ls CX hin HW hl
  obtain ⟨hx, hb, hml, hr, hown, hts, hK, hA, hlk⟩ := id CX
  have hin : meth.name = "<init>" := hin
  have HW : Hw D A s [(h, .inr (3, [.null, .null]))] s.heap [] := HW
  have hl : lv_has ls 1 [(0, .ref h)] := hl
  refine lv_aload_n hx hb dX3_init_0 rfl (lv_at hl 0 rfl) ?_
  refine W.objInit hx hb hown (hts _ oi_X3_init.1) (hts _ oi_X3_init.2.1) (hts _ oi_X3_init.2.2) rfl (by rw [hml]; exact hl.1) rfl dX3_init_1 (Nat.le_of_ble_eq_true rfl) (Nat.le_of_ble_eq_true rfl) ?_
  refine W.eq (g2 := F0 m 4 ls []) rfl ?_
  refine lv_aload_n hx hb dX3_init_4 rfl (lv_at hl 0 rfl) ?_
  refine g_newc CX HW (ci := 2) (fs := [.int (0 : Int32), .int (0 : Int32), .null, .null, .null, .null, .null]) in_X3_init_2 tyX2 tyX2_ok nc_X3_init_7 ni_X3_init_X2 nz_X3_init_X2 rfl (by intro j hj; rcases (show j = 0 ∨ j = 1 ∨ j = 2 ∨ j = 3 ∨ j = 4 ∨ j = 5 ∨ j = 6 by omega) with rfl | rfl | rfl | rfl | rfl | rfl | rfl <;> rfl) (Nat.le_of_ble_eq_true rfl) (Nat.le_of_ble_eq_true rfl) dX3_init_5 (fun q1 H HW => ?_)
  have HW : Hw D A s [(h, .inr (3, [.null, .null])), (q1, .inr (2, [.int (0 : Int32), .int (0 : Int32), .null, .null, .null, .null, .null]))] H [] := HW
  refine W.widen (k := 1) (n := 7) (Nat.le_of_ble_eq_true rfl) (Nat.le_of_ble_eq_true rfl) ?_
  refine lv_dup hx hb dX3_init_8 rfl ?_
  refine g_callI CX HW hl.1 [(h, .inr (3, [.null, .null]))] [] (c_X2_init q1) rfl gX3_init_X2_init ml_X3_init_9 iz_X3_init_X2_init im_X3_init_X2_init rfl rfl hd_X2_init ⟨rfl, rfl, (Nat.le_of_ble_eq_true rfl), (Nat.le_of_ble_eq_true rfl)⟩ ⟨(Nat.le_of_ble_eq_true rfl), (Nat.le_of_ble_eq_true rfl)⟩ rfl rfl (Nat.le_of_ble_eq_true rfl) dX3_init_9 (fun v w1 H locs hp HW => ?_)
  obtain ⟨rfl, q2, q3, q4, q5, q6, q7, q8, q9, q10, q11, q12, q13, q14, q15, q16, q17, q18, rfl⟩ := hp
  have HW : Hw D A s [(h, .inr (3, [.null, .null])), (q1, .inr (2, [.int (0 : Int32), .int (0 : Int32), .ref q2, .ref q3, .ref q4, .ref q5, .ref q10])), (q2, .inl (cI, 6, .inl (upd (upd (upd (upd (upd (upd (fun _ => (0 : Int32)) 0 (1 : Int32)) 1 (1 : Int32)) 2 (1 : Int32)) 3 (1 : Int32)) 4 (1 : Int32)) 5 (1 : Int32)))), (q3, .inl (cI, 3, .inl (upd (upd (upd (fun _ => (0 : Int32)) 0 (2 : Int32)) 1 (2 : Int32)) 2 (2 : Int32)))), (q4, .inl (cI, 3, .inl (fun _ => (0 : Int32)))), (q5, .inr (0, [.int (0 : Int32), .ref q6, .ref q7, .ref q8, .ref q9])), (q6, .inl (cI, 6, .inl (fun _ => (0 : Int32)))), (q7, .inl (cI, 6, .inl (fun _ => (0 : Int32)))), (q8, .inl (cI, 6, .inl (fun _ => (0 : Int32)))), (q9, .inl (cI, 6, .inl (fun _ => (0 : Int32)))), (q10, .inr (1, [.int (0 : Int32), .ref q11, .ref q12, .ref q13, .ref q14, .ref q15, .ref q16, .ref q17, .ref q18])), (q11, .inl (cI, 8, .inl (fun _ => (0 : Int32)))), (q12, .inl (cI, 8, .inl (fun _ => (0 : Int32)))), (q13, .inl (cI, 8, .inl (fun _ => (0 : Int32)))), (q14, .inl (cI, 8, .inl (fun _ => (0 : Int32)))), (q15, .inl (cI, 8, .inl (fun _ => (0 : Int32)))), (q16, .inl (cI, 8, .inl (fun _ => (0 : Int32)))), (q17, .inl (cI, 8, .inl (fun _ => (0 : Int32)))), (q18, .inl (cI, 8, .inl (fun _ => (0 : Int32))))] H locs := HW
  refine W.eq (g2 := F0 m 12 ls [.ref q1, .ref h]) rfl ?_
  refine W.widen (k := 18) (n := 121) (Nat.le_of_ble_eq_true rfl) (Nat.le_of_ble_eq_true rfl) ?_
  refine g_putF CX hin HW in_X3_init_3 tyX3 tyX3_ok nmX3 0 0 rfl rfl (Nat.le_of_ble_eq_true rfl) fl_X3_init_10 rfl rfl rfl rfl (Nat.le_of_ble_eq_true rfl) dX3_init_12 (fun H locs HW => ?_)
  have HW : Hw D A s [(h, .inr (3, [.ref q1, .null])), (q1, .inr (2, [.int (0 : Int32), .int (0 : Int32), .ref q2, .ref q3, .ref q4, .ref q5, .ref q10])), (q2, .inl (cI, 6, .inl (upd (upd (upd (upd (upd (upd (fun _ => (0 : Int32)) 0 (1 : Int32)) 1 (1 : Int32)) 2 (1 : Int32)) 3 (1 : Int32)) 4 (1 : Int32)) 5 (1 : Int32)))), (q3, .inl (cI, 3, .inl (upd (upd (upd (fun _ => (0 : Int32)) 0 (2 : Int32)) 1 (2 : Int32)) 2 (2 : Int32)))), (q4, .inl (cI, 3, .inl (fun _ => (0 : Int32)))), (q5, .inr (0, [.int (0 : Int32), .ref q6, .ref q7, .ref q8, .ref q9])), (q6, .inl (cI, 6, .inl (fun _ => (0 : Int32)))), (q7, .inl (cI, 6, .inl (fun _ => (0 : Int32)))), (q8, .inl (cI, 6, .inl (fun _ => (0 : Int32)))), (q9, .inl (cI, 6, .inl (fun _ => (0 : Int32)))), (q10, .inr (1, [.int (0 : Int32), .ref q11, .ref q12, .ref q13, .ref q14, .ref q15, .ref q16, .ref q17, .ref q18])), (q11, .inl (cI, 8, .inl (fun _ => (0 : Int32)))), (q12, .inl (cI, 8, .inl (fun _ => (0 : Int32)))), (q13, .inl (cI, 8, .inl (fun _ => (0 : Int32)))), (q14, .inl (cI, 8, .inl (fun _ => (0 : Int32)))), (q15, .inl (cI, 8, .inl (fun _ => (0 : Int32)))), (q16, .inl (cI, 8, .inl (fun _ => (0 : Int32)))), (q17, .inl (cI, 8, .inl (fun _ => (0 : Int32)))), (q18, .inl (cI, 8, .inl (fun _ => (0 : Int32))))] H locs := HW
  refine lv_aload_n hx hb dX3_init_15 rfl (lv_at hl 0 rfl) ?_
  refine g_newc CX HW (ci := 2) (fs := [.int (0 : Int32), .int (0 : Int32), .null, .null, .null, .null, .null]) in_X3_init_2 tyX2 tyX2_ok nc_X3_init_7 ni_X3_init_X2 nz_X3_init_X2 rfl (by intro j hj; rcases (show j = 0 ∨ j = 1 ∨ j = 2 ∨ j = 3 ∨ j = 4 ∨ j = 5 ∨ j = 6 by omega) with rfl | rfl | rfl | rfl | rfl | rfl | rfl <;> rfl) (Nat.le_of_ble_eq_true rfl) (Nat.le_of_ble_eq_true rfl) dX3_init_16 (fun q19 H HW => ?_)
  have HW : Hw D A s [(h, .inr (3, [.ref q1, .null])), (q1, .inr (2, [.int (0 : Int32), .int (0 : Int32), .ref q2, .ref q3, .ref q4, .ref q5, .ref q10])), (q2, .inl (cI, 6, .inl (upd (upd (upd (upd (upd (upd (fun _ => (0 : Int32)) 0 (1 : Int32)) 1 (1 : Int32)) 2 (1 : Int32)) 3 (1 : Int32)) 4 (1 : Int32)) 5 (1 : Int32)))), (q3, .inl (cI, 3, .inl (upd (upd (upd (fun _ => (0 : Int32)) 0 (2 : Int32)) 1 (2 : Int32)) 2 (2 : Int32)))), (q4, .inl (cI, 3, .inl (fun _ => (0 : Int32)))), (q5, .inr (0, [.int (0 : Int32), .ref q6, .ref q7, .ref q8, .ref q9])), (q6, .inl (cI, 6, .inl (fun _ => (0 : Int32)))), (q7, .inl (cI, 6, .inl (fun _ => (0 : Int32)))), (q8, .inl (cI, 6, .inl (fun _ => (0 : Int32)))), (q9, .inl (cI, 6, .inl (fun _ => (0 : Int32)))), (q10, .inr (1, [.int (0 : Int32), .ref q11, .ref q12, .ref q13, .ref q14, .ref q15, .ref q16, .ref q17, .ref q18])), (q11, .inl (cI, 8, .inl (fun _ => (0 : Int32)))), (q12, .inl (cI, 8, .inl (fun _ => (0 : Int32)))), (q13, .inl (cI, 8, .inl (fun _ => (0 : Int32)))), (q14, .inl (cI, 8, .inl (fun _ => (0 : Int32)))), (q15, .inl (cI, 8, .inl (fun _ => (0 : Int32)))), (q16, .inl (cI, 8, .inl (fun _ => (0 : Int32)))), (q17, .inl (cI, 8, .inl (fun _ => (0 : Int32)))), (q18, .inl (cI, 8, .inl (fun _ => (0 : Int32)))), (q19, .inr (2, [.int (0 : Int32), .int (0 : Int32), .null, .null, .null, .null, .null]))] H locs := HW
  refine W.widen (k := 19) (n := 128) (Nat.le_of_ble_eq_true rfl) (Nat.le_of_ble_eq_true rfl) ?_
  refine lv_dup hx hb dX3_init_19 rfl ?_
  refine g_callI CX HW hl.1 [(h, .inr (3, [.ref q1, .null])), (q1, .inr (2, [.int (0 : Int32), .int (0 : Int32), .ref q2, .ref q3, .ref q4, .ref q5, .ref q10])), (q2, .inl (cI, 6, .inl (upd (upd (upd (upd (upd (upd (fun _ => (0 : Int32)) 0 (1 : Int32)) 1 (1 : Int32)) 2 (1 : Int32)) 3 (1 : Int32)) 4 (1 : Int32)) 5 (1 : Int32)))), (q3, .inl (cI, 3, .inl (upd (upd (upd (fun _ => (0 : Int32)) 0 (2 : Int32)) 1 (2 : Int32)) 2 (2 : Int32)))), (q4, .inl (cI, 3, .inl (fun _ => (0 : Int32)))), (q5, .inr (0, [.int (0 : Int32), .ref q6, .ref q7, .ref q8, .ref q9])), (q6, .inl (cI, 6, .inl (fun _ => (0 : Int32)))), (q7, .inl (cI, 6, .inl (fun _ => (0 : Int32)))), (q8, .inl (cI, 6, .inl (fun _ => (0 : Int32)))), (q9, .inl (cI, 6, .inl (fun _ => (0 : Int32)))), (q10, .inr (1, [.int (0 : Int32), .ref q11, .ref q12, .ref q13, .ref q14, .ref q15, .ref q16, .ref q17, .ref q18])), (q11, .inl (cI, 8, .inl (fun _ => (0 : Int32)))), (q12, .inl (cI, 8, .inl (fun _ => (0 : Int32)))), (q13, .inl (cI, 8, .inl (fun _ => (0 : Int32)))), (q14, .inl (cI, 8, .inl (fun _ => (0 : Int32)))), (q15, .inl (cI, 8, .inl (fun _ => (0 : Int32)))), (q16, .inl (cI, 8, .inl (fun _ => (0 : Int32)))), (q17, .inl (cI, 8, .inl (fun _ => (0 : Int32)))), (q18, .inl (cI, 8, .inl (fun _ => (0 : Int32))))] [] (c_X2_init q19) rfl gX3_init_X2_init ml_X3_init_9 iz_X3_init_X2_init im_X3_init_X2_init rfl rfl hd_X2_init ⟨rfl, rfl, (Nat.le_of_ble_eq_true rfl), (Nat.le_of_ble_eq_true rfl)⟩ ⟨(Nat.le_of_ble_eq_true rfl), (Nat.le_of_ble_eq_true rfl)⟩ rfl rfl (Nat.le_of_ble_eq_true rfl) dX3_init_20 (fun v w1 H locs hp HW => ?_)
  obtain ⟨rfl, q20, q21, q22, q23, q24, q25, q26, q27, q28, q29, q30, q31, q32, q33, q34, q35, q36, rfl⟩ := hp
  have HW : Hw D A s [(h, .inr (3, [.ref q1, .null])), (q1, .inr (2, [.int (0 : Int32), .int (0 : Int32), .ref q2, .ref q3, .ref q4, .ref q5, .ref q10])), (q2, .inl (cI, 6, .inl (upd (upd (upd (upd (upd (upd (fun _ => (0 : Int32)) 0 (1 : Int32)) 1 (1 : Int32)) 2 (1 : Int32)) 3 (1 : Int32)) 4 (1 : Int32)) 5 (1 : Int32)))), (q3, .inl (cI, 3, .inl (upd (upd (upd (fun _ => (0 : Int32)) 0 (2 : Int32)) 1 (2 : Int32)) 2 (2 : Int32)))), (q4, .inl (cI, 3, .inl (fun _ => (0 : Int32)))), (q5, .inr (0, [.int (0 : Int32), .ref q6, .ref q7, .ref q8, .ref q9])), (q6, .inl (cI, 6, .inl (fun _ => (0 : Int32)))), (q7, .inl (cI, 6, .inl (fun _ => (0 : Int32)))), (q8, .inl (cI, 6, .inl (fun _ => (0 : Int32)))), (q9, .inl (cI, 6, .inl (fun _ => (0 : Int32)))), (q10, .inr (1, [.int (0 : Int32), .ref q11, .ref q12, .ref q13, .ref q14, .ref q15, .ref q16, .ref q17, .ref q18])), (q11, .inl (cI, 8, .inl (fun _ => (0 : Int32)))), (q12, .inl (cI, 8, .inl (fun _ => (0 : Int32)))), (q13, .inl (cI, 8, .inl (fun _ => (0 : Int32)))), (q14, .inl (cI, 8, .inl (fun _ => (0 : Int32)))), (q15, .inl (cI, 8, .inl (fun _ => (0 : Int32)))), (q16, .inl (cI, 8, .inl (fun _ => (0 : Int32)))), (q17, .inl (cI, 8, .inl (fun _ => (0 : Int32)))), (q18, .inl (cI, 8, .inl (fun _ => (0 : Int32)))), (q19, .inr (2, [.int (0 : Int32), .int (0 : Int32), .ref q20, .ref q21, .ref q22, .ref q23, .ref q28])), (q20, .inl (cI, 6, .inl (upd (upd (upd (upd (upd (upd (fun _ => (0 : Int32)) 0 (1 : Int32)) 1 (1 : Int32)) 2 (1 : Int32)) 3 (1 : Int32)) 4 (1 : Int32)) 5 (1 : Int32)))), (q21, .inl (cI, 3, .inl (upd (upd (upd (fun _ => (0 : Int32)) 0 (2 : Int32)) 1 (2 : Int32)) 2 (2 : Int32)))), (q22, .inl (cI, 3, .inl (fun _ => (0 : Int32)))), (q23, .inr (0, [.int (0 : Int32), .ref q24, .ref q25, .ref q26, .ref q27])), (q24, .inl (cI, 6, .inl (fun _ => (0 : Int32)))), (q25, .inl (cI, 6, .inl (fun _ => (0 : Int32)))), (q26, .inl (cI, 6, .inl (fun _ => (0 : Int32)))), (q27, .inl (cI, 6, .inl (fun _ => (0 : Int32)))), (q28, .inr (1, [.int (0 : Int32), .ref q29, .ref q30, .ref q31, .ref q32, .ref q33, .ref q34, .ref q35, .ref q36])), (q29, .inl (cI, 8, .inl (fun _ => (0 : Int32)))), (q30, .inl (cI, 8, .inl (fun _ => (0 : Int32)))), (q31, .inl (cI, 8, .inl (fun _ => (0 : Int32)))), (q32, .inl (cI, 8, .inl (fun _ => (0 : Int32)))), (q33, .inl (cI, 8, .inl (fun _ => (0 : Int32)))), (q34, .inl (cI, 8, .inl (fun _ => (0 : Int32)))), (q35, .inl (cI, 8, .inl (fun _ => (0 : Int32)))), (q36, .inl (cI, 8, .inl (fun _ => (0 : Int32))))] H locs := HW
  refine W.eq (g2 := F0 m 23 ls [.ref q19, .ref h]) rfl ?_
  refine W.widen (k := 36) (n := 242) (Nat.le_of_ble_eq_true rfl) (Nat.le_of_ble_eq_true rfl) ?_
  refine g_putF CX hin HW in_X3_init_3 tyX3 tyX3_ok nmX3 0 1 rfl rfl (Nat.le_of_ble_eq_true rfl) fl_X3_init_16 rfl rfl rfl rfl (Nat.le_of_ble_eq_true rfl) dX3_init_23 (fun H locs HW => ?_)
  have HW : Hw D A s [(h, .inr (3, [.ref q1, .ref q19])), (q1, .inr (2, [.int (0 : Int32), .int (0 : Int32), .ref q2, .ref q3, .ref q4, .ref q5, .ref q10])), (q2, .inl (cI, 6, .inl (upd (upd (upd (upd (upd (upd (fun _ => (0 : Int32)) 0 (1 : Int32)) 1 (1 : Int32)) 2 (1 : Int32)) 3 (1 : Int32)) 4 (1 : Int32)) 5 (1 : Int32)))), (q3, .inl (cI, 3, .inl (upd (upd (upd (fun _ => (0 : Int32)) 0 (2 : Int32)) 1 (2 : Int32)) 2 (2 : Int32)))), (q4, .inl (cI, 3, .inl (fun _ => (0 : Int32)))), (q5, .inr (0, [.int (0 : Int32), .ref q6, .ref q7, .ref q8, .ref q9])), (q6, .inl (cI, 6, .inl (fun _ => (0 : Int32)))), (q7, .inl (cI, 6, .inl (fun _ => (0 : Int32)))), (q8, .inl (cI, 6, .inl (fun _ => (0 : Int32)))), (q9, .inl (cI, 6, .inl (fun _ => (0 : Int32)))), (q10, .inr (1, [.int (0 : Int32), .ref q11, .ref q12, .ref q13, .ref q14, .ref q15, .ref q16, .ref q17, .ref q18])), (q11, .inl (cI, 8, .inl (fun _ => (0 : Int32)))), (q12, .inl (cI, 8, .inl (fun _ => (0 : Int32)))), (q13, .inl (cI, 8, .inl (fun _ => (0 : Int32)))), (q14, .inl (cI, 8, .inl (fun _ => (0 : Int32)))), (q15, .inl (cI, 8, .inl (fun _ => (0 : Int32)))), (q16, .inl (cI, 8, .inl (fun _ => (0 : Int32)))), (q17, .inl (cI, 8, .inl (fun _ => (0 : Int32)))), (q18, .inl (cI, 8, .inl (fun _ => (0 : Int32)))), (q19, .inr (2, [.int (0 : Int32), .int (0 : Int32), .ref q20, .ref q21, .ref q22, .ref q23, .ref q28])), (q20, .inl (cI, 6, .inl (upd (upd (upd (upd (upd (upd (fun _ => (0 : Int32)) 0 (1 : Int32)) 1 (1 : Int32)) 2 (1 : Int32)) 3 (1 : Int32)) 4 (1 : Int32)) 5 (1 : Int32)))), (q21, .inl (cI, 3, .inl (upd (upd (upd (fun _ => (0 : Int32)) 0 (2 : Int32)) 1 (2 : Int32)) 2 (2 : Int32)))), (q22, .inl (cI, 3, .inl (fun _ => (0 : Int32)))), (q23, .inr (0, [.int (0 : Int32), .ref q24, .ref q25, .ref q26, .ref q27])), (q24, .inl (cI, 6, .inl (fun _ => (0 : Int32)))), (q25, .inl (cI, 6, .inl (fun _ => (0 : Int32)))), (q26, .inl (cI, 6, .inl (fun _ => (0 : Int32)))), (q27, .inl (cI, 6, .inl (fun _ => (0 : Int32)))), (q28, .inr (1, [.int (0 : Int32), .ref q29, .ref q30, .ref q31, .ref q32, .ref q33, .ref q34, .ref q35, .ref q36])), (q29, .inl (cI, 8, .inl (fun _ => (0 : Int32)))), (q30, .inl (cI, 8, .inl (fun _ => (0 : Int32)))), (q31, .inl (cI, 8, .inl (fun _ => (0 : Int32)))), (q32, .inl (cI, 8, .inl (fun _ => (0 : Int32)))), (q33, .inl (cI, 8, .inl (fun _ => (0 : Int32)))), (q34, .inl (cI, 8, .inl (fun _ => (0 : Int32)))), (q35, .inl (cI, 8, .inl (fun _ => (0 : Int32)))), (q36, .inl (cI, 8, .inl (fun _ => (0 : Int32))))] H locs := HW
  exact g_vret CX HW rfl ⟨rfl, q1, q2, q3, q4, q5, q6, q7, q8, q9, q10, q11, q12, q13, q14, q15, q16, q17, q18, q19, q20, q21, q22, q23, q24, q25, q26, q27, q28, q29, q30, q31, q32, q33, q34, q35, q36, rfl⟩ dX3_init_26
