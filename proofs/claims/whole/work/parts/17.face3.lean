def untF (b : Int32) (S : VS) (k : Nat) : Nat → Nat → Int32
  | 0, _ => -1
  | n + 1, j => if b < vA (hoursS (j + 1) S) 12 k then nI (j + 1) else untF b S k n (j + 1)
def untS (S : VS) (k : Nat) : Int32 := untF (vA S 12 k) S k 90 0
def kAdv (S : VS) (x z : Int32) : Int32 := if ¬ (0 ≤ x ∧ x < nI (vs S)) then 1 else if ¬ (1 ≤ z ∧ z ≤ 12) then 2 else 0
def waxS (S : VS) (k f : Nat) : VS := mkV (vh S) (vr S) (vs S) (vc S) (setR (setR (vA S) 9 (upd (vA S 9) k (nI f))) 10 (upd (vA S 10) k 10)) (vq S)
theorem Inv_waxS {S : VS} {k f : Nat} (h : Inv S) : Inv (waxS S k f) := by
  obtain ⟨h1, h2, h3, h4, h5, h6⟩ := h
  refine ⟨h1, h2, h3, h4, h5, fun j hj => ⟨(h6 j hj).1, (h6 j hj).2.1, ?_⟩⟩
  show ∃ z : Nat, z ≤ 10 ∧ upd (vA S 10) k 10 j = nI z
  by_cases hjk : j = k
  · exact ⟨10, Nat.le_refl _, by rw [hjk, pk_us]; rfl⟩
  · rw [pk_un hjk]; exact (h6 j hj).2.2
def advN (S : VS) (k h : Nat) : Nat → Int32 × Int32
  | 0 => (0, -1)
  | n + 1 => if (advN S k h n).2 < vA (hoursS h (waxS S k n)) 11 k then (nI n, vA (hoursS h (waxS S k n)) 11 k) else advN S k h n
def fN (f : Nat → Int32) : Nat → Int64 → Int64
  | 0, d => d
  | n + 1, d => mixI (fN f n d) (f n)
def figK (S : VS) (k w : Nat) : Int32 := figS (vA S 7) (vA S 8) (vA S 9) (vA S 10) (vA S 11) (vA S 12) (towQ (vq S)) k w
def dgR (S : VS) : Nat → Int64 → Int64
  | 0, d => d
  | i + 1, d => fN (figR (vA S 3) (vA S 4) (vA S 5) (vA S 6) i) 5 (dgR S i d)
def dgS (S : VS) : Nat → Int64 → Int64
  | 0, d => d
  | i + 1, d => fN (figK S i) 7 (dgS S i d)
def dgT (S : VS) : Nat → Int64 → Int64
  | 0, d => d
  | i + 1, d => fN (fun z => oI ((vq S i)[z]?)) (vq S i).length (fN (figT S i) 3 (dgT S i d))
def dig (S : VS) : Int64 := dgT S 3 (dgS S (vs S) (dgR S (vr S) (fN (vA S 0) 6 (fN (figV S) 9 1481))))
def meanX (S : VS) : UInt64 := if vs S = 0 then FP.dconst0 else FP.ddiv (FP.i2d (sumN (vA S 11) (vs S))) (FP.i2d (nI (vs S)))
/-- a contract of a method that may draw -/
def CtD (l : Launch) (y : MethodName) (ws : List Cond) (rm : Room) (D : va_G) (tys : List (ClassId × FieldType)) (av : List Value) (w : va_W) (post : Option Value → va_W → Prop) (mc ms : Nat) : Prop :=
  ∀ sz : Nat, MetD lw_cs l y ws rm (cPc D tys av w sz) (cQ D (va_A w sz) post) mc ms (va_A w sz)
theorem CtD.of {l : Launch} {y : MethodName} {ws ws' : List Cond} {rm : Room} {D : va_G} {tys : List (ClassId × FieldType)} {av : List Value} {w : va_W} {post : Option Value → va_W → Prop} {mc ms : Nat} {cc : ByteArray} {maxL : Nat} {ret : Option FieldType}
    (hy : plainName y.cls = true) (hw : ws = Cond.code y cc maxL ret :: ws') (hav : (lg_sl av).length ≤ maxL)
    (body : ∀ (p : Program) (e : Env) (s : State) (m : MethodId) (below : List Frame) (meth : Method) (c : Code) (A : Nat → Prop) (ls : Array Slot), Cx p s m av.toArray meth c cc maxL ret y.cls ws D tys A → s.drawn.sameBut s.drawn lw_cs → Hw D A (s.setDrawn s.drawn) w s.heap [] → lv_has ls maxL (lv_args 0 av) →
      W p l e rm (s.setDrawn s.drawn) m av.toArray below meth c s.heap [] 0 0 (MQD lw_cs below (cQ D A post) av.toArray s mc ms A) (F0 m 0 ls [])) : CtD l y ws rm D tys av w post mc ms := by
  intro sz
  refine MetD.ofW (cc := cc) (maxL := maxL) (ret := ret) hy hw ?_
  intro p e s m args below meth c s₁ B hml hv hd0
  obtain ⟨rfl, hsz, hP, hK, hD0⟩ := hv
  subst hsz
  have hown : s.vm.findClass y.cls = some m.cls := findClass_of_methodNamed B.named
  have hD := hD0.self (sz := s.heap.size)
  have hA : ∀ q : Nat, s.heap.size ≤ q → va_A w s.heap.size q := fun q h => Or.inr h
  have hl := lv_entry av (n := maxL) hav
  rw [lg_entry_eq]
  exact body p e s m below meth c (va_A w s.heap.size) _ ⟨B.exec, B.bytes, hml, B.returns, hown, atoms_spec (ws := ws) B.pre, hK, hA, B.notSynchronized⟩ hd0 ⟨hP, hD, va_S.rf⟩ hl
theorem Cx.dr {p : Program} {s : State} {m : MethodId} {args : Array Value} {meth : Method} {c : Code} {cc : ByteArray} {nL : Nat} {ret : Option FieldType} {own : String} {Ts : List Cond} {D : va_G} {tys : List (ClassId × FieldType)} {A : Nat → Prop} (h : Cx p s m args meth c cc nL ret own Ts D tys A) (d : Drawn) : Cx p (s.setDrawn d) m args meth c cc nL ret own Ts D tys A :=
  ⟨h.1, h.2.1, h.2.2.1, h.2.2.2.1, h.2.2.2.2.1, dr_words h.2.2.2.2.2.1 d, KK.same (s := s) (U := s.setDrawn d) rfl h.2.2.2.2.2.2.1, h.2.2.2.2.2.2.2.1, h.2.2.2.2.2.2.2.2⟩
theorem g_dret {p : Program} {l : Launch} {e : Env} {R : Room} {s : State} {m : MethodId} {args : Array Value} {below : List Frame} {meth : Method} {c : Code} {H : Heap} {locs : List Loc} {cells slots : Nat} {cc : ByteArray} {pc nL : Nat} {ls : Array Slot} {ret : Option FieldType} {own : String} {Ts : List Cond} {D : va_G} {A : Nat → Prop} {tys : List (ClassId × FieldType)} {w : va_W} {post : Option Value → va_W → Prop} (CX : Cx p s m args meth c cc nL ret own Ts D tys A) (HW : Hw D A s w H locs) (hret : ret = some .double) {v : UInt64} (hpost : post (some (.double v)) w) (hdg : decode cc pc = .ok (.dreturn, 1)) : W p l e R s m args below meth c H locs cells slots (MQ below (cQ D A post) args s cells slots A) (F0 m pc ls [.double v]) := by
  obtain ⟨hx, hb, hml, hr, hown, hts, hK, hA, hlk⟩ := CX
  exact W.dret hx hb (by rw [hr, hret]) (fun t ht hW => ⟨⟨_, w, rfl, hpost, by rw [ht]; exact HW.1, HW.2.1⟩, HW.2.2.F ht⟩) HW.2.2.2.2 hdg hlk
theorem hd_X3_until : yX3_until.cls ≠ "java/lang/invoke/MethodHandle" ∧ yX3_until.cls ≠ "java/lang/invoke/VarHandle" ∧ (parseMethodDescriptor yX3_until.desc).map (fun d => d.parameters.length) = some 1 := by decide +kernel
theorem fl_X3_until_10 : Cond.fieldLink RX3 10 (TX3 0).1 (TX3 0).2.1 (TX3 0).2.2.1 ∈ wsX3_until := by decide +kernel
theorem in_X3_until_3 : ∀ x ∈ u_ws RX3 TX3 2, x ∈ wsX3_until := by decide +kernel
theorem fl_X3_until_97 : Cond.fieldLink RX3 97 (TX2 6).1 (TX2 6).2.1 (TX2 6).2.2.1 ∈ wsX3_until := by decide +kernel
theorem in_X3_until_2 : ∀ x ∈ u_ws RX2 TX2 7, x ∈ wsX3_until := by decide +kernel
theorem fl_X3_until_16 : Cond.fieldLink RX3 16 (TX3 1).1 (TX3 1).2.1 (TX3 1).2.2.1 ∈ wsX3_until := by decide +kernel
theorem fl_X3_until_167 : Cond.fieldLink RX3 167 (TX1 6).1 (TX1 6).2.1 (TX1 6).2.2.1 ∈ wsX3_until := by decide +kernel
theorem in_X3_until_1 : ∀ x ∈ u_ws RX1 TX1 9, x ∈ wsX3_until := by decide +kernel
theorem xk_X3_until_exI : Cond.classLink RX3 23 exI ∈ wsX3_until ∧ Cond.initialized exI ∈ wsX3_until := ⟨by decide +kernel, by decide +kernel⟩
theorem xa_X3_until_exI : ∀ x ∈ (vx_atS RX3 27 exI nms).filter goodWord, x ∈ wsX3_until := by decide +kernel
set_option maxRecDepth 100000 in
set_option maxHeartbeats 4000000 in
theorem c_X3_until {l : Launch} {D : va_G} {cI cL : ClassId} {a : Nat → Nat} (hst : l.stackTraces = false) (o : Nat) (S : VS) (qt : Nat → Int32) (qp : Nat → Int32) (T : VS) (qt2 : Nat → Int32) (qp2 : Nat → Int32) (x : Int32) (hI : Inv S) (hR : Rep (vs S) (vq S) qt qp) (hh : vh S + 100 < 2 ^ 31) : CtX l yX3_until wsX3_until { frames := 6, cells := 1, slots := 6, locals := 142 } D (ty2 cI cL) [.ref (a o), .int x] (wXo cI a o  ++ (wVo cI a (o + 1) (vh S) (vc S) (vA S 0) (vA S 1) (vA S 2) ++ (wR cI a ((o + 1) + 4) (vr S) (vA S 3) (vA S 4) (vA S 5) (vA S 6) ++ (wS cI a ((o + 1) + 9) (vs S) (vA S 7) (vA S 8) (vA S 9) (vA S 10) (vA S 11) (vA S 12) qt qp ++ (wVo cI a (o + 19) (vh T) (vc T) (vA T 0) (vA T 1) (vA T 2) ++ (wR cI a ((o + 19) + 4) (vr T) (vA T 3) (vA T 4) (vA T 5) (vA T 6) ++ (wS cI a ((o + 19) + 9) (vs T) (vA T 7) (vA T 8) (vA T 9) (vA T 10) (vA T 11) (vA T 12) qt2 qp2))))))) (fun v w' => ∃ (T' : VS) (qt2' : Nat → Int32) (qp2' : Nat → Int32), kLea S x = 0 ∧ v = some (.int (untS S (natI x))) ∧ w' = wXo cI a o  ++ (wVo cI a (o + 1) (vh S) (vc S) (vA S 0) (vA S 1) (vA S 2) ++ (wR cI a ((o + 1) + 4) (vr S) (vA S 3) (vA S 4) (vA S 5) (vA S 6) ++ (wS cI a ((o + 1) + 9) (vs S) (vA S 7) (vA S 8) (vA S 9) (vA S 10) (vA S 11) (vA S 12) qt qp ++ (wVo cI a (o + 19) (vh T') (vc T') (vA T' 0) (vA T' 1) (vA T' 2) ++ (wR cI a ((o + 19) + 4) (vr T') (vA T' 3) (vA T' 4) (vA T' 5) (vA T' 6) ++ (wS cI a ((o + 19) + 9) (vs T') (vA T' 7) (vA T' 8) (vA T' 9) (vA T' 10) (vA T' 11) (vA T' 12) qt2' qp2'))))))) (fun E w' => (E = exI ∧ kLea S x = 1) ∧ w' = wXo cI a o  ++ (wVo cI a (o + 1) (vh S) (vc S) (vA S 0) (vA S 1) (vA S 2) ++ (wR cI a ((o + 1) + 4) (vr S) (vA S 3) (vA S 4) (vA S 5) (vA S 6) ++ (wS cI a ((o + 1) + 9) (vs S) (vA S 7) (vA S 8) (vA S 9) (vA S 10) (vA S 11) (vA S 12) qt qp ++ (wVo cI a (o + 19) (vh T) (vc T) (vA T 0) (vA T 1) (vA T 2) ++ (wR cI a ((o + 19) + 4) (vr T) (vA T 3) (vA T 4) (vA T 5) (vA T 6) ++ (wS cI a ((o + 19) + 9) (vs T) (vA T 7) (vA T 8) (vA T 9) (vA T 10) (vA T 11) (vA T 12) qt2 qp2))))))) := by
  refine CtX.of (cc := cX3_until) (maxL := 4) (ret := (some .int)) (by decide) rfl (Nat.le_of_ble_eq_true rfl) ?_
  intro p e s m below meth c A ls CX hext hZ HW hl
  obtain ⟨hx, hb, hml, hr, hown, hts, hK, hA, hlk⟩ := id CX
  have hl : lv_has ls 4 [(0, .ref (a o)), (1, .int x)] := hl
  refine lv_aload_n hx hb dX3_until_0 rfl (lv_at hl 0 rfl) ?_
  refine g_get CX HW in_X3_until_3 0 0 rfl rfl (Nat.le_of_ble_eq_true rfl) fl_X3_until_10 rfl dX3_until_1 ?_
  refine g_get CX HW in_X3_until_2 1 6 rfl rfl (Nat.le_of_ble_eq_true rfl) fl_X3_until_97 rfl dX3_until_4 ?_
  refine lv_iload_n hx hb dX3_until_7 rfl (lv_at hl 1 rfl) ?_
  refine g_callV CX HW hl.1 (wXo cI a o  ++ (wVo cI a (o + 1) (vh S) (vc S) (vA S 0) (vA S 1) (vA S 2) ++ (wR cI a ((o + 1) + 4) (vr S) (vA S 3) (vA S 4) (vA S 5) (vA S 6)))) (wVo cI a (o + 19) (vh T) (vc T) (vA T 0) (vA T 1) (vA T 2) ++ (wR cI a ((o + 19) + 4) (vr T) (vA T 3) (vA T 4) (vA T 5) (vA T 6) ++ (wS cI a ((o + 19) + 9) (vs T) (vA T 7) (vA T 8) (vA T 9) (vA T 10) (vA T 11) (vA T 12) qt2 qp2))) (c_X1_has ((o + 1) + 9) (vs S) (vA S 7) (vA S 8) (vA S 9) (vA S 10) (vA S 11) (vA S 12) qt qp x) rfl 0 rfl rfl gX3_until_X1_has rfl ⟨rfl, hd_X1_has⟩ ⟨rfl, rfl, (Nat.le_of_ble_eq_true rfl), (Nat.le_of_ble_eq_true rfl)⟩ ⟨(Nat.zero_le _), (Nat.zero_le _)⟩ rfl rfl (Nat.le_of_ble_eq_true rfl) dX3_until_8 (fun v w1 H locs hp HW => ?_)
  obtain ⟨rfl, rfl⟩ := hp
  have HW : Hw D A s (wXo cI a o  ++ (wVo cI a (o + 1) (vh S) (vc S) (vA S 0) (vA S 1) (vA S 2) ++ (wR cI a ((o + 1) + 4) (vr S) (vA S 3) (vA S 4) (vA S 5) (vA S 6) ++ (wS cI a ((o + 1) + 9) (vs S) (vA S 7) (vA S 8) (vA S 9) (vA S 10) (vA S 11) (vA S 12) qt qp ++ (wVo cI a (o + 19) (vh T) (vc T) (vA T 0) (vA T 1) (vA T 2) ++ (wR cI a ((o + 19) + 4) (vr T) (vA T 3) (vA T 4) (vA T 5) (vA T 6) ++ (wS cI a ((o + 19) + 9) (vs T) (vA T 7) (vA T 8) (vA T 9) (vA T 10) (vA T 11) (vA T 12) qt2 qp2))))))) H locs := HW
  refine W.eq (g2 := F0 m 11 ls [.int (bI (0 ≤ x ∧ x < nI (vs S)))]) rfl ?_
  refine g_ifne_b (tgt := 24) hx hb dX3_until_11 (by decide) (fun c11 => ?_) (fun c11 => ?_)
  · have hn6 := hI.1
    have hn8 := hI.2.1
    obtain ⟨k, hk, rfl⟩ := has_nat (by omega) c11
    have ek : natI (nI k) = k := natI_nI (by omega)
    · refine lv_aload_n hx hb dX3_until_24 rfl (lv_at hl 0 rfl) ?_
      refine g_get CX HW in_X3_until_3 0 1 rfl rfl (Nat.le_of_ble_eq_true rfl) fl_X3_until_16 rfl dX3_until_25 ?_
      refine lv_aload_n hx hb dX3_until_28 rfl (lv_at hl 0 rfl) ?_
      refine g_get CX HW in_X3_until_3 0 0 rfl rfl (Nat.le_of_ble_eq_true rfl) fl_X3_until_10 rfl dX3_until_29 ?_
      have HW : Hw D A s (wXo cI a o  ++ (wVo cI a (o + 1) (vh S) (vc S) (vA S 0) (vA S 1) (vA S 2) ++ (wVo cI a (o + 19) (vh T) (vc T) (vA T 0) (vA T 1) (vA T 2) ++ (wR cI a ((o + 1) + 4) (vr S) (vA S 3) (vA S 4) (vA S 5) (vA S 6) ++ (wR cI a ((o + 19) + 4) (vr T) (vA T 3) (vA T 4) (vA T 5) (vA T 6) ++ (wS cI a ((o + 1) + 9) (vs S) (vA S 7) (vA S 8) (vA S 9) (vA S 10) (vA S 11) (vA S 12) qt qp ++ (wS cI a ((o + 19) + 9) (vs T) (vA T 7) (vA T 8) (vA T 9) (vA T 10) (vA T 11) (vA T 12) qt2 qp2))))))) H locs := Hw.p6 HW
      refine g_callV CX HW hl.1 (wXo cI a o ) ([]) (c_X2_copyFrom (o + 1) (o + 19) S T qt qp qt2 qp2) rfl 4 rfl rfl gX3_until_X2_copyFrom rfl ⟨rfl, hd_X2_copyFrom⟩ ⟨rfl, rfl, (Nat.le_of_ble_eq_true rfl), (Nat.le_of_ble_eq_true rfl)⟩ ⟨(Nat.zero_le _), (Nat.zero_le _)⟩ rfl rfl (Nat.le_of_ble_eq_true rfl) dX3_until_32 (fun v w1 H locs hp HW => ?_)
      obtain ⟨rfl, rfl⟩ := hp
      have HW : Hw D A s (wXo cI a o  ++ (wVo cI a (o + 1) (vh S) (vc S) (vA S 0) (vA S 1) (vA S 2) ++ (wVo cI a (o + 19) (vh S) (vc S) (vA S 0) (vA S 1) (vA S 2) ++ (wR cI a ((o + 1) + 4) (vr S) (vA S 3) (vA S 4) (vA S 5) (vA S 6) ++ (wR cI a ((o + 19) + 4) (vr S) (vA S 3) (vA S 4) (vA S 5) (vA S 6) ++ (wS cI a ((o + 1) + 9) (vs S) (vA S 7) (vA S 8) (vA S 9) (vA S 10) (vA S 11) (vA S 12) qt qp ++ (wS cI a ((o + 19) + 9) (vs S) (vA S 7) (vA S 8) (vA S 9) (vA S 10) (vA S 11) (vA S 12) qt qp))))))) H locs := HW
      refine W.eq (g2 := F0 m 35 ls []) rfl ?_
      have HW : Hw D A s (wXo cI a o  ++ (wVo cI a (o + 1) (vh S) (vc S) (vA S 0) (vA S 1) (vA S 2) ++ (wR cI a ((o + 1) + 4) (vr S) (vA S 3) (vA S 4) (vA S 5) (vA S 6) ++ (wS cI a ((o + 1) + 9) (vs S) (vA S 7) (vA S 8) (vA S 9) (vA S 10) (vA S 11) (vA S 12) qt qp ++ (wVo cI a (o + 19) (vh S) (vc S) (vA S 0) (vA S 1) (vA S 2) ++ (wR cI a ((o + 19) + 4) (vr S) (vA S 3) (vA S 4) (vA S 5) (vA S 6) ++ (wS cI a ((o + 19) + 9) (vs S) (vA S 7) (vA S 8) (vA S 9) (vA S 10) (vA S 11) (vA S 12) qt qp))))))) H locs := Hw.q6 HW
      refine lv_aload_n hx hb dX3_until_35 rfl (lv_at hl 0 rfl) ?_
      refine g_get CX HW in_X3_until_3 0 0 rfl rfl (Nat.le_of_ble_eq_true rfl) fl_X3_until_10 rfl dX3_until_36 ?_
      refine g_get CX HW in_X3_until_2 1 6 rfl rfl (Nat.le_of_ble_eq_true rfl) fl_X3_until_97 rfl dX3_until_39 ?_
      refine g_get CX HW in_X3_until_1 10 6 rfl rfl (Nat.le_of_ble_eq_true rfl) fl_X3_until_167 rfl dX3_until_42 ?_
      refine lv_iload_n hx hb dX3_until_45 rfl (lv_at hl 1 rfl) ?_
      refine g_ald CX HW 16 (k := k) rfl rfl rfl (by omega) (Nat.le_of_ble_eq_true rfl) dX3_until_46 ?_
      refine lv_istore_n (lv' := [(2, .int ((vA S 12) k)), (0, .ref (a o)), (1, .int (nI k))]) hx hb dX3_until_47 rfl hl (Nat.le_of_ble_eq_true rfl) rfl (fun ls hl => ?_)
      have loop : ∀ (d0 : Nat) (j : Nat) (qt3 : Nat → Int32) (qp3 : Nat → Int32), 90 - j = d0 → (j ≤ 90) → (Rep (vs (hoursS j S)) (vq (hoursS j S)) qt3 qp3) → (untF (vA S 12 k) S k (90 - j) j = untS S k) → ∀ (H : Heap) (locs : List Loc) (ls : Array Slot), Hw D A s (wXo cI a o  ++ (wVo cI a (o + 1) (vh S) (vc S) (vA S 0) (vA S 1) (vA S 2) ++ (wR cI a ((o + 1) + 4) (vr S) (vA S 3) (vA S 4) (vA S 5) (vA S 6) ++ (wS cI a ((o + 1) + 9) (vs S) (vA S 7) (vA S 8) (vA S 9) (vA S 10) (vA S 11) (vA S 12) qt qp ++ (wVo cI a (o + 19) (vh (hoursS j S)) (vc (hoursS j S)) (vA (hoursS j S) 0) (vA (hoursS j S) 1) (vA (hoursS j S) 2) ++ (wR cI a ((o + 19) + 4) (vr (hoursS j S)) (vA (hoursS j S) 3) (vA (hoursS j S) 4) (vA (hoursS j S) 5) (vA (hoursS j S) 6) ++ (wS cI a ((o + 19) + 9) (vs (hoursS j S)) (vA (hoursS j S) 7) (vA (hoursS j S) 8) (vA (hoursS j S) 9) (vA (hoursS j S) 10) (vA (hoursS j S) 11) (vA (hoursS j S) 12) qt3 qp3))))))) H locs → lv_has ls 4 [(3, .int (nI (j + 1))), (2, .int (vA S 12 k)), (1, .int (nI k)), (0, .ref (a o))] → W p l e ({ frames := 6, cells := 1, slots := 6, locals := 142 } : Room) s m ([.ref (a o), .int (nI k)] : List Value).toArray below meth c H locs 0 0 (vx_MQ below (cQ D A (fun v w' => ∃ (T' : VS) (qt2' : Nat → Int32) (qp2' : Nat → Int32), kLea S (nI k) = 0 ∧ v = some (.int (untS S (natI (nI k)))) ∧ w' = wXo cI a o  ++ (wVo cI a (o + 1) (vh S) (vc S) (vA S 0) (vA S 1) (vA S 2) ++ (wR cI a ((o + 1) + 4) (vr S) (vA S 3) (vA S 4) (vA S 5) (vA S 6) ++ (wS cI a ((o + 1) + 9) (vs S) (vA S 7) (vA S 8) (vA S 9) (vA S 10) (vA S 11) (vA S 12) qt qp ++ (wVo cI a (o + 19) (vh T') (vc T') (vA T' 0) (vA T' 1) (vA T' 2) ++ (wR cI a ((o + 19) + 4) (vr T') (vA T' 3) (vA T' 4) (vA T' 5) (vA T' 6) ++ (wS cI a ((o + 19) + 9) (vs T') (vA T' 7) (vA T' 8) (vA T' 9) (vA T' 10) (vA T' 11) (vA T' 12) qt2' qp2')))))))) (xC D A (fun E w' => (E = exI ∧ kLea S (nI k) = 1) ∧ w' = wXo cI a o  ++ (wVo cI a (o + 1) (vh S) (vc S) (vA S 0) (vA S 1) (vA S 2) ++ (wR cI a ((o + 1) + 4) (vr S) (vA S 3) (vA S 4) (vA S 5) (vA S 6) ++ (wS cI a ((o + 1) + 9) (vs S) (vA S 7) (vA S 8) (vA S 9) (vA S 10) (vA S 11) (vA S 12) qt qp ++ (wVo cI a (o + 19) (vh T) (vc T) (vA T 0) (vA T 1) (vA T 2) ++ (wR cI a ((o + 19) + 4) (vr T) (vA T 3) (vA T 4) (vA T 5) (vA T 6) ++ (wS cI a ((o + 19) + 9) (vs T) (vA T 7) (vA T 8) (vA T 9) (vA T 10) (vA T 11) (vA T 12) qt2 qp2)))))))) ([.ref (a o), .int (nI k)] : List Value).toArray s 1 6 A) (F0 m 50 ls []) := by
        intro d0
        induction d0 using Nat.strongRecOn with
        | _ d0 ih =>
          intro j qt3 qp3 hd0 hj hR2 hU H locs ls HW hl
          refine lv_iload_n hx hb dX3_until_50 rfl (lv_at hl 0 rfl) ?_
          refine lv_bipush (v := 90) hx hb dX3_until_51 (by decide) ?_
          refine lv_icmp_gt (tgt := 89) hx hb dX3_until_53 (by decide) (fun c53 => ?_) (fun c53 => ?_)
          · have c53 : 90 < j + 1 := (nI_ltI (a := 90) (b := j + 1) (by decide) (by omega)).mp c53
            refine lv_iconst (v := (-1)) hx hb dX3_until_89 (by decide) ?_
            exact gx_ret (Nat.le_of_ble_eq_true rfl) (Nat.le_of_ble_eq_true rfl) (g_iret CX HW rfl ⟨_, _, _, (by rw [kLea]; rw [if_neg (fun h9 => h9 c11)]), by rw [ek, ← hU, show 90 - j = 0 by omega]; rfl, rfl⟩ dX3_until_90)
          · have c53 : j + 1 ≤ 90 := (nI_leI (a := j + 1) (b := 90) (by omega) (by decide)).mp (Int32.not_lt.mp c53)
            have hU2 : untF (vA S 12 k) S k (90 - (j + 1) + 1) j = untS S k := by rw [← hU]; congr 1; omega
            simp only [untF] at hU2
            refine lv_aload_n hx hb dX3_until_56 rfl (lv_at hl 3 rfl) ?_
            refine g_get CX HW in_X3_until_3 0 1 rfl rfl (Nat.le_of_ble_eq_true rfl) fl_X3_until_16 rfl dX3_until_57 ?_
            refine lv_iconst (v := 1) hx hb dX3_until_60 (by decide) ?_
            refine g_callV CX HW hl.1 (wXo cI a o  ++ (wVo cI a (o + 1) (vh S) (vc S) (vA S 0) (vA S 1) (vA S 2) ++ (wR cI a ((o + 1) + 4) (vr S) (vA S 3) (vA S 4) (vA S 5) (vA S 6) ++ (wS cI a ((o + 1) + 9) (vs S) (vA S 7) (vA S 8) (vA S 9) (vA S 10) (vA S 11) (vA S 12) qt qp)))) ([]) (c_X2_letHoursGo (o + 19) (hoursS j S) qt3 qp3 1 (Inv_hoursS hI hR j) hR2 (by omega) (by rw [vh_hoursS]; omega)) rfl 0 rfl rfl gX3_until_X2_letHoursGo rfl ⟨rfl, hd_X2_letHoursGo⟩ ⟨rfl, rfl, (Nat.le_of_ble_eq_true rfl), (Nat.le_of_ble_eq_true rfl)⟩ ⟨(Nat.zero_le _), (Nat.zero_le _)⟩ rfl rfl (Nat.le_of_ble_eq_true rfl) dX3_until_61 (fun v w1 H locs hp HW => ?_)
            obtain ⟨qt'_1, qp'_1, hr9_1, rfl, rfl⟩ := hp
            have HW : Hw D A s (wXo cI a o  ++ (wVo cI a (o + 1) (vh S) (vc S) (vA S 0) (vA S 1) (vA S 2) ++ (wR cI a ((o + 1) + 4) (vr S) (vA S 3) (vA S 4) (vA S 5) (vA S 6) ++ (wS cI a ((o + 1) + 9) (vs S) (vA S 7) (vA S 8) (vA S 9) (vA S 10) (vA S 11) (vA S 12) qt qp ++ (wVo cI a (o + 19) (vh (hoursS 1 (hoursS j S))) (vc (hoursS 1 (hoursS j S))) (vA (hoursS 1 (hoursS j S)) 0) (vA (hoursS 1 (hoursS j S)) 1) (vA (hoursS 1 (hoursS j S)) 2) ++ (wR cI a ((o + 19) + 4) (vr (hoursS 1 (hoursS j S))) (vA (hoursS 1 (hoursS j S)) 3) (vA (hoursS 1 (hoursS j S)) 4) (vA (hoursS 1 (hoursS j S)) 5) (vA (hoursS 1 (hoursS j S)) 6) ++ (wS cI a ((o + 19) + 9) (vs (hoursS 1 (hoursS j S))) (vA (hoursS 1 (hoursS j S)) 7) (vA (hoursS 1 (hoursS j S)) 8) (vA (hoursS 1 (hoursS j S)) 9) (vA (hoursS 1 (hoursS j S)) 10) (vA (hoursS 1 (hoursS j S)) 11) (vA (hoursS 1 (hoursS j S)) 12) qt'_1 qp'_1))))))) H locs := HW
            refine W.eq (g2 := F0 m 64 ls [.int (sumP (hoursS 1 (hoursS j S)) - sumP (hoursS j S))]) rfl ?_
            rw [show hoursS 1 (hoursS j S) = hoursS (j + 1) S from rfl] at HW
            have HW : Hw D A s (wXo cI a o  ++ (wVo cI a (o + 1) (vh S) (vc S) (vA S 0) (vA S 1) (vA S 2) ++ (wR cI a ((o + 1) + 4) (vr S) (vA S 3) (vA S 4) (vA S 5) (vA S 6) ++ (wS cI a ((o + 1) + 9) (vs S) (vA S 7) (vA S 8) (vA S 9) (vA S 10) (vA S 11) (vA S 12) qt qp ++ (wVo cI a (o + 19) (vh (hoursS (j + 1) S)) (vc (hoursS (j + 1) S)) (vA (hoursS (j + 1) S) 0) (vA (hoursS (j + 1) S) 1) (vA (hoursS (j + 1) S) 2) ++ (wR cI a ((o + 19) + 4) (vr (hoursS (j + 1) S)) (vA (hoursS (j + 1) S) 3) (vA (hoursS (j + 1) S) 4) (vA (hoursS (j + 1) S) 5) (vA (hoursS (j + 1) S) 6) ++ (wS cI a ((o + 19) + 9) (vs (hoursS (j + 1) S)) (vA (hoursS (j + 1) S) 7) (vA (hoursS (j + 1) S) 8) (vA (hoursS (j + 1) S) 9) (vA (hoursS (j + 1) S) 10) (vA (hoursS (j + 1) S) 11) (vA (hoursS (j + 1) S) 12) qt'_1 qp'_1))))))) H locs := HW
            have hR3 : Rep (vs (hoursS (j + 1) S)) (vq (hoursS (j + 1) S)) qt'_1 qp'_1 := hr9_1
            refine lv_pop hx hb dX3_until_64 rfl ?_
            refine lv_aload_n hx hb dX3_until_65 rfl (lv_at hl 3 rfl) ?_
            refine g_get CX HW in_X3_until_3 0 1 rfl rfl (Nat.le_of_ble_eq_true rfl) fl_X3_until_16 rfl dX3_until_66 ?_
            refine g_get CX HW in_X3_until_2 19 6 rfl rfl (Nat.le_of_ble_eq_true rfl) fl_X3_until_97 rfl dX3_until_69 ?_
            refine g_get CX HW in_X3_until_1 28 6 rfl rfl (Nat.le_of_ble_eq_true rfl) fl_X3_until_167 rfl dX3_until_72 ?_
            refine lv_iload_n hx hb dX3_until_75 rfl (lv_at hl 2 rfl) ?_
            refine g_ald CX HW 34 (k := k) rfl rfl rfl (by omega) (Nat.le_of_ble_eq_true rfl) dX3_until_76 ?_
            refine lv_iload_n hx hb dX3_until_77 rfl (lv_at hl 1 rfl) ?_
            refine lv_icmp_le (tgt := 83) hx hb dX3_until_78 (by decide) (fun c78 => ?_) (fun c78 => ?_)
            · rw [if_neg (Int32.not_lt.mpr c78)] at hU2
              refine lv_iinc (v := (nI ((j + 1) + 1))) (lv' := [(3, .int (nI ((j + 1) + 1))), (2, .int (vA S 12 k)), (1, .int (nI k)), (0, .ref (a o))]) hx hb dX3_until_83 hl (k := 0) rfl (inc1 _) (Nat.le_of_ble_eq_true rfl) rfl (fun ls hl => ?_)
              refine lv_goto (tgt := 50) hx hb dX3_until_86 (by decide) ?_
              exact ih _ (by omega) (j + 1) _ _ rfl (by omega) hR3 hU2 _ _ _ HW (lv_sub hl [0, 1, 2, 3] rfl)
            · rw [if_pos (Int32.not_le.mp c78)] at hU2
              refine lv_iload_n hx hb dX3_until_81 rfl (lv_at hl 0 rfl) ?_
              exact gx_ret (Nat.le_of_ble_eq_true rfl) (Nat.le_of_ble_eq_true rfl) (g_iret CX HW rfl ⟨_, _, _, (by rw [kLea]; rw [if_neg (fun h9 => h9 c11)]), by rw [ek, ← hU2], rfl⟩ dX3_until_82)
      refine lv_iconst (v := 1) hx hb dX3_until_48 (by decide) ?_
      refine lv_istore_n (lv' := [(3, .int (1 : Int32)), (2, .int ((vA S 12) k)), (0, .ref (a o)), (1, .int (nI k))]) hx hb dX3_until_49 rfl hl (Nat.le_of_ble_eq_true rfl) rfl (fun ls hl => ?_)
      exact loop _ 0 qt qp rfl (by omega) hR rfl _ _ _ HW (lv_sub hl [0, 1, 3, 2] rfl)
  · exact gx_throw CX hext hZ HW hl.1 hst (cls := exI) (text := "no such skier") (ik := 23) (is := 108) (ic := 27) (by decide +kernel) xk_X3_until_exI.1 xk_X3_until_exI.2 (by decide +kernel) xa_X3_until_exI xbad_27 xgood_27 dX3_until_14 dX3_until_17 dX3_until_18 dX3_until_20 dX3_until_23 (Nat.le_of_ble_eq_true rfl) (Nat.le_of_ble_eq_true rfl) (Nat.le_of_ble_eq_true rfl) (Nat.le_of_ble_eq_true rfl) (Nat.le_of_ble_eq_true rfl) (Nat.le_of_ble_eq_true rfl) (⟨⟨rfl, by rw [kLea]; rw [if_pos c11]⟩, rfl⟩)

theorem hd_X3_advise : yX3_advise.cls ≠ "java/lang/invoke/MethodHandle" ∧ yX3_advise.cls ≠ "java/lang/invoke/VarHandle" ∧ (parseMethodDescriptor yX3_advise.desc).map (fun d => d.parameters.length) = some 2 := by decide +kernel
theorem fl_X3_advise_10 : Cond.fieldLink RX3 10 (TX3 0).1 (TX3 0).2.1 (TX3 0).2.2.1 ∈ wsX3_advise := by decide +kernel
theorem in_X3_advise_3 : ∀ x ∈ u_ws RX3 TX3 2, x ∈ wsX3_advise := by decide +kernel
theorem fl_X3_advise_97 : Cond.fieldLink RX3 97 (TX2 6).1 (TX2 6).2.1 (TX2 6).2.2.1 ∈ wsX3_advise := by decide +kernel
theorem in_X3_advise_2 : ∀ x ∈ u_ws RX2 TX2 7, x ∈ wsX3_advise := by decide +kernel
theorem fl_X3_advise_16 : Cond.fieldLink RX3 16 (TX3 1).1 (TX3 1).2.1 (TX3 1).2.2.1 ∈ wsX3_advise := by decide +kernel
theorem fl_X3_advise_172 : Cond.fieldLink RX3 172 (TX1 5).1 (TX1 5).2.1 (TX1 5).2.2.1 ∈ wsX3_advise := by decide +kernel
theorem in_X3_advise_1 : ∀ x ∈ u_ws RX1 TX1 9, x ∈ wsX3_advise := by decide +kernel
theorem xk_X3_advise_exA : Cond.classLink RX3 30 exA ∈ wsX3_advise ∧ Cond.initialized exA ∈ wsX3_advise := ⟨by decide +kernel, by decide +kernel⟩
theorem xa_X3_advise_exA : ∀ x ∈ (vx_atS RX3 34 exA nms).filter goodWord, x ∈ wsX3_advise := by decide +kernel
theorem xk_X3_advise_exI : Cond.classLink RX3 23 exI ∈ wsX3_advise ∧ Cond.initialized exI ∈ wsX3_advise := ⟨by decide +kernel, by decide +kernel⟩
theorem xa_X3_advise_exI : ∀ x ∈ (vx_atS RX3 27 exI nms).filter goodWord, x ∈ wsX3_advise := by decide +kernel
set_option maxRecDepth 100000 in
set_option maxHeartbeats 4000000 in
theorem c_X3_advise {l : Launch} {D : va_G} {cI cL : ClassId} {a : Nat → Nat} (hst : l.stackTraces = false) (o : Nat) (S : VS) (qt : Nat → Int32) (qp : Nat → Int32) (T : VS) (qt2 : Nat → Int32) (qp2 : Nat → Int32) (x : Int32) (z : Int32) (hI : Inv S) (hR : Rep (vs S) (vq S) qt qp) (hh : vh S + 100 < 2 ^ 31) : CtX l yX3_advise wsX3_advise { frames := 6, cells := 1, slots := 6, locals := 142 } D (ty2 cI cL) [.ref (a o), .int x, .int z] (wXo cI a o  ++ (wVo cI a (o + 1) (vh S) (vc S) (vA S 0) (vA S 1) (vA S 2) ++ (wR cI a ((o + 1) + 4) (vr S) (vA S 3) (vA S 4) (vA S 5) (vA S 6) ++ (wS cI a ((o + 1) + 9) (vs S) (vA S 7) (vA S 8) (vA S 9) (vA S 10) (vA S 11) (vA S 12) qt qp ++ (wVo cI a (o + 19) (vh T) (vc T) (vA T 0) (vA T 1) (vA T 2) ++ (wR cI a ((o + 19) + 4) (vr T) (vA T 3) (vA T 4) (vA T 5) (vA T 6) ++ (wS cI a ((o + 19) + 9) (vs T) (vA T 7) (vA T 8) (vA T 9) (vA T 10) (vA T 11) (vA T 12) qt2 qp2))))))) (fun v w' => ∃ (T' : VS) (qt2' : Nat → Int32) (qp2' : Nat → Int32), kAdv S x z = 0 ∧ v = some (.int ((advN S (natI x) (natI z) 4).1)) ∧ w' = wXo cI a o  ++ (wVo cI a (o + 1) (vh S) (vc S) (vA S 0) (vA S 1) (vA S 2) ++ (wR cI a ((o + 1) + 4) (vr S) (vA S 3) (vA S 4) (vA S 5) (vA S 6) ++ (wS cI a ((o + 1) + 9) (vs S) (vA S 7) (vA S 8) (vA S 9) (vA S 10) (vA S 11) (vA S 12) qt qp ++ (wVo cI a (o + 19) (vh T') (vc T') (vA T' 0) (vA T' 1) (vA T' 2) ++ (wR cI a ((o + 19) + 4) (vr T') (vA T' 3) (vA T' 4) (vA T' 5) (vA T' 6) ++ (wS cI a ((o + 19) + 9) (vs T') (vA T' 7) (vA T' 8) (vA T' 9) (vA T' 10) (vA T' 11) (vA T' 12) qt2' qp2'))))))) (fun E w' => ((E = exI ∧ kAdv S x z = 1) ∨ (E = exA ∧ kAdv S x z = 2)) ∧ w' = wXo cI a o  ++ (wVo cI a (o + 1) (vh S) (vc S) (vA S 0) (vA S 1) (vA S 2) ++ (wR cI a ((o + 1) + 4) (vr S) (vA S 3) (vA S 4) (vA S 5) (vA S 6) ++ (wS cI a ((o + 1) + 9) (vs S) (vA S 7) (vA S 8) (vA S 9) (vA S 10) (vA S 11) (vA S 12) qt qp ++ (wVo cI a (o + 19) (vh T) (vc T) (vA T 0) (vA T 1) (vA T 2) ++ (wR cI a ((o + 19) + 4) (vr T) (vA T 3) (vA T 4) (vA T 5) (vA T 6) ++ (wS cI a ((o + 19) + 9) (vs T) (vA T 7) (vA T 8) (vA T 9) (vA T 10) (vA T 11) (vA T 12) qt2 qp2))))))) := by
  refine CtX.of (cc := cX3_advise) (maxL := 6) (ret := (some .int)) (by decide) rfl (Nat.le_of_ble_eq_true rfl) ?_
  intro p e s m below meth c A ls CX hext hZ HW hl
  obtain ⟨hx, hb, hml, hr, hown, hts, hK, hA, hlk⟩ := id CX
  have hl : lv_has ls 6 [(0, .ref (a o)), (1, .int x), (2, .int z)] := hl
  refine lv_aload_n hx hb dX3_advise_0 rfl (lv_at hl 0 rfl) ?_
  refine g_get CX HW in_X3_advise_3 0 0 rfl rfl (Nat.le_of_ble_eq_true rfl) fl_X3_advise_10 rfl dX3_advise_1 ?_
  refine g_get CX HW in_X3_advise_2 1 6 rfl rfl (Nat.le_of_ble_eq_true rfl) fl_X3_advise_97 rfl dX3_advise_4 ?_
  refine lv_iload_n hx hb dX3_advise_7 rfl (lv_at hl 1 rfl) ?_
  refine g_callV CX HW hl.1 (wXo cI a o  ++ (wVo cI a (o + 1) (vh S) (vc S) (vA S 0) (vA S 1) (vA S 2) ++ (wR cI a ((o + 1) + 4) (vr S) (vA S 3) (vA S 4) (vA S 5) (vA S 6)))) (wVo cI a (o + 19) (vh T) (vc T) (vA T 0) (vA T 1) (vA T 2) ++ (wR cI a ((o + 19) + 4) (vr T) (vA T 3) (vA T 4) (vA T 5) (vA T 6) ++ (wS cI a ((o + 19) + 9) (vs T) (vA T 7) (vA T 8) (vA T 9) (vA T 10) (vA T 11) (vA T 12) qt2 qp2))) (c_X1_has ((o + 1) + 9) (vs S) (vA S 7) (vA S 8) (vA S 9) (vA S 10) (vA S 11) (vA S 12) qt qp x) rfl 0 rfl rfl gX3_advise_X1_has rfl ⟨rfl, hd_X1_has⟩ ⟨rfl, rfl, (Nat.le_of_ble_eq_true rfl), (Nat.le_of_ble_eq_true rfl)⟩ ⟨(Nat.zero_le _), (Nat.zero_le _)⟩ rfl rfl (Nat.le_of_ble_eq_true rfl) dX3_advise_8 (fun v w1 H locs hp HW => ?_)
  obtain ⟨rfl, rfl⟩ := hp
  have HW : Hw D A s (wXo cI a o  ++ (wVo cI a (o + 1) (vh S) (vc S) (vA S 0) (vA S 1) (vA S 2) ++ (wR cI a ((o + 1) + 4) (vr S) (vA S 3) (vA S 4) (vA S 5) (vA S 6) ++ (wS cI a ((o + 1) + 9) (vs S) (vA S 7) (vA S 8) (vA S 9) (vA S 10) (vA S 11) (vA S 12) qt qp ++ (wVo cI a (o + 19) (vh T) (vc T) (vA T 0) (vA T 1) (vA T 2) ++ (wR cI a ((o + 19) + 4) (vr T) (vA T 3) (vA T 4) (vA T 5) (vA T 6) ++ (wS cI a ((o + 19) + 9) (vs T) (vA T 7) (vA T 8) (vA T 9) (vA T 10) (vA T 11) (vA T 12) qt2 qp2))))))) H locs := HW
  refine W.eq (g2 := F0 m 11 ls [.int (bI (0 ≤ x ∧ x < nI (vs S)))]) rfl ?_
  refine g_ifne_b (tgt := 24) hx hb dX3_advise_11 (by decide) (fun c11 => ?_) (fun c11 => ?_)
  · have hn6 := hI.1
    have hn8 := hI.2.1
    obtain ⟨k, hk, rfl⟩ := has_nat (by omega) c11
    have ek : natI (nI k) = k := natI_nI (by omega)
    · refine lv_iload_n hx hb dX3_advise_24 rfl (lv_at hl 2 rfl) ?_
      refine lv_iconst (v := 1) hx hb dX3_advise_25 (by decide) ?_
      refine lv_bipush (v := 12) hx hb dX3_advise_26 (by decide) ?_
      refine g_callS CX HW hl.1 ([]) (wXo cI a o  ++ (wVo cI a (o + 1) (vh S) (vc S) (vA S 0) (vA S 1) (vA S 2) ++ (wR cI a ((o + 1) + 4) (vr S) (vA S 3) (vA S 4) (vA S 5) (vA S 6) ++ (wS cI a ((o + 1) + 9) (vs S) (vA S 7) (vA S 8) (vA S 9) (vA S 10) (vA S 11) (vA S 12) qt qp ++ (wVo cI a (o + 19) (vh T) (vc T) (vA T 0) (vA T 1) (vA T 2) ++ (wR cI a ((o + 19) + 4) (vr T) (vA T 3) (vA T 4) (vA T 5) (vA T 6) ++ (wS cI a ((o + 19) + 9) (vs T) (vA T 7) (vA T 8) (vA T 9) (vA T 10) (vA T 11) (vA T 12) qt2 qp2))))))) (c_X3_isWithin z (1 : Int32) (12 : Int32)) rfl gX3_advise_X3_isWithin rfl hd_X3_isWithin ⟨rfl, rfl, (Nat.le_of_ble_eq_true rfl), (Nat.le_of_ble_eq_true rfl)⟩ ⟨(Nat.zero_le _), (Nat.zero_le _)⟩ rfl rfl (Nat.le_of_ble_eq_true rfl) dX3_advise_28 (fun v w1 H locs hp HW => ?_)
      obtain ⟨rfl, rfl⟩ := hp
      have HW : Hw D A s (wXo cI a o  ++ (wVo cI a (o + 1) (vh S) (vc S) (vA S 0) (vA S 1) (vA S 2) ++ (wR cI a ((o + 1) + 4) (vr S) (vA S 3) (vA S 4) (vA S 5) (vA S 6) ++ (wS cI a ((o + 1) + 9) (vs S) (vA S 7) (vA S 8) (vA S 9) (vA S 10) (vA S 11) (vA S 12) qt qp ++ (wVo cI a (o + 19) (vh T) (vc T) (vA T 0) (vA T 1) (vA T 2) ++ (wR cI a ((o + 19) + 4) (vr T) (vA T 3) (vA T 4) (vA T 5) (vA T 6) ++ (wS cI a ((o + 19) + 9) (vs T) (vA T 7) (vA T 8) (vA T 9) (vA T 10) (vA T 11) (vA T 12) qt2 qp2))))))) H locs := HW
      refine W.eq (g2 := F0 m 31 ls [.int (bI ((1 : Int32) ≤ z ∧ z ≤ (12 : Int32)))]) rfl ?_
      refine g_ifne_b (tgt := 44) hx hb dX3_advise_31 (by decide) (fun c31 => ?_) (fun c31 => ?_)
      · obtain ⟨h, hh1, hh, rfl⟩ := wi1_nat 12 (by decide) c31
        have eh : natI (nI h) = h := natI_nI (by omega)
        · refine lv_iconst (v := 0) hx hb dX3_advise_44 (by decide) ?_
          have loop : ∀ (d0 : Nat) (f : Nat) (T3 : VS) (qt3 : Nat → Int32) (qp3 : Nat → Int32), 4 - f = d0 → (f ≤ 4) → ∀ (H : Heap) (locs : List Loc) (ls : Array Slot), Hw D A s (wXo cI a o  ++ (wVo cI a (o + 1) (vh S) (vc S) (vA S 0) (vA S 1) (vA S 2) ++ (wR cI a ((o + 1) + 4) (vr S) (vA S 3) (vA S 4) (vA S 5) (vA S 6) ++ (wS cI a ((o + 1) + 9) (vs S) (vA S 7) (vA S 8) (vA S 9) (vA S 10) (vA S 11) (vA S 12) qt qp ++ (wVo cI a (o + 19) (vh T3) (vc T3) (vA T3 0) (vA T3 1) (vA T3 2) ++ (wR cI a ((o + 19) + 4) (vr T3) (vA T3 3) (vA T3 4) (vA T3 5) (vA T3 6) ++ (wS cI a ((o + 19) + 9) (vs T3) (vA T3 7) (vA T3 8) (vA T3 9) (vA T3 10) (vA T3 11) (vA T3 12) qt3 qp3))))))) H locs → lv_has ls 6 [(5, .int (nI f)), (4, .int ((advN S k h f).2)), (3, .int ((advN S k h f).1)), (2, .int (nI h)), (1, .int (nI k)), (0, .ref (a o))] → W p l e ({ frames := 6, cells := 1, slots := 6, locals := 142 } : Room) s m ([.ref (a o), .int (nI k), .int (nI h)] : List Value).toArray below meth c H locs 0 0 (vx_MQ below (cQ D A (fun v w' => ∃ (T' : VS) (qt2' : Nat → Int32) (qp2' : Nat → Int32), kAdv S (nI k) (nI h) = 0 ∧ v = some (.int ((advN S (natI (nI k)) (natI (nI h)) 4).1)) ∧ w' = wXo cI a o  ++ (wVo cI a (o + 1) (vh S) (vc S) (vA S 0) (vA S 1) (vA S 2) ++ (wR cI a ((o + 1) + 4) (vr S) (vA S 3) (vA S 4) (vA S 5) (vA S 6) ++ (wS cI a ((o + 1) + 9) (vs S) (vA S 7) (vA S 8) (vA S 9) (vA S 10) (vA S 11) (vA S 12) qt qp ++ (wVo cI a (o + 19) (vh T') (vc T') (vA T' 0) (vA T' 1) (vA T' 2) ++ (wR cI a ((o + 19) + 4) (vr T') (vA T' 3) (vA T' 4) (vA T' 5) (vA T' 6) ++ (wS cI a ((o + 19) + 9) (vs T') (vA T' 7) (vA T' 8) (vA T' 9) (vA T' 10) (vA T' 11) (vA T' 12) qt2' qp2')))))))) (xC D A (fun E w' => ((E = exI ∧ kAdv S (nI k) (nI h) = 1) ∨ (E = exA ∧ kAdv S (nI k) (nI h) = 2)) ∧ w' = wXo cI a o  ++ (wVo cI a (o + 1) (vh S) (vc S) (vA S 0) (vA S 1) (vA S 2) ++ (wR cI a ((o + 1) + 4) (vr S) (vA S 3) (vA S 4) (vA S 5) (vA S 6) ++ (wS cI a ((o + 1) + 9) (vs S) (vA S 7) (vA S 8) (vA S 9) (vA S 10) (vA S 11) (vA S 12) qt qp ++ (wVo cI a (o + 19) (vh T) (vc T) (vA T 0) (vA T 1) (vA T 2) ++ (wR cI a ((o + 19) + 4) (vr T) (vA T 3) (vA T 4) (vA T 5) (vA T 6) ++ (wS cI a ((o + 19) + 9) (vs T) (vA T 7) (vA T 8) (vA T 9) (vA T 10) (vA T 11) (vA T 12) qt2 qp2)))))))) ([.ref (a o), .int (nI k), .int (nI h)] : List Value).toArray s 1 6 A) (F0 m 52 ls []) := by
            intro d0
            induction d0 using Nat.strongRecOn with
            | _ d0 ih =>
              intro f T3 qt3 qp3 hd0 hf H locs ls HW hl
              have j125 : ∀ (T3 : VS) (qt3 : Nat → Int32) (qp3 : Nat → Int32) (x3 : Int32) (x4 : Int32), (f < 4) → (x3 = (advN S k h (f + 1)).1) → (x4 = (advN S k h (f + 1)).2) → ∀ (H : Heap) (locs : List Loc) (ls : Array Slot), Hw D A s (wXo cI a o  ++ (wVo cI a (o + 1) (vh S) (vc S) (vA S 0) (vA S 1) (vA S 2) ++ (wR cI a ((o + 1) + 4) (vr S) (vA S 3) (vA S 4) (vA S 5) (vA S 6) ++ (wS cI a ((o + 1) + 9) (vs S) (vA S 7) (vA S 8) (vA S 9) (vA S 10) (vA S 11) (vA S 12) qt qp ++ (wVo cI a (o + 19) (vh T3) (vc T3) (vA T3 0) (vA T3 1) (vA T3 2) ++ (wR cI a ((o + 19) + 4) (vr T3) (vA T3 3) (vA T3 4) (vA T3 5) (vA T3 6) ++ (wS cI a ((o + 19) + 9) (vs T3) (vA T3 7) (vA T3 8) (vA T3 9) (vA T3 10) (vA T3 11) (vA T3 12) qt3 qp3))))))) H locs → lv_has ls 6 [(5, .int (nI f)), (4, .int x4), (3, .int x3), (2, .int (nI h)), (1, .int (nI k)), (0, .ref (a o))] → W p l e ({ frames := 6, cells := 1, slots := 6, locals := 142 } : Room) s m ([.ref (a o), .int (nI k), .int (nI h)] : List Value).toArray below meth c H locs 0 0 (vx_MQ below (cQ D A (fun v w' => ∃ (T' : VS) (qt2' : Nat → Int32) (qp2' : Nat → Int32), kAdv S (nI k) (nI h) = 0 ∧ v = some (.int ((advN S (natI (nI k)) (natI (nI h)) 4).1)) ∧ w' = wXo cI a o  ++ (wVo cI a (o + 1) (vh S) (vc S) (vA S 0) (vA S 1) (vA S 2) ++ (wR cI a ((o + 1) + 4) (vr S) (vA S 3) (vA S 4) (vA S 5) (vA S 6) ++ (wS cI a ((o + 1) + 9) (vs S) (vA S 7) (vA S 8) (vA S 9) (vA S 10) (vA S 11) (vA S 12) qt qp ++ (wVo cI a (o + 19) (vh T') (vc T') (vA T' 0) (vA T' 1) (vA T' 2) ++ (wR cI a ((o + 19) + 4) (vr T') (vA T' 3) (vA T' 4) (vA T' 5) (vA T' 6) ++ (wS cI a ((o + 19) + 9) (vs T') (vA T' 7) (vA T' 8) (vA T' 9) (vA T' 10) (vA T' 11) (vA T' 12) qt2' qp2')))))))) (xC D A (fun E w' => ((E = exI ∧ kAdv S (nI k) (nI h) = 1) ∨ (E = exA ∧ kAdv S (nI k) (nI h) = 2)) ∧ w' = wXo cI a o  ++ (wVo cI a (o + 1) (vh S) (vc S) (vA S 0) (vA S 1) (vA S 2) ++ (wR cI a ((o + 1) + 4) (vr S) (vA S 3) (vA S 4) (vA S 5) (vA S 6) ++ (wS cI a ((o + 1) + 9) (vs S) (vA S 7) (vA S 8) (vA S 9) (vA S 10) (vA S 11) (vA S 12) qt qp ++ (wVo cI a (o + 19) (vh T) (vc T) (vA T 0) (vA T 1) (vA T 2) ++ (wR cI a ((o + 19) + 4) (vr T) (vA T 3) (vA T 4) (vA T 5) (vA T 6) ++ (wS cI a ((o + 19) + 9) (vs T) (vA T 7) (vA T 8) (vA T 9) (vA T 10) (vA T 11) (vA T 12) qt2 qp2)))))))) ([.ref (a o), .int (nI k), .int (nI h)] : List Value).toArray s 1 6 A) (F0 m 125 ls []) := by
                intro T3 qt3 qp3 x3 x4 hlt h3 h4 H locs ls HW hl
                subst h3; subst h4
                refine lv_iinc (v := (nI (f + 1))) (lv' := [(5, .int (nI (f + 1))), (4, .int ((advN S k h (f + 1)).2)), (3, .int ((advN S k h (f + 1)).1)), (2, .int (nI h)), (1, .int (nI k)), (0, .ref (a o))]) hx hb dX3_advise_125 hl (k := 0) rfl (inc1 _) (Nat.le_of_ble_eq_true rfl) rfl (fun ls hl => ?_)
                refine lv_goto (tgt := 52) hx hb dX3_advise_128 (by decide) ?_
                exact ih _ (by omega) (f + 1) T3 qt3 qp3 rfl (by omega) _ _ _ HW (lv_sub hl [0, 1, 2, 3, 4, 5] rfl)
              refine lv_iload hx hb dX3_advise_52 (lv_at hl 0 rfl) ?_
              refine lv_iconst (v := 4) hx hb dX3_advise_54 (by decide) ?_
              refine lv_icmp_ge (tgt := 131) hx hb dX3_advise_55 (by decide) (fun c55 => ?_) (fun c55 => ?_)
              · have c55 := (nI_leI (a := 4) (b := f) (by decide) (by omega)).mp c55
                obtain rfl : f = 4 := by omega
                refine lv_iload_n hx hb dX3_advise_131 rfl (lv_at hl 2 rfl) ?_
                exact gx_ret (Nat.le_of_ble_eq_true rfl) (Nat.le_of_ble_eq_true rfl) (g_iret CX HW rfl ⟨_, _, _, (by rw [kAdv]; rw [if_neg (fun h9 => h9 c11), if_neg (fun h9 => h9 c31)]), by rw [ek, eh], rfl⟩ dX3_advise_132)
              · have c55 : f < 4 := nI_lt_of (a := 4) (b := f) (by decide) (by omega) c55
                refine lv_aload_n hx hb dX3_advise_58 rfl (lv_at hl 5 rfl) ?_
                refine g_get CX HW in_X3_advise_3 0 1 rfl rfl (Nat.le_of_ble_eq_true rfl) fl_X3_advise_16 rfl dX3_advise_59 ?_
                refine lv_aload_n hx hb dX3_advise_62 rfl (lv_at hl 5 rfl) ?_
                refine g_get CX HW in_X3_advise_3 0 0 rfl rfl (Nat.le_of_ble_eq_true rfl) fl_X3_advise_10 rfl dX3_advise_63 ?_
                have HW : Hw D A s (wXo cI a o  ++ (wVo cI a (o + 1) (vh S) (vc S) (vA S 0) (vA S 1) (vA S 2) ++ (wVo cI a (o + 19) (vh T3) (vc T3) (vA T3 0) (vA T3 1) (vA T3 2) ++ (wR cI a ((o + 1) + 4) (vr S) (vA S 3) (vA S 4) (vA S 5) (vA S 6) ++ (wR cI a ((o + 19) + 4) (vr T3) (vA T3 3) (vA T3 4) (vA T3 5) (vA T3 6) ++ (wS cI a ((o + 1) + 9) (vs S) (vA S 7) (vA S 8) (vA S 9) (vA S 10) (vA S 11) (vA S 12) qt qp ++ (wS cI a ((o + 19) + 9) (vs T3) (vA T3 7) (vA T3 8) (vA T3 9) (vA T3 10) (vA T3 11) (vA T3 12) qt3 qp3))))))) H locs := Hw.p6 HW
                refine g_callV CX HW hl.1 (wXo cI a o ) ([]) (c_X2_copyFrom (o + 1) (o + 19) S T3 qt qp qt3 qp3) rfl 4 rfl rfl gX3_advise_X2_copyFrom rfl ⟨rfl, hd_X2_copyFrom⟩ ⟨rfl, rfl, (Nat.le_of_ble_eq_true rfl), (Nat.le_of_ble_eq_true rfl)⟩ ⟨(Nat.zero_le _), (Nat.zero_le _)⟩ rfl rfl (Nat.le_of_ble_eq_true rfl) dX3_advise_66 (fun v w1 H locs hp HW => ?_)
                obtain ⟨rfl, rfl⟩ := hp
                have HW : Hw D A s (wXo cI a o  ++ (wVo cI a (o + 1) (vh S) (vc S) (vA S 0) (vA S 1) (vA S 2) ++ (wVo cI a (o + 19) (vh S) (vc S) (vA S 0) (vA S 1) (vA S 2) ++ (wR cI a ((o + 1) + 4) (vr S) (vA S 3) (vA S 4) (vA S 5) (vA S 6) ++ (wR cI a ((o + 19) + 4) (vr S) (vA S 3) (vA S 4) (vA S 5) (vA S 6) ++ (wS cI a ((o + 1) + 9) (vs S) (vA S 7) (vA S 8) (vA S 9) (vA S 10) (vA S 11) (vA S 12) qt qp ++ (wS cI a ((o + 19) + 9) (vs S) (vA S 7) (vA S 8) (vA S 9) (vA S 10) (vA S 11) (vA S 12) qt qp))))))) H locs := HW
                refine W.eq (g2 := F0 m 69 ls []) rfl ?_
                have HW : Hw D A s (wXo cI a o  ++ (wVo cI a (o + 1) (vh S) (vc S) (vA S 0) (vA S 1) (vA S 2) ++ (wR cI a ((o + 1) + 4) (vr S) (vA S 3) (vA S 4) (vA S 5) (vA S 6) ++ (wS cI a ((o + 1) + 9) (vs S) (vA S 7) (vA S 8) (vA S 9) (vA S 10) (vA S 11) (vA S 12) qt qp ++ (wVo cI a (o + 19) (vh S) (vc S) (vA S 0) (vA S 1) (vA S 2) ++ (wR cI a ((o + 19) + 4) (vr S) (vA S 3) (vA S 4) (vA S 5) (vA S 6) ++ (wS cI a ((o + 19) + 9) (vs S) (vA S 7) (vA S 8) (vA S 9) (vA S 10) (vA S 11) (vA S 12) qt qp))))))) H locs := Hw.q6 HW
                refine lv_aload_n hx hb dX3_advise_69 rfl (lv_at hl 5 rfl) ?_
                refine g_get CX HW in_X3_advise_3 0 1 rfl rfl (Nat.le_of_ble_eq_true rfl) fl_X3_advise_16 rfl dX3_advise_70 ?_
                refine g_get CX HW in_X3_advise_2 19 6 rfl rfl (Nat.le_of_ble_eq_true rfl) fl_X3_advise_97 rfl dX3_advise_73 ?_
                refine lv_iload_n hx hb dX3_advise_76 rfl (lv_at hl 4 rfl) ?_
                refine lv_iload hx hb dX3_advise_77 (lv_at hl 0 rfl) ?_
                refine g_callV CX HW hl.1 (wXo cI a o  ++ (wVo cI a (o + 1) (vh S) (vc S) (vA S 0) (vA S 1) (vA S 2) ++ (wR cI a ((o + 1) + 4) (vr S) (vA S 3) (vA S 4) (vA S 5) (vA S 6) ++ (wS cI a ((o + 1) + 9) (vs S) (vA S 7) (vA S 8) (vA S 9) (vA S 10) (vA S 11) (vA S 12) qt qp ++ (wVo cI a (o + 19) (vh S) (vc S) (vA S 0) (vA S 1) (vA S 2) ++ (wR cI a ((o + 19) + 4) (vr S) (vA S 3) (vA S 4) (vA S 5) (vA S 6))))))) ([]) (c_X1_putWaxOn ((o + 19) + 9) (vs S) (vA S 7) (vA S 8) (vA S 9) (vA S 10) (vA S 11) (vA S 12) qt qp k (nI f) (by omega)) rfl 0 rfl rfl gX3_advise_X1_putWaxOn rfl ⟨rfl, hd_X1_putWaxOn⟩ ⟨rfl, rfl, (Nat.le_of_ble_eq_true rfl), (Nat.le_of_ble_eq_true rfl)⟩ ⟨(Nat.zero_le _), (Nat.zero_le _)⟩ rfl rfl (Nat.le_of_ble_eq_true rfl) dX3_advise_79 (fun v w1 H locs hp HW => ?_)
                obtain ⟨rfl, rfl⟩ := hp
                have HW : Hw D A s (wXo cI a o  ++ (wVo cI a (o + 1) (vh S) (vc S) (vA S 0) (vA S 1) (vA S 2) ++ (wR cI a ((o + 1) + 4) (vr S) (vA S 3) (vA S 4) (vA S 5) (vA S 6) ++ (wS cI a ((o + 1) + 9) (vs S) (vA S 7) (vA S 8) (vA S 9) (vA S 10) (vA S 11) (vA S 12) qt qp ++ (wVo cI a (o + 19) (vh S) (vc S) (vA S 0) (vA S 1) (vA S 2) ++ (wR cI a ((o + 19) + 4) (vr S) (vA S 3) (vA S 4) (vA S 5) (vA S 6) ++ (wS cI a ((o + 19) + 9) (vs S) (vA S 7) (vA S 8) (upd (vA S 9) k (nI f)) (upd (vA S 10) k 10) (vA S 11) (vA S 12) qt qp))))))) H locs := HW
                refine W.eq (g2 := F0 m 82 ls []) rfl ?_
                refine lv_aload_n hx hb dX3_advise_82 rfl (lv_at hl 5 rfl) ?_
                refine g_get CX HW in_X3_advise_3 0 1 rfl rfl (Nat.le_of_ble_eq_true rfl) fl_X3_advise_16 rfl dX3_advise_83 ?_
                refine lv_iload_n hx hb dX3_advise_86 rfl (lv_at hl 3 rfl) ?_
                refine g_callV CX HW hl.1 (wXo cI a o  ++ (wVo cI a (o + 1) (vh S) (vc S) (vA S 0) (vA S 1) (vA S 2) ++ (wR cI a ((o + 1) + 4) (vr S) (vA S 3) (vA S 4) (vA S 5) (vA S 6) ++ (wS cI a ((o + 1) + 9) (vs S) (vA S 7) (vA S 8) (vA S 9) (vA S 10) (vA S 11) (vA S 12) qt qp)))) ([]) (c_X2_letHoursGo (o + 19) (waxS S k f) qt qp h (Inv_waxS hI) hR (by omega) (by show vh S + h < _; omega)) rfl 0 rfl rfl gX3_advise_X2_letHoursGo rfl ⟨rfl, hd_X2_letHoursGo⟩ ⟨rfl, rfl, (Nat.le_of_ble_eq_true rfl), (Nat.le_of_ble_eq_true rfl)⟩ ⟨(Nat.zero_le _), (Nat.zero_le _)⟩ rfl rfl (Nat.le_of_ble_eq_true rfl) dX3_advise_87 (fun v w1 H locs hp HW => ?_)
                obtain ⟨qt'_1, qp'_1, hr9_1, rfl, rfl⟩ := hp
                have HW : Hw D A s (wXo cI a o  ++ (wVo cI a (o + 1) (vh S) (vc S) (vA S 0) (vA S 1) (vA S 2) ++ (wR cI a ((o + 1) + 4) (vr S) (vA S 3) (vA S 4) (vA S 5) (vA S 6) ++ (wS cI a ((o + 1) + 9) (vs S) (vA S 7) (vA S 8) (vA S 9) (vA S 10) (vA S 11) (vA S 12) qt qp ++ (wVo cI a (o + 19) (vh (hoursS h (waxS S k f))) (vc (hoursS h (waxS S k f))) (vA (hoursS h (waxS S k f)) 0) (vA (hoursS h (waxS S k f)) 1) (vA (hoursS h (waxS S k f)) 2) ++ (wR cI a ((o + 19) + 4) (vr (hoursS h (waxS S k f))) (vA (hoursS h (waxS S k f)) 3) (vA (hoursS h (waxS S k f)) 4) (vA (hoursS h (waxS S k f)) 5) (vA (hoursS h (waxS S k f)) 6) ++ (wS cI a ((o + 19) + 9) (vs (hoursS h (waxS S k f))) (vA (hoursS h (waxS S k f)) 7) (vA (hoursS h (waxS S k f)) 8) (vA (hoursS h (waxS S k f)) 9) (vA (hoursS h (waxS S k f)) 10) (vA (hoursS h (waxS S k f)) 11) (vA (hoursS h (waxS S k f)) 12) qt'_1 qp'_1))))))) H locs := HW
                refine W.eq (g2 := F0 m 90 ls [.int (sumP (hoursS h (waxS S k f)) - sumP (waxS S k f))]) rfl ?_
                refine lv_pop hx hb dX3_advise_90 rfl ?_
                refine lv_aload_n hx hb dX3_advise_91 rfl (lv_at hl 5 rfl) ?_
                refine g_get CX HW in_X3_advise_3 0 1 rfl rfl (Nat.le_of_ble_eq_true rfl) fl_X3_advise_16 rfl dX3_advise_92 ?_
                refine g_get CX HW in_X3_advise_2 19 6 rfl rfl (Nat.le_of_ble_eq_true rfl) fl_X3_advise_97 rfl dX3_advise_95 ?_
                refine g_get CX HW in_X3_advise_1 28 5 rfl rfl (Nat.le_of_ble_eq_true rfl) fl_X3_advise_172 rfl dX3_advise_98 ?_
                refine lv_iload_n hx hb dX3_advise_101 rfl (lv_at hl 4 rfl) ?_
                refine g_ald CX HW 33 (k := k) rfl rfl rfl (by omega) (Nat.le_of_ble_eq_true rfl) dX3_advise_102 ?_
                refine lv_iload hx hb dX3_advise_103 (lv_at hl 1 rfl) ?_
                refine lv_icmp_le (tgt := 125) hx hb dX3_advise_105 (by decide) (fun c105 => ?_) (fun c105 => ?_)
                · have c105 := Int32.not_lt.mpr c105
                  exact j125 (hoursS h (waxS S k f)) _ _ ((advN S k h f).1) ((advN S k h f).2) (by omega) (by simp only [advN]; rw [if_neg c105]) (by simp only [advN]; rw [if_neg c105]) _ _ _ HW (lv_sub hl [0, 1, 2, 3, 4, 5] rfl)
                · have c105 := Int32.not_le.mp c105
                  refine lv_aload_n hx hb dX3_advise_108 rfl (lv_at hl 5 rfl) ?_
                  refine g_get CX HW in_X3_advise_3 0 1 rfl rfl (Nat.le_of_ble_eq_true rfl) fl_X3_advise_16 rfl dX3_advise_109 ?_
                  refine g_get CX HW in_X3_advise_2 19 6 rfl rfl (Nat.le_of_ble_eq_true rfl) fl_X3_advise_97 rfl dX3_advise_112 ?_
                  refine g_get CX HW in_X3_advise_1 28 5 rfl rfl (Nat.le_of_ble_eq_true rfl) fl_X3_advise_172 rfl dX3_advise_115 ?_
                  refine lv_iload_n hx hb dX3_advise_118 rfl (lv_at hl 4 rfl) ?_
                  refine g_ald CX HW 33 (k := k) rfl rfl rfl (by omega) (Nat.le_of_ble_eq_true rfl) dX3_advise_119 ?_
                  refine lv_istore (lv' := [(4, .int ((vA (hoursS h (waxS S k f)) 11) k)), (5, .int (nI f)), (3, .int ((advN S k h f).1)), (2, .int (nI h)), (1, .int (nI k)), (0, .ref (a o))]) hx hb dX3_advise_120 hl (Nat.le_of_ble_eq_true rfl) rfl (fun ls hl => ?_)
                  refine lv_iload hx hb dX3_advise_122 (lv_at hl 1 rfl) ?_
                  refine lv_istore_n (lv' := [(3, .int (nI f)), (4, .int ((vA (hoursS h (waxS S k f)) 11) k)), (5, .int (nI f)), (2, .int (nI h)), (1, .int (nI k)), (0, .ref (a o))]) hx hb dX3_advise_124 rfl hl (Nat.le_of_ble_eq_true rfl) rfl (fun ls hl => ?_)
                  exact j125 (hoursS h (waxS S k f)) _ _ (nI f) ((vA (hoursS h (waxS S k f)) 11) k) (by omega) (by simp only [advN]; rw [if_pos c105]) (by simp only [advN]; rw [if_pos c105]) _ _ _ HW (lv_sub hl [2, 1, 0, 3, 4, 5] rfl)
          refine lv_istore_n (lv' := [(3, .int (0 : Int32)), (0, .ref (a o)), (1, .int (nI k)), (2, .int (nI h))]) hx hb dX3_advise_45 rfl hl (Nat.le_of_ble_eq_true rfl) rfl (fun ls hl => ?_)
          refine lv_iconst (v := (-1)) hx hb dX3_advise_46 (by decide) ?_
          refine lv_istore (lv' := [(4, .int (-1 : Int32)), (3, .int (0 : Int32)), (0, .ref (a o)), (1, .int (nI k)), (2, .int (nI h))]) hx hb dX3_advise_47 hl (Nat.le_of_ble_eq_true rfl) rfl (fun ls hl => ?_)
          refine lv_iconst (v := 0) hx hb dX3_advise_49 (by decide) ?_
          refine lv_istore (lv' := [(5, .int (0 : Int32)), (4, .int (-1 : Int32)), (3, .int (0 : Int32)), (0, .ref (a o)), (1, .int (nI k)), (2, .int (nI h))]) hx hb dX3_advise_50 hl (Nat.le_of_ble_eq_true rfl) rfl (fun ls hl => ?_)
          exact loop _ 0 T qt2 qp2 rfl (by omega) _ _ _ HW (lv_sub hl [0, 1, 2, 5, 4, 3] rfl)
      · exact gx_throw CX hext hZ HW hl.1 hst (cls := exA) (text := "hours is not 1 to 12") (ik := 30) (is := 170) (ic := 34) (by decide +kernel) xk_X3_advise_exA.1 xk_X3_advise_exA.2 (by decide +kernel) xa_X3_advise_exA xbad_34 xgood_34 dX3_advise_34 dX3_advise_37 dX3_advise_38 dX3_advise_40 dX3_advise_43 (Nat.le_of_ble_eq_true rfl) (Nat.le_of_ble_eq_true rfl) (Nat.le_of_ble_eq_true rfl) (Nat.le_of_ble_eq_true rfl) (Nat.le_of_ble_eq_true rfl) (Nat.le_of_ble_eq_true rfl) (⟨Or.inr ⟨rfl, by rw [kAdv]; rw [if_neg (fun h9 => h9 c11), if_pos c31]⟩, rfl⟩)
  · exact gx_throw CX hext hZ HW hl.1 hst (cls := exI) (text := "no such skier") (ik := 23) (is := 108) (ic := 27) (by decide +kernel) xk_X3_advise_exI.1 xk_X3_advise_exI.2 (by decide +kernel) xa_X3_advise_exI xbad_27 xgood_27 dX3_advise_14 dX3_advise_17 dX3_advise_18 dX3_advise_20 dX3_advise_23 (Nat.le_of_ble_eq_true rfl) (Nat.le_of_ble_eq_true rfl) (Nat.le_of_ble_eq_true rfl) (Nat.le_of_ble_eq_true rfl) (Nat.le_of_ble_eq_true rfl) (Nat.le_of_ble_eq_true rfl) (⟨Or.inl ⟨rfl, by rw [kAdv]; rw [if_pos c11]⟩, rfl⟩)

theorem hd_X3_digest : yX3_digest.cls ≠ "java/lang/invoke/MethodHandle" ∧ yX3_digest.cls ≠ "java/lang/invoke/VarHandle" ∧ (parseMethodDescriptor yX3_digest.desc).map (fun d => d.parameters.length) = some 0 := by decide +kernel
theorem cl_X3_digest_182 : Cond.constantLong RX3 182 (1481) ∈ wsX3_digest := by decide +kernel
theorem fl_X3_digest_10 : Cond.fieldLink RX3 10 (TX3 0).1 (TX3 0).2.1 (TX3 0).2.2.1 ∈ wsX3_digest := by decide +kernel
theorem in_X3_digest_3 : ∀ x ∈ u_ws RX3 TX3 2, x ∈ wsX3_digest := by decide +kernel
theorem fl_X3_digest_35 : Cond.fieldLink RX3 35 (TX2 5).1 (TX2 5).2.1 (TX2 5).2.2.1 ∈ wsX3_digest := by decide +kernel
theorem in_X3_digest_2 : ∀ x ∈ u_ws RX2 TX2 7, x ∈ wsX3_digest := by decide +kernel
theorem fl_X3_digest_188 : Cond.fieldLink RX3 188 (TX0 0).1 (TX0 0).2.1 (TX0 0).2.2.1 ∈ wsX3_digest := by decide +kernel
theorem in_X3_digest_0 : ∀ x ∈ u_ws RX0 TX0 5, x ∈ wsX3_digest := by decide +kernel
theorem fl_X3_digest_97 : Cond.fieldLink RX3 97 (TX2 6).1 (TX2 6).2.1 (TX2 6).2.2.1 ∈ wsX3_digest := by decide +kernel
theorem fl_X3_digest_175 : Cond.fieldLink RX3 175 (TX1 0).1 (TX1 0).2.1 (TX1 0).2.2.1 ∈ wsX3_digest := by decide +kernel
theorem in_X3_digest_1 : ∀ x ∈ u_ws RX1 TX1 9, x ∈ wsX3_digest := by decide +kernel
theorem fl_X3_digest_64 : Cond.fieldLink RX3 64 (TX2 2).1 (TX2 2).2.1 (TX2 2).2.2.1 ∈ wsX3_digest := by decide +kernel
set_option maxRecDepth 100000 in
set_option maxHeartbeats 4000000 in
theorem c_X3_digest {l : Launch} {D : va_G} {cI cL : ClassId} {a : Nat → Nat} (o : Nat) (S : VS) (qt : Nat → Int32) (qp : Nat → Int32) (T : VS) (qt2 : Nat → Int32) (qp2 : Nat → Int32) (hI : Inv S) (hR : Rep (vs S) (vq S) qt qp) (hh : vh S + 100 < 2 ^ 31) : Ct l yX3_digest wsX3_digest { frames := 3, cells := 0, slots := 0, locals := 64 } D (ty2 cI cL) [.ref (a o)] (wXo cI a o  ++ (wVo cI a (o + 1) (vh S) (vc S) (vA S 0) (vA S 1) (vA S 2) ++ (wR cI a ((o + 1) + 4) (vr S) (vA S 3) (vA S 4) (vA S 5) (vA S 6) ++ (wS cI a ((o + 1) + 9) (vs S) (vA S 7) (vA S 8) (vA S 9) (vA S 10) (vA S 11) (vA S 12) qt qp ++ (wVo cI a (o + 19) (vh T) (vc T) (vA T 0) (vA T 1) (vA T 2) ++ (wR cI a ((o + 19) + 4) (vr T) (vA T 3) (vA T 4) (vA T 5) (vA T 6) ++ (wS cI a ((o + 19) + 9) (vs T) (vA T 7) (vA T 8) (vA T 9) (vA T 10) (vA T 11) (vA T 12) qt2 qp2))))))) (fun v w' => v = some (.long (dig S)) ∧ w' = wXo cI a o  ++ (wVo cI a (o + 1) (vh S) (vc S) (vA S 0) (vA S 1) (vA S 2) ++ (wR cI a ((o + 1) + 4) (vr S) (vA S 3) (vA S 4) (vA S 5) (vA S 6) ++ (wS cI a ((o + 1) + 9) (vs S) (vA S 7) (vA S 8) (vA S 9) (vA S 10) (vA S 11) (vA S 12) qt qp ++ (wVo cI a (o + 19) (vh T) (vc T) (vA T 0) (vA T 1) (vA T 2) ++ (wR cI a ((o + 19) + 4) (vr T) (vA T 3) (vA T 4) (vA T 5) (vA T 6) ++ (wS cI a ((o + 19) + 9) (vs T) (vA T 7) (vA T 8) (vA T 9) (vA T 10) (vA T 11) (vA T 12) qt2 qp2))))))) 0 0 := by
  refine Ct.of (cc := cX3_digest) (maxL := 6) (ret := (some .long)) (by decide) rfl (Nat.le_of_ble_eq_true rfl) ?_
  intro p e s m below meth c A ls CX hin HW hl
  obtain ⟨hx, hb, hml, hr, hown, hts, hK, hA, hlk⟩ := id CX
  have hl : lv_has ls 6 [(0, .ref (a o))] := hl
  have hn6 := hI.1
  have hn8 := hI.2.1
  refine lv_ldc2 hx hb hown (hts _ cl_X3_digest_182) dX3_digest_0 ?_
  refine lv_lstore_n (lv' := [(1, .long (1481 : Int64)), (0, .ref (a o))]) hx hb dX3_digest_3 rfl hl (Nat.le_of_ble_eq_true rfl) rfl (fun ls hl => ?_)
  have lp6 : ∀ (d6 : Nat) (i : Nat), 9 - i = d6 → (i ≤ 9) → ∀ (H : Heap) (locs : List Loc) (ls : Array Slot), Hw D A s (wXo cI a o  ++ (wVo cI a (o + 1) (vh S) (vc S) (vA S 0) (vA S 1) (vA S 2) ++ (wR cI a ((o + 1) + 4) (vr S) (vA S 3) (vA S 4) (vA S 5) (vA S 6) ++ (wS cI a ((o + 1) + 9) (vs S) (vA S 7) (vA S 8) (vA S 9) (vA S 10) (vA S 11) (vA S 12) qt qp ++ (wVo cI a (o + 19) (vh T) (vc T) (vA T 0) (vA T 1) (vA T 2) ++ (wR cI a ((o + 19) + 4) (vr T) (vA T 3) (vA T 4) (vA T 5) (vA T 6) ++ (wS cI a ((o + 19) + 9) (vs T) (vA T 7) (vA T 8) (vA T 9) (vA T 10) (vA T 11) (vA T 12) qt2 qp2))))))) H locs → lv_has ls 6 [(3, .int (nI i)), (1, .long (fN (figV S) i 1481)), (0, .ref (a o))] → W p l e ({ frames := 3, cells := 0, slots := 0, locals := 64 } : Room) s m ([.ref (a o)] : List Value).toArray below meth c H locs 0 0 (MQ below (cQ D A (fun v w' => v = some (.long (dig S)) ∧ w' = wXo cI a o  ++ (wVo cI a (o + 1) (vh S) (vc S) (vA S 0) (vA S 1) (vA S 2) ++ (wR cI a ((o + 1) + 4) (vr S) (vA S 3) (vA S 4) (vA S 5) (vA S 6) ++ (wS cI a ((o + 1) + 9) (vs S) (vA S 7) (vA S 8) (vA S 9) (vA S 10) (vA S 11) (vA S 12) qt qp ++ (wVo cI a (o + 19) (vh T) (vc T) (vA T 0) (vA T 1) (vA T 2) ++ (wR cI a ((o + 19) + 4) (vr T) (vA T 3) (vA T 4) (vA T 5) (vA T 6) ++ (wS cI a ((o + 19) + 9) (vs T) (vA T 7) (vA T 8) (vA T 9) (vA T 10) (vA T 11) (vA T 12) qt2 qp2)))))))) ([.ref (a o)] : List Value).toArray s 0 0 A) (F0 m 6 ls []) := by
    intro d6
    induction d6 using Nat.strongRecOn with
    | _ d6 ih6 =>
      intro i hd6 hi H locs ls HW hl
      refine lv_iload_n hx hb dX3_digest_6 rfl (lv_at hl 0 rfl) ?_
      refine lv_bipush (v := 9) hx hb dX3_digest_7 (by decide) ?_
      refine lv_icmp_ge (tgt := 31) hx hb dX3_digest_9 (by decide) (fun c9 => ?_) (fun c9 => ?_)
      · have c9 := (nI_leI (a := 9) (b := i) (by decide) (by omega)).mp c9
        obtain rfl : i = 9 := by omega
        have lp33 : ∀ (d33 : Nat) (i : Nat), 6 - i = d33 → (i ≤ 6) → ∀ (H : Heap) (locs : List Loc) (ls : Array Slot), Hw D A s (wXo cI a o  ++ (wVo cI a (o + 1) (vh S) (vc S) (vA S 0) (vA S 1) (vA S 2) ++ (wR cI a ((o + 1) + 4) (vr S) (vA S 3) (vA S 4) (vA S 5) (vA S 6) ++ (wS cI a ((o + 1) + 9) (vs S) (vA S 7) (vA S 8) (vA S 9) (vA S 10) (vA S 11) (vA S 12) qt qp ++ (wVo cI a (o + 19) (vh T) (vc T) (vA T 0) (vA T 1) (vA T 2) ++ (wR cI a ((o + 19) + 4) (vr T) (vA T 3) (vA T 4) (vA T 5) (vA T 6) ++ (wS cI a ((o + 19) + 9) (vs T) (vA T 7) (vA T 8) (vA T 9) (vA T 10) (vA T 11) (vA T 12) qt2 qp2))))))) H locs → lv_has ls 6 [(3, .int (nI i)), (1, .long (fN (vA S 0) i (fN (figV S) 9 1481))), (0, .ref (a o))] → W p l e ({ frames := 3, cells := 0, slots := 0, locals := 64 } : Room) s m ([.ref (a o)] : List Value).toArray below meth c H locs 0 0 (MQ below (cQ D A (fun v w' => v = some (.long (dig S)) ∧ w' = wXo cI a o  ++ (wVo cI a (o + 1) (vh S) (vc S) (vA S 0) (vA S 1) (vA S 2) ++ (wR cI a ((o + 1) + 4) (vr S) (vA S 3) (vA S 4) (vA S 5) (vA S 6) ++ (wS cI a ((o + 1) + 9) (vs S) (vA S 7) (vA S 8) (vA S 9) (vA S 10) (vA S 11) (vA S 12) qt qp ++ (wVo cI a (o + 19) (vh T) (vc T) (vA T 0) (vA T 1) (vA T 2) ++ (wR cI a ((o + 19) + 4) (vr T) (vA T 3) (vA T 4) (vA T 5) (vA T 6) ++ (wS cI a ((o + 19) + 9) (vs T) (vA T 7) (vA T 8) (vA T 9) (vA T 10) (vA T 11) (vA T 12) qt2 qp2)))))))) ([.ref (a o)] : List Value).toArray s 0 0 A) (F0 m 33 ls []) := by
          intro d33
          induction d33 using Nat.strongRecOn with
          | _ d33 ih33 =>
            intro i hd33 hi H locs ls HW hl
            refine lv_iload_n hx hb dX3_digest_33 rfl (lv_at hl 0 rfl) ?_
            refine lv_bipush (v := 6) hx hb dX3_digest_34 (by decide) ?_
            refine lv_icmp_ge (tgt := 59) hx hb dX3_digest_36 (by decide) (fun c36 => ?_) (fun c36 => ?_)
            · have c36 := (nI_leI (a := 6) (b := i) (by decide) (by omega)).mp c36
              obtain rfl : i = 6 := by omega
              have lp61 : ∀ (d61 : Nat) (i : Nat), vr S - i = d61 → (i ≤ vr S) → ∀ (H : Heap) (locs : List Loc) (ls : Array Slot), Hw D A s (wXo cI a o  ++ (wVo cI a (o + 1) (vh S) (vc S) (vA S 0) (vA S 1) (vA S 2) ++ (wR cI a ((o + 1) + 4) (vr S) (vA S 3) (vA S 4) (vA S 5) (vA S 6) ++ (wS cI a ((o + 1) + 9) (vs S) (vA S 7) (vA S 8) (vA S 9) (vA S 10) (vA S 11) (vA S 12) qt qp ++ (wVo cI a (o + 19) (vh T) (vc T) (vA T 0) (vA T 1) (vA T 2) ++ (wR cI a ((o + 19) + 4) (vr T) (vA T 3) (vA T 4) (vA T 5) (vA T 6) ++ (wS cI a ((o + 19) + 9) (vs T) (vA T 7) (vA T 8) (vA T 9) (vA T 10) (vA T 11) (vA T 12) qt2 qp2))))))) H locs → lv_has ls 6 [(3, .int (nI i)), (1, .long (dgR S i (fN (vA S 0) 6 (fN (figV S) 9 1481)))), (0, .ref (a o))] → W p l e ({ frames := 3, cells := 0, slots := 0, locals := 64 } : Room) s m ([.ref (a o)] : List Value).toArray below meth c H locs 0 0 (MQ below (cQ D A (fun v w' => v = some (.long (dig S)) ∧ w' = wXo cI a o  ++ (wVo cI a (o + 1) (vh S) (vc S) (vA S 0) (vA S 1) (vA S 2) ++ (wR cI a ((o + 1) + 4) (vr S) (vA S 3) (vA S 4) (vA S 5) (vA S 6) ++ (wS cI a ((o + 1) + 9) (vs S) (vA S 7) (vA S 8) (vA S 9) (vA S 10) (vA S 11) (vA S 12) qt qp ++ (wVo cI a (o + 19) (vh T) (vc T) (vA T 0) (vA T 1) (vA T 2) ++ (wR cI a ((o + 19) + 4) (vr T) (vA T 3) (vA T 4) (vA T 5) (vA T 6) ++ (wS cI a ((o + 19) + 9) (vs T) (vA T 7) (vA T 8) (vA T 9) (vA T 10) (vA T 11) (vA T 12) qt2 qp2)))))))) ([.ref (a o)] : List Value).toArray s 0 0 A) (F0 m 61 ls []) := by
                intro d61
                induction d61 using Nat.strongRecOn with
                | _ d61 ih61 =>
                  intro i hd61 hi H locs ls HW hl
                  refine lv_iload_n hx hb dX3_digest_61 rfl (lv_at hl 0 rfl) ?_
                  refine lv_aload_n hx hb dX3_digest_62 rfl (lv_at hl 2 rfl) ?_
                  refine g_get CX HW in_X3_digest_3 0 0 rfl rfl (Nat.le_of_ble_eq_true rfl) fl_X3_digest_10 rfl dX3_digest_63 ?_
                  refine g_get CX HW in_X3_digest_2 1 5 rfl rfl (Nat.le_of_ble_eq_true rfl) fl_X3_digest_35 rfl dX3_digest_66 ?_
                  refine g_get CX HW in_X3_digest_0 5 0 rfl rfl (Nat.le_of_ble_eq_true rfl) fl_X3_digest_188 rfl dX3_digest_69 ?_
                  refine lv_icmp_ge (tgt := 114) hx hb dX3_digest_72 (by decide) (fun c72 => ?_) (fun c72 => ?_)
                  · have c72 := (nI_leI (a := vr S) (b := i) (by omega) (by omega)).mp c72
                    obtain rfl : i = vr S := by omega
                    have lp116 : ∀ (d116 : Nat) (i : Nat), vs S - i = d116 → (i ≤ vs S) → ∀ (H : Heap) (locs : List Loc) (ls : Array Slot), Hw D A s (wXo cI a o  ++ (wVo cI a (o + 1) (vh S) (vc S) (vA S 0) (vA S 1) (vA S 2) ++ (wR cI a ((o + 1) + 4) (vr S) (vA S 3) (vA S 4) (vA S 5) (vA S 6) ++ (wS cI a ((o + 1) + 9) (vs S) (vA S 7) (vA S 8) (vA S 9) (vA S 10) (vA S 11) (vA S 12) qt qp ++ (wVo cI a (o + 19) (vh T) (vc T) (vA T 0) (vA T 1) (vA T 2) ++ (wR cI a ((o + 19) + 4) (vr T) (vA T 3) (vA T 4) (vA T 5) (vA T 6) ++ (wS cI a ((o + 19) + 9) (vs T) (vA T 7) (vA T 8) (vA T 9) (vA T 10) (vA T 11) (vA T 12) qt2 qp2))))))) H locs → lv_has ls 6 [(3, .int (nI i)), (1, .long (dgS S i (dgR S (vr S) (fN (vA S 0) 6 (fN (figV S) 9 1481))))), (0, .ref (a o))] → W p l e ({ frames := 3, cells := 0, slots := 0, locals := 64 } : Room) s m ([.ref (a o)] : List Value).toArray below meth c H locs 0 0 (MQ below (cQ D A (fun v w' => v = some (.long (dig S)) ∧ w' = wXo cI a o  ++ (wVo cI a (o + 1) (vh S) (vc S) (vA S 0) (vA S 1) (vA S 2) ++ (wR cI a ((o + 1) + 4) (vr S) (vA S 3) (vA S 4) (vA S 5) (vA S 6) ++ (wS cI a ((o + 1) + 9) (vs S) (vA S 7) (vA S 8) (vA S 9) (vA S 10) (vA S 11) (vA S 12) qt qp ++ (wVo cI a (o + 19) (vh T) (vc T) (vA T 0) (vA T 1) (vA T 2) ++ (wR cI a ((o + 19) + 4) (vr T) (vA T 3) (vA T 4) (vA T 5) (vA T 6) ++ (wS cI a ((o + 19) + 9) (vs T) (vA T 7) (vA T 8) (vA T 9) (vA T 10) (vA T 11) (vA T 12) qt2 qp2)))))))) ([.ref (a o)] : List Value).toArray s 0 0 A) (F0 m 116 ls []) := by
                      intro d116
                      induction d116 using Nat.strongRecOn with
                      | _ d116 ih116 =>
                        intro i hd116 hi H locs ls HW hl
                        refine lv_iload_n hx hb dX3_digest_116 rfl (lv_at hl 0 rfl) ?_
                        refine lv_aload_n hx hb dX3_digest_117 rfl (lv_at hl 2 rfl) ?_
                        refine g_get CX HW in_X3_digest_3 0 0 rfl rfl (Nat.le_of_ble_eq_true rfl) fl_X3_digest_10 rfl dX3_digest_118 ?_
                        refine g_get CX HW in_X3_digest_2 1 6 rfl rfl (Nat.le_of_ble_eq_true rfl) fl_X3_digest_97 rfl dX3_digest_121 ?_
                        refine g_get CX HW in_X3_digest_1 10 0 rfl rfl (Nat.le_of_ble_eq_true rfl) fl_X3_digest_175 rfl dX3_digest_124 ?_
                        refine lv_icmp_ge (tgt := 170) hx hb dX3_digest_127 (by decide) (fun c127 => ?_) (fun c127 => ?_)
                        · have c127 := (nI_leI (a := vs S) (b := i) (by omega) (by omega)).mp c127
                          obtain rfl : i = vs S := by omega
                          have lp172 : ∀ (d172 : Nat) (i : Nat), 3 - i = d172 → (i ≤ 3) → ∀ (H : Heap) (locs : List Loc) (ls : Array Slot), Hw D A s (wXo cI a o  ++ (wVo cI a (o + 1) (vh S) (vc S) (vA S 0) (vA S 1) (vA S 2) ++ (wR cI a ((o + 1) + 4) (vr S) (vA S 3) (vA S 4) (vA S 5) (vA S 6) ++ (wS cI a ((o + 1) + 9) (vs S) (vA S 7) (vA S 8) (vA S 9) (vA S 10) (vA S 11) (vA S 12) qt qp ++ (wVo cI a (o + 19) (vh T) (vc T) (vA T 0) (vA T 1) (vA T 2) ++ (wR cI a ((o + 19) + 4) (vr T) (vA T 3) (vA T 4) (vA T 5) (vA T 6) ++ (wS cI a ((o + 19) + 9) (vs T) (vA T 7) (vA T 8) (vA T 9) (vA T 10) (vA T 11) (vA T 12) qt2 qp2))))))) H locs → lv_has ls 6 [(3, .int (nI i)), (1, .long (dgT S i (dgS S (vs S) (dgR S (vr S) (fN (vA S 0) 6 (fN (figV S) 9 1481)))))), (0, .ref (a o))] → W p l e ({ frames := 3, cells := 0, slots := 0, locals := 64 } : Room) s m ([.ref (a o)] : List Value).toArray below meth c H locs 0 0 (MQ below (cQ D A (fun v w' => v = some (.long (dig S)) ∧ w' = wXo cI a o  ++ (wVo cI a (o + 1) (vh S) (vc S) (vA S 0) (vA S 1) (vA S 2) ++ (wR cI a ((o + 1) + 4) (vr S) (vA S 3) (vA S 4) (vA S 5) (vA S 6) ++ (wS cI a ((o + 1) + 9) (vs S) (vA S 7) (vA S 8) (vA S 9) (vA S 10) (vA S 11) (vA S 12) qt qp ++ (wVo cI a (o + 19) (vh T) (vc T) (vA T 0) (vA T 1) (vA T 2) ++ (wR cI a ((o + 19) + 4) (vr T) (vA T 3) (vA T 4) (vA T 5) (vA T 6) ++ (wS cI a ((o + 19) + 9) (vs T) (vA T 7) (vA T 8) (vA T 9) (vA T 10) (vA T 11) (vA T 12) qt2 qp2)))))))) ([.ref (a o)] : List Value).toArray s 0 0 A) (F0 m 172 ls []) := by
                            intro d172
                            induction d172 using Nat.strongRecOn with
                            | _ d172 ih172 =>
                              intro i hd172 hi H locs ls HW hl
                              refine lv_iload_n hx hb dX3_digest_172 rfl (lv_at hl 0 rfl) ?_
                              refine lv_iconst (v := 3) hx hb dX3_digest_173 (by decide) ?_
                              refine lv_icmp_ge (tgt := 260) hx hb dX3_digest_174 (by decide) (fun c174 => ?_) (fun c174 => ?_)
                              · have c174 := (nI_leI (a := 3) (b := i) (by decide) (by omega)).mp c174
                                obtain rfl : i = 3 := by omega
                                refine lv_lload_n hx hb dX3_digest_260 rfl (lv_at hl 1 rfl) ?_
                                exact g_lret CX HW rfl ⟨rfl, rfl⟩ dX3_digest_261
                              · have c174 : i < 3 := nI_lt_of (a := 3) (b := i) (by decide) (by omega) c174
                                have lp180 : ∀ (d180 : Nat) (j : Nat), 3 - j = d180 → (j ≤ 3) → ∀ (H : Heap) (locs : List Loc) (ls : Array Slot), Hw D A s (wXo cI a o  ++ (wVo cI a (o + 1) (vh S) (vc S) (vA S 0) (vA S 1) (vA S 2) ++ (wR cI a ((o + 1) + 4) (vr S) (vA S 3) (vA S 4) (vA S 5) (vA S 6) ++ (wS cI a ((o + 1) + 9) (vs S) (vA S 7) (vA S 8) (vA S 9) (vA S 10) (vA S 11) (vA S 12) qt qp ++ (wVo cI a (o + 19) (vh T) (vc T) (vA T 0) (vA T 1) (vA T 2) ++ (wR cI a ((o + 19) + 4) (vr T) (vA T 3) (vA T 4) (vA T 5) (vA T 6) ++ (wS cI a ((o + 19) + 9) (vs T) (vA T 7) (vA T 8) (vA T 9) (vA T 10) (vA T 11) (vA T 12) qt2 qp2))))))) H locs → lv_has ls 6 [(4, .int (nI j)), (3, .int (nI i)), (1, .long (fN (figT S i) j (dgT S i (dgS S (vs S) (dgR S (vr S) (fN (vA S 0) 6 (fN (figV S) 9 1481))))))), (0, .ref (a o))] → W p l e ({ frames := 3, cells := 0, slots := 0, locals := 64 } : Room) s m ([.ref (a o)] : List Value).toArray below meth c H locs 0 0 (MQ below (cQ D A (fun v w' => v = some (.long (dig S)) ∧ w' = wXo cI a o  ++ (wVo cI a (o + 1) (vh S) (vc S) (vA S 0) (vA S 1) (vA S 2) ++ (wR cI a ((o + 1) + 4) (vr S) (vA S 3) (vA S 4) (vA S 5) (vA S 6) ++ (wS cI a ((o + 1) + 9) (vs S) (vA S 7) (vA S 8) (vA S 9) (vA S 10) (vA S 11) (vA S 12) qt qp ++ (wVo cI a (o + 19) (vh T) (vc T) (vA T 0) (vA T 1) (vA T 2) ++ (wR cI a ((o + 19) + 4) (vr T) (vA T 3) (vA T 4) (vA T 5) (vA T 6) ++ (wS cI a ((o + 19) + 9) (vs T) (vA T 7) (vA T 8) (vA T 9) (vA T 10) (vA T 11) (vA T 12) qt2 qp2)))))))) ([.ref (a o)] : List Value).toArray s 0 0 A) (F0 m 180 ls []) := by
                                  intro d180
                                  induction d180 using Nat.strongRecOn with
                                  | _ d180 ih180 =>
                                    intro j hd180 hj H locs ls HW hl
                                    refine lv_iload hx hb dX3_digest_180 (lv_at hl 0 rfl) ?_
                                    refine lv_iconst (v := 3) hx hb dX3_digest_182 (by decide) ?_
                                    refine lv_icmp_ge (tgt := 207) hx hb dX3_digest_183 (by decide) (fun c183 => ?_) (fun c183 => ?_)
                                    · have c183 := (nI_leI (a := 3) (b := j) (by decide) (by omega)).mp c183
                                      obtain rfl : j = 3 := by omega
                                      refine lv_aload_n hx hb dX3_digest_207 rfl (lv_at hl 3 rfl) ?_
                                      refine g_get CX HW in_X3_digest_3 0 0 rfl rfl (Nat.le_of_ble_eq_true rfl) fl_X3_digest_10 rfl dX3_digest_208 ?_
                                      refine g_get CX HW in_X3_digest_2 1 6 rfl rfl (Nat.le_of_ble_eq_true rfl) fl_X3_digest_97 rfl dX3_digest_211 ?_
                                      refine lv_iload_n hx hb dX3_digest_214 rfl (lv_at hl 1 rfl) ?_
                                      refine g_callV CX HW hl.1 (wXo cI a o  ++ (wVo cI a (o + 1) (vh S) (vc S) (vA S 0) (vA S 1) (vA S 2) ++ (wR cI a ((o + 1) + 4) (vr S) (vA S 3) (vA S 4) (vA S 5) (vA S 6)))) (wVo cI a (o + 19) (vh T) (vc T) (vA T 0) (vA T 1) (vA T 2) ++ (wR cI a ((o + 19) + 4) (vr T) (vA T 3) (vA T 4) (vA T 5) (vA T 6) ++ (wS cI a ((o + 19) + 9) (vs T) (vA T 7) (vA T 8) (vA T 9) (vA T 10) (vA T 11) (vA T 12) qt2 qp2))) (c_X1_waitingAt ((o + 1) + 9) (vs S) (vA S 7) (vA S 8) (vA S 9) (vA S 10) (vA S 11) (vA S 12) qt qp (nI i) hn8) rfl 0 rfl rfl gX3_digest_X1_waitingAt rfl ⟨rfl, hd_X1_waitingAt⟩ ⟨rfl, rfl, (Nat.le_of_ble_eq_true rfl), (Nat.le_of_ble_eq_true rfl)⟩ ⟨(Nat.zero_le _), (Nat.zero_le _)⟩ rfl rfl (Nat.le_of_ble_eq_true rfl) dX3_digest_215 (fun v w1 H locs hp HW => ?_)
                                      obtain ⟨rfl, rfl⟩ := hp
                                      have HW : Hw D A s (wXo cI a o  ++ (wVo cI a (o + 1) (vh S) (vc S) (vA S 0) (vA S 1) (vA S 2) ++ (wR cI a ((o + 1) + 4) (vr S) (vA S 3) (vA S 4) (vA S 5) (vA S 6) ++ (wS cI a ((o + 1) + 9) (vs S) (vA S 7) (vA S 8) (vA S 9) (vA S 10) (vA S 11) (vA S 12) qt qp ++ (wVo cI a (o + 19) (vh T) (vc T) (vA T 0) (vA T 1) (vA T 2) ++ (wR cI a ((o + 19) + 4) (vr T) (vA T 3) (vA T 4) (vA T 5) (vA T 6) ++ (wS cI a ((o + 19) + 9) (vs T) (vA T 7) (vA T 8) (vA T 9) (vA T 10) (vA T 11) (vA T 12) qt2 qp2))))))) H locs := HW
                                      refine W.eq (g2 := F0 m 218 ls [.int (nI (cntE qt (nI i) (vs S)))]) rfl ?_
                                      refine g_top (y := (nI (vq S i).length)) (by rw [hR.2.2 i (by omega)]) ?_
                                      refine lv_istore (lv' := [(4, .int (nI (vq S i).length)), (3, .int (nI i)), (1, .long (fN (figT S i) 3 (dgT S i (dgS S (vs S) (dgR S (vr S) (fN (vA S 0) 6 (fN (figV S) 9 1481))))))), (0, .ref (a o))]) hx hb dX3_digest_218 hl (Nat.le_of_ble_eq_true rfl) rfl (fun ls hl => ?_)
                                      have lp223 : ∀ (d223 : Nat) (j : Nat), (vq S i).length - j = d223 → (j ≤ (vq S i).length) → ∀ (H : Heap) (locs : List Loc) (ls : Array Slot), Hw D A s (wXo cI a o  ++ (wVo cI a (o + 1) (vh S) (vc S) (vA S 0) (vA S 1) (vA S 2) ++ (wR cI a ((o + 1) + 4) (vr S) (vA S 3) (vA S 4) (vA S 5) (vA S 6) ++ (wS cI a ((o + 1) + 9) (vs S) (vA S 7) (vA S 8) (vA S 9) (vA S 10) (vA S 11) (vA S 12) qt qp ++ (wVo cI a (o + 19) (vh T) (vc T) (vA T 0) (vA T 1) (vA T 2) ++ (wR cI a ((o + 19) + 4) (vr T) (vA T 3) (vA T 4) (vA T 5) (vA T 6) ++ (wS cI a ((o + 19) + 9) (vs T) (vA T 7) (vA T 8) (vA T 9) (vA T 10) (vA T 11) (vA T 12) qt2 qp2))))))) H locs → lv_has ls 6 [(5, .int (nI j)), (4, .int (nI (vq S i).length)), (3, .int (nI i)), (1, .long (fN (fun z => oI ((vq S i)[z]?)) j (fN (figT S i) 3 (dgT S i (dgS S (vs S) (dgR S (vr S) (fN (vA S 0) 6 (fN (figV S) 9 1481)))))))), (0, .ref (a o))] → W p l e ({ frames := 3, cells := 0, slots := 0, locals := 64 } : Room) s m ([.ref (a o)] : List Value).toArray below meth c H locs 0 0 (MQ below (cQ D A (fun v w' => v = some (.long (dig S)) ∧ w' = wXo cI a o  ++ (wVo cI a (o + 1) (vh S) (vc S) (vA S 0) (vA S 1) (vA S 2) ++ (wR cI a ((o + 1) + 4) (vr S) (vA S 3) (vA S 4) (vA S 5) (vA S 6) ++ (wS cI a ((o + 1) + 9) (vs S) (vA S 7) (vA S 8) (vA S 9) (vA S 10) (vA S 11) (vA S 12) qt qp ++ (wVo cI a (o + 19) (vh T) (vc T) (vA T 0) (vA T 1) (vA T 2) ++ (wR cI a ((o + 19) + 4) (vr T) (vA T 3) (vA T 4) (vA T 5) (vA T 6) ++ (wS cI a ((o + 19) + 9) (vs T) (vA T 7) (vA T 8) (vA T 9) (vA T 10) (vA T 11) (vA T 12) qt2 qp2)))))))) ([.ref (a o)] : List Value).toArray s 0 0 A) (F0 m 223 ls []) := by
                                        intro d223
                                        induction d223 using Nat.strongRecOn with
                                        | _ d223 ih223 =>
                                          intro j hd223 hj H locs ls HW hl
                                          refine lv_iload hx hb dX3_digest_223 (lv_at hl 0 rfl) ?_
                                          refine lv_iload hx hb dX3_digest_225 (lv_at hl 1 rfl) ?_
                                          refine lv_icmp_ge (tgt := 254) hx hb dX3_digest_227 (by decide) (fun c227 => ?_) (fun c227 => ?_)
                                          · have c227 := (nI_leI (a := (vq S i).length) (b := j) (by have := rep_len hR hn8 (show i < 3 by omega); omega) (by have := rep_len hR hn8 (show i < 3 by omega); omega)).mp c227
                                            obtain rfl : j = (vq S i).length := by omega
                                            refine lv_iinc (v := (nI (i + 1))) (lv' := [(3, .int (nI (i + 1))), (5, .int (nI ((vq S i).length))), (4, .int (nI (vq S i).length)), (1, .long (fN (fun z => oI ((vq S i)[z]?)) ((vq S i).length) (fN (figT S i) 3 (dgT S i (dgS S (vs S) (dgR S (vr S) (fN (vA S 0) 6 (fN (figV S) 9 1481)))))))), (0, .ref (a o))]) hx hb dX3_digest_254 hl (k := 2) rfl (inc1 _) (Nat.le_of_ble_eq_true rfl) rfl (fun ls hl => ?_)
                                            refine lv_goto (tgt := 172) hx hb dX3_digest_257 (by decide) ?_
                                            exact ih172 _ (by omega) (i + 1) rfl (by omega) _ _ _ HW (lv_sub hl [0, 3, 4] rfl)
                                          · have c227 : j < (vq S i).length := nI_lt_of (by have := rep_len hR hn8 (show i < 3 by omega); omega) (by have := rep_len hR hn8 (show i < 3 by omega); omega) c227
                                            have hlen := rep_len hR hn8 (show i < 3 by omega)
                                            refine lv_lload_n hx hb dX3_digest_230 rfl (lv_at hl 3 rfl) ?_
                                            refine lv_aload_n hx hb dX3_digest_231 rfl (lv_at hl 4 rfl) ?_
                                            refine g_get CX HW in_X3_digest_3 0 0 rfl rfl (Nat.le_of_ble_eq_true rfl) fl_X3_digest_10 rfl dX3_digest_232 ?_
                                            refine g_get CX HW in_X3_digest_2 1 6 rfl rfl (Nat.le_of_ble_eq_true rfl) fl_X3_digest_97 rfl dX3_digest_235 ?_
                                            refine lv_iload_n hx hb dX3_digest_238 rfl (lv_at hl 2 rfl) ?_
                                            refine lv_iload hx hb dX3_digest_239 (lv_at hl 0 rfl) ?_
                                            refine g_callV CX HW hl.1 (wXo cI a o  ++ (wVo cI a (o + 1) (vh S) (vc S) (vA S 0) (vA S 1) (vA S 2) ++ (wR cI a ((o + 1) + 4) (vr S) (vA S 3) (vA S 4) (vA S 5) (vA S 6)))) (wVo cI a (o + 19) (vh T) (vc T) (vA T 0) (vA T 1) (vA T 2) ++ (wR cI a ((o + 19) + 4) (vr T) (vA T 3) (vA T 4) (vA T 5) (vA T 6) ++ (wS cI a ((o + 19) + 9) (vs T) (vA T 7) (vA T 8) (vA T 9) (vA T 10) (vA T 11) (vA T 12) qt2 qp2))) (c_X1_at ((o + 1) + 9) (vs S) (vA S 7) (vA S 8) (vA S 9) (vA S 10) (vA S 11) (vA S 12) qt qp (nI i) (nI j) hn8) rfl 0 rfl rfl gX3_digest_X1_at rfl ⟨rfl, hd_X1_at⟩ ⟨rfl, rfl, (Nat.le_of_ble_eq_true rfl), (Nat.le_of_ble_eq_true rfl)⟩ ⟨(Nat.zero_le _), (Nat.zero_le _)⟩ rfl rfl (Nat.le_of_ble_eq_true rfl) dX3_digest_241 (fun v w1 H locs hp HW => ?_)
                                            obtain ⟨rfl, rfl⟩ := hp
                                            have HW : Hw D A s (wXo cI a o  ++ (wVo cI a (o + 1) (vh S) (vc S) (vA S 0) (vA S 1) (vA S 2) ++ (wR cI a ((o + 1) + 4) (vr S) (vA S 3) (vA S 4) (vA S 5) (vA S 6) ++ (wS cI a ((o + 1) + 9) (vs S) (vA S 7) (vA S 8) (vA S 9) (vA S 10) (vA S 11) (vA S 12) qt qp ++ (wVo cI a (o + 19) (vh T) (vc T) (vA T 0) (vA T 1) (vA T 2) ++ (wR cI a ((o + 19) + 4) (vr T) (vA T 3) (vA T 4) (vA T 5) (vA T 6) ++ (wS cI a ((o + 19) + 9) (vs T) (vA T 7) (vA T 8) (vA T 9) (vA T 10) (vA T 11) (vA T 12) qt2 qp2))))))) H locs := HW
                                            refine W.eq (g2 := F0 m 244 ls [.int (oI (fnd qt qp (nI i) (nI j) (vs S))), .long (fN (fun z => oI ((vq S i)[z]?)) j (fN (figT S i) 3 (dgT S i (dgS S (vs S) (dgR S (vr S) (fN (vA S 0) 6 (fN (figV S) 9 1481)))))))]) rfl ?_
                                            refine g_top (y := (oI ((vq S i)[j]?))) (by rw [rep_at hR hn8 (by omega) (by omega)]) ?_
                                            refine g_callS CX HW hl.1 ([]) (wXo cI a o  ++ (wVo cI a (o + 1) (vh S) (vc S) (vA S 0) (vA S 1) (vA S 2) ++ (wR cI a ((o + 1) + 4) (vr S) (vA S 3) (vA S 4) (vA S 5) (vA S 6) ++ (wS cI a ((o + 1) + 9) (vs S) (vA S 7) (vA S 8) (vA S 9) (vA S 10) (vA S 11) (vA S 12) qt qp ++ (wVo cI a (o + 19) (vh T) (vc T) (vA T 0) (vA T 1) (vA T 2) ++ (wR cI a ((o + 19) + 4) (vr T) (vA T 3) (vA T 4) (vA T 5) (vA T 6) ++ (wS cI a ((o + 19) + 9) (vs T) (vA T 7) (vA T 8) (vA T 9) (vA T 10) (vA T 11) (vA T 12) qt2 qp2))))))) (c_X3_mixed (fN (fun z => oI ((vq S i)[z]?)) j (fN (figT S i) 3 (dgT S i (dgS S (vs S) (dgR S (vr S) (fN (vA S 0) 6 (fN (figV S) 9 1481))))))) (oI ((vq S i)[j]?))) rfl gX3_digest_X3_mixed rfl hd_X3_mixed ⟨rfl, rfl, (Nat.le_of_ble_eq_true rfl), (Nat.le_of_ble_eq_true rfl)⟩ ⟨(Nat.zero_le _), (Nat.zero_le _)⟩ rfl rfl (Nat.le_of_ble_eq_true rfl) dX3_digest_244 (fun v w1 H locs hp HW => ?_)
                                            obtain ⟨rfl, rfl⟩ := hp
                                            have HW : Hw D A s (wXo cI a o  ++ (wVo cI a (o + 1) (vh S) (vc S) (vA S 0) (vA S 1) (vA S 2) ++ (wR cI a ((o + 1) + 4) (vr S) (vA S 3) (vA S 4) (vA S 5) (vA S 6) ++ (wS cI a ((o + 1) + 9) (vs S) (vA S 7) (vA S 8) (vA S 9) (vA S 10) (vA S 11) (vA S 12) qt qp ++ (wVo cI a (o + 19) (vh T) (vc T) (vA T 0) (vA T 1) (vA T 2) ++ (wR cI a ((o + 19) + 4) (vr T) (vA T 3) (vA T 4) (vA T 5) (vA T 6) ++ (wS cI a ((o + 19) + 9) (vs T) (vA T 7) (vA T 8) (vA T 9) (vA T 10) (vA T 11) (vA T 12) qt2 qp2))))))) H locs := HW
                                            refine W.eq (g2 := F0 m 247 ls [.long (mixI (fN (fun z => oI ((vq S i)[z]?)) j (fN (figT S i) 3 (dgT S i (dgS S (vs S) (dgR S (vr S) (fN (vA S 0) 6 (fN (figV S) 9 1481))))))) (oI ((vq S i)[j]?)))]) rfl ?_
                                            refine lv_lstore_n (lv' := [(1, .long (mixI (fN (fun z => oI ((vq S i)[z]?)) j (fN (figT S i) 3 (dgT S i (dgS S (vs S) (dgR S (vr S) (fN (vA S 0) 6 (fN (figV S) 9 1481))))))) (oI ((vq S i)[j]?)))), (5, .int (nI j)), (4, .int (nI (vq S i).length)), (3, .int (nI i)), (0, .ref (a o))]) hx hb dX3_digest_247 rfl hl (Nat.le_of_ble_eq_true rfl) rfl (fun ls hl => ?_)
                                            refine lv_iinc (v := (nI (j + 1))) (lv' := [(5, .int (nI (j + 1))), (1, .long (mixI (fN (fun z => oI ((vq S i)[z]?)) j (fN (figT S i) 3 (dgT S i (dgS S (vs S) (dgR S (vr S) (fN (vA S 0) 6 (fN (figV S) 9 1481))))))) (oI ((vq S i)[j]?)))), (4, .int (nI (vq S i).length)), (3, .int (nI i)), (0, .ref (a o))]) hx hb dX3_digest_248 hl (k := 1) rfl (inc1 _) (Nat.le_of_ble_eq_true rfl) rfl (fun ls hl => ?_)
                                            refine lv_goto (tgt := 223) hx hb dX3_digest_251 (by decide) ?_
                                            exact ih223 _ (by omega) (j + 1) rfl (by omega) _ _ _ HW (lv_sub hl [0, 2, 3, 1, 4] rfl)
                                      refine lv_iconst (v := 0) hx hb dX3_digest_220 (by decide) ?_
                                      refine lv_istore (lv' := [(5, .int (0 : Int32)), (4, .int (nI (vq S i).length)), (3, .int (nI i)), (1, .long (fN (figT S i) 3 (dgT S i (dgS S (vs S) (dgR S (vr S) (fN (vA S 0) 6 (fN (figV S) 9 1481))))))), (0, .ref (a o))]) hx hb dX3_digest_221 hl (Nat.le_of_ble_eq_true rfl) rfl (fun ls hl => ?_)
                                      exact lp223 _ 0 rfl (by omega) _ _ _ HW (lv_sub hl [0, 1, 2, 3, 4] rfl)
                                    · have c183 : j < 3 := nI_lt_of (a := 3) (b := j) (by decide) (by omega) c183
                                      refine lv_lload_n hx hb dX3_digest_186 rfl (lv_at hl 2 rfl) ?_
                                      refine lv_aload_n hx hb dX3_digest_187 rfl (lv_at hl 3 rfl) ?_
                                      refine g_get CX HW in_X3_digest_3 0 0 rfl rfl (Nat.le_of_ble_eq_true rfl) fl_X3_digest_10 rfl dX3_digest_188 ?_
                                      refine lv_iload_n hx hb dX3_digest_191 rfl (lv_at hl 1 rfl) ?_
                                      refine lv_iload hx hb dX3_digest_192 (lv_at hl 0 rfl) ?_
                                      refine g_callV CX HW hl.1 (wXo cI a o ) (wVo cI a (o + 19) (vh T) (vc T) (vA T 0) (vA T 1) (vA T 2) ++ (wR cI a ((o + 19) + 4) (vr T) (vA T 3) (vA T 4) (vA T 5) (vA T 6) ++ (wS cI a ((o + 19) + 9) (vs T) (vA T 7) (vA T 8) (vA T 9) (vA T 10) (vA T 11) (vA T 12) qt2 qp2))) (c_X2_towFigure (o + 1) S qt qp i j hR hn8 (by omega) (by omega)) rfl 0 rfl rfl gX3_digest_X2_towFigure rfl ⟨rfl, hd_X2_towFigure⟩ ⟨rfl, rfl, (Nat.le_of_ble_eq_true rfl), (Nat.le_of_ble_eq_true rfl)⟩ ⟨(Nat.zero_le _), (Nat.zero_le _)⟩ rfl rfl (Nat.le_of_ble_eq_true rfl) dX3_digest_194 (fun v w1 H locs hp HW => ?_)
                                      obtain ⟨rfl, rfl⟩ := hp
                                      have HW : Hw D A s (wXo cI a o  ++ (wVo cI a (o + 1) (vh S) (vc S) (vA S 0) (vA S 1) (vA S 2) ++ (wR cI a ((o + 1) + 4) (vr S) (vA S 3) (vA S 4) (vA S 5) (vA S 6) ++ (wS cI a ((o + 1) + 9) (vs S) (vA S 7) (vA S 8) (vA S 9) (vA S 10) (vA S 11) (vA S 12) qt qp ++ (wVo cI a (o + 19) (vh T) (vc T) (vA T 0) (vA T 1) (vA T 2) ++ (wR cI a ((o + 19) + 4) (vr T) (vA T 3) (vA T 4) (vA T 5) (vA T 6) ++ (wS cI a ((o + 19) + 9) (vs T) (vA T 7) (vA T 8) (vA T 9) (vA T 10) (vA T 11) (vA T 12) qt2 qp2))))))) H locs := HW
                                      refine W.eq (g2 := F0 m 197 ls [.int (figT S i j), .long (fN (figT S i) j (dgT S i (dgS S (vs S) (dgR S (vr S) (fN (vA S 0) 6 (fN (figV S) 9 1481))))))]) rfl ?_
                                      refine g_callS CX HW hl.1 ([]) (wXo cI a o  ++ (wVo cI a (o + 1) (vh S) (vc S) (vA S 0) (vA S 1) (vA S 2) ++ (wR cI a ((o + 1) + 4) (vr S) (vA S 3) (vA S 4) (vA S 5) (vA S 6) ++ (wS cI a ((o + 1) + 9) (vs S) (vA S 7) (vA S 8) (vA S 9) (vA S 10) (vA S 11) (vA S 12) qt qp ++ (wVo cI a (o + 19) (vh T) (vc T) (vA T 0) (vA T 1) (vA T 2) ++ (wR cI a ((o + 19) + 4) (vr T) (vA T 3) (vA T 4) (vA T 5) (vA T 6) ++ (wS cI a ((o + 19) + 9) (vs T) (vA T 7) (vA T 8) (vA T 9) (vA T 10) (vA T 11) (vA T 12) qt2 qp2))))))) (c_X3_mixed (fN (figT S i) j (dgT S i (dgS S (vs S) (dgR S (vr S) (fN (vA S 0) 6 (fN (figV S) 9 1481)))))) (figT S i j)) rfl gX3_digest_X3_mixed rfl hd_X3_mixed ⟨rfl, rfl, (Nat.le_of_ble_eq_true rfl), (Nat.le_of_ble_eq_true rfl)⟩ ⟨(Nat.zero_le _), (Nat.zero_le _)⟩ rfl rfl (Nat.le_of_ble_eq_true rfl) dX3_digest_197 (fun v w1 H locs hp HW => ?_)
                                      obtain ⟨rfl, rfl⟩ := hp
                                      have HW : Hw D A s (wXo cI a o  ++ (wVo cI a (o + 1) (vh S) (vc S) (vA S 0) (vA S 1) (vA S 2) ++ (wR cI a ((o + 1) + 4) (vr S) (vA S 3) (vA S 4) (vA S 5) (vA S 6) ++ (wS cI a ((o + 1) + 9) (vs S) (vA S 7) (vA S 8) (vA S 9) (vA S 10) (vA S 11) (vA S 12) qt qp ++ (wVo cI a (o + 19) (vh T) (vc T) (vA T 0) (vA T 1) (vA T 2) ++ (wR cI a ((o + 19) + 4) (vr T) (vA T 3) (vA T 4) (vA T 5) (vA T 6) ++ (wS cI a ((o + 19) + 9) (vs T) (vA T 7) (vA T 8) (vA T 9) (vA T 10) (vA T 11) (vA T 12) qt2 qp2))))))) H locs := HW
                                      refine W.eq (g2 := F0 m 200 ls [.long (mixI (fN (figT S i) j (dgT S i (dgS S (vs S) (dgR S (vr S) (fN (vA S 0) 6 (fN (figV S) 9 1481)))))) (figT S i j))]) rfl ?_
                                      refine lv_lstore_n (lv' := [(1, .long (mixI (fN (figT S i) j (dgT S i (dgS S (vs S) (dgR S (vr S) (fN (vA S 0) 6 (fN (figV S) 9 1481)))))) (figT S i j))), (4, .int (nI j)), (3, .int (nI i)), (0, .ref (a o))]) hx hb dX3_digest_200 rfl hl (Nat.le_of_ble_eq_true rfl) rfl (fun ls hl => ?_)
                                      refine lv_iinc (v := (nI (j + 1))) (lv' := [(4, .int (nI (j + 1))), (1, .long (mixI (fN (figT S i) j (dgT S i (dgS S (vs S) (dgR S (vr S) (fN (vA S 0) 6 (fN (figV S) 9 1481)))))) (figT S i j))), (3, .int (nI i)), (0, .ref (a o))]) hx hb dX3_digest_201 hl (k := 1) rfl (inc1 _) (Nat.le_of_ble_eq_true rfl) rfl (fun ls hl => ?_)
                                      refine lv_goto (tgt := 180) hx hb dX3_digest_204 (by decide) ?_
                                      exact ih180 _ (by omega) (j + 1) rfl (by omega) _ _ _ HW (lv_sub hl [0, 2, 1, 3] rfl)
                                refine lv_iconst (v := 0) hx hb dX3_digest_177 (by decide) ?_
                                refine lv_istore (lv' := [(4, .int (0 : Int32)), (3, .int (nI i)), (1, .long (dgT S i (dgS S (vs S) (dgR S (vr S) (fN (vA S 0) 6 (fN (figV S) 9 1481)))))), (0, .ref (a o))]) hx hb dX3_digest_178 hl (Nat.le_of_ble_eq_true rfl) rfl (fun ls hl => ?_)
                                exact lp180 _ 0 rfl (by omega) _ _ _ HW (lv_sub hl [0, 1, 2, 3] rfl)
                          refine lv_iconst (v := 0) hx hb dX3_digest_170 (by decide) ?_
                          refine lv_istore_n (lv' := [(3, .int (0 : Int32)), (1, .long (dgS S (vs S) (dgR S (vr S) (fN (vA S 0) 6 (fN (figV S) 9 1481))))), (0, .ref (a o))]) hx hb dX3_digest_171 rfl hl (Nat.le_of_ble_eq_true rfl) rfl (fun ls hl => ?_)
                          exact lp172 _ 0 rfl (by omega) _ _ _ HW (lv_sub hl [0, 1, 2] rfl)
                        · have c127 : i < vs S := nI_lt_of (a := vs S) (b := i) (by omega) (by omega) c127
                          have lp133 : ∀ (d133 : Nat) (j : Nat), 7 - j = d133 → (j ≤ 7) → ∀ (H : Heap) (locs : List Loc) (ls : Array Slot), Hw D A s (wXo cI a o  ++ (wVo cI a (o + 1) (vh S) (vc S) (vA S 0) (vA S 1) (vA S 2) ++ (wR cI a ((o + 1) + 4) (vr S) (vA S 3) (vA S 4) (vA S 5) (vA S 6) ++ (wS cI a ((o + 1) + 9) (vs S) (vA S 7) (vA S 8) (vA S 9) (vA S 10) (vA S 11) (vA S 12) qt qp ++ (wVo cI a (o + 19) (vh T) (vc T) (vA T 0) (vA T 1) (vA T 2) ++ (wR cI a ((o + 19) + 4) (vr T) (vA T 3) (vA T 4) (vA T 5) (vA T 6) ++ (wS cI a ((o + 19) + 9) (vs T) (vA T 7) (vA T 8) (vA T 9) (vA T 10) (vA T 11) (vA T 12) qt2 qp2))))))) H locs → lv_has ls 6 [(4, .int (nI j)), (3, .int (nI i)), (1, .long (fN (figK S i) j (dgS S i (dgR S (vr S) (fN (vA S 0) 6 (fN (figV S) 9 1481)))))), (0, .ref (a o))] → W p l e ({ frames := 3, cells := 0, slots := 0, locals := 64 } : Room) s m ([.ref (a o)] : List Value).toArray below meth c H locs 0 0 (MQ below (cQ D A (fun v w' => v = some (.long (dig S)) ∧ w' = wXo cI a o  ++ (wVo cI a (o + 1) (vh S) (vc S) (vA S 0) (vA S 1) (vA S 2) ++ (wR cI a ((o + 1) + 4) (vr S) (vA S 3) (vA S 4) (vA S 5) (vA S 6) ++ (wS cI a ((o + 1) + 9) (vs S) (vA S 7) (vA S 8) (vA S 9) (vA S 10) (vA S 11) (vA S 12) qt qp ++ (wVo cI a (o + 19) (vh T) (vc T) (vA T 0) (vA T 1) (vA T 2) ++ (wR cI a ((o + 19) + 4) (vr T) (vA T 3) (vA T 4) (vA T 5) (vA T 6) ++ (wS cI a ((o + 19) + 9) (vs T) (vA T 7) (vA T 8) (vA T 9) (vA T 10) (vA T 11) (vA T 12) qt2 qp2)))))))) ([.ref (a o)] : List Value).toArray s 0 0 A) (F0 m 133 ls []) := by
                            intro d133
                            induction d133 using Nat.strongRecOn with
                            | _ d133 ih133 =>
                              intro j hd133 hj H locs ls HW hl
                              refine lv_iload hx hb dX3_digest_133 (lv_at hl 0 rfl) ?_
                              refine lv_bipush (v := 7) hx hb dX3_digest_135 (by decide) ?_
                              refine lv_icmp_ge (tgt := 164) hx hb dX3_digest_137 (by decide) (fun c137 => ?_) (fun c137 => ?_)
                              · have c137 := (nI_leI (a := 7) (b := j) (by decide) (by omega)).mp c137
                                obtain rfl : j = 7 := by omega
                                refine lv_iinc (v := (nI (i + 1))) (lv' := [(3, .int (nI (i + 1))), (4, .int (nI 7)), (1, .long (fN (figK S i) 7 (dgS S i (dgR S (vr S) (fN (vA S 0) 6 (fN (figV S) 9 1481)))))), (0, .ref (a o))]) hx hb dX3_digest_164 hl (k := 1) rfl (inc1 _) (Nat.le_of_ble_eq_true rfl) rfl (fun ls hl => ?_)
                                refine lv_goto (tgt := 116) hx hb dX3_digest_167 (by decide) ?_
                                exact ih116 _ (by omega) (i + 1) rfl (by omega) _ _ _ HW (lv_sub hl [0, 2, 3] rfl)
                              · have c137 : j < 7 := nI_lt_of (a := 7) (b := j) (by decide) (by omega) c137
                                refine lv_lload_n hx hb dX3_digest_140 rfl (lv_at hl 2 rfl) ?_
                                refine lv_aload_n hx hb dX3_digest_141 rfl (lv_at hl 3 rfl) ?_
                                refine g_get CX HW in_X3_digest_3 0 0 rfl rfl (Nat.le_of_ble_eq_true rfl) fl_X3_digest_10 rfl dX3_digest_142 ?_
                                refine g_get CX HW in_X3_digest_2 1 6 rfl rfl (Nat.le_of_ble_eq_true rfl) fl_X3_digest_97 rfl dX3_digest_145 ?_
                                refine lv_iload_n hx hb dX3_digest_148 rfl (lv_at hl 1 rfl) ?_
                                refine lv_iload hx hb dX3_digest_149 (lv_at hl 0 rfl) ?_
                                refine g_callV CX HW hl.1 (wXo cI a o  ++ (wVo cI a (o + 1) (vh S) (vc S) (vA S 0) (vA S 1) (vA S 2) ++ (wR cI a ((o + 1) + 4) (vr S) (vA S 3) (vA S 4) (vA S 5) (vA S 6)))) (wVo cI a (o + 19) (vh T) (vc T) (vA T 0) (vA T 1) (vA T 2) ++ (wR cI a ((o + 19) + 4) (vr T) (vA T 3) (vA T 4) (vA T 5) (vA T 6) ++ (wS cI a ((o + 19) + 9) (vs T) (vA T 7) (vA T 8) (vA T 9) (vA T 10) (vA T 11) (vA T 12) qt2 qp2))) (c_X1_figure ((o + 1) + 9) (vs S) (vA S 7) (vA S 8) (vA S 9) (vA S 10) (vA S 11) (vA S 12) qt qp i j (by omega) (by omega)) rfl 0 rfl rfl gX3_digest_X1_figure rfl ⟨rfl, hd_X1_figure⟩ ⟨rfl, rfl, (Nat.le_of_ble_eq_true rfl), (Nat.le_of_ble_eq_true rfl)⟩ ⟨(Nat.zero_le _), (Nat.zero_le _)⟩ rfl rfl (Nat.le_of_ble_eq_true rfl) dX3_digest_151 (fun v w1 H locs hp HW => ?_)
                                obtain ⟨rfl, rfl⟩ := hp
                                have HW : Hw D A s (wXo cI a o  ++ (wVo cI a (o + 1) (vh S) (vc S) (vA S 0) (vA S 1) (vA S 2) ++ (wR cI a ((o + 1) + 4) (vr S) (vA S 3) (vA S 4) (vA S 5) (vA S 6) ++ (wS cI a ((o + 1) + 9) (vs S) (vA S 7) (vA S 8) (vA S 9) (vA S 10) (vA S 11) (vA S 12) qt qp ++ (wVo cI a (o + 19) (vh T) (vc T) (vA T 0) (vA T 1) (vA T 2) ++ (wR cI a ((o + 19) + 4) (vr T) (vA T 3) (vA T 4) (vA T 5) (vA T 6) ++ (wS cI a ((o + 19) + 9) (vs T) (vA T 7) (vA T 8) (vA T 9) (vA T 10) (vA T 11) (vA T 12) qt2 qp2))))))) H locs := HW
                                refine W.eq (g2 := F0 m 154 ls [.int (figS (vA S 7) (vA S 8) (vA S 9) (vA S 10) (vA S 11) (vA S 12) qt i j), .long (fN (figK S i) j (dgS S i (dgR S (vr S) (fN (vA S 0) 6 (fN (figV S) 9 1481)))))]) rfl ?_
                                refine g_top (y := (figK S i j)) (figS_qt (rep_towQ hR hn8 (by omega))) ?_
                                refine g_callS CX HW hl.1 ([]) (wXo cI a o  ++ (wVo cI a (o + 1) (vh S) (vc S) (vA S 0) (vA S 1) (vA S 2) ++ (wR cI a ((o + 1) + 4) (vr S) (vA S 3) (vA S 4) (vA S 5) (vA S 6) ++ (wS cI a ((o + 1) + 9) (vs S) (vA S 7) (vA S 8) (vA S 9) (vA S 10) (vA S 11) (vA S 12) qt qp ++ (wVo cI a (o + 19) (vh T) (vc T) (vA T 0) (vA T 1) (vA T 2) ++ (wR cI a ((o + 19) + 4) (vr T) (vA T 3) (vA T 4) (vA T 5) (vA T 6) ++ (wS cI a ((o + 19) + 9) (vs T) (vA T 7) (vA T 8) (vA T 9) (vA T 10) (vA T 11) (vA T 12) qt2 qp2))))))) (c_X3_mixed (fN (figK S i) j (dgS S i (dgR S (vr S) (fN (vA S 0) 6 (fN (figV S) 9 1481))))) (figK S i j)) rfl gX3_digest_X3_mixed rfl hd_X3_mixed ⟨rfl, rfl, (Nat.le_of_ble_eq_true rfl), (Nat.le_of_ble_eq_true rfl)⟩ ⟨(Nat.zero_le _), (Nat.zero_le _)⟩ rfl rfl (Nat.le_of_ble_eq_true rfl) dX3_digest_154 (fun v w1 H locs hp HW => ?_)
                                obtain ⟨rfl, rfl⟩ := hp
                                have HW : Hw D A s (wXo cI a o  ++ (wVo cI a (o + 1) (vh S) (vc S) (vA S 0) (vA S 1) (vA S 2) ++ (wR cI a ((o + 1) + 4) (vr S) (vA S 3) (vA S 4) (vA S 5) (vA S 6) ++ (wS cI a ((o + 1) + 9) (vs S) (vA S 7) (vA S 8) (vA S 9) (vA S 10) (vA S 11) (vA S 12) qt qp ++ (wVo cI a (o + 19) (vh T) (vc T) (vA T 0) (vA T 1) (vA T 2) ++ (wR cI a ((o + 19) + 4) (vr T) (vA T 3) (vA T 4) (vA T 5) (vA T 6) ++ (wS cI a ((o + 19) + 9) (vs T) (vA T 7) (vA T 8) (vA T 9) (vA T 10) (vA T 11) (vA T 12) qt2 qp2))))))) H locs := HW
                                refine W.eq (g2 := F0 m 157 ls [.long (mixI (fN (figK S i) j (dgS S i (dgR S (vr S) (fN (vA S 0) 6 (fN (figV S) 9 1481))))) (figK S i j))]) rfl ?_
                                refine lv_lstore_n (lv' := [(1, .long (mixI (fN (figK S i) j (dgS S i (dgR S (vr S) (fN (vA S 0) 6 (fN (figV S) 9 1481))))) (figK S i j))), (4, .int (nI j)), (3, .int (nI i)), (0, .ref (a o))]) hx hb dX3_digest_157 rfl hl (Nat.le_of_ble_eq_true rfl) rfl (fun ls hl => ?_)
                                refine lv_iinc (v := (nI (j + 1))) (lv' := [(4, .int (nI (j + 1))), (1, .long (mixI (fN (figK S i) j (dgS S i (dgR S (vr S) (fN (vA S 0) 6 (fN (figV S) 9 1481))))) (figK S i j))), (3, .int (nI i)), (0, .ref (a o))]) hx hb dX3_digest_158 hl (k := 1) rfl (inc1 _) (Nat.le_of_ble_eq_true rfl) rfl (fun ls hl => ?_)
                                refine lv_goto (tgt := 133) hx hb dX3_digest_161 (by decide) ?_
                                exact ih133 _ (by omega) (j + 1) rfl (by omega) _ _ _ HW (lv_sub hl [0, 2, 1, 3] rfl)
                          refine lv_iconst (v := 0) hx hb dX3_digest_130 (by decide) ?_
                          refine lv_istore (lv' := [(4, .int (0 : Int32)), (3, .int (nI i)), (1, .long (dgS S i (dgR S (vr S) (fN (vA S 0) 6 (fN (figV S) 9 1481))))), (0, .ref (a o))]) hx hb dX3_digest_131 hl (Nat.le_of_ble_eq_true rfl) rfl (fun ls hl => ?_)
                          exact lp133 _ 0 rfl (by omega) _ _ _ HW (lv_sub hl [0, 1, 2, 3] rfl)
                    refine lv_iconst (v := 0) hx hb dX3_digest_114 (by decide) ?_
                    refine lv_istore_n (lv' := [(3, .int (0 : Int32)), (1, .long (dgR S (vr S) (fN (vA S 0) 6 (fN (figV S) 9 1481)))), (0, .ref (a o))]) hx hb dX3_digest_115 rfl hl (Nat.le_of_ble_eq_true rfl) rfl (fun ls hl => ?_)
                    exact lp116 _ 0 rfl (by omega) _ _ _ HW (lv_sub hl [0, 1, 2] rfl)
                  · have c72 : i < vr S := nI_lt_of (a := vr S) (b := i) (by omega) (by omega) c72
                    have lp78 : ∀ (d78 : Nat) (j : Nat), 5 - j = d78 → (j ≤ 5) → ∀ (H : Heap) (locs : List Loc) (ls : Array Slot), Hw D A s (wXo cI a o  ++ (wVo cI a (o + 1) (vh S) (vc S) (vA S 0) (vA S 1) (vA S 2) ++ (wR cI a ((o + 1) + 4) (vr S) (vA S 3) (vA S 4) (vA S 5) (vA S 6) ++ (wS cI a ((o + 1) + 9) (vs S) (vA S 7) (vA S 8) (vA S 9) (vA S 10) (vA S 11) (vA S 12) qt qp ++ (wVo cI a (o + 19) (vh T) (vc T) (vA T 0) (vA T 1) (vA T 2) ++ (wR cI a ((o + 19) + 4) (vr T) (vA T 3) (vA T 4) (vA T 5) (vA T 6) ++ (wS cI a ((o + 19) + 9) (vs T) (vA T 7) (vA T 8) (vA T 9) (vA T 10) (vA T 11) (vA T 12) qt2 qp2))))))) H locs → lv_has ls 6 [(4, .int (nI j)), (3, .int (nI i)), (1, .long (fN (figR (vA S 3) (vA S 4) (vA S 5) (vA S 6) i) j (dgR S i (fN (vA S 0) 6 (fN (figV S) 9 1481))))), (0, .ref (a o))] → W p l e ({ frames := 3, cells := 0, slots := 0, locals := 64 } : Room) s m ([.ref (a o)] : List Value).toArray below meth c H locs 0 0 (MQ below (cQ D A (fun v w' => v = some (.long (dig S)) ∧ w' = wXo cI a o  ++ (wVo cI a (o + 1) (vh S) (vc S) (vA S 0) (vA S 1) (vA S 2) ++ (wR cI a ((o + 1) + 4) (vr S) (vA S 3) (vA S 4) (vA S 5) (vA S 6) ++ (wS cI a ((o + 1) + 9) (vs S) (vA S 7) (vA S 8) (vA S 9) (vA S 10) (vA S 11) (vA S 12) qt qp ++ (wVo cI a (o + 19) (vh T) (vc T) (vA T 0) (vA T 1) (vA T 2) ++ (wR cI a ((o + 19) + 4) (vr T) (vA T 3) (vA T 4) (vA T 5) (vA T 6) ++ (wS cI a ((o + 19) + 9) (vs T) (vA T 7) (vA T 8) (vA T 9) (vA T 10) (vA T 11) (vA T 12) qt2 qp2)))))))) ([.ref (a o)] : List Value).toArray s 0 0 A) (F0 m 78 ls []) := by
                      intro d78
                      induction d78 using Nat.strongRecOn with
                      | _ d78 ih78 =>
                        intro j hd78 hj H locs ls HW hl
                        refine lv_iload hx hb dX3_digest_78 (lv_at hl 0 rfl) ?_
                        refine lv_iconst (v := 5) hx hb dX3_digest_80 (by decide) ?_
                        refine lv_icmp_ge (tgt := 108) hx hb dX3_digest_81 (by decide) (fun c81 => ?_) (fun c81 => ?_)
                        · have c81 := (nI_leI (a := 5) (b := j) (by decide) (by omega)).mp c81
                          obtain rfl : j = 5 := by omega
                          refine lv_iinc (v := (nI (i + 1))) (lv' := [(3, .int (nI (i + 1))), (4, .int (nI 5)), (1, .long (fN (figR (vA S 3) (vA S 4) (vA S 5) (vA S 6) i) 5 (dgR S i (fN (vA S 0) 6 (fN (figV S) 9 1481))))), (0, .ref (a o))]) hx hb dX3_digest_108 hl (k := 1) rfl (inc1 _) (Nat.le_of_ble_eq_true rfl) rfl (fun ls hl => ?_)
                          refine lv_goto (tgt := 61) hx hb dX3_digest_111 (by decide) ?_
                          exact ih61 _ (by omega) (i + 1) rfl (by omega) _ _ _ HW (lv_sub hl [0, 2, 3] rfl)
                        · have c81 : j < 5 := nI_lt_of (a := 5) (b := j) (by decide) (by omega) c81
                          refine lv_lload_n hx hb dX3_digest_84 rfl (lv_at hl 2 rfl) ?_
                          refine lv_aload_n hx hb dX3_digest_85 rfl (lv_at hl 3 rfl) ?_
                          refine g_get CX HW in_X3_digest_3 0 0 rfl rfl (Nat.le_of_ble_eq_true rfl) fl_X3_digest_10 rfl dX3_digest_86 ?_
                          refine g_get CX HW in_X3_digest_2 1 5 rfl rfl (Nat.le_of_ble_eq_true rfl) fl_X3_digest_35 rfl dX3_digest_89 ?_
                          refine lv_iload_n hx hb dX3_digest_92 rfl (lv_at hl 1 rfl) ?_
                          refine lv_iload hx hb dX3_digest_93 (lv_at hl 0 rfl) ?_
                          refine g_callV CX HW hl.1 (wXo cI a o  ++ (wVo cI a (o + 1) (vh S) (vc S) (vA S 0) (vA S 1) (vA S 2))) (wS cI a ((o + 1) + 9) (vs S) (vA S 7) (vA S 8) (vA S 9) (vA S 10) (vA S 11) (vA S 12) qt qp ++ (wVo cI a (o + 19) (vh T) (vc T) (vA T 0) (vA T 1) (vA T 2) ++ (wR cI a ((o + 19) + 4) (vr T) (vA T 3) (vA T 4) (vA T 5) (vA T 6) ++ (wS cI a ((o + 19) + 9) (vs T) (vA T 7) (vA T 8) (vA T 9) (vA T 10) (vA T 11) (vA T 12) qt2 qp2)))) (c_X0_figure ((o + 1) + 4) (vr S) (vA S 3) (vA S 4) (vA S 5) (vA S 6) i j (by omega) (by omega)) rfl 0 rfl rfl gX3_digest_X0_figure rfl ⟨rfl, hd_X0_figure⟩ ⟨rfl, rfl, (Nat.le_of_ble_eq_true rfl), (Nat.le_of_ble_eq_true rfl)⟩ ⟨(Nat.zero_le _), (Nat.zero_le _)⟩ rfl rfl (Nat.le_of_ble_eq_true rfl) dX3_digest_95 (fun v w1 H locs hp HW => ?_)
                          obtain ⟨rfl, rfl⟩ := hp
                          have HW : Hw D A s (wXo cI a o  ++ (wVo cI a (o + 1) (vh S) (vc S) (vA S 0) (vA S 1) (vA S 2) ++ (wR cI a ((o + 1) + 4) (vr S) (vA S 3) (vA S 4) (vA S 5) (vA S 6) ++ (wS cI a ((o + 1) + 9) (vs S) (vA S 7) (vA S 8) (vA S 9) (vA S 10) (vA S 11) (vA S 12) qt qp ++ (wVo cI a (o + 19) (vh T) (vc T) (vA T 0) (vA T 1) (vA T 2) ++ (wR cI a ((o + 19) + 4) (vr T) (vA T 3) (vA T 4) (vA T 5) (vA T 6) ++ (wS cI a ((o + 19) + 9) (vs T) (vA T 7) (vA T 8) (vA T 9) (vA T 10) (vA T 11) (vA T 12) qt2 qp2))))))) H locs := HW
                          refine W.eq (g2 := F0 m 98 ls [.int (figR (vA S 3) (vA S 4) (vA S 5) (vA S 6) i j), .long (fN (figR (vA S 3) (vA S 4) (vA S 5) (vA S 6) i) j (dgR S i (fN (vA S 0) 6 (fN (figV S) 9 1481))))]) rfl ?_
                          refine g_callS CX HW hl.1 ([]) (wXo cI a o  ++ (wVo cI a (o + 1) (vh S) (vc S) (vA S 0) (vA S 1) (vA S 2) ++ (wR cI a ((o + 1) + 4) (vr S) (vA S 3) (vA S 4) (vA S 5) (vA S 6) ++ (wS cI a ((o + 1) + 9) (vs S) (vA S 7) (vA S 8) (vA S 9) (vA S 10) (vA S 11) (vA S 12) qt qp ++ (wVo cI a (o + 19) (vh T) (vc T) (vA T 0) (vA T 1) (vA T 2) ++ (wR cI a ((o + 19) + 4) (vr T) (vA T 3) (vA T 4) (vA T 5) (vA T 6) ++ (wS cI a ((o + 19) + 9) (vs T) (vA T 7) (vA T 8) (vA T 9) (vA T 10) (vA T 11) (vA T 12) qt2 qp2))))))) (c_X3_mixed (fN (figR (vA S 3) (vA S 4) (vA S 5) (vA S 6) i) j (dgR S i (fN (vA S 0) 6 (fN (figV S) 9 1481)))) (figR (vA S 3) (vA S 4) (vA S 5) (vA S 6) i j)) rfl gX3_digest_X3_mixed rfl hd_X3_mixed ⟨rfl, rfl, (Nat.le_of_ble_eq_true rfl), (Nat.le_of_ble_eq_true rfl)⟩ ⟨(Nat.zero_le _), (Nat.zero_le _)⟩ rfl rfl (Nat.le_of_ble_eq_true rfl) dX3_digest_98 (fun v w1 H locs hp HW => ?_)
                          obtain ⟨rfl, rfl⟩ := hp
                          have HW : Hw D A s (wXo cI a o  ++ (wVo cI a (o + 1) (vh S) (vc S) (vA S 0) (vA S 1) (vA S 2) ++ (wR cI a ((o + 1) + 4) (vr S) (vA S 3) (vA S 4) (vA S 5) (vA S 6) ++ (wS cI a ((o + 1) + 9) (vs S) (vA S 7) (vA S 8) (vA S 9) (vA S 10) (vA S 11) (vA S 12) qt qp ++ (wVo cI a (o + 19) (vh T) (vc T) (vA T 0) (vA T 1) (vA T 2) ++ (wR cI a ((o + 19) + 4) (vr T) (vA T 3) (vA T 4) (vA T 5) (vA T 6) ++ (wS cI a ((o + 19) + 9) (vs T) (vA T 7) (vA T 8) (vA T 9) (vA T 10) (vA T 11) (vA T 12) qt2 qp2))))))) H locs := HW
                          refine W.eq (g2 := F0 m 101 ls [.long (mixI (fN (figR (vA S 3) (vA S 4) (vA S 5) (vA S 6) i) j (dgR S i (fN (vA S 0) 6 (fN (figV S) 9 1481)))) (figR (vA S 3) (vA S 4) (vA S 5) (vA S 6) i j))]) rfl ?_
                          refine lv_lstore_n (lv' := [(1, .long (mixI (fN (figR (vA S 3) (vA S 4) (vA S 5) (vA S 6) i) j (dgR S i (fN (vA S 0) 6 (fN (figV S) 9 1481)))) (figR (vA S 3) (vA S 4) (vA S 5) (vA S 6) i j))), (4, .int (nI j)), (3, .int (nI i)), (0, .ref (a o))]) hx hb dX3_digest_101 rfl hl (Nat.le_of_ble_eq_true rfl) rfl (fun ls hl => ?_)
                          refine lv_iinc (v := (nI (j + 1))) (lv' := [(4, .int (nI (j + 1))), (1, .long (mixI (fN (figR (vA S 3) (vA S 4) (vA S 5) (vA S 6) i) j (dgR S i (fN (vA S 0) 6 (fN (figV S) 9 1481)))) (figR (vA S 3) (vA S 4) (vA S 5) (vA S 6) i j))), (3, .int (nI i)), (0, .ref (a o))]) hx hb dX3_digest_102 hl (k := 1) rfl (inc1 _) (Nat.le_of_ble_eq_true rfl) rfl (fun ls hl => ?_)
                          refine lv_goto (tgt := 78) hx hb dX3_digest_105 (by decide) ?_
                          exact ih78 _ (by omega) (j + 1) rfl (by omega) _ _ _ HW (lv_sub hl [0, 2, 1, 3] rfl)
                    refine lv_iconst (v := 0) hx hb dX3_digest_75 (by decide) ?_
                    refine lv_istore (lv' := [(4, .int (0 : Int32)), (3, .int (nI i)), (1, .long (dgR S i (fN (vA S 0) 6 (fN (figV S) 9 1481)))), (0, .ref (a o))]) hx hb dX3_digest_76 hl (Nat.le_of_ble_eq_true rfl) rfl (fun ls hl => ?_)
                    exact lp78 _ 0 rfl (by omega) _ _ _ HW (lv_sub hl [0, 1, 2, 3] rfl)
              refine lv_iconst (v := 0) hx hb dX3_digest_59 (by decide) ?_
              refine lv_istore_n (lv' := [(3, .int (0 : Int32)), (1, .long (fN (vA S 0) 6 (fN (figV S) 9 1481))), (0, .ref (a o))]) hx hb dX3_digest_60 rfl hl (Nat.le_of_ble_eq_true rfl) rfl (fun ls hl => ?_)
              exact lp61 _ 0 rfl (by omega) _ _ _ HW (lv_sub hl [0, 1, 2] rfl)
            · have c36 : i < 6 := nI_lt_of (a := 6) (b := i) (by decide) (by omega) c36
              refine lv_lload_n hx hb dX3_digest_39 rfl (lv_at hl 1 rfl) ?_
              refine lv_aload_n hx hb dX3_digest_40 rfl (lv_at hl 2 rfl) ?_
              refine g_get CX HW in_X3_digest_3 0 0 rfl rfl (Nat.le_of_ble_eq_true rfl) fl_X3_digest_10 rfl dX3_digest_41 ?_
              refine g_get CX HW in_X3_digest_2 1 2 rfl rfl (Nat.le_of_ble_eq_true rfl) fl_X3_digest_64 rfl dX3_digest_44 ?_
              refine lv_iload_n hx hb dX3_digest_47 rfl (lv_at hl 0 rfl) ?_
              refine g_ald CX HW 2 (k := i) rfl rfl rfl (by omega) (Nat.le_of_ble_eq_true rfl) dX3_digest_48 ?_
              refine g_callS CX HW hl.1 ([]) (wXo cI a o  ++ (wVo cI a (o + 1) (vh S) (vc S) (vA S 0) (vA S 1) (vA S 2) ++ (wR cI a ((o + 1) + 4) (vr S) (vA S 3) (vA S 4) (vA S 5) (vA S 6) ++ (wS cI a ((o + 1) + 9) (vs S) (vA S 7) (vA S 8) (vA S 9) (vA S 10) (vA S 11) (vA S 12) qt qp ++ (wVo cI a (o + 19) (vh T) (vc T) (vA T 0) (vA T 1) (vA T 2) ++ (wR cI a ((o + 19) + 4) (vr T) (vA T 3) (vA T 4) (vA T 5) (vA T 6) ++ (wS cI a ((o + 19) + 9) (vs T) (vA T 7) (vA T 8) (vA T 9) (vA T 10) (vA T 11) (vA T 12) qt2 qp2))))))) (c_X3_mixed (fN (vA S 0) i (fN (figV S) 9 1481)) (vA S 0 i)) rfl gX3_digest_X3_mixed rfl hd_X3_mixed ⟨rfl, rfl, (Nat.le_of_ble_eq_true rfl), (Nat.le_of_ble_eq_true rfl)⟩ ⟨(Nat.zero_le _), (Nat.zero_le _)⟩ rfl rfl (Nat.le_of_ble_eq_true rfl) dX3_digest_49 (fun v w1 H locs hp HW => ?_)
              obtain ⟨rfl, rfl⟩ := hp
              have HW : Hw D A s (wXo cI a o  ++ (wVo cI a (o + 1) (vh S) (vc S) (vA S 0) (vA S 1) (vA S 2) ++ (wR cI a ((o + 1) + 4) (vr S) (vA S 3) (vA S 4) (vA S 5) (vA S 6) ++ (wS cI a ((o + 1) + 9) (vs S) (vA S 7) (vA S 8) (vA S 9) (vA S 10) (vA S 11) (vA S 12) qt qp ++ (wVo cI a (o + 19) (vh T) (vc T) (vA T 0) (vA T 1) (vA T 2) ++ (wR cI a ((o + 19) + 4) (vr T) (vA T 3) (vA T 4) (vA T 5) (vA T 6) ++ (wS cI a ((o + 19) + 9) (vs T) (vA T 7) (vA T 8) (vA T 9) (vA T 10) (vA T 11) (vA T 12) qt2 qp2))))))) H locs := HW
              refine W.eq (g2 := F0 m 52 ls [.long (mixI (fN (vA S 0) i (fN (figV S) 9 1481)) (vA S 0 i))]) rfl ?_
              refine lv_lstore_n (lv' := [(1, .long (mixI (fN (vA S 0) i (fN (figV S) 9 1481)) (vA S 0 i))), (3, .int (nI i)), (0, .ref (a o))]) hx hb dX3_digest_52 rfl hl (Nat.le_of_ble_eq_true rfl) rfl (fun ls hl => ?_)
              refine lv_iinc (v := (nI (i + 1))) (lv' := [(3, .int (nI (i + 1))), (1, .long (mixI (fN (vA S 0) i (fN (figV S) 9 1481)) (vA S 0 i))), (0, .ref (a o))]) hx hb dX3_digest_53 hl (k := 1) rfl (inc1 _) (Nat.le_of_ble_eq_true rfl) rfl (fun ls hl => ?_)
              refine lv_goto (tgt := 33) hx hb dX3_digest_56 (by decide) ?_
              exact ih33 _ (by omega) (i + 1) rfl (by omega) _ _ _ HW (lv_sub hl [0, 1, 2] rfl)
        refine lv_iconst (v := 0) hx hb dX3_digest_31 (by decide) ?_
        refine lv_istore_n (lv' := [(3, .int (0 : Int32)), (1, .long (fN (figV S) 9 1481)), (0, .ref (a o))]) hx hb dX3_digest_32 rfl hl (Nat.le_of_ble_eq_true rfl) rfl (fun ls hl => ?_)
        exact lp33 _ 0 rfl (by omega) _ _ _ HW (lv_sub hl [0, 1, 2] rfl)
      · have c9 : i < 9 := nI_lt_of (a := 9) (b := i) (by decide) (by omega) c9
        refine lv_lload_n hx hb dX3_digest_12 rfl (lv_at hl 1 rfl) ?_
        refine lv_aload_n hx hb dX3_digest_13 rfl (lv_at hl 2 rfl) ?_
        refine g_get CX HW in_X3_digest_3 0 0 rfl rfl (Nat.le_of_ble_eq_true rfl) fl_X3_digest_10 rfl dX3_digest_14 ?_
        refine lv_iload_n hx hb dX3_digest_17 rfl (lv_at hl 0 rfl) ?_
        refine g_callV CX HW hl.1 (wXo cI a o ) (wVo cI a (o + 19) (vh T) (vc T) (vA T 0) (vA T 1) (vA T 2) ++ (wR cI a ((o + 19) + 4) (vr T) (vA T 3) (vA T 4) (vA T 5) (vA T 6) ++ (wS cI a ((o + 19) + 9) (vs T) (vA T 7) (vA T 8) (vA T 9) (vA T 10) (vA T 11) (vA T 12) qt2 qp2))) (c_X2_figure (o + 1) S qt qp i hR hn6 hn8 (by omega) (by omega)) rfl 0 rfl rfl gX3_digest_X2_figure rfl ⟨rfl, hd_X2_figure⟩ ⟨rfl, rfl, (Nat.le_of_ble_eq_true rfl), (Nat.le_of_ble_eq_true rfl)⟩ ⟨(Nat.zero_le _), (Nat.zero_le _)⟩ rfl rfl (Nat.le_of_ble_eq_true rfl) dX3_digest_18 (fun v w1 H locs hp HW => ?_)
        obtain ⟨rfl, rfl⟩ := hp
        have HW : Hw D A s (wXo cI a o  ++ (wVo cI a (o + 1) (vh S) (vc S) (vA S 0) (vA S 1) (vA S 2) ++ (wR cI a ((o + 1) + 4) (vr S) (vA S 3) (vA S 4) (vA S 5) (vA S 6) ++ (wS cI a ((o + 1) + 9) (vs S) (vA S 7) (vA S 8) (vA S 9) (vA S 10) (vA S 11) (vA S 12) qt qp ++ (wVo cI a (o + 19) (vh T) (vc T) (vA T 0) (vA T 1) (vA T 2) ++ (wR cI a ((o + 19) + 4) (vr T) (vA T 3) (vA T 4) (vA T 5) (vA T 6) ++ (wS cI a ((o + 19) + 9) (vs T) (vA T 7) (vA T 8) (vA T 9) (vA T 10) (vA T 11) (vA T 12) qt2 qp2))))))) H locs := HW
        refine W.eq (g2 := F0 m 21 ls [.int (figV S i), .long (fN (figV S) i 1481)]) rfl ?_
        refine g_callS CX HW hl.1 ([]) (wXo cI a o  ++ (wVo cI a (o + 1) (vh S) (vc S) (vA S 0) (vA S 1) (vA S 2) ++ (wR cI a ((o + 1) + 4) (vr S) (vA S 3) (vA S 4) (vA S 5) (vA S 6) ++ (wS cI a ((o + 1) + 9) (vs S) (vA S 7) (vA S 8) (vA S 9) (vA S 10) (vA S 11) (vA S 12) qt qp ++ (wVo cI a (o + 19) (vh T) (vc T) (vA T 0) (vA T 1) (vA T 2) ++ (wR cI a ((o + 19) + 4) (vr T) (vA T 3) (vA T 4) (vA T 5) (vA T 6) ++ (wS cI a ((o + 19) + 9) (vs T) (vA T 7) (vA T 8) (vA T 9) (vA T 10) (vA T 11) (vA T 12) qt2 qp2))))))) (c_X3_mixed (fN (figV S) i 1481) (figV S i)) rfl gX3_digest_X3_mixed rfl hd_X3_mixed ⟨rfl, rfl, (Nat.le_of_ble_eq_true rfl), (Nat.le_of_ble_eq_true rfl)⟩ ⟨(Nat.zero_le _), (Nat.zero_le _)⟩ rfl rfl (Nat.le_of_ble_eq_true rfl) dX3_digest_21 (fun v w1 H locs hp HW => ?_)
        obtain ⟨rfl, rfl⟩ := hp
        have HW : Hw D A s (wXo cI a o  ++ (wVo cI a (o + 1) (vh S) (vc S) (vA S 0) (vA S 1) (vA S 2) ++ (wR cI a ((o + 1) + 4) (vr S) (vA S 3) (vA S 4) (vA S 5) (vA S 6) ++ (wS cI a ((o + 1) + 9) (vs S) (vA S 7) (vA S 8) (vA S 9) (vA S 10) (vA S 11) (vA S 12) qt qp ++ (wVo cI a (o + 19) (vh T) (vc T) (vA T 0) (vA T 1) (vA T 2) ++ (wR cI a ((o + 19) + 4) (vr T) (vA T 3) (vA T 4) (vA T 5) (vA T 6) ++ (wS cI a ((o + 19) + 9) (vs T) (vA T 7) (vA T 8) (vA T 9) (vA T 10) (vA T 11) (vA T 12) qt2 qp2))))))) H locs := HW
        refine W.eq (g2 := F0 m 24 ls [.long (mixI (fN (figV S) i 1481) (figV S i))]) rfl ?_
        refine lv_lstore_n (lv' := [(1, .long (mixI (fN (figV S) i 1481) (figV S i))), (3, .int (nI i)), (0, .ref (a o))]) hx hb dX3_digest_24 rfl hl (Nat.le_of_ble_eq_true rfl) rfl (fun ls hl => ?_)
        refine lv_iinc (v := (nI (i + 1))) (lv' := [(3, .int (nI (i + 1))), (1, .long (mixI (fN (figV S) i 1481) (figV S i))), (0, .ref (a o))]) hx hb dX3_digest_25 hl (k := 1) rfl (inc1 _) (Nat.le_of_ble_eq_true rfl) rfl (fun ls hl => ?_)
        refine lv_goto (tgt := 6) hx hb dX3_digest_28 (by decide) ?_
        exact ih6 _ (by omega) (i + 1) rfl (by omega) _ _ _ HW (lv_sub hl [0, 1, 2] rfl)
  refine lv_iconst (v := 0) hx hb dX3_digest_4 (by decide) ?_
  refine lv_istore_n (lv' := [(3, .int (0 : Int32)), (1, .long (1481 : Int64)), (0, .ref (a o))]) hx hb dX3_digest_5 rfl hl (Nat.le_of_ble_eq_true rfl) rfl (fun ls hl => ?_)
  exact lp6 _ 0 rfl (by omega) _ _ _ HW (lv_sub hl [0, 1, 2] rfl)

theorem hd_X3_mean : yX3_mean.cls ≠ "java/lang/invoke/MethodHandle" ∧ yX3_mean.cls ≠ "java/lang/invoke/VarHandle" ∧ (parseMethodDescriptor yX3_mean.desc).map (fun d => d.parameters.length) = some 0 := by decide +kernel
theorem fl_X3_mean_10 : Cond.fieldLink RX3 10 (TX3 0).1 (TX3 0).2.1 (TX3 0).2.2.1 ∈ wsX3_mean := by decide +kernel
theorem in_X3_mean_3 : ∀ x ∈ u_ws RX3 TX3 2, x ∈ wsX3_mean := by decide +kernel
theorem fl_X3_mean_97 : Cond.fieldLink RX3 97 (TX2 6).1 (TX2 6).2.1 (TX2 6).2.2.1 ∈ wsX3_mean := by decide +kernel
theorem in_X3_mean_2 : ∀ x ∈ u_ws RX2 TX2 7, x ∈ wsX3_mean := by decide +kernel
theorem fl_X3_mean_175 : Cond.fieldLink RX3 175 (TX1 0).1 (TX1 0).2.1 (TX1 0).2.2.1 ∈ wsX3_mean := by decide +kernel
theorem in_X3_mean_1 : ∀ x ∈ u_ws RX1 TX1 9, x ∈ wsX3_mean := by decide +kernel
set_option maxRecDepth 100000 in
set_option maxHeartbeats 4000000 in
theorem c_X3_mean {l : Launch} {D : va_G} {cI cL : ClassId} {a : Nat → Nat} (o : Nat) (S : VS) (qt : Nat → Int32) (qp : Nat → Int32) (T : VS) (qt2 : Nat → Int32) (qp2 : Nat → Int32) (hn8 : vs S ≤ 8) : CtD l yX3_mean wsX3_mean { frames := 1, cells := 0, slots := 0, locals := 22 } D (ty2 cI cL) [.ref (a o)] (wXo cI a o  ++ (wVo cI a (o + 1) (vh S) (vc S) (vA S 0) (vA S 1) (vA S 2) ++ (wR cI a ((o + 1) + 4) (vr S) (vA S 3) (vA S 4) (vA S 5) (vA S 6) ++ (wS cI a ((o + 1) + 9) (vs S) (vA S 7) (vA S 8) (vA S 9) (vA S 10) (vA S 11) (vA S 12) qt qp ++ (wVo cI a (o + 19) (vh T) (vc T) (vA T 0) (vA T 1) (vA T 2) ++ (wR cI a ((o + 19) + 4) (vr T) (vA T 3) (vA T 4) (vA T 5) (vA T 6) ++ (wS cI a ((o + 19) + 9) (vs T) (vA T 7) (vA T 8) (vA T 9) (vA T 10) (vA T 11) (vA T 12) qt2 qp2))))))) (fun v w' => ∃ (r8 : UInt64), (alike64 r8 (meanX S) = true) ∧ v = some (.double r8) ∧ w' = wXo cI a o  ++ (wVo cI a (o + 1) (vh S) (vc S) (vA S 0) (vA S 1) (vA S 2) ++ (wR cI a ((o + 1) + 4) (vr S) (vA S 3) (vA S 4) (vA S 5) (vA S 6) ++ (wS cI a ((o + 1) + 9) (vs S) (vA S 7) (vA S 8) (vA S 9) (vA S 10) (vA S 11) (vA S 12) qt qp ++ (wVo cI a (o + 19) (vh T) (vc T) (vA T 0) (vA T 1) (vA T 2) ++ (wR cI a ((o + 19) + 4) (vr T) (vA T 3) (vA T 4) (vA T 5) (vA T 6) ++ (wS cI a ((o + 19) + 9) (vs T) (vA T 7) (vA T 8) (vA T 9) (vA T 10) (vA T 11) (vA T 12) qt2 qp2))))))) 0 0 := by
  refine CtD.of (cc := cX3_mean) (maxL := 1) (ret := (some .double)) (by decide) rfl (Nat.le_of_ble_eq_true rfl) ?_
  intro p e s m below meth c A ls CX0 hd0 HW hl
  have CX := CX0.dr s.drawn
  obtain ⟨hx, hb, hml, hr, hown, hts, hK, hA, hlk⟩ := id CX
  have hl : lv_has ls 1 [(0, .ref (a o))] := hl
  refine lv_aload_n hx hb dX3_mean_0 rfl (lv_at hl 0 rfl) ?_
  refine g_get CX HW in_X3_mean_3 0 0 rfl rfl (Nat.le_of_ble_eq_true rfl) fl_X3_mean_10 rfl dX3_mean_1 ?_
  refine g_get CX HW in_X3_mean_2 1 6 rfl rfl (Nat.le_of_ble_eq_true rfl) fl_X3_mean_97 rfl dX3_mean_4 ?_
  refine g_get CX HW in_X3_mean_1 10 0 rfl rfl (Nat.le_of_ble_eq_true rfl) fl_X3_mean_175 rfl dX3_mean_7 ?_
  refine lv_if_gt (tgt := 15) hx hb dX3_mean_10 (by decide) (fun c10 => ?_) (fun c10 => ?_)
  · have c10 : 0 < vs S := (nI_ltI (a := 0) (b := vs S) (by decide) (by omega)).mp c10
    refine lv_aload_n hx hb dX3_mean_15 rfl (lv_at hl 0 rfl) ?_
    refine g_get CX HW in_X3_mean_3 0 0 rfl rfl (Nat.le_of_ble_eq_true rfl) fl_X3_mean_10 rfl dX3_mean_16 ?_
    refine g_get CX HW in_X3_mean_2 1 6 rfl rfl (Nat.le_of_ble_eq_true rfl) fl_X3_mean_97 rfl dX3_mean_19 ?_
    refine g_callV CX HW hl.1 (wXo cI a o  ++ (wVo cI a (o + 1) (vh S) (vc S) (vA S 0) (vA S 1) (vA S 2) ++ (wR cI a ((o + 1) + 4) (vr S) (vA S 3) (vA S 4) (vA S 5) (vA S 6)))) (wVo cI a (o + 19) (vh T) (vc T) (vA T 0) (vA T 1) (vA T 2) ++ (wR cI a ((o + 19) + 4) (vr T) (vA T 3) (vA T 4) (vA T 5) (vA T 6) ++ (wS cI a ((o + 19) + 9) (vs T) (vA T 7) (vA T 8) (vA T 9) (vA T 10) (vA T 11) (vA T 12) qt2 qp2))) (c_X1_allPoints ((o + 1) + 9) (vs S) (vA S 7) (vA S 8) (vA S 9) (vA S 10) (vA S 11) (vA S 12) qt qp hn8) rfl 0 rfl rfl gX3_mean_X1_allPoints rfl ⟨rfl, hd_X1_allPoints⟩ ⟨rfl, rfl, (Nat.le_of_ble_eq_true rfl), (Nat.le_of_ble_eq_true rfl)⟩ ⟨(Nat.zero_le _), (Nat.zero_le _)⟩ rfl rfl (Nat.le_of_ble_eq_true rfl) dX3_mean_22 (fun v w1 H locs hp HW => ?_)
    obtain ⟨rfl, rfl⟩ := hp
    have HW : Hw D A (s.setDrawn s.drawn) (wXo cI a o  ++ (wVo cI a (o + 1) (vh S) (vc S) (vA S 0) (vA S 1) (vA S 2) ++ (wR cI a ((o + 1) + 4) (vr S) (vA S 3) (vA S 4) (vA S 5) (vA S 6) ++ (wS cI a ((o + 1) + 9) (vs S) (vA S 7) (vA S 8) (vA S 9) (vA S 10) (vA S 11) (vA S 12) qt qp ++ (wVo cI a (o + 19) (vh T) (vc T) (vA T 0) (vA T 1) (vA T 2) ++ (wR cI a ((o + 19) + 4) (vr T) (vA T 3) (vA T 4) (vA T 5) (vA T 6) ++ (wS cI a ((o + 19) + 9) (vs T) (vA T 7) (vA T 8) (vA T 9) (vA T 10) (vA T 11) (vA T 12) qt2 qp2))))))) H locs := HW
    refine W.eq (g2 := F0 m 25 ls [.int (sumN (vA S 11) (vs S))]) rfl ?_
    refine lv_i2d hx hb dX3_mean_25 ?_
    refine lv_aload_n hx hb dX3_mean_26 rfl (lv_at hl 0 rfl) ?_
    refine g_get CX HW in_X3_mean_3 0 0 rfl rfl (Nat.le_of_ble_eq_true rfl) fl_X3_mean_10 rfl dX3_mean_27 ?_
    refine g_get CX HW in_X3_mean_2 1 6 rfl rfl (Nat.le_of_ble_eq_true rfl) fl_X3_mean_97 rfl dX3_mean_30 ?_
    refine g_get CX HW in_X3_mean_1 10 0 rfl rfl (Nat.le_of_ble_eq_true rfl) fl_X3_mean_175 rfl dX3_mean_33 ?_
    refine lv_i2d hx hb dX3_mean_36 ?_
    refine lv_ddiv_any hd0 lw_bits hx hb dX3_mean_37 (fun r9 d1 hal hd1 => ?_)
    have CX := CX.dr d1
    refine W.endD hd1 ?_
    exact g_dret CX HW rfl ⟨r9, by rw [meanX, if_neg (by omega)]; exact hal, rfl, rfl⟩ dX3_mean_38
  · have c10 : vs S = 0 := by
      rcases Nat.eq_zero_or_pos (vs S) with h9 | h9
      · exact h9
      · exact absurd ((nI_ltI (a := 0) (b := vs S) (by decide) (by omega)).mpr h9) c10
    refine lv_dconst0 hx hb dX3_mean_13 ?_
    refine W.endD hd0 ?_
    exact g_dret CX HW rfl ⟨FP.dconst0, by rw [meanX, if_pos c10]; decide, rfl, rfl⟩ dX3_mean_14
