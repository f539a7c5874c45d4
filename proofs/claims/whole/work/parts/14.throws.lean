/-! methods that may throw: contracts and rows -/
def nms : List String := ["java/lang/RuntimeException", "java/lang/Exception"]
/-- the two statics that a Throwable's making reads -/
def Zs (A : Nat → Prop) (U : State) (H : Heap) : Prop := vx_Zq Bundle.tN "UNASSIGNED_STACK" Bundle.steD A U H ∧ vx_Zq Bundle.tN "SUPPRESSED_SENTINEL" Bundle.listD A U H
def xPc (D : va_G) (tys : List (ClassId × FieldType)) (av : List Value) (w : va_W) (sz : Nat) : Array Value → State → Prop := va_Pc av (fun U => U.heap.size = sz ∧ va_P D vwCl w U.heap ∧ KK D tys U ∧ va_D (fun _ => True) w ∧ Zs (va_A w sz) U U.heap)
def xC (D : va_G) (A : Nat → Prop) (postx : String → va_W → Prop) : String → State → State → Prop := fun E st t => (∃ w' : va_W, postx E w' ∧ va_P D vwCl w' t.heap ∧ va_D A w') ∧ va_F A st t
def CtX (l : Launch) (y : MethodName) (ws : List Cond) (rm : Room) (D : va_G) (tys : List (ClassId × FieldType)) (av : List Value) (w : va_W) (post : Option Value → va_W → Prop) (postx : String → va_W → Prop) : Prop :=
  ∀ sz : Nat, vx_Met l y ws rm (xPc D tys av w sz) (cQ D (va_A w sz) post) (xC D (va_A w sz) postx) 1 6 (va_A w sz)
theorem xPc.blind {D : va_G} {tys : List (ClassId × FieldType)} {av : List Value} {w : va_W} {sz : Nat} : FrameBlind (xPc D tys av w sz) := by
  intro a U g mk q
  obtain ⟨q0, q1, q2, q3, q4, q5, q6⟩ := q
  exact ⟨q0, q1, q2, KK.same (s := U) (U := U.calling g mk a) rfl q3, q4, vx_Zq.moved (u := U) (U := U.calling g mk a) (Vm.Alike.refl U.vm) q5, vx_Zq.moved (u := U) (U := U.calling g mk a) (Vm.Alike.refl U.vm) q6⟩
theorem CtX.of {l : Launch} {y : MethodName} {ws ws' : List Cond} {rm : Room} {D : va_G} {tys : List (ClassId × FieldType)} {av : List Value} {w : va_W} {post : Option Value → va_W → Prop} {postx : String → va_W → Prop} {cc : ByteArray} {maxL : Nat} {ret : Option FieldType}
    (hy : plainName y.cls = true) (hw : ws = Cond.code y cc maxL ret :: ws') (hav : (lg_sl av).length ≤ maxL)
    (body : ∀ (p : Program) (e : Env) (s : State) (m : MethodId) (below : List Frame) (meth : Method) (c : Code) (A : Nat → Prop) (ls : Array Slot), Cx p s m av.toArray meth c cc maxL ret y.cls ws D tys A → (∀ x ∈ c.exceptionTable.toList, False) → Zs A s s.heap → Hw D A s w s.heap [] → lv_has ls maxL (lv_args 0 av) →
      W p l e rm s m av.toArray below meth c s.heap [] 0 0 (vx_MQ below (cQ D A post) (xC D A postx) av.toArray s 1 6 A) (F0 m 0 ls [])) : CtX l y ws rm D tys av w post postx := by
  intro sz
  refine vx_ofW (cc := cc) (maxL := maxL) (ret := ret) hy hw ?_
  intro p e s m args below meth c s₁ B hml hext hv
  obtain ⟨rfl, hsz, hP, hK, hD0, hZ⟩ := hv
  subst hsz
  have hown : s.vm.findClass y.cls = some m.cls := findClass_of_methodNamed B.named
  have hD := hD0.self (sz := s.heap.size)
  have hA : ∀ q : Nat, s.heap.size ≤ q → va_A w s.heap.size q := fun q h => Or.inr h
  have hl := lv_entry av (n := maxL) hav
  rw [lg_entry_eq]
  exact body p e s m below meth c (va_A w s.heap.size) _ ⟨B.exec, B.bytes, hml, B.returns, hown, atoms_spec (ws := ws) B.pre, hK, hA, B.notSynchronized⟩ hext hZ ⟨hP, hD, va_S.rf⟩ hl
theorem CtX.ofH {l : Launch} {y : MethodName} {ws ws' : List Cond} {rm : Room} {D : va_G} {tys : List (ClassId × FieldType)} {av : List Value} {w : va_W} {post : Option Value → va_W → Prop} {postx : String → va_W → Prop} {cc : ByteArray} {maxL : Nat} {ret : Option FieldType} {hh : List (Nat × Nat × Nat × Nat)}
    (hy : plainName y.cls = true) (hw : ws = Cond.codeWith y cc maxL ret hh :: ws') (hav : (lg_sl av).length ≤ maxL)
    (body : ∀ (p : Program) (e : Env) (s : State) (m : MethodId) (below : List Frame) (meth : Method) (c : Code) (A : Nat → Prop) (ls : Array Slot), Cx p s m av.toArray meth c cc maxL ret y.cls ws D tys A → c.exceptionTable.toList = tableOf hh → Zs A s s.heap → Hw D A s w s.heap [] → lv_has ls maxL (lv_args 0 av) →
      W p l e rm s m av.toArray below meth c s.heap [] 0 0 (vx_MQ below (cQ D A post) (xC D A postx) av.toArray s 1 6 A) (F0 m 0 ls [])) : CtX l y ws rm D tys av w post postx := by
  intro sz
  refine vx_ofWH (cc := cc) (maxL := maxL) (ret := ret) (hh := hh) hy hw ?_
  intro p e s m args below meth c s₁ B hml hv
  obtain ⟨rfl, hsz, hP, hK, hD0, hZ⟩ := hv
  subst hsz
  have hown : s.vm.findClass y.cls = some m.cls := findClass_of_methodNamed B.named
  have hD := hD0.self (sz := s.heap.size)
  have hA : ∀ q : Nat, s.heap.size ≤ q → va_A w s.heap.size q := fun q h => Or.inr h
  have hl := lv_entry av (n := maxL) hav
  have htb := vx_table (x := y) B (atoms_spec (ws := ws) B.pre _ (by rw [hw]; exact List.mem_cons_self))
  rw [lg_entry_eq]
  exact body p e s m below meth c (va_A w s.heap.size) _ ⟨B.exec, B.bytes, hml, B.returns, hown, atoms_spec (ws := ws) B.pre, hK, hA, B.notSynchronized⟩ htb hZ ⟨hP, hD, va_S.rf⟩ hl
section GX
variable {p : Program} {l : Launch} {e : Env} {R : Room} {s : State} {m : MethodId} {args : Array Value} {below : List Frame} {meth : Method} {c : Code} {H : Heap} {locs : List Loc} {cells slots : Nat} {Q : State → Prop}
variable {cc : ByteArray} {pc nL : Nat} {ls : Array Slot} {rest : List Value} {ret : Option FieldType} {own : String} {Ts : List Cond} {D : va_G} {A : Nat → Prop} {a : Nat} {tys : List (ClassId × FieldType)} {w : va_W}
theorem gx_ret {post : Option Value → va_W → Prop} {postx : String → va_W → Prop} {g : JFrame} (hc : cells ≤ 1) (hs : slots ≤ 6) (k : W p l e R s m args below meth c H locs 1 6 (MQ below (cQ D A post) args s 1 6 A) g) : W p l e R s m args below meth c H locs cells slots (vx_MQ below (cQ D A post) (xC D A postx) args s 1 6 A) g :=
  W.widen hc hs (vx_ret k)
theorem Zs.at (HW : Hw D A s w H locs) (hZ : Zs A s s.heap) {U : State} (hU : U.heap = H) (hW : s.WarmedH U.vm) {B : Nat → Prop} (hBA : ∀ q, B q → A q) : Zs B U U.heap := by
  have k : ∀ a : Nat, a < s.heap.size → ¬ A a → H[a]? = s.heap[a]? := HW.2.2.2.1
  rw [hU]
  exact ⟨((hZ.1.kept k).moved hW.alike).narrow hBA, ((hZ.2.kept k).moved hW.alike).narrow hBA⟩
theorem gx_run {pre wc suf : va_W} {post : Option Value → va_W → Prop} {postx : String → va_W → Prop} {st0 : List Value} {av : Array Value} {mc ms : Nat} (HW : Hw D A s w H locs) (hw : w = pre ++ (wc ++ suf)) (hA : ∀ q : Nat, s.heap.size ≤ q → A q)
    (hr : vx_Run p l e R s m args below meth c H locs cells slots mc ms (F0 m pc ls st0) rest (cQ D (va_A wc H.size) post av) (xC D (va_A wc H.size) postx) (va_A wc H.size))
    (kx : ∀ (E : String) (ce : Cell) (q9 : Addr) (w1 : va_W) (H1 : Heap) (locs1 : List Loc), postx E w1 → Hw D A s (pre ++ (w1 ++ suf)) H1 locs1 → H1[q9]? = some ce → ce.vm = .none → s.vm.findClass E = some ce.cls → vx_W p l e R s m args below meth c H1 locs1 (cells + mc) (slots + ms) Q (F0 m pc ls rest) q9)
    (kk : ∀ (v : Option Value) (w1 : va_W) (H1 : Heap) (locs1 : List Loc), post v w1 → Hw D A s (pre ++ (w1 ++ suf)) H1 locs1 → W p l e R s m args below meth c H1 locs1 (cells + mc) (slots + ms) Q (F0 m (pc + 3) ls (v.toList ++ rest))) : W p l e R s m args below meth c H locs cells slots Q (F0 m pc ls st0) := by
  subst hw
  intro T hT X
  obtain ⟨-, -, hF, hj⟩ := g_cut HW hA
  obtain ⟨hP, hD, hS⟩ := HW
  rcases hr T hT X with ⟨v, st₀, t, T', L, h0, X', hL, e1, e2, ⟨⟨v', w1, hv, hp, hP1, hD1⟩, hz, hk⟩, st⟩ | ⟨q, st₀, t, T', L, E, ce, h0, X', hL, e1, e2, ⟨⟨w1, hp, hP1, hD1⟩, hz, hk⟩, hce, hcv, hcl, st⟩
  · cases hv
    rw [h0] at hz hk
    obtain ⟨j1, j2⟩ := hj t.heap w1 hk hP1 hD1
    rw [← e1] at j1 hz hk
    obtain ⟨t2, a1, b1⟩ := kk v w1 T'.heap (locs ++ L) hp ⟨j1, j2, Nat.le_trans hS.1 hz, fun q h1 h2 => (hk q (Nat.lt_of_lt_of_le h1 hS.1) (fun z => h2 (hF q z))).trans (hS.2.1 q h1 h2), fun q hq => by
        rcases List.mem_append.mp hq with h | h
        · exact hS.2.2 q h
        · exact hF _ (hL q h)⟩ T' rfl X'
    exact ⟨t2, st t2 a1, b1⟩
  · rw [h0] at hz hk
    obtain ⟨j1, j2⟩ := hj t.heap w1 hk hP1 hD1
    rw [← e1] at j1 hz hk hce
    obtain ⟨t2, a1, b1⟩ := kx E ce q w1 T'.heap (locs ++ L) hp ⟨j1, j2, Nat.le_trans hS.1 hz, fun q h1 h2 => (hk q (Nat.lt_of_lt_of_le h1 hS.1) (fun z => h2 (hF q z))).trans (hS.2.1 q h1 h2), fun q hq => by
        rcases List.mem_append.mp hq with h | h
        · exact hS.2.2 q h
        · exact hF _ (hL q h)⟩ hce hcv hcl T' rfl X'
    exact ⟨t2, st.trans a1, b1⟩
theorem gx_pre {pre wc suf : va_W} (CX : Cx p s m args meth c cc nL ret own Ts D tys A) (hZ : Zs A s s.heap) (HW : Hw D A s w H locs) (hw : w = pre ++ (wc ++ suf)) (av : List Value) : PreS s H (xPc D tys av wc H.size) av := by
  have HW0 := HW
  subst hw
  obtain ⟨hPc, hDc, hF, -⟩ := g_cut HW CX.hA
  exact ⟨xPc.blind, fun U hU hW => ⟨rfl, by rw [hU], by rw [hU]; exact hPc, CX.hK.warm hW, hDc, Zs.at HW0 hZ hU hW hF⟩⟩
/-- an instance method that may throw -/
theorem gx_callV {y : MethodName} {index n maxL : Nat} {bytes : ByteArray} {rt : Option FieldType} {ws2 ws2' : List Cond} {rm2 : Room} {b ci : Nat} {fs : List Value} {C : String} {T : u_T} {N : Nat} {As st0 : List Value} {wc : va_W} {post : Option Value → va_W → Prop} {postx : String → va_W → Prop} (CX : Cx p s m args meth c cc nL ret own Ts D tys A) (hZ : Zs A s s.heap) (HW : Hw D A s w H locs) (hl : ls.size = nL) (pre suf : va_W) (hc : CtX l y ws2 rm2 D tys (.ref b :: As) wc post postx) (hw : w = pre ++ (wc ++ suf)) (qr : Nat) (he : wc[qr]? = some (b, .inr (ci, fs))) (hci : vwCl[ci]? = some (C, T, N))
    (hG : GoodIn Ts (wsV own index C y ws2)) (hy : ws2 = Cond.code y bytes maxL rt :: ws2') (hd : y.cls = C ∧ y.cls ≠ "java/lang/invoke/MethodHandle" ∧ y.cls ≠ "java/lang/invoke/VarHandle" ∧ (parseMethodDescriptor y.desc).map (fun d => d.parameters.length) = some n) (hR : rm2.cells = 1 ∧ rm2.slots = 6 ∧ rm2.frames + 1 ≤ R.frames ∧ 8 + (maxL + 11) + rm2.locals ≤ R.locals) (hcs : cells + 1 ≤ R.cells ∧ slots + 6 ≤ R.slots) (hn : As.length = n) (hst : st0 = As.reverse ++ .ref b :: rest) (hW : (rest.map fun v => v.category).sum ≤ 8) (hdg : decode cc pc = .ok (.invokevirtual index, 3))
    (kx : ∀ (E : String) (ce : Cell) (q9 : Addr) (w1 : va_W) (H1 : Heap) (locs1 : List Loc), postx E w1 → Hw D A s (pre ++ (w1 ++ suf)) H1 locs1 → H1[q9]? = some ce → ce.vm = .none → s.vm.findClass E = some ce.cls → vx_W p l e R s m args below meth c H1 locs1 (cells + 1) (slots + 6) Q (F0 m pc ls rest) q9)
    (kk : ∀ (v : Option Value) (w1 : va_W) (H1 : Heap) (locs1 : List Loc), post v w1 → Hw D A s (pre ++ (w1 ++ suf)) H1 locs1 → W p l e R s m args below meth c H1 locs1 (cells + 1) (slots + 6) Q (F0 m (pc + 3) ls (v.toList ++ rest))) : W p l e R s m args below meth c H locs cells slots Q (F0 m pc ls st0) :=
  gx_run HW hw CX.hA (vx_runV CX.fix (hc H.size) (cwV n CX.fix.2.2.2.2 hG hy hR.1 hR.2.1 hd ⟨hR.2.2.1, hR.2.2.2⟩) ⟨(gx_pre CX hZ HW hw (.ref b :: As)).1, (g_preV CX HW hw hci he As).2.1, (gx_pre CX hZ HW hw (.ref b :: As)).2⟩ rfl hn hl hst (lv_room hW) hdg hcs) kx kk
/-- a static method with a table of its own, that may throw -/
theorem gx_callSX {y : MethodName} {index n maxL : Nat} {bytes : ByteArray} {rt : Option FieldType} {hh : List (Nat × Nat × Nat × Nat)} {ws2 ws2' : List Cond} {rm2 : Room} {As st0 : List Value} {wc : va_W} {post : Option Value → va_W → Prop} {postx : String → va_W → Prop} (CX : Cx p s m args meth c cc nL ret own Ts D tys A) (hZ : Zs A s s.heap) (HW : Hw D A s w H locs) (hl : ls.size = nL) (pre suf : va_W) (hc : CtX l y ws2 rm2 D tys As wc post postx) (hw : w = pre ++ (wc ++ suf))
    (hG : GoodIn Ts (va_wsS own index y ws2)) (hy : ws2 = Cond.codeWith y bytes maxL rt hh :: ws2') (hd : y.cls ≠ "java/lang/invoke/MethodHandle" ∧ y.cls ≠ "java/lang/invoke/VarHandle" ∧ (parseMethodDescriptor y.desc).map (fun d => d.parameters.length) = some n) (hR : rm2.cells = 1 ∧ rm2.slots = 6 ∧ rm2.frames + 1 ≤ R.frames ∧ 8 + (maxL + 11) + rm2.locals ≤ R.locals) (hcs : cells + 1 ≤ R.cells ∧ slots + 6 ≤ R.slots) (hn : As.length = n) (hst : st0 = As.reverse ++ rest) (hW : (rest.map fun v => v.category).sum ≤ 8) (hdg : decode cc pc = .ok (.invokestatic index, 3))
    (kx : ∀ (E : String) (ce : Cell) (q9 : Addr) (w1 : va_W) (H1 : Heap) (locs1 : List Loc), postx E w1 → Hw D A s (pre ++ (w1 ++ suf)) H1 locs1 → H1[q9]? = some ce → ce.vm = .none → s.vm.findClass E = some ce.cls → vx_W p l e R s m args below meth c H1 locs1 (cells + 1) (slots + 6) Q (F0 m pc ls rest) q9)
    (kk : ∀ (v : Option Value) (w1 : va_W) (H1 : Heap) (locs1 : List Loc), post v w1 → Hw D A s (pre ++ (w1 ++ suf)) H1 locs1 → W p l e R s m args below meth c H1 locs1 (cells + 1) (slots + 6) Q (F0 m (pc + 3) ls (v.toList ++ rest))) : W p l e R s m args below meth c H locs cells slots Q (F0 m pc ls st0) :=
  gx_run HW hw CX.hA (vx_runSX CX.fix (hc H.size) (vx_cwSW n CX.fix.2.2.2.2 hG hy hR.1 hR.2.1 hd ⟨hR.2.2.1, hR.2.2.2⟩) (gx_pre CX hZ HW hw As) rfl hn hl hst (lv_room hW) hdg hcs) kx kk
/-- new X("a written text"), thrown out of the method -/
theorem gx_throw {post : Option Value → va_W → Prop} {postx : String → va_W → Prop} (CX : Cx p s m args meth c cc nL ret RX3 Ts D tys A) (hext : ∀ x ∈ c.exceptionTable.toList, False) (hZ : Zs A s s.heap) (HW : Hw D A s w H locs) (hl0 : ls.size = nL) (hst : l.stackTraces = false) {cls text : String} {ik is ic : Nat} (hcls : Bundle.fit cls = true)
    (hk : Cond.classLink RX3 ik cls ∈ Ts) (hini : Cond.initialized cls ∈ Ts) (hstr : (is, text) ∈ srl) (hat : ∀ x ∈ (vx_atS RX3 ic cls nms).filter goodWord, x ∈ Ts) (hbad : ∀ x ∈ (vx_atS RX3 ic cls nms).filter (fun w => !goodWord w), x ∈ nwl)
    (hgood : ∀ w ∈ Cond.classLink RX3 ik cls :: Cond.initialized cls :: vx_atS RX3 ic cls nms, vx_ot w = true)
    (d0 : decode cc pc = .ok (.new ik, 3)) (d3 : decode cc (pc + 3) = .ok (.dup, 1)) (d4 : decode cc (pc + 4) = .ok (.ldc is, 2)) (d6 : decode cc (pc + 6) = .ok (.invokespecial ic, 3)) (d9 : decode cc (pc + 9) = .ok (.athrow, 1))
    (hRf : 5 < R.frames) (hRl : (rest.map fun v => v.category).sum + 82 ≤ R.locals) (hRc : cells + 1 ≤ R.cells) (hRs : slots + 6 ≤ R.slots) (hc : cells + 1 ≤ 1) (hs : slots + 6 ≤ 6) (hpost : postx cls w) :
    W p l e R s m args below meth c H locs cells slots (vx_MQ below (cQ D A post) (xC D A postx) args s 1 6 A) (F0 m pc ls rest) := by
  obtain ⟨hx, hb, hml, hr, hown, hts, hK, hA, hlk⟩ := CX
  obtain ⟨sa, hsa⟩ := hK.2.2.1 _ hstr
  refine vx_throwS (names := nms) (text := text) hx hb hst hown hcls (by decide +kernel) (hts _ hk) (hts _ hini) hsa (vx_hat (fun w hw => hts w (hat w hw)) hbad (fun w hw => hK.use hw)) hgood hZ.1 hZ.2 HW.2.2 (hl0.trans hml.symm) d0 d3 d4 d6 d9 (fun x hx => absurd (hext x hx) id) hRf hRl hRc hRs hlk (fun t hal hsz hq => ?_) HW.2.2.2.2 hc hs
  have hk2 : ∀ (k : Nat) (x : Nat × va_E), w[k]? = some x → t.heap[x.1]? = H[x.1]? := fun k x hx => hq x.1 (HW.1 k x hx).lt
  refine ⟨⟨w, hpost, HW.1.kept hk2, HW.2.1⟩, Nat.le_trans HW.2.2.1 hsz, fun q h1 h2 => ?_⟩
  rw [hq q (Nat.lt_of_lt_of_le h1 HW.2.2.1)]
  exact HW.2.2.2.1 q h1 h2
theorem gx_throwW {post : Option Value → va_W → Prop} {postx : String → va_W → Prop} (CX : Cx p s m args meth c cc nL ret RX3 Ts D tys A) (hext : ∀ x ∈ c.exceptionTable.toList, False) (hZ : Zs A s s.heap) (HW : Hw D A s w H locs) (hl0 : ls.size = nL) (hst : l.stackTraces = false) {cls text : String} {ik is ic : Nat} (hcls : Bundle.fit cls = true)
    (hk : Cond.classLink RX3 ik cls ∈ Ts) (hini : Cond.initialized cls ∈ Ts) (hstr : (is, text) ∈ srl) (hat : ∀ x ∈ (vx_atS RX3 ic cls nms).filter goodWord, x ∈ Ts) (hbad : ∀ x ∈ (vx_atS RX3 ic cls nms).filter (fun w => !goodWord w), x ∈ nwl)
    (hgood : ∀ w ∈ Cond.classLink RX3 ik cls :: Cond.initialized cls :: vx_atS RX3 ic cls nms, vx_ot w = true)
    (d0 : decode cc pc = .ok (.new ik, 3)) (d3 : decode cc (pc + 3) = .ok (.dup, 1)) (d4 : decode cc (pc + 4) = .ok (.ldc_w is, 3)) (d7 : decode cc (pc + 7) = .ok (.invokespecial ic, 3)) (d10 : decode cc (pc + 10) = .ok (.athrow, 1))
    (hRf : 5 < R.frames) (hRl : (rest.map fun v => v.category).sum + 82 ≤ R.locals) (hRc : cells + 1 ≤ R.cells) (hRs : slots + 6 ≤ R.slots) (hc : cells + 1 ≤ 1) (hs : slots + 6 ≤ 6) (hpost : postx cls w) :
    W p l e R s m args below meth c H locs cells slots (vx_MQ below (cQ D A post) (xC D A postx) args s 1 6 A) (F0 m pc ls rest) := by
  obtain ⟨hx, hb, hml, hr, hown, hts, hK, hA, hlk⟩ := CX
  obtain ⟨sa, hsa⟩ := hK.2.2.1 _ hstr
  refine vx_throwSW (names := nms) (text := text) hx hb hst hown hcls (by decide +kernel) (hts _ hk) (hts _ hini) hsa (vx_hat (fun w hw => hts w (hat w hw)) hbad (fun w hw => hK.use hw)) hgood hZ.1 hZ.2 HW.2.2 (hl0.trans hml.symm) d0 d3 d4 d7 d10 (fun x hx => absurd (hext x hx) id) hRf hRl hRc hRs hlk (fun t hal hsz hq => ?_) HW.2.2.2.2 hc hs
  have hk2 : ∀ (k : Nat) (x : Nat × va_E), w[k]? = some x → t.heap[x.1]? = H[x.1]? := fun k x hx => hq x.1 (HW.1 k x hx).lt
  refine ⟨⟨w, hpost, HW.1.kept hk2, HW.2.1⟩, Nat.le_trans HW.2.2.1 hsz, fun q h1 h2 => ?_⟩
  rw [hq q (Nat.lt_of_lt_of_le h1 HW.2.2.1)]
  exact HW.2.2.2.1 q h1 h2
end GX
theorem xbad_27 : ∀ x ∈ (vx_atS RX3 27 exI nms).filter (fun w => !goodWord w), x ∈ nwl := by decide +kernel
theorem xbad_34 : ∀ x ∈ (vx_atS RX3 34 exA nms).filter (fun w => !goodWord w), x ∈ nwl := by decide +kernel
theorem xbad_49 : ∀ x ∈ (vx_atS RX3 49 exS nms).filter (fun w => !goodWord w), x ∈ nwl := by decide +kernel
