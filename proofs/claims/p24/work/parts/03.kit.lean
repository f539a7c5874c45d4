def nwl : List Cond := [.methodLinkNest "PommelTows$Runs" 28 ⟨"PommelTows", "held", "(III)I"⟩ "PommelTows", .methodLinkNest "PommelTows$Runs" 40 ⟨"PommelTows", "copyRow", "([I[I)V"⟩ "PommelTows", .methodLinkNest "PommelTows$Skiers" 49 ⟨"PommelTows", "held", "(III)I"⟩ "PommelTows", .methodLinkNest "PommelTows$Skiers" 53 ⟨"PommelTows", "copyRow", "([I[I)V"⟩ "PommelTows", .methodLinkNest "PommelTows$Village" 30 ⟨"PommelTows$Runs", "<init>", "()V"⟩ "PommelTows", .methodLinkNest "PommelTows$Village" 37 ⟨"PommelTows$Skiers", "<init>", "()V"⟩ "PommelTows", .methodLinkNest "PommelTows$Village" 42 ⟨"PommelTows", "copyRow", "([I[I)V"⟩ "PommelTows", .methodLinkNest "PommelTows$Village" 69 ⟨"PommelTows", "snowOf", "(I)I"⟩ "PommelTows"]
def srl : List (Nat × String) := []
def exI : String := "java/lang/IndexOutOfBoundsException"
def exA : String := "java/lang/IllegalArgumentException"
def exS : String := "java/lang/IllegalStateException"
def ncl : List (String × String) := []
/-- what the tables say that isn't a word of a list: classes, arrays, nest mates, written texts, casts that fail -/
def KK (D : va_G) (tys : List (ClassId × FieldType)) (U : State) : Prop :=
  va_K D vwCl tys U ∧ (∀ w ∈ nwl, va_Nw w U) ∧ (∀ q ∈ srl, ∃ a, vk_R RX3 q.1 q.2 a U) ∧ (∀ q ∈ ncl, va_Nc q.1 q.2 U)
def isNest (w : Cond) : Bool := match w with
  | .fieldLinkNest _ _ _ _ _ _ => true
  | .methodLinkNest _ _ _ _ => true
  | .castable _ _ => true
  | .declares _ => true
  | _ => false
theorem nwl_nest : ∀ w ∈ nwl, isNest w = true := by decide +kernel
theorem nest_warm {s U : State} (hW : s.WarmedH U.vm) {w : Cond} (hw : isNest w = true) (h : va_Nw w s) : va_Nw w U := by
  cases w <;> first | exact va_Nw.warmF hW h | exact va_Nw.warmM hW h | exact va_Nw.warmC hW h | exact va_Nw.warmD hW h | (simp [isNest] at hw)
theorem nest_same {s U : State} (hv : s.vm = U.vm) {w : Cond} (hw : isNest w = true) (h : va_Nw w s) : va_Nw w U := by
  cases w <;> first | exact va_Nw.same rfl hv h | (simp [isNest] at hw)
theorem KK.warm {D : va_G} {tys : List (ClassId × FieldType)} {s U : State} (hW : s.WarmedH U.vm) (h : KK D tys s) : KK D tys U :=
  ⟨va_K.moved hW.alike h.1, fun w hw => nest_warm hW (nwl_nest w hw) (h.2.1 w hw), fun q hq => (h.2.2.1 q hq).elim fun a ha => ⟨a, ha.warm hW⟩, fun q hq => va_Nc.moved hW.alike (h.2.2.2 q hq)⟩
theorem KK.same {D : va_G} {tys : List (ClassId × FieldType)} {s U : State} (hv : s.vm = U.vm) (h : KK D tys s) : KK D tys U :=
  ⟨va_K.moved (by rw [hv]; exact Vm.Alike.refl _) h.1, fun w hw => nest_same hv (nwl_nest w hw) (h.2.1 w hw), fun q hq => (h.2.2.1 q hq).elim fun a ha => ⟨a, ha.same hv.symm⟩, fun q hq => va_Nc.moved (by rw [hv]; exact Vm.Alike.refl _) (h.2.2.2 q hq)⟩
theorem KK.nest {D : va_G} {tys : List (ClassId × FieldType)} {s : State} (h : KK D tys s) {w : Cond} (hw : w ∈ nwl) : va_Nw w s := h.2.1 w hw
theorem KK.use {D : va_G} {tys : List (ClassId × FieldType)} {s : State} (h : KK D tys s) {w : Cond} (hw : w ∈ nwl) {a : Array Value} : w.before a s = true := by
  have h1 := h.2.1 w hw
  have h2 := nwl_nest w hw
  cases w <;> first | exact va_Nw.use rfl h1 | (simp [isNest] at h2)
/-- where the code stands, what it links, what the tables say -/
def Cx (p : Program) (s : State) (m : MethodId) (args : Array Value) (meth : Method) (c : Code) (cc : ByteArray) (nL : Nat) (ret : Option FieldType) (own : String) (Ts : List Cond) (D : va_G) (tys : List (ClassId × FieldType)) (A : Nat → Prop) : Prop :=
  p.tables.exec = Jvm.exec ∧ c.code = cc ∧ c.maxLocals = nL ∧ meth.sig.returnType = ret ∧ s.vm.findClass own = some m.cls ∧ (∀ w ∈ Ts, w.before args s = true) ∧ KK D tys s ∧ (∀ q : Nat, s.heap.size ≤ q → A q) ∧ meth.locks = false
/-- the heap holds the cells w, apart, and nothing outside A was written -/
def Hw (D : va_G) (A : Nat → Prop) (s : State) (w : va_W) (H : Heap) (locs : List Loc) : Prop := va_P D vwCl w H ∧ va_D A w ∧ va_S A s.heap H locs
/-- a method's start and end; what it answers and what its cells are then: post -/
def cPc (D : va_G) (tys : List (ClassId × FieldType)) (av : List Value) (w : va_W) (sz : Nat) : Array Value → State → Prop := va_Pc av (fun U => U.heap.size = sz ∧ va_P D vwCl w U.heap ∧ KK D tys U ∧ va_D (fun _ => True) w)
def cQ (D : va_G) (A : Nat → Prop) (post : Option Value → va_W → Prop) : Array Value → State → Outcome → State → Prop := fun _ st oc t => (∃ (v : Option Value) (w' : va_W), oc = .returned v ∧ post v w' ∧ va_P D vwCl w' t.heap ∧ va_D A w') ∧ va_F A st t
def Ct (l : Launch) (y : MethodName) (ws : List Cond) (rm : Room) (D : va_G) (tys : List (ClassId × FieldType)) (av : List Value) (w : va_W) (post : Option Value → va_W → Prop) (mc ms : Nat) : Prop :=
  ∀ sz : Nat, Met l y ws rm (cPc D tys av w sz) (cQ D (va_A w sz) post) mc ms (va_A w sz)
theorem cPc.blind {D : va_G} {tys : List (ClassId × FieldType)} {av : List Value} {w : va_W} {sz : Nat} : FrameBlind (cPc D tys av w sz) := by
  intro a U g mk q
  obtain ⟨q0, q1, q2, q3, q4⟩ := q
  exact ⟨q0, q1, q2, KK.same (s := U) (U := U.calling g mk a) rfl q3, q4⟩
theorem Ct.of {l : Launch} {y : MethodName} {ws ws' : List Cond} {rm : Room} {D : va_G} {tys : List (ClassId × FieldType)} {av : List Value} {w : va_W} {post : Option Value → va_W → Prop} {mc ms : Nat} {cc : ByteArray} {maxL : Nat} {ret : Option FieldType}
    (hy : plainName y.cls = true) (hw : ws = Cond.code y cc maxL ret :: ws') (hav : (lg_sl av).length ≤ maxL)
    (body : ∀ (p : Program) (e : Env) (s : State) (m : MethodId) (below : List Frame) (meth : Method) (c : Code) (A : Nat → Prop) (ls : Array Slot), Cx p s m av.toArray meth c cc maxL ret y.cls ws D tys A → meth.name = y.name → Hw D A s w s.heap [] → lv_has ls maxL (lv_args 0 av) →
      W p l e rm s m av.toArray below meth c s.heap [] 0 0 (MQ below (cQ D A post) av.toArray s mc ms A) (F0 m 0 ls [])) : Ct l y ws rm D tys av w post mc ms := by
  intro sz
  refine Met.ofW (cc := cc) (maxL := maxL) (ret := ret) hy hw ?_
  intro p e s m args below meth c s₁ B hml hv
  obtain ⟨rfl, hsz, hP, hK, hD0⟩ := hv
  subst hsz
  have hown : s.vm.findClass y.cls = some m.cls := findClass_of_methodNamed B.named
  have hD := hD0.self (sz := s.heap.size)
  have hA : ∀ q : Nat, s.heap.size ≤ q → va_A w s.heap.size q := fun q h => Or.inr h
  have hl := lv_entry av (n := maxL) hav
  rw [lg_entry_eq]
  exact body p e s m below meth c (va_A w s.heap.size) _ ⟨B.exec, B.bytes, hml, B.returns, hown, atoms_spec (ws := ws) B.pre, hK, hA, B.notSynchronized⟩ (name_of_methodNamed B.named B.method).1 ⟨hP, hD, va_S.rf⟩ hl
theorem Ct.post {l : Launch} {y : MethodName} {ws : List Cond} {rm : Room} {D : va_G} {tys : List (ClassId × FieldType)} {av : List Value} {w : va_W} {p1 p2 : Option Value → va_W → Prop} {mc ms : Nat} (h : Ct l y ws rm D tys av w p1 mc ms) (hp : ∀ v w', p1 v w' → p2 v w') : Ct l y ws rm D tys av w p2 mc ms := by
  intro sz p e ha hc hk s m args below hf happ hpre hK
  obtain ⟨k, o, h1, h2, h3, ⟨⟨⟨v, w', e1, e2, e3⟩, hF⟩, hL⟩⟩ := h sz p e ha hc hk s m args below hf happ hpre hK
  exact ⟨k, o, h1, h2, h3, ⟨⟨v, w', e1, hp v w' e2, e3⟩, hF⟩, hL⟩
/-! cells side by side -/
theorem g_mapC (x y : va_W) : (List.range' x.length y.length).map (fun i => (x ++ y)[i]?) = y.map some := by
  apply List.ext_getElem?
  intro k
  simp only [List.getElem?_map, List.getElem?_range']
  by_cases h : k < y.length
  · simp [h]
  · simp [h]
theorem g_mapR (x y : va_W) : (List.range x.length).map (fun i => (x ++ y)[i]?) = x.map some := by
  apply List.ext_getElem?
  intro k
  by_cases h : k < x.length
  · simp [h, List.getElem?_append_left h]
  · simp [h]
theorem g_nd : ∀ (l : List Nat), l.Nodup → va_nd l = true
  | [], _ => rfl
  | a :: l, h => by
    have h2 := List.nodup_cons.mp h
    simp only [va_nd, Bool.and_eq_true, decide_eq_true_eq]
    exact ⟨h2.1, g_nd l h2.2⟩
theorem g_cut {D : va_G} {A : Nat → Prop} {s : State} {pre wc suf : va_W} {H : Heap} {locs : List Loc} (HW : Hw D A s (pre ++ (wc ++ suf)) H locs) (hA : ∀ q : Nat, s.heap.size ≤ q → A q) :
    va_P D vwCl wc H ∧ va_D (fun _ => True) wc ∧ (∀ q, va_A wc H.size q → A q) ∧ ∀ (H1 : Heap) (w1 : va_W), (∀ q : Nat, q < H.size → ¬ va_A wc H.size q → H1[q]? = H[q]?) → va_P D vwCl w1 H1 → va_D (va_A wc H.size) w1 → va_P D vwCl (pre ++ (w1 ++ suf)) H1 ∧ va_D A (pre ++ (w1 ++ suf)) := by
  obtain ⟨hP, hD, hS⟩ := HW
  rw [← List.append_assoc] at hP hD
  have hP' : va_P D vwCl ((pre ++ suf) ++ wc) H := hP.swap
  have hD' : va_D A ((pre ++ suf) ++ wc) := hD.swap
  have hg : ∀ (k : Nat) (q : Nat × va_E), wc[k]? = some q → ((pre ++ suf) ++ wc)[(pre ++ suf).length + k]? = some q := by
    intro k q hk
    rw [List.getElem?_append_right (by omega), Nat.add_sub_cancel_left]
    exact hk
  have hPc : va_P D vwCl wc H := hP'.by _ hg
  have hDc : va_D A wc := hD'.by _ hg (fun i j _ _ h => by omega)
  have hF : ∀ q, va_A wc H.size q → A q := by
    intro q h
    rcases h with ⟨k, e, h⟩ | h
    · exact hDc.2 k _ h
    · exact hA q (Nat.le_trans hS.1 h)
  refine ⟨hPc, hDc.weaken (fun _ _ _ _ => trivial), hF, fun H1 w1 hk hP1 hD1 => ?_⟩
  obtain ⟨h1, h2⟩ := va_join (wc := wc) (wr := pre ++ suf) hP' hD' _ _ (g_mapC (pre ++ suf) wc) (g_mapR (pre ++ suf) wc) (g_nd _ List.nodup_range) (fun i hi hj => by
    have a1 := List.mem_range.mp hi
    have a2 := (List.mem_range'_1.mp hj).1
    omega) hk hF hP1 hD1
  have h3 := h1.swap
  have h4 := h2.swap
  rw [List.append_assoc] at h3 h4
  exact ⟨h3, h4⟩
section G
variable {p : Program} {l : Launch} {e : Env} {R : Room} {s : State} {m : MethodId} {args : Array Value} {below : List Frame} {meth : Method} {c : Code} {H : Heap} {locs : List Loc} {cells slots : Nat} {Q : State → Prop}
variable {cc : ByteArray} {pc nL : Nat} {ls : Array Slot} {rest : List Value} {ret : Option FieldType} {own : String} {Ts : List Cond} {D : va_G} {A : Nat → Prop} {a : Nat} {tys : List (ClassId × FieldType)} {w : va_W}
theorem g_get (CX : Cx p s m args meth c cc nL ret own Ts D tys A) (HW : Hw D A s w H locs) {C : String} {T : u_T} {N ci index : Nat} (hin : ∀ x ∈ u_ws C T N, x ∈ Ts) (q0 k : Nat) {fs : List Value} (he : w[q0]? = some (a, .inr (ci, fs))) (hc : vwCl[ci]? = some (C, T, N)) (hk : k < N) (hlink : Cond.fieldLink own index (T k).1 (T k).2.1 (T k).2.2.1 ∈ Ts) {v : Value} (hv : fs[k]? = some v) (hdg : decode cc pc = .ok (.getfield index, 3))
    (kk : W p l e R s m args below meth c H locs cells slots Q (F0 m (pc + 3) ls (v :: rest))) : W p l e R s m args below meth c H locs cells slots Q (F0 m pc ls (.ref a :: rest)) := by
  obtain ⟨hx, hb, hml, hr, hown, hts, hK, hA, hlk⟩ := CX
  exact va_get hx hb hts hin hown hK.1 HW.1 q0 he hc k hk (hts _ hlink) (fun _ h => h) hv hdg kk
theorem g_getN (CX : Cx p s m args meth c cc nL ret own Ts D tys A) (HW : Hw D A s w H locs) {C host : String} {T : u_T} {N ci index : Nat} (hin : ∀ x ∈ u_ws C T N, x ∈ Ts) (q0 k : Nat) {fs : List Value} (he : w[q0]? = some (a, .inr (ci, fs))) (hc : vwCl[ci]? = some (C, T, N)) (hk : k < N) (hlink : Cond.fieldLinkNest own index (T k).1 (T k).2.1 (T k).2.2.1 host ∈ nwl) {v : Value} (hv : fs[k]? = some v) (hdg : decode cc pc = .ok (.getfield index, 3))
    (kk : W p l e R s m args below meth c H locs cells slots Q (F0 m (pc + 3) ls (v :: rest))) : W p l e R s m args below meth c H locs cells slots Q (F0 m pc ls (.ref a :: rest)) := by
  obtain ⟨hx, hb, hml, hr, hown, hts, hK, hA, hlk⟩ := CX
  exact va_getN hx hb hts hin hown hK.1 HW.1 q0 he hc k hk (hK.use hlink) (fun _ h => h) hv hdg kk
theorem g_put (CX : Cx p s m args meth c cc nL ret own Ts D tys A) (HW : Hw D A s w H locs) {C : String} {T : u_T} {N ci index : Nat} (hin : ∀ x ∈ u_ws C T N, x ∈ Ts) (ty0 : Nat → FieldType) (hty : ∀ k, k < N → parseFieldDescriptor (T k).2.2.1 = some (ty0 k)) (hnm : ∀ a, a < N → ∀ b, b < N → a ≠ b → (T a).2.1 ≠ (T b).2.1) (q0 k : Nat) {fs : List Value} (he : w[q0]? = some (a, .inr (ci, fs))) (hc : vwCl[ci]? = some (C, T, N)) (hk : k < N) (hlink : Cond.fieldLink own index (T k).1 (T k).2.1 (T k).2.2.1 ∈ Ts) (hfin : (T k).2.2.2 = false) {v : Value} (hn : narrow (ty0 k) v = v) (hfit : fits (ty0 k) v = true) (hl : k < fs.length) (hdg : decode cc pc = .ok (.putfield index, 3))
    (kk : ∀ (H1 : Heap) (locs1 : List Loc), Hw D A s (w.set q0 (a, .inr (ci, fs.set k v))) H1 locs1 → W p l e R s m args below meth c H1 locs1 cells slots Q (F0 m (pc + 3) ls rest)) : W p l e R s m args below meth c H locs cells slots Q (F0 m pc ls (v :: .ref a :: rest)) := by
  obtain ⟨hx, hb, hml, hr, hown, hts, hK, hA, hlk⟩ := CX
  exact va_put hx hb hts hin ty0 hty hnm hown hK.1 HW.1 HW.2.1 HW.2.2 q0 he hc k hk (hts _ hlink) (fun _ h => h) hfin (hty k hk) hn hfit hl hdg (fun H1 l1 h1 h2 h3 => kk H1 l1 ⟨h1, h2, h3⟩)
theorem g_putN (CX : Cx p s m args meth c cc nL ret own Ts D tys A) (HW : Hw D A s w H locs) {C host : String} {T : u_T} {N ci index : Nat} (hin : ∀ x ∈ u_ws C T N, x ∈ Ts) (ty0 : Nat → FieldType) (hty : ∀ k, k < N → parseFieldDescriptor (T k).2.2.1 = some (ty0 k)) (hnm : ∀ a, a < N → ∀ b, b < N → a ≠ b → (T a).2.1 ≠ (T b).2.1) (q0 k : Nat) {fs : List Value} (he : w[q0]? = some (a, .inr (ci, fs))) (hc : vwCl[ci]? = some (C, T, N)) (hk : k < N) (hlink : Cond.fieldLinkNest own index (T k).1 (T k).2.1 (T k).2.2.1 host ∈ nwl) (hfin : (T k).2.2.2 = false) {v : Value} (hn : narrow (ty0 k) v = v) (hfit : fits (ty0 k) v = true) (hl : k < fs.length) (hdg : decode cc pc = .ok (.putfield index, 3))
    (kk : ∀ (H1 : Heap) (locs1 : List Loc), Hw D A s (w.set q0 (a, .inr (ci, fs.set k v))) H1 locs1 → W p l e R s m args below meth c H1 locs1 cells slots Q (F0 m (pc + 3) ls rest)) : W p l e R s m args below meth c H locs cells slots Q (F0 m pc ls (v :: .ref a :: rest)) := by
  obtain ⟨hx, hb, hml, hr, hown, hts, hK, hA, hlk⟩ := CX
  exact va_putN hx hb hts hin ty0 hty hnm hown hK.1 HW.1 HW.2.1 HW.2.2 q0 he hc k hk (hK.use hlink) (fun _ h => h) hfin (hty k hk) hn hfit hl hdg (fun H1 l1 h1 h2 h3 => kk H1 l1 ⟨h1, h2, h3⟩)
theorem g_putF (CX : Cx p s m args meth c cc nL ret own Ts D tys A) (hin2 : meth.name = "<init>") (HW : Hw D A s w H locs) {C : String} {T : u_T} {N ci index : Nat} (hin : ∀ x ∈ u_ws C T N, x ∈ Ts) (ty0 : Nat → FieldType) (hty : ∀ k, k < N → parseFieldDescriptor (T k).2.2.1 = some (ty0 k)) (hnm : ∀ a, a < N → ∀ b, b < N → a ≠ b → (T a).2.1 ≠ (T b).2.1) (q0 k : Nat) {fs : List Value} (he : w[q0]? = some (a, .inr (ci, fs))) (hc : vwCl[ci]? = some (C, T, N)) (hk : k < N) (hlink : Cond.fieldLink own index (T k).1 (T k).2.1 (T k).2.2.1 ∈ Ts) (hfin : (T k).2.2.2 = true) (hdecl : (T k).1 = own) {v : Value} (hn : narrow (ty0 k) v = v) (hfit : fits (ty0 k) v = true) (hl : k < fs.length) (hdg : decode cc pc = .ok (.putfield index, 3))
    (kk : ∀ (H1 : Heap) (locs1 : List Loc), Hw D A s (w.set q0 (a, .inr (ci, fs.set k v))) H1 locs1 → W p l e R s m args below meth c H1 locs1 cells slots Q (F0 m (pc + 3) ls rest)) : W p l e R s m args below meth c H locs cells slots Q (F0 m pc ls (v :: .ref a :: rest)) := by
  obtain ⟨hx, hb, hml, hr, hown, hts, hK, hA, hlk⟩ := CX
  exact va_putF hx hb hts hin ty0 hty hnm hown hK.1 HW.1 HW.2.1 HW.2.2 q0 he hc k hk (hts _ hlink) (fun _ h => h) hfin hin2 hdecl (hty k hk) hn hfit hl hdg (fun H1 l1 h1 h2 h3 => kk H1 l1 ⟨h1, h2, h3⟩)
theorem g_ald (CX : Cx p s m args meth c cc nL ret own Ts D tys A) (HW : Hw D A s w H locs) (q0 : Nat) {cA : ClassId} {n k : Nat} {f : Nat → Int32} (ha : w[q0]? = some (a, .inl (cA, n, .inl f))) (ht : tys[0]? = some (cA, .int)) {x : Int32} (hx0 : x = nI k) (hk : k < n) (hn : n < 2 ^ 31) (hdg : decode cc pc = .ok (.iaload, 1))
    (kk : W p l e R s m args below meth c H locs cells slots Q (F0 m (pc + 1) ls (.int (f k) :: rest))) : W p l e R s m args below meth c H locs cells slots Q (F0 m pc ls (.int x :: .ref a :: rest)) := by
  subst hx0
  obtain ⟨hx, hb, hml, hr, hown, hts, hK, hA, hlk⟩ := CX
  refine va_iald hx hb hK.1 HW.1 q0 0 ha ht (vp_in_nI hk hn) hdg ?_
  rw [nI_clamp (by omega)]
  exact kk
theorem g_ast (CX : Cx p s m args meth c cc nL ret own Ts D tys A) (HW : Hw D A s w H locs) (q0 : Nat) {cA : ClassId} {n k : Nat} {f : Nat → Int32} (ha : w[q0]? = some (a, .inl (cA, n, .inl f))) (ht : tys[0]? = some (cA, .int)) {x y : Int32} (hx0 : x = nI k) (hk : k < n) (hn : n < 2 ^ 31) (hdg : decode cc pc = .ok (.iastore, 1))
    (kk : ∀ (H1 : Heap) (locs1 : List Loc), Hw D A s (w.set q0 (a, .inl (cA, n, .inl (upd f k y)))) H1 locs1 → W p l e R s m args below meth c H1 locs1 cells slots Q (F0 m (pc + 1) ls rest)) : W p l e R s m args below meth c H locs cells slots Q (F0 m pc ls (.int y :: .int x :: .ref a :: rest)) := by
  subst hx0
  obtain ⟨hx, hb, hml, hr, hown, hts, hK, hA, hlk⟩ := CX
  refine va_iast hx hb hK.1 HW.1 HW.2.1 HW.2.2 q0 0 ha ht (vp_in_nI hk hn) hdg (fun H1 l1 h1 h2 h3 => kk H1 l1 ?_)
  rw [nI_clamp (by omega)] at h1 h2
  exact ⟨h1, h2, h3⟩
theorem g_len (CX : Cx p s m args meth c cc nL ret own Ts D tys A) (HW : Hw D A s w H locs) (q0 : Nat) {cA : ClassId} {n : Nat} {f : Nat → Int32} (ha : w[q0]? = some (a, .inl (cA, n, .inl f))) (ht : tys[0]? = some (cA, .int)) (hdg : decode cc pc = .ok (.arraylength, 1))
    (kk : W p l e R s m args below meth c H locs cells slots Q (F0 m (pc + 1) ls (.int (nI n) :: rest))) : W p l e R s m args below meth c H locs cells slots Q (F0 m pc ls (.ref a :: rest)) := by
  obtain ⟨hx, hb, hml, hr, hown, hts, hK, hA, hlk⟩ := CX
  exact va_alen hx hb hK.1 HW.1 q0 0 ha ht rfl hdg kk
theorem g_iret {post : Option Value → va_W → Prop} (CX : Cx p s m args meth c cc nL ret own Ts D tys A) (HW : Hw D A s w H locs) (hret : ret = some .int) {v : Int32} (hpost : post (some (.int v)) w) (hdg : decode cc pc = .ok (.ireturn, 1)) : W p l e R s m args below meth c H locs cells slots (MQ below (cQ D A post) args s cells slots A) (F0 m pc ls [.int v]) := by
  obtain ⟨hx, hb, hml, hr, hown, hts, hK, hA, hlk⟩ := CX
  exact W.iret hx hb (by rw [hr, hret]) (fun t ht hW => ⟨⟨_, w, rfl, hpost, by rw [ht]; exact HW.1, HW.2.1⟩, HW.2.2.F ht⟩) HW.2.2.2.2 hdg hlk
theorem g_zret {post : Option Value → va_W → Prop} (CX : Cx p s m args meth c cc nL ret own Ts D tys A) (HW : Hw D A s w H locs) (hret : ret = some .boolean) {v : Int32} (hn : v = 0 ∨ v = 1) (hpost : post (some (.int v)) w) (hdg : decode cc pc = .ok (.ireturn, 1)) : W p l e R s m args below meth c H locs cells slots (MQ below (cQ D A post) args s cells slots A) (F0 m pc ls [.int v]) := by
  obtain ⟨hx, hb, hml, hr, hown, hts, hK, hA, hlk⟩ := CX
  exact W.zret (ty := .boolean) hx hb (by rw [hr, hret]) (by rcases hn with rfl | rfl <;> rfl) (fun t ht hW => ⟨⟨_, w, rfl, hpost, by rw [ht]; exact HW.1, HW.2.1⟩, HW.2.2.F ht⟩) HW.2.2.2.2 hdg hlk
theorem g_lret {post : Option Value → va_W → Prop} (CX : Cx p s m args meth c cc nL ret own Ts D tys A) (HW : Hw D A s w H locs) (hret : ret = some .long) {v : Int64} (hpost : post (some (.long v)) w) (hdg : decode cc pc = .ok (.lreturn, 1)) : W p l e R s m args below meth c H locs cells slots (MQ below (cQ D A post) args s cells slots A) (F0 m pc ls [.long v]) := by
  obtain ⟨hx, hb, hml, hr, hown, hts, hK, hA, hlk⟩ := CX
  exact W.lret hx hb (by rw [hr, hret]) (fun t ht hW => ⟨⟨_, w, rfl, hpost, by rw [ht]; exact HW.1, HW.2.1⟩, HW.2.2.F ht⟩) HW.2.2.2.2 hdg hlk
theorem g_vret {post : Option Value → va_W → Prop} (CX : Cx p s m args meth c cc nL ret own Ts D tys A) (HW : Hw D A s w H locs) (hret : ret = none) (hpost : post none w) (hdg : decode cc pc = .ok (.return_, 1)) : W p l e R s m args below meth c H locs cells slots (MQ below (cQ D A post) args s cells slots A) (F0 m pc ls []) := by
  obtain ⟨hx, hb, hml, hr, hown, hts, hK, hA, hlk⟩ := CX
  exact W.vret hx hb (by rw [hr, hret]) (fun t ht hW => ⟨⟨_, w, rfl, hpost, by rw [ht]; exact HW.1, HW.2.1⟩, HW.2.2.F ht⟩) HW.2.2.2.2 hdg hlk
theorem g_run {pre wc suf : va_W} {post : Option Value → va_W → Prop} {st0 : List Value} {av : Array Value} {mc ms : Nat} (HW : Hw D A s w H locs) (hw : w = pre ++ (wc ++ suf)) (hA : ∀ q : Nat, s.heap.size ≤ q → A q)
    (hr : va_Run p l e R s m args below meth c H locs cells slots mc ms (F0 m pc ls st0) rest (cQ D (va_A wc H.size) post av) (va_A wc H.size))
    (kk : ∀ (v : Option Value) (w1 : va_W) (H1 : Heap) (locs1 : List Loc), post v w1 → Hw D A s (pre ++ (w1 ++ suf)) H1 locs1 → W p l e R s m args below meth c H1 locs1 (cells + mc) (slots + ms) Q (F0 m (pc + 3) ls (v.toList ++ rest))) : W p l e R s m args below meth c H locs cells slots Q (F0 m pc ls st0) := by
  subst hw
  intro T hT X
  obtain ⟨-, -, hF, hj⟩ := g_cut HW hA
  obtain ⟨hP, hD, hS⟩ := HW
  obtain ⟨v, st₀, t, T', L, h0, X', hL, e1, e2, ⟨⟨v', w1, hv, hp, hP1, hD1⟩, hz, hk⟩, st⟩ := hr T hT X
  cases hv
  rw [h0] at hz hk
  obtain ⟨j1, j2⟩ := hj t.heap w1 hk hP1 hD1
  rw [← e1] at j1 hz hk
  obtain ⟨t2, a1, b1⟩ := kk v w1 T'.heap (locs ++ L) hp ⟨j1, j2, Nat.le_trans hS.1 hz, fun q h1 h2 => (hk q (Nat.lt_of_lt_of_le h1 hS.1) (fun z => h2 (hF q z))).trans (hS.2.1 q h1 h2), fun q hq => by
      rcases List.mem_append.mp hq with h | h
      · exact hS.2.2 q h
      · exact hF _ (hL q h)⟩ T' rfl X'
  exact ⟨t2, st t2 a1, b1⟩
theorem Cx.fix (CX : Cx p s m args meth c cc nL ret own Ts D tys A) : CallFix p m c cc nL s args Ts own := ⟨CX.1, CX.2.1, CX.2.2.1, CX.2.2.2.2.1, CX.2.2.2.2.2.1⟩
theorem Cx.hA (CX : Cx p s m args meth c cc nL ret own Ts D tys A) : ∀ q : Nat, s.heap.size ≤ q → A q := CX.2.2.2.2.2.2.2.1
theorem Cx.hK (CX : Cx p s m args meth c cc nL ret own Ts D tys A) : KK D tys s := CX.2.2.2.2.2.2.1
theorem g_pre {pre wc suf : va_W} (CX : Cx p s m args meth c cc nL ret own Ts D tys A) (HW : Hw D A s w H locs) (hw : w = pre ++ (wc ++ suf)) (av : List Value) : PreS s H (cPc D tys av wc H.size) av := by
  subst hw
  obtain ⟨hPc, hDc, -, -⟩ := g_cut HW CX.hA
  exact ⟨cPc.blind, fun U hU hW => ⟨rfl, by rw [hU], by rw [hU]; exact hPc, CX.hK.warm hW, hDc⟩⟩
theorem g_preV {pre wc suf : va_W} (CX : Cx p s m args meth c cc nL ret own Ts D tys A) (HW : Hw D A s w H locs) (hw : w = pre ++ (wc ++ suf)) {b ci q0 : Nat} {fs : List Value} {C : String} {T : u_T} {N : Nat} (hc : vwCl[ci]? = some (C, T, N)) (he : wc[q0]? = some (b, .inr (ci, fs))) (As : List Value) : PreV s H C b (cPc D tys (.ref b :: As) wc H.size) As := by
  obtain ⟨h1, h2⟩ := g_pre CX HW hw (.ref b :: As)
  subst hw
  obtain ⟨hPc, hDc, -, -⟩ := g_cut HW CX.hA
  exact ⟨h1, va_recv CX.hK.1 hPc hc he, h2⟩
/-- an instance method's call: y's contract hc, over the cells wc; the others stay -/
theorem g_callV {y : MethodName} {index n maxL : Nat} {bytes : ByteArray} {rt : Option FieldType} {ws2 ws2' : List Cond} {rm2 : Room} {b ci : Nat} {fs : List Value} {C : String} {T : u_T} {N : Nat} {As st0 : List Value} {wc : va_W} {post : Option Value → va_W → Prop} (CX : Cx p s m args meth c cc nL ret own Ts D tys A) (HW : Hw D A s w H locs) (hl : ls.size = nL) (pre suf : va_W) (hc : Ct l y ws2 rm2 D tys (.ref b :: As) wc post 0 0) (hw : w = pre ++ (wc ++ suf)) (qr : Nat) (he : wc[qr]? = some (b, .inr (ci, fs))) (hci : vwCl[ci]? = some (C, T, N))
    (hG : GoodIn Ts (wsV own index C y ws2)) (hy : ws2 = Cond.code y bytes maxL rt :: ws2') (hd : y.cls = C ∧ y.cls ≠ "java/lang/invoke/MethodHandle" ∧ y.cls ≠ "java/lang/invoke/VarHandle" ∧ (parseMethodDescriptor y.desc).map (fun d => d.parameters.length) = some n) (hR : rm2.cells = 0 ∧ rm2.slots = 0 ∧ rm2.frames + 1 ≤ R.frames ∧ 8 + (maxL + 11) + rm2.locals ≤ R.locals) (hcs : cells ≤ R.cells ∧ slots ≤ R.slots) (hn : As.length = n) (hst : st0 = As.reverse ++ .ref b :: rest) (hW : (rest.map fun v => v.category).sum ≤ 8) (hdg : decode cc pc = .ok (.invokevirtual index, 3))
    (kk : ∀ (v : Option Value) (w1 : va_W) (H1 : Heap) (locs1 : List Loc), post v w1 → Hw D A s (pre ++ (w1 ++ suf)) H1 locs1 → W p l e R s m args below meth c H1 locs1 cells slots Q (F0 m (pc + 3) ls (v.toList ++ rest))) : W p l e R s m args below meth c H locs cells slots Q (F0 m pc ls st0) :=
  g_run HW hw CX.hA (va_runV CX.fix (hc H.size) (cwV n CX.fix.2.2.2.2 hG hy hR.1 hR.2.1 hd ⟨hR.2.2.1, hR.2.2.2⟩) (g_preV CX HW hw hci he As) rfl hn hl hst (lv_room hW) hdg hcs) kk
/-- a static method of the same class -/
theorem g_callS {y : MethodName} {index n maxL : Nat} {bytes : ByteArray} {rt : Option FieldType} {ws2 ws2' : List Cond} {rm2 : Room} {As st0 : List Value} {wc : va_W} {post : Option Value → va_W → Prop} (CX : Cx p s m args meth c cc nL ret own Ts D tys A) (HW : Hw D A s w H locs) (hl : ls.size = nL) (pre suf : va_W) (hc : Ct l y ws2 rm2 D tys As wc post 0 0) (hw : w = pre ++ (wc ++ suf))
    (hG : GoodIn Ts (va_wsS own index y ws2)) (hy : ws2 = Cond.code y bytes maxL rt :: ws2') (hd : y.cls ≠ "java/lang/invoke/MethodHandle" ∧ y.cls ≠ "java/lang/invoke/VarHandle" ∧ (parseMethodDescriptor y.desc).map (fun d => d.parameters.length) = some n) (hR : rm2.cells = 0 ∧ rm2.slots = 0 ∧ rm2.frames + 1 ≤ R.frames ∧ 8 + (maxL + 11) + rm2.locals ≤ R.locals) (hcs : cells ≤ R.cells ∧ slots ≤ R.slots) (hn : As.length = n) (hst : st0 = As.reverse ++ rest) (hW : (rest.map fun v => v.category).sum ≤ 8) (hdg : decode cc pc = .ok (.invokestatic index, 3))
    (kk : ∀ (v : Option Value) (w1 : va_W) (H1 : Heap) (locs1 : List Loc), post v w1 → Hw D A s (pre ++ (w1 ++ suf)) H1 locs1 → W p l e R s m args below meth c H1 locs1 cells slots Q (F0 m (pc + 3) ls (v.toList ++ rest))) : W p l e R s m args below meth c H locs cells slots Q (F0 m pc ls st0) :=
  g_run HW hw CX.hA (va_runS CX.fix (hc H.size) (va_cwS n CX.fix.2.2.2.2 hG hy hR.1 hR.2.1 hd ⟨hR.2.2.1, hR.2.2.2⟩) (g_pre CX HW hw As) rfl hn hl hst (lv_room hW) hdg hcs) kk
/-- a private static method of a nest mate -/
theorem g_callSN {y : MethodName} {host : String} {index n maxL : Nat} {bytes : ByteArray} {rt : Option FieldType} {ws2 ws2' : List Cond} {rm2 : Room} {As st0 : List Value} {wc : va_W} {post : Option Value → va_W → Prop} (CX : Cx p s m args meth c cc nL ret own Ts D tys A) (HW : Hw D A s w H locs) (hl : ls.size = nL) (pre suf : va_W) (hc : Ct l y ws2 rm2 D tys As wc post 0 0) (hw : w = pre ++ (wc ++ suf))
    (hG : GoodIn Ts ws2) (hin : Cond.initialized y.cls ∈ Ts ∧ Cond.static y ∈ Ts) (hlk : Cond.methodLinkNest own index y host ∈ nwl) (hy : ws2 = Cond.code y bytes maxL rt :: ws2') (hd : y.cls ≠ "java/lang/invoke/MethodHandle" ∧ y.cls ≠ "java/lang/invoke/VarHandle" ∧ (parseMethodDescriptor y.desc).map (fun d => d.parameters.length) = some n) (hR : rm2.cells = 0 ∧ rm2.slots = 0 ∧ rm2.frames + 1 ≤ R.frames ∧ 8 + (maxL + 11) + rm2.locals ≤ R.locals) (hcs : cells ≤ R.cells ∧ slots ≤ R.slots) (hn : As.length = n) (hst : st0 = As.reverse ++ rest) (hW : (rest.map fun v => v.category).sum ≤ 8) (hdg : decode cc pc = .ok (.invokestatic index, 3))
    (kk : ∀ (v : Option Value) (w1 : va_W) (H1 : Heap) (locs1 : List Loc), post v w1 → Hw D A s (pre ++ (w1 ++ suf)) H1 locs1 → W p l e R s m args below meth c H1 locs1 cells slots Q (F0 m (pc + 3) ls (v.toList ++ rest))) : W p l e R s m args below meth c H locs cells slots Q (F0 m pc ls st0) :=
  g_run HW hw CX.hA (va_runSN (host := host) CX.fix (hc H.size) ⟨va_cnB n CX.fix.2.2.2.2 hG hy hR.1 hR.2.1 (CX.hK.nest hlk) (CX.fix.2.2.2.2 _ hin.1) hd ⟨hR.2.2.1, hR.2.2.2⟩, CX.fix.2.2.2.2 _ hin.2, trivial⟩ (g_pre CX HW hw As) rfl hn hl hst (lv_room hW) hdg hcs) kk
end G
