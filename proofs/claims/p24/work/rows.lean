section
-- ===== PART A: goes FIRST, ahead of the names: the tables' words, and 'selects' of the private methods out of them =====
/-- a private method of a class that the tables say can be made, by its rows of tables_1 -/
def lw_okq (q : MethodName × Nat) : Prop := (q.1.cls ≠ "java/lang/invoke/MethodHandle" ∧ q.1.cls ≠ "java/lang/invoke/VarHandle") ∧ Cond.instantiable q.1.cls q.2 ∈ tables_1 ∧ Cond.privateMethod q.1 ∈ tables_1 ∧ Cond.instanceMethod q.1 ∈ tables_1
theorem lw_p0 : lw_okq (⟨"java/lang/Throwable", "fillInStackTrace", "(I)Ljava/lang/Throwable;"⟩, 6) := ⟨⟨by decide +kernel, by decide +kernel⟩, List.mem_of_getElem? (i := 63) (by decide +kernel), List.mem_of_getElem? (i := 61) (by decide +kernel), List.mem_of_getElem? (i := 62) (by decide +kernel)⟩
def lw_privs_1 : List (MethodName × Nat) := [(⟨"java/lang/Throwable", "fillInStackTrace", "(I)Ljava/lang/Throwable;"⟩, 6)]
theorem lw_r1 : ∀ q ∈ lw_privs_1, lw_okq q := List.forall_mem_cons.mpr ⟨lw_p0, fun _ h => absurd h List.not_mem_nil⟩
def lw_privs : List (MethodName × Nat) := lw_privs_1
def lw_tbl : List Cond := k2_sels lw_privs ++ tables_1
theorem lw_privs_ok : ∀ q ∈ lw_privs, lw_okq q := lw_r1
/-- the streams that the claim lets the run draw from -/
abbrev lw_cs : List Choice := [Jvm.Choice.named "NaN.bits"]
theorem lw_bits : nanBits ∈ lw_cs := by first | decide | exact List.mem_cons_self | simp [lw_cs, nanBits]
-- ===== end of PART A; then your names; then what follows =====
/-! ===== BEGIN words of one list among another's, by their places ===== -/
theorem goodIn_r {big : List Cond} (ws : List Cond) (ps : List Nat) (hp : ws = ps.filterMap (fun i => big[i]?)) (h : ws.all goodWord = true) : GoodIn big ws := by
  intro w hw
  have h1 := List.all_eq_true.mp h w hw
  rw [hp] at hw
  obtain ⟨i, -, hi⟩ := List.mem_filterMap.mp hw
  have hm : w ∈ big := by first | exact List.mem_of_getElem? hi | exact List.getElem?_mem hi
  exact ⟨hm, good_of_word h1⟩
theorem goodIn_app {big a b : List Cond} (ha : GoodIn big a) (hb : GoodIn big b) : GoodIn big (a ++ b) := fun w h => (List.mem_append.mp h).elim (ha w) (hb w)
theorem goodIn_ca {big a b : List Cond} {c : Cond} (ha : GoodIn big (c :: a)) (hb : GoodIn big b) : GoodIn big (c :: (a ++ b)) := fun w h => (List.mem_cons.mp h).elim (fun e => ha w (List.mem_cons.mpr (Or.inl e))) (fun h => (List.mem_append.mp h).elim (fun h => ha w (List.mem_cons.mpr (Or.inr h))) (hb w))
theorem goodIn_sub {big ws : List Cond} (hm : ∀ w ∈ ws, w ∈ big) (h : ws.all goodWord = true) : GoodIn big ws := fun w hw => ⟨hm w hw, good_of_word (List.all_eq_true.mp h w hw)⟩
/-! ===== END ===== -/

/-! ===== BEGIN exceptions that leave a method, and their catching by the caller (launches without stack traces) ===== -/
section VXA
/-! The laws vx_back, vx_callV, vx_callS, vx_callSW, vx_throw0, vx_throwS follow proofs of the library, with one case more: JvmDerived/Free/Laws.lean (Back.of_free), Shelf42/LK1.lean (callV, callS), Shelf/KitTraced.lean (throwNew0V, throwNewS). -/
/-- where a method has thrown q: the class by its name, the cell, what was written, the world -/
def vx_T (XC : String → State → State → Prop) (st : State) (q : Addr) (t : State) (mc ms : Nat) (free : Addr → Prop) : Prop :=
  ∃ (E : String) (ce : Cell) (L : List Loc), XC E st t ∧ t.heap[q]? = some ce ∧ ce.vm = .none ∧ st.vm.findClass E = some ce.cls ∧ st.WarmedH t.vm ∧ st.sameButNew ({ t with vm := st.vm } : State) L mc ms ∧ ∀ z ∈ L, free z.base
def vx_Q (Qc : Array Value → State → Outcome → State → Prop) (XC : String → State → State → Prop) (mc ms : Nat) (free : Addr → Prop) : Array Value → State → Outcome → State → Prop := fun a st o t =>
  (Qc a st o t ∧ ∃ L, FrameEnd st o t L mc ms ∧ ∀ q ∈ L, free q.base) ∨ ∃ q, o = .threw q ∧ vx_T XC st q t mc ms free
/-- a callee that returns or throws -/
def vx_Met (l : Launch) (y : MethodName) (ws : List Cond) (rm : Room) (Pc : Array Value → State → Prop) (Qc : Array Value → State → Outcome → State → Prop) (XC : String → State → State → Prop) (mc ms : Nat) (free : Addr → Prop) : Prop :=
  MetFree l y (headSpec ws rm) Pc (fun _ _ _ _ _ => True) (vx_Q Qc XC mc ms free)
def vx_Post (XC : String → State → State → Prop) (mc ms : Nat) (free : Addr → Prop) : Pt → Array Value → Addr → Pt → Prop := fun A a q B =>
  ∃ (g : JFrame) (mk : MethodId) (t : State) (L : List Loc) (E : String) (ce : Cell), B.U.heap = t.heap ∧ B.U.vm = t.vm ∧ XC E (A.U.calling g mk a) t ∧ t.heap[q]? = some ce ∧ ce.vm = .none ∧ A.U.vm.findClass E = some ce.cls ∧ B.locs = A.locs ++ L ∧ (∀ z ∈ L, free z.base) ∧ B.cells = A.cells + mc ∧ B.slots = A.slots + ms
def vx_Back (l : Launch) (R : Room) (p : Program) (e : Env) (below : List Frame) (s : State) (sargs : Array Value) (y : MethodName) (len W9 : Nat)
    (Pre : Pt → Array Value → Prop) (Post : Pt → Array Value → Option Value → Pt → Prop) (PostX : Pt → Array Value → Addr → Pt → Prop) : Prop :=
  ∀ (m : MethodId) (meth : Method) (c : Code) (A : Pt) (g : JFrame) (ig : Instr) (mk : MethodId) (a : Array Value),
    Stand p l e R s m sargs below meth c A.U A.locs A.cells A.slots → g.method = m → g.locals.size = c.maxLocals → decode c.code g.pc = .ok (ig, len) →
    2 * g.monitorRoom + (g.stack.map fun v => v.category).sum ≤ W9 → A.U.methodNamed? y = some mk → Pre A a →
    (∃ (v : Option Value) (B : Pt), Stand p l e R s m sargs below meth c B.U B.locs B.cells B.slots ∧ Post A a v B ∧
      Steps p.tables e below (doInvoke e (A.U.setTop g) [] mk a).1 (B.U.setTop { g with pc := g.pc + len, stack := v.toList ++ g.stack })) ∨
    (∃ (q : Addr) (B : Pt), Stand p l e R s m sargs below meth c B.U B.locs B.cells B.slots ∧ PostX A a q B ∧
      Steps p.tables e below (doInvoke e (A.U.setTop g) [] mk a).1 ((B.U.setTop g).pushFrame (.throwing q)))
section Payer
variable {l : Launch} {R : Room} {p : Program} {e : Env} {below : List Frame} {s : State} {sargs : Array Value} {y : MethodName} {len W9 : Nat}
theorem vx_back {ws : List Cond} {rm : Room} {Pc : Array Value → State → Prop} {Qc : Array Value → State → Outcome → State → Prop} {XC : String → State → State → Prop} {mc ms : Nat} {free : Addr → Prop} {bytes : ByteArray} {maxL : Nat} {ret : Option FieldType}
    (hM : vx_Met l y ws rm Pc Qc XC mc ms free) (hblind : FrameBlind Pc) (hrc : rm.cells = mc) (hrs : rm.slots = ms)
    (hframes : rm.frames + 1 ≤ R.frames) (hlocals : W9 + (maxL + 11) + rm.locals ≤ R.locals)
    (hws : ∀ w ∈ ws, ∀ a' U, s.WarmedH U.vm → w.before a' U = true) (hcode : Cond.code y bytes maxL ret ∈ ws) (hinit : ∀ a' U, s.WarmedH U.vm → (Cond.initialized y.cls).before a' U = true) :
    vx_Back l R p e below s sargs y len W9 (PreOf R mc ms Pc) (PostOf Qc mc ms free) (vx_Post XC mc ms free) := by
  intro m meth c A g ig mk a X hg hsize hdg hW hn hp
  have h1 : (headSpec ws rm).pre.before a A.U = true := atoms_intro fun w hw => hws w hw _ _ X.warmed
  have h2 : (Cond.code y bytes maxL ret).before a A.U = true := hws _ hcode _ _ X.warmed
  have h3 : (Cond.initialized y.cls).before a A.U = true := hinit _ _ X.warmed
  have h4 : A.cells + (headSpec ws rm).room.cells ≤ R.cells := by rw [show (headSpec ws rm).room.cells = mc from hrc]; exact hp.1
  have h5 : A.slots + (headSpec ws rm).room.slots ≤ R.slots := by rw [show (headSpec ws rm).room.slots = ms from hrs]; exact hp.2.1
  have hPc : Pc a (A.U.calling g mk a) := hblind _ _ _ _ hp.2.2
  obtain ⟨U, Ls, c0, s0⟩ := A
  dsimp only [Pt.U, Pt.locs, Pt.cells, Pt.slots] at h1 h2 h3 h4 h5 X hn hPc ⊢
  obtain ⟨methY, cY, hmY, hcY, -, hlY, -, -, -, -⟩ := Cond.code_spec hn h2
  obtain ⟨kY, hkY, -⟩ := className_of_methodNamed hn
  have hinitY : kY.init = .initialized := Cond.initialized_spec (findClass_of_methodNamed hn) hkY h3
  have h : At U g.method c below := by rw [hg]; exact X.here
  have hlocals9 : W9 + (maxL + 11) + (headSpec ws rm).room.locals ≤ R.locals := hlocals
  have happ : (headSpec ws rm).appliesLoose y e.platform (U.calling g mk a) = true :=
    Spec.appliesLoose_calling (g := g) h hdg hn hkY hinitY
      (X.room_calling (g := g) (R' := (headSpec ws rm).room) hsize hmY hcY hframes (by rw [hlY]; omega) h4 h5) h1
  obtain ⟨mid, hmid⟩ := h.above
  have hfr : (U.setTop g).frames = (.java g :: mid) ++ below := by rw [State.frames_setTop' g h.top, hmid]; rfl
  obtain ⟨o, s₂, hsteps, -, hend, hq⟩ := Steps.callFree hM p X.admits X.cas X.clock (acts := []) hfr happ hPc trivial
  have hq' : vx_Q Qc XC mc ms free a (U.calling g mk a) o s₂ := hq
  rw [State.frames_setTop' g h.top] at hend
  obtain ⟨g₀, hg0⟩ := Option.isSome_iff_exists.mp h.top
  obtain ⟨r, hr⟩ := State.topJava?_eq_some.mp hg0
  have hr' : (({ U with heap := s₂.heap, slotsUsed := s₂.slotsUsed } : State).setVm s₂.vm).frames = .java g₀ :: r := hr
  rcases hq' with ⟨hqc, L, hfe, hL⟩ | ⟨q, rfl, E, ce, L, hx, hce, hcv, hcl, hW₂, hsm, hL⟩
  · obtain ⟨⟨v, rfl⟩, hW₂, e2, q2, q3, q4, q5, q6⟩ := id hfe
    have e3 : s₂ = ({ (U.calling g mk a).setFrames s₂.frames with heap := s₂.heap, slotsUsed := s₂.slotsUsed } : State).setVm s₂.vm := by
      have : s₂ = ({ s₂ with vm := (U.calling g mk a).vm } : State).setVm s₂.vm := rfl
      rw [e2] at this
      exact this
    obtain ⟨c₂, i₂, len₂, hc₂, hd₂, hf₂⟩ := hend
    have hW' : U.WarmedH s₂.vm := hW₂
    have hcc : c₂ = c := by
      have h1 : s₂.code? g.method = U.code? g.method := by
        rw [State.code?_eq, State.code?_eq, hW'.alike.method?]
      exact Option.some.inj (hc₂.symm.trans (h1.trans h.code))
    subst hcc
    have hlen : len₂ = len := by rw [hdg] at hd₂; cases hd₂; rfl
    subst hlen
    have hs₂ : s₂ = (({ U with heap := s₂.heap, slotsUsed := s₂.slotsUsed } : State).setVm s₂.vm).setTop { g with pc := g.pc + len₂, stack := v.toList ++ g.stack } := by
      refine e3.trans ?_
      rw [hf₂, State.calling_eq h.top, State.setFrames_setFrames, State.setTop_of_frames _ hr', hr]
      rfl
    have hsame : U.sameButNew ({ U with heap := s₂.heap, slotsUsed := s₂.slotsUsed } : State) L mc ms := by
      refine ⟨?_, q2, q3, q4, q5, q6⟩
      obtain ⟨t, ht, -⟩ := State.frames_cons hr
      show ({ U with heap := s₂.heap, slotsUsed := s₂.slotsUsed } : State) = { U.setFrames U.frames with heap := s₂.heap, slotsUsed := s₂.slotsUsed }
      rw [State.setFrames_self ht]
    subst hg
    refine Or.inl ⟨v, ⟨(({ U with heap := s₂.heap, slotsUsed := s₂.slotsUsed } : State).setVm s₂.vm), Ls ++ L, c0 + mc, s0 + ms⟩,
      ⟨X.admits, X.cas, X.clock, X.frames, X.room, X.hears, X.method, X.code, (X.here.setHeapUsed s₂.heap s₂.slotsUsed).setVm hW'.alike, X.tail, State.WarmedH.trans X.warmed hW', X.limits, X.bytes, X.same.trans (hsame.setVm s.vm)⟩,
      ⟨g, mk, s₂, L, rfl, rfl, hqc, rfl, hL, rfl, rfl⟩, ?_⟩
    show Steps p.tables e below _ ((({ U with heap := s₂.heap, slotsUsed := s₂.slotsUsed } : State).setVm s₂.vm).setTop { g with pc := g.pc + len₂, stack := v.toList ++ g.stack })
    rw [← hs₂]
    exact hsteps
  · obtain ⟨e2, q2, q3, q4, q5, q6⟩ := id hsm
    have e3 : s₂ = ({ (U.calling g mk a).setFrames s₂.frames with heap := s₂.heap, slotsUsed := s₂.slotsUsed } : State).setVm s₂.vm := by
      have : s₂ = ({ s₂ with vm := (U.calling g mk a).vm } : State).setVm s₂.vm := rfl
      rw [e2] at this
      exact this
    have hf₂ : s₂.frames = .throwing q :: .java g :: U.frames.tail := hend
    have hW' : U.WarmedH s₂.vm := hW₂
    have hs₂ : s₂ = ((({ U with heap := s₂.heap, slotsUsed := s₂.slotsUsed } : State).setVm s₂.vm).setTop g).pushFrame (.throwing q) := by
      refine e3.trans ?_
      rw [hf₂, State.calling_eq h.top, State.setFrames_setFrames, State.pushFrame, State.frames_setTop _ hr', State.setTop_of_frames _ hr', State.setFrames_setFrames, hr]
      rfl
    have hsame : U.sameButNew ({ U with heap := s₂.heap, slotsUsed := s₂.slotsUsed } : State) L mc ms := by
      refine ⟨?_, q2, q3, q4, q5, q6⟩
      obtain ⟨t, ht, -⟩ := State.frames_cons hr
      show ({ U with heap := s₂.heap, slotsUsed := s₂.slotsUsed } : State) = { U.setFrames U.frames with heap := s₂.heap, slotsUsed := s₂.slotsUsed }
      rw [State.setFrames_self ht]
    subst hg
    refine Or.inr ⟨q, ⟨(({ U with heap := s₂.heap, slotsUsed := s₂.slotsUsed } : State).setVm s₂.vm), Ls ++ L, c0 + mc, s0 + ms⟩,
      ⟨X.admits, X.cas, X.clock, X.frames, X.room, X.hears, X.method, X.code, (X.here.setHeapUsed s₂.heap s₂.slotsUsed).setVm hW'.alike, X.tail, State.WarmedH.trans X.warmed hW', X.limits, X.bytes, X.same.trans (hsame.setVm s.vm)⟩,
      ⟨g, mk, s₂, L, E, ce, rfl, rfl, hx, hce, hcv, hcl, rfl, hL, rfl, rfl⟩, ?_⟩
    show Steps p.tables e below _ (((({ U with heap := s₂.heap, slotsUsed := s₂.slotsUsed } : State).setVm s₂.vm).setTop g).pushFrame (.throwing q))
    rw [← hs₂]
    exact hsteps
end Payer
section Calls
variable {p : Program} {l : Launch} {e : Env} {R : Room} {s : State} {m : MethodId} {args : Array Value} {below : List Frame} {meth : Method} {c : Code} {T : State} {locs : List Loc} {cells slots : Nat}
theorem vx_callV (X : Stand p l e R s m args below meth c T locs cells slots) (hexec : p.tables.exec = Jvm.exec) {own C : String} {index : Nat} {y : MethodName} {bytes : ByteArray} {maxL : Nat} {ret : Option FieldType}
    (hown : s.vm.findClass own = some m.cls) (hlink : (Cond.methodLink own index y).before args s = true) (hinst : (Cond.instanceMethod y).before args s = true) (hsel : (Cond.selects C y y).before args s = true)
    (hcode : (Cond.code y bytes maxL ret).before args s = true) (hy : y.cls ≠ "java/lang/invoke/MethodHandle" ∧ y.cls ≠ "java/lang/invoke/VarHandle")
    {W9 : Nat} {Pre : Pt → Array Value → Prop} {Post : Pt → Array Value → Option Value → Pt → Prop} {PostX : Pt → Array Value → Addr → Pt → Prop} (hK : vx_Back l R p e below s args y 3 W9 Pre Post PostX)
    {b : Addr} {cellB : Cell} (hcell : T.heap[b]? = some cellB) (hobj : cellB.vm.isStatics = false) (hcls : s.vm.findClass C = some cellB.cls)
    {g : JFrame} (hg : g.method = m) (hsize : g.locals.size = c.maxLocals) {argsL rest : List Value} (hlen : ∀ sig, parseMethodDescriptor y.desc = some sig → argsL.length = sig.parameters.length)
    (hstack : g.stack = argsL.reverse ++ .ref b :: rest) (hW : 2 * g.monitorRoom + (rest.map fun v => v.category).sum ≤ W9) (hdg : decode c.code g.pc = .ok (.invokevirtual index, 3))
    (hpre : ∀ vm₁, s.WarmedH vm₁ → Pre ⟨T.setVm vm₁, locs, cells, slots⟩ (Value.ref b :: argsL).toArray) :
    (∃ (v : Option Value) (vm₁ : Vm) (B : Pt), s.WarmedH vm₁ ∧ Stand p l e R s m args below meth c B.U B.locs B.cells B.slots ∧ Post ⟨T.setVm vm₁, locs, cells, slots⟩ (Value.ref b :: argsL).toArray v B ∧
      ∀ target, Steps p.tables e below (B.U.setTop { g with pc := g.pc + 3, stack := v.toList ++ rest }) target → Steps p.tables e below (T.setTop g) target) ∨
    (∃ (q : Addr) (vm₁ : Vm) (B : Pt), s.WarmedH vm₁ ∧ Stand p l e R s m args below meth c B.U B.locs B.cells B.slots ∧ PostX ⟨T.setVm vm₁, locs, cells, slots⟩ (Value.ref b :: argsL).toArray q B ∧
      Steps p.tables e below (T.setTop g) ((B.U.setTop { g with stack := rest }).pushFrame (.throwing q))) := by
  obtain ⟨mk, methM, hnamed, hmethM, hstM, habM⟩ := Cond.instanceMethod_spec hinst
  obtain ⟨methM', cM, hmethM', -, -, -, -, -, -, hsigM⟩ := Cond.code_spec hnamed hcode
  cases hmethM.symm.trans hmethM'
  obtain ⟨c2, r2, m2, q1, q2, q3, q4, kP, hkP, hkPi⟩ := Cond.selects_spec hsel
  cases hcls.symm.trans q1
  cases (State.methodFound?_of_named hnamed hy).symm.trans q2
  cases hnamed.symm.trans q3
  have hselP : selectMethod e.platform s.vm cellB.cls mk = .method mk := by rw [Launch.admits_selectMethod X.admits]; exact q4
  obtain ⟨vm₁, X₁, hstep₁⟩ := X.invokevirtual hexec hown hlink hnamed hmethM hstM hkP hkPi hy (a := b) (cell := cellB) hcell
    (fun z h => by rw [h] at hobj; cases hobj) hselP hmethM habM hkP hkPi (g := g) hg (argsL := argsL) (rest := rest) (hlen _ hsigM) hstack hdg
  rcases hK m meth c ⟨T.setVm vm₁, locs, cells, slots⟩ { g with stack := rest } (.invokevirtual index) mk (Value.ref b :: argsL).toArray X₁ hg hsize hdg hW (X₁.named hnamed) (hpre vm₁ X₁.warmed) with ⟨v, B, X', hpost, hsteps⟩ | ⟨q, B, X', hpost, hsteps⟩
  · exact Or.inl ⟨v, vm₁, B, X₁.warmed, X', hpost, fun target h => hstep₁ _ fun acts => by rw [doInvoke_state]; exact hsteps.trans h⟩
  · exact Or.inr ⟨q, vm₁, B, X₁.warmed, X', hpost, hstep₁ _ fun acts => by rw [doInvoke_state]; exact hsteps⟩
theorem vx_callS (X : Stand p l e R s m args below meth c T locs cells slots) (hexec : p.tables.exec = Jvm.exec) {own : String} {index : Nat} {y : MethodName} {bytes : ByteArray} {maxL : Nat} {ret : Option FieldType}
    (hown : s.vm.findClass own = some m.cls) (hlink : (Cond.methodLink own index y).before args s = true) (hstat : (Cond.static y).before args s = true) (hinit : (Cond.initialized y.cls).before args s = true)
    (hcode : (Cond.code y bytes maxL ret).before args s = true) (hy : y.cls ≠ "java/lang/invoke/MethodHandle" ∧ y.cls ≠ "java/lang/invoke/VarHandle")
    {W9 : Nat} {Pre : Pt → Array Value → Prop} {Post : Pt → Array Value → Option Value → Pt → Prop} {PostX : Pt → Array Value → Addr → Pt → Prop} (hK : vx_Back l R p e below s args y 3 W9 Pre Post PostX)
    {g : JFrame} (hg : g.method = m) (hsize : g.locals.size = c.maxLocals) {argsL rest : List Value} (hlen : ∀ sig, parseMethodDescriptor y.desc = some sig → argsL.length = sig.parameters.length)
    (hstack : g.stack = argsL.reverse ++ rest) (hW : 2 * g.monitorRoom + (rest.map fun v => v.category).sum ≤ W9) (hdg : decode c.code g.pc = .ok (.invokestatic index, 3))
    (hpre : ∀ vm₁, s.WarmedH vm₁ → Pre ⟨T.setVm vm₁, locs, cells, slots⟩ argsL.toArray) :
    (∃ (v : Option Value) (vm₁ : Vm) (B : Pt), s.WarmedH vm₁ ∧ Stand p l e R s m args below meth c B.U B.locs B.cells B.slots ∧ Post ⟨T.setVm vm₁, locs, cells, slots⟩ argsL.toArray v B ∧
      ∀ target, Steps p.tables e below (B.U.setTop { g with pc := g.pc + 3, stack := v.toList ++ rest }) target → Steps p.tables e below (T.setTop g) target) ∨
    (∃ (q : Addr) (vm₁ : Vm) (B : Pt), s.WarmedH vm₁ ∧ Stand p l e R s m args below meth c B.U B.locs B.cells B.slots ∧ PostX ⟨T.setVm vm₁, locs, cells, slots⟩ argsL.toArray q B ∧
      Steps p.tables e below (T.setTop g) ((B.U.setTop { g with stack := rest }).pushFrame (.throwing q))) := by
  obtain ⟨mk, hnamed⟩ := Cond.code_named hcode
  obtain ⟨methM, cM, hmethM, -, -, -, -, -, -, hsigM⟩ := Cond.code_spec hnamed hcode
  have hstatic : methM.isStatic = true := Cond.static_spec hnamed hmethM hstat
  obtain ⟨kP, hkP, -⟩ := className_of_methodNamed hnamed
  have hinitP : kP.init = .initialized := Cond.initialized_spec (findClass_of_methodNamed hnamed) hkP hinit
  obtain ⟨vm₁, X₁, hstep₁⟩ := X.invokestatic hexec hown hlink hnamed hmethM hstatic hkP hinitP hy (g := g) hg (argsL := argsL) (rest := rest) (hlen _ hsigM) hstack hdg
  rcases hK m meth c ⟨T.setVm vm₁, locs, cells, slots⟩ { g with stack := rest } (.invokestatic index) mk argsL.toArray X₁ hg hsize hdg hW (X₁.named hnamed) (hpre vm₁ X₁.warmed) with ⟨v, B, X', hpost, hsteps⟩ | ⟨q, B, X', hpost, hsteps⟩
  · exact Or.inl ⟨v, vm₁, B, X₁.warmed, X', hpost, fun target h => hstep₁ _ fun acts => by rw [doInvoke_state]; exact hsteps.trans h⟩
  · exact Or.inr ⟨q, vm₁, B, X₁.warmed, X', hpost, hstep₁ _ fun acts => by rw [doInvoke_state]; exact hsteps⟩
end Calls
theorem vx_cls {s : State} {T : State} {vm₁ : Vm} {E : String} {k : ClassId} (hW : s.WarmedH vm₁) (h : (T.setVm vm₁).vm.findClass E = some k) : s.vm.findClass E = some k := by
  have h1 : vm₁.findClass E = some k := h
  rw [hW.alike.findClass] at h1
  exact h1
/-- the method's frame g, with q thrown over it -/
def vx_W (p : Program) (l : Launch) (e : Env) (R : Room) (s : State) (m : MethodId) (args : Array Value) (below : List Frame) (meth : Method) (c : Code) (H : Heap) (locs : List Loc) (cells slots : Nat) (Q : State → Prop) (g : JFrame) (q : Addr) : Prop :=
  ∀ T : State, T.heap = H → Stand p l e R s m args below meth c T locs cells slots → ∃ t, Steps p.tables e below ((T.setTop g).pushFrame (.throwing q)) t ∧ Q t
def vx_Run (p : Program) (l : Launch) (e : Env) (R : Room) (s : State) (m : MethodId) (args : Array Value) (below : List Frame) (meth : Method) (c : Code) (H : Heap) (locs : List Loc) (cells slots mc ms : Nat) (g : JFrame) (rest : List Value) (Qa : State → Outcome → State → Prop) (XC : String → State → State → Prop) (free : Addr → Prop) : Prop :=
  ∀ T : State, T.heap = H → Stand p l e R s m args below meth c T locs cells slots →
    (∃ (v : Option Value) (st₀ t T' : State) (L : List Loc), st₀.heap = H ∧ Stand p l e R s m args below meth c T' (locs ++ L) (cells + mc) (slots + ms) ∧ (∀ q ∈ L, free q.base) ∧ T'.heap = t.heap ∧ T'.vm = t.vm ∧ Qa st₀ (.returned v) t ∧
      Goes p e below T g T' { g with pc := g.pc + 3, stack := v.toList ++ rest }) ∨
    (∃ (q : Addr) (st₀ t T' : State) (L : List Loc) (E : String) (ce : Cell), st₀.heap = H ∧ Stand p l e R s m args below meth c T' (locs ++ L) (cells + mc) (slots + ms) ∧ (∀ z ∈ L, free z.base) ∧ T'.heap = t.heap ∧ T'.vm = t.vm ∧ XC E st₀ t ∧ t.heap[q]? = some ce ∧ ce.vm = .none ∧ s.vm.findClass E = some ce.cls ∧
      Steps p.tables e below (T.setTop g) ((T'.setTop { g with stack := rest }).pushFrame (.throwing q)))
def vx_X {S : Type} (px : S → Prop) (B : String → S → State → Prop) (A : Nat → Prop) : String → State → State → Prop := fun E st t => ∃ u : S, px u ∧ B E u t ∧ va_F A st t
section Runs
variable {p : Program} {l : Launch} {e : Env} {R : Room} {s : State} {m : MethodId} {args : Array Value} {below : List Frame} {meth : Method} {c : Code} {H : Heap} {locs : List Loc} {cells slots : Nat}
variable {y : MethodName} {bytes cc : ByteArray} {maxL nL mc ms n index : Nat} {ret : Option FieldType} {ws : List Cond} {rm : Room} {Pc : Array Value → State → Prop} {Qc : Array Value → State → Outcome → State → Prop} {XC : String → State → State → Prop} {free : Addr → Prop} {Ts : List Cond} {own C : String} {b : Addr} {As rest : List Value} {g : JFrame}
theorem vx_callBack (cb : CallB R s args own index y bytes maxL ret ws rm mc ms n) (hM : vx_Met l y ws rm Pc Qc XC mc ms free) (hbl : FrameBlind Pc) : vx_Back l R p e below s args y 3 8 (PreOf R mc ms Pc) (PostOf Qc mc ms free) (vx_Post XC mc ms free) := by
  obtain ⟨hrc, hrs, hfr, hlo, hws, hcw, -, hini, -⟩ := cb
  exact vx_back (bytes := bytes) (maxL := maxL) (ret := ret) hM hbl hrc hrs hfr hlo hws hcw (fun a' U hW => word_at hW (Or.inl (by first | rfl | simp [Cond.onTables, Cond.keeps, Cond.steady])) hini)
theorem vx_runV (S : CallFix p m c cc nL s args Ts own) (hM : vx_Met l y ws rm Pc Qc XC mc ms free) (cw : CallW R s args own C index y bytes maxL ret ws rm mc ms n) (hp : PreV s H C b Pc As)
    (hg : g.method = m) (hn : As.length = n) (hsize : g.locals.size = nL) (hstack : g.stack = As.reverse ++ .ref b :: rest) (hW : 2 * g.monitorRoom + (rest.map fun v => v.category).sum ≤ 8) (hdg : decode cc g.pc = .ok (.invokevirtual index, 3)) (hf : cells + mc ≤ R.cells ∧ slots + ms ≤ R.slots) :
    vx_Run p l e R s m args below meth c H locs cells slots mc ms g rest (Qc (Value.ref b :: As).toArray) XC free := by
  have hK : vx_Back l R p e below s args y 3 8 (PreOf R mc ms Pc) (PostOf Qc mc ms free) (vx_Post XC mc ms free) := vx_callBack cw.1 hM hp.1
  obtain ⟨⟨-, -, -, -, -, -, hcode, -, hy, hlen, hl⟩, hin, hse⟩ := cw
  obtain ⟨hx, hb, hml, ho, -⟩ := S
  obtain ⟨-, ⟨cellB, hcB, hoB, hclB⟩, hPc⟩ := hp
  intro T hT X
  rcases vx_callV X hx (C := C) (bytes := bytes) (maxL := maxL) (ret := ret) ho hl hin hse hcode hy hK (by rw [hT]; exact hcB) hoB hclB hg (hsize.trans hml.symm) (argsL := As) (rest := rest) (fun sig h => hn.trans (hlen sig h)) hstack hW (by rw [hb]; exact hdg)
    (fun vm₁ hW₁ => ⟨hf.1, hf.2, hPc (T.setVm vm₁) hT hW₁⟩) with ⟨v, vm₁, ⟨U', l2, c2, s2⟩, hW₁, X', ⟨g', mk, t, L, e1, e2, hq, h1, hL, h2, h3⟩, st⟩ | ⟨q, vm₁, ⟨U', l2, c2, s2⟩, hW₁, X', ⟨g', mk, t, L, E, ce, e1, e2, hq, hce, hcv, hcl, h1, hL, h2, h3⟩, st⟩
  · dsimp only [Pt.U, Pt.locs, Pt.cells, Pt.slots] at X' e1 e2 h1 h2 h3 st
    subst h1; subst h2; subst h3
    exact Or.inl ⟨v, (T.setVm vm₁).calling g' mk (Value.ref b :: As).toArray, t, U', L, hT, X', hL, e1, e2, hq, st⟩
  · dsimp only [Pt.U, Pt.locs, Pt.cells, Pt.slots] at X' e1 e2 h1 h2 h3 st hcl
    subst h1; subst h2; subst h3
    exact Or.inr ⟨q, (T.setVm vm₁).calling g' mk (Value.ref b :: As).toArray, t, U', L, E, ce, hT, X', hL, e1, e2, hq, hce, hcv, vx_cls hW₁ hcl, st⟩
theorem vx_runS (S : CallFix p m c cc nL s args Ts own) (hM : vx_Met l y ws rm Pc Qc XC mc ms free) (cw : CallB R s args own index y bytes maxL ret ws rm mc ms n ∧ (Cond.static y).before args s = true) (hp : PreS s H Pc As)
    (hg : g.method = m) (hn : As.length = n) (hsize : g.locals.size = nL) (hstack : g.stack = As.reverse ++ rest) (hW : 2 * g.monitorRoom + (rest.map fun v => v.category).sum ≤ 8) (hdg : decode cc g.pc = .ok (.invokestatic index, 3)) (hf : cells + mc ≤ R.cells ∧ slots + ms ≤ R.slots) :
    vx_Run p l e R s m args below meth c H locs cells slots mc ms g rest (Qc As.toArray) XC free := by
  have hK : vx_Back l R p e below s args y 3 8 (PreOf R mc ms Pc) (PostOf Qc mc ms free) (vx_Post XC mc ms free) := vx_callBack cw.1 hM hp.1
  obtain ⟨⟨-, -, -, -, -, -, hcode, hini, hy, hlen, hl⟩, hstt⟩ := cw
  obtain ⟨hx, hb, hml, ho, -⟩ := S
  intro T hT X
  rcases vx_callS X hx (bytes := bytes) (maxL := maxL) (ret := ret) ho hl hstt hini hcode hy hK hg (hsize.trans hml.symm) (argsL := As) (rest := rest) (fun sig h => hn.trans (hlen sig h)) hstack hW (by rw [hb]; exact hdg)
    (fun vm₁ hW₁ => ⟨hf.1, hf.2, hp.2 (T.setVm vm₁) hT hW₁⟩) with ⟨v, vm₁, ⟨U', l2, c2, s2⟩, hW₁, X', ⟨g', mk, t, L, e1, e2, hq, h1, hL, h2, h3⟩, st⟩ | ⟨q, vm₁, ⟨U', l2, c2, s2⟩, hW₁, X', ⟨g', mk, t, L, E, ce, e1, e2, hq, hce, hcv, hcl, h1, hL, h2, h3⟩, st⟩
  · dsimp only [Pt.U, Pt.locs, Pt.cells, Pt.slots] at X' e1 e2 h1 h2 h3 st
    subst h1; subst h2; subst h3
    exact Or.inl ⟨v, (T.setVm vm₁).calling g' mk As.toArray, t, U', L, hT, X', hL, e1, e2, hq, st⟩
  · dsimp only [Pt.U, Pt.locs, Pt.cells, Pt.slots] at X' e1 e2 h1 h2 h3 st hcl
    subst h1; subst h2; subst h3
    exact Or.inr ⟨q, (T.setVm vm₁).calling g' mk As.toArray, t, U', L, E, ce, hT, X', hL, e1, e2, hq, hce, hcv, vx_cls hW₁ hcl, st⟩
end Runs
section Rows
variable {p : Program} {l : Launch} {e : Env} {R : Room} {s : State} {m : MethodId} {args : Array Value} {below : List Frame} {meth : Method} {c : Code} {H : Heap} {locs : List Loc} {cells slots : Nat} {Q : State → Prop}
variable {mc ms : Nat} {free : Addr → Prop} {A0 A1 : Nat → Prop} {H0 : Heap} {a : Array Value} {pc : Nat} {ls : Array Slot} {st0 rest : List Value}
theorem vx_keep {st₀ t T' : State} {L : List Loc} (h0 : st₀.heap = H) (e1 : T'.heap = t.heap) (hS : va_S A0 H0 H locs) (hA : ∀ q, q < H.size → A1 q → A0 q) (hf : ∀ q, free q → A0 q) (hL : ∀ q ∈ L, free q.base) (hF : va_F A1 st₀ t) :
    H.size ≤ T'.heap.size ∧ (∀ q : Nat, q < H.size → ¬ A1 q → T'.heap[q]? = H[q]?) ∧ va_S A0 H0 T'.heap (locs ++ L) := by
  obtain ⟨hz, hk⟩ := hF
  rw [h0] at hz hk
  exact ⟨by rw [e1]; exact hz, fun q h1 h2 => by rw [e1]; exact hk q h1 h2,
    ⟨Nat.le_trans hS.1 (by rw [e1]; exact hz), fun q h1 h2 => by rw [e1, hk q (Nat.lt_of_lt_of_le h1 hS.1) (fun z => h2 (hA q (Nat.lt_of_lt_of_le h1 hS.1) z))]; exact hS.2.1 q h1 h2, fun q hq => by
      rcases List.mem_append.mp hq with h | h
      · exact hS.2.2 q h
      · exact hf _ (hL q h)⟩⟩
theorem vx_calli {S SX : Type} {post : Int32 → S → Prop} {px : SX → Prop} {B : S → State → Prop} {BX : String → SX → State → Prop} {AX : Nat → Prop} (hr : vx_Run p l e R s m args below meth c H locs cells slots mc ms (F0 m pc ls st0) rest (va_Qi post B A1 a) (vx_X px BX AX) free) (hS : va_S A0 H0 H locs) (hA : ∀ q, q < H.size → A1 q → A0 q) (hf : ∀ q, free q → A0 q) (hAX : ∀ q, q < H.size → AX q → A0 q)
    (kx : ∀ (E : String) (ce : Cell) (q9 : Addr) (u : SX) (t : State) (H1 : Heap) (locs1 : List Loc), t.heap = H1 → s.vm.Alike t.vm → px u → BX E u t → H.size ≤ H1.size → (∀ q : Nat, q < H.size → ¬ AX q → H1[q]? = H[q]?) → va_S A0 H0 H1 locs1 → H1[q9]? = some ce → ce.vm = .none → s.vm.findClass E = some ce.cls → vx_W p l e R s m args below meth c H1 locs1 (cells + mc) (slots + ms) Q (F0 m pc ls rest) q9)
    (kk : ∀ (r : Int32) (u : S) (t : State) (H1 : Heap) (locs1 : List Loc), t.heap = H1 → s.vm.Alike t.vm → post r u → B u t → H.size ≤ H1.size → (∀ q : Nat, q < H.size → ¬ A1 q → H1[q]? = H[q]?) → va_S A0 H0 H1 locs1 → W p l e R s m args below meth c H1 locs1 (cells + mc) (slots + ms) Q (F0 m (pc + 3) ls (.int r :: rest))) : W p l e R s m args below meth c H locs cells slots Q (F0 m pc ls st0) := by
  intro T hT X
  rcases hr T hT X with ⟨v, st₀, t, T', L, h0, X', hL, e1, e2, ⟨⟨r, u, hv, hp, hb⟩, hF⟩, st⟩ | ⟨q, st₀, t, T', L, E, ce, h0, X', hL, e1, e2, ⟨u, hp, hb, hF⟩, hce, hcv, hcl, st⟩
  · cases hv
    obtain ⟨k1, k2, k3⟩ := vx_keep h0 e1 hS hA hf hL hF
    obtain ⟨t2, a1, b1⟩ := kk r u t T'.heap (locs ++ L) e1.symm (by rw [← e2]; exact X'.warmed.alike) hp hb k1 k2 k3 T' rfl X'
    exact ⟨t2, st t2 a1, b1⟩
  · obtain ⟨k1, k2, k3⟩ := vx_keep h0 e1 hS hAX hf hL hF
    obtain ⟨t2, a1, b1⟩ := kx E ce q u t T'.heap (locs ++ L) e1.symm (by rw [← e2]; exact X'.warmed.alike) hp hb k1 k2 k3 (by rw [e1]; exact hce) hcv hcl T' rfl X'
    exact ⟨t2, st.trans a1, b1⟩
theorem vx_calll {S SX : Type} {post : Int64 → S → Prop} {px : SX → Prop} {B : S → State → Prop} {BX : String → SX → State → Prop} {AX : Nat → Prop} (hr : vx_Run p l e R s m args below meth c H locs cells slots mc ms (F0 m pc ls st0) rest (va_Ql post B A1 a) (vx_X px BX AX) free) (hS : va_S A0 H0 H locs) (hA : ∀ q, q < H.size → A1 q → A0 q) (hf : ∀ q, free q → A0 q) (hAX : ∀ q, q < H.size → AX q → A0 q)
    (kx : ∀ (E : String) (ce : Cell) (q9 : Addr) (u : SX) (t : State) (H1 : Heap) (locs1 : List Loc), t.heap = H1 → s.vm.Alike t.vm → px u → BX E u t → H.size ≤ H1.size → (∀ q : Nat, q < H.size → ¬ AX q → H1[q]? = H[q]?) → va_S A0 H0 H1 locs1 → H1[q9]? = some ce → ce.vm = .none → s.vm.findClass E = some ce.cls → vx_W p l e R s m args below meth c H1 locs1 (cells + mc) (slots + ms) Q (F0 m pc ls rest) q9)
    (kk : ∀ (r : Int64) (u : S) (t : State) (H1 : Heap) (locs1 : List Loc), t.heap = H1 → s.vm.Alike t.vm → post r u → B u t → H.size ≤ H1.size → (∀ q : Nat, q < H.size → ¬ A1 q → H1[q]? = H[q]?) → va_S A0 H0 H1 locs1 → W p l e R s m args below meth c H1 locs1 (cells + mc) (slots + ms) Q (F0 m (pc + 3) ls (.long r :: rest))) : W p l e R s m args below meth c H locs cells slots Q (F0 m pc ls st0) := by
  intro T hT X
  rcases hr T hT X with ⟨v, st₀, t, T', L, h0, X', hL, e1, e2, ⟨⟨r, u, hv, hp, hb⟩, hF⟩, st⟩ | ⟨q, st₀, t, T', L, E, ce, h0, X', hL, e1, e2, ⟨u, hp, hb, hF⟩, hce, hcv, hcl, st⟩
  · cases hv
    obtain ⟨k1, k2, k3⟩ := vx_keep h0 e1 hS hA hf hL hF
    obtain ⟨t2, a1, b1⟩ := kk r u t T'.heap (locs ++ L) e1.symm (by rw [← e2]; exact X'.warmed.alike) hp hb k1 k2 k3 T' rfl X'
    exact ⟨t2, st t2 a1, b1⟩
  · obtain ⟨k1, k2, k3⟩ := vx_keep h0 e1 hS hAX hf hL hF
    obtain ⟨t2, a1, b1⟩ := kx E ce q u t T'.heap (locs ++ L) e1.symm (by rw [← e2]; exact X'.warmed.alike) hp hb k1 k2 k3 (by rw [e1]; exact hce) hcv hcl T' rfl X'
    exact ⟨t2, st.trans a1, b1⟩
theorem vx_callf {S SX : Type} {post : UInt32 → S → Prop} {px : SX → Prop} {B : S → State → Prop} {BX : String → SX → State → Prop} {AX : Nat → Prop} (hr : vx_Run p l e R s m args below meth c H locs cells slots mc ms (F0 m pc ls st0) rest (va_Qf post B A1 a) (vx_X px BX AX) free) (hS : va_S A0 H0 H locs) (hA : ∀ q, q < H.size → A1 q → A0 q) (hf : ∀ q, free q → A0 q) (hAX : ∀ q, q < H.size → AX q → A0 q)
    (kx : ∀ (E : String) (ce : Cell) (q9 : Addr) (u : SX) (t : State) (H1 : Heap) (locs1 : List Loc), t.heap = H1 → s.vm.Alike t.vm → px u → BX E u t → H.size ≤ H1.size → (∀ q : Nat, q < H.size → ¬ AX q → H1[q]? = H[q]?) → va_S A0 H0 H1 locs1 → H1[q9]? = some ce → ce.vm = .none → s.vm.findClass E = some ce.cls → vx_W p l e R s m args below meth c H1 locs1 (cells + mc) (slots + ms) Q (F0 m pc ls rest) q9)
    (kk : ∀ (r : UInt32) (u : S) (t : State) (H1 : Heap) (locs1 : List Loc), t.heap = H1 → s.vm.Alike t.vm → post r u → B u t → H.size ≤ H1.size → (∀ q : Nat, q < H.size → ¬ A1 q → H1[q]? = H[q]?) → va_S A0 H0 H1 locs1 → W p l e R s m args below meth c H1 locs1 (cells + mc) (slots + ms) Q (F0 m (pc + 3) ls (.float r :: rest))) : W p l e R s m args below meth c H locs cells slots Q (F0 m pc ls st0) := by
  intro T hT X
  rcases hr T hT X with ⟨v, st₀, t, T', L, h0, X', hL, e1, e2, ⟨⟨r, u, hv, hp, hb⟩, hF⟩, st⟩ | ⟨q, st₀, t, T', L, E, ce, h0, X', hL, e1, e2, ⟨u, hp, hb, hF⟩, hce, hcv, hcl, st⟩
  · cases hv
    obtain ⟨k1, k2, k3⟩ := vx_keep h0 e1 hS hA hf hL hF
    obtain ⟨t2, a1, b1⟩ := kk r u t T'.heap (locs ++ L) e1.symm (by rw [← e2]; exact X'.warmed.alike) hp hb k1 k2 k3 T' rfl X'
    exact ⟨t2, st t2 a1, b1⟩
  · obtain ⟨k1, k2, k3⟩ := vx_keep h0 e1 hS hAX hf hL hF
    obtain ⟨t2, a1, b1⟩ := kx E ce q u t T'.heap (locs ++ L) e1.symm (by rw [← e2]; exact X'.warmed.alike) hp hb k1 k2 k3 (by rw [e1]; exact hce) hcv hcl T' rfl X'
    exact ⟨t2, st.trans a1, b1⟩
theorem vx_calld {S SX : Type} {post : UInt64 → S → Prop} {px : SX → Prop} {B : S → State → Prop} {BX : String → SX → State → Prop} {AX : Nat → Prop} (hr : vx_Run p l e R s m args below meth c H locs cells slots mc ms (F0 m pc ls st0) rest (va_Qd post B A1 a) (vx_X px BX AX) free) (hS : va_S A0 H0 H locs) (hA : ∀ q, q < H.size → A1 q → A0 q) (hf : ∀ q, free q → A0 q) (hAX : ∀ q, q < H.size → AX q → A0 q)
    (kx : ∀ (E : String) (ce : Cell) (q9 : Addr) (u : SX) (t : State) (H1 : Heap) (locs1 : List Loc), t.heap = H1 → s.vm.Alike t.vm → px u → BX E u t → H.size ≤ H1.size → (∀ q : Nat, q < H.size → ¬ AX q → H1[q]? = H[q]?) → va_S A0 H0 H1 locs1 → H1[q9]? = some ce → ce.vm = .none → s.vm.findClass E = some ce.cls → vx_W p l e R s m args below meth c H1 locs1 (cells + mc) (slots + ms) Q (F0 m pc ls rest) q9)
    (kk : ∀ (r : UInt64) (u : S) (t : State) (H1 : Heap) (locs1 : List Loc), t.heap = H1 → s.vm.Alike t.vm → post r u → B u t → H.size ≤ H1.size → (∀ q : Nat, q < H.size → ¬ A1 q → H1[q]? = H[q]?) → va_S A0 H0 H1 locs1 → W p l e R s m args below meth c H1 locs1 (cells + mc) (slots + ms) Q (F0 m (pc + 3) ls (.double r :: rest))) : W p l e R s m args below meth c H locs cells slots Q (F0 m pc ls st0) := by
  intro T hT X
  rcases hr T hT X with ⟨v, st₀, t, T', L, h0, X', hL, e1, e2, ⟨⟨r, u, hv, hp, hb⟩, hF⟩, st⟩ | ⟨q, st₀, t, T', L, E, ce, h0, X', hL, e1, e2, ⟨u, hp, hb, hF⟩, hce, hcv, hcl, st⟩
  · cases hv
    obtain ⟨k1, k2, k3⟩ := vx_keep h0 e1 hS hA hf hL hF
    obtain ⟨t2, a1, b1⟩ := kk r u t T'.heap (locs ++ L) e1.symm (by rw [← e2]; exact X'.warmed.alike) hp hb k1 k2 k3 T' rfl X'
    exact ⟨t2, st t2 a1, b1⟩
  · obtain ⟨k1, k2, k3⟩ := vx_keep h0 e1 hS hAX hf hL hF
    obtain ⟨t2, a1, b1⟩ := kx E ce q u t T'.heap (locs ++ L) e1.symm (by rw [← e2]; exact X'.warmed.alike) hp hb k1 k2 k3 (by rw [e1]; exact hce) hcv hcl T' rfl X'
    exact ⟨t2, st.trans a1, b1⟩
theorem vx_callv {S SX : Type} {post : S → Prop} {px : SX → Prop} {B : S → State → Prop} {BX : String → SX → State → Prop} {AX : Nat → Prop} (hr : vx_Run p l e R s m args below meth c H locs cells slots mc ms (F0 m pc ls st0) rest (va_Qv post B A1 a) (vx_X px BX AX) free) (hS : va_S A0 H0 H locs) (hA : ∀ q, q < H.size → A1 q → A0 q) (hf : ∀ q, free q → A0 q) (hAX : ∀ q, q < H.size → AX q → A0 q)
    (kx : ∀ (E : String) (ce : Cell) (q9 : Addr) (u : SX) (t : State) (H1 : Heap) (locs1 : List Loc), t.heap = H1 → s.vm.Alike t.vm → px u → BX E u t → H.size ≤ H1.size → (∀ q : Nat, q < H.size → ¬ AX q → H1[q]? = H[q]?) → va_S A0 H0 H1 locs1 → H1[q9]? = some ce → ce.vm = .none → s.vm.findClass E = some ce.cls → vx_W p l e R s m args below meth c H1 locs1 (cells + mc) (slots + ms) Q (F0 m pc ls rest) q9)
    (kk : ∀ (u : S) (t : State) (H1 : Heap) (locs1 : List Loc), t.heap = H1 → s.vm.Alike t.vm → post u → B u t → H.size ≤ H1.size → (∀ q : Nat, q < H.size → ¬ A1 q → H1[q]? = H[q]?) → va_S A0 H0 H1 locs1 → W p l e R s m args below meth c H1 locs1 (cells + mc) (slots + ms) Q (F0 m (pc + 3) ls (rest))) : W p l e R s m args below meth c H locs cells slots Q (F0 m pc ls st0) := by
  intro T hT X
  rcases hr T hT X with ⟨v, st₀, t, T', L, h0, X', hL, e1, e2, ⟨⟨u, hv, hp, hb⟩, hF⟩, st⟩ | ⟨q, st₀, t, T', L, E, ce, h0, X', hL, e1, e2, ⟨u, hp, hb, hF⟩, hce, hcv, hcl, st⟩
  · cases hv
    obtain ⟨k1, k2, k3⟩ := vx_keep h0 e1 hS hA hf hL hF
    obtain ⟨t2, a1, b1⟩ := kk u t T'.heap (locs ++ L) e1.symm (by rw [← e2]; exact X'.warmed.alike) hp hb k1 k2 k3 T' rfl X'
    exact ⟨t2, st t2 a1, b1⟩
  · obtain ⟨k1, k2, k3⟩ := vx_keep h0 e1 hS hAX hf hL hF
    obtain ⟨t2, a1, b1⟩ := kx E ce q u t T'.heap (locs ++ L) e1.symm (by rw [← e2]; exact X'.warmed.alike) hp hb k1 k2 k3 (by rw [e1]; exact hce) hcv hcl T' rfl X'
    exact ⟨t2, st.trans a1, b1⟩
/-- caught by the row x of this method's table; the rows ahead don't take it -/
theorem vx_catch {own name : String} {E : String} {ce : Cell} {q : Addr} (hown : s.vm.findClass own = some m.cls) (pre : List ExceptionTableEntry) (x : ExceptionTableEntry) (suf : List ExceptionTableEntry) (hsplit : c.exceptionTable.toList = pre ++ x :: suf)
    (hpass : ∀ z ∈ pre, covers z pc = false ∨ (z.catchType ≠ 0 ∧ ∃ nm : String, (Cond.classLink own z.catchType nm).before args s = true ∧ va_Nc E nm s)) (hx : covers x pc = true) (h0 : x.catchType ≠ 0)
    (hlink : (Cond.classLink own x.catchType name).before args s = true) (hcast : (Cond.castable E name).before args s = true) (hcell : H[q]? = some ce) (hv : ce.vm = .none) (hcl : s.vm.findClass E = some ce.cls)
    (kk : W p l e R s m args below meth c H locs cells slots Q (F0 m x.handlerPc ls [.ref q])) : vx_W p l e R s m args below meth c H locs cells slots Q (F0 m pc ls rest) q := by
  intro T hT X
  have hpl : e.platform.magicAccessors = ({} : Platform).magicAccessors := by rw [X.admits.platform]
  obtain ⟨c3, c4, hc3, hc4, hasg⟩ := Cond.castable_spec hcast
  cases Option.some.inj (hc3.symm.trans hcl)
  obtain ⟨c5, hc5, hcl5⟩ := Cond.classLink_spec hown hlink e.platform hpl
  cases Option.some.inj (hc4.symm.trans hc5)
  obtain ⟨vm', X', st⟩ := X.thenCaughtThrough q (g := F0 m pc ls rest) rfl (Steps.refl _) (by rw [hT]; exact hcell) (by rw [hv]; rfl) (by obtain ⟨k9, h9, -⟩ := Vm.findClass_spec hcl; exact ⟨k9, h9⟩) pre x suf hsplit
    (fun z hz => by
      rcases hpass z hz with h | ⟨hz0, nm, hl1, hn1⟩
      · exact Or.inl h
      · obtain ⟨c6, hc6, hcl6⟩ := Cond.classLink_spec hown hl1 e.platform hpl
        obtain ⟨a8, b8, h1, h2, h3⟩ := hn1
        cases Option.some.inj (h1.symm.trans hcl)
        cases Option.some.inj (h2.symm.trans hc6)
        exact Or.inr ⟨hz0, _, hcl6, h3⟩) hx (Or.inr ⟨h0, c4, hcl5, hasg⟩)
  obtain ⟨t, a1, b1⟩ := kk (T.setVm vm') hT X'
  exact ⟨t, st.trans a1, b1⟩
end Rows
section Ends
variable {p : Program} {l : Launch} {e : Env} {R : Room} {s : State} {m : MethodId} {args : Array Value} {below : List Frame} {meth : Method} {c : Code} {H : Heap} {locs : List Loc} {cells slots : Nat} {Q : State → Prop}
variable {mc ms : Nat} {free : Addr → Prop} {A0 A1 : Nat → Prop} {H0 : Heap} {a : Array Value} {ls : Array Slot} {st0 rest : List Value}
variable {Qc : Array Value → State → Outcome → State → Prop} {XC : String → State → State → Prop}
/-- what a body that may throw owes at its end -/
def vx_MQ (below : List Frame) (Qc : Array Value → State → Outcome → State → Prop) (XC : String → State → State → Prop) (a : Array Value) (s : State) (mc ms : Nat) (free : Addr → Prop) : State → Prop := fun t =>
  ∃ o, t.status = .running ∧ Ended t below o ∧ vx_Q Qc XC mc ms free a s o t
theorem vx_ret {g : JFrame} {mc ms : Nat} (k : W p l e R s m args below meth c H locs cells slots (MQ below Qc args s mc ms free) g) : W p l e R s m args below meth c H locs cells slots (vx_MQ below Qc XC args s mc ms free) g := by
  intro T hT X
  obtain ⟨t, a1, o, b1, b2, b3, b4⟩ := k T hT X
  exact ⟨t, a1, o, b1, b2, Or.inl ⟨b3, b4⟩⟩
/-- not caught here: it goes on to the caller -/
theorem vx_widen {g : JFrame} {q : Addr} {k n : Nat} (h1 : cells ≤ k) (h2 : slots ≤ n) (kk : vx_W p l e R s m args below meth c H locs k n Q g q) : vx_W p l e R s m args below meth c H locs cells slots Q g q := fun T hT X => kk T hT (stand_widen X h1 h2)
theorem vx_out {pc : Nat} {E : String} {ce : Cell} {q : Addr} {mc ms : Nat} (hout : ∀ x ∈ c.exceptionTable.toList, covers x pc = false) (hlocks : meth.locks = false) (hcell : H[q]? = some ce) (hv : ce.vm = .none) (hcl : s.vm.findClass E = some ce.cls)
    (hx : ∀ t : State, t.heap = H → s.vm.Alike t.vm → XC E s t) (hf : ∀ z ∈ locs, free z.base) (hc : cells ≤ mc) (hs : slots ≤ ms) :
    vx_W p l e R s m args below meth c H locs cells slots (vx_MQ below Qc XC args s mc ms free) (F0 m pc ls rest) q := by
  intro T hT X
  obtain ⟨st1, hrun, hend, hW, hsm⟩ := X.leaveThrown q (g := F0 m pc ls rest) rfl rfl rfl hout hlocks
  have hcell9 : (T.setFrames (.throwing q :: below)).heap[q]? = some ce := by
    show T.heap[q]? = some ce
    rw [hT]; exact hcell
  exact ⟨_, st1, .threw q, hrun, hend, Or.inr ⟨q, rfl, E, ce, locs, hx _ hT hW.alike, hcell9, hv, hcl, hW, hsm.mono hc hs, hf⟩⟩
theorem vx_frame {U : State} {k n : Nat} (h : s.sameButNew ({ U with vm := s.vm } : State) locs k n) : s.heap.size ≤ U.heap.size ∧ ∀ q : Nat, q < s.heap.size → (∀ z ∈ locs, z.base ≠ q) → U.heap[q]? = s.heap[q]? := by
  obtain ⟨-, h2, -, -, -, h6⟩ := h
  refine ⟨h2, fun q hq hz => ?_⟩
  obtain ⟨c9, e1, e2, e3, e4⟩ := h6 q _ (Array.getElem?_eq_getElem hq)
  have hs : c9.slots = (s.heap[q]).slots := Array.ext_getElem? fun i => e4 i fun hm => hz _ hm rfl
  have h9 : c9 = s.heap[q] := by
    rw [hs] at e2
    exact e2
  have e5 : U.heap[q]? = some c9 := e1
  rw [e5, h9, Array.getElem?_eq_getElem hq]
/-- the words of a throw but the four that speak of the heap -/
def vx_no (w : Cond) : Bool := decide (w ≠ .isRef (.static Bundle.tN "UNASSIGNED_STACK" Bundle.steD)) && decide (w ≠ .isRef (.static Bundle.tN "SUPPRESSED_SENTINEL" Bundle.listD)) && decide (w ≠ .laysStatic Bundle.tN "UNASSIGNED_STACK" Bundle.steD) && decide (w ≠ .laysStatic Bundle.tN "SUPPRESSED_SENTINEL" Bundle.listD)
def vx_at0 (own : String) (ic : Nat) (X : String) (names : List String) : List Cond := (Bundle.ownAtoms0 own ic X names).filter vx_no
def vx_atS (own : String) (ic : Nat) (X : String) (names : List String) : List Cond := (Bundle.ownAtoms own ic X names).filter vx_no
/-- a word that the tables alone decide, or a good one -/
def vx_ot (w : Cond) : Bool := w.onTables || goodWord w
theorem vx_ot_at {args a' : Array Value} {s U : State} {w : Cond} (hW : s.WarmedH U.vm) (hvm : s.vm = U.vm) (hg : vx_ot w = true) (h : w.before args s = true) : w.before a' U = true := by
  simp only [vx_ot, Bool.or_eq_true] at hg
  rcases hg with hg | hg
  · exact va_tabs hg hvm h
  · exact word_at hW (good_of_word hg) h
/-- a list's words: the good ones out of the method's own list, the others by premises of their own -/
theorem vx_hat {args : Array Value} {s : State} {L B : List Cond} (h1 : ∀ w ∈ L.filter goodWord, w.before args s = true) (h2 : ∀ w ∈ L.filter (fun w => !goodWord w), w ∈ B) (h3 : ∀ w ∈ B, w.before args s = true) : ∀ w ∈ L, w.before args s = true := by
  intro w hw
  by_cases g : goodWord w = true
  · exact h1 w (List.mem_filter.mpr ⟨hw, g⟩)
  · refine h3 w (h2 w (List.mem_filter.mpr ⟨hw, ?_⟩))
    show (!goodWord w) = true
    cases hgw : goodWord w
    · rfl
    · exact absurd hgw g
theorem vx_c {args : Array Value} {s : State} {w : Cond} {B : List Cond} (h : w.before args s = true) (t : ∀ w ∈ B, w.before args s = true) : ∀ w' ∈ w :: B, w'.before args s = true := fun w' h' => (List.mem_cons.mp h').elim (fun e => by rw [e]; exact h) (t w')
theorem vx_n {args : Array Value} {s : State} : ∀ w ∈ ([] : List Cond), w.before args s = true := fun _ h => nomatch h
theorem vx_own {args : Array Value} {s : State} {L : List Cond} (h1 : ∀ w ∈ L.filter vx_no, w.before args s = true)
    (hU : (Cond.isRef (.static Bundle.tN "UNASSIGNED_STACK" Bundle.steD)).before args s = true) (hN : (Cond.isRef (.static Bundle.tN "SUPPRESSED_SENTINEL" Bundle.listD)).before args s = true)
    (lU : (Cond.laysStatic Bundle.tN "UNASSIGNED_STACK" Bundle.steD).before args s = true) (lN : (Cond.laysStatic Bundle.tN "SUPPRESSED_SENTINEL" Bundle.listD).before args s = true) : ∀ w ∈ L, w.before args s = true := by
  intro w hw
  by_cases e1 : w = .isRef (.static Bundle.tN "UNASSIGNED_STACK" Bundle.steD)
  · rw [e1]; exact hU
  · by_cases e2 : w = .isRef (.static Bundle.tN "SUPPRESSED_SENTINEL" Bundle.listD)
    · rw [e2]; exact hN
    · by_cases e3 : w = .laysStatic Bundle.tN "UNASSIGNED_STACK" Bundle.steD
      · rw [e3]; exact lU
      · by_cases e4 : w = .laysStatic Bundle.tN "SUPPRESSED_SENTINEL" Bundle.listD
        · rw [e4]; exact lN
        · exact h1 w (List.mem_filter.mpr ⟨hw, by unfold vx_no; rw [decide_eq_true e1, decide_eq_true e2, decide_eq_true e3, decide_eq_true e4]; rfl⟩)
/-- where a static field lies, its class's statics cell in H -/
def vx_L (C n d : String) (A : Nat → Prop) (U : State) (H : Heap) : Prop := ∃ (c : ClassId) (k : Class) (i : Nat) (f : Field) (a : Nat) (cell : Cell), U.vm.findClass C = some c ∧ U.fieldFound? C n d = some (c, k, i, f) ∧ f.isStatic = true ∧ k.statics = some a ∧ H[a]? = some cell ∧ cell.vm.isStatics = true ∧ cell.cls = c ∧ f.slot < cell.slots.size ∧ k.staticTypes[f.slot]? = some f.type ∧ ¬ A a
theorem vx_L.moved {C n d : String} {A : Nat → Prop} {u U : State} {H : Heap} (hvm : u.vm.Alike U.vm) (h : vx_L C n d A u H) : vx_L C n d A U H := by
  obtain ⟨c, k, i, f, a, cell, h1, h2, h3, h4, h5, h6, h7, h8, h9, h10⟩ := h
  obtain ⟨k', hi', he⟩ := State.fieldFound?_setVm hvm h2
  exact ⟨c, k', i, f, a, cell, by rw [hvm.findClass]; exact h1, hi', h3, by rw [he]; exact h4, h5, h6, h7, h8, by rw [he]; exact h9, h10⟩
theorem vx_L.kept {C n d : String} {A : Nat → Prop} {U : State} {H H1 : Heap} (h : vx_L C n d A U H) (hq : ∀ a : Nat, a < H.size → ¬ A a → H1[a]? = H[a]?) : vx_L C n d A U H1 := by
  obtain ⟨c, k, i, f, a, cell, h1, h2, h3, h4, h5, h6, h7, h8, h9, h10⟩ := h
  exact ⟨c, k, i, f, a, cell, h1, h2, h3, h4, by rw [hq a (Array.getElem?_eq_some_iff.mp h5).1 h10]; exact h5, h6, h7, h8, h9, h10⟩
theorem vx_L.narrow {C n d : String} {A B : Nat → Prop} {U : State} {H : Heap} (h : vx_L C n d A U H) (hAB : ∀ q, B q → A q) : vx_L C n d B U H := by
  obtain ⟨c, k, i, f, a, cell, h1, h2, h3, h4, h5, h6, h7, h8, h9, h10⟩ := h
  exact ⟨c, k, i, f, a, cell, h1, h2, h3, h4, h5, h6, h7, h8, h9, fun z => h10 (hAB _ z)⟩
theorem vx_L.word {C n d : String} {A : Nat → Prop} {s : State} {args : Array Value} (h : vx_L C n d A s s.heap) : (Cond.laysStatic C n d).before args s = true := by
  obtain ⟨c, k, i, f, a, cell, h1, h2, h3, h4, h5, h6, h7, h8, h9, -⟩ := h
  show (Cond.laysStatic C n d).holds args s none s [] = true
  exact Cond.laysStatic_of h1 h2 h3 h4 h5 h6 h7 h8 h9
/-- .. and what it holds: null or some reference -/
def vx_Zq (C n d : String) (A : Nat → Prop) (U : State) (H : Heap) : Prop := va_Zq C n d A U H ∧ vx_L C n d A U H
theorem vx_Zq.moved {C n d : String} {A : Nat → Prop} {u U : State} {H : Heap} (hvm : u.vm.Alike U.vm) (h : vx_Zq C n d A u H) : vx_Zq C n d A U H := ⟨va_Zq.moved hvm h.1, vx_L.moved hvm h.2⟩
theorem vx_Zq.kept {C n d : String} {A : Nat → Prop} {U : State} {H H1 : Heap} (h : vx_Zq C n d A U H) (hq : ∀ a : Nat, a < H.size → ¬ A a → H1[a]? = H[a]?) : vx_Zq C n d A U H1 := ⟨va_Zq.kept h.1 hq, vx_L.kept h.2 hq⟩
theorem vx_Zq.narrow {C n d : String} {A B : Nat → Prop} {U : State} {H : Heap} (h : vx_Zq C n d A U H) (hAB : ∀ q, B q → A q) : vx_Zq C n d B U H := ⟨va_Zq.narrow h.1 hAB, vx_L.narrow h.2 hAB⟩
theorem vx_Zqof {args : Array Value} {s : State} {C n d : String} {A : Nat → Prop} (hl : (Cond.laysStatic C n d).before args s = true) (hini : (Cond.initialized C).before args s = true) (h : (Cond.isRef (.static C n d)).before args s = true) (hA : ∀ a : Nat, a < s.heap.size → ¬ A a) : vx_Zq C n d A s s.heap := by
  refine ⟨va_Zqof hl hini h hA, ?_⟩
  obtain ⟨c, k, i, f, a, cell, h1, h2, h3, h4, h5, h6, h7, h8, h9⟩ := Cond.laysStatic_spec hl
  exact ⟨c, k, i, f, a, cell, h1, h2, h3, h4, h5, h6, h7, h8, h9, hA a (Array.getElem?_eq_some_iff.mp h5).1⟩
theorem vx_isRef {C n d : String} {v : Value} {A : Nat → Prop} {s : State} {args : Array Value} (h : va_Z C n d v A s s.heap) (hv : v.isRef = true) : (Cond.isRef (.static C n d)).before args s = true := by
  obtain ⟨cf, kf, fi, f, a, cell, h1, h2, h3, h4, h5, h6, h7, -⟩ := h
  have he : (Term.static C n d).eval args s none [] s = some v := by
    simp [Term.eval, State.fieldNamed?, h1, h2, h4, h5, h6, h7]
  simp only [Cond.before, Cond.holds, Cond.value, he]
  cases v <;> simp_all [Value.isRef]
theorem vx_isRefq {C n d : String} {A : Nat → Prop} {s : State} {args : Array Value} (h : va_Zq C n d A s s.heap) : (Cond.isRef (.static C n d)).before args s = true := by
  rcases h with h | ⟨t, h⟩
  · exact vx_isRef h rfl
  · exact vx_isRef h rfl
/-- the same frame, seen from here: as if the method were called anew in this heap -/
theorem vx_rebase {T : State} (X : Stand p l e R s m args below meth c T locs cells slots) {R' : Room} (hf : R'.frames ≤ R.frames) (hl : R'.locals ≤ R.locals) (hc : cells + R'.cells ≤ R.cells) (hs : slots + R'.slots ≤ R.slots) :
    Stand p l e R' ((T.setVm s.vm).setFrames (.invoking m args :: below)) m args below meth c T [] 0 0 := by
  have htop : (T.setVm s.vm).topJava?.isSome := X.here.top
  have hF : ((T.setVm s.vm).setFrames (.invoking m args :: below)).frames = .invoking m args :: below := State.frames_setFrames _ (State.cur_lt_of_top htop)
  obtain ⟨g₀, hg0⟩ := Option.isSome_iff_exists.mp htop
  obtain ⟨r, hr⟩ := State.topJava?_eq_some.mp hg0
  have hl9 : e.platform.stackLimits (T.setVm s.vm).me = e.platform.stackLimits s.me := X.limits
  have hb9 : (T.setVm s.vm).me.stackBytes = s.me.stackBytes := X.bytes
  refine ⟨X.admits, X.cas, X.clock, hF, ?_, X.hears, X.method, X.code, X.here, X.tail, X.warmed, ?_, ?_, ?_⟩
  · have h := X.room
    have hU : ((T.setVm s.vm).setFrames (.invoking m args :: below)).localsInUse = s.localsInUse := by
      rw [State.localsInUse_invoking hF (meth := meth) (c := c) X.method X.code, State.localsInUse_invoking X.frames X.method X.code]
    simp only [State.hasRoom, Bool.and_eq_true, decide_eq_true_eq] at h ⊢
    obtain ⟨⟨⟨⟨h1, h2, h3, h4, h5, h6⟩, h7⟩, h8⟩, h9⟩ := h
    rw [X.frames, List.length_cons] at h2 h3
    have q1 := X.heapSize
    have q2 := X.used
    simp only [hF, hU, List.length_cons, State.stackLimits_setFrames, State.stackBytes_setFrames, hl9, hb9]
    refine ⟨⟨⟨⟨by omega, by omega, by omega, by omega, by omega, h6⟩, ?_⟩, ?_⟩, X.book⟩
    · show T.heap.size + R'.cells ≤ e.platform.maxCells
      omega
    · show T.slotsUsed + R'.slots ≤ e.platform.maxSlots
      omega
  · rw [State.stackLimits_setFrames]; rfl
  · rw [State.stackBytes_setFrames]; rfl
  · refine ⟨?_, Nat.le_refl _, Nat.le_refl _, ?_, ?_, fun a c9 h9 => ⟨c9, h9, rfl, rfl, fun _ _ => rfl⟩⟩
    · obtain ⟨t, ht, -⟩ := State.frames_cons hr
      show T.setVm s.vm = { ((T.setVm s.vm).setFrames (.invoking m args :: below)).setFrames (T.setVm s.vm).frames with heap := T.heap, slotsUsed := T.slotsUsed }
      rw [State.setFrames_setFrames, State.setFrames_self ht]
      rfl
    · show T.slotsUsed = T.slotsUsed + ((T.heap.toList.drop T.heap.size).map (·.slots.size)).sum
      rw [List.drop_eq_nil_of_le (Nat.le_of_eq Array.length_toList)]
      rfl
    · show ((T.heap.toList.drop T.heap.size).map (·.slots.size)).sum ≤ 0
      rw [List.drop_eq_nil_of_le (Nat.le_of_eq Array.length_toList)]
      exact Nat.le_refl _
/-- 'throw new E()': new; dup; invokespecial; athrow -/
theorem vx_throw0 {cc : ByteArray} {pc : Nat} (hexec : p.tables.exec = Jvm.exec) (hb : c.code = cc) (hl : l.stackTraces = false) {own cls : String} {names : List String} {ik ic mc ms : Nat} {A : Nat → Prop}
    (hown : s.vm.findClass own = some m.cls) (hcls : Bundle.fit cls = true) (hnames : ∀ n ∈ names, Bundle.fit n = true)
    (hk : (Cond.classLink own ik cls).before args s = true) (hini : (Cond.initialized cls).before args s = true) (hat : ∀ w ∈ vx_at0 own ic cls names, w.before args s = true)
    (hgood : ∀ w ∈ Cond.classLink own ik cls :: Cond.initialized cls :: vx_at0 own ic cls names, vx_ot w = true)
    (hU : vx_Zq Bundle.tN "UNASSIGNED_STACK" Bundle.steD A s s.heap) (hN : vx_Zq Bundle.tN "SUPPRESSED_SENTINEL" Bundle.listD A s s.heap) (hS : va_S A s.heap H locs) (hsize : ls.size = c.maxLocals)
    (d0 : decode cc pc = .ok (.new ik, 3)) (d3 : decode cc (pc + 3) = .ok (.dup, 1)) (d4 : decode cc (pc + 4) = .ok (.invokespecial ic, 3)) (d7 : decode cc (pc + 7) = .ok (.athrow, 1))
    (hout : ∀ x ∈ c.exceptionTable.toList, covers x (pc + 7) = false)
    (hRframes : names.length + 3 < R.frames) (hRlocals : (rest.map fun v => v.category).sum + (13 * (names.length + 1) + 42) ≤ R.locals) (hRcells : cells + 1 ≤ R.cells) (hRslots : slots + 6 ≤ R.slots) (hlocks : meth.locks = false)
    (hx : ∀ t : State, s.vm.Alike t.vm → H.size ≤ t.heap.size → (∀ q : Nat, q < H.size → t.heap[q]? = H[q]?) → XC cls s t)
    (hf : ∀ z ∈ locs, free z.base) (hc : cells + 1 ≤ mc) (hs : slots + 6 ≤ ms) :
    W p l e R s m args below meth c H locs cells slots (vx_MQ below Qc XC args s mc ms free) (F0 m pc ls rest) := by
  intro T hT X
  have htr : e.platform.stackTraces = false := (show e.platform.stackTraces = l.stackTraces by rw [X.admits.platform]).trans hl
  have Y := vx_rebase X (R' := { frames := R.frames, locals := R.locals, cells := 1, slots := 6 }) (Nat.le_refl _) (Nat.le_refl _) hRcells hRslots
  obtain ⟨s', hA⟩ : ∃ z, z = (T.setVm s.vm).setFrames (.invoking m args :: below) := ⟨_, rfl⟩
  rw [← hA] at Y
  have hvm : s'.vm = s.vm := by rw [hA]; rfl
  have hhp : s'.heap = H := by rw [hA]; exact hT
  have hW0 : s.WarmedH s'.vm := by rw [hvm]; exact State.WarmedH.refl s
  have hat' : ∀ w ∈ vx_at0 own ic cls names, w.before args s' = true := fun w hw => vx_ot_at hW0 hvm.symm (hgood w (List.mem_cons_of_mem _ (List.mem_cons_of_mem _ hw))) (hat w hw)
  have hk' : (Cond.classLink own ik cls).before args s' = true := vx_ot_at hW0 hvm.symm (hgood _ List.mem_cons_self) hk
  have hini' : (Cond.initialized cls).before args s' = true := vx_ot_at hW0 hvm.symm (hgood _ (List.mem_cons_of_mem _ List.mem_cons_self)) hini
  have hU' : vx_Zq Bundle.tN "UNASSIGNED_STACK" Bundle.steD A s' s'.heap := by rw [hhp]; exact vx_Zq.moved hW0.alike (hU.kept hS.2.1)
  have hN' : vx_Zq Bundle.tN "SUPPRESSED_SENTINEL" Bundle.listD A s' s'.heap := by rw [hhp]; exact vx_Zq.moved hW0.alike (hN.kept hS.2.1)
  have h : ∀ w ∈ Bundle.ownAtoms0 own ic cls names, w.before args s' = true := vx_own hat' (vx_isRefq hU'.1) (vx_isRefq hN'.1) hU'.2.word hN'.2.word
  have hown' : s'.vm.findClass own = some m.cls := by rw [hvm]; exact hown
  have hins : (Cond.instantiable cls 6).before args s' = true := h _ (by simp [Bundle.ownAtoms0])
  obtain ⟨vm₁, cX, kX, hfX, hkX, -, -, X₁, st1⟩ := Y.newCold hexec (own := own) (C := cls) (index := ik) (n := 6) hown' hk' hins hini'
    (g := F0 m pc ls rest) rfl (by rw [hb]; exact d0) (Nat.le_refl _) (Nat.le_refl _)
  generalize hT1 : (T.setVm vm₁).pushCell { cls := cX, slots := kX.instanceTypes.map defaultValue, vm := .none } = T1 at X₁ st1
  have hcat : (Value.ref T.heap.size).category = 1 := rfl
  have hcellA : T1.heap[T.heap.size]? = some (freshCell cX kX) := by rw [← hT1]; exact State.heap_pushCell_size _ _
  have d3' : decode c.code (pc + 3) = .ok (.dup, 1) := by rw [hb]; exact d3
  obtain ⟨U, hsteps, hrun, hend, hW, hsame, ce, hce, hO⟩ := X₁.ctorThrow0 hexec htr (own := own) (cls := cls) (names := names) (ic := ic) hown' hcls hnames h (fun x hx => nomatch hx) hfX hkX hcellA (by rw [hhp, hT]; exact Nat.le_refl _)
    (g := { method := m, pc := pc + 4, locals := ls, stack := .ref T.heap.size :: .ref T.heap.size :: rest, locked := none }) rfl hsize rfl rfl (rest := rest) rfl
    (by rw [hb]; exact d4) (by rw [hb]; exact d7) hout hRframes (by simp only [List.map_cons, List.sum_cons, hcat]; omega) hlocks
  obtain ⟨f1, f2⟩ := vx_frame hsame
  rw [hhp] at f1 f2
  have hWs : s.WarmedH U.vm := State.WarmedH.trans hW0 hW
  have hcl : s.vm.findClass cls = some ce.cls := by
    have h9 := hO.cls
    rw [hvm] at h9
    exact h9
  have hall : s.sameButNew ({ U with vm := s.vm } : State) locs mc ms := by
    subst hA
    obtain ⟨e1, e2⟩ := hsame
    rw [State.setFrames_setFrames] at e1
    have h2 : (T.setVm s.vm).sameButNew ({ U with vm := s.vm } : State) [] (0 + 1) (0 + 6) := ⟨e1, e2⟩
    have h3 := X.same.trans h2
    rw [List.append_nil] at h3
    exact h3.mono hc hs
  refine ⟨U, ?_, .threw T.heap.size, hrun, hend, Or.inr ⟨T.heap.size, rfl, cls, ce, locs, hx U hWs.alike f1 (fun q hq => f2 q hq (fun z hz => nomatch hz)), hce, hO.vm, hcl, hWs, hall, hf⟩⟩
  refine st1 _ ?_
  show Steps p.tables e below (T1.setTop { method := m, pc := pc + 3, locals := ls, stack := .ref T.heap.size :: rest, locked := none }) _
  jvm_step X₁.here [X₁.here.top, hexec, d3', Value.category]
  exact hsteps
/-- 'throw new E("text")': new; dup; ldc; invokespecial; athrow -/
theorem vx_throwS {cc : ByteArray} {pc : Nat} (hexec : p.tables.exec = Jvm.exec) (hb : c.code = cc) (hl : l.stackTraces = false) {own cls text : String} {names : List String} {ik is ic mc ms sa : Nat} {A : Nat → Prop}
    (hown : s.vm.findClass own = some m.cls) (hcls : Bundle.fit cls = true) (hnames : ∀ n ∈ names, Bundle.fit n = true)
    (hk : (Cond.classLink own ik cls).before args s = true) (hini : (Cond.initialized cls).before args s = true) (hstr : vk_R own is text sa s) (hat : ∀ w ∈ vx_atS own ic cls names, w.before args s = true)
    (hgood : ∀ w ∈ Cond.classLink own ik cls :: Cond.initialized cls :: vx_atS own ic cls names, vx_ot w = true)
    (hU : vx_Zq Bundle.tN "UNASSIGNED_STACK" Bundle.steD A s s.heap) (hN : vx_Zq Bundle.tN "SUPPRESSED_SENTINEL" Bundle.listD A s s.heap) (hS : va_S A s.heap H locs) (hsize : ls.size = c.maxLocals)
    (d0 : decode cc pc = .ok (.new ik, 3)) (d3 : decode cc (pc + 3) = .ok (.dup, 1)) (d4 : decode cc (pc + 4) = .ok (.ldc is, 2)) (d6 : decode cc (pc + 6) = .ok (.invokespecial ic, 3)) (d9 : decode cc (pc + 9) = .ok (.athrow, 1))
    (hout : ∀ x ∈ c.exceptionTable.toList, covers x (pc + 9) = false)
    (hRframes : names.length + 3 < R.frames) (hRlocals : (rest.map fun v => v.category).sum + (13 * (names.length + 1) + 43) ≤ R.locals) (hRcells : cells + 1 ≤ R.cells) (hRslots : slots + 6 ≤ R.slots) (hlocks : meth.locks = false)
    (hx : ∀ t : State, s.vm.Alike t.vm → H.size ≤ t.heap.size → (∀ q : Nat, q < H.size → t.heap[q]? = H[q]?) → XC cls s t)
    (hf : ∀ z ∈ locs, free z.base) (hc : cells + 1 ≤ mc) (hs : slots + 6 ≤ ms) :
    W p l e R s m args below meth c H locs cells slots (vx_MQ below Qc XC args s mc ms free) (F0 m pc ls rest) := by
  intro T hT X
  have htr : e.platform.stackTraces = false := (show e.platform.stackTraces = l.stackTraces by rw [X.admits.platform]).trans hl
  have Y := vx_rebase X (R' := { frames := R.frames, locals := R.locals, cells := 1, slots := 6 }) (Nat.le_refl _) (Nat.le_refl _) hRcells hRslots
  obtain ⟨s', hA⟩ : ∃ z, z = (T.setVm s.vm).setFrames (.invoking m args :: below) := ⟨_, rfl⟩
  rw [← hA] at Y
  have hvm : s'.vm = s.vm := by rw [hA]; rfl
  have hhp : s'.heap = H := by rw [hA]; exact hT
  have hW0 : s.WarmedH s'.vm := by rw [hvm]; exact State.WarmedH.refl s
  have hat' : ∀ w ∈ vx_atS own ic cls names, w.before args s' = true := fun w hw => vx_ot_at hW0 hvm.symm (hgood w (List.mem_cons_of_mem _ (List.mem_cons_of_mem _ hw))) (hat w hw)
  have hk' : (Cond.classLink own ik cls).before args s' = true := vx_ot_at hW0 hvm.symm (hgood _ List.mem_cons_self) hk
  have hini' : (Cond.initialized cls).before args s' = true := vx_ot_at hW0 hvm.symm (hgood _ (List.mem_cons_of_mem _ List.mem_cons_self)) hini
  have hU' : vx_Zq Bundle.tN "UNASSIGNED_STACK" Bundle.steD A s' s'.heap := by rw [hhp]; exact vx_Zq.moved hW0.alike (hU.kept hS.2.1)
  have hN' : vx_Zq Bundle.tN "SUPPRESSED_SENTINEL" Bundle.listD A s' s'.heap := by rw [hhp]; exact vx_Zq.moved hW0.alike (hN.kept hS.2.1)
  have h : ∀ w ∈ Bundle.ownAtoms own ic cls names, w.before args s' = true := vx_own hat' (vx_isRefq hU'.1) (vx_isRefq hN'.1) hU'.2.word hN'.2.word
  have hown' : s'.vm.findClass own = some m.cls := by rw [hvm]; exact hown
  have hins : (Cond.instantiable cls 6).before args s' = true := h _ (by simp [Bundle.ownAtoms])
  obtain ⟨vm₁, cX, kX, hfX, hkX, -, -, X₁, st1⟩ := Y.newCold hexec (own := own) (C := cls) (index := ik) (n := 6) hown' hk' hins hini'
    (g := F0 m pc ls rest) rfl (by rw [hb]; exact d0) (Nat.le_refl _) (Nat.le_refl _)
  generalize hT1 : (T.setVm vm₁).pushCell { cls := cX, slots := kX.instanceTypes.map defaultValue, vm := .none } = T1 at X₁ st1
  have hcat : (Value.ref T.heap.size).category = 1 := rfl
  have hcellA : T1.heap[T.heap.size]? = some (freshCell cX kX) := by rw [← hT1]; exact State.heap_pushCell_size _ _
  have d3' : decode c.code (pc + 3) = .ok (.dup, 1) := by rw [hb]; exact d3
  have d4' : decode c.code (pc + 4) = .ok (.ldc is, 2) := by rw [hb]; exact d4
  have hstr' : vk_R own is text sa s' := vk_R.warm hW0 hstr
  obtain ⟨U, hsteps, hrun, hend, hW, hsame, ce, hce, hO⟩ := X₁.ctorThrowS hexec htr (own := own) (cls := cls) (names := names) (ic := ic) hown' hcls hnames h (fun x hx => nomatch hx) hfX hkX hcellA (by rw [hhp, hT]; exact Nat.le_refl _) (msg := .ref sa) rfl
    (g := { method := m, pc := pc + 6, locals := ls, stack := .ref sa :: .ref T.heap.size :: .ref T.heap.size :: rest, locked := none }) rfl hsize rfl rfl (rest := rest) rfl
    (by rw [hb]; exact d6) (by rw [hb]; exact d9) hout hRframes (by simp only [List.map_cons, List.sum_cons, hcat]; omega) hlocks
  obtain ⟨f1, f2⟩ := vx_frame hsame
  rw [hhp] at f1 f2
  have hWs : s.WarmedH U.vm := State.WarmedH.trans hW0 hW
  have hcl : s.vm.findClass cls = some ce.cls := by
    have h9 := hO.cls
    rw [hvm] at h9
    exact h9
  have hall : s.sameButNew ({ U with vm := s.vm } : State) locs mc ms := by
    subst hA
    obtain ⟨e1, e2⟩ := hsame
    rw [State.setFrames_setFrames] at e1
    have h2 : (T.setVm s.vm).sameButNew ({ U with vm := s.vm } : State) [] (0 + 1) (0 + 6) := ⟨e1, e2⟩
    have h3 := X.same.trans h2
    rw [List.append_nil] at h3
    exact h3.mono hc hs
  refine ⟨U, ?_, .threw T.heap.size, hrun, hend, Or.inr ⟨T.heap.size, rfl, cls, ce, locs, hx U hWs.alike f1 (fun q hq => f2 q hq (fun z hz => nomatch hz)), hce, hO.vm, hcl, hWs, hall, hf⟩⟩
  refine st1 _ ?_
  show Steps p.tables e below (T1.setTop { method := m, pc := pc + 3, locals := ls, stack := .ref T.heap.size :: rest, locked := none }) _
  jvm_step X₁.here [X₁.here.top, hexec, d3', Value.category]
  exact X₁.ldcString hexec (own := own) (text := text) (index := is) (a := sa) hown' hstr'.1 hstr'.2
    (g := { method := m, pc := pc + 4, locals := ls, stack := .ref T.heap.size :: .ref T.heap.size :: rest, locked := none }) rfl d4' _ hsteps
/-- 'throw new E("text")', the text by a wide index -/
theorem vx_throwSW {cc : ByteArray} {pc : Nat} (hexec : p.tables.exec = Jvm.exec) (hb : c.code = cc) (hl : l.stackTraces = false) {own cls text : String} {names : List String} {ik is ic mc ms sa : Nat} {A : Nat → Prop}
    (hown : s.vm.findClass own = some m.cls) (hcls : Bundle.fit cls = true) (hnames : ∀ n ∈ names, Bundle.fit n = true)
    (hk : (Cond.classLink own ik cls).before args s = true) (hini : (Cond.initialized cls).before args s = true) (hstr : vk_R own is text sa s) (hat : ∀ w ∈ vx_atS own ic cls names, w.before args s = true)
    (hgood : ∀ w ∈ Cond.classLink own ik cls :: Cond.initialized cls :: vx_atS own ic cls names, vx_ot w = true)
    (hU : vx_Zq Bundle.tN "UNASSIGNED_STACK" Bundle.steD A s s.heap) (hN : vx_Zq Bundle.tN "SUPPRESSED_SENTINEL" Bundle.listD A s s.heap) (hS : va_S A s.heap H locs) (hsize : ls.size = c.maxLocals)
    (d0 : decode cc pc = .ok (.new ik, 3)) (d3 : decode cc (pc + 3) = .ok (.dup, 1)) (d4 : decode cc (pc + 4) = .ok (.ldc_w is, 3)) (d7 : decode cc (pc + 7) = .ok (.invokespecial ic, 3)) (d10 : decode cc (pc + 10) = .ok (.athrow, 1))
    (hout : ∀ x ∈ c.exceptionTable.toList, covers x (pc + 10) = false)
    (hRframes : names.length + 3 < R.frames) (hRlocals : (rest.map fun v => v.category).sum + (13 * (names.length + 1) + 43) ≤ R.locals) (hRcells : cells + 1 ≤ R.cells) (hRslots : slots + 6 ≤ R.slots) (hlocks : meth.locks = false)
    (hx : ∀ t : State, s.vm.Alike t.vm → H.size ≤ t.heap.size → (∀ q : Nat, q < H.size → t.heap[q]? = H[q]?) → XC cls s t)
    (hf : ∀ z ∈ locs, free z.base) (hc : cells + 1 ≤ mc) (hs : slots + 6 ≤ ms) :
    W p l e R s m args below meth c H locs cells slots (vx_MQ below Qc XC args s mc ms free) (F0 m pc ls rest) := by
  intro T hT X
  have htr : e.platform.stackTraces = false := (show e.platform.stackTraces = l.stackTraces by rw [X.admits.platform]).trans hl
  have Y := vx_rebase X (R' := { frames := R.frames, locals := R.locals, cells := 1, slots := 6 }) (Nat.le_refl _) (Nat.le_refl _) hRcells hRslots
  obtain ⟨s', hA⟩ : ∃ z, z = (T.setVm s.vm).setFrames (.invoking m args :: below) := ⟨_, rfl⟩
  rw [← hA] at Y
  have hvm : s'.vm = s.vm := by rw [hA]; rfl
  have hhp : s'.heap = H := by rw [hA]; exact hT
  have hW0 : s.WarmedH s'.vm := by rw [hvm]; exact State.WarmedH.refl s
  have hat' : ∀ w ∈ vx_atS own ic cls names, w.before args s' = true := fun w hw => vx_ot_at hW0 hvm.symm (hgood w (List.mem_cons_of_mem _ (List.mem_cons_of_mem _ hw))) (hat w hw)
  have hk' : (Cond.classLink own ik cls).before args s' = true := vx_ot_at hW0 hvm.symm (hgood _ List.mem_cons_self) hk
  have hini' : (Cond.initialized cls).before args s' = true := vx_ot_at hW0 hvm.symm (hgood _ (List.mem_cons_of_mem _ List.mem_cons_self)) hini
  have hU' : vx_Zq Bundle.tN "UNASSIGNED_STACK" Bundle.steD A s' s'.heap := by rw [hhp]; exact vx_Zq.moved hW0.alike (hU.kept hS.2.1)
  have hN' : vx_Zq Bundle.tN "SUPPRESSED_SENTINEL" Bundle.listD A s' s'.heap := by rw [hhp]; exact vx_Zq.moved hW0.alike (hN.kept hS.2.1)
  have h : ∀ w ∈ Bundle.ownAtoms own ic cls names, w.before args s' = true := vx_own hat' (vx_isRefq hU'.1) (vx_isRefq hN'.1) hU'.2.word hN'.2.word
  have hown' : s'.vm.findClass own = some m.cls := by rw [hvm]; exact hown
  have hins : (Cond.instantiable cls 6).before args s' = true := h _ (by simp [Bundle.ownAtoms])
  obtain ⟨vm₁, cX, kX, hfX, hkX, -, -, X₁, st1⟩ := Y.newCold hexec (own := own) (C := cls) (index := ik) (n := 6) hown' hk' hins hini'
    (g := F0 m pc ls rest) rfl (by rw [hb]; exact d0) (Nat.le_refl _) (Nat.le_refl _)
  generalize hT1 : (T.setVm vm₁).pushCell { cls := cX, slots := kX.instanceTypes.map defaultValue, vm := .none } = T1 at X₁ st1
  have hcat : (Value.ref T.heap.size).category = 1 := rfl
  have hcellA : T1.heap[T.heap.size]? = some (freshCell cX kX) := by rw [← hT1]; exact State.heap_pushCell_size _ _
  have d3' : decode c.code (pc + 3) = .ok (.dup, 1) := by rw [hb]; exact d3
  have d4' : decode c.code (pc + 4) = .ok (.ldc_w is, 3) := by rw [hb]; exact d4
  have hstr' : vk_R own is text sa s' := vk_R.warm hW0 hstr
  obtain ⟨U, hsteps, hrun, hend, hW, hsame, ce, hce, hO⟩ := X₁.ctorThrowS hexec htr (own := own) (cls := cls) (names := names) (ic := ic) hown' hcls hnames h (fun x hx => nomatch hx) hfX hkX hcellA (by rw [hhp, hT]; exact Nat.le_refl _) (msg := .ref sa) rfl
    (g := { method := m, pc := pc + 7, locals := ls, stack := .ref sa :: .ref T.heap.size :: .ref T.heap.size :: rest, locked := none }) rfl hsize rfl rfl (rest := rest) rfl
    (by rw [hb]; exact d7) (by rw [hb]; exact d10) hout hRframes (by simp only [List.map_cons, List.sum_cons, hcat]; omega) hlocks
  obtain ⟨f1, f2⟩ := vx_frame hsame
  rw [hhp] at f1 f2
  have hWs : s.WarmedH U.vm := State.WarmedH.trans hW0 hW
  have hcl : s.vm.findClass cls = some ce.cls := by
    have h9 := hO.cls
    rw [hvm] at h9
    exact h9
  have hall : s.sameButNew ({ U with vm := s.vm } : State) locs mc ms := by
    subst hA
    obtain ⟨e1, e2⟩ := hsame
    rw [State.setFrames_setFrames] at e1
    have h2 : (T.setVm s.vm).sameButNew ({ U with vm := s.vm } : State) [] (0 + 1) (0 + 6) := ⟨e1, e2⟩
    have h3 := X.same.trans h2
    rw [List.append_nil] at h3
    exact h3.mono hc hs
  refine ⟨U, ?_, .threw T.heap.size, hrun, hend, Or.inr ⟨T.heap.size, rfl, cls, ce, locs, hx U hWs.alike f1 (fun q hq => f2 q hq (fun z hz => nomatch hz)), hce, hO.vm, hcl, hWs, hall, hf⟩⟩
  refine st1 _ ?_
  show Steps p.tables e below (T1.setTop { method := m, pc := pc + 3, locals := ls, stack := .ref T.heap.size :: rest, locked := none }) _
  jvm_step X₁.here [X₁.here.top, hexec, d3', Value.category]
  exact X₁.ldcStringW hexec (own := own) (text := text) (index := is) (a := sa) hown' hstr'.1 hstr'.2
    (g := { method := m, pc := pc + 4, locals := ls, stack := .ref T.heap.size :: .ref T.heap.size :: rest, locked := none }) rfl d4' _ hsteps
end Ends
section Bodies
variable {l : Launch}
theorem vx_ofW {y : MethodName} {ws ws' : List Cond} {rm : Room} {Pc : Array Value → State → Prop} {Qc : Array Value → State → Outcome → State → Prop} {XC : String → State → State → Prop} {mc ms : Nat} {free : Addr → Prop} {cc : ByteArray} {maxL : Nat} {ret : Option FieldType}
    (hy : plainName y.cls = true) (hw : ws = Cond.code y cc maxL ret :: ws')
    (body : ∀ p e s m args below meth c s₁, BodyLoose p l y (headSpec ws rm) cc maxL ret e s m args below meth c s₁ → c.maxLocals = maxL → (∀ x ∈ c.exceptionTable.toList, False) → Pc args s →
      W p l e (headSpec ws rm).room s m args below meth c s.heap [] 0 0 (vx_MQ below Qc XC args s mc ms free) (entryFrame m args maxL)) : vx_Met l y ws rm Pc Qc XC mc ms free := by
  refine MetFree.of_bodyS (code := cc) (maxLocals := maxL) (ret := ret) hy ?_ ?_
  · intro args s m h hn
    obtain ⟨meth, c, h1, h2, h3, h4, h5, h6, -, -⟩ := Cond.code_spec hn (atoms_spec (ws := ws) h _ (by rw [hw]; exact List.mem_cons_self))
    exact ⟨meth, c, h1, h2, h3, h4, h5, h6⟩
  · intro p e s m args below meth c s₁ B hml hP _
    have hh0 : s₁.heap = s.heap := by rw [B.state]; rfl
    have ht : ∀ x ∈ c.exceptionTable.toList, False := by
      obtain ⟨meth9, c9, h1, h2, -, -, -, -, h7, -⟩ := Cond.code_spec B.named (atoms_spec (ws := ws) B.pre _ (by rw [hw]; exact List.mem_cons_self))
      cases Option.some.inj (h1.symm.trans B.method)
      cases Option.some.inj (h2.symm.trans (Stand.of_body B).code)
      intro x hx
      rw [Array.isEmpty_iff.mp h7] at hx
      cases hx
    obtain ⟨t, a1, o, b1, b2, b3⟩ := body p e s m args below meth c s₁ B hml ht hP s₁ hh0 (Stand.of_body B)
    exact ⟨t, o, a1, b1, b2, b3⟩
/-- the table of a body with handlers -/
theorem vx_table {p : Program} {x y : MethodName} {S : Spec} {cc bytes : ByteArray} {maxL maxL' : Nat} {ret ret' : Option FieldType} {e : Env} {s s₁ : State} {m : MethodId} {args : Array Value} {below : List Frame} {meth : Method} {c : Code} {hh : List (Nat × Nat × Nat × Nat)}
    (B : BodyLoose p l y S cc maxL ret e s m args below meth c s₁) (h : (Cond.codeWith y bytes maxL' ret' hh).before args s = true) : c.exceptionTable.toList = tableOf hh := by
  obtain ⟨m9, meth9, c9, hn9, h1, h2, -, -, h6, -⟩ := Cond.codeWith_spec h
  cases Option.some.inj (hn9.symm.trans B.named)
  cases Option.some.inj (h1.symm.trans B.method)
  cases Option.some.inj (h2.symm.trans (Stand.of_body B).code)
  rw [← h6, table_eq]
end Bodies
end VXA
/-! ===== END ===== -/
/-! ===== BEGIN a static call of a method with an exception table ===== -/
section VXS
variable {p : Program} {l : Launch} {e : Env} {R : Room} {s : State} {m : MethodId} {args : Array Value} {below : List Frame} {meth : Method} {c : Code} {T : State} {H : Heap} {locs : List Loc} {cells slots : Nat}
abbrev vx_CSW (R : Room) (s : State) (args : Array Value) (own : String) (index : Nat) (y : MethodName) (bytes : ByteArray) (maxL : Nat) (ret : Option FieldType) (hh : List (Nat × Nat × Nat × Nat)) (ws : List Cond) (rm : Room) (mc ms n : Nat) : Prop :=
  (rm.cells = mc ∧ rm.slots = ms ∧ rm.frames + 1 ≤ R.frames ∧ 8 + (maxL + 11) + rm.locals ≤ R.locals ∧ (∀ w ∈ ws, ∀ (a' : Array Value) (U : State), s.WarmedH U.vm → w.before a' U = true) ∧ Cond.codeWith y bytes maxL ret hh ∈ ws) ∧
  (Cond.codeWith y bytes maxL ret hh).before args s = true ∧ (Cond.initialized y.cls).before args s = true ∧ (y.cls ≠ "java/lang/invoke/MethodHandle" ∧ y.cls ≠ "java/lang/invoke/VarHandle") ∧
  (∀ sig, parseMethodDescriptor y.desc = some sig → n = sig.parameters.length) ∧ (Cond.methodLink own index y).before args s = true ∧ (Cond.static y).before args s = true
theorem vx_cwSW {own : String} {index maxL mc ms : Nat} {y : MethodName} {bytes : ByteArray} {ret : Option FieldType} {hh : List (Nat × Nat × Nat × Nat)} {Ts ws ws' : List Cond} {rm : Room} (n : Nat) (ht : ∀ w ∈ Ts, w.before args s = true) (hT : GoodIn Ts (va_wsS own index y ws)) (hw : ws = Cond.codeWith y bytes maxL ret hh :: ws') (hrc : rm.cells = mc) (hrs : rm.slots = ms)
    (hd : y.cls ≠ "java/lang/invoke/MethodHandle" ∧ y.cls ≠ "java/lang/invoke/VarHandle" ∧ (parseMethodDescriptor y.desc).map (fun d => d.parameters.length) = some n) (hR : rm.frames + 1 ≤ R.frames ∧ 8 + (maxL + 11) + rm.locals ≤ R.locals) :
    vx_CSW R s args own index y bytes maxL ret hh ws rm mc ms n := by
  have ok : ∀ w ∈ va_wsS own index y ws, w.before args s = true := fun w h => ht w (hT w h).1
  have hG : GoodIn Ts ws := fun w h => hT w (by unfold va_wsS; exact List.mem_append_right _ h)
  have hc : Cond.codeWith y bytes maxL ret hh ∈ ws := by rw [hw]; exact List.mem_cons_self
  refine ⟨⟨hrc, hrs, hR.1, hR.2, pay_in ht hG, hc⟩, ht _ (hG _ hc).1, ok _ (by simp [va_wsS]), ⟨hd.1, hd.2.1⟩, fun sig h => ?_, ok _ (by simp [va_wsS]), ok _ (by simp [va_wsS])⟩
  have h2 := hd.2.2
  rw [h] at h2
  exact (Option.some.inj h2).symm
theorem vx_callSW (X : Stand p l e R s m args below meth c T locs cells slots) (hexec : p.tables.exec = Jvm.exec) {own : String} {index : Nat} {y : MethodName} {bytes : ByteArray} {maxL : Nat} {ret : Option FieldType} {hh : List (Nat × Nat × Nat × Nat)}
    (hown : s.vm.findClass own = some m.cls) (hlink : (Cond.methodLink own index y).before args s = true) (hstat : (Cond.static y).before args s = true) (hinit : (Cond.initialized y.cls).before args s = true)
    (hcode : (Cond.codeWith y bytes maxL ret hh).before args s = true) (hy : y.cls ≠ "java/lang/invoke/MethodHandle" ∧ y.cls ≠ "java/lang/invoke/VarHandle")
    {W9 : Nat} {Pre : Pt → Array Value → Prop} {Post : Pt → Array Value → Option Value → Pt → Prop} (hK : Back l R p e below s args y 3 W9 Pre Post)
    {g : JFrame} (hg : g.method = m) (hsize : g.locals.size = c.maxLocals) {argsL rest : List Value} (hlen : ∀ sig, parseMethodDescriptor y.desc = some sig → argsL.length = sig.parameters.length)
    (hstack : g.stack = argsL.reverse ++ rest) (hW : 2 * g.monitorRoom + (rest.map fun v => v.category).sum ≤ W9) (hdg : decode c.code g.pc = .ok (.invokestatic index, 3))
    (hpre : ∀ vm₁, s.WarmedH vm₁ → Pre ⟨T.setVm vm₁, locs, cells, slots⟩ argsL.toArray) :
    ∃ (v : Option Value) (vm₁ : Vm) (B : Pt), s.WarmedH vm₁ ∧ Stand p l e R s m args below meth c B.U B.locs B.cells B.slots ∧ Post ⟨T.setVm vm₁, locs, cells, slots⟩ argsL.toArray v B ∧
      ∀ target, Steps p.tables e below (B.U.setTop { g with pc := g.pc + 3, stack := v.toList ++ rest }) target → Steps p.tables e below (T.setTop g) target := by
  obtain ⟨mk, methM, cM, hnamed, hmethM, -, -, -, -, -, -, hsigM⟩ := Cond.codeWith_spec hcode
  have hstatic : methM.isStatic = true := Cond.static_spec hnamed hmethM hstat
  obtain ⟨kP, hkP, -⟩ := className_of_methodNamed hnamed
  have hinitP : kP.init = .initialized := Cond.initialized_spec (findClass_of_methodNamed hnamed) hkP hinit
  obtain ⟨vm₁, X₁, hstep₁⟩ := X.invokestatic hexec hown hlink hnamed hmethM hstatic hkP hinitP hy (g := g) hg (argsL := argsL) (rest := rest) (hlen _ hsigM) hstack hdg
  obtain ⟨v, B, X', hpost, hsteps⟩ := hK m meth c ⟨T.setVm vm₁, locs, cells, slots⟩ { g with stack := rest } (.invokestatic index) mk argsL.toArray X₁ hg hsize hdg hW (X₁.named hnamed) (hpre vm₁ X₁.warmed)
  exact ⟨v, vm₁, B, X₁.warmed, X', hpost, fun target h => hstep₁ _ fun acts => by rw [doInvoke_state]; exact hsteps.trans h⟩
theorem vx_runSW {y : MethodName} {bytes cc : ByteArray} {maxL nL mc ms n index : Nat} {ret : Option FieldType} {hh : List (Nat × Nat × Nat × Nat)} {ws : List Cond} {rm : Room} {Pc : Array Value → State → Prop} {Qc : Array Value → State → Outcome → State → Prop} {free : Addr → Prop} {Ts : List Cond} {own : String} {As rest : List Value} {g : JFrame}
    (S : CallFix p m c cc nL s args Ts own) (hM : Met l y ws rm Pc Qc mc ms free) (cw : vx_CSW R s args own index y bytes maxL ret hh ws rm mc ms n) (hp : PreS s H Pc As)
    (hg : g.method = m) (hn : As.length = n) (hsize : g.locals.size = nL) (hstack : g.stack = As.reverse ++ rest) (hW : 2 * g.monitorRoom + (rest.map fun v => v.category).sum ≤ 8) (hdg : decode cc g.pc = .ok (.invokestatic index, 3)) (hf : cells + mc ≤ R.cells ∧ slots + ms ≤ R.slots) :
    va_Run p l e R s m args below meth c H locs cells slots mc ms g rest (Qc As.toArray) (free) := by
  obtain ⟨⟨hrc, hrs, hfr, hlo, hws, hcw⟩, hcode, hini, hy, hlen, hl, hstt⟩ := cw
  have hK : Back l R p e below s args y 3 8 (PreOf R mc ms Pc) (PostOf Qc mc ms free) := va_backW (hh := hh) (bytes := bytes) (maxL := maxL) (ret := ret) hM hp.1 hrc hrs hfr hlo hws hcw (fun a' U hW => word_at hW (Or.inl (by first | rfl | simp [Cond.onTables, Cond.keeps, Cond.steady])) hini)
  obtain ⟨hx, hb, hml, ho, -⟩ := S
  intro T hT X
  obtain ⟨v, vm₁, ⟨U', l2, c2, s2⟩, hW₁, X', ⟨g', mk, t, L, e1, e2, hq, h1, hL, h2, h3⟩, st⟩ := vx_callSW X hx (hh := hh) (bytes := bytes) (maxL := maxL) (ret := ret) ho hl hstt hini hcode hy hK hg (hsize.trans hml.symm) (argsL := As) (rest := rest) (fun sig h => hn.trans (hlen sig h)) hstack hW (by rw [hb]; exact hdg)
    (fun vm₁ hW₁ => ⟨hf.1, hf.2, hp.2 (T.setVm vm₁) hT hW₁⟩)
  dsimp only [Pt.U, Pt.locs, Pt.cells, Pt.slots] at X' e1 e2 h1 h2 h3 st
  subst h1; subst h2; subst h3
  exact ⟨v, (T.setVm vm₁).calling g' mk As.toArray, t, U', L, hT, X', hL, e1, e2, hq, st⟩
/-- not caught here, past rows that name other classes: it goes on to the caller -/
theorem vx_outP {p : Program} {l : Launch} {e : Env} {R : Room} {s : State} {m : MethodId} {args : Array Value} {below : List Frame} {meth : Method} {c : Code} {H : Heap} {locs : List Loc} {cells slots : Nat} {free : Addr → Prop} {ls : Array Slot} {rest : List Value} {Qc : Array Value → State → Outcome → State → Prop} {XC : String → State → State → Prop}
    {pc : Nat} {own E : String} {ce : Cell} {q : Addr} {mc ms : Nat} (hown : s.vm.findClass own = some m.cls) (hlocks : meth.locks = false)
    (hpass : ∀ z ∈ c.exceptionTable.toList, covers z pc = false ∨ (z.catchType ≠ 0 ∧ ∃ nm : String, (Cond.classLink own z.catchType nm).before args s = true ∧ va_Nc E nm s)) (hcell : H[q]? = some ce) (hv : ce.vm = .none) (hcl : s.vm.findClass E = some ce.cls)
    (hx : ∀ t : State, t.heap = H → s.vm.Alike t.vm → XC E s t) (hf : ∀ z ∈ locs, free z.base) (hc : cells ≤ mc) (hs : slots ≤ ms) :
    vx_W p l e R s m args below meth c H locs cells slots (vx_MQ below Qc XC args s mc ms free) (F0 m pc ls rest) q := by
  intro T hT X
  have hpl : e.platform.magicAccessors = ({} : Platform).magicAccessors := by rw [X.admits.platform]
  obtain ⟨vm', hW', X', st⟩ := X.outThrough hlocks q (g := F0 m pc ls rest) rfl rfl rfl (cell := ce) (by rw [hT]; exact hcell) (by rw [hv]; rfl)
    (by obtain ⟨k9, h9, -⟩ := Vm.findClass_spec hcl; exact ⟨k9, h9⟩) (fun z hz => by
      rcases hpass z hz with h | ⟨hz0, nm, hl1, hn1⟩
      · exact Or.inl h
      · obtain ⟨c6, hc6, hcl6⟩ := Cond.classLink_spec hown hl1 e.platform hpl
        obtain ⟨a8, b8, h1, h2, h3⟩ := hn1
        cases Option.some.inj (h1.symm.trans hcl)
        cases Option.some.inj (h2.symm.trans hc6)
        exact Or.inr ⟨hz0, _, hcl6, h3⟩)
  obtain ⟨g₀, hfr⟩ := X'.frames_eq
  have hcell9 : ((T.setVm vm').setFrames (.throwing q :: below)).heap[q]? = some ce := by
    show T.heap[q]? = some ce
    rw [hT]; exact hcell
  have hend : Ended ((T.setVm vm').setFrames (.throwing q :: below)) below (.threw q) := State.frames_setFrames _ (State.cur_lt_of_frames hfr)
  refine ⟨(T.setVm vm').setFrames (.throwing q :: below), ?_, .threw q, X'.here.running, hend, Or.inr ⟨q, rfl, E, ce, locs, hx _ hT (X'.ends _).1.alike, hcell9, hv, hcl, (X'.ends _).1, (X'.ends _).2.mono hc hs, hf⟩⟩
  rw [X.pushThrowing_eq]
  exact st
/-- a thing of a world lies in the heap -/
theorem vx_lt {D : va_G} {cl : List vw_C} {ws : va_W} {H1 : Heap} (h : va_P D cl ws H1) {k : Nat} {q : Nat × va_E} (hk : ws[k]? = some q) : q.1 < H1.size := (h k q hk).lt
end VXS
/-! ===== END ===== -/
/-! ===== BEGIN methods with a table of their own: called by a name, returning or throwing ===== -/
section VXH
/-! vx_backW, vx_callVX, vx_callSX, vx_callVW, vx_runVW, vx_runVX, vx_runSX, vx_ofWH follow the same proofs as their sisters above (Free/Laws.lean, Shelf42/LK1.lean); vx_outP calls Shelf42/NT130.lean (outThrough). -/
section
variable {l : Launch} {R : Room} {p : Program} {e : Env} {below : List Frame} {s : State} {sargs : Array Value} {y : MethodName} {len W9 : Nat}
theorem vx_backW {ws : List Cond} {rm : Room} {Pc : Array Value → State → Prop} {Qc : Array Value → State → Outcome → State → Prop} {XC : String → State → State → Prop} {mc ms : Nat} {free : Addr → Prop} {bytes : ByteArray} {maxL : Nat} {ret : Option FieldType} {hh : List (Nat × Nat × Nat × Nat)}
    (hM : vx_Met l y ws rm Pc Qc XC mc ms free) (hblind : FrameBlind Pc) (hrc : rm.cells = mc) (hrs : rm.slots = ms)
    (hframes : rm.frames + 1 ≤ R.frames) (hlocals : W9 + (maxL + 11) + rm.locals ≤ R.locals)
    (hws : ∀ w ∈ ws, ∀ a' U, s.WarmedH U.vm → w.before a' U = true) (hcode : Cond.codeWith y bytes maxL ret hh ∈ ws) (hinit : ∀ a' U, s.WarmedH U.vm → (Cond.initialized y.cls).before a' U = true) :
    vx_Back l R p e below s sargs y len W9 (PreOf R mc ms Pc) (PostOf Qc mc ms free) (vx_Post XC mc ms free) := by
  intro m meth c A g ig mk a X hg hsize hdg hW hn hp
  have h1 : (headSpec ws rm).pre.before a A.U = true := atoms_intro fun w hw => hws w hw _ _ X.warmed
  have h2 : (Cond.codeWith y bytes maxL ret hh).before a A.U = true := hws _ hcode _ _ X.warmed
  have h3 : (Cond.initialized y.cls).before a A.U = true := hinit _ _ X.warmed
  have h4 : A.cells + (headSpec ws rm).room.cells ≤ R.cells := by rw [show (headSpec ws rm).room.cells = mc from hrc]; exact hp.1
  have h5 : A.slots + (headSpec ws rm).room.slots ≤ R.slots := by rw [show (headSpec ws rm).room.slots = ms from hrs]; exact hp.2.1
  have hPc : Pc a (A.U.calling g mk a) := hblind _ _ _ _ hp.2.2
  obtain ⟨U, Ls, c0, s0⟩ := A
  dsimp only [Pt.U, Pt.locs, Pt.cells, Pt.slots] at h1 h2 h3 h4 h5 X hn hPc ⊢
  obtain ⟨m9, methY, cY, hn9, hmY, hcY, -, hlY, -⟩ := Cond.codeWith_spec h2
  cases Option.some.inj (hn9.symm.trans hn)
  obtain ⟨kY, hkY, -⟩ := className_of_methodNamed hn
  have hinitY : kY.init = .initialized := Cond.initialized_spec (findClass_of_methodNamed hn) hkY h3
  have h : At U g.method c below := by rw [hg]; exact X.here
  have hlocals9 : W9 + (maxL + 11) + (headSpec ws rm).room.locals ≤ R.locals := hlocals
  have happ : (headSpec ws rm).appliesLoose y e.platform (U.calling g mk a) = true :=
    Spec.appliesLoose_calling (g := g) h hdg hn hkY hinitY
      (X.room_calling (g := g) (R' := (headSpec ws rm).room) hsize hmY hcY hframes (by rw [hlY]; omega) h4 h5) h1
  obtain ⟨mid, hmid⟩ := h.above
  have hfr : (U.setTop g).frames = (.java g :: mid) ++ below := by rw [State.frames_setTop' g h.top, hmid]; rfl
  obtain ⟨o, s₂, hsteps, -, hend, hq⟩ := Steps.callFree hM p X.admits X.cas X.clock (acts := []) hfr happ hPc trivial
  have hq' : vx_Q Qc XC mc ms free a (U.calling g mk a) o s₂ := hq
  rw [State.frames_setTop' g h.top] at hend
  obtain ⟨g₀, hg0⟩ := Option.isSome_iff_exists.mp h.top
  obtain ⟨r, hr⟩ := State.topJava?_eq_some.mp hg0
  have hr' : (({ U with heap := s₂.heap, slotsUsed := s₂.slotsUsed } : State).setVm s₂.vm).frames = .java g₀ :: r := hr
  rcases hq' with ⟨hqc, L, hfe, hL⟩ | ⟨q, rfl, E, ce, L, hx, hce, hcv, hcl, hW₂, hsm, hL⟩
  · obtain ⟨⟨v, rfl⟩, hW₂, e2, q2, q3, q4, q5, q6⟩ := id hfe
    have e3 : s₂ = ({ (U.calling g mk a).setFrames s₂.frames with heap := s₂.heap, slotsUsed := s₂.slotsUsed } : State).setVm s₂.vm := by
      have : s₂ = ({ s₂ with vm := (U.calling g mk a).vm } : State).setVm s₂.vm := rfl
      rw [e2] at this
      exact this
    obtain ⟨c₂, i₂, len₂, hc₂, hd₂, hf₂⟩ := hend
    have hW' : U.WarmedH s₂.vm := hW₂
    have hcc : c₂ = c := by
      have h1 : s₂.code? g.method = U.code? g.method := by
        rw [State.code?_eq, State.code?_eq, hW'.alike.method?]
      exact Option.some.inj (hc₂.symm.trans (h1.trans h.code))
    subst hcc
    have hlen : len₂ = len := by rw [hdg] at hd₂; cases hd₂; rfl
    subst hlen
    have hs₂ : s₂ = (({ U with heap := s₂.heap, slotsUsed := s₂.slotsUsed } : State).setVm s₂.vm).setTop { g with pc := g.pc + len₂, stack := v.toList ++ g.stack } := by
      refine e3.trans ?_
      rw [hf₂, State.calling_eq h.top, State.setFrames_setFrames, State.setTop_of_frames _ hr', hr]
      rfl
    have hsame : U.sameButNew ({ U with heap := s₂.heap, slotsUsed := s₂.slotsUsed } : State) L mc ms := by
      refine ⟨?_, q2, q3, q4, q5, q6⟩
      obtain ⟨t, ht, -⟩ := State.frames_cons hr
      show ({ U with heap := s₂.heap, slotsUsed := s₂.slotsUsed } : State) = { U.setFrames U.frames with heap := s₂.heap, slotsUsed := s₂.slotsUsed }
      rw [State.setFrames_self ht]
    subst hg
    refine Or.inl ⟨v, ⟨(({ U with heap := s₂.heap, slotsUsed := s₂.slotsUsed } : State).setVm s₂.vm), Ls ++ L, c0 + mc, s0 + ms⟩,
      ⟨X.admits, X.cas, X.clock, X.frames, X.room, X.hears, X.method, X.code, (X.here.setHeapUsed s₂.heap s₂.slotsUsed).setVm hW'.alike, X.tail, State.WarmedH.trans X.warmed hW', X.limits, X.bytes, X.same.trans (hsame.setVm s.vm)⟩,
      ⟨g, mk, s₂, L, rfl, rfl, hqc, rfl, hL, rfl, rfl⟩, ?_⟩
    show Steps p.tables e below _ ((({ U with heap := s₂.heap, slotsUsed := s₂.slotsUsed } : State).setVm s₂.vm).setTop { g with pc := g.pc + len₂, stack := v.toList ++ g.stack })
    rw [← hs₂]
    exact hsteps
  · obtain ⟨e2, q2, q3, q4, q5, q6⟩ := id hsm
    have e3 : s₂ = ({ (U.calling g mk a).setFrames s₂.frames with heap := s₂.heap, slotsUsed := s₂.slotsUsed } : State).setVm s₂.vm := by
      have : s₂ = ({ s₂ with vm := (U.calling g mk a).vm } : State).setVm s₂.vm := rfl
      rw [e2] at this
      exact this
    have hf₂ : s₂.frames = .throwing q :: .java g :: U.frames.tail := hend
    have hW' : U.WarmedH s₂.vm := hW₂
    have hs₂ : s₂ = ((({ U with heap := s₂.heap, slotsUsed := s₂.slotsUsed } : State).setVm s₂.vm).setTop g).pushFrame (.throwing q) := by
      refine e3.trans ?_
      rw [hf₂, State.calling_eq h.top, State.setFrames_setFrames, State.pushFrame, State.frames_setTop _ hr', State.setTop_of_frames _ hr', State.setFrames_setFrames, hr]
      rfl
    have hsame : U.sameButNew ({ U with heap := s₂.heap, slotsUsed := s₂.slotsUsed } : State) L mc ms := by
      refine ⟨?_, q2, q3, q4, q5, q6⟩
      obtain ⟨t, ht, -⟩ := State.frames_cons hr
      show ({ U with heap := s₂.heap, slotsUsed := s₂.slotsUsed } : State) = { U.setFrames U.frames with heap := s₂.heap, slotsUsed := s₂.slotsUsed }
      rw [State.setFrames_self ht]
    subst hg
    refine Or.inr ⟨q, ⟨(({ U with heap := s₂.heap, slotsUsed := s₂.slotsUsed } : State).setVm s₂.vm), Ls ++ L, c0 + mc, s0 + ms⟩,
      ⟨X.admits, X.cas, X.clock, X.frames, X.room, X.hears, X.method, X.code, (X.here.setHeapUsed s₂.heap s₂.slotsUsed).setVm hW'.alike, X.tail, State.WarmedH.trans X.warmed hW', X.limits, X.bytes, X.same.trans (hsame.setVm s.vm)⟩,
      ⟨g, mk, s₂, L, E, ce, rfl, rfl, hx, hce, hcv, hcl, rfl, hL, rfl, rfl⟩, ?_⟩
    show Steps p.tables e below _ (((({ U with heap := s₂.heap, slotsUsed := s₂.slotsUsed } : State).setVm s₂.vm).setTop g).pushFrame (.throwing q))
    rw [← hs₂]
    exact hsteps
end
variable {p : Program} {l : Launch} {e : Env} {R : Room} {s : State} {m : MethodId} {args : Array Value} {below : List Frame} {meth : Method} {c : Code} {T : State} {H : Heap} {locs : List Loc} {cells slots : Nat}
theorem vx_callVX (X : Stand p l e R s m args below meth c T locs cells slots) (hexec : p.tables.exec = Jvm.exec) {own C : String} {index : Nat} {y : MethodName} {bytes : ByteArray} {maxL : Nat} {ret : Option FieldType} {hh : List (Nat × Nat × Nat × Nat)}
    (hown : s.vm.findClass own = some m.cls) (hlink : (Cond.methodLink own index y).before args s = true) (hinst : (Cond.instanceMethod y).before args s = true) (hsel : (Cond.selects C y y).before args s = true)
    (hcode : (Cond.codeWith y bytes maxL ret hh).before args s = true) (hy : y.cls ≠ "java/lang/invoke/MethodHandle" ∧ y.cls ≠ "java/lang/invoke/VarHandle")
    {W9 : Nat} {Pre : Pt → Array Value → Prop} {Post : Pt → Array Value → Option Value → Pt → Prop} {PostX : Pt → Array Value → Addr → Pt → Prop} (hK : vx_Back l R p e below s args y 3 W9 Pre Post PostX)
    {b : Addr} {cellB : Cell} (hcell : T.heap[b]? = some cellB) (hobj : cellB.vm.isStatics = false) (hcls : s.vm.findClass C = some cellB.cls)
    {g : JFrame} (hg : g.method = m) (hsize : g.locals.size = c.maxLocals) {argsL rest : List Value} (hlen : ∀ sig, parseMethodDescriptor y.desc = some sig → argsL.length = sig.parameters.length)
    (hstack : g.stack = argsL.reverse ++ .ref b :: rest) (hW : 2 * g.monitorRoom + (rest.map fun v => v.category).sum ≤ W9) (hdg : decode c.code g.pc = .ok (.invokevirtual index, 3))
    (hpre : ∀ vm₁, s.WarmedH vm₁ → Pre ⟨T.setVm vm₁, locs, cells, slots⟩ (Value.ref b :: argsL).toArray) :
    (∃ (v : Option Value) (vm₁ : Vm) (B : Pt), s.WarmedH vm₁ ∧ Stand p l e R s m args below meth c B.U B.locs B.cells B.slots ∧ Post ⟨T.setVm vm₁, locs, cells, slots⟩ (Value.ref b :: argsL).toArray v B ∧
      ∀ target, Steps p.tables e below (B.U.setTop { g with pc := g.pc + 3, stack := v.toList ++ rest }) target → Steps p.tables e below (T.setTop g) target) ∨
    (∃ (q : Addr) (vm₁ : Vm) (B : Pt), s.WarmedH vm₁ ∧ Stand p l e R s m args below meth c B.U B.locs B.cells B.slots ∧ PostX ⟨T.setVm vm₁, locs, cells, slots⟩ (Value.ref b :: argsL).toArray q B ∧
      Steps p.tables e below (T.setTop g) ((B.U.setTop { g with stack := rest }).pushFrame (.throwing q))) := by
  obtain ⟨mk, methM, hnamed, hmethM, hstM, habM⟩ := Cond.instanceMethod_spec hinst
  obtain ⟨m8, methM', cM, hn8, hmethM', -, -, -, -, -, -, hsigM⟩ := Cond.codeWith_spec hcode
  cases Option.some.inj (hn8.symm.trans hnamed)
  cases hmethM.symm.trans hmethM'
  obtain ⟨c2, r2, m2, q1, q2, q3, q4, kP, hkP, hkPi⟩ := Cond.selects_spec hsel
  cases hcls.symm.trans q1
  cases (State.methodFound?_of_named hnamed hy).symm.trans q2
  cases hnamed.symm.trans q3
  have hselP : selectMethod e.platform s.vm cellB.cls mk = .method mk := by rw [Launch.admits_selectMethod X.admits]; exact q4
  obtain ⟨vm₁, X₁, hstep₁⟩ := X.invokevirtual hexec hown hlink hnamed hmethM hstM hkP hkPi hy (a := b) (cell := cellB) hcell
    (fun z h => by rw [h] at hobj; cases hobj) hselP hmethM habM hkP hkPi (g := g) hg (argsL := argsL) (rest := rest) (hlen _ hsigM) hstack hdg
  rcases hK m meth c ⟨T.setVm vm₁, locs, cells, slots⟩ { g with stack := rest } (.invokevirtual index) mk (Value.ref b :: argsL).toArray X₁ hg hsize hdg hW (X₁.named hnamed) (hpre vm₁ X₁.warmed) with ⟨v, B, X', hpost, hsteps⟩ | ⟨q, B, X', hpost, hsteps⟩
  · exact Or.inl ⟨v, vm₁, B, X₁.warmed, X', hpost, fun target h => hstep₁ _ fun acts => by rw [doInvoke_state]; exact hsteps.trans h⟩
  · exact Or.inr ⟨q, vm₁, B, X₁.warmed, X', hpost, hstep₁ _ fun acts => by rw [doInvoke_state]; exact hsteps⟩
theorem vx_callSX (X : Stand p l e R s m args below meth c T locs cells slots) (hexec : p.tables.exec = Jvm.exec) {own : String} {index : Nat} {y : MethodName} {bytes : ByteArray} {maxL : Nat} {ret : Option FieldType} {hh : List (Nat × Nat × Nat × Nat)}
    (hown : s.vm.findClass own = some m.cls) (hlink : (Cond.methodLink own index y).before args s = true) (hstat : (Cond.static y).before args s = true) (hinit : (Cond.initialized y.cls).before args s = true)
    (hcode : (Cond.codeWith y bytes maxL ret hh).before args s = true) (hy : y.cls ≠ "java/lang/invoke/MethodHandle" ∧ y.cls ≠ "java/lang/invoke/VarHandle")
    {W9 : Nat} {Pre : Pt → Array Value → Prop} {Post : Pt → Array Value → Option Value → Pt → Prop} {PostX : Pt → Array Value → Addr → Pt → Prop} (hK : vx_Back l R p e below s args y 3 W9 Pre Post PostX)
    {g : JFrame} (hg : g.method = m) (hsize : g.locals.size = c.maxLocals) {argsL rest : List Value} (hlen : ∀ sig, parseMethodDescriptor y.desc = some sig → argsL.length = sig.parameters.length)
    (hstack : g.stack = argsL.reverse ++ rest) (hW : 2 * g.monitorRoom + (rest.map fun v => v.category).sum ≤ W9) (hdg : decode c.code g.pc = .ok (.invokestatic index, 3))
    (hpre : ∀ vm₁, s.WarmedH vm₁ → Pre ⟨T.setVm vm₁, locs, cells, slots⟩ argsL.toArray) :
    (∃ (v : Option Value) (vm₁ : Vm) (B : Pt), s.WarmedH vm₁ ∧ Stand p l e R s m args below meth c B.U B.locs B.cells B.slots ∧ Post ⟨T.setVm vm₁, locs, cells, slots⟩ argsL.toArray v B ∧
      ∀ target, Steps p.tables e below (B.U.setTop { g with pc := g.pc + 3, stack := v.toList ++ rest }) target → Steps p.tables e below (T.setTop g) target) ∨
    (∃ (q : Addr) (vm₁ : Vm) (B : Pt), s.WarmedH vm₁ ∧ Stand p l e R s m args below meth c B.U B.locs B.cells B.slots ∧ PostX ⟨T.setVm vm₁, locs, cells, slots⟩ argsL.toArray q B ∧
      Steps p.tables e below (T.setTop g) ((B.U.setTop { g with stack := rest }).pushFrame (.throwing q))) := by
  obtain ⟨mk, methM, cM, hnamed, hmethM, -, -, -, -, -, -, hsigM⟩ := Cond.codeWith_spec hcode
  have hstatic : methM.isStatic = true := Cond.static_spec hnamed hmethM hstat
  obtain ⟨kP, hkP, -⟩ := className_of_methodNamed hnamed
  have hinitP : kP.init = .initialized := Cond.initialized_spec (findClass_of_methodNamed hnamed) hkP hinit
  obtain ⟨vm₁, X₁, hstep₁⟩ := X.invokestatic hexec hown hlink hnamed hmethM hstatic hkP hinitP hy (g := g) hg (argsL := argsL) (rest := rest) (hlen _ hsigM) hstack hdg
  rcases hK m meth c ⟨T.setVm vm₁, locs, cells, slots⟩ { g with stack := rest } (.invokestatic index) mk argsL.toArray X₁ hg hsize hdg hW (X₁.named hnamed) (hpre vm₁ X₁.warmed) with ⟨v, B, X', hpost, hsteps⟩ | ⟨q, B, X', hpost, hsteps⟩
  · exact Or.inl ⟨v, vm₁, B, X₁.warmed, X', hpost, fun target h => hstep₁ _ fun acts => by rw [doInvoke_state]; exact hsteps.trans h⟩
  · exact Or.inr ⟨q, vm₁, B, X₁.warmed, X', hpost, hstep₁ _ fun acts => by rw [doInvoke_state]; exact hsteps⟩
theorem vx_callVW (X : Stand p l e R s m args below meth c T locs cells slots) (hexec : p.tables.exec = Jvm.exec) {own C : String} {index : Nat} {y : MethodName} {bytes : ByteArray} {maxL : Nat} {ret : Option FieldType} {hh : List (Nat × Nat × Nat × Nat)}
    (hown : s.vm.findClass own = some m.cls) (hlink : (Cond.methodLink own index y).before args s = true) (hinst : (Cond.instanceMethod y).before args s = true) (hsel : (Cond.selects C y y).before args s = true)
    (hcode : (Cond.codeWith y bytes maxL ret hh).before args s = true) (hy : y.cls ≠ "java/lang/invoke/MethodHandle" ∧ y.cls ≠ "java/lang/invoke/VarHandle")
    {W9 : Nat} {Pre : Pt → Array Value → Prop} {Post : Pt → Array Value → Option Value → Pt → Prop} (hK : Back l R p e below s args y 3 W9 Pre Post)
    {b : Addr} {cellB : Cell} (hcell : T.heap[b]? = some cellB) (hobj : cellB.vm.isStatics = false) (hcls : s.vm.findClass C = some cellB.cls)
    {g : JFrame} (hg : g.method = m) (hsize : g.locals.size = c.maxLocals) {argsL rest : List Value} (hlen : ∀ sig, parseMethodDescriptor y.desc = some sig → argsL.length = sig.parameters.length)
    (hstack : g.stack = argsL.reverse ++ .ref b :: rest) (hW : 2 * g.monitorRoom + (rest.map fun v => v.category).sum ≤ W9) (hdg : decode c.code g.pc = .ok (.invokevirtual index, 3))
    (hpre : ∀ vm₁, s.WarmedH vm₁ → Pre ⟨T.setVm vm₁, locs, cells, slots⟩ (Value.ref b :: argsL).toArray) :
    ∃ (v : Option Value) (vm₁ : Vm) (B : Pt), s.WarmedH vm₁ ∧ Stand p l e R s m args below meth c B.U B.locs B.cells B.slots ∧ Post ⟨T.setVm vm₁, locs, cells, slots⟩ (Value.ref b :: argsL).toArray v B ∧
      ∀ target, Steps p.tables e below (B.U.setTop { g with pc := g.pc + 3, stack := v.toList ++ rest }) target → Steps p.tables e below (T.setTop g) target := by
  obtain ⟨mk, methM, hnamed, hmethM, hstM, habM⟩ := Cond.instanceMethod_spec hinst
  obtain ⟨m8, methM', cM, hn8, hmethM', -, -, -, -, -, -, hsigM⟩ := Cond.codeWith_spec hcode
  cases Option.some.inj (hn8.symm.trans hnamed)
  cases hmethM.symm.trans hmethM'
  obtain ⟨c2, r2, m2, q1, q2, q3, q4, kP, hkP, hkPi⟩ := Cond.selects_spec hsel
  cases hcls.symm.trans q1
  cases (State.methodFound?_of_named hnamed hy).symm.trans q2
  cases hnamed.symm.trans q3
  have hselP : selectMethod e.platform s.vm cellB.cls mk = .method mk := by rw [Launch.admits_selectMethod X.admits]; exact q4
  obtain ⟨vm₁, X₁, hstep₁⟩ := X.invokevirtual hexec hown hlink hnamed hmethM hstM hkP hkPi hy (a := b) (cell := cellB) hcell
    (fun z h => by rw [h] at hobj; cases hobj) hselP hmethM habM hkP hkPi (g := g) hg (argsL := argsL) (rest := rest) (hlen _ hsigM) hstack hdg
  obtain ⟨v, B, X', hpost, hsteps⟩ := hK m meth c ⟨T.setVm vm₁, locs, cells, slots⟩ { g with stack := rest } (.invokevirtual index) mk (Value.ref b :: argsL).toArray X₁ hg hsize hdg hW (X₁.named hnamed) (hpre vm₁ X₁.warmed)
  exact ⟨v, vm₁, B, X₁.warmed, X', hpost, fun target h => hstep₁ _ fun acts => by rw [doInvoke_state]; exact hsteps.trans h⟩
abbrev vx_CVW (R : Room) (s : State) (args : Array Value) (own C : String) (index : Nat) (y : MethodName) (bytes : ByteArray) (maxL : Nat) (ret : Option FieldType) (hh : List (Nat × Nat × Nat × Nat)) (ws : List Cond) (rm : Room) (mc ms n : Nat) : Prop :=
  (rm.cells = mc ∧ rm.slots = ms ∧ rm.frames + 1 ≤ R.frames ∧ 8 + (maxL + 11) + rm.locals ≤ R.locals ∧ (∀ w ∈ ws, ∀ (a' : Array Value) (U : State), s.WarmedH U.vm → w.before a' U = true) ∧ Cond.codeWith y bytes maxL ret hh ∈ ws) ∧
  (Cond.codeWith y bytes maxL ret hh).before args s = true ∧ (Cond.initialized y.cls).before args s = true ∧ (y.cls ≠ "java/lang/invoke/MethodHandle" ∧ y.cls ≠ "java/lang/invoke/VarHandle") ∧
  (∀ sig, parseMethodDescriptor y.desc = some sig → n = sig.parameters.length) ∧ (Cond.methodLink own index y).before args s = true ∧ (Cond.instanceMethod y).before args s = true ∧ (Cond.selects C y y).before args s = true
theorem vx_cwVW {own C : String} {index maxL mc ms : Nat} {y : MethodName} {bytes : ByteArray} {ret : Option FieldType} {hh : List (Nat × Nat × Nat × Nat)} {Ts ws ws' : List Cond} {rm : Room} (n : Nat) (ht : ∀ w ∈ Ts, w.before args s = true) (hT : GoodIn Ts (wsV own index C y ws)) (hw : ws = Cond.codeWith y bytes maxL ret hh :: ws') (hrc : rm.cells = mc) (hrs : rm.slots = ms)
    (hd : y.cls = C ∧ y.cls ≠ "java/lang/invoke/MethodHandle" ∧ y.cls ≠ "java/lang/invoke/VarHandle" ∧ (parseMethodDescriptor y.desc).map (fun d => d.parameters.length) = some n) (hR : rm.frames + 1 ≤ R.frames ∧ 8 + (maxL + 11) + rm.locals ≤ R.locals) :
    vx_CVW R s args own C index y bytes maxL ret hh ws rm mc ms n := by
  obtain ⟨hC, hd⟩ := hd
  subst hC
  have ok : ∀ w ∈ wsV own index y.cls y ws, w.before args s = true := fun w h => ht w (hT w h).1
  have hG : GoodIn Ts ws := fun w h => hT w (by unfold wsV; exact List.mem_append_right _ h)
  have hc : Cond.codeWith y bytes maxL ret hh ∈ ws := by rw [hw]; exact List.mem_cons_self
  refine ⟨⟨hrc, hrs, hR.1, hR.2, pay_in ht hG, hc⟩, ht _ (hG _ hc).1, ok _ (by simp [wsV]), ⟨hd.1, hd.2.1⟩, fun sig h => ?_, ok _ (by simp [wsV]), ok _ (by simp [wsV]), ok _ (by simp [wsV])⟩
  have h2 := hd.2.2
  rw [h] at h2
  exact (Option.some.inj h2).symm
theorem vx_runVW {y : MethodName} {bytes cc : ByteArray} {maxL nL mc ms n index : Nat} {ret : Option FieldType} {hh : List (Nat × Nat × Nat × Nat)} {ws : List Cond} {rm : Room} {Pc : Array Value → State → Prop} {Qc : Array Value → State → Outcome → State → Prop} {free : Addr → Prop} {Ts : List Cond} {own C : String} {b : Addr} {As rest : List Value} {g : JFrame}
    (S : CallFix p m c cc nL s args Ts own) (hM : Met l y ws rm Pc Qc mc ms free) (cw : vx_CVW R s args own C index y bytes maxL ret hh ws rm mc ms n) (hp : PreV s H C b Pc As)
    (hg : g.method = m) (hn : As.length = n) (hsize : g.locals.size = nL) (hstack : g.stack = As.reverse ++ .ref b :: rest) (hW : 2 * g.monitorRoom + (rest.map fun v => v.category).sum ≤ 8) (hdg : decode cc g.pc = .ok (.invokevirtual index, 3)) (hf : cells + mc ≤ R.cells ∧ slots + ms ≤ R.slots) :
    va_Run p l e R s m args below meth c H locs cells slots mc ms g rest (Qc (Value.ref b :: As).toArray) free := by
  obtain ⟨⟨hrc, hrs, hfr, hlo, hws, hcw⟩, hcode, hini, hy, hlen, hl, hin, hse⟩ := cw
  have hK : Back l R p e below s args y 3 8 (PreOf R mc ms Pc) (PostOf Qc mc ms free) := va_backW (hh := hh) (bytes := bytes) (maxL := maxL) (ret := ret) hM hp.1 hrc hrs hfr hlo hws hcw (fun a' U hW => word_at hW (Or.inl (by first | rfl | simp [Cond.onTables, Cond.keeps, Cond.steady])) hini)
  obtain ⟨hx, hb, hml, ho, -⟩ := S
  obtain ⟨-, ⟨cellB, hcB, hoB, hclB⟩, hPc⟩ := hp
  intro T hT X
  obtain ⟨v, vm₁, ⟨U', l2, c2, s2⟩, hW₁, X', ⟨g', mk, t, L, e1, e2, hq, h1, hL, h2, h3⟩, st⟩ := vx_callVW X hx (C := C) (hh := hh) (bytes := bytes) (maxL := maxL) (ret := ret) ho hl hin hse hcode hy hK (by rw [hT]; exact hcB) hoB hclB hg (hsize.trans hml.symm) (argsL := As) (rest := rest) (fun sig h => hn.trans (hlen sig h)) hstack hW (by rw [hb]; exact hdg)
    (fun vm₁ hW₁ => ⟨hf.1, hf.2, hPc (T.setVm vm₁) hT hW₁⟩)
  dsimp only [Pt.U, Pt.locs, Pt.cells, Pt.slots] at X' e1 e2 h1 h2 h3 st
  subst h1; subst h2; subst h3
  exact ⟨v, (T.setVm vm₁).calling g' mk (Value.ref b :: As).toArray, t, U', L, hT, X', hL, e1, e2, hq, st⟩
section
variable {y : MethodName} {bytes cc : ByteArray} {maxL nL mc ms n index : Nat} {ret : Option FieldType} {ws : List Cond} {rm : Room} {Pc : Array Value → State → Prop} {Qc : Array Value → State → Outcome → State → Prop} {XC : String → State → State → Prop} {free : Addr → Prop} {Ts : List Cond} {own C : String} {b : Addr} {As rest : List Value} {g : JFrame}
theorem vx_runVX {hh : List (Nat × Nat × Nat × Nat)} (S : CallFix p m c cc nL s args Ts own) (hM : vx_Met l y ws rm Pc Qc XC mc ms free) (cw : vx_CVW R s args own C index y bytes maxL ret hh ws rm mc ms n) (hp : PreV s H C b Pc As)
    (hg : g.method = m) (hn : As.length = n) (hsize : g.locals.size = nL) (hstack : g.stack = As.reverse ++ .ref b :: rest) (hW : 2 * g.monitorRoom + (rest.map fun v => v.category).sum ≤ 8) (hdg : decode cc g.pc = .ok (.invokevirtual index, 3)) (hf : cells + mc ≤ R.cells ∧ slots + ms ≤ R.slots) :
    vx_Run p l e R s m args below meth c H locs cells slots mc ms g rest (Qc (Value.ref b :: As).toArray) XC free := by
  obtain ⟨⟨hrc, hrs, hfr, hlo, hws, hcw⟩, hcode, hini, hy, hlen, hl, hin, hse⟩ := cw
  have hK : vx_Back l R p e below s args y 3 8 (PreOf R mc ms Pc) (PostOf Qc mc ms free) (vx_Post XC mc ms free) := vx_backW (hh := hh) (bytes := bytes) (maxL := maxL) (ret := ret) hM hp.1 hrc hrs hfr hlo hws hcw (fun a' U hW => word_at hW (Or.inl (by first | rfl | simp [Cond.onTables, Cond.keeps, Cond.steady])) hini)
  obtain ⟨hx, hb, hml, ho, -⟩ := S
  obtain ⟨-, ⟨cellB, hcB, hoB, hclB⟩, hPc⟩ := hp
  intro T hT X
  rcases vx_callVX X hx (C := C) (hh := hh) (bytes := bytes) (maxL := maxL) (ret := ret) ho hl hin hse hcode hy hK (by rw [hT]; exact hcB) hoB hclB hg (hsize.trans hml.symm) (argsL := As) (rest := rest) (fun sig h => hn.trans (hlen sig h)) hstack hW (by rw [hb]; exact hdg)
    (fun vm₁ hW₁ => ⟨hf.1, hf.2, hPc (T.setVm vm₁) hT hW₁⟩) with ⟨v, vm₁, ⟨U', l2, c2, s2⟩, hW₁, X', ⟨g', mk, t, L, e1, e2, hq, h1, hL, h2, h3⟩, st⟩ | ⟨q, vm₁, ⟨U', l2, c2, s2⟩, hW₁, X', ⟨g', mk, t, L, E, ce, e1, e2, hq, hce, hcv, hcl, h1, hL, h2, h3⟩, st⟩
  · dsimp only [Pt.U, Pt.locs, Pt.cells, Pt.slots] at X' e1 e2 h1 h2 h3 st
    subst h1; subst h2; subst h3
    exact Or.inl ⟨v, (T.setVm vm₁).calling g' mk (Value.ref b :: As).toArray, t, U', L, hT, X', hL, e1, e2, hq, st⟩
  · dsimp only [Pt.U, Pt.locs, Pt.cells, Pt.slots] at X' e1 e2 h1 h2 h3 st hcl
    subst h1; subst h2; subst h3
    exact Or.inr ⟨q, (T.setVm vm₁).calling g' mk (Value.ref b :: As).toArray, t, U', L, E, ce, hT, X', hL, e1, e2, hq, hce, hcv, vx_cls hW₁ hcl, st⟩
theorem vx_runSX {hh : List (Nat × Nat × Nat × Nat)} (S : CallFix p m c cc nL s args Ts own) (hM : vx_Met l y ws rm Pc Qc XC mc ms free) (cw : vx_CSW R s args own index y bytes maxL ret hh ws rm mc ms n) (hp : PreS s H Pc As)
    (hg : g.method = m) (hn : As.length = n) (hsize : g.locals.size = nL) (hstack : g.stack = As.reverse ++ rest) (hW : 2 * g.monitorRoom + (rest.map fun v => v.category).sum ≤ 8) (hdg : decode cc g.pc = .ok (.invokestatic index, 3)) (hf : cells + mc ≤ R.cells ∧ slots + ms ≤ R.slots) :
    vx_Run p l e R s m args below meth c H locs cells slots mc ms g rest (Qc As.toArray) XC free := by
  obtain ⟨⟨hrc, hrs, hfr, hlo, hws, hcw⟩, hcode, hini, hy, hlen, hl, hstt⟩ := cw
  have hK : vx_Back l R p e below s args y 3 8 (PreOf R mc ms Pc) (PostOf Qc mc ms free) (vx_Post XC mc ms free) := vx_backW (hh := hh) (bytes := bytes) (maxL := maxL) (ret := ret) hM hp.1 hrc hrs hfr hlo hws hcw (fun a' U hW => word_at hW (Or.inl (by first | rfl | simp [Cond.onTables, Cond.keeps, Cond.steady])) hini)
  obtain ⟨hx, hb, hml, ho, -⟩ := S
  intro T hT X
  rcases vx_callSX X hx (hh := hh) (bytes := bytes) (maxL := maxL) (ret := ret) ho hl hstt hini hcode hy hK hg (hsize.trans hml.symm) (argsL := As) (rest := rest) (fun sig h => hn.trans (hlen sig h)) hstack hW (by rw [hb]; exact hdg)
    (fun vm₁ hW₁ => ⟨hf.1, hf.2, hp.2 (T.setVm vm₁) hT hW₁⟩) with ⟨v, vm₁, ⟨U', l2, c2, s2⟩, hW₁, X', ⟨g', mk, t, L, e1, e2, hq, h1, hL, h2, h3⟩, st⟩ | ⟨q, vm₁, ⟨U', l2, c2, s2⟩, hW₁, X', ⟨g', mk, t, L, E, ce, e1, e2, hq, hce, hcv, hcl, h1, hL, h2, h3⟩, st⟩
  · dsimp only [Pt.U, Pt.locs, Pt.cells, Pt.slots] at X' e1 e2 h1 h2 h3 st
    subst h1; subst h2; subst h3
    exact Or.inl ⟨v, (T.setVm vm₁).calling g' mk As.toArray, t, U', L, hT, X', hL, e1, e2, hq, st⟩
  · dsimp only [Pt.U, Pt.locs, Pt.cells, Pt.slots] at X' e1 e2 h1 h2 h3 st hcl
    subst h1; subst h2; subst h3
    exact Or.inr ⟨q, (T.setVm vm₁).calling g' mk As.toArray, t, U', L, E, ce, hT, X', hL, e1, e2, hq, hce, hcv, vx_cls hW₁ hcl, st⟩
end
end VXH
theorem vx_ofWH {l : Launch} {y : MethodName} {ws ws' : List Cond} {rm : Room} {Pc : Array Value → State → Prop} {Qc : Array Value → State → Outcome → State → Prop} {XC : String → State → State → Prop} {mc ms : Nat} {free : Addr → Prop} {cc : ByteArray} {maxL : Nat} {ret : Option FieldType} {hh : List (Nat × Nat × Nat × Nat)}
    (hy : plainName y.cls = true) (hw : ws = Cond.codeWith y cc maxL ret hh :: ws')
    (body : ∀ p e s m args below meth c s₁, BodyLoose p l y (headSpec ws rm) cc maxL ret e s m args below meth c s₁ → c.maxLocals = maxL → Pc args s →
      W p l e (headSpec ws rm).room s m args below meth c s.heap [] 0 0 (vx_MQ below Qc XC args s mc ms free) (entryFrame m args maxL)) : vx_Met l y ws rm Pc Qc XC mc ms free := by
  refine MetFree.of_bodyS (code := cc) (maxLocals := maxL) (ret := ret) hy ?_ ?_
  · intro args s m h hn
    obtain ⟨m9, meth, c, hn9, h1, h2, h3, h4, -, h5, h6, -⟩ := Cond.codeWith_spec (atoms_spec (ws := ws) h _ (by rw [hw]; exact List.mem_cons_self))
    cases hn.symm.trans hn9
    exact ⟨meth, c, h1, h2, h3, h4, h5, h6⟩
  · intro p e s m args below meth c s₁ B hml hP _
    have hh0 : s₁.heap = s.heap := by rw [B.state]; rfl
    obtain ⟨t, a1, o, b1, b2, b3⟩ := body p e s m args below meth c s₁ B hml hP s₁ hh0 (Stand.of_body B)
    exact ⟨t, o, a1, b1, b2, b3⟩
/-! ===== END ===== -/
end
section
/-! ===== BEGIN printed: names, fields, word lists, decode rows ===== -/
def RX0 : String := "PommelTows$Runs"
def TX0 : u_T := fun k => match k with
  | 0 => ("PommelTows$Runs", "count", "I", false)
  | 1 => ("PommelTows$Runs", "tow", "[I", true)
  | 2 => ("PommelTows$Runs", "slope", "[I", true)
  | 3 => ("PommelTows$Runs", "depth", "[I", true)
  | _ => ("PommelTows$Runs", "skied", "[I", true)
def tyX0 : Nat → FieldType := fun k => match k with
  | 0 => .int
  | 1 => .array .int
  | 2 => .array .int
  | 3 => .array .int
  | _ => .array .int
abbrev wsX00 : List Cond := u_ws RX0 TX0 5
theorem nmX0 : ∀ a, a < 5 → ∀ b, b < 5 → a ≠ b → (TX0 a).2.1 ≠ (TX0 b).2.1 := by decide +kernel
theorem tyX0_ok : ∀ k, k < 5 → parseFieldDescriptor (TX0 k).2.2.1 = some (tyX0 k) := by decide +kernel
abbrev cX0_init : ByteArray := prog_2_method_1_code
def yX0_init : MethodName := ⟨RX0, "<init>", "()V"⟩
abbrev cX0_has : ByteArray := prog_2_method_2_code
def yX0_has : MethodName := ⟨RX0, "has", "(I)Z"⟩
abbrev cX0_isFull : ByteArray := prog_2_method_3_code
def yX0_isFull : MethodName := ⟨RX0, "isFull", "()Z"⟩
abbrev cX0_add : ByteArray := prog_2_method_4_code
def yX0_add : MethodName := ⟨RX0, "add", "(II)I"⟩
abbrev cX0_deepen : ByteArray := prog_2_method_5_code
def yX0_deepen : MethodName := ⟨RX0, "deepen", "(II)V"⟩
abbrev cX0_deepenAll : ByteArray := prog_2_method_6_code
def yX0_deepenAll : MethodName := ⟨RX0, "deepenAll", "(I)V"⟩
abbrev cX0_isOpen : ByteArray := prog_2_method_7_code
def yX0_isOpen : MethodName := ⟨RX0, "isOpen", "(I)Z"⟩
abbrev cX0_steepestOpen : ByteArray := prog_2_method_8_code
def yX0_steepestOpen : MethodName := ⟨RX0, "steepestOpen", "(II)I"⟩
abbrev cX0_flagged : ByteArray := prog_2_method_9_code
def yX0_flagged : MethodName := ⟨RX0, "flagged", "()I"⟩
abbrev cX0_figure : ByteArray := prog_2_method_10_code
def yX0_figure : MethodName := ⟨RX0, "figure", "(II)I"⟩
abbrev cX0_copyFrom : ByteArray := prog_2_method_11_code
def yX0_copyFrom : MethodName := ⟨RX0, "copyFrom", "(LPommelTows$Runs;)V"⟩
def RX1 : String := "PommelTows$Skiers"
def TX1 : u_T := fun k => match k with
  | 0 => ("PommelTows$Skiers", "count", "I", false)
  | 1 => ("PommelTows$Skiers", "skill", "[I", true)
  | 2 => ("PommelTows$Skiers", "coins", "[I", true)
  | 3 => ("PommelTows$Skiers", "wax", "[I", true)
  | 4 => ("PommelTows$Skiers", "layer", "[I", true)
  | 5 => ("PommelTows$Skiers", "points", "[I", true)
  | 6 => ("PommelTows$Skiers", "rides", "[I", true)
  | 7 => ("PommelTows$Skiers", "tow", "[I", true)
  | _ => ("PommelTows$Skiers", "place", "[I", true)
def tyX1 : Nat → FieldType := fun k => match k with
  | 0 => .int
  | 1 => .array .int
  | 2 => .array .int
  | 3 => .array .int
  | 4 => .array .int
  | 5 => .array .int
  | 6 => .array .int
  | 7 => .array .int
  | _ => .array .int
abbrev wsX10 : List Cond := u_ws RX1 TX1 9
theorem nmX1 : ∀ a, a < 9 → ∀ b, b < 9 → a ≠ b → (TX1 a).2.1 ≠ (TX1 b).2.1 := by decide +kernel
theorem tyX1_ok : ∀ k, k < 9 → parseFieldDescriptor (TX1 k).2.2.1 = some (tyX1 k) := by decide +kernel
abbrev cX1_init : ByteArray := prog_3_method_1_code
def yX1_init : MethodName := ⟨RX1, "<init>", "()V"⟩
abbrev cX1_has : ByteArray := prog_3_method_2_code
def yX1_has : MethodName := ⟨RX1, "has", "(I)Z"⟩
abbrev cX1_isFull : ByteArray := prog_3_method_3_code
def yX1_isFull : MethodName := ⟨RX1, "isFull", "()Z"⟩
abbrev cX1_add : ByteArray := prog_3_method_4_code
def yX1_add : MethodName := ⟨RX1, "add", "(II)I"⟩
abbrev cX1_putWaxOn : ByteArray := prog_3_method_5_code
def yX1_putWaxOn : MethodName := ⟨RX1, "putWaxOn", "(II)V"⟩
abbrev cX1_waitingAt : ByteArray := prog_3_method_6_code
def yX1_waitingAt : MethodName := ⟨RX1, "waitingAt", "(I)I"⟩
abbrev cX1_waitingAnywhere : ByteArray := prog_3_method_7_code
def yX1_waitingAnywhere : MethodName := ⟨RX1, "waitingAnywhere", "()I"⟩
abbrev cX1_at : ByteArray := prog_3_method_8_code
def yX1_at : MethodName := ⟨RX1, "at", "(II)I"⟩
abbrev cX1_takeOutOfQueue : ByteArray := prog_3_method_9_code
def yX1_takeOutOfQueue : MethodName := ⟨RX1, "takeOutOfQueue", "(I)V"⟩
abbrev cX1_putAtEnd : ByteArray := prog_3_method_10_code
def yX1_putAtEnd : MethodName := ⟨RX1, "putAtEnd", "(II)V"⟩
abbrev cX1_glide : ByteArray := prog_3_method_11_code
def yX1_glide : MethodName := ⟨RX1, "glide", "(II)I"⟩
abbrev cX1_addPoints : ByteArray := prog_3_method_12_code
def yX1_addPoints : MethodName := ⟨RX1, "addPoints", "(II)V"⟩
abbrev cX1_allPoints : ByteArray := prog_3_method_13_code
def yX1_allPoints : MethodName := ⟨RX1, "allPoints", "()I"⟩
abbrev cX1_figure : ByteArray := prog_3_method_14_code
def yX1_figure : MethodName := ⟨RX1, "figure", "(II)I"⟩
abbrev cX1_copyFrom : ByteArray := prog_3_method_15_code
def yX1_copyFrom : MethodName := ⟨RX1, "copyFrom", "(LPommelTows$Skiers;)V"⟩
def RX2 : String := "PommelTows$Village"
def TX2 : u_T := fun k => match k with
  | 0 => ("PommelTows$Village", "hour", "I", false)
  | 1 => ("PommelTows$Village", "coins", "I", false)
  | 2 => ("PommelTows$Village", "flakes", "[I", true)
  | 3 => ("PommelTows$Village", "pommels", "[I", true)
  | 4 => ("PommelTows$Village", "pulled", "[I", true)
  | 5 => ("PommelTows$Village", "runs", "LPommelTows$Runs;", true)
  | _ => ("PommelTows$Village", "skiers", "LPommelTows$Skiers;", true)
def tyX2 : Nat → FieldType := fun k => match k with
  | 0 => .int
  | 1 => .int
  | 2 => .array .int
  | 3 => .array .int
  | 4 => .array .int
  | 5 => .object "PommelTows$Runs"
  | _ => .object "PommelTows$Skiers"
abbrev wsX20 : List Cond := u_ws RX2 TX2 7
theorem nmX2 : ∀ a, a < 7 → ∀ b, b < 7 → a ≠ b → (TX2 a).2.1 ≠ (TX2 b).2.1 := by decide +kernel
theorem tyX2_ok : ∀ k, k < 7 → parseFieldDescriptor (TX2 k).2.2.1 = some (tyX2 k) := by decide +kernel
abbrev cX2_init : ByteArray := prog_4_method_1_code
def yX2_init : MethodName := ⟨RX2, "<init>", "()V"⟩
abbrev cX2_copyFrom : ByteArray := prog_4_method_2_code
def yX2_copyFrom : MethodName := ⟨RX2, "copyFrom", "(LPommelTows$Village;)V"⟩
abbrev cX2_flakeOfHour : ByteArray := prog_4_method_3_code
def yX2_flakeOfHour : MethodName := ⟨RX2, "flakeOfHour", "()I"⟩
abbrev cX2_chosenRun : ByteArray := prog_4_method_4_code
def yX2_chosenRun : MethodName := ⟨RX2, "chosenRun", "(II)I"⟩
abbrev cX2_letHoursGo : ByteArray := prog_4_method_5_code
def yX2_letHoursGo : MethodName := ⟨RX2, "letHoursGo", "(I)I"⟩
abbrev cX2_pullAt : ByteArray := prog_4_method_6_code
def yX2_pullAt : MethodName := ⟨RX2, "pullAt", "(I)I"⟩
abbrev cX2_skiDown : ByteArray := prog_4_method_7_code
def yX2_skiDown : MethodName := ⟨RX2, "skiDown", "(II)V"⟩
abbrev cX2_allRides : ByteArray := prog_4_method_8_code
def yX2_allRides : MethodName := ⟨RX2, "allRides", "()I"⟩
abbrev cX2_towFigure : ByteArray := prog_4_method_9_code
def yX2_towFigure : MethodName := ⟨RX2, "towFigure", "(II)I"⟩
abbrev cX2_figure : ByteArray := prog_4_method_10_code
def yX2_figure : MethodName := ⟨RX2, "figure", "(I)I"⟩
def RX3 : String := "PommelTows"
def TX3 : u_T := fun k => match k with
  | 0 => ("PommelTows", "now", "LPommelTows$Village;", true)
  | _ => ("PommelTows", "trial", "LPommelTows$Village;", true)
def tyX3 : Nat → FieldType := fun k => match k with
  | 0 => .object "PommelTows$Village"
  | _ => .object "PommelTows$Village"
abbrev wsX30 : List Cond := u_ws RX3 TX3 2
theorem nmX3 : ∀ a, a < 2 → ∀ b, b < 2 → a ≠ b → (TX3 a).2.1 ≠ (TX3 b).2.1 := by decide +kernel
theorem tyX3_ok : ∀ k, k < 2 → parseFieldDescriptor (TX3 k).2.2.1 = some (tyX3 k) := by decide +kernel
abbrev cX3_init : ByteArray := prog_1_method_1_code
def yX3_init : MethodName := ⟨RX3, "<init>", "()V"⟩
abbrev cX3_run : ByteArray := prog_1_method_2_code
def yX3_run : MethodName := ⟨RX3, "run", "(II)I"⟩
abbrev cX3_setPommels : ByteArray := prog_1_method_3_code
def yX3_setPommels : MethodName := ⟨RX3, "setPommels", "(II)I"⟩
abbrev cX3_setFlake : ByteArray := prog_1_method_4_code
def yX3_setFlake : MethodName := ⟨RX3, "setFlake", "(II)I"⟩
abbrev cX3_skier : ByteArray := prog_1_method_7_code
def yX3_skier : MethodName := ⟨RX3, "skier", "(II)I"⟩
abbrev cX3_wax : ByteArray := prog_1_method_8_code
def yX3_wax : MethodName := ⟨RX3, "wax", "(II)I"⟩
abbrev cX3_join : ByteArray := prog_1_method_9_code
def yX3_join : MethodName := ⟨RX3, "join", "(II)I"⟩
abbrev cX3_leave : ByteArray := prog_1_method_10_code
def yX3_leave : MethodName := ⟨RX3, "leave", "(I)Z"⟩
abbrev cX3_about : ByteArray := prog_1_method_11_code
def yX3_about : MethodName := ⟨RX3, "about", "(II)I"⟩
abbrev cX3_told : ByteArray := prog_1_method_12_code
def yX3_told : MethodName := ⟨RX3, "told", "(II)I"⟩
abbrev cX3_tow : ByteArray := prog_1_method_13_code
def yX3_tow : MethodName := ⟨RX3, "tow", "(II)I"⟩
abbrev cX3_stands : ByteArray := prog_1_method_14_code
def yX3_stands : MethodName := ⟨RX3, "stands", "(II)I"⟩
abbrev cX3_count : ByteArray := prog_1_method_16_code
def yX3_count : MethodName := ⟨RX3, "count", "(I)I"⟩
abbrev cX3_pass : ByteArray := prog_1_method_17_code
def yX3_pass : MethodName := ⟨RX3, "pass", "(I)I"⟩
abbrev cX3_until : ByteArray := prog_1_method_18_code
def yX3_until : MethodName := ⟨RX3, "until", "(I)I"⟩
abbrev cX3_foresee : ByteArray := prog_1_method_19_code
def yX3_foresee : MethodName := ⟨RX3, "foresee", "(II)I"⟩
abbrev cX3_mean : ByteArray := prog_1_method_21_code
def yX3_mean : MethodName := ⟨RX3, "mean", "()D"⟩
abbrev cX3_digest : ByteArray := prog_1_method_22_code
def yX3_digest : MethodName := ⟨RX3, "digest", "()J"⟩
abbrev cX3_mixed : ByteArray := prog_1_method_23_code
def yX3_mixed : MethodName := ⟨RX3, "mixed", "(JI)J"⟩
abbrev cX3_isWithin : ByteArray := prog_1_method_24_code
def yX3_isWithin : MethodName := ⟨RX3, "isWithin", "(III)Z"⟩
abbrev cX3_held : ByteArray := prog_1_method_25_code
def yX3_held : MethodName := ⟨RX3, "held", "(III)I"⟩
abbrev cX3_copyRow : ByteArray := prog_1_method_26_code
def yX3_copyRow : MethodName := ⟨RX3, "copyRow", "([I[I)V"⟩
abbrev cX3_snowOf : ByteArray := prog_1_method_27_code
def yX3_snowOf : MethodName := ⟨RX3, "snowOf", "(I)I"⟩
def RX4 : String := "PommelTowsModel$State"
def TX4 : u_T := fun k => match k with
  | _ => ("", "", "", false)
def tyX4 : Nat → FieldType := fun k => match k with
  | _ => .int
abbrev wsX40 : List Cond := u_ws RX4 TX4 0
theorem nmX4 : ∀ a, a < 0 → ∀ b, b < 0 → a ≠ b → (TX4 a).2.1 ≠ (TX4 b).2.1 := by decide +kernel
theorem tyX4_ok : ∀ k, k < 0 → parseFieldDescriptor (TX4 k).2.2.1 = some (tyX4 k) := by decide +kernel
def RX5 : String := "PommelTowsModel"
def TX5 : u_T := fun k => match k with
  | _ => ("", "", "", false)
def tyX5 : Nat → FieldType := fun k => match k with
  | _ => .int
abbrev wsX50 : List Cond := u_ws RX5 TX5 0
theorem nmX5 : ∀ a, a < 0 → ∀ b, b < 0 → a ≠ b → (TX5 a).2.1 ≠ (TX5 b).2.1 := by decide +kernel
theorem tyX5_ok : ∀ k, k < 0 → parseFieldDescriptor (TX5 k).2.2.1 = some (tyX5 k) := by decide +kernel
def RJ6 : String := "java/lang/Integer"
def TJ6 : u_T := fun k => match k with
  | _ => ("", "", "", false)
def tyJ6 : Nat → FieldType := fun k => match k with
  | _ => .int
abbrev wsJ60 : List Cond := u_ws RJ6 TJ6 0
theorem nmJ6 : ∀ a, a < 0 → ∀ b, b < 0 → a ≠ b → (TJ6 a).2.1 ≠ (TJ6 b).2.1 := by decide +kernel
theorem tyJ6_ok : ∀ k, k < 0 → parseFieldDescriptor (TJ6 k).2.2.1 = some (tyJ6 k) := by decide +kernel
abbrev cJ6_bitCount_0f7a4 : ByteArray := prog_12_method_49_code
def yJ6_bitCount_0f7a4 : MethodName := ⟨RJ6, "bitCount", "(I)I"⟩
def RJ9 : String := "java/lang/Math"
def TJ9 : u_T := fun k => match k with
  | _ => ("", "", "", false)
def tyJ9 : Nat → FieldType := fun k => match k with
  | _ => .int
abbrev wsJ90 : List Cond := u_ws RJ9 TJ9 0
theorem nmJ9 : ∀ a, a < 0 → ∀ b, b < 0 → a ≠ b → (TJ9 a).2.1 ≠ (TJ9 b).2.1 := by decide +kernel
theorem tyJ9_ok : ∀ k, k < 0 → parseFieldDescriptor (TJ9 k).2.2.1 = some (tyJ9 k) := by decide +kernel
abbrev cJ9_floorMod_7cf53 : ByteArray := prog_13_method_50_code
def yJ9_floorMod_7cf53 : MethodName := ⟨RJ9, "floorMod", "(II)I"⟩
abbrev cJ9_abs_0f7a4 : ByteArray := prog_13_method_59_code
def yJ9_abs_0f7a4 : MethodName := ⟨RJ9, "abs", "(I)I"⟩
abbrev cJ9_max_7cf53 : ByteArray := prog_13_method_65_code
def yJ9_max_7cf53 : MethodName := ⟨RJ9, "max", "(II)I"⟩
abbrev cJ9_min_7cf53 : ByteArray := prog_13_method_69_code
def yJ9_min_7cf53 : MethodName := ⟨RJ9, "min", "(II)I"⟩
def RJ0 : String := "java/lang/String"
def TJ0 : u_T := fun k => match k with
  | _ => ("", "", "", false)
def tyJ0 : Nat → FieldType := fun k => match k with
  | _ => .int
abbrev wsJ00 : List Cond := u_ws RJ0 TJ0 0
theorem nmJ0 : ∀ a, a < 0 → ∀ b, b < 0 → a ≠ b → (TJ0 a).2.1 ≠ (TJ0 b).2.1 := by decide +kernel
theorem tyJ0_ok : ∀ k, k < 0 → parseFieldDescriptor (TJ0 k).2.2.1 = some (tyJ0 k) := by decide +kernel
def RJ10 : String := "java/lang/System"
def TJ10 : u_T := fun k => match k with
  | _ => ("", "", "", false)
def tyJ10 : Nat → FieldType := fun k => match k with
  | _ => .int
abbrev wsJ100 : List Cond := u_ws RJ10 TJ10 0
theorem nmJ10 : ∀ a, a < 0 → ∀ b, b < 0 → a ≠ b → (TJ10 a).2.1 ≠ (TJ10 b).2.1 := by decide +kernel
theorem tyJ10_ok : ∀ k, k < 0 → parseFieldDescriptor (TJ10 k).2.2.1 = some (tyJ10 k) := by decide +kernel
def RL : String := "PommelTowsLaw"
abbrev cL_below : ByteArray := method_2_code
def yL_below : MethodName := ⟨RL, "below", "(II)I"⟩
abbrev cL_cell : ByteArray := method_3_code
def yL_cell : MethodName := ⟨RL, "cell", "([II)I"⟩
abbrev cL_flakeOf : ByteArray := method_4_code
def yL_flakeOf : MethodName := ⟨RL, "flakeOf", "([II)I"⟩
abbrev cL_pommelsOf : ByteArray := method_5_code
def yL_pommelsOf : MethodName := ⟨RL, "pommelsOf", "([II)I"⟩
abbrev cL_towOf : ByteArray := method_6_code
def yL_towOf : MethodName := ⟨RL, "towOf", "([II)I"⟩
abbrev cL_slopeOf : ByteArray := method_7_code
def yL_slopeOf : MethodName := ⟨RL, "slopeOf", "([II)I"⟩
abbrev cL_skillOf : ByteArray := method_8_code
def yL_skillOf : MethodName := ⟨RL, "skillOf", "([II)I"⟩
abbrev cL_coinsOf : ByteArray := method_9_code
def yL_coinsOf : MethodName := ⟨RL, "coinsOf", "([II)I"⟩
abbrev cL_waxOf : ByteArray := method_10_code
def yL_waxOf : MethodName := ⟨RL, "waxOf", "([II)I"⟩
abbrev cL_standsOf : ByteArray := method_11_code
def yL_standsOf : MethodName := ⟨RL, "standsOf", "([II)I"⟩
abbrev cL_village : ByteArray := method_12_code
def yL_village : MethodName := ⟨RL, "village", "([I)LPommelTows;"⟩
abbrev cL_law : ByteArray := code
def yL_law : MethodName := ⟨RL, "law", "([I)Z"⟩
def wsX0_init : List Cond := .code yX0_init cX0_init 1 none :: ([.methodLink RX0 3 objectInit, .instanceMethod objectInit, .code objectInit ⟨#[0xb1]⟩ 1 none, .fieldLink RX0 9 "PommelTows$Runs" "count" "I", .arrayClass .int, .fieldLink RX0 15 "PommelTows$Runs" "tow" "[I", .fieldLink RX0 19 "PommelTows$Runs" "slope" "[I", .fieldLink RX0 22 "PommelTows$Runs" "depth" "[I", .fieldLink RX0 25 "PommelTows$Runs" "skied" "[I"] ++ wsX00)
def wsX0_has : List Cond := .code yX0_has cX0_has 2 (some .boolean) :: ([.fieldLink RX0 9 "PommelTows$Runs" "count" "I"] ++ wsX00)
def wsX0_isFull : List Cond := .code yX0_isFull cX0_isFull 1 (some .boolean) :: ([.fieldLink RX0 9 "PommelTows$Runs" "count" "I"] ++ wsX00)
def wsX0_add : List Cond := .code yX0_add cX0_add 4 (some .int) :: ([.fieldLink RX0 9 "PommelTows$Runs" "count" "I", .fieldLink RX0 15 "PommelTows$Runs" "tow" "[I", .fieldLink RX0 19 "PommelTows$Runs" "slope" "[I", .fieldLink RX0 22 "PommelTows$Runs" "depth" "[I"] ++ wsX00)
def wsX3_held : List Cond := .code yX3_held cX3_held 3 (some .int) :: ([.methodLink RX3 194 Lib.Math.min.name, .static Lib.Math.min.name, .initialized "java/lang/Math", .code Lib.Math.min.name Lib.Math.min.code 2 (some .int), .methodLink RX3 199 Lib.Math.max.name, .static Lib.Math.max.name, .code Lib.Math.max.name Lib.Math.max.code 2 (some .int)])
def wsX0_deepen : List Cond := .code yX0_deepen cX0_deepen 3 none :: ([.fieldLink RX0 22 "PommelTows$Runs" "depth" "[I", .static yX3_held, .initialized RX3, .code yX3_held cX3_held 3 (some .int), .methodLink RX3 194 Lib.Math.min.name, .static Lib.Math.min.name, .initialized "java/lang/Math", .code Lib.Math.min.name Lib.Math.min.code 2 (some .int), .methodLink RX3 199 Lib.Math.max.name, .static Lib.Math.max.name, .code Lib.Math.max.name Lib.Math.max.code 2 (some .int)] ++ wsX00)
def wsX0_deepenAll : List Cond := .code yX0_deepenAll cX0_deepenAll 3 none :: ([.fieldLink RX0 9 "PommelTows$Runs" "count" "I", .methodLink RX0 32 yX0_deepen, .instanceMethod yX0_deepen, .selects RX0 yX0_deepen yX0_deepen, .initialized RX0, .code yX0_deepen cX0_deepen 3 none, .fieldLink RX0 22 "PommelTows$Runs" "depth" "[I", .static yX3_held, .initialized RX3, .code yX3_held cX3_held 3 (some .int), .methodLink RX3 194 Lib.Math.min.name, .static Lib.Math.min.name, .initialized "java/lang/Math", .code Lib.Math.min.name Lib.Math.min.code 2 (some .int), .methodLink RX3 199 Lib.Math.max.name, .static Lib.Math.max.name, .code Lib.Math.max.name Lib.Math.max.code 2 (some .int)] ++ wsX00)
def wsX0_isOpen : List Cond := .code yX0_isOpen cX0_isOpen 2 (some .boolean) :: ([.fieldLink RX0 22 "PommelTows$Runs" "depth" "[I", .fieldLink RX0 19 "PommelTows$Runs" "slope" "[I"] ++ wsX00)
def wsX0_steepestOpen : List Cond := .code yX0_steepestOpen cX0_steepestOpen 7 (some .int) :: ([.fieldLink RX0 9 "PommelTows$Runs" "count" "I", .fieldLink RX0 15 "PommelTows$Runs" "tow" "[I", .fieldLink RX0 19 "PommelTows$Runs" "slope" "[I", .methodLink RX0 36 yX0_isOpen, .instanceMethod yX0_isOpen, .selects RX0 yX0_isOpen yX0_isOpen, .initialized RX0, .code yX0_isOpen cX0_isOpen 2 (some .boolean), .fieldLink RX0 22 "PommelTows$Runs" "depth" "[I"] ++ wsX00)
def wsX0_flagged : List Cond := .code yX0_flagged cX0_flagged 3 (some .int) :: ([.fieldLink RX0 9 "PommelTows$Runs" "count" "I", .methodLink RX0 36 yX0_isOpen, .instanceMethod yX0_isOpen, .selects RX0 yX0_isOpen yX0_isOpen, .initialized RX0, .code yX0_isOpen cX0_isOpen 2 (some .boolean), .fieldLink RX0 22 "PommelTows$Runs" "depth" "[I", .fieldLink RX0 19 "PommelTows$Runs" "slope" "[I"] ++ wsX00)
def wsX0_figure : List Cond := .code yX0_figure cX0_figure 3 (some .int) :: ([.fieldLink RX0 15 "PommelTows$Runs" "tow" "[I", .fieldLink RX0 19 "PommelTows$Runs" "slope" "[I", .fieldLink RX0 22 "PommelTows$Runs" "depth" "[I", .fieldLink RX0 25 "PommelTows$Runs" "skied" "[I", .methodLink RX0 36 yX0_isOpen, .instanceMethod yX0_isOpen, .selects RX0 yX0_isOpen yX0_isOpen, .initialized RX0, .code yX0_isOpen cX0_isOpen 2 (some .boolean)] ++ wsX00)
def wsX3_copyRow : List Cond := .code yX3_copyRow cX3_copyRow 2 none :: ([.methodLink RX3 194 Lib.Math.min.name, .static Lib.Math.min.name, .initialized "java/lang/Math", .code Lib.Math.min.name Lib.Math.min.code 2 (some .int), .methodLink RX3 202 arraycopyName, .native arraycopyName, .static arraycopyName, .initialized "java/lang/System"])
def wsX0_copyFrom : List Cond := .code yX0_copyFrom cX0_copyFrom 2 none :: ([.fieldLink RX0 9 "PommelTows$Runs" "count" "I", .fieldLink RX0 15 "PommelTows$Runs" "tow" "[I", .fieldLink RX0 19 "PommelTows$Runs" "slope" "[I", .fieldLink RX0 22 "PommelTows$Runs" "depth" "[I", .fieldLink RX0 25 "PommelTows$Runs" "skied" "[I", .static yX3_copyRow, .initialized RX3, .code yX3_copyRow cX3_copyRow 2 none, .methodLink RX3 194 Lib.Math.min.name, .static Lib.Math.min.name, .initialized "java/lang/Math", .code Lib.Math.min.name Lib.Math.min.code 2 (some .int), .methodLink RX3 202 arraycopyName, .native arraycopyName, .static arraycopyName, .initialized "java/lang/System"] ++ wsX00)
def wsX1_init : List Cond := .code yX1_init cX1_init 1 none :: ([.methodLink RX1 3 objectInit, .instanceMethod objectInit, .code objectInit ⟨#[0xb1]⟩ 1 none, .fieldLink RX1 9 "PommelTows$Skiers" "count" "I", .arrayClass .int, .fieldLink RX1 15 "PommelTows$Skiers" "skill" "[I", .fieldLink RX1 19 "PommelTows$Skiers" "coins" "[I", .fieldLink RX1 22 "PommelTows$Skiers" "wax" "[I", .fieldLink RX1 25 "PommelTows$Skiers" "layer" "[I", .fieldLink RX1 28 "PommelTows$Skiers" "points" "[I", .fieldLink RX1 31 "PommelTows$Skiers" "rides" "[I", .fieldLink RX1 34 "PommelTows$Skiers" "tow" "[I", .fieldLink RX1 37 "PommelTows$Skiers" "place" "[I"] ++ wsX10)
def wsX1_has : List Cond := .code yX1_has cX1_has 2 (some .boolean) :: ([.fieldLink RX1 9 "PommelTows$Skiers" "count" "I"] ++ wsX10)
def wsX1_isFull : List Cond := .code yX1_isFull cX1_isFull 1 (some .boolean) :: ([.fieldLink RX1 9 "PommelTows$Skiers" "count" "I"] ++ wsX10)
def wsX1_add : List Cond := .code yX1_add cX1_add 4 (some .int) :: ([.fieldLink RX1 9 "PommelTows$Skiers" "count" "I", .fieldLink RX1 15 "PommelTows$Skiers" "skill" "[I", .fieldLink RX1 19 "PommelTows$Skiers" "coins" "[I", .fieldLink RX1 34 "PommelTows$Skiers" "tow" "[I"] ++ wsX10)
def wsX1_putWaxOn : List Cond := .code yX1_putWaxOn cX1_putWaxOn 3 none :: ([.fieldLink RX1 22 "PommelTows$Skiers" "wax" "[I", .fieldLink RX1 25 "PommelTows$Skiers" "layer" "[I"] ++ wsX10)
def wsX1_waitingAt : List Cond := .code yX1_waitingAt cX1_waitingAt 4 (some .int) :: ([.fieldLink RX1 9 "PommelTows$Skiers" "count" "I", .fieldLink RX1 34 "PommelTows$Skiers" "tow" "[I"] ++ wsX10)
def wsX1_waitingAnywhere : List Cond := .code yX1_waitingAnywhere cX1_waitingAnywhere 3 (some .int) :: ([.fieldLink RX1 9 "PommelTows$Skiers" "count" "I", .fieldLink RX1 34 "PommelTows$Skiers" "tow" "[I"] ++ wsX10)
def wsX1_at : List Cond := .code yX1_at cX1_at 4 (some .int) :: ([.fieldLink RX1 9 "PommelTows$Skiers" "count" "I", .fieldLink RX1 34 "PommelTows$Skiers" "tow" "[I", .fieldLink RX1 37 "PommelTows$Skiers" "place" "[I"] ++ wsX10)
def wsX1_takeOutOfQueue : List Cond := .code yX1_takeOutOfQueue cX1_takeOutOfQueue 5 none :: ([.fieldLink RX1 34 "PommelTows$Skiers" "tow" "[I", .fieldLink RX1 37 "PommelTows$Skiers" "place" "[I", .fieldLink RX1 9 "PommelTows$Skiers" "count" "I"] ++ wsX10)
def wsX1_putAtEnd : List Cond := .code yX1_putAtEnd cX1_putAtEnd 4 none :: ([.fieldLink RX1 34 "PommelTows$Skiers" "tow" "[I", .fieldLink RX1 37 "PommelTows$Skiers" "place" "[I", .methodLink RX1 40 yX1_waitingAt, .instanceMethod yX1_waitingAt, .selects RX1 yX1_waitingAt yX1_waitingAt, .initialized RX1, .code yX1_waitingAt cX1_waitingAt 4 (some .int), .fieldLink RX1 9 "PommelTows$Skiers" "count" "I"] ++ wsX10)
def wsX1_glide : List Cond := .code yX1_glide cX1_glide 3 (some .int) :: ([.fieldLink RX1 25 "PommelTows$Skiers" "layer" "[I", .fieldLink RX1 22 "PommelTows$Skiers" "wax" "[I", .methodLink RX1 44 Lib.Math.abs.name, .static Lib.Math.abs.name, .initialized "java/lang/Math", .code Lib.Math.abs.name Lib.Math.abs.code 1 (some .int)] ++ wsX10)
def wsX1_addPoints : List Cond := .code yX1_addPoints cX1_addPoints 3 none :: ([.fieldLink RX1 28 "PommelTows$Skiers" "points" "[I", .static yX3_held, .initialized RX3, .code yX3_held cX3_held 3 (some .int), .methodLink RX3 194 Lib.Math.min.name, .static Lib.Math.min.name, .initialized "java/lang/Math", .code Lib.Math.min.name Lib.Math.min.code 2 (some .int), .methodLink RX3 199 Lib.Math.max.name, .static Lib.Math.max.name, .code Lib.Math.max.name Lib.Math.max.code 2 (some .int)] ++ wsX10)
def wsX1_allPoints : List Cond := .code yX1_allPoints cX1_allPoints 3 (some .int) :: ([.fieldLink RX1 9 "PommelTows$Skiers" "count" "I", .fieldLink RX1 28 "PommelTows$Skiers" "points" "[I"] ++ wsX10)
def wsX1_figure : List Cond := .code yX1_figure cX1_figure 3 (some .int) :: ([.fieldLink RX1 15 "PommelTows$Skiers" "skill" "[I", .fieldLink RX1 19 "PommelTows$Skiers" "coins" "[I", .fieldLink RX1 25 "PommelTows$Skiers" "layer" "[I", .fieldLink RX1 22 "PommelTows$Skiers" "wax" "[I", .fieldLink RX1 28 "PommelTows$Skiers" "points" "[I", .fieldLink RX1 31 "PommelTows$Skiers" "rides" "[I", .fieldLink RX1 34 "PommelTows$Skiers" "tow" "[I"] ++ wsX10)
def wsX1_copyFrom : List Cond := .code yX1_copyFrom cX1_copyFrom 2 none :: ([.fieldLink RX1 9 "PommelTows$Skiers" "count" "I", .fieldLink RX1 15 "PommelTows$Skiers" "skill" "[I", .fieldLink RX1 19 "PommelTows$Skiers" "coins" "[I", .fieldLink RX1 22 "PommelTows$Skiers" "wax" "[I", .fieldLink RX1 25 "PommelTows$Skiers" "layer" "[I", .fieldLink RX1 28 "PommelTows$Skiers" "points" "[I", .fieldLink RX1 31 "PommelTows$Skiers" "rides" "[I", .fieldLink RX1 34 "PommelTows$Skiers" "tow" "[I", .fieldLink RX1 37 "PommelTows$Skiers" "place" "[I", .static yX3_copyRow, .initialized RX3, .code yX3_copyRow cX3_copyRow 2 none, .methodLink RX3 194 Lib.Math.min.name, .static Lib.Math.min.name, .initialized "java/lang/Math", .code Lib.Math.min.name Lib.Math.min.code 2 (some .int), .methodLink RX3 202 arraycopyName, .native arraycopyName, .static arraycopyName, .initialized "java/lang/System"] ++ wsX10)
def wsX2_init_r1 : List Cond := [Cond.methodLink RX2 3 objectInit, Cond.instanceMethod objectInit, Cond.code objectInit ⟨#[0xb1]⟩ 1 none, Cond.fieldLink RX2 9 "PommelTows$Village" "hour" "I", Cond.fieldLink RX2 15 "PommelTows$Village" "coins" "I", Cond.arrayClass .int, Cond.fieldLink RX2 18 "PommelTows$Village" "flakes" "[I", Cond.fieldLink RX2 22 "PommelTows$Village" "pommels" "[I", Cond.fieldLink RX2 25 "PommelTows$Village" "pulled" "[I", Cond.classLink RX2 28 RX0, Cond.instantiable RX0 5, Cond.initialized RX0, Cond.fieldLink RX2 31 "PommelTows$Village" "runs" "LPommelTows$Runs;", Cond.classLink RX2 35 RX1, Cond.instantiable RX1 9, Cond.initialized RX1, Cond.fieldLink RX2 38 "PommelTows$Village" "skiers" "LPommelTows$Skiers;", Cond.instanceMethod yX0_init, Cond.code yX0_init cX0_init 1 none, Cond.methodLink RX0 3 objectInit, Cond.fieldLink RX0 9 "PommelTows$Runs" "count" "I", Cond.fieldLink RX0 15 "PommelTows$Runs" "tow" "[I", Cond.fieldLink RX0 19 "PommelTows$Runs" "slope" "[I", Cond.fieldLink RX0 22 "PommelTows$Runs" "depth" "[I"]
def wsX2_init_r2 : List Cond := [Cond.fieldLink RX0 25 "PommelTows$Runs" "skied" "[I", Cond.instanceMethod yX1_init, Cond.code yX1_init cX1_init 1 none, Cond.methodLink RX1 3 objectInit, Cond.fieldLink RX1 9 "PommelTows$Skiers" "count" "I", Cond.fieldLink RX1 15 "PommelTows$Skiers" "skill" "[I", Cond.fieldLink RX1 19 "PommelTows$Skiers" "coins" "[I", Cond.fieldLink RX1 22 "PommelTows$Skiers" "wax" "[I", Cond.fieldLink RX1 25 "PommelTows$Skiers" "layer" "[I", Cond.fieldLink RX1 28 "PommelTows$Skiers" "points" "[I", Cond.fieldLink RX1 31 "PommelTows$Skiers" "rides" "[I", Cond.fieldLink RX1 34 "PommelTows$Skiers" "tow" "[I", Cond.fieldLink RX1 37 "PommelTows$Skiers" "place" "[I"]
def wsX2_init : List Cond := .code yX2_init cX2_init 2 none :: ((wsX2_init_r1 ++ wsX2_init_r2) ++ wsX20 ++ wsX00 ++ wsX10)
def wsX2_copyFrom_r1 : List Cond := [Cond.fieldLink RX2 9 "PommelTows$Village" "hour" "I", Cond.fieldLink RX2 15 "PommelTows$Village" "coins" "I", Cond.fieldLink RX2 18 "PommelTows$Village" "flakes" "[I", Cond.fieldLink RX2 22 "PommelTows$Village" "pommels" "[I", Cond.fieldLink RX2 25 "PommelTows$Village" "pulled" "[I", Cond.fieldLink RX2 31 "PommelTows$Village" "runs" "LPommelTows$Runs;", Cond.fieldLink RX2 38 "PommelTows$Village" "skiers" "LPommelTows$Skiers;", Cond.static yX3_copyRow, Cond.initialized RX3, Cond.code yX3_copyRow cX3_copyRow 2 none, Cond.methodLink RX3 194 Lib.Math.min.name, Cond.static Lib.Math.min.name, Cond.initialized "java/lang/Math", Cond.code Lib.Math.min.name Lib.Math.min.code 2 (some .int), Cond.methodLink RX3 202 arraycopyName, Cond.native arraycopyName, Cond.static arraycopyName, Cond.initialized "java/lang/System", Cond.methodLink RX2 46 yX0_copyFrom, Cond.instanceMethod yX0_copyFrom, Cond.selects RX0 yX0_copyFrom yX0_copyFrom, Cond.initialized RX0, Cond.code yX0_copyFrom cX0_copyFrom 2 none, Cond.fieldLink RX0 9 "PommelTows$Runs" "count" "I"]
def wsX2_copyFrom_r2 : List Cond := [Cond.fieldLink RX0 15 "PommelTows$Runs" "tow" "[I", Cond.fieldLink RX0 19 "PommelTows$Runs" "slope" "[I", Cond.fieldLink RX0 22 "PommelTows$Runs" "depth" "[I", Cond.fieldLink RX0 25 "PommelTows$Runs" "skied" "[I", Cond.methodLink RX2 50 yX1_copyFrom, Cond.instanceMethod yX1_copyFrom, Cond.selects RX1 yX1_copyFrom yX1_copyFrom, Cond.initialized RX1, Cond.code yX1_copyFrom cX1_copyFrom 2 none, Cond.fieldLink RX1 9 "PommelTows$Skiers" "count" "I", Cond.fieldLink RX1 15 "PommelTows$Skiers" "skill" "[I", Cond.fieldLink RX1 19 "PommelTows$Skiers" "coins" "[I", Cond.fieldLink RX1 22 "PommelTows$Skiers" "wax" "[I", Cond.fieldLink RX1 25 "PommelTows$Skiers" "layer" "[I", Cond.fieldLink RX1 28 "PommelTows$Skiers" "points" "[I", Cond.fieldLink RX1 31 "PommelTows$Skiers" "rides" "[I", Cond.fieldLink RX1 34 "PommelTows$Skiers" "tow" "[I", Cond.fieldLink RX1 37 "PommelTows$Skiers" "place" "[I"]
def wsX2_copyFrom : List Cond := .code yX2_copyFrom cX2_copyFrom 2 none :: ((wsX2_copyFrom_r1 ++ wsX2_copyFrom_r2) ++ wsX20 ++ wsX00 ++ wsX10)
def wsJ9_floorMod_7cf53 : List Cond := .code yJ9_floorMod_7cf53 cJ9_floorMod_7cf53 3 (some .int) :: ([])
def wsX2_flakeOfHour : List Cond := .code yX2_flakeOfHour cX2_flakeOfHour 1 (some .int) :: ([.fieldLink RX2 18 "PommelTows$Village" "flakes" "[I", .fieldLink RX2 9 "PommelTows$Village" "hour" "I", .methodLink RX2 53 yJ9_floorMod_7cf53, .static yJ9_floorMod_7cf53, .initialized RJ9, .code yJ9_floorMod_7cf53 cJ9_floorMod_7cf53 3 (some .int)] ++ wsX20)
def wsX2_chosenRun : List Cond := .code yX2_chosenRun cX2_chosenRun 3 (some .int) :: ([.fieldLink RX2 31 "PommelTows$Village" "runs" "LPommelTows$Runs;", .fieldLink RX2 38 "PommelTows$Village" "skiers" "LPommelTows$Skiers;", .fieldLink RX2 59 "PommelTows$Skiers" "skill" "[I", .methodLink RX2 62 yX0_steepestOpen, .instanceMethod yX0_steepestOpen, .selects RX0 yX0_steepestOpen yX0_steepestOpen, .initialized RX0, .code yX0_steepestOpen cX0_steepestOpen 7 (some .int), .fieldLink RX0 9 "PommelTows$Runs" "count" "I", .fieldLink RX0 15 "PommelTows$Runs" "tow" "[I", .fieldLink RX0 19 "PommelTows$Runs" "slope" "[I", .methodLink RX0 36 yX0_isOpen, .instanceMethod yX0_isOpen, .selects RX0 yX0_isOpen yX0_isOpen, .code yX0_isOpen cX0_isOpen 2 (some .boolean), .fieldLink RX0 22 "PommelTows$Runs" "depth" "[I"] ++ wsX20 ++ wsX10 ++ wsX00)
def wsX3_snowOf : List Cond := .code yX3_snowOf cX3_snowOf 1 (some .int) :: ([])
def wsX2_skiDown_r1 : List Cond := [Cond.fieldLink RX2 31 "PommelTows$Village" "runs" "LPommelTows$Runs;", Cond.fieldLink RX2 38 "PommelTows$Village" "skiers" "LPommelTows$Skiers;", Cond.fieldLink RX2 112 "PommelTows$Runs" "slope" "[I", Cond.fieldLink RX2 59 "PommelTows$Skiers" "skill" "[I", Cond.fieldLink RX2 121 "PommelTows$Runs" "skied" "[I", Cond.methodLink RX2 105 yX2_chosenRun, Cond.instanceMethod yX2_chosenRun, Cond.selects RX2 yX2_chosenRun yX2_chosenRun, Cond.initialized RX2, Cond.code yX2_chosenRun cX2_chosenRun 3 (some .int), Cond.methodLink RX2 62 yX0_steepestOpen, Cond.instanceMethod yX0_steepestOpen, Cond.selects RX0 yX0_steepestOpen yX0_steepestOpen, Cond.initialized RX0, Cond.code yX0_steepestOpen cX0_steepestOpen 7 (some .int), Cond.fieldLink RX0 9 "PommelTows$Runs" "count" "I", Cond.fieldLink RX0 15 "PommelTows$Runs" "tow" "[I", Cond.fieldLink RX0 19 "PommelTows$Runs" "slope" "[I", Cond.methodLink RX0 36 yX0_isOpen, Cond.instanceMethod yX0_isOpen, Cond.selects RX0 yX0_isOpen yX0_isOpen, Cond.code yX0_isOpen cX0_isOpen 2 (some .boolean), Cond.fieldLink RX0 22 "PommelTows$Runs" "depth" "[I", Cond.methodLink RX2 108 yX0_has]
def wsX2_skiDown_r2 : List Cond := [Cond.instanceMethod yX0_has, Cond.selects RX0 yX0_has yX0_has, Cond.code yX0_has cX0_has 2 (some .boolean), Cond.methodLink RX2 65 yX2_flakeOfHour, Cond.instanceMethod yX2_flakeOfHour, Cond.selects RX2 yX2_flakeOfHour yX2_flakeOfHour, Cond.code yX2_flakeOfHour cX2_flakeOfHour 1 (some .int), Cond.fieldLink RX2 18 "PommelTows$Village" "flakes" "[I", Cond.fieldLink RX2 9 "PommelTows$Village" "hour" "I", Cond.methodLink RX2 53 yJ9_floorMod_7cf53, Cond.static yJ9_floorMod_7cf53, Cond.initialized RJ9, Cond.code yJ9_floorMod_7cf53 cJ9_floorMod_7cf53 3 (some .int), Cond.methodLink RX2 109 yX1_glide, Cond.instanceMethod yX1_glide, Cond.selects RX1 yX1_glide yX1_glide, Cond.initialized RX1, Cond.code yX1_glide cX1_glide 3 (some .int), Cond.fieldLink RX1 25 "PommelTows$Skiers" "layer" "[I", Cond.fieldLink RX1 22 "PommelTows$Skiers" "wax" "[I", Cond.methodLink RX1 44 Lib.Math.abs.name, Cond.static Lib.Math.abs.name, Cond.initialized "java/lang/Math", Cond.code Lib.Math.abs.name Lib.Math.abs.code 1 (some .int)]
def wsX2_skiDown_r3 : List Cond := [Cond.methodLink RX2 115 yX1_addPoints, Cond.instanceMethod yX1_addPoints, Cond.selects RX1 yX1_addPoints yX1_addPoints, Cond.code yX1_addPoints cX1_addPoints 3 none, Cond.fieldLink RX1 28 "PommelTows$Skiers" "points" "[I", Cond.static yX3_held, Cond.initialized RX3, Cond.code yX3_held cX3_held 3 (some .int), Cond.methodLink RX3 194 Lib.Math.min.name, Cond.static Lib.Math.min.name, Cond.code Lib.Math.min.name Lib.Math.min.code 2 (some .int), Cond.methodLink RX3 199 Lib.Math.max.name, Cond.static Lib.Math.max.name, Cond.code Lib.Math.max.name Lib.Math.max.code 2 (some .int), Cond.methodLink RX2 118 yX0_deepen, Cond.instanceMethod yX0_deepen, Cond.selects RX0 yX0_deepen yX0_deepen, Cond.code yX0_deepen cX0_deepen 3 none]
def wsX2_skiDown : List Cond := .code yX2_skiDown cX2_skiDown 5 none :: ((wsX2_skiDown_r1 ++ (wsX2_skiDown_r2 ++ wsX2_skiDown_r3)) ++ wsX20 ++ wsX00 ++ wsX10)
def wsX2_pullAt_r1 : List Cond := [Cond.fieldLink RX2 38 "PommelTows$Village" "skiers" "LPommelTows$Skiers;", Cond.fieldLink RX2 22 "PommelTows$Village" "pommels" "[I", Cond.fieldLink RX2 93 "PommelTows$Skiers" "coins" "[I", Cond.fieldLink RX2 15 "PommelTows$Village" "coins" "I", Cond.fieldLink RX2 95 "PommelTows$Skiers" "rides" "[I", Cond.fieldLink RX2 25 "PommelTows$Village" "pulled" "[I", Cond.methodLink RX2 80 yX1_waitingAt, Cond.instanceMethod yX1_waitingAt, Cond.selects RX1 yX1_waitingAt yX1_waitingAt, Cond.initialized RX1, Cond.code yX1_waitingAt cX1_waitingAt 4 (some .int), Cond.fieldLink RX1 9 "PommelTows$Skiers" "count" "I", Cond.fieldLink RX1 34 "PommelTows$Skiers" "tow" "[I", Cond.methodLink RX2 83 yX1_at, Cond.instanceMethod yX1_at, Cond.selects RX1 yX1_at yX1_at, Cond.code yX1_at cX1_at 4 (some .int), Cond.fieldLink RX1 37 "PommelTows$Skiers" "place" "[I", Cond.methodLink RX2 86 yX1_has, Cond.instanceMethod yX1_has, Cond.selects RX1 yX1_has yX1_has, Cond.code yX1_has cX1_has 2 (some .boolean), Cond.methodLink RX2 90 yX1_takeOutOfQueue, Cond.instanceMethod yX1_takeOutOfQueue]
def wsX2_pullAt_r2 : List Cond := [Cond.selects RX1 yX1_takeOutOfQueue yX1_takeOutOfQueue, Cond.code yX1_takeOutOfQueue cX1_takeOutOfQueue 5 none, Cond.methodLink RX2 98 yX2_skiDown, Cond.instanceMethod yX2_skiDown, Cond.selects RX2 yX2_skiDown yX2_skiDown, Cond.initialized RX2, Cond.code yX2_skiDown cX2_skiDown 5 none, Cond.fieldLink RX2 31 "PommelTows$Village" "runs" "LPommelTows$Runs;", Cond.fieldLink RX2 112 "PommelTows$Runs" "slope" "[I", Cond.fieldLink RX2 59 "PommelTows$Skiers" "skill" "[I", Cond.fieldLink RX2 121 "PommelTows$Runs" "skied" "[I", Cond.methodLink RX2 105 yX2_chosenRun, Cond.instanceMethod yX2_chosenRun, Cond.selects RX2 yX2_chosenRun yX2_chosenRun, Cond.code yX2_chosenRun cX2_chosenRun 3 (some .int), Cond.methodLink RX2 62 yX0_steepestOpen, Cond.instanceMethod yX0_steepestOpen, Cond.selects RX0 yX0_steepestOpen yX0_steepestOpen, Cond.initialized RX0, Cond.code yX0_steepestOpen cX0_steepestOpen 7 (some .int), Cond.fieldLink RX0 9 "PommelTows$Runs" "count" "I", Cond.fieldLink RX0 15 "PommelTows$Runs" "tow" "[I", Cond.fieldLink RX0 19 "PommelTows$Runs" "slope" "[I", Cond.methodLink RX0 36 yX0_isOpen]
def wsX2_pullAt_r3 : List Cond := [Cond.instanceMethod yX0_isOpen, Cond.selects RX0 yX0_isOpen yX0_isOpen, Cond.code yX0_isOpen cX0_isOpen 2 (some .boolean), Cond.fieldLink RX0 22 "PommelTows$Runs" "depth" "[I", Cond.methodLink RX2 108 yX0_has, Cond.instanceMethod yX0_has, Cond.selects RX0 yX0_has yX0_has, Cond.code yX0_has cX0_has 2 (some .boolean), Cond.methodLink RX2 65 yX2_flakeOfHour, Cond.instanceMethod yX2_flakeOfHour, Cond.selects RX2 yX2_flakeOfHour yX2_flakeOfHour, Cond.code yX2_flakeOfHour cX2_flakeOfHour 1 (some .int), Cond.fieldLink RX2 18 "PommelTows$Village" "flakes" "[I", Cond.fieldLink RX2 9 "PommelTows$Village" "hour" "I", Cond.methodLink RX2 53 yJ9_floorMod_7cf53, Cond.static yJ9_floorMod_7cf53, Cond.initialized RJ9, Cond.code yJ9_floorMod_7cf53 cJ9_floorMod_7cf53 3 (some .int), Cond.methodLink RX2 109 yX1_glide, Cond.instanceMethod yX1_glide, Cond.selects RX1 yX1_glide yX1_glide, Cond.code yX1_glide cX1_glide 3 (some .int), Cond.fieldLink RX1 25 "PommelTows$Skiers" "layer" "[I", Cond.fieldLink RX1 22 "PommelTows$Skiers" "wax" "[I"]
def wsX2_pullAt_r4 : List Cond := [Cond.methodLink RX1 44 Lib.Math.abs.name, Cond.static Lib.Math.abs.name, Cond.initialized "java/lang/Math", Cond.code Lib.Math.abs.name Lib.Math.abs.code 1 (some .int), Cond.methodLink RX2 115 yX1_addPoints, Cond.instanceMethod yX1_addPoints, Cond.selects RX1 yX1_addPoints yX1_addPoints, Cond.code yX1_addPoints cX1_addPoints 3 none, Cond.fieldLink RX1 28 "PommelTows$Skiers" "points" "[I", Cond.static yX3_held, Cond.initialized RX3, Cond.code yX3_held cX3_held 3 (some .int), Cond.methodLink RX3 194 Lib.Math.min.name, Cond.static Lib.Math.min.name, Cond.code Lib.Math.min.name Lib.Math.min.code 2 (some .int), Cond.methodLink RX3 199 Lib.Math.max.name, Cond.static Lib.Math.max.name, Cond.code Lib.Math.max.name Lib.Math.max.code 2 (some .int), Cond.methodLink RX2 118 yX0_deepen, Cond.instanceMethod yX0_deepen, Cond.selects RX0 yX0_deepen yX0_deepen, Cond.code yX0_deepen cX0_deepen 3 none, Cond.methodLink RX2 102 yX1_putAtEnd, Cond.instanceMethod yX1_putAtEnd]
def wsX2_pullAt_r5 : List Cond := [Cond.selects RX1 yX1_putAtEnd yX1_putAtEnd, Cond.code yX1_putAtEnd cX1_putAtEnd 4 none, Cond.methodLink RX1 40 yX1_waitingAt]
def wsX2_pullAt : List Cond := .code yX2_pullAt cX2_pullAt 6 (some .int) :: ((wsX2_pullAt_r1 ++ (wsX2_pullAt_r2 ++ (wsX2_pullAt_r3 ++ (wsX2_pullAt_r4 ++ wsX2_pullAt_r5)))) ++ wsX20 ++ wsX10 ++ wsX00)
def wsX2_letHoursGo_r1 : List Cond := [Cond.fieldLink RX2 31 "PommelTows$Village" "runs" "LPommelTows$Runs;", Cond.fieldLink RX2 9 "PommelTows$Village" "hour" "I", Cond.methodLink RX2 65 yX2_flakeOfHour, Cond.instanceMethod yX2_flakeOfHour, Cond.selects RX2 yX2_flakeOfHour yX2_flakeOfHour, Cond.initialized RX2, Cond.code yX2_flakeOfHour cX2_flakeOfHour 1 (some .int), Cond.fieldLink RX2 18 "PommelTows$Village" "flakes" "[I", Cond.methodLink RX2 53 yJ9_floorMod_7cf53, Cond.static yJ9_floorMod_7cf53, Cond.initialized RJ9, Cond.code yJ9_floorMod_7cf53 cJ9_floorMod_7cf53 3 (some .int), Cond.static yX3_snowOf, Cond.initialized RX3, Cond.code yX3_snowOf cX3_snowOf 1 (some .int), Cond.methodLink RX2 73 yX0_deepenAll, Cond.instanceMethod yX0_deepenAll, Cond.selects RX0 yX0_deepenAll yX0_deepenAll, Cond.initialized RX0, Cond.code yX0_deepenAll cX0_deepenAll 3 none, Cond.fieldLink RX0 9 "PommelTows$Runs" "count" "I", Cond.methodLink RX0 32 yX0_deepen, Cond.instanceMethod yX0_deepen, Cond.selects RX0 yX0_deepen yX0_deepen]
def wsX2_letHoursGo_r2 : List Cond := [Cond.code yX0_deepen cX0_deepen 3 none, Cond.fieldLink RX0 22 "PommelTows$Runs" "depth" "[I", Cond.static yX3_held, Cond.code yX3_held cX3_held 3 (some .int), Cond.methodLink RX3 194 Lib.Math.min.name, Cond.static Lib.Math.min.name, Cond.initialized "java/lang/Math", Cond.code Lib.Math.min.name Lib.Math.min.code 2 (some .int), Cond.methodLink RX3 199 Lib.Math.max.name, Cond.static Lib.Math.max.name, Cond.code Lib.Math.max.name Lib.Math.max.code 2 (some .int), Cond.methodLink RX2 77 yX2_pullAt, Cond.instanceMethod yX2_pullAt, Cond.selects RX2 yX2_pullAt yX2_pullAt, Cond.code yX2_pullAt cX2_pullAt 6 (some .int), Cond.fieldLink RX2 38 "PommelTows$Village" "skiers" "LPommelTows$Skiers;", Cond.fieldLink RX2 22 "PommelTows$Village" "pommels" "[I", Cond.fieldLink RX2 93 "PommelTows$Skiers" "coins" "[I", Cond.fieldLink RX2 15 "PommelTows$Village" "coins" "I", Cond.fieldLink RX2 95 "PommelTows$Skiers" "rides" "[I", Cond.fieldLink RX2 25 "PommelTows$Village" "pulled" "[I", Cond.methodLink RX2 80 yX1_waitingAt, Cond.instanceMethod yX1_waitingAt, Cond.selects RX1 yX1_waitingAt yX1_waitingAt]
def wsX2_letHoursGo_r3 : List Cond := [Cond.initialized RX1, Cond.code yX1_waitingAt cX1_waitingAt 4 (some .int), Cond.fieldLink RX1 9 "PommelTows$Skiers" "count" "I", Cond.fieldLink RX1 34 "PommelTows$Skiers" "tow" "[I", Cond.methodLink RX2 83 yX1_at, Cond.instanceMethod yX1_at, Cond.selects RX1 yX1_at yX1_at, Cond.code yX1_at cX1_at 4 (some .int), Cond.fieldLink RX1 37 "PommelTows$Skiers" "place" "[I", Cond.methodLink RX2 86 yX1_has, Cond.instanceMethod yX1_has, Cond.selects RX1 yX1_has yX1_has, Cond.code yX1_has cX1_has 2 (some .boolean), Cond.methodLink RX2 90 yX1_takeOutOfQueue, Cond.instanceMethod yX1_takeOutOfQueue, Cond.selects RX1 yX1_takeOutOfQueue yX1_takeOutOfQueue, Cond.code yX1_takeOutOfQueue cX1_takeOutOfQueue 5 none, Cond.methodLink RX2 98 yX2_skiDown, Cond.instanceMethod yX2_skiDown, Cond.selects RX2 yX2_skiDown yX2_skiDown, Cond.code yX2_skiDown cX2_skiDown 5 none, Cond.fieldLink RX2 112 "PommelTows$Runs" "slope" "[I", Cond.fieldLink RX2 59 "PommelTows$Skiers" "skill" "[I", Cond.fieldLink RX2 121 "PommelTows$Runs" "skied" "[I"]
def wsX2_letHoursGo_r4 : List Cond := [Cond.methodLink RX2 105 yX2_chosenRun, Cond.instanceMethod yX2_chosenRun, Cond.selects RX2 yX2_chosenRun yX2_chosenRun, Cond.code yX2_chosenRun cX2_chosenRun 3 (some .int), Cond.methodLink RX2 62 yX0_steepestOpen, Cond.instanceMethod yX0_steepestOpen, Cond.selects RX0 yX0_steepestOpen yX0_steepestOpen, Cond.code yX0_steepestOpen cX0_steepestOpen 7 (some .int), Cond.fieldLink RX0 15 "PommelTows$Runs" "tow" "[I", Cond.fieldLink RX0 19 "PommelTows$Runs" "slope" "[I", Cond.methodLink RX0 36 yX0_isOpen, Cond.instanceMethod yX0_isOpen, Cond.selects RX0 yX0_isOpen yX0_isOpen, Cond.code yX0_isOpen cX0_isOpen 2 (some .boolean), Cond.methodLink RX2 108 yX0_has, Cond.instanceMethod yX0_has, Cond.selects RX0 yX0_has yX0_has, Cond.code yX0_has cX0_has 2 (some .boolean), Cond.methodLink RX2 109 yX1_glide, Cond.instanceMethod yX1_glide, Cond.selects RX1 yX1_glide yX1_glide, Cond.code yX1_glide cX1_glide 3 (some .int), Cond.fieldLink RX1 25 "PommelTows$Skiers" "layer" "[I", Cond.fieldLink RX1 22 "PommelTows$Skiers" "wax" "[I"]
def wsX2_letHoursGo_r5 : List Cond := [Cond.methodLink RX1 44 Lib.Math.abs.name, Cond.static Lib.Math.abs.name, Cond.code Lib.Math.abs.name Lib.Math.abs.code 1 (some .int), Cond.methodLink RX2 115 yX1_addPoints, Cond.instanceMethod yX1_addPoints, Cond.selects RX1 yX1_addPoints yX1_addPoints, Cond.code yX1_addPoints cX1_addPoints 3 none, Cond.fieldLink RX1 28 "PommelTows$Skiers" "points" "[I", Cond.methodLink RX2 118 yX0_deepen, Cond.methodLink RX2 102 yX1_putAtEnd, Cond.instanceMethod yX1_putAtEnd, Cond.selects RX1 yX1_putAtEnd yX1_putAtEnd, Cond.code yX1_putAtEnd cX1_putAtEnd 4 none, Cond.methodLink RX1 40 yX1_waitingAt]
def wsX2_letHoursGo : List Cond := .code yX2_letHoursGo cX2_letHoursGo 5 (some .int) :: ((wsX2_letHoursGo_r1 ++ (wsX2_letHoursGo_r2 ++ (wsX2_letHoursGo_r3 ++ (wsX2_letHoursGo_r4 ++ wsX2_letHoursGo_r5)))) ++ wsX20 ++ wsX00 ++ wsX10)
def wsX2_allRides : List Cond := .code yX2_allRides cX2_allRides 3 (some .int) :: ([.fieldLink RX2 25 "PommelTows$Village" "pulled" "[I"] ++ wsX20)
def wsX2_towFigure : List Cond := .code yX2_towFigure cX2_towFigure 3 (some .int) :: ([.fieldLink RX2 22 "PommelTows$Village" "pommels" "[I", .fieldLink RX2 38 "PommelTows$Village" "skiers" "LPommelTows$Skiers;", .fieldLink RX2 25 "PommelTows$Village" "pulled" "[I", .methodLink RX2 80 yX1_waitingAt, .instanceMethod yX1_waitingAt, .selects RX1 yX1_waitingAt yX1_waitingAt, .initialized RX1, .code yX1_waitingAt cX1_waitingAt 4 (some .int), .fieldLink RX1 9 "PommelTows$Skiers" "count" "I", .fieldLink RX1 34 "PommelTows$Skiers" "tow" "[I"] ++ wsX20 ++ wsX10)
def wsX2_figure_r1 : List Cond := [Cond.fieldLink RX2 9 "PommelTows$Village" "hour" "I", Cond.fieldLink RX2 15 "PommelTows$Village" "coins" "I", Cond.fieldLink RX2 31 "PommelTows$Village" "runs" "LPommelTows$Runs;", Cond.fieldLink RX2 124 "PommelTows$Runs" "count" "I", Cond.fieldLink RX2 38 "PommelTows$Village" "skiers" "LPommelTows$Skiers;", Cond.fieldLink RX2 127 "PommelTows$Skiers" "count" "I", Cond.methodLink RX2 65 yX2_flakeOfHour, Cond.instanceMethod yX2_flakeOfHour, Cond.selects RX2 yX2_flakeOfHour yX2_flakeOfHour, Cond.initialized RX2, Cond.code yX2_flakeOfHour cX2_flakeOfHour 1 (some .int), Cond.fieldLink RX2 18 "PommelTows$Village" "flakes" "[I", Cond.methodLink RX2 53 yJ9_floorMod_7cf53, Cond.static yJ9_floorMod_7cf53, Cond.initialized RJ9, Cond.code yJ9_floorMod_7cf53 cJ9_floorMod_7cf53 3 (some .int), Cond.methodLink RX2 128 yX0_flagged, Cond.instanceMethod yX0_flagged, Cond.selects RX0 yX0_flagged yX0_flagged, Cond.initialized RX0, Cond.code yX0_flagged cX0_flagged 3 (some .int), Cond.fieldLink RX0 9 "PommelTows$Runs" "count" "I", Cond.methodLink RX0 36 yX0_isOpen, Cond.instanceMethod yX0_isOpen]
def wsX2_figure_r2 : List Cond := [Cond.selects RX0 yX0_isOpen yX0_isOpen, Cond.code yX0_isOpen cX0_isOpen 2 (some .boolean), Cond.fieldLink RX0 22 "PommelTows$Runs" "depth" "[I", Cond.fieldLink RX0 19 "PommelTows$Runs" "slope" "[I", Cond.methodLink RX2 131 yX2_allRides, Cond.instanceMethod yX2_allRides, Cond.selects RX2 yX2_allRides yX2_allRides, Cond.code yX2_allRides cX2_allRides 3 (some .int), Cond.fieldLink RX2 25 "PommelTows$Village" "pulled" "[I", Cond.methodLink RX2 134 yX1_waitingAnywhere, Cond.instanceMethod yX1_waitingAnywhere, Cond.selects RX1 yX1_waitingAnywhere yX1_waitingAnywhere, Cond.initialized RX1, Cond.code yX1_waitingAnywhere cX1_waitingAnywhere 3 (some .int), Cond.fieldLink RX1 9 "PommelTows$Skiers" "count" "I", Cond.fieldLink RX1 34 "PommelTows$Skiers" "tow" "[I", Cond.methodLink RX2 137 yX1_allPoints, Cond.instanceMethod yX1_allPoints, Cond.selects RX1 yX1_allPoints yX1_allPoints, Cond.code yX1_allPoints cX1_allPoints 3 (some .int), Cond.fieldLink RX1 28 "PommelTows$Skiers" "points" "[I"]
def wsX2_figure : List Cond := .code yX2_figure cX2_figure 2 (some .int) :: ((wsX2_figure_r1 ++ wsX2_figure_r2) ++ wsX20 ++ wsX00 ++ wsX10)
def wsX3_init_r1 : List Cond := [Cond.methodLink RX3 1 objectInit, Cond.instanceMethod objectInit, Cond.code objectInit ⟨#[0xb1]⟩ 1 none, Cond.classLink RX3 7 RX2, Cond.instantiable RX2 7, Cond.initialized RX2, Cond.fieldLink RX3 10 "PommelTows" "now" "LPommelTows$Village;", Cond.fieldLink RX3 16 "PommelTows" "trial" "LPommelTows$Village;", Cond.methodLink RX3 9 yX2_init, Cond.instanceMethod yX2_init, Cond.code yX2_init cX2_init 2 none, Cond.methodLink RX2 3 objectInit, Cond.fieldLink RX2 9 "PommelTows$Village" "hour" "I", Cond.fieldLink RX2 15 "PommelTows$Village" "coins" "I", Cond.arrayClass .int, Cond.fieldLink RX2 18 "PommelTows$Village" "flakes" "[I", Cond.fieldLink RX2 22 "PommelTows$Village" "pommels" "[I", Cond.fieldLink RX2 25 "PommelTows$Village" "pulled" "[I", Cond.classLink RX2 28 RX0, Cond.instantiable RX0 5, Cond.initialized RX0, Cond.fieldLink RX2 31 "PommelTows$Village" "runs" "LPommelTows$Runs;", Cond.classLink RX2 35 RX1, Cond.instantiable RX1 9]
def wsX3_init_r2 : List Cond := [Cond.initialized RX1, Cond.fieldLink RX2 38 "PommelTows$Village" "skiers" "LPommelTows$Skiers;", Cond.instanceMethod yX0_init, Cond.code yX0_init cX0_init 1 none, Cond.methodLink RX0 3 objectInit, Cond.fieldLink RX0 9 "PommelTows$Runs" "count" "I", Cond.fieldLink RX0 15 "PommelTows$Runs" "tow" "[I", Cond.fieldLink RX0 19 "PommelTows$Runs" "slope" "[I", Cond.fieldLink RX0 22 "PommelTows$Runs" "depth" "[I", Cond.fieldLink RX0 25 "PommelTows$Runs" "skied" "[I", Cond.instanceMethod yX1_init, Cond.code yX1_init cX1_init 1 none, Cond.methodLink RX1 3 objectInit, Cond.fieldLink RX1 9 "PommelTows$Skiers" "count" "I", Cond.fieldLink RX1 15 "PommelTows$Skiers" "skill" "[I", Cond.fieldLink RX1 19 "PommelTows$Skiers" "coins" "[I", Cond.fieldLink RX1 22 "PommelTows$Skiers" "wax" "[I", Cond.fieldLink RX1 25 "PommelTows$Skiers" "layer" "[I", Cond.fieldLink RX1 28 "PommelTows$Skiers" "points" "[I", Cond.fieldLink RX1 31 "PommelTows$Skiers" "rides" "[I", Cond.fieldLink RX1 34 "PommelTows$Skiers" "tow" "[I", Cond.fieldLink RX1 37 "PommelTows$Skiers" "place" "[I"]
def wsX3_init : List Cond := .code yX3_init cX3_init 1 none :: ((wsX3_init_r1 ++ wsX3_init_r2) ++ wsX20 ++ wsX30 ++ wsX00 ++ wsX10)
def wsX3_isWithin : List Cond := .code yX3_isWithin cX3_isWithin 3 (some .boolean) :: ([])
def wsX3_run_r1 : List Cond := [Cond.classLink RX3 23 "java/lang/IndexOutOfBoundsException", Cond.initialized "java/lang/IndexOutOfBoundsException", Cond.classLink RX3 30 "java/lang/IllegalArgumentException", Cond.initialized "java/lang/IllegalArgumentException", Cond.classLink RX3 45 "java/lang/IllegalStateException", Cond.initialized "java/lang/IllegalStateException", Cond.fieldLink RX3 10 "PommelTows" "now" "LPommelTows$Village;", Cond.fieldLink RX3 35 "PommelTows$Village" "runs" "LPommelTows$Runs;", Cond.methodLink RX3 19 yX3_isWithin, Cond.static yX3_isWithin, Cond.initialized RX3, Cond.code yX3_isWithin cX3_isWithin 3 (some .boolean), Cond.methodLink RX3 39 yX0_isFull, Cond.instanceMethod yX0_isFull, Cond.selects RX0 yX0_isFull yX0_isFull, Cond.initialized RX0, Cond.code yX0_isFull cX0_isFull 1 (some .boolean), Cond.fieldLink RX0 9 "PommelTows$Runs" "count" "I", Cond.methodLink RX3 50 yX0_add, Cond.instanceMethod yX0_add, Cond.selects RX0 yX0_add yX0_add, Cond.code yX0_add cX0_add 4 (some .int), Cond.fieldLink RX0 15 "PommelTows$Runs" "tow" "[I", Cond.fieldLink RX0 19 "PommelTows$Runs" "slope" "[I"]
def wsX3_run_r2 : List Cond := [Cond.fieldLink RX0 22 "PommelTows$Runs" "depth" "[I"]
def wsX3_run : List Cond := .code yX3_run cX3_run 3 (some .int) :: ((wsX3_run_r1 ++ wsX3_run_r2) ++ wsX30 ++ wsX20 ++ wsX00 ++ (vx_atS RX3 27 "java/lang/IndexOutOfBoundsException" ["java/lang/RuntimeException", "java/lang/Exception"]).filter goodWord ++ (vx_atS RX3 34 "java/lang/IllegalArgumentException" ["java/lang/RuntimeException", "java/lang/Exception"]).filter goodWord ++ (vx_atS RX3 49 "java/lang/IllegalStateException" ["java/lang/RuntimeException", "java/lang/Exception"]).filter goodWord)
def wsX3_setPommels : List Cond := .code yX3_setPommels cX3_setPommels 4 (some .int) :: ([.classLink RX3 23 "java/lang/IndexOutOfBoundsException", .initialized "java/lang/IndexOutOfBoundsException", .classLink RX3 30 "java/lang/IllegalArgumentException", .initialized "java/lang/IllegalArgumentException", .fieldLink RX3 10 "PommelTows" "now" "LPommelTows$Village;", .fieldLink RX3 56 "PommelTows$Village" "pommels" "[I", .methodLink RX3 19 yX3_isWithin, .static yX3_isWithin, .initialized RX3, .code yX3_isWithin cX3_isWithin 3 (some .boolean)] ++ wsX30 ++ wsX20 ++ (vx_atS RX3 27 "java/lang/IndexOutOfBoundsException" ["java/lang/RuntimeException", "java/lang/Exception"]).filter goodWord ++ (vx_atS RX3 34 "java/lang/IllegalArgumentException" ["java/lang/RuntimeException", "java/lang/Exception"]).filter goodWord)
def wsX3_setFlake : List Cond := .code yX3_setFlake cX3_setFlake 4 (some .int) :: ([.classLink RX3 23 "java/lang/IndexOutOfBoundsException", .initialized "java/lang/IndexOutOfBoundsException", .classLink RX3 30 "java/lang/IllegalArgumentException", .initialized "java/lang/IllegalArgumentException", .fieldLink RX3 10 "PommelTows" "now" "LPommelTows$Village;", .fieldLink RX3 64 "PommelTows$Village" "flakes" "[I", .methodLink RX3 19 yX3_isWithin, .static yX3_isWithin, .initialized RX3, .code yX3_isWithin cX3_isWithin 3 (some .boolean)] ++ wsX30 ++ wsX20 ++ (vx_atS RX3 27 "java/lang/IndexOutOfBoundsException" ["java/lang/RuntimeException", "java/lang/Exception"]).filter goodWord ++ (vx_atS RX3 34 "java/lang/IllegalArgumentException" ["java/lang/RuntimeException", "java/lang/Exception"]).filter goodWord)
def wsX3_skier : List Cond := .code yX3_skier cX3_skier 3 (some .int) :: ([.classLink RX3 30 "java/lang/IllegalArgumentException", .initialized "java/lang/IllegalArgumentException", .classLink RX3 45 "java/lang/IllegalStateException", .initialized "java/lang/IllegalStateException", .fieldLink RX3 10 "PommelTows" "now" "LPommelTows$Village;", .fieldLink RX3 97 "PommelTows$Village" "skiers" "LPommelTows$Skiers;", .methodLink RX3 19 yX3_isWithin, .static yX3_isWithin, .initialized RX3, .code yX3_isWithin cX3_isWithin 3 (some .boolean), .methodLink RX3 101 yX1_isFull, .instanceMethod yX1_isFull, .selects RX1 yX1_isFull yX1_isFull, .initialized RX1, .code yX1_isFull cX1_isFull 1 (some .boolean), .fieldLink RX1 9 "PommelTows$Skiers" "count" "I", .methodLink RX3 106 yX1_add, .instanceMethod yX1_add, .selects RX1 yX1_add yX1_add, .code yX1_add cX1_add 4 (some .int), .fieldLink RX1 15 "PommelTows$Skiers" "skill" "[I", .fieldLink RX1 19 "PommelTows$Skiers" "coins" "[I", .fieldLink RX1 34 "PommelTows$Skiers" "tow" "[I"] ++ wsX30 ++ wsX20 ++ wsX10 ++ (vx_atS RX3 34 "java/lang/IllegalArgumentException" ["java/lang/RuntimeException", "java/lang/Exception"]).filter goodWord ++ (vx_atS RX3 49 "java/lang/IllegalStateException" ["java/lang/RuntimeException", "java/lang/Exception"]).filter goodWord)
def wsX3_wax_r1 : List Cond := [Cond.classLink RX3 23 "java/lang/IndexOutOfBoundsException", Cond.initialized "java/lang/IndexOutOfBoundsException", Cond.classLink RX3 30 "java/lang/IllegalArgumentException", Cond.initialized "java/lang/IllegalArgumentException", Cond.classLink RX3 45 "java/lang/IllegalStateException", Cond.initialized "java/lang/IllegalStateException", Cond.fieldLink RX3 10 "PommelTows" "now" "LPommelTows$Village;", Cond.fieldLink RX3 97 "PommelTows$Village" "skiers" "LPommelTows$Skiers;", Cond.fieldLink RX3 112 "PommelTows$Skiers" "coins" "[I", Cond.fieldLink RX3 73 "PommelTows$Village" "coins" "I", Cond.methodLink RX3 107 yX1_has, Cond.instanceMethod yX1_has, Cond.selects RX1 yX1_has yX1_has, Cond.initialized RX1, Cond.code yX1_has cX1_has 2 (some .boolean), Cond.fieldLink RX1 9 "PommelTows$Skiers" "count" "I", Cond.methodLink RX3 19 yX3_isWithin, Cond.static yX3_isWithin, Cond.initialized RX3, Cond.code yX3_isWithin cX3_isWithin 3 (some .boolean), Cond.methodLink RX3 116 yX1_putWaxOn, Cond.instanceMethod yX1_putWaxOn, Cond.selects RX1 yX1_putWaxOn yX1_putWaxOn, Cond.code yX1_putWaxOn cX1_putWaxOn 3 none]
def wsX3_wax_r2 : List Cond := [Cond.fieldLink RX1 22 "PommelTows$Skiers" "wax" "[I", Cond.fieldLink RX1 25 "PommelTows$Skiers" "layer" "[I"]
def wsX3_wax : List Cond := .code yX3_wax cX3_wax 3 (some .int) :: ((wsX3_wax_r1 ++ wsX3_wax_r2) ++ wsX30 ++ wsX20 ++ wsX10 ++ (vx_atS RX3 27 "java/lang/IndexOutOfBoundsException" ["java/lang/RuntimeException", "java/lang/Exception"]).filter goodWord ++ (vx_atS RX3 34 "java/lang/IllegalArgumentException" ["java/lang/RuntimeException", "java/lang/Exception"]).filter goodWord ++ (vx_atS RX3 49 "java/lang/IllegalStateException" ["java/lang/RuntimeException", "java/lang/Exception"]).filter goodWord)
def wsX3_join_r1 : List Cond := [Cond.classLink RX3 23 "java/lang/IndexOutOfBoundsException", Cond.initialized "java/lang/IndexOutOfBoundsException", Cond.fieldLink RX3 10 "PommelTows" "now" "LPommelTows$Village;", Cond.fieldLink RX3 97 "PommelTows$Village" "skiers" "LPommelTows$Skiers;", Cond.fieldLink RX3 126 "PommelTows$Skiers" "place" "[I", Cond.methodLink RX3 107 yX1_has, Cond.instanceMethod yX1_has, Cond.selects RX1 yX1_has yX1_has, Cond.initialized RX1, Cond.code yX1_has cX1_has 2 (some .boolean), Cond.fieldLink RX1 9 "PommelTows$Skiers" "count" "I", Cond.methodLink RX3 19 yX3_isWithin, Cond.static yX3_isWithin, Cond.initialized RX3, Cond.code yX3_isWithin cX3_isWithin 3 (some .boolean), Cond.methodLink RX3 119 yX1_takeOutOfQueue, Cond.instanceMethod yX1_takeOutOfQueue, Cond.selects RX1 yX1_takeOutOfQueue yX1_takeOutOfQueue, Cond.code yX1_takeOutOfQueue cX1_takeOutOfQueue 5 none, Cond.fieldLink RX1 34 "PommelTows$Skiers" "tow" "[I", Cond.fieldLink RX1 37 "PommelTows$Skiers" "place" "[I", Cond.methodLink RX3 123 yX1_putAtEnd, Cond.instanceMethod yX1_putAtEnd, Cond.selects RX1 yX1_putAtEnd yX1_putAtEnd]
def wsX3_join_r2 : List Cond := [Cond.code yX1_putAtEnd cX1_putAtEnd 4 none, Cond.methodLink RX1 40 yX1_waitingAt, Cond.instanceMethod yX1_waitingAt, Cond.selects RX1 yX1_waitingAt yX1_waitingAt, Cond.code yX1_waitingAt cX1_waitingAt 4 (some .int)]
def wsX3_join : List Cond := .code yX3_join cX3_join 3 (some .int) :: ((wsX3_join_r1 ++ wsX3_join_r2) ++ wsX30 ++ wsX20 ++ wsX10 ++ (vx_atS RX3 27 "java/lang/IndexOutOfBoundsException" ["java/lang/RuntimeException", "java/lang/Exception"]).filter goodWord)
def wsX3_leave : List Cond := .code yX3_leave cX3_leave 3 (some .boolean) :: ([.classLink RX3 23 "java/lang/IndexOutOfBoundsException", .initialized "java/lang/IndexOutOfBoundsException", .fieldLink RX3 10 "PommelTows" "now" "LPommelTows$Village;", .fieldLink RX3 97 "PommelTows$Village" "skiers" "LPommelTows$Skiers;", .fieldLink RX3 129 "PommelTows$Skiers" "tow" "[I", .methodLink RX3 107 yX1_has, .instanceMethod yX1_has, .selects RX1 yX1_has yX1_has, .initialized RX1, .code yX1_has cX1_has 2 (some .boolean), .fieldLink RX1 9 "PommelTows$Skiers" "count" "I", .methodLink RX3 119 yX1_takeOutOfQueue, .instanceMethod yX1_takeOutOfQueue, .selects RX1 yX1_takeOutOfQueue yX1_takeOutOfQueue, .code yX1_takeOutOfQueue cX1_takeOutOfQueue 5 none, .fieldLink RX1 34 "PommelTows$Skiers" "tow" "[I", .fieldLink RX1 37 "PommelTows$Skiers" "place" "[I"] ++ wsX30 ++ wsX20 ++ wsX10 ++ (vx_atS RX3 27 "java/lang/IndexOutOfBoundsException" ["java/lang/RuntimeException", "java/lang/Exception"]).filter goodWord)
def wsX3_about_r1 : List Cond := [Cond.classLink RX3 23 "java/lang/IndexOutOfBoundsException", Cond.initialized "java/lang/IndexOutOfBoundsException", Cond.fieldLink RX3 10 "PommelTows" "now" "LPommelTows$Village;", Cond.fieldLink RX3 35 "PommelTows$Village" "runs" "LPommelTows$Runs;", Cond.methodLink RX3 67 yX0_has, Cond.instanceMethod yX0_has, Cond.selects RX0 yX0_has yX0_has, Cond.initialized RX0, Cond.code yX0_has cX0_has 2 (some .boolean), Cond.fieldLink RX0 9 "PommelTows$Runs" "count" "I", Cond.methodLink RX3 19 yX3_isWithin, Cond.static yX3_isWithin, Cond.initialized RX3, Cond.code yX3_isWithin cX3_isWithin 3 (some .boolean), Cond.methodLink RX3 134 yX0_figure, Cond.instanceMethod yX0_figure, Cond.selects RX0 yX0_figure yX0_figure, Cond.code yX0_figure cX0_figure 3 (some .int), Cond.fieldLink RX0 15 "PommelTows$Runs" "tow" "[I", Cond.fieldLink RX0 19 "PommelTows$Runs" "slope" "[I", Cond.fieldLink RX0 22 "PommelTows$Runs" "depth" "[I", Cond.fieldLink RX0 25 "PommelTows$Runs" "skied" "[I", Cond.methodLink RX0 36 yX0_isOpen, Cond.instanceMethod yX0_isOpen]
def wsX3_about_r2 : List Cond := [Cond.selects RX0 yX0_isOpen yX0_isOpen, Cond.code yX0_isOpen cX0_isOpen 2 (some .boolean)]
def wsX3_about : List Cond := .code yX3_about cX3_about 3 (some .int) :: ((wsX3_about_r1 ++ wsX3_about_r2) ++ wsX30 ++ wsX20 ++ wsX00 ++ (vx_atS RX3 27 "java/lang/IndexOutOfBoundsException" ["java/lang/RuntimeException", "java/lang/Exception"]).filter goodWord)
def wsX3_told_r1 : List Cond := [Cond.classLink RX3 23 "java/lang/IndexOutOfBoundsException", Cond.initialized "java/lang/IndexOutOfBoundsException", Cond.fieldLink RX3 10 "PommelTows" "now" "LPommelTows$Village;", Cond.fieldLink RX3 97 "PommelTows$Village" "skiers" "LPommelTows$Skiers;", Cond.methodLink RX3 107 yX1_has, Cond.instanceMethod yX1_has, Cond.selects RX1 yX1_has yX1_has, Cond.initialized RX1, Cond.code yX1_has cX1_has 2 (some .boolean), Cond.fieldLink RX1 9 "PommelTows$Skiers" "count" "I", Cond.methodLink RX3 19 yX3_isWithin, Cond.static yX3_isWithin, Cond.initialized RX3, Cond.code yX3_isWithin cX3_isWithin 3 (some .boolean), Cond.methodLink RX3 139 yX1_figure, Cond.instanceMethod yX1_figure, Cond.selects RX1 yX1_figure yX1_figure, Cond.code yX1_figure cX1_figure 3 (some .int), Cond.fieldLink RX1 15 "PommelTows$Skiers" "skill" "[I", Cond.fieldLink RX1 19 "PommelTows$Skiers" "coins" "[I", Cond.fieldLink RX1 25 "PommelTows$Skiers" "layer" "[I", Cond.fieldLink RX1 22 "PommelTows$Skiers" "wax" "[I", Cond.fieldLink RX1 28 "PommelTows$Skiers" "points" "[I", Cond.fieldLink RX1 31 "PommelTows$Skiers" "rides" "[I"]
def wsX3_told_r2 : List Cond := [Cond.fieldLink RX1 34 "PommelTows$Skiers" "tow" "[I"]
def wsX3_told : List Cond := .code yX3_told cX3_told 3 (some .int) :: ((wsX3_told_r1 ++ wsX3_told_r2) ++ wsX30 ++ wsX20 ++ wsX10 ++ (vx_atS RX3 27 "java/lang/IndexOutOfBoundsException" ["java/lang/RuntimeException", "java/lang/Exception"]).filter goodWord)
def wsX3_tow : List Cond := .code yX3_tow cX3_tow 3 (some .int) :: ([.classLink RX3 23 "java/lang/IndexOutOfBoundsException", .initialized "java/lang/IndexOutOfBoundsException", .fieldLink RX3 10 "PommelTows" "now" "LPommelTows$Village;", .methodLink RX3 19 yX3_isWithin, .static yX3_isWithin, .initialized RX3, .code yX3_isWithin cX3_isWithin 3 (some .boolean), .methodLink RX3 142 yX2_towFigure, .instanceMethod yX2_towFigure, .selects RX2 yX2_towFigure yX2_towFigure, .initialized RX2, .code yX2_towFigure cX2_towFigure 3 (some .int), .fieldLink RX2 22 "PommelTows$Village" "pommels" "[I", .fieldLink RX2 38 "PommelTows$Village" "skiers" "LPommelTows$Skiers;", .fieldLink RX2 25 "PommelTows$Village" "pulled" "[I", .methodLink RX2 80 yX1_waitingAt, .instanceMethod yX1_waitingAt, .selects RX1 yX1_waitingAt yX1_waitingAt, .initialized RX1, .code yX1_waitingAt cX1_waitingAt 4 (some .int), .fieldLink RX1 9 "PommelTows$Skiers" "count" "I", .fieldLink RX1 34 "PommelTows$Skiers" "tow" "[I"] ++ wsX30 ++ wsX20 ++ wsX10 ++ (vx_atS RX3 27 "java/lang/IndexOutOfBoundsException" ["java/lang/RuntimeException", "java/lang/Exception"]).filter goodWord)
def wsX3_stands : List Cond := .code yX3_stands cX3_stands 4 (some .int) :: ([.classLink RX3 23 "java/lang/IndexOutOfBoundsException", .initialized "java/lang/IndexOutOfBoundsException", .fieldLink RX3 10 "PommelTows" "now" "LPommelTows$Village;", .fieldLink RX3 97 "PommelTows$Village" "skiers" "LPommelTows$Skiers;", .methodLink RX3 19 yX3_isWithin, .static yX3_isWithin, .initialized RX3, .code yX3_isWithin cX3_isWithin 3 (some .boolean), .methodLink RX3 145 yX1_at, .instanceMethod yX1_at, .selects RX1 yX1_at yX1_at, .initialized RX1, .code yX1_at cX1_at 4 (some .int), .fieldLink RX1 9 "PommelTows$Skiers" "count" "I", .fieldLink RX1 34 "PommelTows$Skiers" "tow" "[I", .fieldLink RX1 37 "PommelTows$Skiers" "place" "[I"] ++ wsX30 ++ wsX20 ++ wsX10 ++ (vx_atS RX3 27 "java/lang/IndexOutOfBoundsException" ["java/lang/RuntimeException", "java/lang/Exception"]).filter goodWord)
def wsX3_count_r1 : List Cond := [Cond.classLink RX3 23 "java/lang/IndexOutOfBoundsException", Cond.initialized "java/lang/IndexOutOfBoundsException", Cond.fieldLink RX3 10 "PommelTows" "now" "LPommelTows$Village;", Cond.methodLink RX3 19 yX3_isWithin, Cond.static yX3_isWithin, Cond.initialized RX3, Cond.code yX3_isWithin cX3_isWithin 3 (some .boolean), Cond.methodLink RX3 155 yX2_figure, Cond.instanceMethod yX2_figure, Cond.selects RX2 yX2_figure yX2_figure, Cond.initialized RX2, Cond.code yX2_figure cX2_figure 2 (some .int), Cond.fieldLink RX2 9 "PommelTows$Village" "hour" "I", Cond.fieldLink RX2 15 "PommelTows$Village" "coins" "I", Cond.fieldLink RX2 31 "PommelTows$Village" "runs" "LPommelTows$Runs;", Cond.fieldLink RX2 124 "PommelTows$Runs" "count" "I", Cond.fieldLink RX2 38 "PommelTows$Village" "skiers" "LPommelTows$Skiers;", Cond.fieldLink RX2 127 "PommelTows$Skiers" "count" "I", Cond.methodLink RX2 65 yX2_flakeOfHour, Cond.instanceMethod yX2_flakeOfHour, Cond.selects RX2 yX2_flakeOfHour yX2_flakeOfHour, Cond.code yX2_flakeOfHour cX2_flakeOfHour 1 (some .int), Cond.fieldLink RX2 18 "PommelTows$Village" "flakes" "[I", Cond.methodLink RX2 53 yJ9_floorMod_7cf53]
def wsX3_count_r2 : List Cond := [Cond.static yJ9_floorMod_7cf53, Cond.initialized RJ9, Cond.code yJ9_floorMod_7cf53 cJ9_floorMod_7cf53 3 (some .int), Cond.methodLink RX2 128 yX0_flagged, Cond.instanceMethod yX0_flagged, Cond.selects RX0 yX0_flagged yX0_flagged, Cond.initialized RX0, Cond.code yX0_flagged cX0_flagged 3 (some .int), Cond.fieldLink RX0 9 "PommelTows$Runs" "count" "I", Cond.methodLink RX0 36 yX0_isOpen, Cond.instanceMethod yX0_isOpen, Cond.selects RX0 yX0_isOpen yX0_isOpen, Cond.code yX0_isOpen cX0_isOpen 2 (some .boolean), Cond.fieldLink RX0 22 "PommelTows$Runs" "depth" "[I", Cond.fieldLink RX0 19 "PommelTows$Runs" "slope" "[I", Cond.methodLink RX2 131 yX2_allRides, Cond.instanceMethod yX2_allRides, Cond.selects RX2 yX2_allRides yX2_allRides, Cond.code yX2_allRides cX2_allRides 3 (some .int), Cond.fieldLink RX2 25 "PommelTows$Village" "pulled" "[I", Cond.methodLink RX2 134 yX1_waitingAnywhere, Cond.instanceMethod yX1_waitingAnywhere, Cond.selects RX1 yX1_waitingAnywhere yX1_waitingAnywhere, Cond.initialized RX1]
def wsX3_count_r3 : List Cond := [Cond.code yX1_waitingAnywhere cX1_waitingAnywhere 3 (some .int), Cond.fieldLink RX1 9 "PommelTows$Skiers" "count" "I", Cond.fieldLink RX1 34 "PommelTows$Skiers" "tow" "[I", Cond.methodLink RX2 137 yX1_allPoints, Cond.instanceMethod yX1_allPoints, Cond.selects RX1 yX1_allPoints yX1_allPoints, Cond.code yX1_allPoints cX1_allPoints 3 (some .int), Cond.fieldLink RX1 28 "PommelTows$Skiers" "points" "[I"]
def wsX3_count : List Cond := .code yX3_count cX3_count 2 (some .int) :: ((wsX3_count_r1 ++ (wsX3_count_r2 ++ wsX3_count_r3)) ++ wsX30 ++ wsX20 ++ wsX00 ++ wsX10 ++ (vx_atS RX3 27 "java/lang/IndexOutOfBoundsException" ["java/lang/RuntimeException", "java/lang/Exception"]).filter goodWord)
def wsX3_pass_r1 : List Cond := [Cond.classLink RX3 30 "java/lang/IllegalArgumentException", Cond.initialized "java/lang/IllegalArgumentException", Cond.fieldLink RX3 10 "PommelTows" "now" "LPommelTows$Village;", Cond.methodLink RX3 19 yX3_isWithin, Cond.static yX3_isWithin, Cond.initialized RX3, Cond.code yX3_isWithin cX3_isWithin 3 (some .boolean), Cond.methodLink RX3 160 yX2_letHoursGo, Cond.instanceMethod yX2_letHoursGo, Cond.selects RX2 yX2_letHoursGo yX2_letHoursGo, Cond.initialized RX2, Cond.code yX2_letHoursGo cX2_letHoursGo 5 (some .int), Cond.fieldLink RX2 31 "PommelTows$Village" "runs" "LPommelTows$Runs;", Cond.fieldLink RX2 9 "PommelTows$Village" "hour" "I", Cond.methodLink RX2 65 yX2_flakeOfHour, Cond.instanceMethod yX2_flakeOfHour, Cond.selects RX2 yX2_flakeOfHour yX2_flakeOfHour, Cond.code yX2_flakeOfHour cX2_flakeOfHour 1 (some .int), Cond.fieldLink RX2 18 "PommelTows$Village" "flakes" "[I", Cond.methodLink RX2 53 yJ9_floorMod_7cf53, Cond.static yJ9_floorMod_7cf53, Cond.initialized RJ9, Cond.code yJ9_floorMod_7cf53 cJ9_floorMod_7cf53 3 (some .int), Cond.static yX3_snowOf]
def wsX3_pass_r2 : List Cond := [Cond.code yX3_snowOf cX3_snowOf 1 (some .int), Cond.methodLink RX2 73 yX0_deepenAll, Cond.instanceMethod yX0_deepenAll, Cond.selects RX0 yX0_deepenAll yX0_deepenAll, Cond.initialized RX0, Cond.code yX0_deepenAll cX0_deepenAll 3 none, Cond.fieldLink RX0 9 "PommelTows$Runs" "count" "I", Cond.methodLink RX0 32 yX0_deepen, Cond.instanceMethod yX0_deepen, Cond.selects RX0 yX0_deepen yX0_deepen, Cond.code yX0_deepen cX0_deepen 3 none, Cond.fieldLink RX0 22 "PommelTows$Runs" "depth" "[I", Cond.static yX3_held, Cond.code yX3_held cX3_held 3 (some .int), Cond.methodLink RX3 194 Lib.Math.min.name, Cond.static Lib.Math.min.name, Cond.initialized "java/lang/Math", Cond.code Lib.Math.min.name Lib.Math.min.code 2 (some .int), Cond.methodLink RX3 199 Lib.Math.max.name, Cond.static Lib.Math.max.name, Cond.code Lib.Math.max.name Lib.Math.max.code 2 (some .int), Cond.methodLink RX2 77 yX2_pullAt, Cond.instanceMethod yX2_pullAt, Cond.selects RX2 yX2_pullAt yX2_pullAt]
def wsX3_pass_r3 : List Cond := [Cond.code yX2_pullAt cX2_pullAt 6 (some .int), Cond.fieldLink RX2 38 "PommelTows$Village" "skiers" "LPommelTows$Skiers;", Cond.fieldLink RX2 22 "PommelTows$Village" "pommels" "[I", Cond.fieldLink RX2 93 "PommelTows$Skiers" "coins" "[I", Cond.fieldLink RX2 15 "PommelTows$Village" "coins" "I", Cond.fieldLink RX2 95 "PommelTows$Skiers" "rides" "[I", Cond.fieldLink RX2 25 "PommelTows$Village" "pulled" "[I", Cond.methodLink RX2 80 yX1_waitingAt, Cond.instanceMethod yX1_waitingAt, Cond.selects RX1 yX1_waitingAt yX1_waitingAt, Cond.initialized RX1, Cond.code yX1_waitingAt cX1_waitingAt 4 (some .int), Cond.fieldLink RX1 9 "PommelTows$Skiers" "count" "I", Cond.fieldLink RX1 34 "PommelTows$Skiers" "tow" "[I", Cond.methodLink RX2 83 yX1_at, Cond.instanceMethod yX1_at, Cond.selects RX1 yX1_at yX1_at, Cond.code yX1_at cX1_at 4 (some .int), Cond.fieldLink RX1 37 "PommelTows$Skiers" "place" "[I", Cond.methodLink RX2 86 yX1_has, Cond.instanceMethod yX1_has, Cond.selects RX1 yX1_has yX1_has, Cond.code yX1_has cX1_has 2 (some .boolean), Cond.methodLink RX2 90 yX1_takeOutOfQueue]
def wsX3_pass_r4 : List Cond := [Cond.instanceMethod yX1_takeOutOfQueue, Cond.selects RX1 yX1_takeOutOfQueue yX1_takeOutOfQueue, Cond.code yX1_takeOutOfQueue cX1_takeOutOfQueue 5 none, Cond.methodLink RX2 98 yX2_skiDown, Cond.instanceMethod yX2_skiDown, Cond.selects RX2 yX2_skiDown yX2_skiDown, Cond.code yX2_skiDown cX2_skiDown 5 none, Cond.fieldLink RX2 112 "PommelTows$Runs" "slope" "[I", Cond.fieldLink RX2 59 "PommelTows$Skiers" "skill" "[I", Cond.fieldLink RX2 121 "PommelTows$Runs" "skied" "[I", Cond.methodLink RX2 105 yX2_chosenRun, Cond.instanceMethod yX2_chosenRun, Cond.selects RX2 yX2_chosenRun yX2_chosenRun, Cond.code yX2_chosenRun cX2_chosenRun 3 (some .int), Cond.methodLink RX2 62 yX0_steepestOpen, Cond.instanceMethod yX0_steepestOpen, Cond.selects RX0 yX0_steepestOpen yX0_steepestOpen, Cond.code yX0_steepestOpen cX0_steepestOpen 7 (some .int), Cond.fieldLink RX0 15 "PommelTows$Runs" "tow" "[I", Cond.fieldLink RX0 19 "PommelTows$Runs" "slope" "[I", Cond.methodLink RX0 36 yX0_isOpen, Cond.instanceMethod yX0_isOpen, Cond.selects RX0 yX0_isOpen yX0_isOpen, Cond.code yX0_isOpen cX0_isOpen 2 (some .boolean)]
def wsX3_pass_r5 : List Cond := [Cond.methodLink RX2 108 yX0_has, Cond.instanceMethod yX0_has, Cond.selects RX0 yX0_has yX0_has, Cond.code yX0_has cX0_has 2 (some .boolean), Cond.methodLink RX2 109 yX1_glide, Cond.instanceMethod yX1_glide, Cond.selects RX1 yX1_glide yX1_glide, Cond.code yX1_glide cX1_glide 3 (some .int), Cond.fieldLink RX1 25 "PommelTows$Skiers" "layer" "[I", Cond.fieldLink RX1 22 "PommelTows$Skiers" "wax" "[I", Cond.methodLink RX1 44 Lib.Math.abs.name, Cond.static Lib.Math.abs.name, Cond.code Lib.Math.abs.name Lib.Math.abs.code 1 (some .int), Cond.methodLink RX2 115 yX1_addPoints, Cond.instanceMethod yX1_addPoints, Cond.selects RX1 yX1_addPoints yX1_addPoints, Cond.code yX1_addPoints cX1_addPoints 3 none, Cond.fieldLink RX1 28 "PommelTows$Skiers" "points" "[I", Cond.methodLink RX2 118 yX0_deepen, Cond.methodLink RX2 102 yX1_putAtEnd, Cond.instanceMethod yX1_putAtEnd, Cond.selects RX1 yX1_putAtEnd yX1_putAtEnd, Cond.code yX1_putAtEnd cX1_putAtEnd 4 none, Cond.methodLink RX1 40 yX1_waitingAt]
def wsX3_pass : List Cond := .code yX3_pass cX3_pass 2 (some .int) :: ((wsX3_pass_r1 ++ (wsX3_pass_r2 ++ (wsX3_pass_r3 ++ (wsX3_pass_r4 ++ wsX3_pass_r5)))) ++ wsX30 ++ wsX20 ++ wsX00 ++ wsX10 ++ (vx_atS RX3 34 "java/lang/IllegalArgumentException" ["java/lang/RuntimeException", "java/lang/Exception"]).filter goodWord)
def wsX3_until_r1 : List Cond := [Cond.classLink RX3 23 "java/lang/IndexOutOfBoundsException", Cond.initialized "java/lang/IndexOutOfBoundsException", Cond.fieldLink RX3 10 "PommelTows" "now" "LPommelTows$Village;", Cond.fieldLink RX3 97 "PommelTows$Village" "skiers" "LPommelTows$Skiers;", Cond.fieldLink RX3 16 "PommelTows" "trial" "LPommelTows$Village;", Cond.fieldLink RX3 167 "PommelTows$Skiers" "rides" "[I", Cond.methodLink RX3 107 yX1_has, Cond.instanceMethod yX1_has, Cond.selects RX1 yX1_has yX1_has, Cond.initialized RX1, Cond.code yX1_has cX1_has 2 (some .boolean), Cond.fieldLink RX1 9 "PommelTows$Skiers" "count" "I", Cond.methodLink RX3 163 yX2_copyFrom, Cond.instanceMethod yX2_copyFrom, Cond.selects RX2 yX2_copyFrom yX2_copyFrom, Cond.initialized RX2, Cond.code yX2_copyFrom cX2_copyFrom 2 none, Cond.fieldLink RX2 9 "PommelTows$Village" "hour" "I", Cond.fieldLink RX2 15 "PommelTows$Village" "coins" "I", Cond.fieldLink RX2 18 "PommelTows$Village" "flakes" "[I", Cond.fieldLink RX2 22 "PommelTows$Village" "pommels" "[I", Cond.fieldLink RX2 25 "PommelTows$Village" "pulled" "[I", Cond.fieldLink RX2 31 "PommelTows$Village" "runs" "LPommelTows$Runs;", Cond.fieldLink RX2 38 "PommelTows$Village" "skiers" "LPommelTows$Skiers;"]
def wsX3_until_r2 : List Cond := [Cond.static yX3_copyRow, Cond.initialized RX3, Cond.code yX3_copyRow cX3_copyRow 2 none, Cond.methodLink RX3 194 Lib.Math.min.name, Cond.static Lib.Math.min.name, Cond.initialized "java/lang/Math", Cond.code Lib.Math.min.name Lib.Math.min.code 2 (some .int), Cond.methodLink RX3 202 arraycopyName, Cond.native arraycopyName, Cond.static arraycopyName, Cond.initialized "java/lang/System", Cond.methodLink RX2 46 yX0_copyFrom, Cond.instanceMethod yX0_copyFrom, Cond.selects RX0 yX0_copyFrom yX0_copyFrom, Cond.initialized RX0, Cond.code yX0_copyFrom cX0_copyFrom 2 none, Cond.fieldLink RX0 9 "PommelTows$Runs" "count" "I", Cond.fieldLink RX0 15 "PommelTows$Runs" "tow" "[I", Cond.fieldLink RX0 19 "PommelTows$Runs" "slope" "[I", Cond.fieldLink RX0 22 "PommelTows$Runs" "depth" "[I", Cond.fieldLink RX0 25 "PommelTows$Runs" "skied" "[I", Cond.methodLink RX2 50 yX1_copyFrom, Cond.instanceMethod yX1_copyFrom, Cond.selects RX1 yX1_copyFrom yX1_copyFrom]
def wsX3_until_r3 : List Cond := [Cond.code yX1_copyFrom cX1_copyFrom 2 none, Cond.fieldLink RX1 15 "PommelTows$Skiers" "skill" "[I", Cond.fieldLink RX1 19 "PommelTows$Skiers" "coins" "[I", Cond.fieldLink RX1 22 "PommelTows$Skiers" "wax" "[I", Cond.fieldLink RX1 25 "PommelTows$Skiers" "layer" "[I", Cond.fieldLink RX1 28 "PommelTows$Skiers" "points" "[I", Cond.fieldLink RX1 31 "PommelTows$Skiers" "rides" "[I", Cond.fieldLink RX1 34 "PommelTows$Skiers" "tow" "[I", Cond.fieldLink RX1 37 "PommelTows$Skiers" "place" "[I", Cond.methodLink RX3 160 yX2_letHoursGo, Cond.instanceMethod yX2_letHoursGo, Cond.selects RX2 yX2_letHoursGo yX2_letHoursGo, Cond.code yX2_letHoursGo cX2_letHoursGo 5 (some .int), Cond.methodLink RX2 65 yX2_flakeOfHour, Cond.instanceMethod yX2_flakeOfHour, Cond.selects RX2 yX2_flakeOfHour yX2_flakeOfHour, Cond.code yX2_flakeOfHour cX2_flakeOfHour 1 (some .int), Cond.methodLink RX2 53 yJ9_floorMod_7cf53, Cond.static yJ9_floorMod_7cf53, Cond.initialized RJ9, Cond.code yJ9_floorMod_7cf53 cJ9_floorMod_7cf53 3 (some .int), Cond.static yX3_snowOf, Cond.code yX3_snowOf cX3_snowOf 1 (some .int), Cond.methodLink RX2 73 yX0_deepenAll]
def wsX3_until_r4 : List Cond := [Cond.instanceMethod yX0_deepenAll, Cond.selects RX0 yX0_deepenAll yX0_deepenAll, Cond.code yX0_deepenAll cX0_deepenAll 3 none, Cond.methodLink RX0 32 yX0_deepen, Cond.instanceMethod yX0_deepen, Cond.selects RX0 yX0_deepen yX0_deepen, Cond.code yX0_deepen cX0_deepen 3 none, Cond.static yX3_held, Cond.code yX3_held cX3_held 3 (some .int), Cond.methodLink RX3 199 Lib.Math.max.name, Cond.static Lib.Math.max.name, Cond.code Lib.Math.max.name Lib.Math.max.code 2 (some .int), Cond.methodLink RX2 77 yX2_pullAt, Cond.instanceMethod yX2_pullAt, Cond.selects RX2 yX2_pullAt yX2_pullAt, Cond.code yX2_pullAt cX2_pullAt 6 (some .int), Cond.fieldLink RX2 93 "PommelTows$Skiers" "coins" "[I", Cond.fieldLink RX2 95 "PommelTows$Skiers" "rides" "[I", Cond.methodLink RX2 80 yX1_waitingAt, Cond.instanceMethod yX1_waitingAt, Cond.selects RX1 yX1_waitingAt yX1_waitingAt, Cond.code yX1_waitingAt cX1_waitingAt 4 (some .int), Cond.methodLink RX2 83 yX1_at, Cond.instanceMethod yX1_at]
def wsX3_until_r5 : List Cond := [Cond.selects RX1 yX1_at yX1_at, Cond.code yX1_at cX1_at 4 (some .int), Cond.methodLink RX2 86 yX1_has, Cond.methodLink RX2 90 yX1_takeOutOfQueue, Cond.instanceMethod yX1_takeOutOfQueue, Cond.selects RX1 yX1_takeOutOfQueue yX1_takeOutOfQueue, Cond.code yX1_takeOutOfQueue cX1_takeOutOfQueue 5 none, Cond.methodLink RX2 98 yX2_skiDown, Cond.instanceMethod yX2_skiDown, Cond.selects RX2 yX2_skiDown yX2_skiDown, Cond.code yX2_skiDown cX2_skiDown 5 none, Cond.fieldLink RX2 112 "PommelTows$Runs" "slope" "[I", Cond.fieldLink RX2 59 "PommelTows$Skiers" "skill" "[I", Cond.fieldLink RX2 121 "PommelTows$Runs" "skied" "[I", Cond.methodLink RX2 105 yX2_chosenRun, Cond.instanceMethod yX2_chosenRun, Cond.selects RX2 yX2_chosenRun yX2_chosenRun, Cond.code yX2_chosenRun cX2_chosenRun 3 (some .int), Cond.methodLink RX2 62 yX0_steepestOpen, Cond.instanceMethod yX0_steepestOpen, Cond.selects RX0 yX0_steepestOpen yX0_steepestOpen, Cond.code yX0_steepestOpen cX0_steepestOpen 7 (some .int), Cond.methodLink RX0 36 yX0_isOpen, Cond.instanceMethod yX0_isOpen]
def wsX3_until_r6 : List Cond := [Cond.selects RX0 yX0_isOpen yX0_isOpen, Cond.code yX0_isOpen cX0_isOpen 2 (some .boolean), Cond.methodLink RX2 108 yX0_has, Cond.instanceMethod yX0_has, Cond.selects RX0 yX0_has yX0_has, Cond.code yX0_has cX0_has 2 (some .boolean), Cond.methodLink RX2 109 yX1_glide, Cond.instanceMethod yX1_glide, Cond.selects RX1 yX1_glide yX1_glide, Cond.code yX1_glide cX1_glide 3 (some .int), Cond.methodLink RX1 44 Lib.Math.abs.name, Cond.static Lib.Math.abs.name, Cond.code Lib.Math.abs.name Lib.Math.abs.code 1 (some .int), Cond.methodLink RX2 115 yX1_addPoints, Cond.instanceMethod yX1_addPoints, Cond.selects RX1 yX1_addPoints yX1_addPoints, Cond.code yX1_addPoints cX1_addPoints 3 none, Cond.methodLink RX2 118 yX0_deepen, Cond.methodLink RX2 102 yX1_putAtEnd, Cond.instanceMethod yX1_putAtEnd, Cond.selects RX1 yX1_putAtEnd yX1_putAtEnd, Cond.code yX1_putAtEnd cX1_putAtEnd 4 none, Cond.methodLink RX1 40 yX1_waitingAt]
def wsX3_until : List Cond := .code yX3_until cX3_until 4 (some .int) :: ((wsX3_until_r1 ++ (wsX3_until_r2 ++ (wsX3_until_r3 ++ (wsX3_until_r4 ++ (wsX3_until_r5 ++ wsX3_until_r6))))) ++ wsX30 ++ wsX20 ++ wsX10 ++ wsX00 ++ (vx_atS RX3 27 "java/lang/IndexOutOfBoundsException" ["java/lang/RuntimeException", "java/lang/Exception"]).filter goodWord)
def wsX3_foresee_r1 : List Cond := [Cond.classLink RX3 30 "java/lang/IllegalArgumentException", Cond.initialized "java/lang/IllegalArgumentException", Cond.classLink RX3 23 "java/lang/IndexOutOfBoundsException", Cond.initialized "java/lang/IndexOutOfBoundsException", Cond.fieldLink RX3 16 "PommelTows" "trial" "LPommelTows$Village;", Cond.fieldLink RX3 10 "PommelTows" "now" "LPommelTows$Village;", Cond.methodLink RX3 19 yX3_isWithin, Cond.static yX3_isWithin, Cond.initialized RX3, Cond.code yX3_isWithin cX3_isWithin 3 (some .boolean), Cond.methodLink RX3 163 yX2_copyFrom, Cond.instanceMethod yX2_copyFrom, Cond.selects RX2 yX2_copyFrom yX2_copyFrom, Cond.initialized RX2, Cond.code yX2_copyFrom cX2_copyFrom 2 none, Cond.fieldLink RX2 9 "PommelTows$Village" "hour" "I", Cond.fieldLink RX2 15 "PommelTows$Village" "coins" "I", Cond.fieldLink RX2 18 "PommelTows$Village" "flakes" "[I", Cond.fieldLink RX2 22 "PommelTows$Village" "pommels" "[I", Cond.fieldLink RX2 25 "PommelTows$Village" "pulled" "[I", Cond.fieldLink RX2 31 "PommelTows$Village" "runs" "LPommelTows$Runs;", Cond.fieldLink RX2 38 "PommelTows$Village" "skiers" "LPommelTows$Skiers;", Cond.static yX3_copyRow, Cond.code yX3_copyRow cX3_copyRow 2 none]
def wsX3_foresee_r2 : List Cond := [Cond.methodLink RX3 194 Lib.Math.min.name, Cond.static Lib.Math.min.name, Cond.initialized "java/lang/Math", Cond.code Lib.Math.min.name Lib.Math.min.code 2 (some .int), Cond.methodLink RX3 202 arraycopyName, Cond.native arraycopyName, Cond.static arraycopyName, Cond.initialized "java/lang/System", Cond.methodLink RX2 46 yX0_copyFrom, Cond.instanceMethod yX0_copyFrom, Cond.selects RX0 yX0_copyFrom yX0_copyFrom, Cond.initialized RX0, Cond.code yX0_copyFrom cX0_copyFrom 2 none, Cond.fieldLink RX0 9 "PommelTows$Runs" "count" "I", Cond.fieldLink RX0 15 "PommelTows$Runs" "tow" "[I", Cond.fieldLink RX0 19 "PommelTows$Runs" "slope" "[I", Cond.fieldLink RX0 22 "PommelTows$Runs" "depth" "[I", Cond.fieldLink RX0 25 "PommelTows$Runs" "skied" "[I", Cond.methodLink RX2 50 yX1_copyFrom, Cond.instanceMethod yX1_copyFrom, Cond.selects RX1 yX1_copyFrom yX1_copyFrom, Cond.initialized RX1, Cond.code yX1_copyFrom cX1_copyFrom 2 none, Cond.fieldLink RX1 9 "PommelTows$Skiers" "count" "I"]
def wsX3_foresee_r3 : List Cond := [Cond.fieldLink RX1 15 "PommelTows$Skiers" "skill" "[I", Cond.fieldLink RX1 19 "PommelTows$Skiers" "coins" "[I", Cond.fieldLink RX1 22 "PommelTows$Skiers" "wax" "[I", Cond.fieldLink RX1 25 "PommelTows$Skiers" "layer" "[I", Cond.fieldLink RX1 28 "PommelTows$Skiers" "points" "[I", Cond.fieldLink RX1 31 "PommelTows$Skiers" "rides" "[I", Cond.fieldLink RX1 34 "PommelTows$Skiers" "tow" "[I", Cond.fieldLink RX1 37 "PommelTows$Skiers" "place" "[I", Cond.methodLink RX3 160 yX2_letHoursGo, Cond.instanceMethod yX2_letHoursGo, Cond.selects RX2 yX2_letHoursGo yX2_letHoursGo, Cond.code yX2_letHoursGo cX2_letHoursGo 5 (some .int), Cond.methodLink RX2 65 yX2_flakeOfHour, Cond.instanceMethod yX2_flakeOfHour, Cond.selects RX2 yX2_flakeOfHour yX2_flakeOfHour, Cond.code yX2_flakeOfHour cX2_flakeOfHour 1 (some .int), Cond.methodLink RX2 53 yJ9_floorMod_7cf53, Cond.static yJ9_floorMod_7cf53, Cond.initialized RJ9, Cond.code yJ9_floorMod_7cf53 cJ9_floorMod_7cf53 3 (some .int), Cond.static yX3_snowOf, Cond.code yX3_snowOf cX3_snowOf 1 (some .int), Cond.methodLink RX2 73 yX0_deepenAll, Cond.instanceMethod yX0_deepenAll]
def wsX3_foresee_r4 : List Cond := [Cond.selects RX0 yX0_deepenAll yX0_deepenAll, Cond.code yX0_deepenAll cX0_deepenAll 3 none, Cond.methodLink RX0 32 yX0_deepen, Cond.instanceMethod yX0_deepen, Cond.selects RX0 yX0_deepen yX0_deepen, Cond.code yX0_deepen cX0_deepen 3 none, Cond.static yX3_held, Cond.code yX3_held cX3_held 3 (some .int), Cond.methodLink RX3 199 Lib.Math.max.name, Cond.static Lib.Math.max.name, Cond.code Lib.Math.max.name Lib.Math.max.code 2 (some .int), Cond.methodLink RX2 77 yX2_pullAt, Cond.instanceMethod yX2_pullAt, Cond.selects RX2 yX2_pullAt yX2_pullAt, Cond.code yX2_pullAt cX2_pullAt 6 (some .int), Cond.fieldLink RX2 93 "PommelTows$Skiers" "coins" "[I", Cond.fieldLink RX2 95 "PommelTows$Skiers" "rides" "[I", Cond.methodLink RX2 80 yX1_waitingAt, Cond.instanceMethod yX1_waitingAt, Cond.selects RX1 yX1_waitingAt yX1_waitingAt, Cond.code yX1_waitingAt cX1_waitingAt 4 (some .int), Cond.methodLink RX2 83 yX1_at, Cond.instanceMethod yX1_at, Cond.selects RX1 yX1_at yX1_at]
def wsX3_foresee_r5 : List Cond := [Cond.code yX1_at cX1_at 4 (some .int), Cond.methodLink RX2 86 yX1_has, Cond.instanceMethod yX1_has, Cond.selects RX1 yX1_has yX1_has, Cond.code yX1_has cX1_has 2 (some .boolean), Cond.methodLink RX2 90 yX1_takeOutOfQueue, Cond.instanceMethod yX1_takeOutOfQueue, Cond.selects RX1 yX1_takeOutOfQueue yX1_takeOutOfQueue, Cond.code yX1_takeOutOfQueue cX1_takeOutOfQueue 5 none, Cond.methodLink RX2 98 yX2_skiDown, Cond.instanceMethod yX2_skiDown, Cond.selects RX2 yX2_skiDown yX2_skiDown, Cond.code yX2_skiDown cX2_skiDown 5 none, Cond.fieldLink RX2 112 "PommelTows$Runs" "slope" "[I", Cond.fieldLink RX2 59 "PommelTows$Skiers" "skill" "[I", Cond.fieldLink RX2 121 "PommelTows$Runs" "skied" "[I", Cond.methodLink RX2 105 yX2_chosenRun, Cond.instanceMethod yX2_chosenRun, Cond.selects RX2 yX2_chosenRun yX2_chosenRun, Cond.code yX2_chosenRun cX2_chosenRun 3 (some .int), Cond.methodLink RX2 62 yX0_steepestOpen, Cond.instanceMethod yX0_steepestOpen, Cond.selects RX0 yX0_steepestOpen yX0_steepestOpen, Cond.code yX0_steepestOpen cX0_steepestOpen 7 (some .int)]
def wsX3_foresee_r6 : List Cond := [Cond.methodLink RX0 36 yX0_isOpen, Cond.instanceMethod yX0_isOpen, Cond.selects RX0 yX0_isOpen yX0_isOpen, Cond.code yX0_isOpen cX0_isOpen 2 (some .boolean), Cond.methodLink RX2 108 yX0_has, Cond.instanceMethod yX0_has, Cond.selects RX0 yX0_has yX0_has, Cond.code yX0_has cX0_has 2 (some .boolean), Cond.methodLink RX2 109 yX1_glide, Cond.instanceMethod yX1_glide, Cond.selects RX1 yX1_glide yX1_glide, Cond.code yX1_glide cX1_glide 3 (some .int), Cond.methodLink RX1 44 Lib.Math.abs.name, Cond.static Lib.Math.abs.name, Cond.code Lib.Math.abs.name Lib.Math.abs.code 1 (some .int), Cond.methodLink RX2 115 yX1_addPoints, Cond.instanceMethod yX1_addPoints, Cond.selects RX1 yX1_addPoints yX1_addPoints, Cond.code yX1_addPoints cX1_addPoints 3 none, Cond.methodLink RX2 118 yX0_deepen, Cond.methodLink RX2 102 yX1_putAtEnd, Cond.instanceMethod yX1_putAtEnd, Cond.selects RX1 yX1_putAtEnd yX1_putAtEnd, Cond.code yX1_putAtEnd cX1_putAtEnd 4 none]
def wsX3_foresee_r7 : List Cond := [Cond.methodLink RX1 40 yX1_waitingAt, Cond.methodLink RX3 155 yX2_figure, Cond.instanceMethod yX2_figure, Cond.selects RX2 yX2_figure yX2_figure, Cond.code yX2_figure cX2_figure 2 (some .int), Cond.fieldLink RX2 124 "PommelTows$Runs" "count" "I", Cond.fieldLink RX2 127 "PommelTows$Skiers" "count" "I", Cond.methodLink RX2 128 yX0_flagged, Cond.instanceMethod yX0_flagged, Cond.selects RX0 yX0_flagged yX0_flagged, Cond.code yX0_flagged cX0_flagged 3 (some .int), Cond.methodLink RX2 131 yX2_allRides, Cond.instanceMethod yX2_allRides, Cond.selects RX2 yX2_allRides yX2_allRides, Cond.code yX2_allRides cX2_allRides 3 (some .int), Cond.methodLink RX2 134 yX1_waitingAnywhere, Cond.instanceMethod yX1_waitingAnywhere, Cond.selects RX1 yX1_waitingAnywhere yX1_waitingAnywhere, Cond.code yX1_waitingAnywhere cX1_waitingAnywhere 3 (some .int), Cond.methodLink RX2 137 yX1_allPoints, Cond.instanceMethod yX1_allPoints, Cond.selects RX1 yX1_allPoints yX1_allPoints, Cond.code yX1_allPoints cX1_allPoints 3 (some .int)]
def wsX3_foresee : List Cond := .code yX3_foresee cX3_foresee 3 (some .int) :: ((wsX3_foresee_r1 ++ (wsX3_foresee_r2 ++ (wsX3_foresee_r3 ++ (wsX3_foresee_r4 ++ (wsX3_foresee_r5 ++ (wsX3_foresee_r6 ++ wsX3_foresee_r7)))))) ++ wsX30 ++ wsX20 ++ wsX00 ++ wsX10 ++ (vx_atS RX3 34 "java/lang/IllegalArgumentException" ["java/lang/RuntimeException", "java/lang/Exception"]).filter goodWord ++ (vx_atS RX3 27 "java/lang/IndexOutOfBoundsException" ["java/lang/RuntimeException", "java/lang/Exception"]).filter goodWord)
def wsX3_mean : List Cond := .code yX3_mean cX3_mean 1 (some .double) :: ([.fieldLink RX3 10 "PommelTows" "now" "LPommelTows$Village;", .fieldLink RX3 97 "PommelTows$Village" "skiers" "LPommelTows$Skiers;", .fieldLink RX3 175 "PommelTows$Skiers" "count" "I", .methodLink RX3 178 yX1_allPoints, .instanceMethod yX1_allPoints, .selects RX1 yX1_allPoints yX1_allPoints, .initialized RX1, .code yX1_allPoints cX1_allPoints 3 (some .int), .fieldLink RX1 9 "PommelTows$Skiers" "count" "I", .fieldLink RX1 28 "PommelTows$Skiers" "points" "[I"] ++ wsX30 ++ wsX20 ++ wsX10)
def wsX3_mixed : List Cond := .code yX3_mixed cX3_mixed 3 (some .long) :: ([.constantLong RX3 192 (31)])
def wsX3_digest_r1 : List Cond := [Cond.constantLong RX3 182 (1481), Cond.fieldLink RX3 10 "PommelTows" "now" "LPommelTows$Village;", Cond.fieldLink RX3 64 "PommelTows$Village" "flakes" "[I", Cond.fieldLink RX3 35 "PommelTows$Village" "runs" "LPommelTows$Runs;", Cond.fieldLink RX3 188 "PommelTows$Runs" "count" "I", Cond.fieldLink RX3 97 "PommelTows$Village" "skiers" "LPommelTows$Skiers;", Cond.fieldLink RX3 175 "PommelTows$Skiers" "count" "I", Cond.methodLink RX3 155 yX2_figure, Cond.instanceMethod yX2_figure, Cond.selects RX2 yX2_figure yX2_figure, Cond.initialized RX2, Cond.code yX2_figure cX2_figure 2 (some .int), Cond.fieldLink RX2 9 "PommelTows$Village" "hour" "I", Cond.fieldLink RX2 15 "PommelTows$Village" "coins" "I", Cond.fieldLink RX2 31 "PommelTows$Village" "runs" "LPommelTows$Runs;", Cond.fieldLink RX2 124 "PommelTows$Runs" "count" "I", Cond.fieldLink RX2 38 "PommelTows$Village" "skiers" "LPommelTows$Skiers;", Cond.fieldLink RX2 127 "PommelTows$Skiers" "count" "I", Cond.methodLink RX2 65 yX2_flakeOfHour, Cond.instanceMethod yX2_flakeOfHour, Cond.selects RX2 yX2_flakeOfHour yX2_flakeOfHour, Cond.code yX2_flakeOfHour cX2_flakeOfHour 1 (some .int), Cond.fieldLink RX2 18 "PommelTows$Village" "flakes" "[I", Cond.methodLink RX2 53 yJ9_floorMod_7cf53]
def wsX3_digest_r2 : List Cond := [Cond.static yJ9_floorMod_7cf53, Cond.initialized RJ9, Cond.code yJ9_floorMod_7cf53 cJ9_floorMod_7cf53 3 (some .int), Cond.methodLink RX2 128 yX0_flagged, Cond.instanceMethod yX0_flagged, Cond.selects RX0 yX0_flagged yX0_flagged, Cond.initialized RX0, Cond.code yX0_flagged cX0_flagged 3 (some .int), Cond.fieldLink RX0 9 "PommelTows$Runs" "count" "I", Cond.methodLink RX0 36 yX0_isOpen, Cond.instanceMethod yX0_isOpen, Cond.selects RX0 yX0_isOpen yX0_isOpen, Cond.code yX0_isOpen cX0_isOpen 2 (some .boolean), Cond.fieldLink RX0 22 "PommelTows$Runs" "depth" "[I", Cond.fieldLink RX0 19 "PommelTows$Runs" "slope" "[I", Cond.methodLink RX2 131 yX2_allRides, Cond.instanceMethod yX2_allRides, Cond.selects RX2 yX2_allRides yX2_allRides, Cond.code yX2_allRides cX2_allRides 3 (some .int), Cond.fieldLink RX2 25 "PommelTows$Village" "pulled" "[I", Cond.methodLink RX2 134 yX1_waitingAnywhere, Cond.instanceMethod yX1_waitingAnywhere, Cond.selects RX1 yX1_waitingAnywhere yX1_waitingAnywhere, Cond.initialized RX1]
def wsX3_digest_r3 : List Cond := [Cond.code yX1_waitingAnywhere cX1_waitingAnywhere 3 (some .int), Cond.fieldLink RX1 9 "PommelTows$Skiers" "count" "I", Cond.fieldLink RX1 34 "PommelTows$Skiers" "tow" "[I", Cond.methodLink RX2 137 yX1_allPoints, Cond.instanceMethod yX1_allPoints, Cond.selects RX1 yX1_allPoints yX1_allPoints, Cond.code yX1_allPoints cX1_allPoints 3 (some .int), Cond.fieldLink RX1 28 "PommelTows$Skiers" "points" "[I", Cond.methodLink RX3 184 yX3_mixed, Cond.static yX3_mixed, Cond.initialized RX3, Cond.code yX3_mixed cX3_mixed 3 (some .long), Cond.constantLong RX3 192 (31), Cond.methodLink RX3 134 yX0_figure, Cond.instanceMethod yX0_figure, Cond.selects RX0 yX0_figure yX0_figure, Cond.code yX0_figure cX0_figure 3 (some .int), Cond.fieldLink RX0 15 "PommelTows$Runs" "tow" "[I", Cond.fieldLink RX0 25 "PommelTows$Runs" "skied" "[I", Cond.methodLink RX3 139 yX1_figure, Cond.instanceMethod yX1_figure, Cond.selects RX1 yX1_figure yX1_figure, Cond.code yX1_figure cX1_figure 3 (some .int), Cond.fieldLink RX1 15 "PommelTows$Skiers" "skill" "[I"]
def wsX3_digest_r4 : List Cond := [Cond.fieldLink RX1 19 "PommelTows$Skiers" "coins" "[I", Cond.fieldLink RX1 25 "PommelTows$Skiers" "layer" "[I", Cond.fieldLink RX1 22 "PommelTows$Skiers" "wax" "[I", Cond.fieldLink RX1 31 "PommelTows$Skiers" "rides" "[I", Cond.methodLink RX3 142 yX2_towFigure, Cond.instanceMethod yX2_towFigure, Cond.selects RX2 yX2_towFigure yX2_towFigure, Cond.code yX2_towFigure cX2_towFigure 3 (some .int), Cond.fieldLink RX2 22 "PommelTows$Village" "pommels" "[I", Cond.methodLink RX2 80 yX1_waitingAt, Cond.instanceMethod yX1_waitingAt, Cond.selects RX1 yX1_waitingAt yX1_waitingAt, Cond.code yX1_waitingAt cX1_waitingAt 4 (some .int), Cond.methodLink RX3 189 yX1_waitingAt, Cond.methodLink RX3 145 yX1_at, Cond.instanceMethod yX1_at, Cond.selects RX1 yX1_at yX1_at, Cond.code yX1_at cX1_at 4 (some .int), Cond.fieldLink RX1 37 "PommelTows$Skiers" "place" "[I"]
def wsX3_digest : List Cond := .code yX3_digest cX3_digest 6 (some .long) :: ((wsX3_digest_r1 ++ (wsX3_digest_r2 ++ (wsX3_digest_r3 ++ wsX3_digest_r4))) ++ wsX30 ++ wsX20 ++ wsX00 ++ wsX10)
def wsJ6_bitCount_0f7a4 : List Cond := .code yJ6_bitCount_0f7a4 cJ6_bitCount_0f7a4 1 (some .int) :: ([.constant RJ6 265 (1431655765), .constant RJ6 266 (858993459), .constant RJ6 267 (252645135)])
def wsJ9_abs_0f7a4 : List Cond := .code yJ9_abs_0f7a4 cJ9_abs_0f7a4 1 (some .int) :: ([])
def wsJ9_max_7cf53 : List Cond := .code yJ9_max_7cf53 cJ9_max_7cf53 2 (some .int) :: ([])
def wsJ9_min_7cf53 : List Cond := .code yJ9_min_7cf53 cJ9_min_7cf53 2 (some .int) :: ([])
def wsL_below : List Cond := .code yL_below cL_below 2 (some .int) :: ([.constant RL 7 (2147483647)])
def wsL_cell : List Cond := .code yL_cell cL_cell 2 (some .int) :: ([.constant RL 8 (461243603)])
def wsL_flakeOf : List Cond := .code yL_flakeOf cL_flakeOf 2 (some .int) :: ([.methodLink RL 9 yL_cell, .static yL_cell, .initialized RL, .code yL_cell cL_cell 2 (some .int), .constant RL 8 (461243603), .methodLink RL 15 yL_below, .static yL_below, .code yL_below cL_below 2 (some .int), .constant RL 7 (2147483647)])
def wsL_pommelsOf : List Cond := .code yL_pommelsOf cL_pommelsOf 2 (some .int) :: ([.methodLink RL 9 yL_cell, .static yL_cell, .initialized RL, .code yL_cell cL_cell 2 (some .int), .constant RL 8 (461243603), .methodLink RL 15 yL_below, .static yL_below, .code yL_below cL_below 2 (some .int), .constant RL 7 (2147483647)])
def wsL_towOf : List Cond := .code yL_towOf cL_towOf 2 (some .int) :: ([.methodLink RL 9 yL_cell, .static yL_cell, .initialized RL, .code yL_cell cL_cell 2 (some .int), .constant RL 8 (461243603), .methodLink RL 15 yL_below, .static yL_below, .code yL_below cL_below 2 (some .int), .constant RL 7 (2147483647)])
def wsL_slopeOf : List Cond := .code yL_slopeOf cL_slopeOf 2 (some .int) :: ([.methodLink RL 9 yL_cell, .static yL_cell, .initialized RL, .code yL_cell cL_cell 2 (some .int), .constant RL 8 (461243603), .methodLink RL 15 yL_below, .static yL_below, .code yL_below cL_below 2 (some .int), .constant RL 7 (2147483647)])
def wsL_skillOf : List Cond := .code yL_skillOf cL_skillOf 2 (some .int) :: ([.methodLink RL 9 yL_cell, .static yL_cell, .initialized RL, .code yL_cell cL_cell 2 (some .int), .constant RL 8 (461243603), .methodLink RL 15 yL_below, .static yL_below, .code yL_below cL_below 2 (some .int), .constant RL 7 (2147483647)])
def wsL_coinsOf : List Cond := .code yL_coinsOf cL_coinsOf 2 (some .int) :: ([.methodLink RL 9 yL_cell, .static yL_cell, .initialized RL, .code yL_cell cL_cell 2 (some .int), .constant RL 8 (461243603), .methodLink RL 15 yL_below, .static yL_below, .code yL_below cL_below 2 (some .int), .constant RL 7 (2147483647)])
def wsL_waxOf : List Cond := .code yL_waxOf cL_waxOf 2 (some .int) :: ([.methodLink RL 19 yL_coinsOf, .static yL_coinsOf, .initialized RL, .code yL_coinsOf cL_coinsOf 2 (some .int), .methodLink RL 9 yL_cell, .static yL_cell, .code yL_cell cL_cell 2 (some .int), .constant RL 8 (461243603), .methodLink RL 15 yL_below, .static yL_below, .code yL_below cL_below 2 (some .int), .constant RL 7 (2147483647)])
def wsL_standsOf : List Cond := .code yL_standsOf cL_standsOf 2 (some .int) :: ([.methodLink RL 9 yL_cell, .static yL_cell, .initialized RL, .code yL_cell cL_cell 2 (some .int), .constant RL 8 (461243603), .methodLink RL 15 yL_below, .static yL_below, .code yL_below cL_below 2 (some .int), .constant RL 7 (2147483647)])
def wsL_village_r1 : List Cond := [Cond.classLink RL 22 RX3, Cond.instantiable RX3 2, Cond.initialized RX3, Cond.methodLink RL 24 yX3_init, Cond.instanceMethod yX3_init, Cond.code yX3_init cX3_init 1 none, Cond.methodLink RX3 1 objectInit, Cond.instanceMethod objectInit, Cond.code objectInit ⟨#[0xb1]⟩ 1 none, Cond.classLink RX3 7 RX2, Cond.instantiable RX2 7, Cond.initialized RX2, Cond.fieldLink RX3 10 "PommelTows" "now" "LPommelTows$Village;", Cond.fieldLink RX3 16 "PommelTows" "trial" "LPommelTows$Village;", Cond.methodLink RX3 9 yX2_init, Cond.instanceMethod yX2_init, Cond.code yX2_init cX2_init 2 none, Cond.methodLink RX2 3 objectInit, Cond.fieldLink RX2 9 "PommelTows$Village" "hour" "I", Cond.fieldLink RX2 15 "PommelTows$Village" "coins" "I", Cond.arrayClass .int, Cond.fieldLink RX2 18 "PommelTows$Village" "flakes" "[I", Cond.fieldLink RX2 22 "PommelTows$Village" "pommels" "[I", Cond.fieldLink RX2 25 "PommelTows$Village" "pulled" "[I"]
def wsL_village_r2 : List Cond := [Cond.classLink RX2 28 RX0, Cond.instantiable RX0 5, Cond.initialized RX0, Cond.fieldLink RX2 31 "PommelTows$Village" "runs" "LPommelTows$Runs;", Cond.classLink RX2 35 RX1, Cond.instantiable RX1 9, Cond.initialized RX1, Cond.fieldLink RX2 38 "PommelTows$Village" "skiers" "LPommelTows$Skiers;", Cond.instanceMethod yX0_init, Cond.code yX0_init cX0_init 1 none, Cond.methodLink RX0 3 objectInit, Cond.fieldLink RX0 9 "PommelTows$Runs" "count" "I", Cond.fieldLink RX0 15 "PommelTows$Runs" "tow" "[I", Cond.fieldLink RX0 19 "PommelTows$Runs" "slope" "[I", Cond.fieldLink RX0 22 "PommelTows$Runs" "depth" "[I", Cond.fieldLink RX0 25 "PommelTows$Runs" "skied" "[I", Cond.instanceMethod yX1_init, Cond.code yX1_init cX1_init 1 none, Cond.methodLink RX1 3 objectInit, Cond.fieldLink RX1 9 "PommelTows$Skiers" "count" "I", Cond.fieldLink RX1 15 "PommelTows$Skiers" "skill" "[I", Cond.fieldLink RX1 19 "PommelTows$Skiers" "coins" "[I", Cond.fieldLink RX1 22 "PommelTows$Skiers" "wax" "[I", Cond.fieldLink RX1 25 "PommelTows$Skiers" "layer" "[I"]
def wsL_village_r3 : List Cond := [Cond.fieldLink RX1 28 "PommelTows$Skiers" "points" "[I", Cond.fieldLink RX1 31 "PommelTows$Skiers" "rides" "[I", Cond.fieldLink RX1 34 "PommelTows$Skiers" "tow" "[I", Cond.fieldLink RX1 37 "PommelTows$Skiers" "place" "[I", Cond.methodLink RL 25 yL_flakeOf, Cond.static yL_flakeOf, Cond.initialized RL, Cond.code yL_flakeOf cL_flakeOf 2 (some .int), Cond.methodLink RL 9 yL_cell, Cond.static yL_cell, Cond.code yL_cell cL_cell 2 (some .int), Cond.constant RL 8 (461243603), Cond.methodLink RL 15 yL_below, Cond.static yL_below, Cond.code yL_below cL_below 2 (some .int), Cond.constant RL 7 (2147483647), Cond.methodLink RL 28 yX3_setFlake, Cond.instanceMethod yX3_setFlake, Cond.selects RX3 yX3_setFlake yX3_setFlake, Cond.code yX3_setFlake cX3_setFlake 4 (some .int), Cond.classLink RX3 23 "java/lang/IndexOutOfBoundsException", Cond.initialized "java/lang/IndexOutOfBoundsException", Cond.classLink RX3 30 "java/lang/IllegalArgumentException", Cond.initialized "java/lang/IllegalArgumentException"]
def wsL_village_r4 : List Cond := [Cond.fieldLink RX3 64 "PommelTows$Village" "flakes" "[I", Cond.methodLink RX3 19 yX3_isWithin, Cond.static yX3_isWithin, Cond.code yX3_isWithin cX3_isWithin 3 (some .boolean), Cond.methodLink RL 31 yL_pommelsOf, Cond.static yL_pommelsOf, Cond.code yL_pommelsOf cL_pommelsOf 2 (some .int), Cond.methodLink RL 34 yX3_setPommels, Cond.instanceMethod yX3_setPommels, Cond.selects RX3 yX3_setPommels yX3_setPommels, Cond.code yX3_setPommels cX3_setPommels 4 (some .int), Cond.fieldLink RX3 56 "PommelTows$Village" "pommels" "[I", Cond.methodLink RL 37 yL_towOf, Cond.static yL_towOf, Cond.code yL_towOf cL_towOf 2 (some .int), Cond.methodLink RL 40 yL_slopeOf, Cond.static yL_slopeOf, Cond.code yL_slopeOf cL_slopeOf 2 (some .int), Cond.methodLink RL 43 yX3_run, Cond.instanceMethod yX3_run, Cond.selects RX3 yX3_run yX3_run, Cond.code yX3_run cX3_run 3 (some .int), Cond.classLink RX3 45 "java/lang/IllegalStateException", Cond.initialized "java/lang/IllegalStateException"]
def wsL_village_r5 : List Cond := [Cond.fieldLink RX3 35 "PommelTows$Village" "runs" "LPommelTows$Runs;", Cond.methodLink RX3 39 yX0_isFull, Cond.instanceMethod yX0_isFull, Cond.selects RX0 yX0_isFull yX0_isFull, Cond.code yX0_isFull cX0_isFull 1 (some .boolean), Cond.methodLink RX3 50 yX0_add, Cond.instanceMethod yX0_add, Cond.selects RX0 yX0_add yX0_add, Cond.code yX0_add cX0_add 4 (some .int), Cond.methodLink RL 46 yL_skillOf, Cond.static yL_skillOf, Cond.code yL_skillOf cL_skillOf 2 (some .int), Cond.methodLink RL 19 yL_coinsOf, Cond.static yL_coinsOf, Cond.code yL_coinsOf cL_coinsOf 2 (some .int), Cond.methodLink RL 49 yX3_skier, Cond.instanceMethod yX3_skier, Cond.selects RX3 yX3_skier yX3_skier, Cond.code yX3_skier cX3_skier 3 (some .int), Cond.fieldLink RX3 97 "PommelTows$Village" "skiers" "LPommelTows$Skiers;", Cond.methodLink RX3 101 yX1_isFull, Cond.instanceMethod yX1_isFull, Cond.selects RX1 yX1_isFull yX1_isFull, Cond.code yX1_isFull cX1_isFull 1 (some .boolean)]
def wsL_village_r6 : List Cond := [Cond.methodLink RX3 106 yX1_add, Cond.instanceMethod yX1_add, Cond.selects RX1 yX1_add yX1_add, Cond.code yX1_add cX1_add 4 (some .int), Cond.methodLink RL 52 yL_waxOf, Cond.static yL_waxOf, Cond.code yL_waxOf cL_waxOf 2 (some .int), Cond.methodLink RL 55 yX3_wax, Cond.instanceMethod yX3_wax, Cond.selects RX3 yX3_wax yX3_wax, Cond.code yX3_wax cX3_wax 3 (some .int), Cond.fieldLink RX3 112 "PommelTows$Skiers" "coins" "[I", Cond.fieldLink RX3 73 "PommelTows$Village" "coins" "I", Cond.methodLink RX3 107 yX1_has, Cond.instanceMethod yX1_has, Cond.selects RX1 yX1_has yX1_has, Cond.code yX1_has cX1_has 2 (some .boolean), Cond.methodLink RX3 116 yX1_putWaxOn, Cond.instanceMethod yX1_putWaxOn, Cond.selects RX1 yX1_putWaxOn yX1_putWaxOn, Cond.code yX1_putWaxOn cX1_putWaxOn 3 none, Cond.methodLink RL 58 yL_standsOf, Cond.static yL_standsOf, Cond.code yL_standsOf cL_standsOf 2 (some .int)]
def wsL_village_r7 : List Cond := [Cond.methodLink RL 61 yX3_join, Cond.instanceMethod yX3_join, Cond.selects RX3 yX3_join yX3_join, Cond.code yX3_join cX3_join 3 (some .int), Cond.fieldLink RX3 126 "PommelTows$Skiers" "place" "[I", Cond.methodLink RX3 119 yX1_takeOutOfQueue, Cond.instanceMethod yX1_takeOutOfQueue, Cond.selects RX1 yX1_takeOutOfQueue yX1_takeOutOfQueue, Cond.code yX1_takeOutOfQueue cX1_takeOutOfQueue 5 none, Cond.methodLink RX3 123 yX1_putAtEnd, Cond.instanceMethod yX1_putAtEnd, Cond.selects RX1 yX1_putAtEnd yX1_putAtEnd, Cond.code yX1_putAtEnd cX1_putAtEnd 4 none, Cond.methodLink RX1 40 yX1_waitingAt, Cond.instanceMethod yX1_waitingAt, Cond.selects RX1 yX1_waitingAt yX1_waitingAt, Cond.code yX1_waitingAt cX1_waitingAt 4 (some .int)]
def wsL_village : List Cond := .code yL_village cL_village 3 (some (.object "PommelTows")) :: ((wsL_village_r1 ++ (wsL_village_r2 ++ (wsL_village_r3 ++ (wsL_village_r4 ++ (wsL_village_r5 ++ (wsL_village_r6 ++ wsL_village_r7)))))) ++ wsX30 ++ wsX20 ++ wsX00 ++ wsX10 ++ (vx_atS RX3 27 "java/lang/IndexOutOfBoundsException" ["java/lang/RuntimeException", "java/lang/Exception"]).filter goodWord ++ (vx_atS RX3 34 "java/lang/IllegalArgumentException" ["java/lang/RuntimeException", "java/lang/Exception"]).filter goodWord ++ (vx_atS RX3 49 "java/lang/IllegalStateException" ["java/lang/RuntimeException", "java/lang/Exception"]).filter goodWord)
def wsL_law0_r1 : List Cond := [Cond.constantDouble RL 102 (4617315517961601024), Cond.methodLink RL 64 yL_village, Cond.static yL_village, Cond.initialized RL, Cond.code yL_village cL_village 3 (some (.object "PommelTows")), Cond.classLink RL 22 RX3, Cond.instantiable RX3 2, Cond.initialized RX3, Cond.methodLink RL 24 yX3_init, Cond.instanceMethod yX3_init, Cond.code yX3_init cX3_init 1 none, Cond.methodLink RX3 1 objectInit, Cond.instanceMethod objectInit, Cond.code objectInit ⟨#[0xb1]⟩ 1 none, Cond.classLink RX3 7 RX2, Cond.instantiable RX2 7, Cond.initialized RX2, Cond.fieldLink RX3 10 "PommelTows" "now" "LPommelTows$Village;", Cond.fieldLink RX3 16 "PommelTows" "trial" "LPommelTows$Village;", Cond.methodLink RX3 9 yX2_init, Cond.instanceMethod yX2_init, Cond.code yX2_init cX2_init 2 none, Cond.methodLink RX2 3 objectInit, Cond.fieldLink RX2 9 "PommelTows$Village" "hour" "I"]
def wsL_law0_r2 : List Cond := [Cond.fieldLink RX2 15 "PommelTows$Village" "coins" "I", Cond.arrayClass .int, Cond.fieldLink RX2 18 "PommelTows$Village" "flakes" "[I", Cond.fieldLink RX2 22 "PommelTows$Village" "pommels" "[I", Cond.fieldLink RX2 25 "PommelTows$Village" "pulled" "[I", Cond.classLink RX2 28 RX0, Cond.instantiable RX0 5, Cond.initialized RX0, Cond.fieldLink RX2 31 "PommelTows$Village" "runs" "LPommelTows$Runs;", Cond.classLink RX2 35 RX1, Cond.instantiable RX1 9, Cond.initialized RX1, Cond.fieldLink RX2 38 "PommelTows$Village" "skiers" "LPommelTows$Skiers;", Cond.instanceMethod yX0_init, Cond.code yX0_init cX0_init 1 none, Cond.methodLink RX0 3 objectInit, Cond.fieldLink RX0 9 "PommelTows$Runs" "count" "I", Cond.fieldLink RX0 15 "PommelTows$Runs" "tow" "[I", Cond.fieldLink RX0 19 "PommelTows$Runs" "slope" "[I", Cond.fieldLink RX0 22 "PommelTows$Runs" "depth" "[I", Cond.fieldLink RX0 25 "PommelTows$Runs" "skied" "[I", Cond.instanceMethod yX1_init, Cond.code yX1_init cX1_init 1 none, Cond.methodLink RX1 3 objectInit]
def wsL_law0_r3 : List Cond := [Cond.fieldLink RX1 9 "PommelTows$Skiers" "count" "I", Cond.fieldLink RX1 15 "PommelTows$Skiers" "skill" "[I", Cond.fieldLink RX1 19 "PommelTows$Skiers" "coins" "[I", Cond.fieldLink RX1 22 "PommelTows$Skiers" "wax" "[I", Cond.fieldLink RX1 25 "PommelTows$Skiers" "layer" "[I", Cond.fieldLink RX1 28 "PommelTows$Skiers" "points" "[I", Cond.fieldLink RX1 31 "PommelTows$Skiers" "rides" "[I", Cond.fieldLink RX1 34 "PommelTows$Skiers" "tow" "[I", Cond.fieldLink RX1 37 "PommelTows$Skiers" "place" "[I", Cond.methodLink RL 25 yL_flakeOf, Cond.static yL_flakeOf, Cond.code yL_flakeOf cL_flakeOf 2 (some .int), Cond.methodLink RL 9 yL_cell, Cond.static yL_cell, Cond.code yL_cell cL_cell 2 (some .int), Cond.constant RL 8 (461243603), Cond.methodLink RL 15 yL_below, Cond.static yL_below, Cond.code yL_below cL_below 2 (some .int), Cond.constant RL 7 (2147483647), Cond.methodLink RL 28 yX3_setFlake, Cond.instanceMethod yX3_setFlake, Cond.selects RX3 yX3_setFlake yX3_setFlake, Cond.code yX3_setFlake cX3_setFlake 4 (some .int)]
def wsL_law0_r4 : List Cond := [Cond.classLink RX3 23 "java/lang/IndexOutOfBoundsException", Cond.initialized "java/lang/IndexOutOfBoundsException", Cond.classLink RX3 30 "java/lang/IllegalArgumentException", Cond.initialized "java/lang/IllegalArgumentException", Cond.fieldLink RX3 64 "PommelTows$Village" "flakes" "[I", Cond.methodLink RX3 19 yX3_isWithin, Cond.static yX3_isWithin, Cond.code yX3_isWithin cX3_isWithin 3 (some .boolean), Cond.methodLink RL 31 yL_pommelsOf, Cond.static yL_pommelsOf, Cond.code yL_pommelsOf cL_pommelsOf 2 (some .int), Cond.methodLink RL 34 yX3_setPommels, Cond.instanceMethod yX3_setPommels, Cond.selects RX3 yX3_setPommels yX3_setPommels, Cond.code yX3_setPommels cX3_setPommels 4 (some .int), Cond.fieldLink RX3 56 "PommelTows$Village" "pommels" "[I", Cond.methodLink RL 37 yL_towOf, Cond.static yL_towOf, Cond.code yL_towOf cL_towOf 2 (some .int), Cond.methodLink RL 40 yL_slopeOf, Cond.static yL_slopeOf, Cond.code yL_slopeOf cL_slopeOf 2 (some .int), Cond.methodLink RL 43 yX3_run, Cond.instanceMethod yX3_run]
def wsL_law0_r5 : List Cond := [Cond.selects RX3 yX3_run yX3_run, Cond.code yX3_run cX3_run 3 (some .int), Cond.classLink RX3 45 "java/lang/IllegalStateException", Cond.initialized "java/lang/IllegalStateException", Cond.fieldLink RX3 35 "PommelTows$Village" "runs" "LPommelTows$Runs;", Cond.methodLink RX3 39 yX0_isFull, Cond.instanceMethod yX0_isFull, Cond.selects RX0 yX0_isFull yX0_isFull, Cond.code yX0_isFull cX0_isFull 1 (some .boolean), Cond.methodLink RX3 50 yX0_add, Cond.instanceMethod yX0_add, Cond.selects RX0 yX0_add yX0_add, Cond.code yX0_add cX0_add 4 (some .int), Cond.methodLink RL 46 yL_skillOf, Cond.static yL_skillOf, Cond.code yL_skillOf cL_skillOf 2 (some .int), Cond.methodLink RL 19 yL_coinsOf, Cond.static yL_coinsOf, Cond.code yL_coinsOf cL_coinsOf 2 (some .int), Cond.methodLink RL 49 yX3_skier, Cond.instanceMethod yX3_skier, Cond.selects RX3 yX3_skier yX3_skier, Cond.code yX3_skier cX3_skier 3 (some .int), Cond.fieldLink RX3 97 "PommelTows$Village" "skiers" "LPommelTows$Skiers;"]
def wsL_law0_r6 : List Cond := [Cond.methodLink RX3 101 yX1_isFull, Cond.instanceMethod yX1_isFull, Cond.selects RX1 yX1_isFull yX1_isFull, Cond.code yX1_isFull cX1_isFull 1 (some .boolean), Cond.methodLink RX3 106 yX1_add, Cond.instanceMethod yX1_add, Cond.selects RX1 yX1_add yX1_add, Cond.code yX1_add cX1_add 4 (some .int), Cond.methodLink RL 52 yL_waxOf, Cond.static yL_waxOf, Cond.code yL_waxOf cL_waxOf 2 (some .int), Cond.methodLink RL 55 yX3_wax, Cond.instanceMethod yX3_wax, Cond.selects RX3 yX3_wax yX3_wax, Cond.code yX3_wax cX3_wax 3 (some .int), Cond.fieldLink RX3 112 "PommelTows$Skiers" "coins" "[I", Cond.fieldLink RX3 73 "PommelTows$Village" "coins" "I", Cond.methodLink RX3 107 yX1_has, Cond.instanceMethod yX1_has, Cond.selects RX1 yX1_has yX1_has, Cond.code yX1_has cX1_has 2 (some .boolean), Cond.methodLink RX3 116 yX1_putWaxOn, Cond.instanceMethod yX1_putWaxOn, Cond.selects RX1 yX1_putWaxOn yX1_putWaxOn]
def wsL_law0_r7 : List Cond := [Cond.code yX1_putWaxOn cX1_putWaxOn 3 none, Cond.methodLink RL 58 yL_standsOf, Cond.static yL_standsOf, Cond.code yL_standsOf cL_standsOf 2 (some .int), Cond.methodLink RL 61 yX3_join, Cond.instanceMethod yX3_join, Cond.selects RX3 yX3_join yX3_join, Cond.code yX3_join cX3_join 3 (some .int), Cond.fieldLink RX3 126 "PommelTows$Skiers" "place" "[I", Cond.methodLink RX3 119 yX1_takeOutOfQueue, Cond.instanceMethod yX1_takeOutOfQueue, Cond.selects RX1 yX1_takeOutOfQueue yX1_takeOutOfQueue, Cond.code yX1_takeOutOfQueue cX1_takeOutOfQueue 5 none, Cond.methodLink RX3 123 yX1_putAtEnd, Cond.instanceMethod yX1_putAtEnd, Cond.selects RX1 yX1_putAtEnd yX1_putAtEnd, Cond.code yX1_putAtEnd cX1_putAtEnd 4 none, Cond.methodLink RX1 40 yX1_waitingAt, Cond.instanceMethod yX1_waitingAt, Cond.selects RX1 yX1_waitingAt yX1_waitingAt, Cond.code yX1_waitingAt cX1_waitingAt 4 (some .int), Cond.methodLink RL 68 yX3_count, Cond.instanceMethod yX3_count, Cond.selects RX3 yX3_count yX3_count]
def wsL_law0_r8 : List Cond := [Cond.code yX3_count cX3_count 2 (some .int), Cond.methodLink RX3 155 yX2_figure, Cond.instanceMethod yX2_figure, Cond.selects RX2 yX2_figure yX2_figure, Cond.code yX2_figure cX2_figure 2 (some .int), Cond.fieldLink RX2 124 "PommelTows$Runs" "count" "I", Cond.fieldLink RX2 127 "PommelTows$Skiers" "count" "I", Cond.methodLink RX2 65 yX2_flakeOfHour, Cond.instanceMethod yX2_flakeOfHour, Cond.selects RX2 yX2_flakeOfHour yX2_flakeOfHour, Cond.code yX2_flakeOfHour cX2_flakeOfHour 1 (some .int), Cond.methodLink RX2 53 yJ9_floorMod_7cf53, Cond.static yJ9_floorMod_7cf53, Cond.initialized RJ9, Cond.code yJ9_floorMod_7cf53 cJ9_floorMod_7cf53 3 (some .int), Cond.methodLink RX2 128 yX0_flagged, Cond.instanceMethod yX0_flagged, Cond.selects RX0 yX0_flagged yX0_flagged, Cond.code yX0_flagged cX0_flagged 3 (some .int), Cond.methodLink RX0 36 yX0_isOpen, Cond.instanceMethod yX0_isOpen, Cond.selects RX0 yX0_isOpen yX0_isOpen, Cond.code yX0_isOpen cX0_isOpen 2 (some .boolean), Cond.methodLink RX2 131 yX2_allRides]
def wsL_law0_r9 : List Cond := [Cond.instanceMethod yX2_allRides, Cond.selects RX2 yX2_allRides yX2_allRides, Cond.code yX2_allRides cX2_allRides 3 (some .int), Cond.methodLink RX2 134 yX1_waitingAnywhere, Cond.instanceMethod yX1_waitingAnywhere, Cond.selects RX1 yX1_waitingAnywhere yX1_waitingAnywhere, Cond.code yX1_waitingAnywhere cX1_waitingAnywhere 3 (some .int), Cond.methodLink RX2 137 yX1_allPoints, Cond.instanceMethod yX1_allPoints, Cond.selects RX1 yX1_allPoints yX1_allPoints, Cond.code yX1_allPoints cX1_allPoints 3 (some .int), Cond.methodLink RL 72 yX3_told, Cond.instanceMethod yX3_told, Cond.selects RX3 yX3_told yX3_told, Cond.code yX3_told cX3_told 3 (some .int), Cond.methodLink RX3 139 yX1_figure, Cond.instanceMethod yX1_figure, Cond.selects RX1 yX1_figure yX1_figure, Cond.code yX1_figure cX1_figure 3 (some .int), Cond.methodLink RL 75 yX3_tow, Cond.instanceMethod yX3_tow, Cond.selects RX3 yX3_tow yX3_tow, Cond.code yX3_tow cX3_tow 3 (some .int), Cond.methodLink RX3 142 yX2_towFigure]
def wsL_law0_r10 : List Cond := [Cond.instanceMethod yX2_towFigure, Cond.selects RX2 yX2_towFigure yX2_towFigure, Cond.code yX2_towFigure cX2_towFigure 3 (some .int), Cond.methodLink RX2 80 yX1_waitingAt, Cond.methodLink RL 78 yX3_stands, Cond.instanceMethod yX3_stands, Cond.selects RX3 yX3_stands yX3_stands, Cond.code yX3_stands cX3_stands 4 (some .int), Cond.methodLink RX3 145 yX1_at, Cond.instanceMethod yX1_at, Cond.selects RX1 yX1_at yX1_at, Cond.code yX1_at cX1_at 4 (some .int), Cond.methodLink RL 81 yX3_leave, Cond.instanceMethod yX3_leave, Cond.selects RX3 yX3_leave yX3_leave, Cond.code yX3_leave cX3_leave 3 (some .boolean), Cond.fieldLink RX3 129 "PommelTows$Skiers" "tow" "[I", Cond.methodLink RL 85 yX3_digest, Cond.instanceMethod yX3_digest, Cond.selects RX3 yX3_digest yX3_digest, Cond.code yX3_digest cX3_digest 6 (some .long), Cond.constantLong RX3 182 (1481), Cond.fieldLink RX3 188 "PommelTows$Runs" "count" "I", Cond.fieldLink RX3 175 "PommelTows$Skiers" "count" "I"]
def wsL_law0_r11 : List Cond := [Cond.methodLink RX3 184 yX3_mixed, Cond.static yX3_mixed, Cond.code yX3_mixed cX3_mixed 3 (some .long), Cond.constantLong RX3 192 (31), Cond.methodLink RX3 134 yX0_figure, Cond.instanceMethod yX0_figure, Cond.selects RX0 yX0_figure yX0_figure, Cond.code yX0_figure cX0_figure 3 (some .int), Cond.methodLink RX3 189 yX1_waitingAt, Cond.methodLink RL 89 yX3_foresee, Cond.instanceMethod yX3_foresee, Cond.selects RX3 yX3_foresee yX3_foresee, Cond.code yX3_foresee cX3_foresee 3 (some .int), Cond.methodLink RX3 163 yX2_copyFrom, Cond.instanceMethod yX2_copyFrom, Cond.selects RX2 yX2_copyFrom yX2_copyFrom, Cond.code yX2_copyFrom cX2_copyFrom 2 none, Cond.static yX3_copyRow, Cond.code yX3_copyRow cX3_copyRow 2 none, Cond.methodLink RX3 194 Lib.Math.min.name, Cond.static Lib.Math.min.name, Cond.initialized "java/lang/Math", Cond.code Lib.Math.min.name Lib.Math.min.code 2 (some .int), Cond.methodLink RX3 202 arraycopyName]
def wsL_law0_r12 : List Cond := [Cond.native arraycopyName, Cond.static arraycopyName, Cond.initialized "java/lang/System", Cond.methodLink RX2 46 yX0_copyFrom, Cond.instanceMethod yX0_copyFrom, Cond.selects RX0 yX0_copyFrom yX0_copyFrom, Cond.code yX0_copyFrom cX0_copyFrom 2 none, Cond.methodLink RX2 50 yX1_copyFrom, Cond.instanceMethod yX1_copyFrom, Cond.selects RX1 yX1_copyFrom yX1_copyFrom, Cond.code yX1_copyFrom cX1_copyFrom 2 none, Cond.methodLink RX3 160 yX2_letHoursGo, Cond.instanceMethod yX2_letHoursGo, Cond.selects RX2 yX2_letHoursGo yX2_letHoursGo, Cond.code yX2_letHoursGo cX2_letHoursGo 5 (some .int), Cond.static yX3_snowOf, Cond.code yX3_snowOf cX3_snowOf 1 (some .int), Cond.methodLink RX2 73 yX0_deepenAll, Cond.instanceMethod yX0_deepenAll, Cond.selects RX0 yX0_deepenAll yX0_deepenAll, Cond.code yX0_deepenAll cX0_deepenAll 3 none, Cond.methodLink RX0 32 yX0_deepen, Cond.instanceMethod yX0_deepen, Cond.selects RX0 yX0_deepen yX0_deepen]
def wsL_law0_r13 : List Cond := [Cond.code yX0_deepen cX0_deepen 3 none, Cond.static yX3_held, Cond.code yX3_held cX3_held 3 (some .int), Cond.methodLink RX3 199 Lib.Math.max.name, Cond.static Lib.Math.max.name, Cond.code Lib.Math.max.name Lib.Math.max.code 2 (some .int), Cond.methodLink RX2 77 yX2_pullAt, Cond.instanceMethod yX2_pullAt, Cond.selects RX2 yX2_pullAt yX2_pullAt, Cond.code yX2_pullAt cX2_pullAt 6 (some .int), Cond.fieldLink RX2 93 "PommelTows$Skiers" "coins" "[I", Cond.fieldLink RX2 95 "PommelTows$Skiers" "rides" "[I", Cond.methodLink RX2 83 yX1_at, Cond.methodLink RX2 86 yX1_has, Cond.methodLink RX2 90 yX1_takeOutOfQueue, Cond.methodLink RX2 98 yX2_skiDown, Cond.instanceMethod yX2_skiDown, Cond.selects RX2 yX2_skiDown yX2_skiDown, Cond.code yX2_skiDown cX2_skiDown 5 none, Cond.fieldLink RX2 112 "PommelTows$Runs" "slope" "[I", Cond.fieldLink RX2 59 "PommelTows$Skiers" "skill" "[I", Cond.fieldLink RX2 121 "PommelTows$Runs" "skied" "[I", Cond.methodLink RX2 105 yX2_chosenRun, Cond.instanceMethod yX2_chosenRun]
def wsL_law0_r14 : List Cond := [Cond.selects RX2 yX2_chosenRun yX2_chosenRun, Cond.code yX2_chosenRun cX2_chosenRun 3 (some .int), Cond.methodLink RX2 62 yX0_steepestOpen, Cond.instanceMethod yX0_steepestOpen, Cond.selects RX0 yX0_steepestOpen yX0_steepestOpen, Cond.code yX0_steepestOpen cX0_steepestOpen 7 (some .int), Cond.methodLink RX2 108 yX0_has, Cond.instanceMethod yX0_has, Cond.selects RX0 yX0_has yX0_has, Cond.code yX0_has cX0_has 2 (some .boolean), Cond.methodLink RX2 109 yX1_glide, Cond.instanceMethod yX1_glide, Cond.selects RX1 yX1_glide yX1_glide, Cond.code yX1_glide cX1_glide 3 (some .int), Cond.methodLink RX1 44 Lib.Math.abs.name, Cond.static Lib.Math.abs.name, Cond.code Lib.Math.abs.name Lib.Math.abs.code 1 (some .int), Cond.methodLink RX2 115 yX1_addPoints, Cond.instanceMethod yX1_addPoints, Cond.selects RX1 yX1_addPoints yX1_addPoints, Cond.code yX1_addPoints cX1_addPoints 3 none, Cond.methodLink RX2 118 yX0_deepen, Cond.methodLink RX2 102 yX1_putAtEnd, Cond.methodLink RL 92 yX3_until]
def wsL_law0_r15 : List Cond := [Cond.instanceMethod yX3_until, Cond.selects RX3 yX3_until yX3_until, Cond.code yX3_until cX3_until 4 (some .int), Cond.fieldLink RX3 167 "PommelTows$Skiers" "rides" "[I", Cond.methodLink RL 95 yX3_pass, Cond.instanceMethod yX3_pass, Cond.selects RX3 yX3_pass yX3_pass, Cond.code yX3_pass cX3_pass 2 (some .int), Cond.methodLink RL 98 yX3_mean, Cond.instanceMethod yX3_mean, Cond.selects RX3 yX3_mean yX3_mean, Cond.code yX3_mean cX3_mean 1 (some .double), Cond.methodLink RX3 178 yX1_allPoints, Cond.methodLink RL 104 yJ6_bitCount_0f7a4, Cond.static yJ6_bitCount_0f7a4, Cond.initialized RJ6, Cond.code yJ6_bitCount_0f7a4 cJ6_bitCount_0f7a4 1 (some .int), Cond.constant RJ6 265 (1431655765), Cond.constant RJ6 266 (858993459), Cond.constant RJ6 267 (252645135), Cond.methodLink RL 109 yX3_about, Cond.instanceMethod yX3_about, Cond.selects RX3 yX3_about yX3_about, Cond.code yX3_about cX3_about 3 (some .int)]
def wsL_law0_r16 : List Cond := [Cond.methodLink RX3 67 yX0_has]
def wsL_law0 : List Cond := (wsL_law0_r1 ++ (wsL_law0_r2 ++ (wsL_law0_r3 ++ (wsL_law0_r4 ++ (wsL_law0_r5 ++ (wsL_law0_r6 ++ (wsL_law0_r7 ++ (wsL_law0_r8 ++ (wsL_law0_r9 ++ (wsL_law0_r10 ++ (wsL_law0_r11 ++ (wsL_law0_r12 ++ (wsL_law0_r13 ++ (wsL_law0_r14 ++ (wsL_law0_r15 ++ wsL_law0_r16))))))))))))))) ++ wsX30 ++ wsX20 ++ wsX00 ++ wsX10 ++ ([] : List Cond)
def wsL_law : List Cond := wsL_law0 ++ (vx_atS RX3 27 "java/lang/IndexOutOfBoundsException" ["java/lang/RuntimeException", "java/lang/Exception"]).filter goodWord ++ (vx_atS RX3 34 "java/lang/IllegalArgumentException" ["java/lang/RuntimeException", "java/lang/Exception"]).filter goodWord ++ (vx_atS RX3 49 "java/lang/IllegalStateException" ["java/lang/RuntimeException", "java/lang/Exception"]).filter goodWord
abbrev vwCl : List vw_C := [(RX0, TX0, 5), (RX1, TX1, 9), (RX2, TX2, 7), (RX3, TX3, 2)]
end
section
set_option maxRecDepth 20000 in
theorem wsL_law0_r1_in : ∀ w ∈ wsL_law0_r1, w ∈ lw_tbl := fun w h => (goodIn_p wsL_law0_r1 [350, 355, 50, 361] (by decide +kernel) (by decide +kernel) w h).1
set_option maxRecDepth 20000 in
theorem wsL_law0_r2_in : ∀ w ∈ wsL_law0_r2, w ∈ lw_tbl := fun w h => (goodIn_p wsL_law0_r2 [367, 394] (by decide +kernel) (by decide +kernel) w h).1
set_option maxRecDepth 20000 in
theorem wsL_law0_r3_in : ∀ w ∈ wsL_law0_r3, w ∈ lw_tbl := fun w h => (goodIn_p wsL_law0_r3 [469, 343, 339, 473] (by decide +kernel) (by decide +kernel) w h).1
set_option maxRecDepth 20000 in
theorem wsL_law0_r4_in : ∀ w ∈ wsL_law0_r4, w ∈ lw_tbl := fun w h => (goodIn_p wsL_law0_r4 [95, 478, 482, 486, 489] (by decide +kernel) (by decide +kernel) w h).1
set_option maxRecDepth 20000 in
theorem wsL_law0_r5_in : ∀ w ∈ wsL_law0_r5, w ∈ lw_tbl := fun w h => (goodIn_p wsL_law0_r5 [493, 498, 503, 347, 506, 510] (by decide +kernel) (by decide +kernel) w h).1
set_option maxRecDepth 20000 in
theorem wsL_law0_r6_in : ∀ w ∈ wsL_law0_r6, w ∈ lw_tbl := fun w h => (goodIn_p wsL_law0_r6 [516, 521, 524, 18, 22] (by decide +kernel) (by decide +kernel) w h).1
set_option maxRecDepth 20000 in
theorem wsL_law0_r7_in : ∀ w ∈ wsL_law0_r7, w ∈ lw_tbl := fun w h => (goodIn_p wsL_law0_r7 [131, 527, 135, 140, 144, 148] (by decide +kernel) (by decide +kernel) w h).1
set_option maxRecDepth 20000 in
theorem wsL_law0_r8_in : ∀ w ∈ wsL_law0_r8, w ∈ lw_tbl := fun w h => (goodIn_p wsL_law0_r8 [202, 207, 211, 214, 218, 170] (by decide +kernel) (by decide +kernel) w h).1
set_option maxRecDepth 20000 in
theorem wsL_law0_r9_in : ∀ w ∈ wsL_law0_r9, w ∈ lw_tbl := fun w h => (goodIn_p wsL_law0_r9 [222, 226, 230, 174, 179, 183] (by decide +kernel) (by decide +kernel) w h).1
set_option maxRecDepth 20000 in
theorem wsL_law0_r10_in : ∀ w ∈ wsL_law0_r10, w ∈ lw_tbl := fun w h => (goodIn_p wsL_law0_r10 [188, 193, 197, 152, 330] (by decide +kernel) (by decide +kernel) w h).1
set_option maxRecDepth 20000 in
theorem wsL_law0_r11_in : ∀ w ∈ wsL_law0_r11, w ∈ lw_tbl := fun w h => (goodIn_p wsL_law0_r11 [334, 166, 321, 301, 304, 256] (by decide +kernel) (by decide +kernel) w h).1
set_option maxRecDepth 20000 in
theorem wsL_law0_r12_in : ∀ w ∈ wsL_law0_r12, w ∈ lw_tbl := fun w h => (goodIn_p wsL_law0_r12 [311, 316, 239, 242, 246] (by decide +kernel) (by decide +kernel) w h).1
set_option maxRecDepth 20000 in
theorem wsL_law0_r13_in : ∀ w ∈ wsL_law0_r13, w ∈ lw_tbl := fun w h => (goodIn_p wsL_law0_r13 [250, 253, 259, 263, 270] (by decide +kernel) (by decide +kernel) w h).1
set_option maxRecDepth 20000 in
theorem wsL_law0_r14_in : ∀ w ∈ wsL_law0_r14, w ∈ lw_tbl := fun w h => (goodIn_p wsL_law0_r14 [274, 278, 160, 283, 286, 290] (by decide +kernel) (by decide +kernel) w h).1
set_option maxRecDepth 20000 in
theorem wsL_law0_r15_in : ∀ w ∈ wsL_law0_r15, w ∈ lw_tbl := fun w h => (goodIn_p wsL_law0_r15 [297, 234, 325, 530, 156] (by decide +kernel) (by decide +kernel) w h).1
set_option maxRecDepth 20000 in
theorem wsL_law0_r16_in : ∀ w ∈ wsL_law0_r16, w ∈ lw_tbl := fun w h => (goodIn_p wsL_law0_r16 [] (by decide +kernel) (by decide +kernel) w h).1
theorem wsX30_inT : ∀ w ∈ wsX30, w ∈ lw_tbl := fun w h => (goodIn_p wsX30 [] (by decide +kernel) (by decide +kernel) w h).1
theorem wsX20_inT : ∀ w ∈ wsX20, w ∈ lw_tbl := fun w h => (goodIn_p wsX20 [] (by decide +kernel) (by decide +kernel) w h).1
theorem wsX00_inT : ∀ w ∈ wsX00, w ∈ lw_tbl := fun w h => (goodIn_p wsX00 [] (by decide +kernel) (by decide +kernel) w h).1
theorem wsX10_inT : ∀ w ∈ wsX10, w ∈ lw_tbl := fun w h => (goodIn_p wsX10 [] (by decide +kernel) (by decide +kernel) w h).1
theorem mem_app_tbl {a b c : List Cond} (ha : ∀ w ∈ a, w ∈ c) (hb : ∀ w ∈ b, w ∈ c) : ∀ w ∈ a ++ b, w ∈ c := fun w h => (List.mem_append.mp h).elim (ha w) (hb w)
theorem wsL_law_in0 : ∀ w ∈ wsL_law0, w ∈ lw_tbl := (mem_app_tbl (mem_app_tbl (mem_app_tbl (mem_app_tbl (mem_app_tbl (mem_app_tbl wsL_law0_r1_in (mem_app_tbl wsL_law0_r2_in (mem_app_tbl wsL_law0_r3_in (mem_app_tbl wsL_law0_r4_in (mem_app_tbl wsL_law0_r5_in (mem_app_tbl wsL_law0_r6_in (mem_app_tbl wsL_law0_r7_in (mem_app_tbl wsL_law0_r8_in (mem_app_tbl wsL_law0_r9_in (mem_app_tbl wsL_law0_r10_in (mem_app_tbl wsL_law0_r11_in (mem_app_tbl wsL_law0_r12_in (mem_app_tbl wsL_law0_r13_in (mem_app_tbl wsL_law0_r14_in (mem_app_tbl wsL_law0_r15_in wsL_law0_r16_in))))))))))))))) wsX30_inT) wsX20_inT) wsX00_inT) wsX10_inT) (fun w h => absurd h List.not_mem_nil))
theorem wsL_law_x0 : ∀ w ∈ (vx_atS RX3 27 "java/lang/IndexOutOfBoundsException" ["java/lang/RuntimeException", "java/lang/Exception"]).filter goodWord, w ∈ lw_tbl := by decide +kernel
theorem wsL_law_x1 : ∀ w ∈ (vx_atS RX3 34 "java/lang/IllegalArgumentException" ["java/lang/RuntimeException", "java/lang/Exception"]).filter goodWord, w ∈ lw_tbl := by decide +kernel
theorem wsL_law_x2 : ∀ w ∈ (vx_atS RX3 49 "java/lang/IllegalStateException" ["java/lang/RuntimeException", "java/lang/Exception"]).filter goodWord, w ∈ lw_tbl := by decide +kernel
theorem wsL_law_in : ∀ w ∈ wsL_law, w ∈ lw_tbl := fun w h => (List.mem_append.mp h).elim (fun h => (List.mem_append.mp h).elim (fun h => (List.mem_append.mp h).elim (fun h => wsL_law_in0 w h) (fun h => wsL_law_x0 w h)) (fun h => wsL_law_x1 w h)) (fun h => wsL_law_x2 w h)
theorem inlX0 : ∀ w ∈ wsX00, w ∈ wsL_law := fun _ h => List.mem_append_left _ (List.mem_append_left _ (List.mem_append_left _ (List.mem_append_left _ (List.mem_append_left _ (List.mem_append_right _ h)))))
theorem inX0 : ∀ w ∈ wsX00, w ∈ lw_tbl := fun w h => wsL_law_in w (inlX0 w h)
theorem inlX1 : ∀ w ∈ wsX10, w ∈ wsL_law := fun _ h => List.mem_append_left _ (List.mem_append_left _ (List.mem_append_left _ (List.mem_append_left _ (List.mem_append_right _ h))))
theorem inX1 : ∀ w ∈ wsX10, w ∈ lw_tbl := fun w h => wsL_law_in w (inlX1 w h)
theorem inlX2 : ∀ w ∈ wsX20, w ∈ wsL_law := fun _ h => List.mem_append_left _ (List.mem_append_left _ (List.mem_append_left _ (List.mem_append_left _ (List.mem_append_left _ (List.mem_append_left _ (List.mem_append_right _ h))))))
theorem inX2 : ∀ w ∈ wsX20, w ∈ lw_tbl := fun w h => wsL_law_in w (inlX2 w h)
theorem inlX3 : ∀ w ∈ wsX30, w ∈ wsL_law := fun _ h => List.mem_append_left _ (List.mem_append_left _ (List.mem_append_left _ (List.mem_append_left _ (List.mem_append_left _ (List.mem_append_left _ (List.mem_append_left _ (List.mem_append_right _ h)))))))
theorem inX3 : ∀ w ∈ wsX30, w ∈ lw_tbl := fun w h => wsL_law_in w (inlX3 w h)
theorem inX4 : ∀ w ∈ wsX40, w ∈ lw_tbl := by decide +kernel
theorem inX5 : ∀ w ∈ wsX50, w ∈ lw_tbl := by decide +kernel
theorem inJ6 : ∀ w ∈ wsJ60, w ∈ lw_tbl := by decide +kernel
theorem inJ9 : ∀ w ∈ wsJ90, w ∈ lw_tbl := by decide +kernel
theorem inJ0 : ∀ w ∈ wsJ00, w ∈ lw_tbl := by decide +kernel
theorem inJ10 : ∀ w ∈ wsJ100, w ∈ lw_tbl := by decide +kernel
end
section
theorem dX0_init_0 : decode cX0_init 0 = .ok (.aload_n 0, 1) := by decide +kernel
theorem dX0_init_1 : decode cX0_init 1 = .ok (.invokespecial 3, 3) := by decide +kernel
theorem dX0_init_4 : decode cX0_init 4 = .ok (.aload_n 0, 1) := by decide +kernel
theorem dX0_init_5 : decode cX0_init 5 = .ok (.iconst 0, 1) := by decide +kernel
theorem dX0_init_6 : decode cX0_init 6 = .ok (.putfield 9, 3) := by decide +kernel
theorem dX0_init_9 : decode cX0_init 9 = .ok (.aload_n 0, 1) := by decide +kernel
theorem dX0_init_10 : decode cX0_init 10 = .ok (.bipush 6, 2) := by decide +kernel
theorem dX0_init_12 : decode cX0_init 12 = .ok (.newarray .int, 2) := by decide +kernel
theorem dX0_init_14 : decode cX0_init 14 = .ok (.putfield 15, 3) := by decide +kernel
theorem dX0_init_17 : decode cX0_init 17 = .ok (.aload_n 0, 1) := by decide +kernel
theorem dX0_init_18 : decode cX0_init 18 = .ok (.bipush 6, 2) := by decide +kernel
theorem dX0_init_20 : decode cX0_init 20 = .ok (.newarray .int, 2) := by decide +kernel
theorem dX0_init_22 : decode cX0_init 22 = .ok (.putfield 19, 3) := by decide +kernel
theorem dX0_init_25 : decode cX0_init 25 = .ok (.aload_n 0, 1) := by decide +kernel
theorem dX0_init_26 : decode cX0_init 26 = .ok (.bipush 6, 2) := by decide +kernel
theorem dX0_init_28 : decode cX0_init 28 = .ok (.newarray .int, 2) := by decide +kernel
theorem dX0_init_30 : decode cX0_init 30 = .ok (.putfield 22, 3) := by decide +kernel
theorem dX0_init_33 : decode cX0_init 33 = .ok (.aload_n 0, 1) := by decide +kernel
theorem dX0_init_34 : decode cX0_init 34 = .ok (.bipush 6, 2) := by decide +kernel
theorem dX0_init_36 : decode cX0_init 36 = .ok (.newarray .int, 2) := by decide +kernel
theorem dX0_init_38 : decode cX0_init 38 = .ok (.putfield 25, 3) := by decide +kernel
theorem dX0_init_41 : decode cX0_init 41 = .ok (.return_, 1) := by decide +kernel
theorem dX0_has_0 : decode cX0_has 0 = .ok (.iload_n 1, 1) := by decide +kernel
theorem dX0_has_1 : decode cX0_has 1 = .ok (.ifCond .lt 15, 3) := by decide +kernel
theorem dX0_has_4 : decode cX0_has 4 = .ok (.iload_n 1, 1) := by decide +kernel
theorem dX0_has_5 : decode cX0_has 5 = .ok (.aload_n 0, 1) := by decide +kernel
theorem dX0_has_6 : decode cX0_has 6 = .ok (.getfield 9, 3) := by decide +kernel
theorem dX0_has_9 : decode cX0_has 9 = .ok (.if_icmp .ge 7, 3) := by decide +kernel
theorem dX0_has_12 : decode cX0_has 12 = .ok (.iconst 1, 1) := by decide +kernel
theorem dX0_has_13 : decode cX0_has 13 = .ok (.goto 4, 3) := by decide +kernel
theorem dX0_has_16 : decode cX0_has 16 = .ok (.iconst 0, 1) := by decide +kernel
theorem dX0_has_17 : decode cX0_has 17 = .ok (.ireturn, 1) := by decide +kernel
theorem dX0_isFull_0 : decode cX0_isFull 0 = .ok (.aload_n 0, 1) := by decide +kernel
theorem dX0_isFull_1 : decode cX0_isFull 1 = .ok (.getfield 9, 3) := by decide +kernel
theorem dX0_isFull_4 : decode cX0_isFull 4 = .ok (.bipush 6, 2) := by decide +kernel
theorem dX0_isFull_6 : decode cX0_isFull 6 = .ok (.if_icmp .lt 7, 3) := by decide +kernel
theorem dX0_isFull_9 : decode cX0_isFull 9 = .ok (.iconst 1, 1) := by decide +kernel
theorem dX0_isFull_10 : decode cX0_isFull 10 = .ok (.goto 4, 3) := by decide +kernel
theorem dX0_isFull_13 : decode cX0_isFull 13 = .ok (.iconst 0, 1) := by decide +kernel
theorem dX0_isFull_14 : decode cX0_isFull 14 = .ok (.ireturn, 1) := by decide +kernel
theorem dX0_add_0 : decode cX0_add 0 = .ok (.aload_n 0, 1) := by decide +kernel
theorem dX0_add_1 : decode cX0_add 1 = .ok (.getfield 9, 3) := by decide +kernel
theorem dX0_add_4 : decode cX0_add 4 = .ok (.istore_n 3, 1) := by decide +kernel
theorem dX0_add_5 : decode cX0_add 5 = .ok (.aload_n 0, 1) := by decide +kernel
theorem dX0_add_6 : decode cX0_add 6 = .ok (.getfield 15, 3) := by decide +kernel
theorem dX0_add_9 : decode cX0_add 9 = .ok (.iload_n 3, 1) := by decide +kernel
theorem dX0_add_10 : decode cX0_add 10 = .ok (.iload_n 1, 1) := by decide +kernel
theorem dX0_add_11 : decode cX0_add 11 = .ok (.iastore, 1) := by decide +kernel
theorem dX0_add_12 : decode cX0_add 12 = .ok (.aload_n 0, 1) := by decide +kernel
theorem dX0_add_13 : decode cX0_add 13 = .ok (.getfield 19, 3) := by decide +kernel
theorem dX0_add_16 : decode cX0_add 16 = .ok (.iload_n 3, 1) := by decide +kernel
theorem dX0_add_17 : decode cX0_add 17 = .ok (.iload_n 2, 1) := by decide +kernel
theorem dX0_add_18 : decode cX0_add 18 = .ok (.iastore, 1) := by decide +kernel
theorem dX0_add_19 : decode cX0_add 19 = .ok (.aload_n 0, 1) := by decide +kernel
theorem dX0_add_20 : decode cX0_add 20 = .ok (.getfield 22, 3) := by decide +kernel
theorem dX0_add_23 : decode cX0_add 23 = .ok (.iload_n 3, 1) := by decide +kernel
theorem dX0_add_24 : decode cX0_add 24 = .ok (.bipush 30, 2) := by decide +kernel
theorem dX0_add_26 : decode cX0_add 26 = .ok (.iastore, 1) := by decide +kernel
theorem dX0_add_27 : decode cX0_add 27 = .ok (.aload_n 0, 1) := by decide +kernel
theorem dX0_add_28 : decode cX0_add 28 = .ok (.dup, 1) := by decide +kernel
theorem dX0_add_29 : decode cX0_add 29 = .ok (.getfield 9, 3) := by decide +kernel
theorem dX0_add_32 : decode cX0_add 32 = .ok (.iconst 1, 1) := by decide +kernel
theorem dX0_add_33 : decode cX0_add 33 = .ok (.iadd, 1) := by decide +kernel
theorem dX0_add_34 : decode cX0_add 34 = .ok (.putfield 9, 3) := by decide +kernel
theorem dX0_add_37 : decode cX0_add 37 = .ok (.iload_n 3, 1) := by decide +kernel
theorem dX0_add_38 : decode cX0_add 38 = .ok (.ireturn, 1) := by decide +kernel
set_option maxRecDepth 20000 in
theorem ggX0_deepen_X3_held : GoodIn wsX0_deepen wsX3_held := goodIn_r _ [4, 5, 6, 7, 8, 9, 10, 11] (by decide +kernel) (by decide +kernel)
set_option maxRecDepth 20000 in
theorem gX0_deepen_X3_held_n28 : GoodIn wsX0_deepen (wsX3_held) := ggX0_deepen_X3_held
theorem dX0_deepen_0 : decode cX0_deepen 0 = .ok (.aload_n 0, 1) := by decide +kernel
theorem dX0_deepen_1 : decode cX0_deepen 1 = .ok (.getfield 22, 3) := by decide +kernel
theorem dX0_deepen_4 : decode cX0_deepen 4 = .ok (.iload_n 1, 1) := by decide +kernel
theorem dX0_deepen_5 : decode cX0_deepen 5 = .ok (.aload_n 0, 1) := by decide +kernel
theorem dX0_deepen_6 : decode cX0_deepen 6 = .ok (.getfield 22, 3) := by decide +kernel
theorem dX0_deepen_9 : decode cX0_deepen 9 = .ok (.iload_n 1, 1) := by decide +kernel
theorem dX0_deepen_10 : decode cX0_deepen 10 = .ok (.iaload, 1) := by decide +kernel
theorem dX0_deepen_11 : decode cX0_deepen 11 = .ok (.iload_n 2, 1) := by decide +kernel
theorem dX0_deepen_12 : decode cX0_deepen 12 = .ok (.iadd, 1) := by decide +kernel
theorem dX0_deepen_13 : decode cX0_deepen 13 = .ok (.iconst 0, 1) := by decide +kernel
theorem dX0_deepen_14 : decode cX0_deepen 14 = .ok (.bipush 90, 2) := by decide +kernel
theorem dX0_deepen_16 : decode cX0_deepen 16 = .ok (.invokestatic 28, 3) := by decide +kernel
theorem dX0_deepen_19 : decode cX0_deepen 19 = .ok (.iastore, 1) := by decide +kernel
theorem dX0_deepen_20 : decode cX0_deepen 20 = .ok (.return_, 1) := by decide +kernel
set_option maxRecDepth 20000 in
theorem ggX0_deepenAll_X0_deepen : GoodIn wsX0_deepenAll wsX0_deepen := goodIn_r _ [6, 7, 8, 9, 10, 11, 12, 13, 14, 15, 16, 17, 18, 19, 20, 21, 22] (by decide +kernel) (by decide +kernel)
set_option maxRecDepth 20000 in
theorem gX0_deepenAll_X0_deepen : GoodIn wsX0_deepenAll (wsV RX0 32 RX0 yX0_deepen wsX0_deepen) := goodIn_app (goodIn_of _ (by decide +kernel)) ggX0_deepenAll_X0_deepen
theorem dX0_deepenAll_0 : decode cX0_deepenAll 0 = .ok (.iconst 0, 1) := by decide +kernel
theorem dX0_deepenAll_1 : decode cX0_deepenAll 1 = .ok (.istore_n 2, 1) := by decide +kernel
theorem dX0_deepenAll_2 : decode cX0_deepenAll 2 = .ok (.iload_n 2, 1) := by decide +kernel
theorem dX0_deepenAll_3 : decode cX0_deepenAll 3 = .ok (.aload_n 0, 1) := by decide +kernel
theorem dX0_deepenAll_4 : decode cX0_deepenAll 4 = .ok (.getfield 9, 3) := by decide +kernel
theorem dX0_deepenAll_7 : decode cX0_deepenAll 7 = .ok (.if_icmp .ge 15, 3) := by decide +kernel
theorem dX0_deepenAll_10 : decode cX0_deepenAll 10 = .ok (.aload_n 0, 1) := by decide +kernel
theorem dX0_deepenAll_11 : decode cX0_deepenAll 11 = .ok (.iload_n 2, 1) := by decide +kernel
theorem dX0_deepenAll_12 : decode cX0_deepenAll 12 = .ok (.iload_n 1, 1) := by decide +kernel
theorem dX0_deepenAll_13 : decode cX0_deepenAll 13 = .ok (.invokevirtual 32, 3) := by decide +kernel
theorem dX0_deepenAll_16 : decode cX0_deepenAll 16 = .ok (.iinc 2 1, 3) := by decide +kernel
theorem dX0_deepenAll_19 : decode cX0_deepenAll 19 = .ok (.goto (-17), 3) := by decide +kernel
theorem dX0_deepenAll_22 : decode cX0_deepenAll 22 = .ok (.return_, 1) := by decide +kernel
theorem dX0_isOpen_0 : decode cX0_isOpen 0 = .ok (.aload_n 0, 1) := by decide +kernel
theorem dX0_isOpen_1 : decode cX0_isOpen 1 = .ok (.getfield 22, 3) := by decide +kernel
theorem dX0_isOpen_4 : decode cX0_isOpen 4 = .ok (.iload_n 1, 1) := by decide +kernel
theorem dX0_isOpen_5 : decode cX0_isOpen 5 = .ok (.iaload, 1) := by decide +kernel
theorem dX0_isOpen_6 : decode cX0_isOpen 6 = .ok (.iconst 5, 1) := by decide +kernel
theorem dX0_isOpen_7 : decode cX0_isOpen 7 = .ok (.if_icmp .lt 26, 3) := by decide +kernel
theorem dX0_isOpen_10 : decode cX0_isOpen 10 = .ok (.aload_n 0, 1) := by decide +kernel
theorem dX0_isOpen_11 : decode cX0_isOpen 11 = .ok (.getfield 22, 3) := by decide +kernel
theorem dX0_isOpen_14 : decode cX0_isOpen 14 = .ok (.iload_n 1, 1) := by decide +kernel
theorem dX0_isOpen_15 : decode cX0_isOpen 15 = .ok (.iaload, 1) := by decide +kernel
theorem dX0_isOpen_16 : decode cX0_isOpen 16 = .ok (.aload_n 0, 1) := by decide +kernel
theorem dX0_isOpen_17 : decode cX0_isOpen 17 = .ok (.getfield 19, 3) := by decide +kernel
theorem dX0_isOpen_20 : decode cX0_isOpen 20 = .ok (.iload_n 1, 1) := by decide +kernel
theorem dX0_isOpen_21 : decode cX0_isOpen 21 = .ok (.iaload, 1) := by decide +kernel
theorem dX0_isOpen_22 : decode cX0_isOpen 22 = .ok (.imul, 1) := by decide +kernel
theorem dX0_isOpen_23 : decode cX0_isOpen 23 = .ok (.sipush 300, 3) := by decide +kernel
theorem dX0_isOpen_26 : decode cX0_isOpen 26 = .ok (.if_icmp .ge 7, 3) := by decide +kernel
theorem dX0_isOpen_29 : decode cX0_isOpen 29 = .ok (.iconst 1, 1) := by decide +kernel
theorem dX0_isOpen_30 : decode cX0_isOpen 30 = .ok (.goto 4, 3) := by decide +kernel
theorem dX0_isOpen_33 : decode cX0_isOpen 33 = .ok (.iconst 0, 1) := by decide +kernel
theorem dX0_isOpen_34 : decode cX0_isOpen 34 = .ok (.ireturn, 1) := by decide +kernel
set_option maxRecDepth 20000 in
theorem ggX0_steepestOpen_X0_isOpen : GoodIn wsX0_steepestOpen wsX0_isOpen := goodIn_r _ [8, 9, 3, 10, 11, 12, 13, 14] (by decide +kernel) (by decide +kernel)
set_option maxRecDepth 20000 in
theorem gX0_steepestOpen_X0_isOpen : GoodIn wsX0_steepestOpen (wsV RX0 36 RX0 yX0_isOpen wsX0_isOpen) := goodIn_app (goodIn_of _ (by decide +kernel)) ggX0_steepestOpen_X0_isOpen
theorem dX0_steepestOpen_0 : decode cX0_steepestOpen 0 = .ok (.iconst (-1), 1) := by decide +kernel
theorem dX0_steepestOpen_1 : decode cX0_steepestOpen 1 = .ok (.istore_n 3, 1) := by decide +kernel
theorem dX0_steepestOpen_2 : decode cX0_steepestOpen 2 = .ok (.iconst 0, 1) := by decide +kernel
theorem dX0_steepestOpen_3 : decode cX0_steepestOpen 3 = .ok (.istore 4, 2) := by decide +kernel
theorem dX0_steepestOpen_5 : decode cX0_steepestOpen 5 = .ok (.iconst 0, 1) := by decide +kernel
theorem dX0_steepestOpen_6 : decode cX0_steepestOpen 6 = .ok (.istore 5, 2) := by decide +kernel
theorem dX0_steepestOpen_8 : decode cX0_steepestOpen 8 = .ok (.iload 5, 2) := by decide +kernel
theorem dX0_steepestOpen_10 : decode cX0_steepestOpen 10 = .ok (.aload_n 0, 1) := by decide +kernel
theorem dX0_steepestOpen_11 : decode cX0_steepestOpen 11 = .ok (.getfield 9, 3) := by decide +kernel
theorem dX0_steepestOpen_14 : decode cX0_steepestOpen 14 = .ok (.if_icmp .ge 76, 3) := by decide +kernel
theorem dX0_steepestOpen_17 : decode cX0_steepestOpen 17 = .ok (.aload_n 0, 1) := by decide +kernel
theorem dX0_steepestOpen_18 : decode cX0_steepestOpen 18 = .ok (.getfield 15, 3) := by decide +kernel
theorem dX0_steepestOpen_21 : decode cX0_steepestOpen 21 = .ok (.iload 5, 2) := by decide +kernel
theorem dX0_steepestOpen_23 : decode cX0_steepestOpen 23 = .ok (.iaload, 1) := by decide +kernel
theorem dX0_steepestOpen_24 : decode cX0_steepestOpen 24 = .ok (.iload_n 1, 1) := by decide +kernel
theorem dX0_steepestOpen_25 : decode cX0_steepestOpen 25 = .ok (.if_icmp .ne 27, 3) := by decide +kernel
theorem dX0_steepestOpen_28 : decode cX0_steepestOpen 28 = .ok (.aload_n 0, 1) := by decide +kernel
theorem dX0_steepestOpen_29 : decode cX0_steepestOpen 29 = .ok (.getfield 19, 3) := by decide +kernel
theorem dX0_steepestOpen_32 : decode cX0_steepestOpen 32 = .ok (.iload 5, 2) := by decide +kernel
theorem dX0_steepestOpen_34 : decode cX0_steepestOpen 34 = .ok (.iaload, 1) := by decide +kernel
theorem dX0_steepestOpen_35 : decode cX0_steepestOpen 35 = .ok (.iload_n 2, 1) := by decide +kernel
theorem dX0_steepestOpen_36 : decode cX0_steepestOpen 36 = .ok (.if_icmp .gt 16, 3) := by decide +kernel
theorem dX0_steepestOpen_39 : decode cX0_steepestOpen 39 = .ok (.aload_n 0, 1) := by decide +kernel
theorem dX0_steepestOpen_40 : decode cX0_steepestOpen 40 = .ok (.iload 5, 2) := by decide +kernel
theorem dX0_steepestOpen_42 : decode cX0_steepestOpen 42 = .ok (.invokevirtual 36, 3) := by decide +kernel
theorem dX0_steepestOpen_45 : decode cX0_steepestOpen 45 = .ok (.ifCond .eq 7, 3) := by decide +kernel
theorem dX0_steepestOpen_48 : decode cX0_steepestOpen 48 = .ok (.iconst 1, 1) := by decide +kernel
theorem dX0_steepestOpen_49 : decode cX0_steepestOpen 49 = .ok (.goto 4, 3) := by decide +kernel
theorem dX0_steepestOpen_52 : decode cX0_steepestOpen 52 = .ok (.iconst 0, 1) := by decide +kernel
theorem dX0_steepestOpen_53 : decode cX0_steepestOpen 53 = .ok (.istore 6, 2) := by decide +kernel
theorem dX0_steepestOpen_55 : decode cX0_steepestOpen 55 = .ok (.iload 6, 2) := by decide +kernel
theorem dX0_steepestOpen_57 : decode cX0_steepestOpen 57 = .ok (.ifCond .eq 27, 3) := by decide +kernel
theorem dX0_steepestOpen_60 : decode cX0_steepestOpen 60 = .ok (.aload_n 0, 1) := by decide +kernel
theorem dX0_steepestOpen_61 : decode cX0_steepestOpen 61 = .ok (.getfield 19, 3) := by decide +kernel
theorem dX0_steepestOpen_64 : decode cX0_steepestOpen 64 = .ok (.iload 5, 2) := by decide +kernel
theorem dX0_steepestOpen_66 : decode cX0_steepestOpen 66 = .ok (.iaload, 1) := by decide +kernel
theorem dX0_steepestOpen_67 : decode cX0_steepestOpen 67 = .ok (.iload 4, 2) := by decide +kernel
theorem dX0_steepestOpen_69 : decode cX0_steepestOpen 69 = .ok (.if_icmp .le 15, 3) := by decide +kernel
theorem dX0_steepestOpen_72 : decode cX0_steepestOpen 72 = .ok (.iload 5, 2) := by decide +kernel
theorem dX0_steepestOpen_74 : decode cX0_steepestOpen 74 = .ok (.istore_n 3, 1) := by decide +kernel
theorem dX0_steepestOpen_75 : decode cX0_steepestOpen 75 = .ok (.aload_n 0, 1) := by decide +kernel
theorem dX0_steepestOpen_76 : decode cX0_steepestOpen 76 = .ok (.getfield 19, 3) := by decide +kernel
theorem dX0_steepestOpen_79 : decode cX0_steepestOpen 79 = .ok (.iload 5, 2) := by decide +kernel
theorem dX0_steepestOpen_81 : decode cX0_steepestOpen 81 = .ok (.iaload, 1) := by decide +kernel
theorem dX0_steepestOpen_82 : decode cX0_steepestOpen 82 = .ok (.istore 4, 2) := by decide +kernel
theorem dX0_steepestOpen_84 : decode cX0_steepestOpen 84 = .ok (.iinc 5 1, 3) := by decide +kernel
theorem dX0_steepestOpen_87 : decode cX0_steepestOpen 87 = .ok (.goto (-79), 3) := by decide +kernel
theorem dX0_steepestOpen_90 : decode cX0_steepestOpen 90 = .ok (.iload_n 3, 1) := by decide +kernel
theorem dX0_steepestOpen_91 : decode cX0_steepestOpen 91 = .ok (.ireturn, 1) := by decide +kernel
set_option maxRecDepth 20000 in
theorem ggX0_flagged_X0_isOpen : GoodIn wsX0_flagged wsX0_isOpen := goodIn_r _ [6, 7, 8, 9, 10, 11, 12, 13] (by decide +kernel) (by decide +kernel)
set_option maxRecDepth 20000 in
theorem gX0_flagged_X0_isOpen : GoodIn wsX0_flagged (wsV RX0 36 RX0 yX0_isOpen wsX0_isOpen) := goodIn_app (goodIn_of _ (by decide +kernel)) ggX0_flagged_X0_isOpen
theorem dX0_flagged_0 : decode cX0_flagged 0 = .ok (.iconst 0, 1) := by decide +kernel
theorem dX0_flagged_1 : decode cX0_flagged 1 = .ok (.istore_n 1, 1) := by decide +kernel
theorem dX0_flagged_2 : decode cX0_flagged 2 = .ok (.iconst 0, 1) := by decide +kernel
theorem dX0_flagged_3 : decode cX0_flagged 3 = .ok (.istore_n 2, 1) := by decide +kernel
theorem dX0_flagged_4 : decode cX0_flagged 4 = .ok (.iload_n 2, 1) := by decide +kernel
theorem dX0_flagged_5 : decode cX0_flagged 5 = .ok (.aload_n 0, 1) := by decide +kernel
theorem dX0_flagged_6 : decode cX0_flagged 6 = .ok (.getfield 9, 3) := by decide +kernel
theorem dX0_flagged_9 : decode cX0_flagged 9 = .ok (.if_icmp .ge 20, 3) := by decide +kernel
theorem dX0_flagged_12 : decode cX0_flagged 12 = .ok (.aload_n 0, 1) := by decide +kernel
theorem dX0_flagged_13 : decode cX0_flagged 13 = .ok (.iload_n 2, 1) := by decide +kernel
theorem dX0_flagged_14 : decode cX0_flagged 14 = .ok (.invokevirtual 36, 3) := by decide +kernel
theorem dX0_flagged_17 : decode cX0_flagged 17 = .ok (.ifCond .ne 6, 3) := by decide +kernel
theorem dX0_flagged_20 : decode cX0_flagged 20 = .ok (.iinc 1 1, 3) := by decide +kernel
theorem dX0_flagged_23 : decode cX0_flagged 23 = .ok (.iinc 2 1, 3) := by decide +kernel
theorem dX0_flagged_26 : decode cX0_flagged 26 = .ok (.goto (-22), 3) := by decide +kernel
theorem dX0_flagged_29 : decode cX0_flagged 29 = .ok (.iload_n 1, 1) := by decide +kernel
theorem dX0_flagged_30 : decode cX0_flagged 30 = .ok (.ireturn, 1) := by decide +kernel
set_option maxRecDepth 20000 in
theorem ggX0_figure_X0_isOpen : GoodIn wsX0_figure wsX0_isOpen := goodIn_r _ [9, 3, 2, 10, 11, 12, 13, 14] (by decide +kernel) (by decide +kernel)
set_option maxRecDepth 20000 in
theorem gX0_figure_X0_isOpen : GoodIn wsX0_figure (wsV RX0 36 RX0 yX0_isOpen wsX0_isOpen) := goodIn_app (goodIn_of _ (by decide +kernel)) ggX0_figure_X0_isOpen
theorem dX0_figure_0 : decode cX0_figure 0 = .ok (.iload_n 2, 1) := by decide +kernel
theorem dX0_figure_1 : decode cX0_figure 1 = .ok (.tableswitch 66 0 3 #[31, 38, 45, 52], 31) := by decide +kernel
theorem dX0_figure_32 : decode cX0_figure 32 = .ok (.aload_n 0, 1) := by decide +kernel
theorem dX0_figure_33 : decode cX0_figure 33 = .ok (.getfield 15, 3) := by decide +kernel
theorem dX0_figure_36 : decode cX0_figure 36 = .ok (.iload_n 1, 1) := by decide +kernel
theorem dX0_figure_37 : decode cX0_figure 37 = .ok (.iaload, 1) := by decide +kernel
theorem dX0_figure_38 : decode cX0_figure 38 = .ok (.ireturn, 1) := by decide +kernel
theorem dX0_figure_39 : decode cX0_figure 39 = .ok (.aload_n 0, 1) := by decide +kernel
theorem dX0_figure_40 : decode cX0_figure 40 = .ok (.getfield 19, 3) := by decide +kernel
theorem dX0_figure_43 : decode cX0_figure 43 = .ok (.iload_n 1, 1) := by decide +kernel
theorem dX0_figure_44 : decode cX0_figure 44 = .ok (.iaload, 1) := by decide +kernel
theorem dX0_figure_45 : decode cX0_figure 45 = .ok (.ireturn, 1) := by decide +kernel
theorem dX0_figure_46 : decode cX0_figure 46 = .ok (.aload_n 0, 1) := by decide +kernel
theorem dX0_figure_47 : decode cX0_figure 47 = .ok (.getfield 22, 3) := by decide +kernel
theorem dX0_figure_50 : decode cX0_figure 50 = .ok (.iload_n 1, 1) := by decide +kernel
theorem dX0_figure_51 : decode cX0_figure 51 = .ok (.iaload, 1) := by decide +kernel
theorem dX0_figure_52 : decode cX0_figure 52 = .ok (.ireturn, 1) := by decide +kernel
theorem dX0_figure_53 : decode cX0_figure 53 = .ok (.aload_n 0, 1) := by decide +kernel
theorem dX0_figure_54 : decode cX0_figure 54 = .ok (.iload_n 1, 1) := by decide +kernel
theorem dX0_figure_55 : decode cX0_figure 55 = .ok (.invokevirtual 36, 3) := by decide +kernel
theorem dX0_figure_58 : decode cX0_figure 58 = .ok (.ifCond .eq 7, 3) := by decide +kernel
theorem dX0_figure_61 : decode cX0_figure 61 = .ok (.iconst 0, 1) := by decide +kernel
theorem dX0_figure_62 : decode cX0_figure 62 = .ok (.goto 4, 3) := by decide +kernel
theorem dX0_figure_65 : decode cX0_figure 65 = .ok (.iconst 1, 1) := by decide +kernel
theorem dX0_figure_66 : decode cX0_figure 66 = .ok (.ireturn, 1) := by decide +kernel
theorem dX0_figure_67 : decode cX0_figure 67 = .ok (.aload_n 0, 1) := by decide +kernel
theorem dX0_figure_68 : decode cX0_figure 68 = .ok (.getfield 25, 3) := by decide +kernel
theorem dX0_figure_71 : decode cX0_figure 71 = .ok (.iload_n 1, 1) := by decide +kernel
theorem dX0_figure_72 : decode cX0_figure 72 = .ok (.iaload, 1) := by decide +kernel
theorem dX0_figure_73 : decode cX0_figure 73 = .ok (.ireturn, 1) := by decide +kernel
set_option maxRecDepth 20000 in
theorem ggX0_copyFrom_X3_copyRow : GoodIn wsX0_copyFrom wsX3_copyRow := goodIn_r _ [8, 9, 10, 11, 12, 13, 14, 15, 16] (by decide +kernel) (by decide +kernel)
set_option maxRecDepth 20000 in
theorem gX0_copyFrom_X3_copyRow_n40 : GoodIn wsX0_copyFrom (wsX3_copyRow) := ggX0_copyFrom_X3_copyRow
theorem dX0_copyFrom_0 : decode cX0_copyFrom 0 = .ok (.aload_n 0, 1) := by decide +kernel
theorem dX0_copyFrom_1 : decode cX0_copyFrom 1 = .ok (.aload_n 1, 1) := by decide +kernel
theorem dX0_copyFrom_2 : decode cX0_copyFrom 2 = .ok (.getfield 9, 3) := by decide +kernel
theorem dX0_copyFrom_5 : decode cX0_copyFrom 5 = .ok (.putfield 9, 3) := by decide +kernel
theorem dX0_copyFrom_8 : decode cX0_copyFrom 8 = .ok (.aload_n 1, 1) := by decide +kernel
theorem dX0_copyFrom_9 : decode cX0_copyFrom 9 = .ok (.getfield 15, 3) := by decide +kernel
theorem dX0_copyFrom_12 : decode cX0_copyFrom 12 = .ok (.aload_n 0, 1) := by decide +kernel
theorem dX0_copyFrom_13 : decode cX0_copyFrom 13 = .ok (.getfield 15, 3) := by decide +kernel
theorem dX0_copyFrom_16 : decode cX0_copyFrom 16 = .ok (.invokestatic 40, 3) := by decide +kernel
theorem dX0_copyFrom_19 : decode cX0_copyFrom 19 = .ok (.aload_n 1, 1) := by decide +kernel
theorem dX0_copyFrom_20 : decode cX0_copyFrom 20 = .ok (.getfield 19, 3) := by decide +kernel
theorem dX0_copyFrom_23 : decode cX0_copyFrom 23 = .ok (.aload_n 0, 1) := by decide +kernel
theorem dX0_copyFrom_24 : decode cX0_copyFrom 24 = .ok (.getfield 19, 3) := by decide +kernel
theorem dX0_copyFrom_27 : decode cX0_copyFrom 27 = .ok (.invokestatic 40, 3) := by decide +kernel
theorem dX0_copyFrom_30 : decode cX0_copyFrom 30 = .ok (.aload_n 1, 1) := by decide +kernel
theorem dX0_copyFrom_31 : decode cX0_copyFrom 31 = .ok (.getfield 22, 3) := by decide +kernel
theorem dX0_copyFrom_34 : decode cX0_copyFrom 34 = .ok (.aload_n 0, 1) := by decide +kernel
theorem dX0_copyFrom_35 : decode cX0_copyFrom 35 = .ok (.getfield 22, 3) := by decide +kernel
theorem dX0_copyFrom_38 : decode cX0_copyFrom 38 = .ok (.invokestatic 40, 3) := by decide +kernel
theorem dX0_copyFrom_41 : decode cX0_copyFrom 41 = .ok (.aload_n 1, 1) := by decide +kernel
theorem dX0_copyFrom_42 : decode cX0_copyFrom 42 = .ok (.getfield 25, 3) := by decide +kernel
theorem dX0_copyFrom_45 : decode cX0_copyFrom 45 = .ok (.aload_n 0, 1) := by decide +kernel
theorem dX0_copyFrom_46 : decode cX0_copyFrom 46 = .ok (.getfield 25, 3) := by decide +kernel
theorem dX0_copyFrom_49 : decode cX0_copyFrom 49 = .ok (.invokestatic 40, 3) := by decide +kernel
theorem dX0_copyFrom_52 : decode cX0_copyFrom 52 = .ok (.return_, 1) := by decide +kernel
theorem dX1_init_0 : decode cX1_init 0 = .ok (.aload_n 0, 1) := by decide +kernel
theorem dX1_init_1 : decode cX1_init 1 = .ok (.invokespecial 3, 3) := by decide +kernel
theorem dX1_init_4 : decode cX1_init 4 = .ok (.aload_n 0, 1) := by decide +kernel
theorem dX1_init_5 : decode cX1_init 5 = .ok (.iconst 0, 1) := by decide +kernel
theorem dX1_init_6 : decode cX1_init 6 = .ok (.putfield 9, 3) := by decide +kernel
theorem dX1_init_9 : decode cX1_init 9 = .ok (.aload_n 0, 1) := by decide +kernel
theorem dX1_init_10 : decode cX1_init 10 = .ok (.bipush 8, 2) := by decide +kernel
theorem dX1_init_12 : decode cX1_init 12 = .ok (.newarray .int, 2) := by decide +kernel
theorem dX1_init_14 : decode cX1_init 14 = .ok (.putfield 15, 3) := by decide +kernel
theorem dX1_init_17 : decode cX1_init 17 = .ok (.aload_n 0, 1) := by decide +kernel
theorem dX1_init_18 : decode cX1_init 18 = .ok (.bipush 8, 2) := by decide +kernel
theorem dX1_init_20 : decode cX1_init 20 = .ok (.newarray .int, 2) := by decide +kernel
theorem dX1_init_22 : decode cX1_init 22 = .ok (.putfield 19, 3) := by decide +kernel
theorem dX1_init_25 : decode cX1_init 25 = .ok (.aload_n 0, 1) := by decide +kernel
theorem dX1_init_26 : decode cX1_init 26 = .ok (.bipush 8, 2) := by decide +kernel
theorem dX1_init_28 : decode cX1_init 28 = .ok (.newarray .int, 2) := by decide +kernel
theorem dX1_init_30 : decode cX1_init 30 = .ok (.putfield 22, 3) := by decide +kernel
theorem dX1_init_33 : decode cX1_init 33 = .ok (.aload_n 0, 1) := by decide +kernel
theorem dX1_init_34 : decode cX1_init 34 = .ok (.bipush 8, 2) := by decide +kernel
theorem dX1_init_36 : decode cX1_init 36 = .ok (.newarray .int, 2) := by decide +kernel
theorem dX1_init_38 : decode cX1_init 38 = .ok (.putfield 25, 3) := by decide +kernel
theorem dX1_init_41 : decode cX1_init 41 = .ok (.aload_n 0, 1) := by decide +kernel
theorem dX1_init_42 : decode cX1_init 42 = .ok (.bipush 8, 2) := by decide +kernel
theorem dX1_init_44 : decode cX1_init 44 = .ok (.newarray .int, 2) := by decide +kernel
theorem dX1_init_46 : decode cX1_init 46 = .ok (.putfield 28, 3) := by decide +kernel
theorem dX1_init_49 : decode cX1_init 49 = .ok (.aload_n 0, 1) := by decide +kernel
theorem dX1_init_50 : decode cX1_init 50 = .ok (.bipush 8, 2) := by decide +kernel
theorem dX1_init_52 : decode cX1_init 52 = .ok (.newarray .int, 2) := by decide +kernel
theorem dX1_init_54 : decode cX1_init 54 = .ok (.putfield 31, 3) := by decide +kernel
theorem dX1_init_57 : decode cX1_init 57 = .ok (.aload_n 0, 1) := by decide +kernel
theorem dX1_init_58 : decode cX1_init 58 = .ok (.bipush 8, 2) := by decide +kernel
theorem dX1_init_60 : decode cX1_init 60 = .ok (.newarray .int, 2) := by decide +kernel
theorem dX1_init_62 : decode cX1_init 62 = .ok (.putfield 34, 3) := by decide +kernel
theorem dX1_init_65 : decode cX1_init 65 = .ok (.aload_n 0, 1) := by decide +kernel
theorem dX1_init_66 : decode cX1_init 66 = .ok (.bipush 8, 2) := by decide +kernel
theorem dX1_init_68 : decode cX1_init 68 = .ok (.newarray .int, 2) := by decide +kernel
theorem dX1_init_70 : decode cX1_init 70 = .ok (.putfield 37, 3) := by decide +kernel
theorem dX1_init_73 : decode cX1_init 73 = .ok (.return_, 1) := by decide +kernel
theorem dX1_has_0 : decode cX1_has 0 = .ok (.iload_n 1, 1) := by decide +kernel
theorem dX1_has_1 : decode cX1_has 1 = .ok (.ifCond .lt 15, 3) := by decide +kernel
theorem dX1_has_4 : decode cX1_has 4 = .ok (.iload_n 1, 1) := by decide +kernel
theorem dX1_has_5 : decode cX1_has 5 = .ok (.aload_n 0, 1) := by decide +kernel
theorem dX1_has_6 : decode cX1_has 6 = .ok (.getfield 9, 3) := by decide +kernel
theorem dX1_has_9 : decode cX1_has 9 = .ok (.if_icmp .ge 7, 3) := by decide +kernel
theorem dX1_has_12 : decode cX1_has 12 = .ok (.iconst 1, 1) := by decide +kernel
theorem dX1_has_13 : decode cX1_has 13 = .ok (.goto 4, 3) := by decide +kernel
theorem dX1_has_16 : decode cX1_has 16 = .ok (.iconst 0, 1) := by decide +kernel
theorem dX1_has_17 : decode cX1_has 17 = .ok (.ireturn, 1) := by decide +kernel
theorem dX1_isFull_0 : decode cX1_isFull 0 = .ok (.aload_n 0, 1) := by decide +kernel
theorem dX1_isFull_1 : decode cX1_isFull 1 = .ok (.getfield 9, 3) := by decide +kernel
theorem dX1_isFull_4 : decode cX1_isFull 4 = .ok (.bipush 8, 2) := by decide +kernel
theorem dX1_isFull_6 : decode cX1_isFull 6 = .ok (.if_icmp .lt 7, 3) := by decide +kernel
theorem dX1_isFull_9 : decode cX1_isFull 9 = .ok (.iconst 1, 1) := by decide +kernel
theorem dX1_isFull_10 : decode cX1_isFull 10 = .ok (.goto 4, 3) := by decide +kernel
theorem dX1_isFull_13 : decode cX1_isFull 13 = .ok (.iconst 0, 1) := by decide +kernel
theorem dX1_isFull_14 : decode cX1_isFull 14 = .ok (.ireturn, 1) := by decide +kernel
theorem dX1_add_0 : decode cX1_add 0 = .ok (.aload_n 0, 1) := by decide +kernel
theorem dX1_add_1 : decode cX1_add 1 = .ok (.getfield 9, 3) := by decide +kernel
theorem dX1_add_4 : decode cX1_add 4 = .ok (.istore_n 3, 1) := by decide +kernel
theorem dX1_add_5 : decode cX1_add 5 = .ok (.aload_n 0, 1) := by decide +kernel
theorem dX1_add_6 : decode cX1_add 6 = .ok (.getfield 15, 3) := by decide +kernel
theorem dX1_add_9 : decode cX1_add 9 = .ok (.iload_n 3, 1) := by decide +kernel
theorem dX1_add_10 : decode cX1_add 10 = .ok (.iload_n 1, 1) := by decide +kernel
theorem dX1_add_11 : decode cX1_add 11 = .ok (.iastore, 1) := by decide +kernel
theorem dX1_add_12 : decode cX1_add 12 = .ok (.aload_n 0, 1) := by decide +kernel
theorem dX1_add_13 : decode cX1_add 13 = .ok (.getfield 19, 3) := by decide +kernel
theorem dX1_add_16 : decode cX1_add 16 = .ok (.iload_n 3, 1) := by decide +kernel
theorem dX1_add_17 : decode cX1_add 17 = .ok (.iload_n 2, 1) := by decide +kernel
theorem dX1_add_18 : decode cX1_add 18 = .ok (.iastore, 1) := by decide +kernel
theorem dX1_add_19 : decode cX1_add 19 = .ok (.aload_n 0, 1) := by decide +kernel
theorem dX1_add_20 : decode cX1_add 20 = .ok (.getfield 34, 3) := by decide +kernel
theorem dX1_add_23 : decode cX1_add 23 = .ok (.iload_n 3, 1) := by decide +kernel
theorem dX1_add_24 : decode cX1_add 24 = .ok (.iconst (-1), 1) := by decide +kernel
theorem dX1_add_25 : decode cX1_add 25 = .ok (.iastore, 1) := by decide +kernel
theorem dX1_add_26 : decode cX1_add 26 = .ok (.aload_n 0, 1) := by decide +kernel
theorem dX1_add_27 : decode cX1_add 27 = .ok (.dup, 1) := by decide +kernel
theorem dX1_add_28 : decode cX1_add 28 = .ok (.getfield 9, 3) := by decide +kernel
theorem dX1_add_31 : decode cX1_add 31 = .ok (.iconst 1, 1) := by decide +kernel
theorem dX1_add_32 : decode cX1_add 32 = .ok (.iadd, 1) := by decide +kernel
theorem dX1_add_33 : decode cX1_add 33 = .ok (.putfield 9, 3) := by decide +kernel
theorem dX1_add_36 : decode cX1_add 36 = .ok (.iload_n 3, 1) := by decide +kernel
theorem dX1_add_37 : decode cX1_add 37 = .ok (.ireturn, 1) := by decide +kernel
theorem dX1_putWaxOn_0 : decode cX1_putWaxOn 0 = .ok (.aload_n 0, 1) := by decide +kernel
theorem dX1_putWaxOn_1 : decode cX1_putWaxOn 1 = .ok (.getfield 22, 3) := by decide +kernel
theorem dX1_putWaxOn_4 : decode cX1_putWaxOn 4 = .ok (.iload_n 1, 1) := by decide +kernel
theorem dX1_putWaxOn_5 : decode cX1_putWaxOn 5 = .ok (.iload_n 2, 1) := by decide +kernel
theorem dX1_putWaxOn_6 : decode cX1_putWaxOn 6 = .ok (.iastore, 1) := by decide +kernel
theorem dX1_putWaxOn_7 : decode cX1_putWaxOn 7 = .ok (.aload_n 0, 1) := by decide +kernel
theorem dX1_putWaxOn_8 : decode cX1_putWaxOn 8 = .ok (.getfield 25, 3) := by decide +kernel
theorem dX1_putWaxOn_11 : decode cX1_putWaxOn 11 = .ok (.iload_n 1, 1) := by decide +kernel
theorem dX1_putWaxOn_12 : decode cX1_putWaxOn 12 = .ok (.bipush 10, 2) := by decide +kernel
theorem dX1_putWaxOn_14 : decode cX1_putWaxOn 14 = .ok (.iastore, 1) := by decide +kernel
theorem dX1_putWaxOn_15 : decode cX1_putWaxOn 15 = .ok (.return_, 1) := by decide +kernel
theorem dX1_waitingAt_0 : decode cX1_waitingAt 0 = .ok (.iconst 0, 1) := by decide +kernel
theorem dX1_waitingAt_1 : decode cX1_waitingAt 1 = .ok (.istore_n 2, 1) := by decide +kernel
theorem dX1_waitingAt_2 : decode cX1_waitingAt 2 = .ok (.iconst 0, 1) := by decide +kernel
theorem dX1_waitingAt_3 : decode cX1_waitingAt 3 = .ok (.istore_n 3, 1) := by decide +kernel
theorem dX1_waitingAt_4 : decode cX1_waitingAt 4 = .ok (.iload_n 3, 1) := by decide +kernel
theorem dX1_waitingAt_5 : decode cX1_waitingAt 5 = .ok (.aload_n 0, 1) := by decide +kernel
theorem dX1_waitingAt_6 : decode cX1_waitingAt 6 = .ok (.getfield 9, 3) := by decide +kernel
theorem dX1_waitingAt_9 : decode cX1_waitingAt 9 = .ok (.if_icmp .ge 22, 3) := by decide +kernel
theorem dX1_waitingAt_12 : decode cX1_waitingAt 12 = .ok (.aload_n 0, 1) := by decide +kernel
theorem dX1_waitingAt_13 : decode cX1_waitingAt 13 = .ok (.getfield 34, 3) := by decide +kernel
theorem dX1_waitingAt_16 : decode cX1_waitingAt 16 = .ok (.iload_n 3, 1) := by decide +kernel
theorem dX1_waitingAt_17 : decode cX1_waitingAt 17 = .ok (.iaload, 1) := by decide +kernel
theorem dX1_waitingAt_18 : decode cX1_waitingAt 18 = .ok (.iload_n 1, 1) := by decide +kernel
theorem dX1_waitingAt_19 : decode cX1_waitingAt 19 = .ok (.if_icmp .ne 6, 3) := by decide +kernel
theorem dX1_waitingAt_22 : decode cX1_waitingAt 22 = .ok (.iinc 2 1, 3) := by decide +kernel
theorem dX1_waitingAt_25 : decode cX1_waitingAt 25 = .ok (.iinc 3 1, 3) := by decide +kernel
theorem dX1_waitingAt_28 : decode cX1_waitingAt 28 = .ok (.goto (-24), 3) := by decide +kernel
theorem dX1_waitingAt_31 : decode cX1_waitingAt 31 = .ok (.iload_n 2, 1) := by decide +kernel
theorem dX1_waitingAt_32 : decode cX1_waitingAt 32 = .ok (.ireturn, 1) := by decide +kernel
theorem dX1_waitingAnywhere_0 : decode cX1_waitingAnywhere 0 = .ok (.iconst 0, 1) := by decide +kernel
theorem dX1_waitingAnywhere_1 : decode cX1_waitingAnywhere 1 = .ok (.istore_n 1, 1) := by decide +kernel
theorem dX1_waitingAnywhere_2 : decode cX1_waitingAnywhere 2 = .ok (.iconst 0, 1) := by decide +kernel
theorem dX1_waitingAnywhere_3 : decode cX1_waitingAnywhere 3 = .ok (.istore_n 2, 1) := by decide +kernel
theorem dX1_waitingAnywhere_4 : decode cX1_waitingAnywhere 4 = .ok (.iload_n 2, 1) := by decide +kernel
theorem dX1_waitingAnywhere_5 : decode cX1_waitingAnywhere 5 = .ok (.aload_n 0, 1) := by decide +kernel
theorem dX1_waitingAnywhere_6 : decode cX1_waitingAnywhere 6 = .ok (.getfield 9, 3) := by decide +kernel
theorem dX1_waitingAnywhere_9 : decode cX1_waitingAnywhere 9 = .ok (.if_icmp .ge 22, 3) := by decide +kernel
theorem dX1_waitingAnywhere_12 : decode cX1_waitingAnywhere 12 = .ok (.aload_n 0, 1) := by decide +kernel
theorem dX1_waitingAnywhere_13 : decode cX1_waitingAnywhere 13 = .ok (.getfield 34, 3) := by decide +kernel
theorem dX1_waitingAnywhere_16 : decode cX1_waitingAnywhere 16 = .ok (.iload_n 2, 1) := by decide +kernel
theorem dX1_waitingAnywhere_17 : decode cX1_waitingAnywhere 17 = .ok (.iaload, 1) := by decide +kernel
theorem dX1_waitingAnywhere_18 : decode cX1_waitingAnywhere 18 = .ok (.iconst (-1), 1) := by decide +kernel
theorem dX1_waitingAnywhere_19 : decode cX1_waitingAnywhere 19 = .ok (.if_icmp .eq 6, 3) := by decide +kernel
theorem dX1_waitingAnywhere_22 : decode cX1_waitingAnywhere 22 = .ok (.iinc 1 1, 3) := by decide +kernel
theorem dX1_waitingAnywhere_25 : decode cX1_waitingAnywhere 25 = .ok (.iinc 2 1, 3) := by decide +kernel
theorem dX1_waitingAnywhere_28 : decode cX1_waitingAnywhere 28 = .ok (.goto (-24), 3) := by decide +kernel
theorem dX1_waitingAnywhere_31 : decode cX1_waitingAnywhere 31 = .ok (.iload_n 1, 1) := by decide +kernel
theorem dX1_waitingAnywhere_32 : decode cX1_waitingAnywhere 32 = .ok (.ireturn, 1) := by decide +kernel
theorem dX1_at_0 : decode cX1_at 0 = .ok (.iconst 0, 1) := by decide +kernel
theorem dX1_at_1 : decode cX1_at 1 = .ok (.istore_n 3, 1) := by decide +kernel
theorem dX1_at_2 : decode cX1_at 2 = .ok (.iload_n 3, 1) := by decide +kernel
theorem dX1_at_3 : decode cX1_at 3 = .ok (.aload_n 0, 1) := by decide +kernel
theorem dX1_at_4 : decode cX1_at 4 = .ok (.getfield 9, 3) := by decide +kernel
theorem dX1_at_7 : decode cX1_at 7 = .ok (.if_icmp .ge 31, 3) := by decide +kernel
theorem dX1_at_10 : decode cX1_at 10 = .ok (.aload_n 0, 1) := by decide +kernel
theorem dX1_at_11 : decode cX1_at 11 = .ok (.getfield 34, 3) := by decide +kernel
theorem dX1_at_14 : decode cX1_at 14 = .ok (.iload_n 3, 1) := by decide +kernel
theorem dX1_at_15 : decode cX1_at 15 = .ok (.iaload, 1) := by decide +kernel
theorem dX1_at_16 : decode cX1_at 16 = .ok (.iload_n 1, 1) := by decide +kernel
theorem dX1_at_17 : decode cX1_at 17 = .ok (.if_icmp .ne 15, 3) := by decide +kernel
theorem dX1_at_20 : decode cX1_at 20 = .ok (.aload_n 0, 1) := by decide +kernel
theorem dX1_at_21 : decode cX1_at 21 = .ok (.getfield 37, 3) := by decide +kernel
theorem dX1_at_24 : decode cX1_at 24 = .ok (.iload_n 3, 1) := by decide +kernel
theorem dX1_at_25 : decode cX1_at 25 = .ok (.iaload, 1) := by decide +kernel
theorem dX1_at_26 : decode cX1_at 26 = .ok (.iload_n 2, 1) := by decide +kernel
theorem dX1_at_27 : decode cX1_at 27 = .ok (.if_icmp .ne 5, 3) := by decide +kernel
theorem dX1_at_30 : decode cX1_at 30 = .ok (.iload_n 3, 1) := by decide +kernel
theorem dX1_at_31 : decode cX1_at 31 = .ok (.ireturn, 1) := by decide +kernel
theorem dX1_at_32 : decode cX1_at 32 = .ok (.iinc 3 1, 3) := by decide +kernel
theorem dX1_at_35 : decode cX1_at 35 = .ok (.goto (-33), 3) := by decide +kernel
theorem dX1_at_38 : decode cX1_at 38 = .ok (.iconst (-1), 1) := by decide +kernel
theorem dX1_at_39 : decode cX1_at 39 = .ok (.ireturn, 1) := by decide +kernel
theorem dX1_takeOutOfQueue_0 : decode cX1_takeOutOfQueue 0 = .ok (.aload_n 0, 1) := by decide +kernel
theorem dX1_takeOutOfQueue_1 : decode cX1_takeOutOfQueue 1 = .ok (.getfield 34, 3) := by decide +kernel
theorem dX1_takeOutOfQueue_4 : decode cX1_takeOutOfQueue 4 = .ok (.iload_n 1, 1) := by decide +kernel
theorem dX1_takeOutOfQueue_5 : decode cX1_takeOutOfQueue 5 = .ok (.iaload, 1) := by decide +kernel
theorem dX1_takeOutOfQueue_6 : decode cX1_takeOutOfQueue 6 = .ok (.istore_n 2, 1) := by decide +kernel
theorem dX1_takeOutOfQueue_7 : decode cX1_takeOutOfQueue 7 = .ok (.aload_n 0, 1) := by decide +kernel
theorem dX1_takeOutOfQueue_8 : decode cX1_takeOutOfQueue 8 = .ok (.getfield 37, 3) := by decide +kernel
theorem dX1_takeOutOfQueue_11 : decode cX1_takeOutOfQueue 11 = .ok (.iload_n 1, 1) := by decide +kernel
theorem dX1_takeOutOfQueue_12 : decode cX1_takeOutOfQueue 12 = .ok (.iaload, 1) := by decide +kernel
theorem dX1_takeOutOfQueue_13 : decode cX1_takeOutOfQueue 13 = .ok (.istore_n 3, 1) := by decide +kernel
theorem dX1_takeOutOfQueue_14 : decode cX1_takeOutOfQueue 14 = .ok (.iload_n 2, 1) := by decide +kernel
theorem dX1_takeOutOfQueue_15 : decode cX1_takeOutOfQueue 15 = .ok (.iconst (-1), 1) := by decide +kernel
theorem dX1_takeOutOfQueue_16 : decode cX1_takeOutOfQueue 16 = .ok (.if_icmp .ne 4, 3) := by decide +kernel
theorem dX1_takeOutOfQueue_19 : decode cX1_takeOutOfQueue 19 = .ok (.return_, 1) := by decide +kernel
theorem dX1_takeOutOfQueue_20 : decode cX1_takeOutOfQueue 20 = .ok (.aload_n 0, 1) := by decide +kernel
theorem dX1_takeOutOfQueue_21 : decode cX1_takeOutOfQueue 21 = .ok (.getfield 34, 3) := by decide +kernel
theorem dX1_takeOutOfQueue_24 : decode cX1_takeOutOfQueue 24 = .ok (.iload_n 1, 1) := by decide +kernel
theorem dX1_takeOutOfQueue_25 : decode cX1_takeOutOfQueue 25 = .ok (.iconst (-1), 1) := by decide +kernel
theorem dX1_takeOutOfQueue_26 : decode cX1_takeOutOfQueue 26 = .ok (.iastore, 1) := by decide +kernel
theorem dX1_takeOutOfQueue_27 : decode cX1_takeOutOfQueue 27 = .ok (.iconst 0, 1) := by decide +kernel
theorem dX1_takeOutOfQueue_28 : decode cX1_takeOutOfQueue 28 = .ok (.istore 4, 2) := by decide +kernel
theorem dX1_takeOutOfQueue_30 : decode cX1_takeOutOfQueue 30 = .ok (.iload 4, 2) := by decide +kernel
theorem dX1_takeOutOfQueue_32 : decode cX1_takeOutOfQueue 32 = .ok (.aload_n 0, 1) := by decide +kernel
theorem dX1_takeOutOfQueue_33 : decode cX1_takeOutOfQueue 33 = .ok (.getfield 9, 3) := by decide +kernel
theorem dX1_takeOutOfQueue_36 : decode cX1_takeOutOfQueue 36 = .ok (.if_icmp .ge 42, 3) := by decide +kernel
theorem dX1_takeOutOfQueue_39 : decode cX1_takeOutOfQueue 39 = .ok (.aload_n 0, 1) := by decide +kernel
theorem dX1_takeOutOfQueue_40 : decode cX1_takeOutOfQueue 40 = .ok (.getfield 34, 3) := by decide +kernel
theorem dX1_takeOutOfQueue_43 : decode cX1_takeOutOfQueue 43 = .ok (.iload 4, 2) := by decide +kernel
theorem dX1_takeOutOfQueue_45 : decode cX1_takeOutOfQueue 45 = .ok (.iaload, 1) := by decide +kernel
theorem dX1_takeOutOfQueue_46 : decode cX1_takeOutOfQueue 46 = .ok (.iload_n 2, 1) := by decide +kernel
theorem dX1_takeOutOfQueue_47 : decode cX1_takeOutOfQueue 47 = .ok (.if_icmp .ne 25, 3) := by decide +kernel
theorem dX1_takeOutOfQueue_50 : decode cX1_takeOutOfQueue 50 = .ok (.aload_n 0, 1) := by decide +kernel
theorem dX1_takeOutOfQueue_51 : decode cX1_takeOutOfQueue 51 = .ok (.getfield 37, 3) := by decide +kernel
theorem dX1_takeOutOfQueue_54 : decode cX1_takeOutOfQueue 54 = .ok (.iload 4, 2) := by decide +kernel
theorem dX1_takeOutOfQueue_56 : decode cX1_takeOutOfQueue 56 = .ok (.iaload, 1) := by decide +kernel
theorem dX1_takeOutOfQueue_57 : decode cX1_takeOutOfQueue 57 = .ok (.iload_n 3, 1) := by decide +kernel
theorem dX1_takeOutOfQueue_58 : decode cX1_takeOutOfQueue 58 = .ok (.if_icmp .le 14, 3) := by decide +kernel
theorem dX1_takeOutOfQueue_61 : decode cX1_takeOutOfQueue 61 = .ok (.aload_n 0, 1) := by decide +kernel
theorem dX1_takeOutOfQueue_62 : decode cX1_takeOutOfQueue 62 = .ok (.getfield 37, 3) := by decide +kernel
theorem dX1_takeOutOfQueue_65 : decode cX1_takeOutOfQueue 65 = .ok (.iload 4, 2) := by decide +kernel
theorem dX1_takeOutOfQueue_67 : decode cX1_takeOutOfQueue 67 = .ok (.dup2, 1) := by decide +kernel
theorem dX1_takeOutOfQueue_68 : decode cX1_takeOutOfQueue 68 = .ok (.iaload, 1) := by decide +kernel
theorem dX1_takeOutOfQueue_69 : decode cX1_takeOutOfQueue 69 = .ok (.iconst 1, 1) := by decide +kernel
theorem dX1_takeOutOfQueue_70 : decode cX1_takeOutOfQueue 70 = .ok (.isub, 1) := by decide +kernel
theorem dX1_takeOutOfQueue_71 : decode cX1_takeOutOfQueue 71 = .ok (.iastore, 1) := by decide +kernel
theorem dX1_takeOutOfQueue_72 : decode cX1_takeOutOfQueue 72 = .ok (.iinc 4 1, 3) := by decide +kernel
theorem dX1_takeOutOfQueue_75 : decode cX1_takeOutOfQueue 75 = .ok (.goto (-45), 3) := by decide +kernel
theorem dX1_takeOutOfQueue_78 : decode cX1_takeOutOfQueue 78 = .ok (.return_, 1) := by decide +kernel
set_option maxRecDepth 20000 in
theorem ggX1_putAtEnd_X1_waitingAt : GoodIn wsX1_putAtEnd wsX1_waitingAt := goodIn_r _ [7, 8, 1, 9, 10, 11, 12, 13, 14, 15, 16, 17] (by decide +kernel) (by decide +kernel)
set_option maxRecDepth 20000 in
theorem gX1_putAtEnd_X1_waitingAt : GoodIn wsX1_putAtEnd (wsV RX1 40 RX1 yX1_waitingAt wsX1_waitingAt) := goodIn_app (goodIn_of _ (by decide +kernel)) ggX1_putAtEnd_X1_waitingAt
theorem dX1_putAtEnd_0 : decode cX1_putAtEnd 0 = .ok (.aload_n 0, 1) := by decide +kernel
theorem dX1_putAtEnd_1 : decode cX1_putAtEnd 1 = .ok (.iload_n 2, 1) := by decide +kernel
theorem dX1_putAtEnd_2 : decode cX1_putAtEnd 2 = .ok (.invokevirtual 40, 3) := by decide +kernel
theorem dX1_putAtEnd_5 : decode cX1_putAtEnd 5 = .ok (.istore_n 3, 1) := by decide +kernel
theorem dX1_putAtEnd_6 : decode cX1_putAtEnd 6 = .ok (.aload_n 0, 1) := by decide +kernel
theorem dX1_putAtEnd_7 : decode cX1_putAtEnd 7 = .ok (.getfield 34, 3) := by decide +kernel
theorem dX1_putAtEnd_10 : decode cX1_putAtEnd 10 = .ok (.iload_n 1, 1) := by decide +kernel
theorem dX1_putAtEnd_11 : decode cX1_putAtEnd 11 = .ok (.iload_n 2, 1) := by decide +kernel
theorem dX1_putAtEnd_12 : decode cX1_putAtEnd 12 = .ok (.iastore, 1) := by decide +kernel
theorem dX1_putAtEnd_13 : decode cX1_putAtEnd 13 = .ok (.aload_n 0, 1) := by decide +kernel
theorem dX1_putAtEnd_14 : decode cX1_putAtEnd 14 = .ok (.getfield 37, 3) := by decide +kernel
theorem dX1_putAtEnd_17 : decode cX1_putAtEnd 17 = .ok (.iload_n 1, 1) := by decide +kernel
theorem dX1_putAtEnd_18 : decode cX1_putAtEnd 18 = .ok (.iload_n 3, 1) := by decide +kernel
theorem dX1_putAtEnd_19 : decode cX1_putAtEnd 19 = .ok (.iastore, 1) := by decide +kernel
theorem dX1_putAtEnd_20 : decode cX1_putAtEnd 20 = .ok (.return_, 1) := by decide +kernel
theorem dX1_glide_0 : decode cX1_glide 0 = .ok (.aload_n 0, 1) := by decide +kernel
theorem dX1_glide_1 : decode cX1_glide 1 = .ok (.getfield 25, 3) := by decide +kernel
theorem dX1_glide_4 : decode cX1_glide 4 = .ok (.iload_n 1, 1) := by decide +kernel
theorem dX1_glide_5 : decode cX1_glide 5 = .ok (.iaload, 1) := by decide +kernel
theorem dX1_glide_6 : decode cX1_glide 6 = .ok (.ifCond .gt 6, 3) := by decide +kernel
theorem dX1_glide_9 : decode cX1_glide 9 = .ok (.bipush (-4), 2) := by decide +kernel
theorem dX1_glide_11 : decode cX1_glide 11 = .ok (.ireturn, 1) := by decide +kernel
theorem dX1_glide_12 : decode cX1_glide 12 = .ok (.aload_n 0, 1) := by decide +kernel
theorem dX1_glide_13 : decode cX1_glide 13 = .ok (.getfield 25, 3) := by decide +kernel
theorem dX1_glide_16 : decode cX1_glide 16 = .ok (.iload_n 1, 1) := by decide +kernel
theorem dX1_glide_17 : decode cX1_glide 17 = .ok (.dup2, 1) := by decide +kernel
theorem dX1_glide_18 : decode cX1_glide 18 = .ok (.iaload, 1) := by decide +kernel
theorem dX1_glide_19 : decode cX1_glide 19 = .ok (.iconst 1, 1) := by decide +kernel
theorem dX1_glide_20 : decode cX1_glide 20 = .ok (.isub, 1) := by decide +kernel
theorem dX1_glide_21 : decode cX1_glide 21 = .ok (.iastore, 1) := by decide +kernel
theorem dX1_glide_22 : decode cX1_glide 22 = .ok (.iconst 4, 1) := by decide +kernel
theorem dX1_glide_23 : decode cX1_glide 23 = .ok (.iconst 2, 1) := by decide +kernel
theorem dX1_glide_24 : decode cX1_glide 24 = .ok (.aload_n 0, 1) := by decide +kernel
theorem dX1_glide_25 : decode cX1_glide 25 = .ok (.getfield 22, 3) := by decide +kernel
theorem dX1_glide_28 : decode cX1_glide 28 = .ok (.iload_n 1, 1) := by decide +kernel
theorem dX1_glide_29 : decode cX1_glide 29 = .ok (.iaload, 1) := by decide +kernel
theorem dX1_glide_30 : decode cX1_glide 30 = .ok (.iload_n 2, 1) := by decide +kernel
theorem dX1_glide_31 : decode cX1_glide 31 = .ok (.isub, 1) := by decide +kernel
theorem dX1_glide_32 : decode cX1_glide 32 = .ok (.invokestatic 44, 3) := by decide +kernel
theorem dX1_glide_35 : decode cX1_glide 35 = .ok (.imul, 1) := by decide +kernel
theorem dX1_glide_36 : decode cX1_glide 36 = .ok (.isub, 1) := by decide +kernel
theorem dX1_glide_37 : decode cX1_glide 37 = .ok (.ireturn, 1) := by decide +kernel
set_option maxRecDepth 20000 in
theorem ggX1_addPoints_X3_held : GoodIn wsX1_addPoints wsX3_held := goodIn_r _ [4, 5, 6, 7, 8, 9, 10, 11] (by decide +kernel) (by decide +kernel)
set_option maxRecDepth 20000 in
theorem gX1_addPoints_X3_held_n49 : GoodIn wsX1_addPoints (wsX3_held) := ggX1_addPoints_X3_held
theorem dX1_addPoints_0 : decode cX1_addPoints 0 = .ok (.aload_n 0, 1) := by decide +kernel
theorem dX1_addPoints_1 : decode cX1_addPoints 1 = .ok (.getfield 28, 3) := by decide +kernel
theorem dX1_addPoints_4 : decode cX1_addPoints 4 = .ok (.iload_n 1, 1) := by decide +kernel
theorem dX1_addPoints_5 : decode cX1_addPoints 5 = .ok (.aload_n 0, 1) := by decide +kernel
theorem dX1_addPoints_6 : decode cX1_addPoints 6 = .ok (.getfield 28, 3) := by decide +kernel
theorem dX1_addPoints_9 : decode cX1_addPoints 9 = .ok (.iload_n 1, 1) := by decide +kernel
theorem dX1_addPoints_10 : decode cX1_addPoints 10 = .ok (.iaload, 1) := by decide +kernel
theorem dX1_addPoints_11 : decode cX1_addPoints 11 = .ok (.iload_n 2, 1) := by decide +kernel
theorem dX1_addPoints_12 : decode cX1_addPoints 12 = .ok (.iadd, 1) := by decide +kernel
theorem dX1_addPoints_13 : decode cX1_addPoints 13 = .ok (.iconst 0, 1) := by decide +kernel
theorem dX1_addPoints_14 : decode cX1_addPoints 14 = .ok (.sipush 999, 3) := by decide +kernel
theorem dX1_addPoints_17 : decode cX1_addPoints 17 = .ok (.invokestatic 49, 3) := by decide +kernel
theorem dX1_addPoints_20 : decode cX1_addPoints 20 = .ok (.iastore, 1) := by decide +kernel
theorem dX1_addPoints_21 : decode cX1_addPoints 21 = .ok (.return_, 1) := by decide +kernel
theorem dX1_allPoints_0 : decode cX1_allPoints 0 = .ok (.iconst 0, 1) := by decide +kernel
theorem dX1_allPoints_1 : decode cX1_allPoints 1 = .ok (.istore_n 1, 1) := by decide +kernel
theorem dX1_allPoints_2 : decode cX1_allPoints 2 = .ok (.iconst 0, 1) := by decide +kernel
theorem dX1_allPoints_3 : decode cX1_allPoints 3 = .ok (.istore_n 2, 1) := by decide +kernel
theorem dX1_allPoints_4 : decode cX1_allPoints 4 = .ok (.iload_n 2, 1) := by decide +kernel
theorem dX1_allPoints_5 : decode cX1_allPoints 5 = .ok (.aload_n 0, 1) := by decide +kernel
theorem dX1_allPoints_6 : decode cX1_allPoints 6 = .ok (.getfield 9, 3) := by decide +kernel
theorem dX1_allPoints_9 : decode cX1_allPoints 9 = .ok (.if_icmp .ge 18, 3) := by decide +kernel
theorem dX1_allPoints_12 : decode cX1_allPoints 12 = .ok (.iload_n 1, 1) := by decide +kernel
theorem dX1_allPoints_13 : decode cX1_allPoints 13 = .ok (.aload_n 0, 1) := by decide +kernel
theorem dX1_allPoints_14 : decode cX1_allPoints 14 = .ok (.getfield 28, 3) := by decide +kernel
theorem dX1_allPoints_17 : decode cX1_allPoints 17 = .ok (.iload_n 2, 1) := by decide +kernel
theorem dX1_allPoints_18 : decode cX1_allPoints 18 = .ok (.iaload, 1) := by decide +kernel
theorem dX1_allPoints_19 : decode cX1_allPoints 19 = .ok (.iadd, 1) := by decide +kernel
theorem dX1_allPoints_20 : decode cX1_allPoints 20 = .ok (.istore_n 1, 1) := by decide +kernel
theorem dX1_allPoints_21 : decode cX1_allPoints 21 = .ok (.iinc 2 1, 3) := by decide +kernel
theorem dX1_allPoints_24 : decode cX1_allPoints 24 = .ok (.goto (-20), 3) := by decide +kernel
theorem dX1_allPoints_27 : decode cX1_allPoints 27 = .ok (.iload_n 1, 1) := by decide +kernel
theorem dX1_allPoints_28 : decode cX1_allPoints 28 = .ok (.ireturn, 1) := by decide +kernel
theorem dX1_figure_0 : decode cX1_figure 0 = .ok (.iload_n 2, 1) := by decide +kernel
theorem dX1_figure_1 : decode cX1_figure 1 = .ok (.tableswitch 94 0 5 #[39, 46, 53, 73, 80, 87], 39) := by decide +kernel
theorem dX1_figure_40 : decode cX1_figure 40 = .ok (.aload_n 0, 1) := by decide +kernel
theorem dX1_figure_41 : decode cX1_figure 41 = .ok (.getfield 15, 3) := by decide +kernel
theorem dX1_figure_44 : decode cX1_figure 44 = .ok (.iload_n 1, 1) := by decide +kernel
theorem dX1_figure_45 : decode cX1_figure 45 = .ok (.iaload, 1) := by decide +kernel
theorem dX1_figure_46 : decode cX1_figure 46 = .ok (.ireturn, 1) := by decide +kernel
theorem dX1_figure_47 : decode cX1_figure 47 = .ok (.aload_n 0, 1) := by decide +kernel
theorem dX1_figure_48 : decode cX1_figure 48 = .ok (.getfield 19, 3) := by decide +kernel
theorem dX1_figure_51 : decode cX1_figure 51 = .ok (.iload_n 1, 1) := by decide +kernel
theorem dX1_figure_52 : decode cX1_figure 52 = .ok (.iaload, 1) := by decide +kernel
theorem dX1_figure_53 : decode cX1_figure 53 = .ok (.ireturn, 1) := by decide +kernel
theorem dX1_figure_54 : decode cX1_figure 54 = .ok (.aload_n 0, 1) := by decide +kernel
theorem dX1_figure_55 : decode cX1_figure 55 = .ok (.getfield 25, 3) := by decide +kernel
theorem dX1_figure_58 : decode cX1_figure 58 = .ok (.iload_n 1, 1) := by decide +kernel
theorem dX1_figure_59 : decode cX1_figure 59 = .ok (.iaload, 1) := by decide +kernel
theorem dX1_figure_60 : decode cX1_figure 60 = .ok (.ifCond .gt 7, 3) := by decide +kernel
theorem dX1_figure_63 : decode cX1_figure 63 = .ok (.iconst (-1), 1) := by decide +kernel
theorem dX1_figure_64 : decode cX1_figure 64 = .ok (.goto 9, 3) := by decide +kernel
theorem dX1_figure_67 : decode cX1_figure 67 = .ok (.aload_n 0, 1) := by decide +kernel
theorem dX1_figure_68 : decode cX1_figure 68 = .ok (.getfield 22, 3) := by decide +kernel
theorem dX1_figure_71 : decode cX1_figure 71 = .ok (.iload_n 1, 1) := by decide +kernel
theorem dX1_figure_72 : decode cX1_figure 72 = .ok (.iaload, 1) := by decide +kernel
theorem dX1_figure_73 : decode cX1_figure 73 = .ok (.ireturn, 1) := by decide +kernel
theorem dX1_figure_74 : decode cX1_figure 74 = .ok (.aload_n 0, 1) := by decide +kernel
theorem dX1_figure_75 : decode cX1_figure 75 = .ok (.getfield 25, 3) := by decide +kernel
theorem dX1_figure_78 : decode cX1_figure 78 = .ok (.iload_n 1, 1) := by decide +kernel
theorem dX1_figure_79 : decode cX1_figure 79 = .ok (.iaload, 1) := by decide +kernel
theorem dX1_figure_80 : decode cX1_figure 80 = .ok (.ireturn, 1) := by decide +kernel
theorem dX1_figure_81 : decode cX1_figure 81 = .ok (.aload_n 0, 1) := by decide +kernel
theorem dX1_figure_82 : decode cX1_figure 82 = .ok (.getfield 28, 3) := by decide +kernel
theorem dX1_figure_85 : decode cX1_figure 85 = .ok (.iload_n 1, 1) := by decide +kernel
theorem dX1_figure_86 : decode cX1_figure 86 = .ok (.iaload, 1) := by decide +kernel
theorem dX1_figure_87 : decode cX1_figure 87 = .ok (.ireturn, 1) := by decide +kernel
theorem dX1_figure_88 : decode cX1_figure 88 = .ok (.aload_n 0, 1) := by decide +kernel
theorem dX1_figure_89 : decode cX1_figure 89 = .ok (.getfield 31, 3) := by decide +kernel
theorem dX1_figure_92 : decode cX1_figure 92 = .ok (.iload_n 1, 1) := by decide +kernel
theorem dX1_figure_93 : decode cX1_figure 93 = .ok (.iaload, 1) := by decide +kernel
theorem dX1_figure_94 : decode cX1_figure 94 = .ok (.ireturn, 1) := by decide +kernel
theorem dX1_figure_95 : decode cX1_figure 95 = .ok (.aload_n 0, 1) := by decide +kernel
theorem dX1_figure_96 : decode cX1_figure 96 = .ok (.getfield 34, 3) := by decide +kernel
theorem dX1_figure_99 : decode cX1_figure 99 = .ok (.iload_n 1, 1) := by decide +kernel
theorem dX1_figure_100 : decode cX1_figure 100 = .ok (.iaload, 1) := by decide +kernel
theorem dX1_figure_101 : decode cX1_figure 101 = .ok (.ireturn, 1) := by decide +kernel
set_option maxRecDepth 20000 in
theorem ggX1_copyFrom_X3_copyRow : GoodIn wsX1_copyFrom wsX3_copyRow := goodIn_r _ [12, 13, 14, 15, 16, 17, 18, 19, 20] (by decide +kernel) (by decide +kernel)
set_option maxRecDepth 20000 in
theorem gX1_copyFrom_X3_copyRow_n53 : GoodIn wsX1_copyFrom (wsX3_copyRow) := ggX1_copyFrom_X3_copyRow
theorem dX1_copyFrom_0 : decode cX1_copyFrom 0 = .ok (.aload_n 0, 1) := by decide +kernel
theorem dX1_copyFrom_1 : decode cX1_copyFrom 1 = .ok (.aload_n 1, 1) := by decide +kernel
theorem dX1_copyFrom_2 : decode cX1_copyFrom 2 = .ok (.getfield 9, 3) := by decide +kernel
theorem dX1_copyFrom_5 : decode cX1_copyFrom 5 = .ok (.putfield 9, 3) := by decide +kernel
theorem dX1_copyFrom_8 : decode cX1_copyFrom 8 = .ok (.aload_n 1, 1) := by decide +kernel
theorem dX1_copyFrom_9 : decode cX1_copyFrom 9 = .ok (.getfield 15, 3) := by decide +kernel
theorem dX1_copyFrom_12 : decode cX1_copyFrom 12 = .ok (.aload_n 0, 1) := by decide +kernel
theorem dX1_copyFrom_13 : decode cX1_copyFrom 13 = .ok (.getfield 15, 3) := by decide +kernel
theorem dX1_copyFrom_16 : decode cX1_copyFrom 16 = .ok (.invokestatic 53, 3) := by decide +kernel
theorem dX1_copyFrom_19 : decode cX1_copyFrom 19 = .ok (.aload_n 1, 1) := by decide +kernel
theorem dX1_copyFrom_20 : decode cX1_copyFrom 20 = .ok (.getfield 19, 3) := by decide +kernel
theorem dX1_copyFrom_23 : decode cX1_copyFrom 23 = .ok (.aload_n 0, 1) := by decide +kernel
theorem dX1_copyFrom_24 : decode cX1_copyFrom 24 = .ok (.getfield 19, 3) := by decide +kernel
theorem dX1_copyFrom_27 : decode cX1_copyFrom 27 = .ok (.invokestatic 53, 3) := by decide +kernel
theorem dX1_copyFrom_30 : decode cX1_copyFrom 30 = .ok (.aload_n 1, 1) := by decide +kernel
theorem dX1_copyFrom_31 : decode cX1_copyFrom 31 = .ok (.getfield 22, 3) := by decide +kernel
theorem dX1_copyFrom_34 : decode cX1_copyFrom 34 = .ok (.aload_n 0, 1) := by decide +kernel
theorem dX1_copyFrom_35 : decode cX1_copyFrom 35 = .ok (.getfield 22, 3) := by decide +kernel
theorem dX1_copyFrom_38 : decode cX1_copyFrom 38 = .ok (.invokestatic 53, 3) := by decide +kernel
theorem dX1_copyFrom_41 : decode cX1_copyFrom 41 = .ok (.aload_n 1, 1) := by decide +kernel
theorem dX1_copyFrom_42 : decode cX1_copyFrom 42 = .ok (.getfield 25, 3) := by decide +kernel
theorem dX1_copyFrom_45 : decode cX1_copyFrom 45 = .ok (.aload_n 0, 1) := by decide +kernel
theorem dX1_copyFrom_46 : decode cX1_copyFrom 46 = .ok (.getfield 25, 3) := by decide +kernel
theorem dX1_copyFrom_49 : decode cX1_copyFrom 49 = .ok (.invokestatic 53, 3) := by decide +kernel
theorem dX1_copyFrom_52 : decode cX1_copyFrom 52 = .ok (.aload_n 1, 1) := by decide +kernel
theorem dX1_copyFrom_53 : decode cX1_copyFrom 53 = .ok (.getfield 28, 3) := by decide +kernel
theorem dX1_copyFrom_56 : decode cX1_copyFrom 56 = .ok (.aload_n 0, 1) := by decide +kernel
theorem dX1_copyFrom_57 : decode cX1_copyFrom 57 = .ok (.getfield 28, 3) := by decide +kernel
theorem dX1_copyFrom_60 : decode cX1_copyFrom 60 = .ok (.invokestatic 53, 3) := by decide +kernel
theorem dX1_copyFrom_63 : decode cX1_copyFrom 63 = .ok (.aload_n 1, 1) := by decide +kernel
theorem dX1_copyFrom_64 : decode cX1_copyFrom 64 = .ok (.getfield 31, 3) := by decide +kernel
theorem dX1_copyFrom_67 : decode cX1_copyFrom 67 = .ok (.aload_n 0, 1) := by decide +kernel
theorem dX1_copyFrom_68 : decode cX1_copyFrom 68 = .ok (.getfield 31, 3) := by decide +kernel
theorem dX1_copyFrom_71 : decode cX1_copyFrom 71 = .ok (.invokestatic 53, 3) := by decide +kernel
theorem dX1_copyFrom_74 : decode cX1_copyFrom 74 = .ok (.aload_n 1, 1) := by decide +kernel
theorem dX1_copyFrom_75 : decode cX1_copyFrom 75 = .ok (.getfield 34, 3) := by decide +kernel
theorem dX1_copyFrom_78 : decode cX1_copyFrom 78 = .ok (.aload_n 0, 1) := by decide +kernel
theorem dX1_copyFrom_79 : decode cX1_copyFrom 79 = .ok (.getfield 34, 3) := by decide +kernel
theorem dX1_copyFrom_82 : decode cX1_copyFrom 82 = .ok (.invokestatic 53, 3) := by decide +kernel
theorem dX1_copyFrom_85 : decode cX1_copyFrom 85 = .ok (.aload_n 1, 1) := by decide +kernel
theorem dX1_copyFrom_86 : decode cX1_copyFrom 86 = .ok (.getfield 37, 3) := by decide +kernel
theorem dX1_copyFrom_89 : decode cX1_copyFrom 89 = .ok (.aload_n 0, 1) := by decide +kernel
theorem dX1_copyFrom_90 : decode cX1_copyFrom 90 = .ok (.getfield 37, 3) := by decide +kernel
theorem dX1_copyFrom_93 : decode cX1_copyFrom 93 = .ok (.invokestatic 53, 3) := by decide +kernel
theorem dX1_copyFrom_96 : decode cX1_copyFrom 96 = .ok (.return_, 1) := by decide +kernel
set_option maxRecDepth 20000 in
theorem ggX2_init_X0_init : GoodIn wsX2_init wsX0_init := goodIn_r _ [19, 20, 2, 3, 21, 6, 22, 23, 24, 25, 45, 46, 47, 48, 49] (by decide +kernel) (by decide +kernel)
set_option maxRecDepth 20000 in
theorem gX2_init_X0_init_n30 : GoodIn wsX2_init (wsX0_init) := ggX2_init_X0_init
set_option maxRecDepth 20000 in
theorem ggX2_init_X1_init : GoodIn wsX2_init wsX1_init := goodIn_r _ [27, 28, 2, 3, 29, 6, 30, 31, 32, 33, 34, 35, 36, 37, 50, 51, 52, 53, 54, 55, 56, 57, 58] (by decide +kernel) (by decide +kernel)
set_option maxRecDepth 20000 in
theorem gX2_init_X1_init_n37 : GoodIn wsX2_init (wsX1_init) := ggX2_init_X1_init
theorem dX2_init_0 : decode cX2_init 0 = .ok (.aload_n 0, 1) := by decide +kernel
theorem dX2_init_1 : decode cX2_init 1 = .ok (.invokespecial 3, 3) := by decide +kernel
theorem dX2_init_4 : decode cX2_init 4 = .ok (.aload_n 0, 1) := by decide +kernel
theorem dX2_init_5 : decode cX2_init 5 = .ok (.iconst 0, 1) := by decide +kernel
theorem dX2_init_6 : decode cX2_init 6 = .ok (.putfield 9, 3) := by decide +kernel
theorem dX2_init_9 : decode cX2_init 9 = .ok (.aload_n 0, 1) := by decide +kernel
theorem dX2_init_10 : decode cX2_init 10 = .ok (.iconst 0, 1) := by decide +kernel
theorem dX2_init_11 : decode cX2_init 11 = .ok (.putfield 15, 3) := by decide +kernel
theorem dX2_init_14 : decode cX2_init 14 = .ok (.aload_n 0, 1) := by decide +kernel
theorem dX2_init_15 : decode cX2_init 15 = .ok (.bipush 6, 2) := by decide +kernel
theorem dX2_init_17 : decode cX2_init 17 = .ok (.newarray .int, 2) := by decide +kernel
theorem dX2_init_19 : decode cX2_init 19 = .ok (.putfield 18, 3) := by decide +kernel
theorem dX2_init_22 : decode cX2_init 22 = .ok (.aload_n 0, 1) := by decide +kernel
theorem dX2_init_23 : decode cX2_init 23 = .ok (.iconst 3, 1) := by decide +kernel
theorem dX2_init_24 : decode cX2_init 24 = .ok (.newarray .int, 2) := by decide +kernel
theorem dX2_init_26 : decode cX2_init 26 = .ok (.putfield 22, 3) := by decide +kernel
theorem dX2_init_29 : decode cX2_init 29 = .ok (.aload_n 0, 1) := by decide +kernel
theorem dX2_init_30 : decode cX2_init 30 = .ok (.iconst 3, 1) := by decide +kernel
theorem dX2_init_31 : decode cX2_init 31 = .ok (.newarray .int, 2) := by decide +kernel
theorem dX2_init_33 : decode cX2_init 33 = .ok (.putfield 25, 3) := by decide +kernel
theorem dX2_init_36 : decode cX2_init 36 = .ok (.aload_n 0, 1) := by decide +kernel
theorem dX2_init_37 : decode cX2_init 37 = .ok (.new 28, 3) := by decide +kernel
theorem dX2_init_40 : decode cX2_init 40 = .ok (.dup, 1) := by decide +kernel
theorem dX2_init_41 : decode cX2_init 41 = .ok (.invokespecial 30, 3) := by decide +kernel
theorem dX2_init_44 : decode cX2_init 44 = .ok (.putfield 31, 3) := by decide +kernel
theorem dX2_init_47 : decode cX2_init 47 = .ok (.aload_n 0, 1) := by decide +kernel
theorem dX2_init_48 : decode cX2_init 48 = .ok (.new 35, 3) := by decide +kernel
theorem dX2_init_51 : decode cX2_init 51 = .ok (.dup, 1) := by decide +kernel
theorem dX2_init_52 : decode cX2_init 52 = .ok (.invokespecial 37, 3) := by decide +kernel
theorem dX2_init_55 : decode cX2_init 55 = .ok (.putfield 38, 3) := by decide +kernel
theorem dX2_init_58 : decode cX2_init 58 = .ok (.iconst 0, 1) := by decide +kernel
theorem dX2_init_59 : decode cX2_init 59 = .ok (.istore_n 1, 1) := by decide +kernel
theorem dX2_init_60 : decode cX2_init 60 = .ok (.iload_n 1, 1) := by decide +kernel
theorem dX2_init_61 : decode cX2_init 61 = .ok (.bipush 6, 2) := by decide +kernel
theorem dX2_init_63 : decode cX2_init 63 = .ok (.if_icmp .ge 16, 3) := by decide +kernel
theorem dX2_init_66 : decode cX2_init 66 = .ok (.aload_n 0, 1) := by decide +kernel
theorem dX2_init_67 : decode cX2_init 67 = .ok (.getfield 18, 3) := by decide +kernel
theorem dX2_init_70 : decode cX2_init 70 = .ok (.iload_n 1, 1) := by decide +kernel
theorem dX2_init_71 : decode cX2_init 71 = .ok (.iconst 1, 1) := by decide +kernel
theorem dX2_init_72 : decode cX2_init 72 = .ok (.iastore, 1) := by decide +kernel
theorem dX2_init_73 : decode cX2_init 73 = .ok (.iinc 1 1, 3) := by decide +kernel
theorem dX2_init_76 : decode cX2_init 76 = .ok (.goto (-16), 3) := by decide +kernel
theorem dX2_init_79 : decode cX2_init 79 = .ok (.iconst 0, 1) := by decide +kernel
theorem dX2_init_80 : decode cX2_init 80 = .ok (.istore_n 1, 1) := by decide +kernel
theorem dX2_init_81 : decode cX2_init 81 = .ok (.iload_n 1, 1) := by decide +kernel
theorem dX2_init_82 : decode cX2_init 82 = .ok (.iconst 3, 1) := by decide +kernel
theorem dX2_init_83 : decode cX2_init 83 = .ok (.if_icmp .ge 16, 3) := by decide +kernel
theorem dX2_init_86 : decode cX2_init 86 = .ok (.aload_n 0, 1) := by decide +kernel
theorem dX2_init_87 : decode cX2_init 87 = .ok (.getfield 22, 3) := by decide +kernel
theorem dX2_init_90 : decode cX2_init 90 = .ok (.iload_n 1, 1) := by decide +kernel
theorem dX2_init_91 : decode cX2_init 91 = .ok (.iconst 2, 1) := by decide +kernel
theorem dX2_init_92 : decode cX2_init 92 = .ok (.iastore, 1) := by decide +kernel
theorem dX2_init_93 : decode cX2_init 93 = .ok (.iinc 1 1, 3) := by decide +kernel
theorem dX2_init_96 : decode cX2_init 96 = .ok (.goto (-15), 3) := by decide +kernel
theorem dX2_init_99 : decode cX2_init 99 = .ok (.return_, 1) := by decide +kernel
set_option maxRecDepth 20000 in
theorem ggX2_copyFrom_X3_copyRow : GoodIn wsX2_copyFrom wsX3_copyRow := goodIn_r _ [10, 11, 12, 13, 14, 15, 16, 17, 18] (by decide +kernel) (by decide +kernel)
set_option maxRecDepth 20000 in
theorem gX2_copyFrom_X3_copyRow_n42 : GoodIn wsX2_copyFrom (wsX3_copyRow) := ggX2_copyFrom_X3_copyRow
set_option maxRecDepth 20000 in
theorem ggX2_copyFrom_X0_copyFrom : GoodIn wsX2_copyFrom wsX0_copyFrom := goodIn_r _ [23, 24, 25, 26, 27, 28, 8, 9, 10, 11, 12, 13, 14, 15, 16, 17, 18, 50, 51, 52, 53, 54] (by decide +kernel) (by decide +kernel)
set_option maxRecDepth 20000 in
theorem gX2_copyFrom_X0_copyFrom : GoodIn wsX2_copyFrom (wsV RX2 46 RX0 yX0_copyFrom wsX0_copyFrom) := goodIn_app (goodIn_of _ (by decide +kernel)) ggX2_copyFrom_X0_copyFrom
set_option maxRecDepth 20000 in
theorem ggX2_copyFrom_X1_copyFrom : GoodIn wsX2_copyFrom wsX1_copyFrom := goodIn_r _ [33, 34, 35, 36, 37, 38, 39, 40, 41, 42, 8, 9, 10, 11, 12, 13, 14, 15, 16, 17, 18, 55, 56, 57, 58, 59, 60, 61, 62, 63] (by decide +kernel) (by decide +kernel)
set_option maxRecDepth 20000 in
theorem gX2_copyFrom_X1_copyFrom : GoodIn wsX2_copyFrom (wsV RX2 50 RX1 yX1_copyFrom wsX1_copyFrom) := goodIn_app (goodIn_of _ (by decide +kernel)) ggX2_copyFrom_X1_copyFrom
theorem dX2_copyFrom_0 : decode cX2_copyFrom 0 = .ok (.aload_n 0, 1) := by decide +kernel
theorem dX2_copyFrom_1 : decode cX2_copyFrom 1 = .ok (.aload_n 1, 1) := by decide +kernel
theorem dX2_copyFrom_2 : decode cX2_copyFrom 2 = .ok (.getfield 9, 3) := by decide +kernel
theorem dX2_copyFrom_5 : decode cX2_copyFrom 5 = .ok (.putfield 9, 3) := by decide +kernel
theorem dX2_copyFrom_8 : decode cX2_copyFrom 8 = .ok (.aload_n 0, 1) := by decide +kernel
theorem dX2_copyFrom_9 : decode cX2_copyFrom 9 = .ok (.aload_n 1, 1) := by decide +kernel
theorem dX2_copyFrom_10 : decode cX2_copyFrom 10 = .ok (.getfield 15, 3) := by decide +kernel
theorem dX2_copyFrom_13 : decode cX2_copyFrom 13 = .ok (.putfield 15, 3) := by decide +kernel
theorem dX2_copyFrom_16 : decode cX2_copyFrom 16 = .ok (.aload_n 1, 1) := by decide +kernel
theorem dX2_copyFrom_17 : decode cX2_copyFrom 17 = .ok (.getfield 18, 3) := by decide +kernel
theorem dX2_copyFrom_20 : decode cX2_copyFrom 20 = .ok (.aload_n 0, 1) := by decide +kernel
theorem dX2_copyFrom_21 : decode cX2_copyFrom 21 = .ok (.getfield 18, 3) := by decide +kernel
theorem dX2_copyFrom_24 : decode cX2_copyFrom 24 = .ok (.invokestatic 42, 3) := by decide +kernel
theorem dX2_copyFrom_27 : decode cX2_copyFrom 27 = .ok (.aload_n 1, 1) := by decide +kernel
theorem dX2_copyFrom_28 : decode cX2_copyFrom 28 = .ok (.getfield 22, 3) := by decide +kernel
theorem dX2_copyFrom_31 : decode cX2_copyFrom 31 = .ok (.aload_n 0, 1) := by decide +kernel
theorem dX2_copyFrom_32 : decode cX2_copyFrom 32 = .ok (.getfield 22, 3) := by decide +kernel
theorem dX2_copyFrom_35 : decode cX2_copyFrom 35 = .ok (.invokestatic 42, 3) := by decide +kernel
theorem dX2_copyFrom_38 : decode cX2_copyFrom 38 = .ok (.aload_n 1, 1) := by decide +kernel
theorem dX2_copyFrom_39 : decode cX2_copyFrom 39 = .ok (.getfield 25, 3) := by decide +kernel
theorem dX2_copyFrom_42 : decode cX2_copyFrom 42 = .ok (.aload_n 0, 1) := by decide +kernel
theorem dX2_copyFrom_43 : decode cX2_copyFrom 43 = .ok (.getfield 25, 3) := by decide +kernel
theorem dX2_copyFrom_46 : decode cX2_copyFrom 46 = .ok (.invokestatic 42, 3) := by decide +kernel
theorem dX2_copyFrom_49 : decode cX2_copyFrom 49 = .ok (.aload_n 0, 1) := by decide +kernel
theorem dX2_copyFrom_50 : decode cX2_copyFrom 50 = .ok (.getfield 31, 3) := by decide +kernel
theorem dX2_copyFrom_53 : decode cX2_copyFrom 53 = .ok (.aload_n 1, 1) := by decide +kernel
theorem dX2_copyFrom_54 : decode cX2_copyFrom 54 = .ok (.getfield 31, 3) := by decide +kernel
theorem dX2_copyFrom_57 : decode cX2_copyFrom 57 = .ok (.invokevirtual 46, 3) := by decide +kernel
theorem dX2_copyFrom_60 : decode cX2_copyFrom 60 = .ok (.aload_n 0, 1) := by decide +kernel
theorem dX2_copyFrom_61 : decode cX2_copyFrom 61 = .ok (.getfield 38, 3) := by decide +kernel
theorem dX2_copyFrom_64 : decode cX2_copyFrom 64 = .ok (.aload_n 1, 1) := by decide +kernel
theorem dX2_copyFrom_65 : decode cX2_copyFrom 65 = .ok (.getfield 38, 3) := by decide +kernel
theorem dX2_copyFrom_68 : decode cX2_copyFrom 68 = .ok (.invokevirtual 50, 3) := by decide +kernel
theorem dX2_copyFrom_71 : decode cX2_copyFrom 71 = .ok (.return_, 1) := by decide +kernel
set_option maxRecDepth 20000 in
theorem ggX2_flakeOfHour_J9_floorMod_7cf53 : GoodIn wsX2_flakeOfHour wsJ9_floorMod_7cf53 := goodIn_r _ [6] (by decide +kernel) (by decide +kernel)
set_option maxRecDepth 20000 in
theorem gX2_flakeOfHour_J9_floorMod_7cf53 : GoodIn wsX2_flakeOfHour (va_wsS RX2 53 yJ9_floorMod_7cf53 wsJ9_floorMod_7cf53) := goodIn_app (goodIn_of _ (by decide +kernel)) ggX2_flakeOfHour_J9_floorMod_7cf53
theorem dX2_flakeOfHour_0 : decode cX2_flakeOfHour 0 = .ok (.aload_n 0, 1) := by decide +kernel
theorem dX2_flakeOfHour_1 : decode cX2_flakeOfHour 1 = .ok (.getfield 18, 3) := by decide +kernel
theorem dX2_flakeOfHour_4 : decode cX2_flakeOfHour 4 = .ok (.aload_n 0, 1) := by decide +kernel
theorem dX2_flakeOfHour_5 : decode cX2_flakeOfHour 5 = .ok (.getfield 9, 3) := by decide +kernel
theorem dX2_flakeOfHour_8 : decode cX2_flakeOfHour 8 = .ok (.bipush 6, 2) := by decide +kernel
theorem dX2_flakeOfHour_10 : decode cX2_flakeOfHour 10 = .ok (.invokestatic 53, 3) := by decide +kernel
theorem dX2_flakeOfHour_13 : decode cX2_flakeOfHour 13 = .ok (.iaload, 1) := by decide +kernel
theorem dX2_flakeOfHour_14 : decode cX2_flakeOfHour 14 = .ok (.ireturn, 1) := by decide +kernel
set_option maxRecDepth 20000 in
theorem ggX2_chosenRun_X0_steepestOpen : GoodIn wsX2_chosenRun wsX0_steepestOpen := goodIn_r _ [8, 9, 10, 11, 12, 13, 14, 7, 15, 16, 33, 34, 35, 36, 37] (by decide +kernel) (by decide +kernel)
set_option maxRecDepth 20000 in
theorem gX2_chosenRun_X0_steepestOpen : GoodIn wsX2_chosenRun (wsV RX2 62 RX0 yX0_steepestOpen wsX0_steepestOpen) := goodIn_app (goodIn_of _ (by decide +kernel)) ggX2_chosenRun_X0_steepestOpen
theorem dX2_chosenRun_0 : decode cX2_chosenRun 0 = .ok (.aload_n 0, 1) := by decide +kernel
theorem dX2_chosenRun_1 : decode cX2_chosenRun 1 = .ok (.getfield 31, 3) := by decide +kernel
theorem dX2_chosenRun_4 : decode cX2_chosenRun 4 = .ok (.iload_n 2, 1) := by decide +kernel
theorem dX2_chosenRun_5 : decode cX2_chosenRun 5 = .ok (.aload_n 0, 1) := by decide +kernel
theorem dX2_chosenRun_6 : decode cX2_chosenRun 6 = .ok (.getfield 38, 3) := by decide +kernel
theorem dX2_chosenRun_9 : decode cX2_chosenRun 9 = .ok (.getfield 59, 3) := by decide +kernel
theorem dX2_chosenRun_12 : decode cX2_chosenRun 12 = .ok (.iload_n 1, 1) := by decide +kernel
theorem dX2_chosenRun_13 : decode cX2_chosenRun 13 = .ok (.iaload, 1) := by decide +kernel
theorem dX2_chosenRun_14 : decode cX2_chosenRun 14 = .ok (.iconst 1, 1) := by decide +kernel
theorem dX2_chosenRun_15 : decode cX2_chosenRun 15 = .ok (.iadd, 1) := by decide +kernel
theorem dX2_chosenRun_16 : decode cX2_chosenRun 16 = .ok (.invokevirtual 62, 3) := by decide +kernel
theorem dX2_chosenRun_19 : decode cX2_chosenRun 19 = .ok (.ireturn, 1) := by decide +kernel
set_option maxRecDepth 20000 in
theorem ggX2_letHoursGo_X2_flakeOfHour : GoodIn wsX2_letHoursGo wsX2_flakeOfHour := goodIn_r _ [7, 8, 2, 9, 10, 11, 12, 111, 112, 113, 114, 115, 116, 117] (by decide +kernel) (by decide +kernel)
set_option maxRecDepth 20000 in
theorem gX2_letHoursGo_X2_flakeOfHour : GoodIn wsX2_letHoursGo (wsV RX2 65 RX2 yX2_flakeOfHour wsX2_flakeOfHour) := goodIn_app (goodIn_of _ (by decide +kernel)) ggX2_letHoursGo_X2_flakeOfHour
set_option maxRecDepth 20000 in
theorem ggX2_letHoursGo_X3_snowOf : GoodIn wsX2_letHoursGo wsX3_snowOf := goodIn_r _ [15] (by decide +kernel) (by decide +kernel)
set_option maxRecDepth 20000 in
theorem gX2_letHoursGo_X3_snowOf_n69 : GoodIn wsX2_letHoursGo (wsX3_snowOf) := ggX2_letHoursGo_X3_snowOf
set_option maxRecDepth 20000 in
theorem ggX2_letHoursGo_X0_deepenAll : GoodIn wsX2_letHoursGo wsX0_deepenAll := goodIn_r _ [20, 21, 22, 23, 24, 19, 25, 26, 27, 14, 28, 29, 30, 31, 32, 33, 34, 35, 118, 119, 120, 121, 122] (by decide +kernel) (by decide +kernel)
set_option maxRecDepth 20000 in
theorem gX2_letHoursGo_X0_deepenAll : GoodIn wsX2_letHoursGo (wsV RX2 73 RX0 yX0_deepenAll wsX0_deepenAll) := goodIn_app (goodIn_of _ (by decide +kernel)) ggX2_letHoursGo_X0_deepenAll
set_option maxRecDepth 20000 in
theorem ggX2_letHoursGo_X2_pullAt : GoodIn wsX2_letHoursGo wsX2_pullAt := goodIn_r _ [39, 40, 41, 42, 43, 44, 45, 46, 47, 48, 49, 50, 51, 52, 53, 54, 55, 56, 57, 58, 59, 60, 61, 62, 63, 64, 65, 66, 67, 68, 6, 69, 1, 70, 71, 72, 73, 74, 75, 76, 77, 78, 79, 19, 80, 21, 81, 82, 83, 84, 85, 86, 26, 87, 88, 89, 90, 3, 4, 5, 7, 8, 2, 9, 10, 11, 12, 91, 92, 93, 94, 95, 96, 97, 98, 31, 99, 100, 101, 102, 103, 104, 27, 14, 28, 29, 30, 32, 33, 34, 35, 105, 23, 24, 25, 106, 107, 108, 109, 110, 111, 112, 113, 114, 115, 116, 117, 123, 124, 125, 126, 127, 128, 129, 130, 131, 118, 119, 120, 121, 122] (by decide +kernel) (by decide +kernel)
set_option maxRecDepth 20000 in
theorem gX2_letHoursGo_X2_pullAt : GoodIn wsX2_letHoursGo (wsV RX2 77 RX2 yX2_pullAt wsX2_pullAt) := goodIn_app (goodIn_of _ (by decide +kernel)) ggX2_letHoursGo_X2_pullAt
theorem dX2_letHoursGo_0 : decode cX2_letHoursGo 0 = .ok (.iconst 0, 1) := by decide +kernel
theorem dX2_letHoursGo_1 : decode cX2_letHoursGo 1 = .ok (.istore_n 2, 1) := by decide +kernel
theorem dX2_letHoursGo_2 : decode cX2_letHoursGo 2 = .ok (.iconst 0, 1) := by decide +kernel
theorem dX2_letHoursGo_3 : decode cX2_letHoursGo 3 = .ok (.istore_n 3, 1) := by decide +kernel
theorem dX2_letHoursGo_4 : decode cX2_letHoursGo 4 = .ok (.iload_n 3, 1) := by decide +kernel
theorem dX2_letHoursGo_5 : decode cX2_letHoursGo 5 = .ok (.iload_n 1, 1) := by decide +kernel
theorem dX2_letHoursGo_6 : decode cX2_letHoursGo 6 = .ok (.if_icmp .ge 57, 3) := by decide +kernel
theorem dX2_letHoursGo_9 : decode cX2_letHoursGo 9 = .ok (.aload_n 0, 1) := by decide +kernel
theorem dX2_letHoursGo_10 : decode cX2_letHoursGo 10 = .ok (.getfield 31, 3) := by decide +kernel
theorem dX2_letHoursGo_13 : decode cX2_letHoursGo 13 = .ok (.aload_n 0, 1) := by decide +kernel
theorem dX2_letHoursGo_14 : decode cX2_letHoursGo 14 = .ok (.invokevirtual 65, 3) := by decide +kernel
theorem dX2_letHoursGo_17 : decode cX2_letHoursGo 17 = .ok (.invokestatic 69, 3) := by decide +kernel
theorem dX2_letHoursGo_20 : decode cX2_letHoursGo 20 = .ok (.invokevirtual 73, 3) := by decide +kernel
theorem dX2_letHoursGo_23 : decode cX2_letHoursGo 23 = .ok (.iconst 0, 1) := by decide +kernel
theorem dX2_letHoursGo_24 : decode cX2_letHoursGo 24 = .ok (.istore 4, 2) := by decide +kernel
theorem dX2_letHoursGo_26 : decode cX2_letHoursGo 26 = .ok (.iload 4, 2) := by decide +kernel
theorem dX2_letHoursGo_28 : decode cX2_letHoursGo 28 = .ok (.iconst 3, 1) := by decide +kernel
theorem dX2_letHoursGo_29 : decode cX2_letHoursGo 29 = .ok (.if_icmp .ge 18, 3) := by decide +kernel
theorem dX2_letHoursGo_32 : decode cX2_letHoursGo 32 = .ok (.iload_n 2, 1) := by decide +kernel
theorem dX2_letHoursGo_33 : decode cX2_letHoursGo 33 = .ok (.aload_n 0, 1) := by decide +kernel
theorem dX2_letHoursGo_34 : decode cX2_letHoursGo 34 = .ok (.iload 4, 2) := by decide +kernel
theorem dX2_letHoursGo_36 : decode cX2_letHoursGo 36 = .ok (.invokevirtual 77, 3) := by decide +kernel
theorem dX2_letHoursGo_39 : decode cX2_letHoursGo 39 = .ok (.iadd, 1) := by decide +kernel
theorem dX2_letHoursGo_40 : decode cX2_letHoursGo 40 = .ok (.istore_n 2, 1) := by decide +kernel
theorem dX2_letHoursGo_41 : decode cX2_letHoursGo 41 = .ok (.iinc 4 1, 3) := by decide +kernel
theorem dX2_letHoursGo_44 : decode cX2_letHoursGo 44 = .ok (.goto (-18), 3) := by decide +kernel
theorem dX2_letHoursGo_47 : decode cX2_letHoursGo 47 = .ok (.aload_n 0, 1) := by decide +kernel
theorem dX2_letHoursGo_48 : decode cX2_letHoursGo 48 = .ok (.dup, 1) := by decide +kernel
theorem dX2_letHoursGo_49 : decode cX2_letHoursGo 49 = .ok (.getfield 9, 3) := by decide +kernel
theorem dX2_letHoursGo_52 : decode cX2_letHoursGo 52 = .ok (.iconst 1, 1) := by decide +kernel
theorem dX2_letHoursGo_53 : decode cX2_letHoursGo 53 = .ok (.iadd, 1) := by decide +kernel
theorem dX2_letHoursGo_54 : decode cX2_letHoursGo 54 = .ok (.putfield 9, 3) := by decide +kernel
theorem dX2_letHoursGo_57 : decode cX2_letHoursGo 57 = .ok (.iinc 3 1, 3) := by decide +kernel
theorem dX2_letHoursGo_60 : decode cX2_letHoursGo 60 = .ok (.goto (-56), 3) := by decide +kernel
theorem dX2_letHoursGo_63 : decode cX2_letHoursGo 63 = .ok (.iload_n 2, 1) := by decide +kernel
theorem dX2_letHoursGo_64 : decode cX2_letHoursGo 64 = .ok (.ireturn, 1) := by decide +kernel
set_option maxRecDepth 20000 in
theorem ggX2_pullAt_X1_waitingAt : GoodIn wsX2_pullAt wsX1_waitingAt := goodIn_r _ [11, 12, 13, 107, 108, 109, 110, 111, 112, 113, 114, 115] (by decide +kernel) (by decide +kernel)
set_option maxRecDepth 20000 in
theorem gX2_pullAt_X1_waitingAt : GoodIn wsX2_pullAt (wsV RX2 80 RX1 yX1_waitingAt wsX1_waitingAt) := goodIn_app (goodIn_of _ (by decide +kernel)) ggX2_pullAt_X1_waitingAt
set_option maxRecDepth 20000 in
theorem ggX2_pullAt_X1_at : GoodIn wsX2_pullAt wsX1_at := goodIn_r _ [17, 12, 13, 18, 107, 108, 109, 110, 111, 112, 113, 114, 115] (by decide +kernel) (by decide +kernel)
set_option maxRecDepth 20000 in
theorem gX2_pullAt_X1_at : GoodIn wsX2_pullAt (wsV RX2 83 RX1 yX1_at wsX1_at) := goodIn_app (goodIn_of _ (by decide +kernel)) ggX2_pullAt_X1_at
set_option maxRecDepth 20000 in
theorem ggX2_pullAt_X1_has : GoodIn wsX2_pullAt wsX1_has := goodIn_r _ [22, 12, 107, 108, 109, 110, 111, 112, 113, 114, 115] (by decide +kernel) (by decide +kernel)
set_option maxRecDepth 20000 in
theorem gX2_pullAt_X1_has : GoodIn wsX2_pullAt (wsV RX2 86 RX1 yX1_has wsX1_has) := goodIn_app (goodIn_of _ (by decide +kernel)) ggX2_pullAt_X1_has
set_option maxRecDepth 20000 in
theorem ggX2_pullAt_X1_takeOutOfQueue : GoodIn wsX2_pullAt wsX1_takeOutOfQueue := goodIn_r _ [26, 13, 18, 12, 107, 108, 109, 110, 111, 112, 113, 114, 115] (by decide +kernel) (by decide +kernel)
set_option maxRecDepth 20000 in
theorem gX2_pullAt_X1_takeOutOfQueue : GoodIn wsX2_pullAt (wsV RX2 90 RX1 yX1_takeOutOfQueue wsX1_takeOutOfQueue) := goodIn_app (goodIn_of _ (by decide +kernel)) ggX2_pullAt_X1_takeOutOfQueue
set_option maxRecDepth 20000 in
theorem ggX2_pullAt_X2_skiDown : GoodIn wsX2_pullAt wsX2_skiDown := goodIn_r _ [31, 32, 1, 33, 34, 35, 36, 37, 38, 30, 39, 40, 41, 42, 43, 44, 45, 46, 47, 48, 49, 50, 51, 52, 53, 54, 55, 56, 57, 58, 59, 60, 61, 62, 63, 64, 65, 66, 67, 68, 69, 10, 70, 71, 72, 73, 74, 75, 76, 77, 78, 79, 80, 81, 82, 83, 84, 85, 86, 87, 88, 89, 90, 91, 92, 93, 94, 100, 101, 102, 103, 104, 105, 106, 116, 117, 118, 119, 120, 107, 108, 109, 110, 111, 112, 113, 114, 115] (by decide +kernel) (by decide +kernel)
set_option maxRecDepth 20000 in
theorem gX2_pullAt_X2_skiDown : GoodIn wsX2_pullAt (wsV RX2 98 RX2 yX2_skiDown wsX2_skiDown) := goodIn_app (goodIn_of _ (by decide +kernel)) ggX2_pullAt_X2_skiDown
set_option maxRecDepth 20000 in
theorem ggX2_pullAt_X1_putAtEnd : GoodIn wsX2_pullAt wsX1_putAtEnd := goodIn_r _ [98, 13, 18, 99, 8, 9, 10, 11, 12, 107, 108, 109, 110, 111, 112, 113, 114, 115] (by decide +kernel) (by decide +kernel)
set_option maxRecDepth 20000 in
theorem gX2_pullAt_X1_putAtEnd : GoodIn wsX2_pullAt (wsV RX2 102 RX1 yX1_putAtEnd wsX1_putAtEnd) := goodIn_app (goodIn_of _ (by decide +kernel)) ggX2_pullAt_X1_putAtEnd
theorem dX2_pullAt_0 : decode cX2_pullAt 0 = .ok (.iconst 0, 1) := by decide +kernel
theorem dX2_pullAt_1 : decode cX2_pullAt 1 = .ok (.istore_n 2, 1) := by decide +kernel
theorem dX2_pullAt_2 : decode cX2_pullAt 2 = .ok (.aload_n 0, 1) := by decide +kernel
theorem dX2_pullAt_3 : decode cX2_pullAt 3 = .ok (.getfield 38, 3) := by decide +kernel
theorem dX2_pullAt_6 : decode cX2_pullAt 6 = .ok (.iload_n 1, 1) := by decide +kernel
theorem dX2_pullAt_7 : decode cX2_pullAt 7 = .ok (.invokevirtual 80, 3) := by decide +kernel
theorem dX2_pullAt_10 : decode cX2_pullAt 10 = .ok (.istore_n 3, 1) := by decide +kernel
theorem dX2_pullAt_11 : decode cX2_pullAt 11 = .ok (.iconst 0, 1) := by decide +kernel
theorem dX2_pullAt_12 : decode cX2_pullAt 12 = .ok (.istore 4, 2) := by decide +kernel
theorem dX2_pullAt_14 : decode cX2_pullAt 14 = .ok (.iload 4, 2) := by decide +kernel
theorem dX2_pullAt_16 : decode cX2_pullAt 16 = .ok (.iload_n 3, 1) := by decide +kernel
theorem dX2_pullAt_17 : decode cX2_pullAt 17 = .ok (.if_icmp .ge 126, 3) := by decide +kernel
theorem dX2_pullAt_20 : decode cX2_pullAt 20 = .ok (.iload_n 2, 1) := by decide +kernel
theorem dX2_pullAt_21 : decode cX2_pullAt 21 = .ok (.aload_n 0, 1) := by decide +kernel
theorem dX2_pullAt_22 : decode cX2_pullAt 22 = .ok (.getfield 22, 3) := by decide +kernel
theorem dX2_pullAt_25 : decode cX2_pullAt 25 = .ok (.iload_n 1, 1) := by decide +kernel
theorem dX2_pullAt_26 : decode cX2_pullAt 26 = .ok (.iaload, 1) := by decide +kernel
theorem dX2_pullAt_27 : decode cX2_pullAt 27 = .ok (.if_icmp .ge 116, 3) := by decide +kernel
theorem dX2_pullAt_30 : decode cX2_pullAt 30 = .ok (.aload_n 0, 1) := by decide +kernel
theorem dX2_pullAt_31 : decode cX2_pullAt 31 = .ok (.getfield 38, 3) := by decide +kernel
theorem dX2_pullAt_34 : decode cX2_pullAt 34 = .ok (.iload_n 1, 1) := by decide +kernel
theorem dX2_pullAt_35 : decode cX2_pullAt 35 = .ok (.iconst 0, 1) := by decide +kernel
theorem dX2_pullAt_36 : decode cX2_pullAt 36 = .ok (.invokevirtual 83, 3) := by decide +kernel
theorem dX2_pullAt_39 : decode cX2_pullAt 39 = .ok (.istore 5, 2) := by decide +kernel
theorem dX2_pullAt_41 : decode cX2_pullAt 41 = .ok (.aload_n 0, 1) := by decide +kernel
theorem dX2_pullAt_42 : decode cX2_pullAt 42 = .ok (.getfield 38, 3) := by decide +kernel
theorem dX2_pullAt_45 : decode cX2_pullAt 45 = .ok (.iload 5, 2) := by decide +kernel
theorem dX2_pullAt_47 : decode cX2_pullAt 47 = .ok (.invokevirtual 86, 3) := by decide +kernel
theorem dX2_pullAt_50 : decode cX2_pullAt 50 = .ok (.ifCond .ne 6, 3) := by decide +kernel
theorem dX2_pullAt_53 : decode cX2_pullAt 53 = .ok (.goto 90, 3) := by decide +kernel
theorem dX2_pullAt_56 : decode cX2_pullAt 56 = .ok (.aload_n 0, 1) := by decide +kernel
theorem dX2_pullAt_57 : decode cX2_pullAt 57 = .ok (.getfield 38, 3) := by decide +kernel
theorem dX2_pullAt_60 : decode cX2_pullAt 60 = .ok (.iload 5, 2) := by decide +kernel
theorem dX2_pullAt_62 : decode cX2_pullAt 62 = .ok (.invokevirtual 90, 3) := by decide +kernel
theorem dX2_pullAt_65 : decode cX2_pullAt 65 = .ok (.aload_n 0, 1) := by decide +kernel
theorem dX2_pullAt_66 : decode cX2_pullAt 66 = .ok (.getfield 38, 3) := by decide +kernel
theorem dX2_pullAt_69 : decode cX2_pullAt 69 = .ok (.getfield 93, 3) := by decide +kernel
theorem dX2_pullAt_72 : decode cX2_pullAt 72 = .ok (.iload 5, 2) := by decide +kernel
theorem dX2_pullAt_74 : decode cX2_pullAt 74 = .ok (.iaload, 1) := by decide +kernel
theorem dX2_pullAt_75 : decode cX2_pullAt 75 = .ok (.iconst 1, 1) := by decide +kernel
theorem dX2_pullAt_76 : decode cX2_pullAt 76 = .ok (.if_icmp .lt 61, 3) := by decide +kernel
theorem dX2_pullAt_79 : decode cX2_pullAt 79 = .ok (.aload_n 0, 1) := by decide +kernel
theorem dX2_pullAt_80 : decode cX2_pullAt 80 = .ok (.getfield 38, 3) := by decide +kernel
theorem dX2_pullAt_83 : decode cX2_pullAt 83 = .ok (.getfield 93, 3) := by decide +kernel
theorem dX2_pullAt_86 : decode cX2_pullAt 86 = .ok (.iload 5, 2) := by decide +kernel
theorem dX2_pullAt_88 : decode cX2_pullAt 88 = .ok (.dup2, 1) := by decide +kernel
theorem dX2_pullAt_89 : decode cX2_pullAt 89 = .ok (.iaload, 1) := by decide +kernel
theorem dX2_pullAt_90 : decode cX2_pullAt 90 = .ok (.iconst 1, 1) := by decide +kernel
theorem dX2_pullAt_91 : decode cX2_pullAt 91 = .ok (.isub, 1) := by decide +kernel
theorem dX2_pullAt_92 : decode cX2_pullAt 92 = .ok (.iastore, 1) := by decide +kernel
theorem dX2_pullAt_93 : decode cX2_pullAt 93 = .ok (.aload_n 0, 1) := by decide +kernel
theorem dX2_pullAt_94 : decode cX2_pullAt 94 = .ok (.dup, 1) := by decide +kernel
theorem dX2_pullAt_95 : decode cX2_pullAt 95 = .ok (.getfield 15, 3) := by decide +kernel
theorem dX2_pullAt_98 : decode cX2_pullAt 98 = .ok (.iconst 1, 1) := by decide +kernel
theorem dX2_pullAt_99 : decode cX2_pullAt 99 = .ok (.iadd, 1) := by decide +kernel
theorem dX2_pullAt_100 : decode cX2_pullAt 100 = .ok (.putfield 15, 3) := by decide +kernel
theorem dX2_pullAt_103 : decode cX2_pullAt 103 = .ok (.aload_n 0, 1) := by decide +kernel
theorem dX2_pullAt_104 : decode cX2_pullAt 104 = .ok (.getfield 38, 3) := by decide +kernel
theorem dX2_pullAt_107 : decode cX2_pullAt 107 = .ok (.getfield 95, 3) := by decide +kernel
theorem dX2_pullAt_110 : decode cX2_pullAt 110 = .ok (.iload 5, 2) := by decide +kernel
theorem dX2_pullAt_112 : decode cX2_pullAt 112 = .ok (.dup2, 1) := by decide +kernel
theorem dX2_pullAt_113 : decode cX2_pullAt 113 = .ok (.iaload, 1) := by decide +kernel
theorem dX2_pullAt_114 : decode cX2_pullAt 114 = .ok (.iconst 1, 1) := by decide +kernel
theorem dX2_pullAt_115 : decode cX2_pullAt 115 = .ok (.iadd, 1) := by decide +kernel
theorem dX2_pullAt_116 : decode cX2_pullAt 116 = .ok (.iastore, 1) := by decide +kernel
theorem dX2_pullAt_117 : decode cX2_pullAt 117 = .ok (.iinc 2 1, 3) := by decide +kernel
theorem dX2_pullAt_120 : decode cX2_pullAt 120 = .ok (.aload_n 0, 1) := by decide +kernel
theorem dX2_pullAt_121 : decode cX2_pullAt 121 = .ok (.iload 5, 2) := by decide +kernel
theorem dX2_pullAt_123 : decode cX2_pullAt 123 = .ok (.iload_n 1, 1) := by decide +kernel
theorem dX2_pullAt_124 : decode cX2_pullAt 124 = .ok (.invokevirtual 98, 3) := by decide +kernel
theorem dX2_pullAt_127 : decode cX2_pullAt 127 = .ok (.aload_n 0, 1) := by decide +kernel
theorem dX2_pullAt_128 : decode cX2_pullAt 128 = .ok (.getfield 38, 3) := by decide +kernel
theorem dX2_pullAt_131 : decode cX2_pullAt 131 = .ok (.iload 5, 2) := by decide +kernel
theorem dX2_pullAt_133 : decode cX2_pullAt 133 = .ok (.iload_n 1, 1) := by decide +kernel
theorem dX2_pullAt_134 : decode cX2_pullAt 134 = .ok (.invokevirtual 102, 3) := by decide +kernel
theorem dX2_pullAt_137 : decode cX2_pullAt 137 = .ok (.iinc 4 1, 3) := by decide +kernel
theorem dX2_pullAt_140 : decode cX2_pullAt 140 = .ok (.goto (-126), 3) := by decide +kernel
theorem dX2_pullAt_143 : decode cX2_pullAt 143 = .ok (.aload_n 0, 1) := by decide +kernel
theorem dX2_pullAt_144 : decode cX2_pullAt 144 = .ok (.getfield 25, 3) := by decide +kernel
theorem dX2_pullAt_147 : decode cX2_pullAt 147 = .ok (.iload_n 1, 1) := by decide +kernel
theorem dX2_pullAt_148 : decode cX2_pullAt 148 = .ok (.dup2, 1) := by decide +kernel
theorem dX2_pullAt_149 : decode cX2_pullAt 149 = .ok (.iaload, 1) := by decide +kernel
theorem dX2_pullAt_150 : decode cX2_pullAt 150 = .ok (.iload_n 2, 1) := by decide +kernel
theorem dX2_pullAt_151 : decode cX2_pullAt 151 = .ok (.iadd, 1) := by decide +kernel
theorem dX2_pullAt_152 : decode cX2_pullAt 152 = .ok (.iastore, 1) := by decide +kernel
theorem dX2_pullAt_153 : decode cX2_pullAt 153 = .ok (.iload_n 2, 1) := by decide +kernel
theorem dX2_pullAt_154 : decode cX2_pullAt 154 = .ok (.ireturn, 1) := by decide +kernel
set_option maxRecDepth 20000 in
theorem ggX2_skiDown_X2_chosenRun : GoodIn wsX2_skiDown wsX2_chosenRun := goodIn_r _ [10, 1, 2, 4, 11, 12, 13, 14, 15, 16, 17, 18, 19, 20, 21, 22, 23, 67, 68, 69, 70, 71, 72, 73, 79, 80, 81, 82, 83, 84, 85, 86, 87, 74, 75, 76, 77, 78] (by decide +kernel) (by decide +kernel)
set_option maxRecDepth 20000 in
theorem gX2_skiDown_X2_chosenRun : GoodIn wsX2_skiDown (wsV RX2 105 RX2 yX2_chosenRun wsX2_chosenRun) := goodIn_app (goodIn_of _ (by decide +kernel)) ggX2_skiDown_X2_chosenRun
set_option maxRecDepth 20000 in
theorem ggX2_skiDown_X0_has : GoodIn wsX2_skiDown wsX0_has := goodIn_r _ [27, 16, 74, 75, 76, 77, 78] (by decide +kernel) (by decide +kernel)
set_option maxRecDepth 20000 in
theorem gX2_skiDown_X0_has : GoodIn wsX2_skiDown (wsV RX2 108 RX0 yX0_has wsX0_has) := goodIn_app (goodIn_of _ (by decide +kernel)) ggX2_skiDown_X0_has
set_option maxRecDepth 20000 in
theorem ggX2_skiDown_X2_flakeOfHour : GoodIn wsX2_skiDown wsX2_flakeOfHour := goodIn_r _ [31, 32, 33, 34, 35, 36, 37, 67, 68, 69, 70, 71, 72, 73] (by decide +kernel) (by decide +kernel)
set_option maxRecDepth 20000 in
theorem gX2_skiDown_X2_flakeOfHour : GoodIn wsX2_skiDown (wsV RX2 65 RX2 yX2_flakeOfHour wsX2_flakeOfHour) := goodIn_app (goodIn_of _ (by decide +kernel)) ggX2_skiDown_X2_flakeOfHour
end
section
set_option maxRecDepth 20000 in
theorem ggX2_skiDown_X1_glide : GoodIn wsX2_skiDown wsX1_glide := goodIn_r _ [42, 43, 44, 45, 46, 47, 48, 79, 80, 81, 82, 83, 84, 85, 86, 87] (by decide +kernel) (by decide +kernel)
set_option maxRecDepth 20000 in
theorem gX2_skiDown_X1_glide : GoodIn wsX2_skiDown (wsV RX2 109 RX1 yX1_glide wsX1_glide) := goodIn_app (goodIn_of _ (by decide +kernel)) ggX2_skiDown_X1_glide
set_option maxRecDepth 20000 in
theorem ggX2_skiDown_X1_addPoints : GoodIn wsX2_skiDown wsX1_addPoints := goodIn_r _ [52, 53, 54, 55, 56, 57, 58, 47, 59, 60, 61, 62, 79, 80, 81, 82, 83, 84, 85, 86, 87] (by decide +kernel) (by decide +kernel)
set_option maxRecDepth 20000 in
theorem gX2_skiDown_X1_addPoints : GoodIn wsX2_skiDown (wsV RX2 115 RX1 yX1_addPoints wsX1_addPoints) := goodIn_app (goodIn_of _ (by decide +kernel)) ggX2_skiDown_X1_addPoints
set_option maxRecDepth 20000 in
theorem ggX2_skiDown_X0_deepen : GoodIn wsX2_skiDown wsX0_deepen := goodIn_r _ [66, 23, 54, 55, 56, 57, 58, 47, 59, 60, 61, 62, 74, 75, 76, 77, 78] (by decide +kernel) (by decide +kernel)
set_option maxRecDepth 20000 in
theorem gX2_skiDown_X0_deepen : GoodIn wsX2_skiDown (wsV RX2 118 RX0 yX0_deepen wsX0_deepen) := goodIn_app (goodIn_of _ (by decide +kernel)) ggX2_skiDown_X0_deepen
theorem dX2_skiDown_0 : decode cX2_skiDown 0 = .ok (.aload_n 0, 1) := by decide +kernel
theorem dX2_skiDown_1 : decode cX2_skiDown 1 = .ok (.iload_n 1, 1) := by decide +kernel
theorem dX2_skiDown_2 : decode cX2_skiDown 2 = .ok (.iload_n 2, 1) := by decide +kernel
theorem dX2_skiDown_3 : decode cX2_skiDown 3 = .ok (.invokevirtual 105, 3) := by decide +kernel
theorem dX2_skiDown_6 : decode cX2_skiDown 6 = .ok (.istore_n 3, 1) := by decide +kernel
theorem dX2_skiDown_7 : decode cX2_skiDown 7 = .ok (.aload_n 0, 1) := by decide +kernel
theorem dX2_skiDown_8 : decode cX2_skiDown 8 = .ok (.getfield 31, 3) := by decide +kernel
theorem dX2_skiDown_11 : decode cX2_skiDown 11 = .ok (.iload_n 3, 1) := by decide +kernel
theorem dX2_skiDown_12 : decode cX2_skiDown 12 = .ok (.invokevirtual 108, 3) := by decide +kernel
theorem dX2_skiDown_15 : decode cX2_skiDown 15 = .ok (.ifCond .ne 4, 3) := by decide +kernel
theorem dX2_skiDown_18 : decode cX2_skiDown 18 = .ok (.return_, 1) := by decide +kernel
theorem dX2_skiDown_19 : decode cX2_skiDown 19 = .ok (.aload_n 0, 1) := by decide +kernel
theorem dX2_skiDown_20 : decode cX2_skiDown 20 = .ok (.getfield 38, 3) := by decide +kernel
theorem dX2_skiDown_23 : decode cX2_skiDown 23 = .ok (.iload_n 1, 1) := by decide +kernel
theorem dX2_skiDown_24 : decode cX2_skiDown 24 = .ok (.aload_n 0, 1) := by decide +kernel
theorem dX2_skiDown_25 : decode cX2_skiDown 25 = .ok (.invokevirtual 65, 3) := by decide +kernel
theorem dX2_skiDown_28 : decode cX2_skiDown 28 = .ok (.invokevirtual 109, 3) := by decide +kernel
theorem dX2_skiDown_31 : decode cX2_skiDown 31 = .ok (.istore 4, 2) := by decide +kernel
theorem dX2_skiDown_33 : decode cX2_skiDown 33 = .ok (.aload_n 0, 1) := by decide +kernel
theorem dX2_skiDown_34 : decode cX2_skiDown 34 = .ok (.getfield 38, 3) := by decide +kernel
theorem dX2_skiDown_37 : decode cX2_skiDown 37 = .ok (.iload_n 1, 1) := by decide +kernel
theorem dX2_skiDown_38 : decode cX2_skiDown 38 = .ok (.iconst 3, 1) := by decide +kernel
theorem dX2_skiDown_39 : decode cX2_skiDown 39 = .ok (.aload_n 0, 1) := by decide +kernel
theorem dX2_skiDown_40 : decode cX2_skiDown 40 = .ok (.getfield 31, 3) := by decide +kernel
theorem dX2_skiDown_43 : decode cX2_skiDown 43 = .ok (.getfield 112, 3) := by decide +kernel
theorem dX2_skiDown_46 : decode cX2_skiDown 46 = .ok (.iload_n 3, 1) := by decide +kernel
theorem dX2_skiDown_47 : decode cX2_skiDown 47 = .ok (.iaload, 1) := by decide +kernel
theorem dX2_skiDown_48 : decode cX2_skiDown 48 = .ok (.imul, 1) := by decide +kernel
theorem dX2_skiDown_49 : decode cX2_skiDown 49 = .ok (.aload_n 0, 1) := by decide +kernel
theorem dX2_skiDown_50 : decode cX2_skiDown 50 = .ok (.getfield 38, 3) := by decide +kernel
theorem dX2_skiDown_53 : decode cX2_skiDown 53 = .ok (.getfield 59, 3) := by decide +kernel
theorem dX2_skiDown_56 : decode cX2_skiDown 56 = .ok (.iload_n 1, 1) := by decide +kernel
theorem dX2_skiDown_57 : decode cX2_skiDown 57 = .ok (.iaload, 1) := by decide +kernel
theorem dX2_skiDown_58 : decode cX2_skiDown 58 = .ok (.iadd, 1) := by decide +kernel
theorem dX2_skiDown_59 : decode cX2_skiDown 59 = .ok (.iload 4, 2) := by decide +kernel
theorem dX2_skiDown_61 : decode cX2_skiDown 61 = .ok (.iadd, 1) := by decide +kernel
theorem dX2_skiDown_62 : decode cX2_skiDown 62 = .ok (.invokevirtual 115, 3) := by decide +kernel
theorem dX2_skiDown_65 : decode cX2_skiDown 65 = .ok (.aload_n 0, 1) := by decide +kernel
theorem dX2_skiDown_66 : decode cX2_skiDown 66 = .ok (.getfield 31, 3) := by decide +kernel
theorem dX2_skiDown_69 : decode cX2_skiDown 69 = .ok (.iload_n 3, 1) := by decide +kernel
theorem dX2_skiDown_70 : decode cX2_skiDown 70 = .ok (.iconst (-1), 1) := by decide +kernel
theorem dX2_skiDown_71 : decode cX2_skiDown 71 = .ok (.invokevirtual 118, 3) := by decide +kernel
theorem dX2_skiDown_74 : decode cX2_skiDown 74 = .ok (.aload_n 0, 1) := by decide +kernel
theorem dX2_skiDown_75 : decode cX2_skiDown 75 = .ok (.getfield 31, 3) := by decide +kernel
theorem dX2_skiDown_78 : decode cX2_skiDown 78 = .ok (.getfield 121, 3) := by decide +kernel
theorem dX2_skiDown_81 : decode cX2_skiDown 81 = .ok (.iload_n 3, 1) := by decide +kernel
theorem dX2_skiDown_82 : decode cX2_skiDown 82 = .ok (.dup2, 1) := by decide +kernel
theorem dX2_skiDown_83 : decode cX2_skiDown 83 = .ok (.iaload, 1) := by decide +kernel
theorem dX2_skiDown_84 : decode cX2_skiDown 84 = .ok (.iconst 1, 1) := by decide +kernel
theorem dX2_skiDown_85 : decode cX2_skiDown 85 = .ok (.iadd, 1) := by decide +kernel
theorem dX2_skiDown_86 : decode cX2_skiDown 86 = .ok (.iastore, 1) := by decide +kernel
theorem dX2_skiDown_87 : decode cX2_skiDown 87 = .ok (.return_, 1) := by decide +kernel
theorem dX2_allRides_0 : decode cX2_allRides 0 = .ok (.iconst 0, 1) := by decide +kernel
theorem dX2_allRides_1 : decode cX2_allRides 1 = .ok (.istore_n 1, 1) := by decide +kernel
theorem dX2_allRides_2 : decode cX2_allRides 2 = .ok (.iconst 0, 1) := by decide +kernel
theorem dX2_allRides_3 : decode cX2_allRides 3 = .ok (.istore_n 2, 1) := by decide +kernel
theorem dX2_allRides_4 : decode cX2_allRides 4 = .ok (.iload_n 2, 1) := by decide +kernel
theorem dX2_allRides_5 : decode cX2_allRides 5 = .ok (.iconst 3, 1) := by decide +kernel
theorem dX2_allRides_6 : decode cX2_allRides 6 = .ok (.if_icmp .ge 18, 3) := by decide +kernel
theorem dX2_allRides_9 : decode cX2_allRides 9 = .ok (.iload_n 1, 1) := by decide +kernel
theorem dX2_allRides_10 : decode cX2_allRides 10 = .ok (.aload_n 0, 1) := by decide +kernel
theorem dX2_allRides_11 : decode cX2_allRides 11 = .ok (.getfield 25, 3) := by decide +kernel
theorem dX2_allRides_14 : decode cX2_allRides 14 = .ok (.iload_n 2, 1) := by decide +kernel
theorem dX2_allRides_15 : decode cX2_allRides 15 = .ok (.iaload, 1) := by decide +kernel
theorem dX2_allRides_16 : decode cX2_allRides 16 = .ok (.iadd, 1) := by decide +kernel
theorem dX2_allRides_17 : decode cX2_allRides 17 = .ok (.istore_n 1, 1) := by decide +kernel
theorem dX2_allRides_18 : decode cX2_allRides 18 = .ok (.iinc 2 1, 3) := by decide +kernel
theorem dX2_allRides_21 : decode cX2_allRides 21 = .ok (.goto (-17), 3) := by decide +kernel
theorem dX2_allRides_24 : decode cX2_allRides 24 = .ok (.iload_n 1, 1) := by decide +kernel
theorem dX2_allRides_25 : decode cX2_allRides 25 = .ok (.ireturn, 1) := by decide +kernel
set_option maxRecDepth 20000 in
theorem ggX2_towFigure_X1_waitingAt : GoodIn wsX2_towFigure wsX1_waitingAt := goodIn_r _ [8, 9, 10, 18, 19, 20, 21, 22, 23, 24, 25, 26] (by decide +kernel) (by decide +kernel)
set_option maxRecDepth 20000 in
theorem gX2_towFigure_X1_waitingAt : GoodIn wsX2_towFigure (wsV RX2 80 RX1 yX1_waitingAt wsX1_waitingAt) := goodIn_app (goodIn_of _ (by decide +kernel)) ggX2_towFigure_X1_waitingAt
theorem dX2_towFigure_0 : decode cX2_towFigure 0 = .ok (.iload_n 2, 1) := by decide +kernel
theorem dX2_towFigure_1 : decode cX2_towFigure 1 = .ok (.lookupswitch 43 #[(0, 27), (1, 34)], 27) := by decide +kernel
theorem dX2_towFigure_28 : decode cX2_towFigure 28 = .ok (.aload_n 0, 1) := by decide +kernel
theorem dX2_towFigure_29 : decode cX2_towFigure 29 = .ok (.getfield 22, 3) := by decide +kernel
theorem dX2_towFigure_32 : decode cX2_towFigure 32 = .ok (.iload_n 1, 1) := by decide +kernel
theorem dX2_towFigure_33 : decode cX2_towFigure 33 = .ok (.iaload, 1) := by decide +kernel
theorem dX2_towFigure_34 : decode cX2_towFigure 34 = .ok (.ireturn, 1) := by decide +kernel
theorem dX2_towFigure_35 : decode cX2_towFigure 35 = .ok (.aload_n 0, 1) := by decide +kernel
theorem dX2_towFigure_36 : decode cX2_towFigure 36 = .ok (.getfield 38, 3) := by decide +kernel
theorem dX2_towFigure_39 : decode cX2_towFigure 39 = .ok (.iload_n 1, 1) := by decide +kernel
theorem dX2_towFigure_40 : decode cX2_towFigure 40 = .ok (.invokevirtual 80, 3) := by decide +kernel
theorem dX2_towFigure_43 : decode cX2_towFigure 43 = .ok (.ireturn, 1) := by decide +kernel
theorem dX2_towFigure_44 : decode cX2_towFigure 44 = .ok (.aload_n 0, 1) := by decide +kernel
theorem dX2_towFigure_45 : decode cX2_towFigure 45 = .ok (.getfield 25, 3) := by decide +kernel
theorem dX2_towFigure_48 : decode cX2_towFigure 48 = .ok (.iload_n 1, 1) := by decide +kernel
theorem dX2_towFigure_49 : decode cX2_towFigure 49 = .ok (.iaload, 1) := by decide +kernel
theorem dX2_towFigure_50 : decode cX2_towFigure 50 = .ok (.ireturn, 1) := by decide +kernel
set_option maxRecDepth 20000 in
theorem ggX2_figure_X2_flakeOfHour : GoodIn wsX2_figure wsX2_flakeOfHour := goodIn_r _ [11, 12, 1, 13, 14, 15, 16, 46, 47, 48, 49, 50, 51, 52] (by decide +kernel) (by decide +kernel)
set_option maxRecDepth 20000 in
theorem gX2_figure_X2_flakeOfHour : GoodIn wsX2_figure (wsV RX2 65 RX2 yX2_flakeOfHour wsX2_flakeOfHour) := goodIn_app (goodIn_of _ (by decide +kernel)) ggX2_figure_X2_flakeOfHour
set_option maxRecDepth 20000 in
theorem ggX2_figure_X0_flagged : GoodIn wsX2_figure wsX0_flagged := goodIn_r _ [21, 22, 23, 24, 25, 20, 26, 27, 28, 53, 54, 55, 56, 57] (by decide +kernel) (by decide +kernel)
set_option maxRecDepth 20000 in
theorem gX2_figure_X0_flagged : GoodIn wsX2_figure (wsV RX2 128 RX0 yX0_flagged wsX0_flagged) := goodIn_app (goodIn_of _ (by decide +kernel)) ggX2_figure_X0_flagged
set_option maxRecDepth 20000 in
theorem ggX2_figure_X2_allRides : GoodIn wsX2_figure wsX2_allRides := goodIn_r _ [32, 33, 46, 47, 48, 49, 50, 51, 52] (by decide +kernel) (by decide +kernel)
set_option maxRecDepth 20000 in
theorem gX2_figure_X2_allRides : GoodIn wsX2_figure (wsV RX2 131 RX2 yX2_allRides wsX2_allRides) := goodIn_app (goodIn_of _ (by decide +kernel)) ggX2_figure_X2_allRides
set_option maxRecDepth 20000 in
theorem ggX2_figure_X1_waitingAnywhere : GoodIn wsX2_figure wsX1_waitingAnywhere := goodIn_r _ [38, 39, 40, 58, 59, 60, 61, 62, 63, 64, 65, 66] (by decide +kernel) (by decide +kernel)
set_option maxRecDepth 20000 in
theorem gX2_figure_X1_waitingAnywhere : GoodIn wsX2_figure (wsV RX2 134 RX1 yX1_waitingAnywhere wsX1_waitingAnywhere) := goodIn_app (goodIn_of _ (by decide +kernel)) ggX2_figure_X1_waitingAnywhere
set_option maxRecDepth 20000 in
theorem ggX2_figure_X1_allPoints : GoodIn wsX2_figure wsX1_allPoints := goodIn_r _ [44, 39, 45, 58, 59, 60, 61, 62, 63, 64, 65, 66] (by decide +kernel) (by decide +kernel)
set_option maxRecDepth 20000 in
theorem gX2_figure_X1_allPoints : GoodIn wsX2_figure (wsV RX2 137 RX1 yX1_allPoints wsX1_allPoints) := goodIn_app (goodIn_of _ (by decide +kernel)) ggX2_figure_X1_allPoints
theorem dX2_figure_0 : decode cX2_figure 0 = .ok (.iload_n 1, 1) := by decide +kernel
theorem dX2_figure_1 : decode cX2_figure 1 = .ok (.tableswitch 99 0 7 #[47, 52, 57, 62, 70, 78, 86, 91], 47) := by decide +kernel
theorem dX2_figure_48 : decode cX2_figure 48 = .ok (.aload_n 0, 1) := by decide +kernel
theorem dX2_figure_49 : decode cX2_figure 49 = .ok (.getfield 9, 3) := by decide +kernel
theorem dX2_figure_52 : decode cX2_figure 52 = .ok (.ireturn, 1) := by decide +kernel
theorem dX2_figure_53 : decode cX2_figure 53 = .ok (.aload_n 0, 1) := by decide +kernel
theorem dX2_figure_54 : decode cX2_figure 54 = .ok (.invokevirtual 65, 3) := by decide +kernel
theorem dX2_figure_57 : decode cX2_figure 57 = .ok (.ireturn, 1) := by decide +kernel
theorem dX2_figure_58 : decode cX2_figure 58 = .ok (.aload_n 0, 1) := by decide +kernel
theorem dX2_figure_59 : decode cX2_figure 59 = .ok (.getfield 15, 3) := by decide +kernel
theorem dX2_figure_62 : decode cX2_figure 62 = .ok (.ireturn, 1) := by decide +kernel
theorem dX2_figure_63 : decode cX2_figure 63 = .ok (.aload_n 0, 1) := by decide +kernel
theorem dX2_figure_64 : decode cX2_figure 64 = .ok (.getfield 31, 3) := by decide +kernel
theorem dX2_figure_67 : decode cX2_figure 67 = .ok (.getfield 124, 3) := by decide +kernel
theorem dX2_figure_70 : decode cX2_figure 70 = .ok (.ireturn, 1) := by decide +kernel
theorem dX2_figure_71 : decode cX2_figure 71 = .ok (.aload_n 0, 1) := by decide +kernel
theorem dX2_figure_72 : decode cX2_figure 72 = .ok (.getfield 38, 3) := by decide +kernel
theorem dX2_figure_75 : decode cX2_figure 75 = .ok (.getfield 127, 3) := by decide +kernel
theorem dX2_figure_78 : decode cX2_figure 78 = .ok (.ireturn, 1) := by decide +kernel
theorem dX2_figure_79 : decode cX2_figure 79 = .ok (.aload_n 0, 1) := by decide +kernel
theorem dX2_figure_80 : decode cX2_figure 80 = .ok (.getfield 31, 3) := by decide +kernel
theorem dX2_figure_83 : decode cX2_figure 83 = .ok (.invokevirtual 128, 3) := by decide +kernel
theorem dX2_figure_86 : decode cX2_figure 86 = .ok (.ireturn, 1) := by decide +kernel
theorem dX2_figure_87 : decode cX2_figure 87 = .ok (.aload_n 0, 1) := by decide +kernel
theorem dX2_figure_88 : decode cX2_figure 88 = .ok (.invokevirtual 131, 3) := by decide +kernel
theorem dX2_figure_91 : decode cX2_figure 91 = .ok (.ireturn, 1) := by decide +kernel
theorem dX2_figure_92 : decode cX2_figure 92 = .ok (.aload_n 0, 1) := by decide +kernel
theorem dX2_figure_93 : decode cX2_figure 93 = .ok (.getfield 38, 3) := by decide +kernel
theorem dX2_figure_96 : decode cX2_figure 96 = .ok (.invokevirtual 134, 3) := by decide +kernel
theorem dX2_figure_99 : decode cX2_figure 99 = .ok (.ireturn, 1) := by decide +kernel
theorem dX2_figure_100 : decode cX2_figure 100 = .ok (.aload_n 0, 1) := by decide +kernel
theorem dX2_figure_101 : decode cX2_figure 101 = .ok (.getfield 38, 3) := by decide +kernel
theorem dX2_figure_104 : decode cX2_figure 104 = .ok (.invokevirtual 137, 3) := by decide +kernel
theorem dX2_figure_107 : decode cX2_figure 107 = .ok (.ireturn, 1) := by decide +kernel
set_option maxRecDepth 20000 in
theorem ggX3_init_X2_init : GoodIn wsX3_init wsX2_init := goodIn_r _ [11, 12, 2, 3, 13, 14, 15, 16, 17, 18, 19, 20, 21, 22, 23, 24, 25, 26, 27, 28, 29, 30, 31, 32, 33, 34, 35, 36, 37, 38, 39, 40, 41, 42, 43, 44, 45, 46, 47, 48, 49, 50, 51, 52, 53, 56, 57, 58, 59, 60, 61, 62, 63, 64, 65, 66, 67, 68, 69] (by decide +kernel) (by decide +kernel)
set_option maxRecDepth 20000 in
theorem gX3_init_X2_init : GoodIn wsX3_init (wsX2_init) := ggX3_init_X2_init
theorem dX3_init_0 : decode cX3_init 0 = .ok (.aload_n 0, 1) := by decide +kernel
theorem dX3_init_1 : decode cX3_init 1 = .ok (.invokespecial 1, 3) := by decide +kernel
theorem dX3_init_4 : decode cX3_init 4 = .ok (.aload_n 0, 1) := by decide +kernel
theorem dX3_init_5 : decode cX3_init 5 = .ok (.new 7, 3) := by decide +kernel
theorem dX3_init_8 : decode cX3_init 8 = .ok (.dup, 1) := by decide +kernel
theorem dX3_init_9 : decode cX3_init 9 = .ok (.invokespecial 9, 3) := by decide +kernel
theorem dX3_init_12 : decode cX3_init 12 = .ok (.putfield 10, 3) := by decide +kernel
theorem dX3_init_15 : decode cX3_init 15 = .ok (.aload_n 0, 1) := by decide +kernel
theorem dX3_init_16 : decode cX3_init 16 = .ok (.new 7, 3) := by decide +kernel
theorem dX3_init_19 : decode cX3_init 19 = .ok (.dup, 1) := by decide +kernel
theorem dX3_init_20 : decode cX3_init 20 = .ok (.invokespecial 9, 3) := by decide +kernel
theorem dX3_init_23 : decode cX3_init 23 = .ok (.putfield 16, 3) := by decide +kernel
theorem dX3_init_26 : decode cX3_init 26 = .ok (.return_, 1) := by decide +kernel
set_option maxRecDepth 20000 in
theorem ggX3_run_X3_isWithin : GoodIn wsX3_run wsX3_isWithin := goodIn_r _ [12] (by decide +kernel) (by decide +kernel)
set_option maxRecDepth 20000 in
theorem gX3_run_X3_isWithin : GoodIn wsX3_run (va_wsS RX3 19 yX3_isWithin wsX3_isWithin) := goodIn_app (goodIn_of _ (by decide +kernel)) ggX3_run_X3_isWithin
set_option maxRecDepth 20000 in
theorem ggX3_run_X0_isFull : GoodIn wsX3_run wsX0_isFull := goodIn_r _ [17, 18, 35, 36, 37, 38, 39] (by decide +kernel) (by decide +kernel)
set_option maxRecDepth 20000 in
theorem gX3_run_X0_isFull : GoodIn wsX3_run (wsV RX3 39 RX0 yX0_isFull wsX0_isFull) := goodIn_app (goodIn_of _ (by decide +kernel)) ggX3_run_X0_isFull
set_option maxRecDepth 20000 in
theorem ggX3_run_X0_add : GoodIn wsX3_run wsX0_add := goodIn_r _ [22, 18, 23, 24, 25, 35, 36, 37, 38, 39] (by decide +kernel) (by decide +kernel)
set_option maxRecDepth 20000 in
theorem gX3_run_X0_add : GoodIn wsX3_run (wsV RX3 50 RX0 yX0_add wsX0_add) := goodIn_app (goodIn_of _ (by decide +kernel)) ggX3_run_X0_add
theorem dX3_run_0 : decode cX3_run 0 = .ok (.iload_n 1, 1) := by decide +kernel
theorem dX3_run_1 : decode cX3_run 1 = .ok (.iconst 0, 1) := by decide +kernel
theorem dX3_run_2 : decode cX3_run 2 = .ok (.iconst 2, 1) := by decide +kernel
theorem dX3_run_3 : decode cX3_run 3 = .ok (.invokestatic 19, 3) := by decide +kernel
theorem dX3_run_6 : decode cX3_run 6 = .ok (.ifCond .ne 13, 3) := by decide +kernel
theorem dX3_run_9 : decode cX3_run 9 = .ok (.new 23, 3) := by decide +kernel
theorem dX3_run_12 : decode cX3_run 12 = .ok (.dup, 1) := by decide +kernel
theorem dX3_run_13 : decode cX3_run 13 = .ok (.ldc 25, 2) := by decide +kernel
theorem dX3_run_15 : decode cX3_run 15 = .ok (.invokespecial 27, 3) := by decide +kernel
theorem dX3_run_18 : decode cX3_run 18 = .ok (.athrow, 1) := by decide +kernel
theorem dX3_run_19 : decode cX3_run 19 = .ok (.iload_n 2, 1) := by decide +kernel
theorem dX3_run_20 : decode cX3_run 20 = .ok (.iconst 1, 1) := by decide +kernel
theorem dX3_run_21 : decode cX3_run 21 = .ok (.bipush 9, 2) := by decide +kernel
theorem dX3_run_23 : decode cX3_run 23 = .ok (.invokestatic 19, 3) := by decide +kernel
theorem dX3_run_26 : decode cX3_run 26 = .ok (.ifCond .ne 13, 3) := by decide +kernel
theorem dX3_run_29 : decode cX3_run 29 = .ok (.new 30, 3) := by decide +kernel
theorem dX3_run_32 : decode cX3_run 32 = .ok (.dup, 1) := by decide +kernel
theorem dX3_run_33 : decode cX3_run 33 = .ok (.ldc 32, 2) := by decide +kernel
theorem dX3_run_35 : decode cX3_run 35 = .ok (.invokespecial 34, 3) := by decide +kernel
theorem dX3_run_38 : decode cX3_run 38 = .ok (.athrow, 1) := by decide +kernel
theorem dX3_run_39 : decode cX3_run 39 = .ok (.aload_n 0, 1) := by decide +kernel
theorem dX3_run_40 : decode cX3_run 40 = .ok (.getfield 10, 3) := by decide +kernel
theorem dX3_run_43 : decode cX3_run 43 = .ok (.getfield 35, 3) := by decide +kernel
theorem dX3_run_46 : decode cX3_run 46 = .ok (.invokevirtual 39, 3) := by decide +kernel
theorem dX3_run_49 : decode cX3_run 49 = .ok (.ifCond .eq 13, 3) := by decide +kernel
theorem dX3_run_52 : decode cX3_run 52 = .ok (.new 45, 3) := by decide +kernel
theorem dX3_run_55 : decode cX3_run 55 = .ok (.dup, 1) := by decide +kernel
theorem dX3_run_56 : decode cX3_run 56 = .ok (.ldc 47, 2) := by decide +kernel
theorem dX3_run_58 : decode cX3_run 58 = .ok (.invokespecial 49, 3) := by decide +kernel
theorem dX3_run_61 : decode cX3_run 61 = .ok (.athrow, 1) := by decide +kernel
theorem dX3_run_62 : decode cX3_run 62 = .ok (.aload_n 0, 1) := by decide +kernel
theorem dX3_run_63 : decode cX3_run 63 = .ok (.getfield 10, 3) := by decide +kernel
theorem dX3_run_66 : decode cX3_run 66 = .ok (.getfield 35, 3) := by decide +kernel
theorem dX3_run_69 : decode cX3_run 69 = .ok (.iload_n 1, 1) := by decide +kernel
theorem dX3_run_70 : decode cX3_run 70 = .ok (.iload_n 2, 1) := by decide +kernel
theorem dX3_run_71 : decode cX3_run 71 = .ok (.invokevirtual 50, 3) := by decide +kernel
theorem dX3_run_74 : decode cX3_run 74 = .ok (.ireturn, 1) := by decide +kernel
set_option maxRecDepth 20000 in
theorem ggX3_setPommels_X3_isWithin : GoodIn wsX3_setPommels wsX3_isWithin := goodIn_r _ [10] (by decide +kernel) (by decide +kernel)
set_option maxRecDepth 20000 in
theorem gX3_setPommels_X3_isWithin : GoodIn wsX3_setPommels (va_wsS RX3 19 yX3_isWithin wsX3_isWithin) := goodIn_app (goodIn_of _ (by decide +kernel)) ggX3_setPommels_X3_isWithin
theorem dX3_setPommels_0 : decode cX3_setPommels 0 = .ok (.iload_n 1, 1) := by decide +kernel
theorem dX3_setPommels_1 : decode cX3_setPommels 1 = .ok (.iconst 0, 1) := by decide +kernel
theorem dX3_setPommels_2 : decode cX3_setPommels 2 = .ok (.iconst 2, 1) := by decide +kernel
theorem dX3_setPommels_3 : decode cX3_setPommels 3 = .ok (.invokestatic 19, 3) := by decide +kernel
theorem dX3_setPommels_6 : decode cX3_setPommels 6 = .ok (.ifCond .ne 13, 3) := by decide +kernel
theorem dX3_setPommels_9 : decode cX3_setPommels 9 = .ok (.new 23, 3) := by decide +kernel
theorem dX3_setPommels_12 : decode cX3_setPommels 12 = .ok (.dup, 1) := by decide +kernel
theorem dX3_setPommels_13 : decode cX3_setPommels 13 = .ok (.ldc 25, 2) := by decide +kernel
theorem dX3_setPommels_15 : decode cX3_setPommels 15 = .ok (.invokespecial 27, 3) := by decide +kernel
theorem dX3_setPommels_18 : decode cX3_setPommels 18 = .ok (.athrow, 1) := by decide +kernel
theorem dX3_setPommels_19 : decode cX3_setPommels 19 = .ok (.iload_n 2, 1) := by decide +kernel
theorem dX3_setPommels_20 : decode cX3_setPommels 20 = .ok (.iconst 1, 1) := by decide +kernel
theorem dX3_setPommels_21 : decode cX3_setPommels 21 = .ok (.iconst 4, 1) := by decide +kernel
theorem dX3_setPommels_22 : decode cX3_setPommels 22 = .ok (.invokestatic 19, 3) := by decide +kernel
theorem dX3_setPommels_25 : decode cX3_setPommels 25 = .ok (.ifCond .ne 13, 3) := by decide +kernel
theorem dX3_setPommels_28 : decode cX3_setPommels 28 = .ok (.new 30, 3) := by decide +kernel
theorem dX3_setPommels_31 : decode cX3_setPommels 31 = .ok (.dup, 1) := by decide +kernel
theorem dX3_setPommels_32 : decode cX3_setPommels 32 = .ok (.ldc 54, 2) := by decide +kernel
theorem dX3_setPommels_34 : decode cX3_setPommels 34 = .ok (.invokespecial 34, 3) := by decide +kernel
theorem dX3_setPommels_37 : decode cX3_setPommels 37 = .ok (.athrow, 1) := by decide +kernel
theorem dX3_setPommels_38 : decode cX3_setPommels 38 = .ok (.aload_n 0, 1) := by decide +kernel
theorem dX3_setPommels_39 : decode cX3_setPommels 39 = .ok (.getfield 10, 3) := by decide +kernel
theorem dX3_setPommels_42 : decode cX3_setPommels 42 = .ok (.getfield 56, 3) := by decide +kernel
theorem dX3_setPommels_45 : decode cX3_setPommels 45 = .ok (.iload_n 1, 1) := by decide +kernel
theorem dX3_setPommels_46 : decode cX3_setPommels 46 = .ok (.iaload, 1) := by decide +kernel
theorem dX3_setPommels_47 : decode cX3_setPommels 47 = .ok (.istore_n 3, 1) := by decide +kernel
theorem dX3_setPommels_48 : decode cX3_setPommels 48 = .ok (.aload_n 0, 1) := by decide +kernel
theorem dX3_setPommels_49 : decode cX3_setPommels 49 = .ok (.getfield 10, 3) := by decide +kernel
theorem dX3_setPommels_52 : decode cX3_setPommels 52 = .ok (.getfield 56, 3) := by decide +kernel
theorem dX3_setPommels_55 : decode cX3_setPommels 55 = .ok (.iload_n 1, 1) := by decide +kernel
theorem dX3_setPommels_56 : decode cX3_setPommels 56 = .ok (.iload_n 2, 1) := by decide +kernel
theorem dX3_setPommels_57 : decode cX3_setPommels 57 = .ok (.iastore, 1) := by decide +kernel
theorem dX3_setPommels_58 : decode cX3_setPommels 58 = .ok (.iload_n 3, 1) := by decide +kernel
theorem dX3_setPommels_59 : decode cX3_setPommels 59 = .ok (.ireturn, 1) := by decide +kernel
set_option maxRecDepth 20000 in
theorem ggX3_setFlake_X3_isWithin : GoodIn wsX3_setFlake wsX3_isWithin := goodIn_r _ [10] (by decide +kernel) (by decide +kernel)
set_option maxRecDepth 20000 in
theorem gX3_setFlake_X3_isWithin : GoodIn wsX3_setFlake (va_wsS RX3 19 yX3_isWithin wsX3_isWithin) := goodIn_app (goodIn_of _ (by decide +kernel)) ggX3_setFlake_X3_isWithin
theorem dX3_setFlake_0 : decode cX3_setFlake 0 = .ok (.iload_n 1, 1) := by decide +kernel
theorem dX3_setFlake_1 : decode cX3_setFlake 1 = .ok (.iconst 0, 1) := by decide +kernel
theorem dX3_setFlake_2 : decode cX3_setFlake 2 = .ok (.iconst 5, 1) := by decide +kernel
theorem dX3_setFlake_3 : decode cX3_setFlake 3 = .ok (.invokestatic 19, 3) := by decide +kernel
theorem dX3_setFlake_6 : decode cX3_setFlake 6 = .ok (.ifCond .ne 13, 3) := by decide +kernel
theorem dX3_setFlake_9 : decode cX3_setFlake 9 = .ok (.new 23, 3) := by decide +kernel
theorem dX3_setFlake_12 : decode cX3_setFlake 12 = .ok (.dup, 1) := by decide +kernel
theorem dX3_setFlake_13 : decode cX3_setFlake 13 = .ok (.ldc 60, 2) := by decide +kernel
theorem dX3_setFlake_15 : decode cX3_setFlake 15 = .ok (.invokespecial 27, 3) := by decide +kernel
theorem dX3_setFlake_18 : decode cX3_setFlake 18 = .ok (.athrow, 1) := by decide +kernel
theorem dX3_setFlake_19 : decode cX3_setFlake 19 = .ok (.iload_n 2, 1) := by decide +kernel
theorem dX3_setFlake_20 : decode cX3_setFlake 20 = .ok (.iconst 0, 1) := by decide +kernel
theorem dX3_setFlake_21 : decode cX3_setFlake 21 = .ok (.iconst 3, 1) := by decide +kernel
theorem dX3_setFlake_22 : decode cX3_setFlake 22 = .ok (.invokestatic 19, 3) := by decide +kernel
theorem dX3_setFlake_25 : decode cX3_setFlake 25 = .ok (.ifCond .ne 13, 3) := by decide +kernel
theorem dX3_setFlake_28 : decode cX3_setFlake 28 = .ok (.new 30, 3) := by decide +kernel
theorem dX3_setFlake_31 : decode cX3_setFlake 31 = .ok (.dup, 1) := by decide +kernel
theorem dX3_setFlake_32 : decode cX3_setFlake 32 = .ok (.ldc 62, 2) := by decide +kernel
theorem dX3_setFlake_34 : decode cX3_setFlake 34 = .ok (.invokespecial 34, 3) := by decide +kernel
theorem dX3_setFlake_37 : decode cX3_setFlake 37 = .ok (.athrow, 1) := by decide +kernel
theorem dX3_setFlake_38 : decode cX3_setFlake 38 = .ok (.aload_n 0, 1) := by decide +kernel
theorem dX3_setFlake_39 : decode cX3_setFlake 39 = .ok (.getfield 10, 3) := by decide +kernel
theorem dX3_setFlake_42 : decode cX3_setFlake 42 = .ok (.getfield 64, 3) := by decide +kernel
theorem dX3_setFlake_45 : decode cX3_setFlake 45 = .ok (.iload_n 1, 1) := by decide +kernel
theorem dX3_setFlake_46 : decode cX3_setFlake 46 = .ok (.iaload, 1) := by decide +kernel
theorem dX3_setFlake_47 : decode cX3_setFlake 47 = .ok (.istore_n 3, 1) := by decide +kernel
theorem dX3_setFlake_48 : decode cX3_setFlake 48 = .ok (.aload_n 0, 1) := by decide +kernel
theorem dX3_setFlake_49 : decode cX3_setFlake 49 = .ok (.getfield 10, 3) := by decide +kernel
theorem dX3_setFlake_52 : decode cX3_setFlake 52 = .ok (.getfield 64, 3) := by decide +kernel
theorem dX3_setFlake_55 : decode cX3_setFlake 55 = .ok (.iload_n 1, 1) := by decide +kernel
theorem dX3_setFlake_56 : decode cX3_setFlake 56 = .ok (.iload_n 2, 1) := by decide +kernel
theorem dX3_setFlake_57 : decode cX3_setFlake 57 = .ok (.iastore, 1) := by decide +kernel
theorem dX3_setFlake_58 : decode cX3_setFlake 58 = .ok (.iload_n 3, 1) := by decide +kernel
theorem dX3_setFlake_59 : decode cX3_setFlake 59 = .ok (.ireturn, 1) := by decide +kernel
set_option maxRecDepth 20000 in
theorem ggX3_skier_X3_isWithin : GoodIn wsX3_skier wsX3_isWithin := goodIn_r _ [10] (by decide +kernel) (by decide +kernel)
set_option maxRecDepth 20000 in
theorem gX3_skier_X3_isWithin : GoodIn wsX3_skier (va_wsS RX3 19 yX3_isWithin wsX3_isWithin) := goodIn_app (goodIn_of _ (by decide +kernel)) ggX3_skier_X3_isWithin
set_option maxRecDepth 20000 in
theorem ggX3_skier_X1_isFull : GoodIn wsX3_skier wsX1_isFull := goodIn_r _ [15, 16, 33, 34, 35, 36, 37, 38, 39, 40, 41] (by decide +kernel) (by decide +kernel)
set_option maxRecDepth 20000 in
theorem gX3_skier_X1_isFull : GoodIn wsX3_skier (wsV RX3 101 RX1 yX1_isFull wsX1_isFull) := goodIn_app (goodIn_of _ (by decide +kernel)) ggX3_skier_X1_isFull
set_option maxRecDepth 20000 in
theorem ggX3_skier_X1_add : GoodIn wsX3_skier wsX1_add := goodIn_r _ [20, 16, 21, 22, 23, 33, 34, 35, 36, 37, 38, 39, 40, 41] (by decide +kernel) (by decide +kernel)
set_option maxRecDepth 20000 in
theorem gX3_skier_X1_add : GoodIn wsX3_skier (wsV RX3 106 RX1 yX1_add wsX1_add) := goodIn_app (goodIn_of _ (by decide +kernel)) ggX3_skier_X1_add
theorem dX3_skier_0 : decode cX3_skier 0 = .ok (.iload_n 1, 1) := by decide +kernel
theorem dX3_skier_1 : decode cX3_skier 1 = .ok (.iconst 1, 1) := by decide +kernel
theorem dX3_skier_2 : decode cX3_skier 2 = .ok (.bipush 9, 2) := by decide +kernel
theorem dX3_skier_4 : decode cX3_skier 4 = .ok (.invokestatic 19, 3) := by decide +kernel
theorem dX3_skier_7 : decode cX3_skier 7 = .ok (.ifCond .ne 13, 3) := by decide +kernel
theorem dX3_skier_10 : decode cX3_skier 10 = .ok (.new 30, 3) := by decide +kernel
theorem dX3_skier_13 : decode cX3_skier 13 = .ok (.dup, 1) := by decide +kernel
theorem dX3_skier_14 : decode cX3_skier 14 = .ok (.ldc 93, 2) := by decide +kernel
theorem dX3_skier_16 : decode cX3_skier 16 = .ok (.invokespecial 34, 3) := by decide +kernel
theorem dX3_skier_19 : decode cX3_skier 19 = .ok (.athrow, 1) := by decide +kernel
theorem dX3_skier_20 : decode cX3_skier 20 = .ok (.iload_n 2, 1) := by decide +kernel
theorem dX3_skier_21 : decode cX3_skier 21 = .ok (.iconst 0, 1) := by decide +kernel
theorem dX3_skier_22 : decode cX3_skier 22 = .ok (.bipush 60, 2) := by decide +kernel
theorem dX3_skier_24 : decode cX3_skier 24 = .ok (.invokestatic 19, 3) := by decide +kernel
theorem dX3_skier_27 : decode cX3_skier 27 = .ok (.ifCond .ne 13, 3) := by decide +kernel
theorem dX3_skier_30 : decode cX3_skier 30 = .ok (.new 30, 3) := by decide +kernel
theorem dX3_skier_33 : decode cX3_skier 33 = .ok (.dup, 1) := by decide +kernel
theorem dX3_skier_34 : decode cX3_skier 34 = .ok (.ldc 95, 2) := by decide +kernel
theorem dX3_skier_36 : decode cX3_skier 36 = .ok (.invokespecial 34, 3) := by decide +kernel
theorem dX3_skier_39 : decode cX3_skier 39 = .ok (.athrow, 1) := by decide +kernel
theorem dX3_skier_40 : decode cX3_skier 40 = .ok (.aload_n 0, 1) := by decide +kernel
theorem dX3_skier_41 : decode cX3_skier 41 = .ok (.getfield 10, 3) := by decide +kernel
theorem dX3_skier_44 : decode cX3_skier 44 = .ok (.getfield 97, 3) := by decide +kernel
theorem dX3_skier_47 : decode cX3_skier 47 = .ok (.invokevirtual 101, 3) := by decide +kernel
theorem dX3_skier_50 : decode cX3_skier 50 = .ok (.ifCond .eq 13, 3) := by decide +kernel
theorem dX3_skier_53 : decode cX3_skier 53 = .ok (.new 45, 3) := by decide +kernel
theorem dX3_skier_56 : decode cX3_skier 56 = .ok (.dup, 1) := by decide +kernel
theorem dX3_skier_57 : decode cX3_skier 57 = .ok (.ldc 104, 2) := by decide +kernel
theorem dX3_skier_59 : decode cX3_skier 59 = .ok (.invokespecial 49, 3) := by decide +kernel
theorem dX3_skier_62 : decode cX3_skier 62 = .ok (.athrow, 1) := by decide +kernel
theorem dX3_skier_63 : decode cX3_skier 63 = .ok (.aload_n 0, 1) := by decide +kernel
theorem dX3_skier_64 : decode cX3_skier 64 = .ok (.getfield 10, 3) := by decide +kernel
theorem dX3_skier_67 : decode cX3_skier 67 = .ok (.getfield 97, 3) := by decide +kernel
theorem dX3_skier_70 : decode cX3_skier 70 = .ok (.iload_n 1, 1) := by decide +kernel
theorem dX3_skier_71 : decode cX3_skier 71 = .ok (.iload_n 2, 1) := by decide +kernel
theorem dX3_skier_72 : decode cX3_skier 72 = .ok (.invokevirtual 106, 3) := by decide +kernel
theorem dX3_skier_75 : decode cX3_skier 75 = .ok (.ireturn, 1) := by decide +kernel
set_option maxRecDepth 20000 in
theorem ggX3_wax_X1_has : GoodIn wsX3_wax wsX1_has := goodIn_r _ [15, 16, 36, 37, 38, 39, 40, 41, 42, 43, 44] (by decide +kernel) (by decide +kernel)
set_option maxRecDepth 20000 in
theorem gX3_wax_X1_has : GoodIn wsX3_wax (wsV RX3 107 RX1 yX1_has wsX1_has) := goodIn_app (goodIn_of _ (by decide +kernel)) ggX3_wax_X1_has
set_option maxRecDepth 20000 in
theorem ggX3_wax_X3_isWithin : GoodIn wsX3_wax wsX3_isWithin := goodIn_r _ [20] (by decide +kernel) (by decide +kernel)
set_option maxRecDepth 20000 in
theorem gX3_wax_X3_isWithin : GoodIn wsX3_wax (va_wsS RX3 19 yX3_isWithin wsX3_isWithin) := goodIn_app (goodIn_of _ (by decide +kernel)) ggX3_wax_X3_isWithin
set_option maxRecDepth 20000 in
theorem ggX3_wax_X1_putWaxOn : GoodIn wsX3_wax wsX1_putWaxOn := goodIn_r _ [24, 25, 26, 36, 37, 38, 39, 40, 41, 42, 43, 44] (by decide +kernel) (by decide +kernel)
set_option maxRecDepth 20000 in
theorem gX3_wax_X1_putWaxOn : GoodIn wsX3_wax (wsV RX3 116 RX1 yX1_putWaxOn wsX1_putWaxOn) := goodIn_app (goodIn_of _ (by decide +kernel)) ggX3_wax_X1_putWaxOn
theorem dX3_wax_0 : decode cX3_wax 0 = .ok (.aload_n 0, 1) := by decide +kernel
theorem dX3_wax_1 : decode cX3_wax 1 = .ok (.getfield 10, 3) := by decide +kernel
theorem dX3_wax_4 : decode cX3_wax 4 = .ok (.getfield 97, 3) := by decide +kernel
theorem dX3_wax_7 : decode cX3_wax 7 = .ok (.iload_n 1, 1) := by decide +kernel
theorem dX3_wax_8 : decode cX3_wax 8 = .ok (.invokevirtual 107, 3) := by decide +kernel
theorem dX3_wax_11 : decode cX3_wax 11 = .ok (.ifCond .ne 13, 3) := by decide +kernel
theorem dX3_wax_14 : decode cX3_wax 14 = .ok (.new 23, 3) := by decide +kernel
theorem dX3_wax_17 : decode cX3_wax 17 = .ok (.dup, 1) := by decide +kernel
theorem dX3_wax_18 : decode cX3_wax 18 = .ok (.ldc 108, 2) := by decide +kernel
theorem dX3_wax_20 : decode cX3_wax 20 = .ok (.invokespecial 27, 3) := by decide +kernel
theorem dX3_wax_23 : decode cX3_wax 23 = .ok (.athrow, 1) := by decide +kernel
theorem dX3_wax_24 : decode cX3_wax 24 = .ok (.iload_n 2, 1) := by decide +kernel
theorem dX3_wax_25 : decode cX3_wax 25 = .ok (.iconst 0, 1) := by decide +kernel
theorem dX3_wax_26 : decode cX3_wax 26 = .ok (.iconst 3, 1) := by decide +kernel
theorem dX3_wax_27 : decode cX3_wax 27 = .ok (.invokestatic 19, 3) := by decide +kernel
theorem dX3_wax_30 : decode cX3_wax 30 = .ok (.ifCond .ne 13, 3) := by decide +kernel
theorem dX3_wax_33 : decode cX3_wax 33 = .ok (.new 30, 3) := by decide +kernel
theorem dX3_wax_36 : decode cX3_wax 36 = .ok (.dup, 1) := by decide +kernel
theorem dX3_wax_37 : decode cX3_wax 37 = .ok (.ldc 110, 2) := by decide +kernel
theorem dX3_wax_39 : decode cX3_wax 39 = .ok (.invokespecial 34, 3) := by decide +kernel
theorem dX3_wax_42 : decode cX3_wax 42 = .ok (.athrow, 1) := by decide +kernel
theorem dX3_wax_43 : decode cX3_wax 43 = .ok (.aload_n 0, 1) := by decide +kernel
theorem dX3_wax_44 : decode cX3_wax 44 = .ok (.getfield 10, 3) := by decide +kernel
theorem dX3_wax_47 : decode cX3_wax 47 = .ok (.getfield 97, 3) := by decide +kernel
theorem dX3_wax_50 : decode cX3_wax 50 = .ok (.getfield 112, 3) := by decide +kernel
theorem dX3_wax_53 : decode cX3_wax 53 = .ok (.iload_n 1, 1) := by decide +kernel
theorem dX3_wax_54 : decode cX3_wax 54 = .ok (.iaload, 1) := by decide +kernel
theorem dX3_wax_55 : decode cX3_wax 55 = .ok (.iconst 2, 1) := by decide +kernel
theorem dX3_wax_56 : decode cX3_wax 56 = .ok (.if_icmp .ge 13, 3) := by decide +kernel
theorem dX3_wax_59 : decode cX3_wax 59 = .ok (.new 45, 3) := by decide +kernel
theorem dX3_wax_62 : decode cX3_wax 62 = .ok (.dup, 1) := by decide +kernel
theorem dX3_wax_63 : decode cX3_wax 63 = .ok (.ldc 114, 2) := by decide +kernel
theorem dX3_wax_65 : decode cX3_wax 65 = .ok (.invokespecial 49, 3) := by decide +kernel
theorem dX3_wax_68 : decode cX3_wax 68 = .ok (.athrow, 1) := by decide +kernel
theorem dX3_wax_69 : decode cX3_wax 69 = .ok (.aload_n 0, 1) := by decide +kernel
theorem dX3_wax_70 : decode cX3_wax 70 = .ok (.getfield 10, 3) := by decide +kernel
theorem dX3_wax_73 : decode cX3_wax 73 = .ok (.getfield 97, 3) := by decide +kernel
theorem dX3_wax_76 : decode cX3_wax 76 = .ok (.getfield 112, 3) := by decide +kernel
theorem dX3_wax_79 : decode cX3_wax 79 = .ok (.iload_n 1, 1) := by decide +kernel
theorem dX3_wax_80 : decode cX3_wax 80 = .ok (.dup2, 1) := by decide +kernel
theorem dX3_wax_81 : decode cX3_wax 81 = .ok (.iaload, 1) := by decide +kernel
theorem dX3_wax_82 : decode cX3_wax 82 = .ok (.iconst 2, 1) := by decide +kernel
theorem dX3_wax_83 : decode cX3_wax 83 = .ok (.isub, 1) := by decide +kernel
theorem dX3_wax_84 : decode cX3_wax 84 = .ok (.iastore, 1) := by decide +kernel
theorem dX3_wax_85 : decode cX3_wax 85 = .ok (.aload_n 0, 1) := by decide +kernel
theorem dX3_wax_86 : decode cX3_wax 86 = .ok (.getfield 10, 3) := by decide +kernel
theorem dX3_wax_89 : decode cX3_wax 89 = .ok (.dup, 1) := by decide +kernel
theorem dX3_wax_90 : decode cX3_wax 90 = .ok (.getfield 73, 3) := by decide +kernel
theorem dX3_wax_93 : decode cX3_wax 93 = .ok (.iconst 2, 1) := by decide +kernel
theorem dX3_wax_94 : decode cX3_wax 94 = .ok (.iadd, 1) := by decide +kernel
theorem dX3_wax_95 : decode cX3_wax 95 = .ok (.putfield 73, 3) := by decide +kernel
theorem dX3_wax_98 : decode cX3_wax 98 = .ok (.aload_n 0, 1) := by decide +kernel
theorem dX3_wax_99 : decode cX3_wax 99 = .ok (.getfield 10, 3) := by decide +kernel
theorem dX3_wax_102 : decode cX3_wax 102 = .ok (.getfield 97, 3) := by decide +kernel
theorem dX3_wax_105 : decode cX3_wax 105 = .ok (.iload_n 1, 1) := by decide +kernel
theorem dX3_wax_106 : decode cX3_wax 106 = .ok (.iload_n 2, 1) := by decide +kernel
theorem dX3_wax_107 : decode cX3_wax 107 = .ok (.invokevirtual 116, 3) := by decide +kernel
theorem dX3_wax_110 : decode cX3_wax 110 = .ok (.aload_n 0, 1) := by decide +kernel
theorem dX3_wax_111 : decode cX3_wax 111 = .ok (.getfield 10, 3) := by decide +kernel
theorem dX3_wax_114 : decode cX3_wax 114 = .ok (.getfield 97, 3) := by decide +kernel
theorem dX3_wax_117 : decode cX3_wax 117 = .ok (.getfield 112, 3) := by decide +kernel
theorem dX3_wax_120 : decode cX3_wax 120 = .ok (.iload_n 1, 1) := by decide +kernel
theorem dX3_wax_121 : decode cX3_wax 121 = .ok (.iaload, 1) := by decide +kernel
theorem dX3_wax_122 : decode cX3_wax 122 = .ok (.ireturn, 1) := by decide +kernel
set_option maxRecDepth 20000 in
theorem ggX3_join_X1_has : GoodIn wsX3_join wsX1_has := goodIn_r _ [10, 11, 39, 40, 41, 42, 43, 44, 45, 46, 47] (by decide +kernel) (by decide +kernel)
set_option maxRecDepth 20000 in
theorem gX3_join_X1_has : GoodIn wsX3_join (wsV RX3 107 RX1 yX1_has wsX1_has) := goodIn_app (goodIn_of _ (by decide +kernel)) ggX3_join_X1_has
set_option maxRecDepth 20000 in
theorem ggX3_join_X3_isWithin : GoodIn wsX3_join wsX3_isWithin := goodIn_r _ [15] (by decide +kernel) (by decide +kernel)
set_option maxRecDepth 20000 in
theorem gX3_join_X3_isWithin : GoodIn wsX3_join (va_wsS RX3 19 yX3_isWithin wsX3_isWithin) := goodIn_app (goodIn_of _ (by decide +kernel)) ggX3_join_X3_isWithin
set_option maxRecDepth 20000 in
theorem ggX3_join_X1_takeOutOfQueue : GoodIn wsX3_join wsX1_takeOutOfQueue := goodIn_r _ [19, 20, 21, 11, 39, 40, 41, 42, 43, 44, 45, 46, 47] (by decide +kernel) (by decide +kernel)
set_option maxRecDepth 20000 in
theorem gX3_join_X1_takeOutOfQueue : GoodIn wsX3_join (wsV RX3 119 RX1 yX1_takeOutOfQueue wsX1_takeOutOfQueue) := goodIn_app (goodIn_of _ (by decide +kernel)) ggX3_join_X1_takeOutOfQueue
set_option maxRecDepth 20000 in
theorem ggX3_join_X1_putAtEnd : GoodIn wsX3_join wsX1_putAtEnd := goodIn_r _ [25, 20, 21, 26, 27, 28, 9, 29, 11, 39, 40, 41, 42, 43, 44, 45, 46, 47] (by decide +kernel) (by decide +kernel)
set_option maxRecDepth 20000 in
theorem gX3_join_X1_putAtEnd : GoodIn wsX3_join (wsV RX3 123 RX1 yX1_putAtEnd wsX1_putAtEnd) := goodIn_app (goodIn_of _ (by decide +kernel)) ggX3_join_X1_putAtEnd
theorem dX3_join_0 : decode cX3_join 0 = .ok (.aload_n 0, 1) := by decide +kernel
theorem dX3_join_1 : decode cX3_join 1 = .ok (.getfield 10, 3) := by decide +kernel
theorem dX3_join_4 : decode cX3_join 4 = .ok (.getfield 97, 3) := by decide +kernel
theorem dX3_join_7 : decode cX3_join 7 = .ok (.iload_n 1, 1) := by decide +kernel
theorem dX3_join_8 : decode cX3_join 8 = .ok (.invokevirtual 107, 3) := by decide +kernel
theorem dX3_join_11 : decode cX3_join 11 = .ok (.ifCond .ne 13, 3) := by decide +kernel
theorem dX3_join_14 : decode cX3_join 14 = .ok (.new 23, 3) := by decide +kernel
theorem dX3_join_17 : decode cX3_join 17 = .ok (.dup, 1) := by decide +kernel
theorem dX3_join_18 : decode cX3_join 18 = .ok (.ldc 108, 2) := by decide +kernel
theorem dX3_join_20 : decode cX3_join 20 = .ok (.invokespecial 27, 3) := by decide +kernel
theorem dX3_join_23 : decode cX3_join 23 = .ok (.athrow, 1) := by decide +kernel
theorem dX3_join_24 : decode cX3_join 24 = .ok (.iload_n 2, 1) := by decide +kernel
theorem dX3_join_25 : decode cX3_join 25 = .ok (.iconst 0, 1) := by decide +kernel
theorem dX3_join_26 : decode cX3_join 26 = .ok (.iconst 2, 1) := by decide +kernel
theorem dX3_join_27 : decode cX3_join 27 = .ok (.invokestatic 19, 3) := by decide +kernel
theorem dX3_join_30 : decode cX3_join 30 = .ok (.ifCond .ne 13, 3) := by decide +kernel
theorem dX3_join_33 : decode cX3_join 33 = .ok (.new 23, 3) := by decide +kernel
theorem dX3_join_36 : decode cX3_join 36 = .ok (.dup, 1) := by decide +kernel
theorem dX3_join_37 : decode cX3_join 37 = .ok (.ldc 25, 2) := by decide +kernel
theorem dX3_join_39 : decode cX3_join 39 = .ok (.invokespecial 27, 3) := by decide +kernel
theorem dX3_join_42 : decode cX3_join 42 = .ok (.athrow, 1) := by decide +kernel
theorem dX3_join_43 : decode cX3_join 43 = .ok (.aload_n 0, 1) := by decide +kernel
theorem dX3_join_44 : decode cX3_join 44 = .ok (.getfield 10, 3) := by decide +kernel
theorem dX3_join_47 : decode cX3_join 47 = .ok (.getfield 97, 3) := by decide +kernel
theorem dX3_join_50 : decode cX3_join 50 = .ok (.iload_n 1, 1) := by decide +kernel
theorem dX3_join_51 : decode cX3_join 51 = .ok (.invokevirtual 119, 3) := by decide +kernel
theorem dX3_join_54 : decode cX3_join 54 = .ok (.aload_n 0, 1) := by decide +kernel
theorem dX3_join_55 : decode cX3_join 55 = .ok (.getfield 10, 3) := by decide +kernel
theorem dX3_join_58 : decode cX3_join 58 = .ok (.getfield 97, 3) := by decide +kernel
theorem dX3_join_61 : decode cX3_join 61 = .ok (.iload_n 1, 1) := by decide +kernel
theorem dX3_join_62 : decode cX3_join 62 = .ok (.iload_n 2, 1) := by decide +kernel
theorem dX3_join_63 : decode cX3_join 63 = .ok (.invokevirtual 123, 3) := by decide +kernel
theorem dX3_join_66 : decode cX3_join 66 = .ok (.aload_n 0, 1) := by decide +kernel
theorem dX3_join_67 : decode cX3_join 67 = .ok (.getfield 10, 3) := by decide +kernel
theorem dX3_join_70 : decode cX3_join 70 = .ok (.getfield 97, 3) := by decide +kernel
theorem dX3_join_73 : decode cX3_join 73 = .ok (.getfield 126, 3) := by decide +kernel
theorem dX3_join_76 : decode cX3_join 76 = .ok (.iload_n 1, 1) := by decide +kernel
theorem dX3_join_77 : decode cX3_join 77 = .ok (.iaload, 1) := by decide +kernel
theorem dX3_join_78 : decode cX3_join 78 = .ok (.ireturn, 1) := by decide +kernel
set_option maxRecDepth 20000 in
theorem ggX3_leave_X1_has : GoodIn wsX3_leave wsX1_has := goodIn_r _ [10, 11, 27, 28, 29, 30, 31, 32, 33, 34, 35] (by decide +kernel) (by decide +kernel)
set_option maxRecDepth 20000 in
theorem gX3_leave_X1_has : GoodIn wsX3_leave (wsV RX3 107 RX1 yX1_has wsX1_has) := goodIn_app (goodIn_of _ (by decide +kernel)) ggX3_leave_X1_has
set_option maxRecDepth 20000 in
theorem ggX3_leave_X1_takeOutOfQueue : GoodIn wsX3_leave wsX1_takeOutOfQueue := goodIn_r _ [15, 16, 17, 11, 27, 28, 29, 30, 31, 32, 33, 34, 35] (by decide +kernel) (by decide +kernel)
set_option maxRecDepth 20000 in
theorem gX3_leave_X1_takeOutOfQueue : GoodIn wsX3_leave (wsV RX3 119 RX1 yX1_takeOutOfQueue wsX1_takeOutOfQueue) := goodIn_app (goodIn_of _ (by decide +kernel)) ggX3_leave_X1_takeOutOfQueue
theorem dX3_leave_0 : decode cX3_leave 0 = .ok (.aload_n 0, 1) := by decide +kernel
theorem dX3_leave_1 : decode cX3_leave 1 = .ok (.getfield 10, 3) := by decide +kernel
theorem dX3_leave_4 : decode cX3_leave 4 = .ok (.getfield 97, 3) := by decide +kernel
theorem dX3_leave_7 : decode cX3_leave 7 = .ok (.iload_n 1, 1) := by decide +kernel
theorem dX3_leave_8 : decode cX3_leave 8 = .ok (.invokevirtual 107, 3) := by decide +kernel
theorem dX3_leave_11 : decode cX3_leave 11 = .ok (.ifCond .ne 13, 3) := by decide +kernel
theorem dX3_leave_14 : decode cX3_leave 14 = .ok (.new 23, 3) := by decide +kernel
theorem dX3_leave_17 : decode cX3_leave 17 = .ok (.dup, 1) := by decide +kernel
theorem dX3_leave_18 : decode cX3_leave 18 = .ok (.ldc 108, 2) := by decide +kernel
theorem dX3_leave_20 : decode cX3_leave 20 = .ok (.invokespecial 27, 3) := by decide +kernel
theorem dX3_leave_23 : decode cX3_leave 23 = .ok (.athrow, 1) := by decide +kernel
theorem dX3_leave_24 : decode cX3_leave 24 = .ok (.aload_n 0, 1) := by decide +kernel
theorem dX3_leave_25 : decode cX3_leave 25 = .ok (.getfield 10, 3) := by decide +kernel
theorem dX3_leave_28 : decode cX3_leave 28 = .ok (.getfield 97, 3) := by decide +kernel
theorem dX3_leave_31 : decode cX3_leave 31 = .ok (.getfield 129, 3) := by decide +kernel
theorem dX3_leave_34 : decode cX3_leave 34 = .ok (.iload_n 1, 1) := by decide +kernel
theorem dX3_leave_35 : decode cX3_leave 35 = .ok (.iaload, 1) := by decide +kernel
theorem dX3_leave_36 : decode cX3_leave 36 = .ok (.iconst (-1), 1) := by decide +kernel
theorem dX3_leave_37 : decode cX3_leave 37 = .ok (.if_icmp .eq 7, 3) := by decide +kernel
theorem dX3_leave_40 : decode cX3_leave 40 = .ok (.iconst 1, 1) := by decide +kernel
theorem dX3_leave_41 : decode cX3_leave 41 = .ok (.goto 4, 3) := by decide +kernel
theorem dX3_leave_44 : decode cX3_leave 44 = .ok (.iconst 0, 1) := by decide +kernel
theorem dX3_leave_45 : decode cX3_leave 45 = .ok (.istore_n 2, 1) := by decide +kernel
theorem dX3_leave_46 : decode cX3_leave 46 = .ok (.aload_n 0, 1) := by decide +kernel
theorem dX3_leave_47 : decode cX3_leave 47 = .ok (.getfield 10, 3) := by decide +kernel
theorem dX3_leave_50 : decode cX3_leave 50 = .ok (.getfield 97, 3) := by decide +kernel
theorem dX3_leave_53 : decode cX3_leave 53 = .ok (.iload_n 1, 1) := by decide +kernel
theorem dX3_leave_54 : decode cX3_leave 54 = .ok (.invokevirtual 119, 3) := by decide +kernel
theorem dX3_leave_57 : decode cX3_leave 57 = .ok (.iload_n 2, 1) := by decide +kernel
theorem dX3_leave_58 : decode cX3_leave 58 = .ok (.ireturn, 1) := by decide +kernel
set_option maxRecDepth 20000 in
theorem ggX3_about_X0_has : GoodIn wsX3_about wsX0_has := goodIn_r _ [9, 10, 36, 37, 38, 39, 40] (by decide +kernel) (by decide +kernel)
set_option maxRecDepth 20000 in
theorem gX3_about_X0_has : GoodIn wsX3_about (wsV RX3 67 RX0 yX0_has wsX0_has) := goodIn_app (goodIn_of _ (by decide +kernel)) ggX3_about_X0_has
set_option maxRecDepth 20000 in
theorem ggX3_about_X3_isWithin : GoodIn wsX3_about wsX3_isWithin := goodIn_r _ [14] (by decide +kernel) (by decide +kernel)
set_option maxRecDepth 20000 in
theorem gX3_about_X3_isWithin : GoodIn wsX3_about (va_wsS RX3 19 yX3_isWithin wsX3_isWithin) := goodIn_app (goodIn_of _ (by decide +kernel)) ggX3_about_X3_isWithin
set_option maxRecDepth 20000 in
theorem ggX3_about_X0_figure : GoodIn wsX3_about wsX0_figure := goodIn_r _ [18, 19, 20, 21, 22, 23, 24, 25, 8, 26, 36, 37, 38, 39, 40] (by decide +kernel) (by decide +kernel)
set_option maxRecDepth 20000 in
theorem gX3_about_X0_figure : GoodIn wsX3_about (wsV RX3 134 RX0 yX0_figure wsX0_figure) := goodIn_app (goodIn_of _ (by decide +kernel)) ggX3_about_X0_figure
theorem dX3_about_0 : decode cX3_about 0 = .ok (.aload_n 0, 1) := by decide +kernel
theorem dX3_about_1 : decode cX3_about 1 = .ok (.getfield 10, 3) := by decide +kernel
theorem dX3_about_4 : decode cX3_about 4 = .ok (.getfield 35, 3) := by decide +kernel
theorem dX3_about_7 : decode cX3_about 7 = .ok (.iload_n 1, 1) := by decide +kernel
theorem dX3_about_8 : decode cX3_about 8 = .ok (.invokevirtual 67, 3) := by decide +kernel
theorem dX3_about_11 : decode cX3_about 11 = .ok (.ifCond .ne 13, 3) := by decide +kernel
theorem dX3_about_14 : decode cX3_about 14 = .ok (.new 23, 3) := by decide +kernel
theorem dX3_about_17 : decode cX3_about 17 = .ok (.dup, 1) := by decide +kernel
theorem dX3_about_18 : decode cX3_about 18 = .ok (.ldc 71, 2) := by decide +kernel
theorem dX3_about_20 : decode cX3_about 20 = .ok (.invokespecial 27, 3) := by decide +kernel
theorem dX3_about_23 : decode cX3_about 23 = .ok (.athrow, 1) := by decide +kernel
theorem dX3_about_24 : decode cX3_about 24 = .ok (.iload_n 2, 1) := by decide +kernel
theorem dX3_about_25 : decode cX3_about 25 = .ok (.iconst 0, 1) := by decide +kernel
theorem dX3_about_26 : decode cX3_about 26 = .ok (.iconst 4, 1) := by decide +kernel
theorem dX3_about_27 : decode cX3_about 27 = .ok (.invokestatic 19, 3) := by decide +kernel
theorem dX3_about_30 : decode cX3_about 30 = .ok (.ifCond .ne 13, 3) := by decide +kernel
theorem dX3_about_33 : decode cX3_about 33 = .ok (.new 23, 3) := by decide +kernel
theorem dX3_about_36 : decode cX3_about 36 = .ok (.dup, 1) := by decide +kernel
theorem dX3_about_37 : decode cX3_about 37 = .ok (.ldc 132, 2) := by decide +kernel
theorem dX3_about_39 : decode cX3_about 39 = .ok (.invokespecial 27, 3) := by decide +kernel
theorem dX3_about_42 : decode cX3_about 42 = .ok (.athrow, 1) := by decide +kernel
theorem dX3_about_43 : decode cX3_about 43 = .ok (.aload_n 0, 1) := by decide +kernel
theorem dX3_about_44 : decode cX3_about 44 = .ok (.getfield 10, 3) := by decide +kernel
theorem dX3_about_47 : decode cX3_about 47 = .ok (.getfield 35, 3) := by decide +kernel
theorem dX3_about_50 : decode cX3_about 50 = .ok (.iload_n 1, 1) := by decide +kernel
theorem dX3_about_51 : decode cX3_about 51 = .ok (.iload_n 2, 1) := by decide +kernel
theorem dX3_about_52 : decode cX3_about 52 = .ok (.invokevirtual 134, 3) := by decide +kernel
theorem dX3_about_55 : decode cX3_about 55 = .ok (.ireturn, 1) := by decide +kernel
set_option maxRecDepth 20000 in
theorem ggX3_told_X1_has : GoodIn wsX3_told wsX1_has := goodIn_r _ [9, 10, 35, 36, 37, 38, 39, 40, 41, 42, 43] (by decide +kernel) (by decide +kernel)
set_option maxRecDepth 20000 in
theorem gX3_told_X1_has : GoodIn wsX3_told (wsV RX3 107 RX1 yX1_has wsX1_has) := goodIn_app (goodIn_of _ (by decide +kernel)) ggX3_told_X1_has
set_option maxRecDepth 20000 in
theorem ggX3_told_X3_isWithin : GoodIn wsX3_told wsX3_isWithin := goodIn_r _ [14] (by decide +kernel) (by decide +kernel)
set_option maxRecDepth 20000 in
theorem gX3_told_X3_isWithin : GoodIn wsX3_told (va_wsS RX3 19 yX3_isWithin wsX3_isWithin) := goodIn_app (goodIn_of _ (by decide +kernel)) ggX3_told_X3_isWithin
set_option maxRecDepth 20000 in
theorem ggX3_told_X1_figure : GoodIn wsX3_told wsX1_figure := goodIn_r _ [18, 19, 20, 21, 22, 23, 24, 25, 35, 36, 37, 38, 39, 40, 41, 42, 43] (by decide +kernel) (by decide +kernel)
set_option maxRecDepth 20000 in
theorem gX3_told_X1_figure : GoodIn wsX3_told (wsV RX3 139 RX1 yX1_figure wsX1_figure) := goodIn_app (goodIn_of _ (by decide +kernel)) ggX3_told_X1_figure
theorem dX3_told_0 : decode cX3_told 0 = .ok (.aload_n 0, 1) := by decide +kernel
theorem dX3_told_1 : decode cX3_told 1 = .ok (.getfield 10, 3) := by decide +kernel
theorem dX3_told_4 : decode cX3_told 4 = .ok (.getfield 97, 3) := by decide +kernel
theorem dX3_told_7 : decode cX3_told 7 = .ok (.iload_n 1, 1) := by decide +kernel
theorem dX3_told_8 : decode cX3_told 8 = .ok (.invokevirtual 107, 3) := by decide +kernel
theorem dX3_told_11 : decode cX3_told 11 = .ok (.ifCond .ne 13, 3) := by decide +kernel
theorem dX3_told_14 : decode cX3_told 14 = .ok (.new 23, 3) := by decide +kernel
theorem dX3_told_17 : decode cX3_told 17 = .ok (.dup, 1) := by decide +kernel
theorem dX3_told_18 : decode cX3_told 18 = .ok (.ldc 108, 2) := by decide +kernel
theorem dX3_told_20 : decode cX3_told 20 = .ok (.invokespecial 27, 3) := by decide +kernel
theorem dX3_told_23 : decode cX3_told 23 = .ok (.athrow, 1) := by decide +kernel
theorem dX3_told_24 : decode cX3_told 24 = .ok (.iload_n 2, 1) := by decide +kernel
theorem dX3_told_25 : decode cX3_told 25 = .ok (.iconst 0, 1) := by decide +kernel
theorem dX3_told_26 : decode cX3_told 26 = .ok (.bipush 6, 2) := by decide +kernel
theorem dX3_told_28 : decode cX3_told 28 = .ok (.invokestatic 19, 3) := by decide +kernel
theorem dX3_told_31 : decode cX3_told 31 = .ok (.ifCond .ne 13, 3) := by decide +kernel
theorem dX3_told_34 : decode cX3_told 34 = .ok (.new 23, 3) := by decide +kernel
theorem dX3_told_37 : decode cX3_told 37 = .ok (.dup, 1) := by decide +kernel
theorem dX3_told_38 : decode cX3_told 38 = .ok (.ldc 137, 2) := by decide +kernel
theorem dX3_told_40 : decode cX3_told 40 = .ok (.invokespecial 27, 3) := by decide +kernel
theorem dX3_told_43 : decode cX3_told 43 = .ok (.athrow, 1) := by decide +kernel
theorem dX3_told_44 : decode cX3_told 44 = .ok (.aload_n 0, 1) := by decide +kernel
theorem dX3_told_45 : decode cX3_told 45 = .ok (.getfield 10, 3) := by decide +kernel
theorem dX3_told_48 : decode cX3_told 48 = .ok (.getfield 97, 3) := by decide +kernel
theorem dX3_told_51 : decode cX3_told 51 = .ok (.iload_n 1, 1) := by decide +kernel
theorem dX3_told_52 : decode cX3_told 52 = .ok (.iload_n 2, 1) := by decide +kernel
theorem dX3_told_53 : decode cX3_told 53 = .ok (.invokevirtual 139, 3) := by decide +kernel
theorem dX3_told_56 : decode cX3_told 56 = .ok (.ireturn, 1) := by decide +kernel
set_option maxRecDepth 20000 in
theorem ggX3_tow_X3_isWithin : GoodIn wsX3_tow wsX3_isWithin := goodIn_r _ [7] (by decide +kernel) (by decide +kernel)
set_option maxRecDepth 20000 in
theorem gX3_tow_X3_isWithin : GoodIn wsX3_tow (va_wsS RX3 19 yX3_isWithin wsX3_isWithin) := goodIn_app (goodIn_of _ (by decide +kernel)) ggX3_tow_X3_isWithin
set_option maxRecDepth 20000 in
theorem ggX3_tow_X2_towFigure : GoodIn wsX3_tow wsX2_towFigure := goodIn_r _ [12, 13, 14, 15, 16, 17, 18, 19, 20, 21, 22, 25, 26, 27, 28, 29, 30, 31, 32, 33, 34, 35, 36, 37, 38, 39, 40] (by decide +kernel) (by decide +kernel)
set_option maxRecDepth 20000 in
theorem gX3_tow_X2_towFigure : GoodIn wsX3_tow (wsV RX3 142 RX2 yX2_towFigure wsX2_towFigure) := goodIn_app (goodIn_of _ (by decide +kernel)) ggX3_tow_X2_towFigure
theorem dX3_tow_0 : decode cX3_tow 0 = .ok (.iload_n 1, 1) := by decide +kernel
theorem dX3_tow_1 : decode cX3_tow 1 = .ok (.iconst 0, 1) := by decide +kernel
theorem dX3_tow_2 : decode cX3_tow 2 = .ok (.iconst 2, 1) := by decide +kernel
theorem dX3_tow_3 : decode cX3_tow 3 = .ok (.invokestatic 19, 3) := by decide +kernel
theorem dX3_tow_6 : decode cX3_tow 6 = .ok (.ifCond .ne 13, 3) := by decide +kernel
theorem dX3_tow_9 : decode cX3_tow 9 = .ok (.new 23, 3) := by decide +kernel
theorem dX3_tow_12 : decode cX3_tow 12 = .ok (.dup, 1) := by decide +kernel
theorem dX3_tow_13 : decode cX3_tow 13 = .ok (.ldc 25, 2) := by decide +kernel
theorem dX3_tow_15 : decode cX3_tow 15 = .ok (.invokespecial 27, 3) := by decide +kernel
theorem dX3_tow_18 : decode cX3_tow 18 = .ok (.athrow, 1) := by decide +kernel
theorem dX3_tow_19 : decode cX3_tow 19 = .ok (.iload_n 2, 1) := by decide +kernel
theorem dX3_tow_20 : decode cX3_tow 20 = .ok (.iconst 0, 1) := by decide +kernel
theorem dX3_tow_21 : decode cX3_tow 21 = .ok (.iconst 2, 1) := by decide +kernel
theorem dX3_tow_22 : decode cX3_tow 22 = .ok (.invokestatic 19, 3) := by decide +kernel
theorem dX3_tow_25 : decode cX3_tow 25 = .ok (.ifCond .ne 13, 3) := by decide +kernel
theorem dX3_tow_28 : decode cX3_tow 28 = .ok (.new 23, 3) := by decide +kernel
theorem dX3_tow_31 : decode cX3_tow 31 = .ok (.dup, 1) := by decide +kernel
theorem dX3_tow_32 : decode cX3_tow 32 = .ok (.ldc 140, 2) := by decide +kernel
theorem dX3_tow_34 : decode cX3_tow 34 = .ok (.invokespecial 27, 3) := by decide +kernel
theorem dX3_tow_37 : decode cX3_tow 37 = .ok (.athrow, 1) := by decide +kernel
theorem dX3_tow_38 : decode cX3_tow 38 = .ok (.aload_n 0, 1) := by decide +kernel
theorem dX3_tow_39 : decode cX3_tow 39 = .ok (.getfield 10, 3) := by decide +kernel
theorem dX3_tow_42 : decode cX3_tow 42 = .ok (.iload_n 1, 1) := by decide +kernel
theorem dX3_tow_43 : decode cX3_tow 43 = .ok (.iload_n 2, 1) := by decide +kernel
theorem dX3_tow_44 : decode cX3_tow 44 = .ok (.invokevirtual 142, 3) := by decide +kernel
theorem dX3_tow_47 : decode cX3_tow 47 = .ok (.ireturn, 1) := by decide +kernel
set_option maxRecDepth 20000 in
theorem ggX3_stands_X3_isWithin : GoodIn wsX3_stands wsX3_isWithin := goodIn_r _ [8] (by decide +kernel) (by decide +kernel)
set_option maxRecDepth 20000 in
theorem gX3_stands_X3_isWithin : GoodIn wsX3_stands (va_wsS RX3 19 yX3_isWithin wsX3_isWithin) := goodIn_app (goodIn_of _ (by decide +kernel)) ggX3_stands_X3_isWithin
set_option maxRecDepth 20000 in
theorem ggX3_stands_X1_at : GoodIn wsX3_stands wsX1_at := goodIn_r _ [13, 14, 15, 16, 26, 27, 28, 29, 30, 31, 32, 33, 34] (by decide +kernel) (by decide +kernel)
set_option maxRecDepth 20000 in
theorem gX3_stands_X1_at : GoodIn wsX3_stands (wsV RX3 145 RX1 yX1_at wsX1_at) := goodIn_app (goodIn_of _ (by decide +kernel)) ggX3_stands_X1_at
theorem dX3_stands_0 : decode cX3_stands 0 = .ok (.iload_n 1, 1) := by decide +kernel
theorem dX3_stands_1 : decode cX3_stands 1 = .ok (.iconst 0, 1) := by decide +kernel
theorem dX3_stands_2 : decode cX3_stands 2 = .ok (.iconst 2, 1) := by decide +kernel
theorem dX3_stands_3 : decode cX3_stands 3 = .ok (.invokestatic 19, 3) := by decide +kernel
theorem dX3_stands_6 : decode cX3_stands 6 = .ok (.ifCond .ne 13, 3) := by decide +kernel
theorem dX3_stands_9 : decode cX3_stands 9 = .ok (.new 23, 3) := by decide +kernel
theorem dX3_stands_12 : decode cX3_stands 12 = .ok (.dup, 1) := by decide +kernel
theorem dX3_stands_13 : decode cX3_stands 13 = .ok (.ldc 25, 2) := by decide +kernel
theorem dX3_stands_15 : decode cX3_stands 15 = .ok (.invokespecial 27, 3) := by decide +kernel
theorem dX3_stands_18 : decode cX3_stands 18 = .ok (.athrow, 1) := by decide +kernel
theorem dX3_stands_19 : decode cX3_stands 19 = .ok (.aload_n 0, 1) := by decide +kernel
theorem dX3_stands_20 : decode cX3_stands 20 = .ok (.getfield 10, 3) := by decide +kernel
theorem dX3_stands_23 : decode cX3_stands 23 = .ok (.getfield 97, 3) := by decide +kernel
theorem dX3_stands_26 : decode cX3_stands 26 = .ok (.iload_n 1, 1) := by decide +kernel
theorem dX3_stands_27 : decode cX3_stands 27 = .ok (.iload_n 2, 1) := by decide +kernel
theorem dX3_stands_28 : decode cX3_stands 28 = .ok (.invokevirtual 145, 3) := by decide +kernel
theorem dX3_stands_31 : decode cX3_stands 31 = .ok (.istore_n 3, 1) := by decide +kernel
theorem dX3_stands_32 : decode cX3_stands 32 = .ok (.iload_n 3, 1) := by decide +kernel
theorem dX3_stands_33 : decode cX3_stands 33 = .ok (.iconst (-1), 1) := by decide +kernel
theorem dX3_stands_34 : decode cX3_stands 34 = .ok (.if_icmp .ne 13, 3) := by decide +kernel
theorem dX3_stands_37 : decode cX3_stands 37 = .ok (.new 23, 3) := by decide +kernel
theorem dX3_stands_40 : decode cX3_stands 40 = .ok (.dup, 1) := by decide +kernel
theorem dX3_stands_41 : decode cX3_stands 41 = .ok (.ldc 148, 2) := by decide +kernel
theorem dX3_stands_43 : decode cX3_stands 43 = .ok (.invokespecial 27, 3) := by decide +kernel
theorem dX3_stands_46 : decode cX3_stands 46 = .ok (.athrow, 1) := by decide +kernel
theorem dX3_stands_47 : decode cX3_stands 47 = .ok (.iload_n 3, 1) := by decide +kernel
theorem dX3_stands_48 : decode cX3_stands 48 = .ok (.ireturn, 1) := by decide +kernel
set_option maxRecDepth 20000 in
theorem ggX3_count_X3_isWithin : GoodIn wsX3_count wsX3_isWithin := goodIn_r _ [7] (by decide +kernel) (by decide +kernel)
set_option maxRecDepth 20000 in
theorem gX3_count_X3_isWithin : GoodIn wsX3_count (va_wsS RX3 19 yX3_isWithin wsX3_isWithin) := goodIn_app (goodIn_of _ (by decide +kernel)) ggX3_count_X3_isWithin
set_option maxRecDepth 20000 in
theorem ggX3_count_X2_figure : GoodIn wsX3_count wsX2_figure := goodIn_r _ [12, 13, 14, 15, 16, 17, 18, 19, 20, 21, 11, 22, 23, 24, 25, 26, 27, 28, 29, 30, 31, 32, 33, 34, 35, 36, 37, 38, 39, 40, 41, 42, 43, 44, 45, 46, 47, 48, 49, 50, 51, 52, 53, 54, 55, 56, 59, 60, 61, 62, 63, 64, 65, 66, 67, 68, 69, 70, 71, 72, 73, 74, 75, 76, 77, 78, 79] (by decide +kernel) (by decide +kernel)
set_option maxRecDepth 20000 in
theorem gX3_count_X2_figure : GoodIn wsX3_count (wsV RX3 155 RX2 yX2_figure wsX2_figure) := goodIn_app (goodIn_of _ (by decide +kernel)) ggX3_count_X2_figure
theorem dX3_count_0 : decode cX3_count 0 = .ok (.iload_n 1, 1) := by decide +kernel
theorem dX3_count_1 : decode cX3_count 1 = .ok (.iconst 0, 1) := by decide +kernel
theorem dX3_count_2 : decode cX3_count 2 = .ok (.bipush 8, 2) := by decide +kernel
theorem dX3_count_4 : decode cX3_count 4 = .ok (.invokestatic 19, 3) := by decide +kernel
theorem dX3_count_7 : decode cX3_count 7 = .ok (.ifCond .ne 13, 3) := by decide +kernel
theorem dX3_count_10 : decode cX3_count 10 = .ok (.new 23, 3) := by decide +kernel
theorem dX3_count_13 : decode cX3_count 13 = .ok (.dup, 1) := by decide +kernel
theorem dX3_count_14 : decode cX3_count 14 = .ok (.ldc 153, 2) := by decide +kernel
theorem dX3_count_16 : decode cX3_count 16 = .ok (.invokespecial 27, 3) := by decide +kernel
theorem dX3_count_19 : decode cX3_count 19 = .ok (.athrow, 1) := by decide +kernel
theorem dX3_count_20 : decode cX3_count 20 = .ok (.aload_n 0, 1) := by decide +kernel
theorem dX3_count_21 : decode cX3_count 21 = .ok (.getfield 10, 3) := by decide +kernel
theorem dX3_count_24 : decode cX3_count 24 = .ok (.iload_n 1, 1) := by decide +kernel
theorem dX3_count_25 : decode cX3_count 25 = .ok (.invokevirtual 155, 3) := by decide +kernel
theorem dX3_count_28 : decode cX3_count 28 = .ok (.ireturn, 1) := by decide +kernel
set_option maxRecDepth 20000 in
theorem ggX3_pass_X3_isWithin : GoodIn wsX3_pass wsX3_isWithin := goodIn_r _ [7] (by decide +kernel) (by decide +kernel)
set_option maxRecDepth 20000 in
theorem gX3_pass_X3_isWithin : GoodIn wsX3_pass (va_wsS RX3 19 yX3_isWithin wsX3_isWithin) := goodIn_app (goodIn_of _ (by decide +kernel)) ggX3_pass_X3_isWithin
set_option maxRecDepth 20000 in
theorem ggX3_pass_X2_letHoursGo : GoodIn wsX3_pass wsX2_letHoursGo := goodIn_r _ [12, 13, 14, 15, 16, 17, 11, 18, 19, 20, 21, 22, 23, 24, 6, 25, 26, 27, 28, 29, 30, 31, 32, 33, 34, 35, 36, 37, 38, 39, 40, 41, 42, 43, 44, 45, 46, 47, 48, 49, 50, 51, 52, 53, 54, 55, 56, 57, 58, 59, 60, 61, 62, 63, 64, 65, 66, 67, 68, 69, 70, 71, 72, 73, 74, 75, 76, 77, 78, 79, 80, 81, 82, 83, 84, 85, 86, 87, 88, 89, 90, 91, 92, 93, 94, 95, 96, 97, 98, 99, 100, 101, 102, 103, 104, 105, 106, 107, 108, 109, 110, 111, 112, 113, 114, 115, 116, 117, 118, 119, 120, 123, 124, 125, 126, 127, 128, 129, 130, 131, 132, 133, 134, 135, 136, 137, 138, 139, 140, 141, 142, 143] (by decide +kernel) (by decide +kernel)
set_option maxRecDepth 20000 in
theorem gX3_pass_X2_letHoursGo : GoodIn wsX3_pass (wsV RX3 160 RX2 yX2_letHoursGo wsX2_letHoursGo) := goodIn_app (goodIn_of _ (by decide +kernel)) ggX3_pass_X2_letHoursGo
theorem dX3_pass_0 : decode cX3_pass 0 = .ok (.iload_n 1, 1) := by decide +kernel
theorem dX3_pass_1 : decode cX3_pass 1 = .ok (.iconst 1, 1) := by decide +kernel
theorem dX3_pass_2 : decode cX3_pass 2 = .ok (.bipush 60, 2) := by decide +kernel
theorem dX3_pass_4 : decode cX3_pass 4 = .ok (.invokestatic 19, 3) := by decide +kernel
theorem dX3_pass_7 : decode cX3_pass 7 = .ok (.ifCond .ne 13, 3) := by decide +kernel
theorem dX3_pass_10 : decode cX3_pass 10 = .ok (.new 30, 3) := by decide +kernel
theorem dX3_pass_13 : decode cX3_pass 13 = .ok (.dup, 1) := by decide +kernel
theorem dX3_pass_14 : decode cX3_pass 14 = .ok (.ldc 158, 2) := by decide +kernel
theorem dX3_pass_16 : decode cX3_pass 16 = .ok (.invokespecial 34, 3) := by decide +kernel
theorem dX3_pass_19 : decode cX3_pass 19 = .ok (.athrow, 1) := by decide +kernel
theorem dX3_pass_20 : decode cX3_pass 20 = .ok (.aload_n 0, 1) := by decide +kernel
theorem dX3_pass_21 : decode cX3_pass 21 = .ok (.getfield 10, 3) := by decide +kernel
theorem dX3_pass_24 : decode cX3_pass 24 = .ok (.iload_n 1, 1) := by decide +kernel
theorem dX3_pass_25 : decode cX3_pass 25 = .ok (.invokevirtual 160, 3) := by decide +kernel
theorem dX3_pass_28 : decode cX3_pass 28 = .ok (.ireturn, 1) := by decide +kernel
set_option maxRecDepth 20000 in
theorem ggX3_until_X1_has : GoodIn wsX3_until wsX1_has := goodIn_r _ [11, 12, 153, 154, 155, 156, 157, 158, 159, 160, 161] (by decide +kernel) (by decide +kernel)
set_option maxRecDepth 20000 in
theorem gX3_until_X1_has : GoodIn wsX3_until (wsV RX3 107 RX1 yX1_has wsX1_has) := goodIn_app (goodIn_of _ (by decide +kernel)) ggX3_until_X1_has
set_option maxRecDepth 20000 in
theorem ggX3_until_X2_copyFrom : GoodIn wsX3_until wsX2_copyFrom := goodIn_r _ [17, 18, 19, 20, 21, 22, 23, 24, 25, 26, 27, 28, 29, 30, 31, 32, 33, 34, 35, 36, 37, 38, 39, 40, 41, 42, 43, 44, 45, 46, 47, 48, 10, 49, 12, 50, 51, 52, 53, 54, 55, 56, 57, 146, 147, 148, 149, 150, 151, 152, 162, 163, 164, 165, 166, 153, 154, 155, 156, 157, 158, 159, 160, 161] (by decide +kernel) (by decide +kernel)
set_option maxRecDepth 20000 in
theorem gX3_until_X2_copyFrom : GoodIn wsX3_until (wsV RX3 163 RX2 yX2_copyFrom wsX2_copyFrom) := goodIn_app (goodIn_of _ (by decide +kernel)) ggX3_until_X2_copyFrom
set_option maxRecDepth 20000 in
theorem ggX3_until_X2_letHoursGo : GoodIn wsX3_until wsX2_letHoursGo := goodIn_r _ [61, 23, 18, 62, 63, 64, 16, 65, 20, 66, 67, 68, 69, 70, 26, 71, 72, 73, 74, 39, 75, 41, 76, 77, 78, 79, 44, 80, 81, 28, 29, 30, 31, 82, 83, 84, 85, 86, 87, 88, 24, 21, 89, 19, 90, 22, 91, 92, 93, 10, 94, 12, 56, 95, 96, 97, 98, 57, 99, 8, 9, 11, 100, 101, 102, 103, 104, 105, 106, 107, 108, 109, 110, 111, 112, 113, 114, 115, 116, 117, 118, 42, 43, 119, 120, 121, 122, 123, 124, 125, 126, 127, 128, 129, 130, 53, 52, 131, 132, 133, 134, 135, 136, 137, 54, 138, 139, 140, 141, 142, 143, 146, 147, 148, 149, 150, 151, 152, 162, 163, 164, 165, 166, 153, 154, 155, 156, 157, 158, 159, 160, 161] (by decide +kernel) (by decide +kernel)
set_option maxRecDepth 20000 in
theorem gX3_until_X2_letHoursGo : GoodIn wsX3_until (wsV RX3 160 RX2 yX2_letHoursGo wsX2_letHoursGo) := goodIn_app (goodIn_of _ (by decide +kernel)) ggX3_until_X2_letHoursGo
theorem dX3_until_0 : decode cX3_until 0 = .ok (.aload_n 0, 1) := by decide +kernel
theorem dX3_until_1 : decode cX3_until 1 = .ok (.getfield 10, 3) := by decide +kernel
theorem dX3_until_4 : decode cX3_until 4 = .ok (.getfield 97, 3) := by decide +kernel
theorem dX3_until_7 : decode cX3_until 7 = .ok (.iload_n 1, 1) := by decide +kernel
theorem dX3_until_8 : decode cX3_until 8 = .ok (.invokevirtual 107, 3) := by decide +kernel
theorem dX3_until_11 : decode cX3_until 11 = .ok (.ifCond .ne 13, 3) := by decide +kernel
theorem dX3_until_14 : decode cX3_until 14 = .ok (.new 23, 3) := by decide +kernel
theorem dX3_until_17 : decode cX3_until 17 = .ok (.dup, 1) := by decide +kernel
theorem dX3_until_18 : decode cX3_until 18 = .ok (.ldc 108, 2) := by decide +kernel
theorem dX3_until_20 : decode cX3_until 20 = .ok (.invokespecial 27, 3) := by decide +kernel
theorem dX3_until_23 : decode cX3_until 23 = .ok (.athrow, 1) := by decide +kernel
theorem dX3_until_24 : decode cX3_until 24 = .ok (.aload_n 0, 1) := by decide +kernel
theorem dX3_until_25 : decode cX3_until 25 = .ok (.getfield 16, 3) := by decide +kernel
theorem dX3_until_28 : decode cX3_until 28 = .ok (.aload_n 0, 1) := by decide +kernel
theorem dX3_until_29 : decode cX3_until 29 = .ok (.getfield 10, 3) := by decide +kernel
theorem dX3_until_32 : decode cX3_until 32 = .ok (.invokevirtual 163, 3) := by decide +kernel
theorem dX3_until_35 : decode cX3_until 35 = .ok (.aload_n 0, 1) := by decide +kernel
theorem dX3_until_36 : decode cX3_until 36 = .ok (.getfield 10, 3) := by decide +kernel
theorem dX3_until_39 : decode cX3_until 39 = .ok (.getfield 97, 3) := by decide +kernel
theorem dX3_until_42 : decode cX3_until 42 = .ok (.getfield 167, 3) := by decide +kernel
theorem dX3_until_45 : decode cX3_until 45 = .ok (.iload_n 1, 1) := by decide +kernel
theorem dX3_until_46 : decode cX3_until 46 = .ok (.iaload, 1) := by decide +kernel
theorem dX3_until_47 : decode cX3_until 47 = .ok (.istore_n 2, 1) := by decide +kernel
theorem dX3_until_48 : decode cX3_until 48 = .ok (.iconst 1, 1) := by decide +kernel
theorem dX3_until_49 : decode cX3_until 49 = .ok (.istore_n 3, 1) := by decide +kernel
theorem dX3_until_50 : decode cX3_until 50 = .ok (.iload_n 3, 1) := by decide +kernel
theorem dX3_until_51 : decode cX3_until 51 = .ok (.bipush 90, 2) := by decide +kernel
theorem dX3_until_53 : decode cX3_until 53 = .ok (.if_icmp .gt 36, 3) := by decide +kernel
theorem dX3_until_56 : decode cX3_until 56 = .ok (.aload_n 0, 1) := by decide +kernel
theorem dX3_until_57 : decode cX3_until 57 = .ok (.getfield 16, 3) := by decide +kernel
theorem dX3_until_60 : decode cX3_until 60 = .ok (.iconst 1, 1) := by decide +kernel
theorem dX3_until_61 : decode cX3_until 61 = .ok (.invokevirtual 160, 3) := by decide +kernel
theorem dX3_until_64 : decode cX3_until 64 = .ok (.pop, 1) := by decide +kernel
theorem dX3_until_65 : decode cX3_until 65 = .ok (.aload_n 0, 1) := by decide +kernel
theorem dX3_until_66 : decode cX3_until 66 = .ok (.getfield 16, 3) := by decide +kernel
theorem dX3_until_69 : decode cX3_until 69 = .ok (.getfield 97, 3) := by decide +kernel
theorem dX3_until_72 : decode cX3_until 72 = .ok (.getfield 167, 3) := by decide +kernel
theorem dX3_until_75 : decode cX3_until 75 = .ok (.iload_n 1, 1) := by decide +kernel
theorem dX3_until_76 : decode cX3_until 76 = .ok (.iaload, 1) := by decide +kernel
theorem dX3_until_77 : decode cX3_until 77 = .ok (.iload_n 2, 1) := by decide +kernel
theorem dX3_until_78 : decode cX3_until 78 = .ok (.if_icmp .le 5, 3) := by decide +kernel
theorem dX3_until_81 : decode cX3_until 81 = .ok (.iload_n 3, 1) := by decide +kernel
theorem dX3_until_82 : decode cX3_until 82 = .ok (.ireturn, 1) := by decide +kernel
theorem dX3_until_83 : decode cX3_until 83 = .ok (.iinc 3 1, 3) := by decide +kernel
theorem dX3_until_86 : decode cX3_until 86 = .ok (.goto (-36), 3) := by decide +kernel
theorem dX3_until_89 : decode cX3_until 89 = .ok (.iconst (-1), 1) := by decide +kernel
theorem dX3_until_90 : decode cX3_until 90 = .ok (.ireturn, 1) := by decide +kernel
set_option maxRecDepth 20000 in
theorem ggX3_foresee_X3_isWithin : GoodIn wsX3_foresee wsX3_isWithin := goodIn_r _ [10] (by decide +kernel) (by decide +kernel)
set_option maxRecDepth 20000 in
theorem gX3_foresee_X3_isWithin : GoodIn wsX3_foresee (va_wsS RX3 19 yX3_isWithin wsX3_isWithin) := goodIn_app (goodIn_of _ (by decide +kernel)) ggX3_foresee_X3_isWithin
set_option maxRecDepth 20000 in
theorem ggX3_foresee_X2_copyFrom : GoodIn wsX3_foresee wsX2_copyFrom := goodIn_r _ [15, 16, 17, 18, 19, 20, 21, 22, 23, 9, 24, 25, 26, 27, 28, 29, 30, 31, 32, 33, 34, 35, 36, 37, 38, 39, 40, 41, 42, 43, 44, 45, 46, 47, 48, 49, 50, 51, 52, 53, 54, 55, 56, 170, 171, 172, 173, 174, 175, 176, 177, 178, 179, 180, 181, 182, 183, 184, 185, 186, 187, 188, 189, 190] (by decide +kernel) (by decide +kernel)
set_option maxRecDepth 20000 in
theorem gX3_foresee_X2_copyFrom : GoodIn wsX3_foresee (wsV RX3 163 RX2 yX2_copyFrom wsX2_copyFrom) := goodIn_app (goodIn_of _ (by decide +kernel)) ggX3_foresee_X2_copyFrom
set_option maxRecDepth 20000 in
theorem ggX3_foresee_X2_letHoursGo : GoodIn wsX3_foresee wsX2_letHoursGo := goodIn_r _ [60, 21, 16, 61, 62, 63, 14, 64, 18, 65, 66, 67, 68, 69, 9, 70, 71, 72, 73, 36, 74, 38, 75, 76, 77, 78, 41, 79, 80, 25, 26, 27, 28, 81, 82, 83, 84, 85, 86, 87, 22, 19, 88, 17, 89, 20, 90, 91, 92, 46, 93, 48, 55, 94, 95, 96, 97, 56, 98, 99, 100, 101, 102, 103, 104, 105, 106, 107, 108, 109, 110, 111, 112, 113, 114, 115, 116, 117, 118, 119, 120, 39, 40, 121, 122, 123, 124, 125, 126, 127, 128, 129, 130, 131, 132, 52, 51, 133, 134, 135, 136, 137, 138, 139, 53, 140, 141, 142, 143, 144, 145, 170, 171, 172, 173, 174, 175, 176, 177, 178, 179, 180, 181, 182, 183, 184, 185, 186, 187, 188, 189, 190] (by decide +kernel) (by decide +kernel)
set_option maxRecDepth 20000 in
theorem gX3_foresee_X2_letHoursGo : GoodIn wsX3_foresee (wsV RX3 160 RX2 yX2_letHoursGo wsX2_letHoursGo) := goodIn_app (goodIn_of _ (by decide +kernel)) ggX3_foresee_X2_letHoursGo
set_option maxRecDepth 20000 in
theorem ggX3_foresee_X2_figure : GoodIn wsX3_foresee wsX2_figure := goodIn_r _ [149, 16, 17, 21, 150, 22, 151, 61, 62, 63, 14, 64, 18, 65, 66, 67, 68, 152, 153, 154, 36, 155, 38, 121, 122, 123, 124, 41, 40, 156, 157, 158, 159, 20, 160, 161, 162, 46, 163, 48, 55, 164, 165, 166, 167, 53, 170, 171, 172, 173, 174, 175, 176, 177, 178, 179, 180, 181, 182, 183, 184, 185, 186, 187, 188, 189, 190] (by decide +kernel) (by decide +kernel)
set_option maxRecDepth 20000 in
theorem gX3_foresee_X2_figure : GoodIn wsX3_foresee (wsV RX3 155 RX2 yX2_figure wsX2_figure) := goodIn_app (goodIn_of _ (by decide +kernel)) ggX3_foresee_X2_figure
theorem dX3_foresee_0 : decode cX3_foresee 0 = .ok (.iload_n 1, 1) := by decide +kernel
theorem dX3_foresee_1 : decode cX3_foresee 1 = .ok (.iconst 1, 1) := by decide +kernel
theorem dX3_foresee_2 : decode cX3_foresee 2 = .ok (.bipush 60, 2) := by decide +kernel
theorem dX3_foresee_4 : decode cX3_foresee 4 = .ok (.invokestatic 19, 3) := by decide +kernel
theorem dX3_foresee_7 : decode cX3_foresee 7 = .ok (.ifCond .ne 13, 3) := by decide +kernel
theorem dX3_foresee_10 : decode cX3_foresee 10 = .ok (.new 30, 3) := by decide +kernel
theorem dX3_foresee_13 : decode cX3_foresee 13 = .ok (.dup, 1) := by decide +kernel
theorem dX3_foresee_14 : decode cX3_foresee 14 = .ok (.ldc 158, 2) := by decide +kernel
theorem dX3_foresee_16 : decode cX3_foresee 16 = .ok (.invokespecial 34, 3) := by decide +kernel
theorem dX3_foresee_19 : decode cX3_foresee 19 = .ok (.athrow, 1) := by decide +kernel
theorem dX3_foresee_20 : decode cX3_foresee 20 = .ok (.iload_n 2, 1) := by decide +kernel
theorem dX3_foresee_21 : decode cX3_foresee 21 = .ok (.iconst 0, 1) := by decide +kernel
theorem dX3_foresee_22 : decode cX3_foresee 22 = .ok (.bipush 8, 2) := by decide +kernel
theorem dX3_foresee_24 : decode cX3_foresee 24 = .ok (.invokestatic 19, 3) := by decide +kernel
theorem dX3_foresee_27 : decode cX3_foresee 27 = .ok (.ifCond .ne 13, 3) := by decide +kernel
theorem dX3_foresee_30 : decode cX3_foresee 30 = .ok (.new 23, 3) := by decide +kernel
theorem dX3_foresee_33 : decode cX3_foresee 33 = .ok (.dup, 1) := by decide +kernel
theorem dX3_foresee_34 : decode cX3_foresee 34 = .ok (.ldc 153, 2) := by decide +kernel
theorem dX3_foresee_36 : decode cX3_foresee 36 = .ok (.invokespecial 27, 3) := by decide +kernel
theorem dX3_foresee_39 : decode cX3_foresee 39 = .ok (.athrow, 1) := by decide +kernel
theorem dX3_foresee_40 : decode cX3_foresee 40 = .ok (.aload_n 0, 1) := by decide +kernel
theorem dX3_foresee_41 : decode cX3_foresee 41 = .ok (.getfield 16, 3) := by decide +kernel
theorem dX3_foresee_44 : decode cX3_foresee 44 = .ok (.aload_n 0, 1) := by decide +kernel
theorem dX3_foresee_45 : decode cX3_foresee 45 = .ok (.getfield 10, 3) := by decide +kernel
theorem dX3_foresee_48 : decode cX3_foresee 48 = .ok (.invokevirtual 163, 3) := by decide +kernel
theorem dX3_foresee_51 : decode cX3_foresee 51 = .ok (.aload_n 0, 1) := by decide +kernel
theorem dX3_foresee_52 : decode cX3_foresee 52 = .ok (.getfield 16, 3) := by decide +kernel
theorem dX3_foresee_55 : decode cX3_foresee 55 = .ok (.iload_n 1, 1) := by decide +kernel
theorem dX3_foresee_56 : decode cX3_foresee 56 = .ok (.invokevirtual 160, 3) := by decide +kernel
theorem dX3_foresee_59 : decode cX3_foresee 59 = .ok (.pop, 1) := by decide +kernel
theorem dX3_foresee_60 : decode cX3_foresee 60 = .ok (.aload_n 0, 1) := by decide +kernel
theorem dX3_foresee_61 : decode cX3_foresee 61 = .ok (.getfield 16, 3) := by decide +kernel
theorem dX3_foresee_64 : decode cX3_foresee 64 = .ok (.iload_n 2, 1) := by decide +kernel
theorem dX3_foresee_65 : decode cX3_foresee 65 = .ok (.invokevirtual 155, 3) := by decide +kernel
theorem dX3_foresee_68 : decode cX3_foresee 68 = .ok (.ireturn, 1) := by decide +kernel
set_option maxRecDepth 20000 in
theorem ggX3_mean_X1_allPoints : GoodIn wsX3_mean wsX1_allPoints := goodIn_r _ [8, 9, 10, 20, 21, 22, 23, 24, 25, 26, 27, 28] (by decide +kernel) (by decide +kernel)
set_option maxRecDepth 20000 in
theorem gX3_mean_X1_allPoints : GoodIn wsX3_mean (wsV RX3 178 RX1 yX1_allPoints wsX1_allPoints) := goodIn_app (goodIn_of _ (by decide +kernel)) ggX3_mean_X1_allPoints
theorem dX3_mean_0 : decode cX3_mean 0 = .ok (.aload_n 0, 1) := by decide +kernel
theorem dX3_mean_1 : decode cX3_mean 1 = .ok (.getfield 10, 3) := by decide +kernel
theorem dX3_mean_4 : decode cX3_mean 4 = .ok (.getfield 97, 3) := by decide +kernel
theorem dX3_mean_7 : decode cX3_mean 7 = .ok (.getfield 175, 3) := by decide +kernel
theorem dX3_mean_10 : decode cX3_mean 10 = .ok (.ifCond .gt 5, 3) := by decide +kernel
theorem dX3_mean_13 : decode cX3_mean 13 = .ok (.dconst 0, 1) := by decide +kernel
theorem dX3_mean_14 : decode cX3_mean 14 = .ok (.dreturn, 1) := by decide +kernel
theorem dX3_mean_15 : decode cX3_mean 15 = .ok (.aload_n 0, 1) := by decide +kernel
theorem dX3_mean_16 : decode cX3_mean 16 = .ok (.getfield 10, 3) := by decide +kernel
theorem dX3_mean_19 : decode cX3_mean 19 = .ok (.getfield 97, 3) := by decide +kernel
theorem dX3_mean_22 : decode cX3_mean 22 = .ok (.invokevirtual 178, 3) := by decide +kernel
theorem dX3_mean_25 : decode cX3_mean 25 = .ok (.i2d, 1) := by decide +kernel
theorem dX3_mean_26 : decode cX3_mean 26 = .ok (.aload_n 0, 1) := by decide +kernel
theorem dX3_mean_27 : decode cX3_mean 27 = .ok (.getfield 10, 3) := by decide +kernel
theorem dX3_mean_30 : decode cX3_mean 30 = .ok (.getfield 97, 3) := by decide +kernel
theorem dX3_mean_33 : decode cX3_mean 33 = .ok (.getfield 175, 3) := by decide +kernel
theorem dX3_mean_36 : decode cX3_mean 36 = .ok (.i2d, 1) := by decide +kernel
theorem dX3_mean_37 : decode cX3_mean 37 = .ok (.ddiv, 1) := by decide +kernel
theorem dX3_mean_38 : decode cX3_mean 38 = .ok (.dreturn, 1) := by decide +kernel
set_option maxRecDepth 20000 in
theorem ggX3_digest_X2_figure : GoodIn wsX3_digest wsX2_figure := goodIn_r _ [12, 13, 14, 15, 16, 17, 18, 19, 20, 21, 11, 22, 23, 24, 25, 26, 27, 28, 29, 30, 31, 32, 33, 34, 35, 36, 37, 38, 39, 40, 41, 42, 43, 44, 45, 46, 47, 48, 49, 50, 51, 52, 53, 54, 55, 56, 94, 95, 96, 97, 98, 99, 100, 101, 102, 103, 104, 105, 106, 107, 108, 109, 110, 111, 112, 113, 114] (by decide +kernel) (by decide +kernel)
set_option maxRecDepth 20000 in
theorem gX3_digest_X2_figure : GoodIn wsX3_digest (wsV RX3 155 RX2 yX2_figure wsX2_figure) := goodIn_app (goodIn_of _ (by decide +kernel)) ggX3_digest_X2_figure
set_option maxRecDepth 20000 in
theorem ggX3_digest_X3_mixed : GoodIn wsX3_digest wsX3_mixed := goodIn_r _ [60, 61] (by decide +kernel) (by decide +kernel)
set_option maxRecDepth 20000 in
theorem gX3_digest_X3_mixed : GoodIn wsX3_digest (va_wsS RX3 184 yX3_mixed wsX3_mixed) := goodIn_app (goodIn_of _ (by decide +kernel)) ggX3_digest_X3_mixed
set_option maxRecDepth 20000 in
theorem ggX3_digest_X0_figure : GoodIn wsX3_digest wsX0_figure := goodIn_r _ [65, 66, 39, 38, 67, 34, 35, 36, 31, 37, 101, 102, 103, 104, 105] (by decide +kernel) (by decide +kernel)
set_option maxRecDepth 20000 in
theorem gX3_digest_X0_figure : GoodIn wsX3_digest (wsV RX3 134 RX0 yX0_figure wsX0_figure) := goodIn_app (goodIn_of _ (by decide +kernel)) ggX3_digest_X0_figure
set_option maxRecDepth 20000 in
theorem ggX3_digest_X1_figure : GoodIn wsX3_digest wsX1_figure := goodIn_r _ [71, 72, 73, 74, 75, 56, 76, 51, 106, 107, 108, 109, 110, 111, 112, 113, 114] (by decide +kernel) (by decide +kernel)
set_option maxRecDepth 20000 in
theorem gX3_digest_X1_figure : GoodIn wsX3_digest (wsV RX3 139 RX1 yX1_figure wsX1_figure) := goodIn_app (goodIn_of _ (by decide +kernel)) ggX3_digest_X1_figure
set_option maxRecDepth 20000 in
theorem ggX3_digest_X2_towFigure : GoodIn wsX3_digest wsX2_towFigure := goodIn_r _ [80, 81, 17, 44, 82, 83, 84, 48, 85, 50, 51, 94, 95, 96, 97, 98, 99, 100, 106, 107, 108, 109, 110, 111, 112, 113, 114] (by decide +kernel) (by decide +kernel)
set_option maxRecDepth 20000 in
theorem gX3_digest_X2_towFigure : GoodIn wsX3_digest (wsV RX3 142 RX2 yX2_towFigure wsX2_towFigure) := goodIn_app (goodIn_of _ (by decide +kernel)) ggX3_digest_X2_towFigure
set_option maxRecDepth 20000 in
theorem ggX3_digest_X1_waitingAt : GoodIn wsX3_digest wsX1_waitingAt := goodIn_r _ [85, 50, 51, 106, 107, 108, 109, 110, 111, 112, 113, 114] (by decide +kernel) (by decide +kernel)
set_option maxRecDepth 20000 in
theorem gX3_digest_X1_waitingAt : GoodIn wsX3_digest (wsV RX3 189 RX1 yX1_waitingAt wsX1_waitingAt) := goodIn_app (goodIn_of _ (by decide +kernel)) ggX3_digest_X1_waitingAt
set_option maxRecDepth 20000 in
theorem ggX3_digest_X1_at : GoodIn wsX3_digest wsX1_at := goodIn_r _ [90, 50, 51, 91, 106, 107, 108, 109, 110, 111, 112, 113, 114] (by decide +kernel) (by decide +kernel)
set_option maxRecDepth 20000 in
theorem gX3_digest_X1_at : GoodIn wsX3_digest (wsV RX3 145 RX1 yX1_at wsX1_at) := goodIn_app (goodIn_of _ (by decide +kernel)) ggX3_digest_X1_at
theorem dX3_digest_0 : decode cX3_digest 0 = .ok (.ldc2_w 182, 3) := by decide +kernel
theorem dX3_digest_3 : decode cX3_digest 3 = .ok (.lstore_n 1, 1) := by decide +kernel
theorem dX3_digest_4 : decode cX3_digest 4 = .ok (.iconst 0, 1) := by decide +kernel
theorem dX3_digest_5 : decode cX3_digest 5 = .ok (.istore_n 3, 1) := by decide +kernel
theorem dX3_digest_6 : decode cX3_digest 6 = .ok (.iload_n 3, 1) := by decide +kernel
theorem dX3_digest_7 : decode cX3_digest 7 = .ok (.bipush 9, 2) := by decide +kernel
theorem dX3_digest_9 : decode cX3_digest 9 = .ok (.if_icmp .ge 22, 3) := by decide +kernel
theorem dX3_digest_12 : decode cX3_digest 12 = .ok (.lload_n 1, 1) := by decide +kernel
theorem dX3_digest_13 : decode cX3_digest 13 = .ok (.aload_n 0, 1) := by decide +kernel
theorem dX3_digest_14 : decode cX3_digest 14 = .ok (.getfield 10, 3) := by decide +kernel
theorem dX3_digest_17 : decode cX3_digest 17 = .ok (.iload_n 3, 1) := by decide +kernel
theorem dX3_digest_18 : decode cX3_digest 18 = .ok (.invokevirtual 155, 3) := by decide +kernel
theorem dX3_digest_21 : decode cX3_digest 21 = .ok (.invokestatic 184, 3) := by decide +kernel
theorem dX3_digest_24 : decode cX3_digest 24 = .ok (.lstore_n 1, 1) := by decide +kernel
theorem dX3_digest_25 : decode cX3_digest 25 = .ok (.iinc 3 1, 3) := by decide +kernel
theorem dX3_digest_28 : decode cX3_digest 28 = .ok (.goto (-22), 3) := by decide +kernel
theorem dX3_digest_31 : decode cX3_digest 31 = .ok (.iconst 0, 1) := by decide +kernel
theorem dX3_digest_32 : decode cX3_digest 32 = .ok (.istore_n 3, 1) := by decide +kernel
theorem dX3_digest_33 : decode cX3_digest 33 = .ok (.iload_n 3, 1) := by decide +kernel
theorem dX3_digest_34 : decode cX3_digest 34 = .ok (.bipush 6, 2) := by decide +kernel
theorem dX3_digest_36 : decode cX3_digest 36 = .ok (.if_icmp .ge 23, 3) := by decide +kernel
theorem dX3_digest_39 : decode cX3_digest 39 = .ok (.lload_n 1, 1) := by decide +kernel
theorem dX3_digest_40 : decode cX3_digest 40 = .ok (.aload_n 0, 1) := by decide +kernel
theorem dX3_digest_41 : decode cX3_digest 41 = .ok (.getfield 10, 3) := by decide +kernel
theorem dX3_digest_44 : decode cX3_digest 44 = .ok (.getfield 64, 3) := by decide +kernel
theorem dX3_digest_47 : decode cX3_digest 47 = .ok (.iload_n 3, 1) := by decide +kernel
theorem dX3_digest_48 : decode cX3_digest 48 = .ok (.iaload, 1) := by decide +kernel
theorem dX3_digest_49 : decode cX3_digest 49 = .ok (.invokestatic 184, 3) := by decide +kernel
theorem dX3_digest_52 : decode cX3_digest 52 = .ok (.lstore_n 1, 1) := by decide +kernel
theorem dX3_digest_53 : decode cX3_digest 53 = .ok (.iinc 3 1, 3) := by decide +kernel
theorem dX3_digest_56 : decode cX3_digest 56 = .ok (.goto (-23), 3) := by decide +kernel
theorem dX3_digest_59 : decode cX3_digest 59 = .ok (.iconst 0, 1) := by decide +kernel
theorem dX3_digest_60 : decode cX3_digest 60 = .ok (.istore_n 3, 1) := by decide +kernel
theorem dX3_digest_61 : decode cX3_digest 61 = .ok (.iload_n 3, 1) := by decide +kernel
theorem dX3_digest_62 : decode cX3_digest 62 = .ok (.aload_n 0, 1) := by decide +kernel
theorem dX3_digest_63 : decode cX3_digest 63 = .ok (.getfield 10, 3) := by decide +kernel
theorem dX3_digest_66 : decode cX3_digest 66 = .ok (.getfield 35, 3) := by decide +kernel
theorem dX3_digest_69 : decode cX3_digest 69 = .ok (.getfield 188, 3) := by decide +kernel
theorem dX3_digest_72 : decode cX3_digest 72 = .ok (.if_icmp .ge 42, 3) := by decide +kernel
theorem dX3_digest_75 : decode cX3_digest 75 = .ok (.iconst 0, 1) := by decide +kernel
theorem dX3_digest_76 : decode cX3_digest 76 = .ok (.istore 4, 2) := by decide +kernel
theorem dX3_digest_78 : decode cX3_digest 78 = .ok (.iload 4, 2) := by decide +kernel
theorem dX3_digest_80 : decode cX3_digest 80 = .ok (.iconst 5, 1) := by decide +kernel
theorem dX3_digest_81 : decode cX3_digest 81 = .ok (.if_icmp .ge 27, 3) := by decide +kernel
theorem dX3_digest_84 : decode cX3_digest 84 = .ok (.lload_n 1, 1) := by decide +kernel
theorem dX3_digest_85 : decode cX3_digest 85 = .ok (.aload_n 0, 1) := by decide +kernel
theorem dX3_digest_86 : decode cX3_digest 86 = .ok (.getfield 10, 3) := by decide +kernel
theorem dX3_digest_89 : decode cX3_digest 89 = .ok (.getfield 35, 3) := by decide +kernel
theorem dX3_digest_92 : decode cX3_digest 92 = .ok (.iload_n 3, 1) := by decide +kernel
theorem dX3_digest_93 : decode cX3_digest 93 = .ok (.iload 4, 2) := by decide +kernel
theorem dX3_digest_95 : decode cX3_digest 95 = .ok (.invokevirtual 134, 3) := by decide +kernel
theorem dX3_digest_98 : decode cX3_digest 98 = .ok (.invokestatic 184, 3) := by decide +kernel
theorem dX3_digest_101 : decode cX3_digest 101 = .ok (.lstore_n 1, 1) := by decide +kernel
theorem dX3_digest_102 : decode cX3_digest 102 = .ok (.iinc 4 1, 3) := by decide +kernel
theorem dX3_digest_105 : decode cX3_digest 105 = .ok (.goto (-27), 3) := by decide +kernel
theorem dX3_digest_108 : decode cX3_digest 108 = .ok (.iinc 3 1, 3) := by decide +kernel
theorem dX3_digest_111 : decode cX3_digest 111 = .ok (.goto (-50), 3) := by decide +kernel
theorem dX3_digest_114 : decode cX3_digest 114 = .ok (.iconst 0, 1) := by decide +kernel
theorem dX3_digest_115 : decode cX3_digest 115 = .ok (.istore_n 3, 1) := by decide +kernel
theorem dX3_digest_116 : decode cX3_digest 116 = .ok (.iload_n 3, 1) := by decide +kernel
theorem dX3_digest_117 : decode cX3_digest 117 = .ok (.aload_n 0, 1) := by decide +kernel
theorem dX3_digest_118 : decode cX3_digest 118 = .ok (.getfield 10, 3) := by decide +kernel
theorem dX3_digest_121 : decode cX3_digest 121 = .ok (.getfield 97, 3) := by decide +kernel
theorem dX3_digest_124 : decode cX3_digest 124 = .ok (.getfield 175, 3) := by decide +kernel
theorem dX3_digest_127 : decode cX3_digest 127 = .ok (.if_icmp .ge 43, 3) := by decide +kernel
theorem dX3_digest_130 : decode cX3_digest 130 = .ok (.iconst 0, 1) := by decide +kernel
theorem dX3_digest_131 : decode cX3_digest 131 = .ok (.istore 4, 2) := by decide +kernel
theorem dX3_digest_133 : decode cX3_digest 133 = .ok (.iload 4, 2) := by decide +kernel
theorem dX3_digest_135 : decode cX3_digest 135 = .ok (.bipush 7, 2) := by decide +kernel
theorem dX3_digest_137 : decode cX3_digest 137 = .ok (.if_icmp .ge 27, 3) := by decide +kernel
theorem dX3_digest_140 : decode cX3_digest 140 = .ok (.lload_n 1, 1) := by decide +kernel
theorem dX3_digest_141 : decode cX3_digest 141 = .ok (.aload_n 0, 1) := by decide +kernel
theorem dX3_digest_142 : decode cX3_digest 142 = .ok (.getfield 10, 3) := by decide +kernel
theorem dX3_digest_145 : decode cX3_digest 145 = .ok (.getfield 97, 3) := by decide +kernel
theorem dX3_digest_148 : decode cX3_digest 148 = .ok (.iload_n 3, 1) := by decide +kernel
theorem dX3_digest_149 : decode cX3_digest 149 = .ok (.iload 4, 2) := by decide +kernel
theorem dX3_digest_151 : decode cX3_digest 151 = .ok (.invokevirtual 139, 3) := by decide +kernel
end
section
theorem dX3_digest_154 : decode cX3_digest 154 = .ok (.invokestatic 184, 3) := by decide +kernel
theorem dX3_digest_157 : decode cX3_digest 157 = .ok (.lstore_n 1, 1) := by decide +kernel
theorem dX3_digest_158 : decode cX3_digest 158 = .ok (.iinc 4 1, 3) := by decide +kernel
theorem dX3_digest_161 : decode cX3_digest 161 = .ok (.goto (-28), 3) := by decide +kernel
theorem dX3_digest_164 : decode cX3_digest 164 = .ok (.iinc 3 1, 3) := by decide +kernel
theorem dX3_digest_167 : decode cX3_digest 167 = .ok (.goto (-51), 3) := by decide +kernel
theorem dX3_digest_170 : decode cX3_digest 170 = .ok (.iconst 0, 1) := by decide +kernel
theorem dX3_digest_171 : decode cX3_digest 171 = .ok (.istore_n 3, 1) := by decide +kernel
theorem dX3_digest_172 : decode cX3_digest 172 = .ok (.iload_n 3, 1) := by decide +kernel
theorem dX3_digest_173 : decode cX3_digest 173 = .ok (.iconst 3, 1) := by decide +kernel
theorem dX3_digest_174 : decode cX3_digest 174 = .ok (.if_icmp .ge 86, 3) := by decide +kernel
theorem dX3_digest_177 : decode cX3_digest 177 = .ok (.iconst 0, 1) := by decide +kernel
theorem dX3_digest_178 : decode cX3_digest 178 = .ok (.istore 4, 2) := by decide +kernel
theorem dX3_digest_180 : decode cX3_digest 180 = .ok (.iload 4, 2) := by decide +kernel
theorem dX3_digest_182 : decode cX3_digest 182 = .ok (.iconst 3, 1) := by decide +kernel
theorem dX3_digest_183 : decode cX3_digest 183 = .ok (.if_icmp .ge 24, 3) := by decide +kernel
theorem dX3_digest_186 : decode cX3_digest 186 = .ok (.lload_n 1, 1) := by decide +kernel
theorem dX3_digest_187 : decode cX3_digest 187 = .ok (.aload_n 0, 1) := by decide +kernel
theorem dX3_digest_188 : decode cX3_digest 188 = .ok (.getfield 10, 3) := by decide +kernel
theorem dX3_digest_191 : decode cX3_digest 191 = .ok (.iload_n 3, 1) := by decide +kernel
theorem dX3_digest_192 : decode cX3_digest 192 = .ok (.iload 4, 2) := by decide +kernel
theorem dX3_digest_194 : decode cX3_digest 194 = .ok (.invokevirtual 142, 3) := by decide +kernel
theorem dX3_digest_197 : decode cX3_digest 197 = .ok (.invokestatic 184, 3) := by decide +kernel
theorem dX3_digest_200 : decode cX3_digest 200 = .ok (.lstore_n 1, 1) := by decide +kernel
theorem dX3_digest_201 : decode cX3_digest 201 = .ok (.iinc 4 1, 3) := by decide +kernel
theorem dX3_digest_204 : decode cX3_digest 204 = .ok (.goto (-24), 3) := by decide +kernel
theorem dX3_digest_207 : decode cX3_digest 207 = .ok (.aload_n 0, 1) := by decide +kernel
theorem dX3_digest_208 : decode cX3_digest 208 = .ok (.getfield 10, 3) := by decide +kernel
theorem dX3_digest_211 : decode cX3_digest 211 = .ok (.getfield 97, 3) := by decide +kernel
theorem dX3_digest_214 : decode cX3_digest 214 = .ok (.iload_n 3, 1) := by decide +kernel
theorem dX3_digest_215 : decode cX3_digest 215 = .ok (.invokevirtual 189, 3) := by decide +kernel
theorem dX3_digest_218 : decode cX3_digest 218 = .ok (.istore 4, 2) := by decide +kernel
theorem dX3_digest_220 : decode cX3_digest 220 = .ok (.iconst 0, 1) := by decide +kernel
theorem dX3_digest_221 : decode cX3_digest 221 = .ok (.istore 5, 2) := by decide +kernel
theorem dX3_digest_223 : decode cX3_digest 223 = .ok (.iload 5, 2) := by decide +kernel
theorem dX3_digest_225 : decode cX3_digest 225 = .ok (.iload 4, 2) := by decide +kernel
theorem dX3_digest_227 : decode cX3_digest 227 = .ok (.if_icmp .ge 27, 3) := by decide +kernel
theorem dX3_digest_230 : decode cX3_digest 230 = .ok (.lload_n 1, 1) := by decide +kernel
theorem dX3_digest_231 : decode cX3_digest 231 = .ok (.aload_n 0, 1) := by decide +kernel
theorem dX3_digest_232 : decode cX3_digest 232 = .ok (.getfield 10, 3) := by decide +kernel
theorem dX3_digest_235 : decode cX3_digest 235 = .ok (.getfield 97, 3) := by decide +kernel
theorem dX3_digest_238 : decode cX3_digest 238 = .ok (.iload_n 3, 1) := by decide +kernel
theorem dX3_digest_239 : decode cX3_digest 239 = .ok (.iload 5, 2) := by decide +kernel
theorem dX3_digest_241 : decode cX3_digest 241 = .ok (.invokevirtual 145, 3) := by decide +kernel
theorem dX3_digest_244 : decode cX3_digest 244 = .ok (.invokestatic 184, 3) := by decide +kernel
theorem dX3_digest_247 : decode cX3_digest 247 = .ok (.lstore_n 1, 1) := by decide +kernel
theorem dX3_digest_248 : decode cX3_digest 248 = .ok (.iinc 5 1, 3) := by decide +kernel
theorem dX3_digest_251 : decode cX3_digest 251 = .ok (.goto (-28), 3) := by decide +kernel
theorem dX3_digest_254 : decode cX3_digest 254 = .ok (.iinc 3 1, 3) := by decide +kernel
theorem dX3_digest_257 : decode cX3_digest 257 = .ok (.goto (-85), 3) := by decide +kernel
theorem dX3_digest_260 : decode cX3_digest 260 = .ok (.lload_n 1, 1) := by decide +kernel
theorem dX3_digest_261 : decode cX3_digest 261 = .ok (.lreturn, 1) := by decide +kernel
theorem dX3_mixed_0 : decode cX3_mixed 0 = .ok (.lload_n 0, 1) := by decide +kernel
theorem dX3_mixed_1 : decode cX3_mixed 1 = .ok (.ldc2_w 192, 3) := by decide +kernel
theorem dX3_mixed_4 : decode cX3_mixed 4 = .ok (.lmul, 1) := by decide +kernel
theorem dX3_mixed_5 : decode cX3_mixed 5 = .ok (.iload_n 2, 1) := by decide +kernel
theorem dX3_mixed_6 : decode cX3_mixed 6 = .ok (.i2l, 1) := by decide +kernel
theorem dX3_mixed_7 : decode cX3_mixed 7 = .ok (.ladd, 1) := by decide +kernel
theorem dX3_mixed_8 : decode cX3_mixed 8 = .ok (.lreturn, 1) := by decide +kernel
theorem dX3_isWithin_0 : decode cX3_isWithin 0 = .ok (.iload_n 0, 1) := by decide +kernel
theorem dX3_isWithin_1 : decode cX3_isWithin 1 = .ok (.iload_n 1, 1) := by decide +kernel
theorem dX3_isWithin_2 : decode cX3_isWithin 2 = .ok (.if_icmp .lt 12, 3) := by decide +kernel
theorem dX3_isWithin_5 : decode cX3_isWithin 5 = .ok (.iload_n 0, 1) := by decide +kernel
theorem dX3_isWithin_6 : decode cX3_isWithin 6 = .ok (.iload_n 2, 1) := by decide +kernel
theorem dX3_isWithin_7 : decode cX3_isWithin 7 = .ok (.if_icmp .gt 7, 3) := by decide +kernel
theorem dX3_isWithin_10 : decode cX3_isWithin 10 = .ok (.iconst 1, 1) := by decide +kernel
theorem dX3_isWithin_11 : decode cX3_isWithin 11 = .ok (.goto 4, 3) := by decide +kernel
theorem dX3_isWithin_14 : decode cX3_isWithin 14 = .ok (.iconst 0, 1) := by decide +kernel
theorem dX3_isWithin_15 : decode cX3_isWithin 15 = .ok (.ireturn, 1) := by decide +kernel
theorem dX3_held_0 : decode cX3_held 0 = .ok (.iload_n 1, 1) := by decide +kernel
theorem dX3_held_1 : decode cX3_held 1 = .ok (.iload_n 2, 1) := by decide +kernel
theorem dX3_held_2 : decode cX3_held 2 = .ok (.iload_n 0, 1) := by decide +kernel
theorem dX3_held_3 : decode cX3_held 3 = .ok (.invokestatic 194, 3) := by decide +kernel
theorem dX3_held_6 : decode cX3_held 6 = .ok (.invokestatic 199, 3) := by decide +kernel
theorem dX3_held_9 : decode cX3_held 9 = .ok (.ireturn, 1) := by decide +kernel
theorem dX3_copyRow_0 : decode cX3_copyRow 0 = .ok (.aload_n 0, 1) := by decide +kernel
theorem dX3_copyRow_1 : decode cX3_copyRow 1 = .ok (.iconst 0, 1) := by decide +kernel
theorem dX3_copyRow_2 : decode cX3_copyRow 2 = .ok (.aload_n 1, 1) := by decide +kernel
theorem dX3_copyRow_3 : decode cX3_copyRow 3 = .ok (.iconst 0, 1) := by decide +kernel
theorem dX3_copyRow_4 : decode cX3_copyRow 4 = .ok (.aload_n 0, 1) := by decide +kernel
theorem dX3_copyRow_5 : decode cX3_copyRow 5 = .ok (.arraylength, 1) := by decide +kernel
theorem dX3_copyRow_6 : decode cX3_copyRow 6 = .ok (.aload_n 1, 1) := by decide +kernel
theorem dX3_copyRow_7 : decode cX3_copyRow 7 = .ok (.arraylength, 1) := by decide +kernel
theorem dX3_copyRow_8 : decode cX3_copyRow 8 = .ok (.invokestatic 194, 3) := by decide +kernel
theorem dX3_copyRow_11 : decode cX3_copyRow 11 = .ok (.invokestatic 202, 3) := by decide +kernel
theorem dX3_copyRow_14 : decode cX3_copyRow 14 = .ok (.return_, 1) := by decide +kernel
theorem dX3_snowOf_0 : decode cX3_snowOf 0 = .ok (.iload_n 0, 1) := by decide +kernel
theorem dX3_snowOf_1 : decode cX3_snowOf 1 = .ok (.tableswitch 38 0 3 #[31, 38, 33, 36], 31) := by decide +kernel
theorem dX3_snowOf_32 : decode cX3_snowOf 32 = .ok (.iconst 4, 1) := by decide +kernel
theorem dX3_snowOf_33 : decode cX3_snowOf 33 = .ok (.ireturn, 1) := by decide +kernel
theorem dX3_snowOf_34 : decode cX3_snowOf 34 = .ok (.bipush (-2), 2) := by decide +kernel
theorem dX3_snowOf_36 : decode cX3_snowOf 36 = .ok (.ireturn, 1) := by decide +kernel
theorem dX3_snowOf_37 : decode cX3_snowOf 37 = .ok (.iconst (-1), 1) := by decide +kernel
theorem dX3_snowOf_38 : decode cX3_snowOf 38 = .ok (.ireturn, 1) := by decide +kernel
theorem dX3_snowOf_39 : decode cX3_snowOf 39 = .ok (.iconst 0, 1) := by decide +kernel
theorem dX3_snowOf_40 : decode cX3_snowOf 40 = .ok (.ireturn, 1) := by decide +kernel
theorem dJ6_bitCount_0f7a4_0 : decode cJ6_bitCount_0f7a4 0 = .ok (.iload_n 0, 1) := by decide +kernel
theorem dJ6_bitCount_0f7a4_1 : decode cJ6_bitCount_0f7a4 1 = .ok (.iload_n 0, 1) := by decide +kernel
theorem dJ6_bitCount_0f7a4_2 : decode cJ6_bitCount_0f7a4 2 = .ok (.iconst 1, 1) := by decide +kernel
theorem dJ6_bitCount_0f7a4_3 : decode cJ6_bitCount_0f7a4 3 = .ok (.iushr, 1) := by decide +kernel
theorem dJ6_bitCount_0f7a4_4 : decode cJ6_bitCount_0f7a4 4 = .ok (.ldc_w 265, 3) := by decide +kernel
theorem dJ6_bitCount_0f7a4_7 : decode cJ6_bitCount_0f7a4 7 = .ok (.iand, 1) := by decide +kernel
theorem dJ6_bitCount_0f7a4_8 : decode cJ6_bitCount_0f7a4 8 = .ok (.isub, 1) := by decide +kernel
theorem dJ6_bitCount_0f7a4_9 : decode cJ6_bitCount_0f7a4 9 = .ok (.istore_n 0, 1) := by decide +kernel
theorem dJ6_bitCount_0f7a4_10 : decode cJ6_bitCount_0f7a4 10 = .ok (.iload_n 0, 1) := by decide +kernel
theorem dJ6_bitCount_0f7a4_11 : decode cJ6_bitCount_0f7a4 11 = .ok (.ldc_w 266, 3) := by decide +kernel
theorem dJ6_bitCount_0f7a4_14 : decode cJ6_bitCount_0f7a4 14 = .ok (.iand, 1) := by decide +kernel
theorem dJ6_bitCount_0f7a4_15 : decode cJ6_bitCount_0f7a4 15 = .ok (.iload_n 0, 1) := by decide +kernel
theorem dJ6_bitCount_0f7a4_16 : decode cJ6_bitCount_0f7a4 16 = .ok (.iconst 2, 1) := by decide +kernel
theorem dJ6_bitCount_0f7a4_17 : decode cJ6_bitCount_0f7a4 17 = .ok (.iushr, 1) := by decide +kernel
theorem dJ6_bitCount_0f7a4_18 : decode cJ6_bitCount_0f7a4 18 = .ok (.ldc_w 266, 3) := by decide +kernel
theorem dJ6_bitCount_0f7a4_21 : decode cJ6_bitCount_0f7a4 21 = .ok (.iand, 1) := by decide +kernel
theorem dJ6_bitCount_0f7a4_22 : decode cJ6_bitCount_0f7a4 22 = .ok (.iadd, 1) := by decide +kernel
theorem dJ6_bitCount_0f7a4_23 : decode cJ6_bitCount_0f7a4 23 = .ok (.istore_n 0, 1) := by decide +kernel
theorem dJ6_bitCount_0f7a4_24 : decode cJ6_bitCount_0f7a4 24 = .ok (.iload_n 0, 1) := by decide +kernel
theorem dJ6_bitCount_0f7a4_25 : decode cJ6_bitCount_0f7a4 25 = .ok (.iload_n 0, 1) := by decide +kernel
theorem dJ6_bitCount_0f7a4_26 : decode cJ6_bitCount_0f7a4 26 = .ok (.iconst 4, 1) := by decide +kernel
theorem dJ6_bitCount_0f7a4_27 : decode cJ6_bitCount_0f7a4 27 = .ok (.iushr, 1) := by decide +kernel
theorem dJ6_bitCount_0f7a4_28 : decode cJ6_bitCount_0f7a4 28 = .ok (.iadd, 1) := by decide +kernel
theorem dJ6_bitCount_0f7a4_29 : decode cJ6_bitCount_0f7a4 29 = .ok (.ldc_w 267, 3) := by decide +kernel
theorem dJ6_bitCount_0f7a4_32 : decode cJ6_bitCount_0f7a4 32 = .ok (.iand, 1) := by decide +kernel
theorem dJ6_bitCount_0f7a4_33 : decode cJ6_bitCount_0f7a4 33 = .ok (.istore_n 0, 1) := by decide +kernel
theorem dJ6_bitCount_0f7a4_34 : decode cJ6_bitCount_0f7a4 34 = .ok (.iload_n 0, 1) := by decide +kernel
theorem dJ6_bitCount_0f7a4_35 : decode cJ6_bitCount_0f7a4 35 = .ok (.iload_n 0, 1) := by decide +kernel
theorem dJ6_bitCount_0f7a4_36 : decode cJ6_bitCount_0f7a4 36 = .ok (.bipush 8, 2) := by decide +kernel
theorem dJ6_bitCount_0f7a4_38 : decode cJ6_bitCount_0f7a4 38 = .ok (.iushr, 1) := by decide +kernel
theorem dJ6_bitCount_0f7a4_39 : decode cJ6_bitCount_0f7a4 39 = .ok (.iadd, 1) := by decide +kernel
theorem dJ6_bitCount_0f7a4_40 : decode cJ6_bitCount_0f7a4 40 = .ok (.istore_n 0, 1) := by decide +kernel
theorem dJ6_bitCount_0f7a4_41 : decode cJ6_bitCount_0f7a4 41 = .ok (.iload_n 0, 1) := by decide +kernel
theorem dJ6_bitCount_0f7a4_42 : decode cJ6_bitCount_0f7a4 42 = .ok (.iload_n 0, 1) := by decide +kernel
theorem dJ6_bitCount_0f7a4_43 : decode cJ6_bitCount_0f7a4 43 = .ok (.bipush 16, 2) := by decide +kernel
theorem dJ6_bitCount_0f7a4_45 : decode cJ6_bitCount_0f7a4 45 = .ok (.iushr, 1) := by decide +kernel
theorem dJ6_bitCount_0f7a4_46 : decode cJ6_bitCount_0f7a4 46 = .ok (.iadd, 1) := by decide +kernel
theorem dJ6_bitCount_0f7a4_47 : decode cJ6_bitCount_0f7a4 47 = .ok (.istore_n 0, 1) := by decide +kernel
theorem dJ6_bitCount_0f7a4_48 : decode cJ6_bitCount_0f7a4 48 = .ok (.iload_n 0, 1) := by decide +kernel
theorem dJ6_bitCount_0f7a4_49 : decode cJ6_bitCount_0f7a4 49 = .ok (.bipush 63, 2) := by decide +kernel
theorem dJ6_bitCount_0f7a4_51 : decode cJ6_bitCount_0f7a4 51 = .ok (.iand, 1) := by decide +kernel
theorem dJ6_bitCount_0f7a4_52 : decode cJ6_bitCount_0f7a4 52 = .ok (.ireturn, 1) := by decide +kernel
theorem dJ9_floorMod_7cf53_0 : decode cJ9_floorMod_7cf53 0 = .ok (.iload_n 0, 1) := by decide +kernel
theorem dJ9_floorMod_7cf53_1 : decode cJ9_floorMod_7cf53 1 = .ok (.iload_n 1, 1) := by decide +kernel
theorem dJ9_floorMod_7cf53_2 : decode cJ9_floorMod_7cf53 2 = .ok (.irem, 1) := by decide +kernel
theorem dJ9_floorMod_7cf53_3 : decode cJ9_floorMod_7cf53 3 = .ok (.istore_n 2, 1) := by decide +kernel
theorem dJ9_floorMod_7cf53_4 : decode cJ9_floorMod_7cf53 4 = .ok (.iload_n 0, 1) := by decide +kernel
theorem dJ9_floorMod_7cf53_5 : decode cJ9_floorMod_7cf53 5 = .ok (.iload_n 1, 1) := by decide +kernel
theorem dJ9_floorMod_7cf53_6 : decode cJ9_floorMod_7cf53 6 = .ok (.ixor, 1) := by decide +kernel
theorem dJ9_floorMod_7cf53_7 : decode cJ9_floorMod_7cf53 7 = .ok (.ifCond .ge 11, 3) := by decide +kernel
theorem dJ9_floorMod_7cf53_10 : decode cJ9_floorMod_7cf53 10 = .ok (.iload_n 2, 1) := by decide +kernel
theorem dJ9_floorMod_7cf53_11 : decode cJ9_floorMod_7cf53 11 = .ok (.ifCond .eq 7, 3) := by decide +kernel
theorem dJ9_floorMod_7cf53_14 : decode cJ9_floorMod_7cf53 14 = .ok (.iload_n 2, 1) := by decide +kernel
theorem dJ9_floorMod_7cf53_15 : decode cJ9_floorMod_7cf53 15 = .ok (.iload_n 1, 1) := by decide +kernel
theorem dJ9_floorMod_7cf53_16 : decode cJ9_floorMod_7cf53 16 = .ok (.iadd, 1) := by decide +kernel
theorem dJ9_floorMod_7cf53_17 : decode cJ9_floorMod_7cf53 17 = .ok (.ireturn, 1) := by decide +kernel
theorem dJ9_floorMod_7cf53_18 : decode cJ9_floorMod_7cf53 18 = .ok (.iload_n 2, 1) := by decide +kernel
theorem dJ9_floorMod_7cf53_19 : decode cJ9_floorMod_7cf53 19 = .ok (.ireturn, 1) := by decide +kernel
theorem dJ9_abs_0f7a4_0 : decode cJ9_abs_0f7a4 0 = .ok (.iload_n 0, 1) := by decide +kernel
theorem dJ9_abs_0f7a4_1 : decode cJ9_abs_0f7a4 1 = .ok (.ifCond .ge 8, 3) := by decide +kernel
theorem dJ9_abs_0f7a4_4 : decode cJ9_abs_0f7a4 4 = .ok (.iload_n 0, 1) := by decide +kernel
theorem dJ9_abs_0f7a4_5 : decode cJ9_abs_0f7a4 5 = .ok (.ineg, 1) := by decide +kernel
theorem dJ9_abs_0f7a4_6 : decode cJ9_abs_0f7a4 6 = .ok (.goto 4, 3) := by decide +kernel
theorem dJ9_abs_0f7a4_9 : decode cJ9_abs_0f7a4 9 = .ok (.iload_n 0, 1) := by decide +kernel
theorem dJ9_abs_0f7a4_10 : decode cJ9_abs_0f7a4 10 = .ok (.ireturn, 1) := by decide +kernel
theorem dJ9_max_7cf53_0 : decode cJ9_max_7cf53 0 = .ok (.iload_n 0, 1) := by decide +kernel
theorem dJ9_max_7cf53_1 : decode cJ9_max_7cf53 1 = .ok (.iload_n 1, 1) := by decide +kernel
theorem dJ9_max_7cf53_2 : decode cJ9_max_7cf53 2 = .ok (.if_icmp .lt 7, 3) := by decide +kernel
theorem dJ9_max_7cf53_5 : decode cJ9_max_7cf53 5 = .ok (.iload_n 0, 1) := by decide +kernel
theorem dJ9_max_7cf53_6 : decode cJ9_max_7cf53 6 = .ok (.goto 4, 3) := by decide +kernel
theorem dJ9_max_7cf53_9 : decode cJ9_max_7cf53 9 = .ok (.iload_n 1, 1) := by decide +kernel
theorem dJ9_max_7cf53_10 : decode cJ9_max_7cf53 10 = .ok (.ireturn, 1) := by decide +kernel
theorem dJ9_min_7cf53_0 : decode cJ9_min_7cf53 0 = .ok (.iload_n 0, 1) := by decide +kernel
theorem dJ9_min_7cf53_1 : decode cJ9_min_7cf53 1 = .ok (.iload_n 1, 1) := by decide +kernel
theorem dJ9_min_7cf53_2 : decode cJ9_min_7cf53 2 = .ok (.if_icmp .gt 7, 3) := by decide +kernel
theorem dJ9_min_7cf53_5 : decode cJ9_min_7cf53 5 = .ok (.iload_n 0, 1) := by decide +kernel
theorem dJ9_min_7cf53_6 : decode cJ9_min_7cf53 6 = .ok (.goto 4, 3) := by decide +kernel
theorem dJ9_min_7cf53_9 : decode cJ9_min_7cf53 9 = .ok (.iload_n 1, 1) := by decide +kernel
theorem dJ9_min_7cf53_10 : decode cJ9_min_7cf53 10 = .ok (.ireturn, 1) := by decide +kernel
theorem dL_below_0 : decode cL_below 0 = .ok (.iload_n 0, 1) := by decide +kernel
theorem dL_below_1 : decode cL_below 1 = .ok (.ldc 7, 2) := by decide +kernel
theorem dL_below_3 : decode cL_below 3 = .ok (.iand, 1) := by decide +kernel
theorem dL_below_4 : decode cL_below 4 = .ok (.iload_n 1, 1) := by decide +kernel
theorem dL_below_5 : decode cL_below 5 = .ok (.irem, 1) := by decide +kernel
theorem dL_below_6 : decode cL_below 6 = .ok (.ireturn, 1) := by decide +kernel
theorem dL_cell_0 : decode cL_cell 0 = .ok (.iload_n 1, 1) := by decide +kernel
theorem dL_cell_1 : decode cL_cell 1 = .ok (.aload_n 0, 1) := by decide +kernel
theorem dL_cell_2 : decode cL_cell 2 = .ok (.arraylength, 1) := by decide +kernel
theorem dL_cell_3 : decode cL_cell 3 = .ok (.if_icmp .ge 9, 3) := by decide +kernel
theorem dL_cell_6 : decode cL_cell 6 = .ok (.aload_n 0, 1) := by decide +kernel
theorem dL_cell_7 : decode cL_cell 7 = .ok (.iload_n 1, 1) := by decide +kernel
theorem dL_cell_8 : decode cL_cell 8 = .ok (.iaload, 1) := by decide +kernel
theorem dL_cell_9 : decode cL_cell 9 = .ok (.goto 9, 3) := by decide +kernel
theorem dL_cell_12 : decode cL_cell 12 = .ok (.ldc 8, 2) := by decide +kernel
theorem dL_cell_14 : decode cL_cell 14 = .ok (.iload_n 1, 1) := by decide +kernel
theorem dL_cell_15 : decode cL_cell 15 = .ok (.iconst 3, 1) := by decide +kernel
theorem dL_cell_16 : decode cL_cell 16 = .ok (.iadd, 1) := by decide +kernel
theorem dL_cell_17 : decode cL_cell 17 = .ok (.imul, 1) := by decide +kernel
theorem dL_cell_18 : decode cL_cell 18 = .ok (.ireturn, 1) := by decide +kernel
set_option maxRecDepth 20000 in
theorem ggL_flakeOf_L_cell : GoodIn wsL_flakeOf wsL_cell := goodIn_r _ [4, 5] (by decide +kernel) (by decide +kernel)
set_option maxRecDepth 20000 in
theorem gL_flakeOf_L_cell : GoodIn wsL_flakeOf (va_wsS RL 9 yL_cell wsL_cell) := goodIn_app (goodIn_of _ (by decide +kernel)) ggL_flakeOf_L_cell
set_option maxRecDepth 20000 in
theorem ggL_flakeOf_L_below : GoodIn wsL_flakeOf wsL_below := goodIn_r _ [8, 9] (by decide +kernel) (by decide +kernel)
set_option maxRecDepth 20000 in
theorem gL_flakeOf_L_below : GoodIn wsL_flakeOf (va_wsS RL 15 yL_below wsL_below) := goodIn_app (goodIn_of _ (by decide +kernel)) ggL_flakeOf_L_below
theorem dL_flakeOf_0 : decode cL_flakeOf 0 = .ok (.aload_n 0, 1) := by decide +kernel
theorem dL_flakeOf_1 : decode cL_flakeOf 1 = .ok (.iload_n 1, 1) := by decide +kernel
theorem dL_flakeOf_2 : decode cL_flakeOf 2 = .ok (.invokestatic 9, 3) := by decide +kernel
theorem dL_flakeOf_5 : decode cL_flakeOf 5 = .ok (.iconst 3, 1) := by decide +kernel
theorem dL_flakeOf_6 : decode cL_flakeOf 6 = .ok (.ishr, 1) := by decide +kernel
theorem dL_flakeOf_7 : decode cL_flakeOf 7 = .ok (.iconst 4, 1) := by decide +kernel
theorem dL_flakeOf_8 : decode cL_flakeOf 8 = .ok (.invokestatic 15, 3) := by decide +kernel
theorem dL_flakeOf_11 : decode cL_flakeOf 11 = .ok (.ireturn, 1) := by decide +kernel
set_option maxRecDepth 20000 in
theorem ggL_pommelsOf_L_cell : GoodIn wsL_pommelsOf wsL_cell := goodIn_r _ [4, 5] (by decide +kernel) (by decide +kernel)
set_option maxRecDepth 20000 in
theorem gL_pommelsOf_L_cell : GoodIn wsL_pommelsOf (va_wsS RL 9 yL_cell wsL_cell) := goodIn_app (goodIn_of _ (by decide +kernel)) ggL_pommelsOf_L_cell
set_option maxRecDepth 20000 in
theorem ggL_pommelsOf_L_below : GoodIn wsL_pommelsOf wsL_below := goodIn_r _ [8, 9] (by decide +kernel) (by decide +kernel)
set_option maxRecDepth 20000 in
theorem gL_pommelsOf_L_below : GoodIn wsL_pommelsOf (va_wsS RL 15 yL_below wsL_below) := goodIn_app (goodIn_of _ (by decide +kernel)) ggL_pommelsOf_L_below
theorem dL_pommelsOf_0 : decode cL_pommelsOf 0 = .ok (.iconst 1, 1) := by decide +kernel
theorem dL_pommelsOf_1 : decode cL_pommelsOf 1 = .ok (.aload_n 0, 1) := by decide +kernel
theorem dL_pommelsOf_2 : decode cL_pommelsOf 2 = .ok (.iload_n 1, 1) := by decide +kernel
theorem dL_pommelsOf_3 : decode cL_pommelsOf 3 = .ok (.invokestatic 9, 3) := by decide +kernel
theorem dL_pommelsOf_6 : decode cL_pommelsOf 6 = .ok (.bipush 7, 2) := by decide +kernel
theorem dL_pommelsOf_8 : decode cL_pommelsOf 8 = .ok (.ishr, 1) := by decide +kernel
theorem dL_pommelsOf_9 : decode cL_pommelsOf 9 = .ok (.iconst 4, 1) := by decide +kernel
theorem dL_pommelsOf_10 : decode cL_pommelsOf 10 = .ok (.invokestatic 15, 3) := by decide +kernel
theorem dL_pommelsOf_13 : decode cL_pommelsOf 13 = .ok (.iadd, 1) := by decide +kernel
theorem dL_pommelsOf_14 : decode cL_pommelsOf 14 = .ok (.ireturn, 1) := by decide +kernel
set_option maxRecDepth 20000 in
theorem ggL_towOf_L_cell : GoodIn wsL_towOf wsL_cell := goodIn_r _ [4, 5] (by decide +kernel) (by decide +kernel)
set_option maxRecDepth 20000 in
theorem gL_towOf_L_cell : GoodIn wsL_towOf (va_wsS RL 9 yL_cell wsL_cell) := goodIn_app (goodIn_of _ (by decide +kernel)) ggL_towOf_L_cell
set_option maxRecDepth 20000 in
theorem ggL_towOf_L_below : GoodIn wsL_towOf wsL_below := goodIn_r _ [8, 9] (by decide +kernel) (by decide +kernel)
set_option maxRecDepth 20000 in
theorem gL_towOf_L_below : GoodIn wsL_towOf (va_wsS RL 15 yL_below wsL_below) := goodIn_app (goodIn_of _ (by decide +kernel)) ggL_towOf_L_below
theorem dL_towOf_0 : decode cL_towOf 0 = .ok (.aload_n 0, 1) := by decide +kernel
theorem dL_towOf_1 : decode cL_towOf 1 = .ok (.bipush 6, 2) := by decide +kernel
theorem dL_towOf_3 : decode cL_towOf 3 = .ok (.iload_n 1, 1) := by decide +kernel
theorem dL_towOf_4 : decode cL_towOf 4 = .ok (.iadd, 1) := by decide +kernel
theorem dL_towOf_5 : decode cL_towOf 5 = .ok (.invokestatic 9, 3) := by decide +kernel
theorem dL_towOf_8 : decode cL_towOf 8 = .ok (.iconst 3, 1) := by decide +kernel
theorem dL_towOf_9 : decode cL_towOf 9 = .ok (.invokestatic 15, 3) := by decide +kernel
theorem dL_towOf_12 : decode cL_towOf 12 = .ok (.ireturn, 1) := by decide +kernel
set_option maxRecDepth 20000 in
theorem ggL_slopeOf_L_cell : GoodIn wsL_slopeOf wsL_cell := goodIn_r _ [4, 5] (by decide +kernel) (by decide +kernel)
set_option maxRecDepth 20000 in
theorem gL_slopeOf_L_cell : GoodIn wsL_slopeOf (va_wsS RL 9 yL_cell wsL_cell) := goodIn_app (goodIn_of _ (by decide +kernel)) ggL_slopeOf_L_cell
set_option maxRecDepth 20000 in
theorem ggL_slopeOf_L_below : GoodIn wsL_slopeOf wsL_below := goodIn_r _ [8, 9] (by decide +kernel) (by decide +kernel)
set_option maxRecDepth 20000 in
theorem gL_slopeOf_L_below : GoodIn wsL_slopeOf (va_wsS RL 15 yL_below wsL_below) := goodIn_app (goodIn_of _ (by decide +kernel)) ggL_slopeOf_L_below
theorem dL_slopeOf_0 : decode cL_slopeOf 0 = .ok (.iconst 1, 1) := by decide +kernel
theorem dL_slopeOf_1 : decode cL_slopeOf 1 = .ok (.aload_n 0, 1) := by decide +kernel
theorem dL_slopeOf_2 : decode cL_slopeOf 2 = .ok (.bipush 6, 2) := by decide +kernel
theorem dL_slopeOf_4 : decode cL_slopeOf 4 = .ok (.iload_n 1, 1) := by decide +kernel
theorem dL_slopeOf_5 : decode cL_slopeOf 5 = .ok (.iadd, 1) := by decide +kernel
theorem dL_slopeOf_6 : decode cL_slopeOf 6 = .ok (.invokestatic 9, 3) := by decide +kernel
theorem dL_slopeOf_9 : decode cL_slopeOf 9 = .ok (.iconst 4, 1) := by decide +kernel
theorem dL_slopeOf_10 : decode cL_slopeOf 10 = .ok (.ishr, 1) := by decide +kernel
theorem dL_slopeOf_11 : decode cL_slopeOf 11 = .ok (.bipush 9, 2) := by decide +kernel
theorem dL_slopeOf_13 : decode cL_slopeOf 13 = .ok (.invokestatic 15, 3) := by decide +kernel
theorem dL_slopeOf_16 : decode cL_slopeOf 16 = .ok (.iadd, 1) := by decide +kernel
theorem dL_slopeOf_17 : decode cL_slopeOf 17 = .ok (.ireturn, 1) := by decide +kernel
set_option maxRecDepth 20000 in
theorem ggL_skillOf_L_cell : GoodIn wsL_skillOf wsL_cell := goodIn_r _ [4, 5] (by decide +kernel) (by decide +kernel)
set_option maxRecDepth 20000 in
theorem gL_skillOf_L_cell : GoodIn wsL_skillOf (va_wsS RL 9 yL_cell wsL_cell) := goodIn_app (goodIn_of _ (by decide +kernel)) ggL_skillOf_L_cell
set_option maxRecDepth 20000 in
theorem ggL_skillOf_L_below : GoodIn wsL_skillOf wsL_below := goodIn_r _ [8, 9] (by decide +kernel) (by decide +kernel)
set_option maxRecDepth 20000 in
theorem gL_skillOf_L_below : GoodIn wsL_skillOf (va_wsS RL 15 yL_below wsL_below) := goodIn_app (goodIn_of _ (by decide +kernel)) ggL_skillOf_L_below
theorem dL_skillOf_0 : decode cL_skillOf 0 = .ok (.iconst 1, 1) := by decide +kernel
theorem dL_skillOf_1 : decode cL_skillOf 1 = .ok (.aload_n 0, 1) := by decide +kernel
theorem dL_skillOf_2 : decode cL_skillOf 2 = .ok (.bipush 10, 2) := by decide +kernel
theorem dL_skillOf_4 : decode cL_skillOf 4 = .ok (.iload_n 1, 1) := by decide +kernel
theorem dL_skillOf_5 : decode cL_skillOf 5 = .ok (.iadd, 1) := by decide +kernel
theorem dL_skillOf_6 : decode cL_skillOf 6 = .ok (.invokestatic 9, 3) := by decide +kernel
theorem dL_skillOf_9 : decode cL_skillOf 9 = .ok (.bipush 9, 2) := by decide +kernel
theorem dL_skillOf_11 : decode cL_skillOf 11 = .ok (.invokestatic 15, 3) := by decide +kernel
theorem dL_skillOf_14 : decode cL_skillOf 14 = .ok (.iadd, 1) := by decide +kernel
theorem dL_skillOf_15 : decode cL_skillOf 15 = .ok (.ireturn, 1) := by decide +kernel
set_option maxRecDepth 20000 in
theorem ggL_coinsOf_L_cell : GoodIn wsL_coinsOf wsL_cell := goodIn_r _ [4, 5] (by decide +kernel) (by decide +kernel)
set_option maxRecDepth 20000 in
theorem gL_coinsOf_L_cell : GoodIn wsL_coinsOf (va_wsS RL 9 yL_cell wsL_cell) := goodIn_app (goodIn_of _ (by decide +kernel)) ggL_coinsOf_L_cell
set_option maxRecDepth 20000 in
theorem ggL_coinsOf_L_below : GoodIn wsL_coinsOf wsL_below := goodIn_r _ [8, 9] (by decide +kernel) (by decide +kernel)
set_option maxRecDepth 20000 in
theorem gL_coinsOf_L_below : GoodIn wsL_coinsOf (va_wsS RL 15 yL_below wsL_below) := goodIn_app (goodIn_of _ (by decide +kernel)) ggL_coinsOf_L_below
theorem dL_coinsOf_0 : decode cL_coinsOf 0 = .ok (.aload_n 0, 1) := by decide +kernel
theorem dL_coinsOf_1 : decode cL_coinsOf 1 = .ok (.bipush 10, 2) := by decide +kernel
theorem dL_coinsOf_3 : decode cL_coinsOf 3 = .ok (.iload_n 1, 1) := by decide +kernel
theorem dL_coinsOf_4 : decode cL_coinsOf 4 = .ok (.iadd, 1) := by decide +kernel
theorem dL_coinsOf_5 : decode cL_coinsOf 5 = .ok (.invokestatic 9, 3) := by decide +kernel
theorem dL_coinsOf_8 : decode cL_coinsOf 8 = .ok (.iconst 5, 1) := by decide +kernel
theorem dL_coinsOf_9 : decode cL_coinsOf 9 = .ok (.ishr, 1) := by decide +kernel
theorem dL_coinsOf_10 : decode cL_coinsOf 10 = .ok (.aload_n 0, 1) := by decide +kernel
theorem dL_coinsOf_11 : decode cL_coinsOf 11 = .ok (.bipush 10, 2) := by decide +kernel
theorem dL_coinsOf_13 : decode cL_coinsOf 13 = .ok (.iload_n 1, 1) := by decide +kernel
theorem dL_coinsOf_14 : decode cL_coinsOf 14 = .ok (.iadd, 1) := by decide +kernel
theorem dL_coinsOf_15 : decode cL_coinsOf 15 = .ok (.invokestatic 9, 3) := by decide +kernel
theorem dL_coinsOf_18 : decode cL_coinsOf 18 = .ok (.bipush 12, 2) := by decide +kernel
theorem dL_coinsOf_20 : decode cL_coinsOf 20 = .ok (.ishr, 1) := by decide +kernel
theorem dL_coinsOf_21 : decode cL_coinsOf 21 = .ok (.iconst 3, 1) := by decide +kernel
theorem dL_coinsOf_22 : decode cL_coinsOf 22 = .ok (.invokestatic 15, 3) := by decide +kernel
theorem dL_coinsOf_25 : decode cL_coinsOf 25 = .ok (.ifCond .ne 8, 3) := by decide +kernel
theorem dL_coinsOf_28 : decode cL_coinsOf 28 = .ok (.bipush 61, 2) := by decide +kernel
theorem dL_coinsOf_30 : decode cL_coinsOf 30 = .ok (.goto 5, 3) := by decide +kernel
theorem dL_coinsOf_33 : decode cL_coinsOf 33 = .ok (.bipush 9, 2) := by decide +kernel
theorem dL_coinsOf_35 : decode cL_coinsOf 35 = .ok (.invokestatic 15, 3) := by decide +kernel
theorem dL_coinsOf_38 : decode cL_coinsOf 38 = .ok (.ireturn, 1) := by decide +kernel
set_option maxRecDepth 20000 in
theorem ggL_waxOf_L_coinsOf : GoodIn wsL_waxOf wsL_coinsOf := goodIn_r _ [4, 5, 6, 3, 7, 8, 9, 10, 11, 12] (by decide +kernel) (by decide +kernel)
set_option maxRecDepth 20000 in
theorem gL_waxOf_L_coinsOf : GoodIn wsL_waxOf (va_wsS RL 19 yL_coinsOf wsL_coinsOf) := goodIn_app (goodIn_of _ (by decide +kernel)) ggL_waxOf_L_coinsOf
set_option maxRecDepth 20000 in
theorem ggL_waxOf_L_cell : GoodIn wsL_waxOf wsL_cell := goodIn_r _ [7, 8] (by decide +kernel) (by decide +kernel)
set_option maxRecDepth 20000 in
theorem gL_waxOf_L_cell : GoodIn wsL_waxOf (va_wsS RL 9 yL_cell wsL_cell) := goodIn_app (goodIn_of _ (by decide +kernel)) ggL_waxOf_L_cell
set_option maxRecDepth 20000 in
theorem ggL_waxOf_L_below : GoodIn wsL_waxOf wsL_below := goodIn_r _ [11, 12] (by decide +kernel) (by decide +kernel)
set_option maxRecDepth 20000 in
theorem gL_waxOf_L_below : GoodIn wsL_waxOf (va_wsS RL 15 yL_below wsL_below) := goodIn_app (goodIn_of _ (by decide +kernel)) ggL_waxOf_L_below
theorem dL_waxOf_0 : decode cL_waxOf 0 = .ok (.aload_n 0, 1) := by decide +kernel
theorem dL_waxOf_1 : decode cL_waxOf 1 = .ok (.iload_n 1, 1) := by decide +kernel
theorem dL_waxOf_2 : decode cL_waxOf 2 = .ok (.invokestatic 19, 3) := by decide +kernel
theorem dL_waxOf_5 : decode cL_waxOf 5 = .ok (.iconst 2, 1) := by decide +kernel
theorem dL_waxOf_6 : decode cL_waxOf 6 = .ok (.if_icmp .ge 7, 3) := by decide +kernel
theorem dL_waxOf_9 : decode cL_waxOf 9 = .ok (.iconst (-1), 1) := by decide +kernel
theorem dL_waxOf_10 : decode cL_waxOf 10 = .ok (.goto 20, 3) := by decide +kernel
theorem dL_waxOf_13 : decode cL_waxOf 13 = .ok (.aload_n 0, 1) := by decide +kernel
theorem dL_waxOf_14 : decode cL_waxOf 14 = .ok (.bipush 10, 2) := by decide +kernel
theorem dL_waxOf_16 : decode cL_waxOf 16 = .ok (.iload_n 1, 1) := by decide +kernel
theorem dL_waxOf_17 : decode cL_waxOf 17 = .ok (.iadd, 1) := by decide +kernel
theorem dL_waxOf_18 : decode cL_waxOf 18 = .ok (.invokestatic 9, 3) := by decide +kernel
theorem dL_waxOf_21 : decode cL_waxOf 21 = .ok (.bipush 9, 2) := by decide +kernel
theorem dL_waxOf_23 : decode cL_waxOf 23 = .ok (.ishr, 1) := by decide +kernel
theorem dL_waxOf_24 : decode cL_waxOf 24 = .ok (.iconst 5, 1) := by decide +kernel
theorem dL_waxOf_25 : decode cL_waxOf 25 = .ok (.invokestatic 15, 3) := by decide +kernel
theorem dL_waxOf_28 : decode cL_waxOf 28 = .ok (.iconst 1, 1) := by decide +kernel
theorem dL_waxOf_29 : decode cL_waxOf 29 = .ok (.isub, 1) := by decide +kernel
theorem dL_waxOf_30 : decode cL_waxOf 30 = .ok (.ireturn, 1) := by decide +kernel
set_option maxRecDepth 20000 in
theorem ggL_standsOf_L_cell : GoodIn wsL_standsOf wsL_cell := goodIn_r _ [4, 5] (by decide +kernel) (by decide +kernel)
set_option maxRecDepth 20000 in
theorem gL_standsOf_L_cell : GoodIn wsL_standsOf (va_wsS RL 9 yL_cell wsL_cell) := goodIn_app (goodIn_of _ (by decide +kernel)) ggL_standsOf_L_cell
set_option maxRecDepth 20000 in
theorem ggL_standsOf_L_below : GoodIn wsL_standsOf wsL_below := goodIn_r _ [8, 9] (by decide +kernel) (by decide +kernel)
set_option maxRecDepth 20000 in
theorem gL_standsOf_L_below : GoodIn wsL_standsOf (va_wsS RL 15 yL_below wsL_below) := goodIn_app (goodIn_of _ (by decide +kernel)) ggL_standsOf_L_below
theorem dL_standsOf_0 : decode cL_standsOf 0 = .ok (.aload_n 0, 1) := by decide +kernel
theorem dL_standsOf_1 : decode cL_standsOf 1 = .ok (.bipush 10, 2) := by decide +kernel
theorem dL_standsOf_3 : decode cL_standsOf 3 = .ok (.iload_n 1, 1) := by decide +kernel
theorem dL_standsOf_4 : decode cL_standsOf 4 = .ok (.iadd, 1) := by decide +kernel
theorem dL_standsOf_5 : decode cL_standsOf 5 = .ok (.invokestatic 9, 3) := by decide +kernel
theorem dL_standsOf_8 : decode cL_standsOf 8 = .ok (.bipush 15, 2) := by decide +kernel
theorem dL_standsOf_10 : decode cL_standsOf 10 = .ok (.ishr, 1) := by decide +kernel
theorem dL_standsOf_11 : decode cL_standsOf 11 = .ok (.iconst 4, 1) := by decide +kernel
theorem dL_standsOf_12 : decode cL_standsOf 12 = .ok (.invokestatic 15, 3) := by decide +kernel
theorem dL_standsOf_15 : decode cL_standsOf 15 = .ok (.iconst 1, 1) := by decide +kernel
theorem dL_standsOf_16 : decode cL_standsOf 16 = .ok (.isub, 1) := by decide +kernel
theorem dL_standsOf_17 : decode cL_standsOf 17 = .ok (.ireturn, 1) := by decide +kernel
set_option maxRecDepth 20000 in
theorem ggL_village_X3_init : GoodIn wsL_village wsX3_init := goodIn_r _ [6, 7, 8, 9, 10, 11, 12, 13, 14, 15, 16, 17, 18, 19, 20, 21, 22, 23, 24, 25, 26, 27, 28, 29, 30, 31, 32, 33, 34, 35, 36, 37, 38, 39, 40, 41, 42, 43, 44, 45, 46, 47, 48, 49, 50, 51, 52, 164, 165, 166, 167, 168, 169, 170, 162, 163, 171, 172, 173, 174, 175, 176, 177, 178, 179, 180, 181, 182, 183, 184] (by decide +kernel) (by decide +kernel)
set_option maxRecDepth 20000 in
theorem gL_village_X3_init : GoodIn wsL_village (wsX3_init) := ggL_village_X3_init
set_option maxRecDepth 20000 in
theorem ggL_village_L_flakeOf : GoodIn wsL_village wsL_flakeOf := goodIn_r _ [56, 57, 58, 55, 59, 60, 61, 62, 63, 64] (by decide +kernel) (by decide +kernel)
set_option maxRecDepth 20000 in
theorem gL_village_L_flakeOf : GoodIn wsL_village (va_wsS RL 25 yL_flakeOf wsL_flakeOf) := goodIn_app (goodIn_of _ (by decide +kernel)) ggL_village_L_flakeOf
set_option maxRecDepth 20000 in
theorem ggL_village_X3_setFlake : GoodIn wsL_village wsX3_setFlake := goodIn_ca (goodIn_ca (goodIn_r _ [68, 69, 70, 71, 72, 13, 73, 74, 75, 3, 76, 162, 163, 164, 165, 166, 167, 168, 169, 170] (by decide +kernel) (by decide +kernel)) (goodIn_sub (fun _ h => List.mem_cons_of_mem _ (List.mem_append_left _ (List.mem_append_left _ (List.mem_append_right _ h)))) (by decide +kernel))) (goodIn_sub (fun _ h => List.mem_cons_of_mem _ (List.mem_append_left _ (List.mem_append_right _ h))) (by decide +kernel))
set_option maxRecDepth 20000 in
theorem gL_village_X3_setFlake : GoodIn wsL_village (wsV RL 28 RX3 yX3_setFlake wsX3_setFlake) := goodIn_app (goodIn_of _ (by decide +kernel)) ggL_village_X3_setFlake
set_option maxRecDepth 20000 in
theorem ggL_village_L_pommelsOf : GoodIn wsL_village wsL_pommelsOf := goodIn_r _ [79, 57, 58, 55, 59, 60, 61, 62, 63, 64] (by decide +kernel) (by decide +kernel)
set_option maxRecDepth 20000 in
theorem gL_village_L_pommelsOf : GoodIn wsL_village (va_wsS RL 31 yL_pommelsOf wsL_pommelsOf) := goodIn_app (goodIn_of _ (by decide +kernel)) ggL_village_L_pommelsOf
set_option maxRecDepth 20000 in
theorem ggL_village_X3_setPommels : GoodIn wsL_village wsX3_setPommels := goodIn_ca (goodIn_ca (goodIn_r _ [83, 69, 70, 71, 72, 13, 84, 74, 75, 3, 76, 162, 163, 164, 165, 166, 167, 168, 169, 170] (by decide +kernel) (by decide +kernel)) (goodIn_sub (fun _ h => List.mem_cons_of_mem _ (List.mem_append_left _ (List.mem_append_left _ (List.mem_append_right _ h)))) (by decide +kernel))) (goodIn_sub (fun _ h => List.mem_cons_of_mem _ (List.mem_append_left _ (List.mem_append_right _ h))) (by decide +kernel))
set_option maxRecDepth 20000 in
theorem gL_village_X3_setPommels : GoodIn wsL_village (wsV RL 34 RX3 yX3_setPommels wsX3_setPommels) := goodIn_app (goodIn_of _ (by decide +kernel)) ggL_village_X3_setPommels
set_option maxRecDepth 20000 in
theorem ggL_village_L_towOf : GoodIn wsL_village wsL_towOf := goodIn_r _ [87, 57, 58, 55, 59, 60, 61, 62, 63, 64] (by decide +kernel) (by decide +kernel)
set_option maxRecDepth 20000 in
theorem gL_village_L_towOf : GoodIn wsL_village (va_wsS RL 37 yL_towOf wsL_towOf) := goodIn_app (goodIn_of _ (by decide +kernel)) ggL_village_L_towOf
set_option maxRecDepth 20000 in
theorem ggL_village_L_slopeOf : GoodIn wsL_village wsL_slopeOf := goodIn_r _ [90, 57, 58, 55, 59, 60, 61, 62, 63, 64] (by decide +kernel) (by decide +kernel)
set_option maxRecDepth 20000 in
theorem gL_village_L_slopeOf : GoodIn wsL_village (va_wsS RL 40 yL_slopeOf wsL_slopeOf) := goodIn_app (goodIn_of _ (by decide +kernel)) ggL_village_L_slopeOf
set_option maxRecDepth 20000 in
theorem ggL_village_X3_run : GoodIn wsL_village wsX3_run := goodIn_ca (goodIn_ca (goodIn_ca (goodIn_r _ [94, 69, 70, 71, 72, 95, 96, 13, 97, 74, 75, 3, 76, 98, 99, 100, 27, 101, 36, 102, 103, 104, 105, 37, 38, 39, 162, 163, 164, 165, 166, 167, 168, 169, 170, 171, 172, 173, 174, 175] (by decide +kernel) (by decide +kernel)) (goodIn_sub (fun _ h => List.mem_cons_of_mem _ (List.mem_append_left _ (List.mem_append_left _ (List.mem_append_right _ h)))) (by decide +kernel))) (goodIn_sub (fun _ h => List.mem_cons_of_mem _ (List.mem_append_left _ (List.mem_append_right _ h))) (by decide +kernel))) (goodIn_sub (fun _ h => List.mem_cons_of_mem _ (List.mem_append_right _ h)) (by decide +kernel))
set_option maxRecDepth 20000 in
theorem gL_village_X3_run : GoodIn wsL_village (wsV RL 43 RX3 yX3_run wsX3_run) := goodIn_app (goodIn_of _ (by decide +kernel)) ggL_village_X3_run
set_option maxRecDepth 20000 in
theorem ggL_village_L_skillOf : GoodIn wsL_village wsL_skillOf := goodIn_r _ [108, 57, 58, 55, 59, 60, 61, 62, 63, 64] (by decide +kernel) (by decide +kernel)
set_option maxRecDepth 20000 in
theorem gL_village_L_skillOf : GoodIn wsL_village (va_wsS RL 46 yL_skillOf wsL_skillOf) := goodIn_app (goodIn_of _ (by decide +kernel)) ggL_village_L_skillOf
set_option maxRecDepth 20000 in
theorem ggL_village_L_coinsOf : GoodIn wsL_village wsL_coinsOf := goodIn_r _ [111, 57, 58, 55, 59, 60, 61, 62, 63, 64] (by decide +kernel) (by decide +kernel)
set_option maxRecDepth 20000 in
theorem gL_village_L_coinsOf : GoodIn wsL_village (va_wsS RL 19 yL_coinsOf wsL_coinsOf) := goodIn_app (goodIn_of _ (by decide +kernel)) ggL_village_L_coinsOf
set_option maxRecDepth 20000 in
theorem ggL_village_X3_skier : GoodIn wsL_village wsX3_skier := goodIn_ca (goodIn_ca (goodIn_r _ [115, 71, 72, 95, 96, 13, 116, 74, 75, 3, 76, 117, 118, 119, 31, 120, 44, 121, 122, 123, 124, 45, 46, 51, 162, 163, 164, 165, 166, 167, 168, 169, 170, 176, 177, 178, 179, 180, 181, 182, 183, 184] (by decide +kernel) (by decide +kernel)) (goodIn_sub (fun _ h => List.mem_cons_of_mem _ (List.mem_append_left _ (List.mem_append_right _ h))) (by decide +kernel))) (goodIn_sub (fun _ h => List.mem_cons_of_mem _ (List.mem_append_right _ h)) (by decide +kernel))
set_option maxRecDepth 20000 in
theorem gL_village_X3_skier : GoodIn wsL_village (wsV RL 49 RX3 yX3_skier wsX3_skier) := goodIn_app (goodIn_of _ (by decide +kernel)) ggL_village_X3_skier
set_option maxRecDepth 20000 in
theorem ggL_village_L_waxOf : GoodIn wsL_village wsL_waxOf := goodIn_r _ [127, 109, 110, 55, 111, 57, 58, 59, 60, 61, 62, 63, 64] (by decide +kernel) (by decide +kernel)
set_option maxRecDepth 20000 in
theorem gL_village_L_waxOf : GoodIn wsL_village (va_wsS RL 52 yL_waxOf wsL_waxOf) := goodIn_app (goodIn_of _ (by decide +kernel)) ggL_village_L_waxOf
set_option maxRecDepth 20000 in
theorem ggL_village_X3_wax : GoodIn wsL_village wsX3_wax := goodIn_ca (goodIn_ca (goodIn_ca (goodIn_r _ [131, 69, 70, 71, 72, 95, 96, 13, 116, 132, 133, 134, 135, 136, 31, 137, 44, 74, 75, 3, 76, 138, 139, 140, 141, 47, 48, 162, 163, 164, 165, 166, 167, 168, 169, 170, 176, 177, 178, 179, 180, 181, 182, 183, 184] (by decide +kernel) (by decide +kernel)) (goodIn_sub (fun _ h => List.mem_cons_of_mem _ (List.mem_append_left _ (List.mem_append_left _ (List.mem_append_right _ h)))) (by decide +kernel))) (goodIn_sub (fun _ h => List.mem_cons_of_mem _ (List.mem_append_left _ (List.mem_append_right _ h))) (by decide +kernel))) (goodIn_sub (fun _ h => List.mem_cons_of_mem _ (List.mem_append_right _ h)) (by decide +kernel))
set_option maxRecDepth 20000 in
theorem gL_village_X3_wax : GoodIn wsL_village (wsV RL 55 RX3 yX3_wax wsX3_wax) := goodIn_app (goodIn_of _ (by decide +kernel)) ggL_village_X3_wax
set_option maxRecDepth 20000 in
theorem ggL_village_L_standsOf : GoodIn wsL_village wsL_standsOf := goodIn_r _ [144, 57, 58, 55, 59, 60, 61, 62, 63, 64] (by decide +kernel) (by decide +kernel)
set_option maxRecDepth 20000 in
theorem gL_village_L_standsOf : GoodIn wsL_village (va_wsS RL 58 yL_standsOf wsL_standsOf) := goodIn_app (goodIn_of _ (by decide +kernel)) ggL_village_L_standsOf
set_option maxRecDepth 20000 in
theorem ggL_village_X3_join : GoodIn wsL_village wsX3_join := goodIn_ca (goodIn_r _ [148, 69, 70, 13, 116, 149, 134, 135, 136, 31, 137, 44, 74, 75, 3, 76, 150, 151, 152, 153, 51, 52, 154, 155, 156, 157, 158, 159, 160, 161, 162, 163, 164, 165, 166, 167, 168, 169, 170, 176, 177, 178, 179, 180, 181, 182, 183, 184] (by decide +kernel) (by decide +kernel)) (goodIn_sub (fun _ h => List.mem_cons_of_mem _ (List.mem_append_left _ (List.mem_append_left _ (List.mem_append_right _ h)))) (by decide +kernel))
set_option maxRecDepth 20000 in
theorem gL_village_X3_join : GoodIn wsL_village (wsV RL 61 RX3 yX3_join wsX3_join) := goodIn_app (goodIn_of _ (by decide +kernel)) ggL_village_X3_join
theorem dL_village_0 : decode cL_village 0 = .ok (.new 22, 3) := by decide +kernel
theorem dL_village_3 : decode cL_village 3 = .ok (.dup, 1) := by decide +kernel
theorem dL_village_4 : decode cL_village 4 = .ok (.invokespecial 24, 3) := by decide +kernel
theorem dL_village_7 : decode cL_village 7 = .ok (.astore_n 1, 1) := by decide +kernel
theorem dL_village_8 : decode cL_village 8 = .ok (.iconst 0, 1) := by decide +kernel
theorem dL_village_9 : decode cL_village 9 = .ok (.istore_n 2, 1) := by decide +kernel
theorem dL_village_10 : decode cL_village 10 = .ok (.iload_n 2, 1) := by decide +kernel
theorem dL_village_11 : decode cL_village 11 = .ok (.bipush 6, 2) := by decide +kernel
theorem dL_village_13 : decode cL_village 13 = .ok (.if_icmp .ge 20, 3) := by decide +kernel
theorem dL_village_16 : decode cL_village 16 = .ok (.aload_n 1, 1) := by decide +kernel
theorem dL_village_17 : decode cL_village 17 = .ok (.iload_n 2, 1) := by decide +kernel
theorem dL_village_18 : decode cL_village 18 = .ok (.aload_n 0, 1) := by decide +kernel
theorem dL_village_19 : decode cL_village 19 = .ok (.iload_n 2, 1) := by decide +kernel
theorem dL_village_20 : decode cL_village 20 = .ok (.invokestatic 25, 3) := by decide +kernel
theorem dL_village_23 : decode cL_village 23 = .ok (.invokevirtual 28, 3) := by decide +kernel
theorem dL_village_26 : decode cL_village 26 = .ok (.pop, 1) := by decide +kernel
theorem dL_village_27 : decode cL_village 27 = .ok (.iinc 2 1, 3) := by decide +kernel
theorem dL_village_30 : decode cL_village 30 = .ok (.goto (-20), 3) := by decide +kernel
theorem dL_village_33 : decode cL_village 33 = .ok (.iconst 0, 1) := by decide +kernel
theorem dL_village_34 : decode cL_village 34 = .ok (.istore_n 2, 1) := by decide +kernel
theorem dL_village_35 : decode cL_village 35 = .ok (.iload_n 2, 1) := by decide +kernel
theorem dL_village_36 : decode cL_village 36 = .ok (.iconst 3, 1) := by decide +kernel
theorem dL_village_37 : decode cL_village 37 = .ok (.if_icmp .ge 20, 3) := by decide +kernel
theorem dL_village_40 : decode cL_village 40 = .ok (.aload_n 1, 1) := by decide +kernel
theorem dL_village_41 : decode cL_village 41 = .ok (.iload_n 2, 1) := by decide +kernel
theorem dL_village_42 : decode cL_village 42 = .ok (.aload_n 0, 1) := by decide +kernel
theorem dL_village_43 : decode cL_village 43 = .ok (.iload_n 2, 1) := by decide +kernel
theorem dL_village_44 : decode cL_village 44 = .ok (.invokestatic 31, 3) := by decide +kernel
theorem dL_village_47 : decode cL_village 47 = .ok (.invokevirtual 34, 3) := by decide +kernel
theorem dL_village_50 : decode cL_village 50 = .ok (.pop, 1) := by decide +kernel
theorem dL_village_51 : decode cL_village 51 = .ok (.iinc 2 1, 3) := by decide +kernel
theorem dL_village_54 : decode cL_village 54 = .ok (.goto (-19), 3) := by decide +kernel
theorem dL_village_57 : decode cL_village 57 = .ok (.iconst 0, 1) := by decide +kernel
theorem dL_village_58 : decode cL_village 58 = .ok (.istore_n 2, 1) := by decide +kernel
theorem dL_village_59 : decode cL_village 59 = .ok (.iload_n 2, 1) := by decide +kernel
theorem dL_village_60 : decode cL_village 60 = .ok (.iconst 4, 1) := by decide +kernel
theorem dL_village_61 : decode cL_village 61 = .ok (.if_icmp .ge 24, 3) := by decide +kernel
theorem dL_village_64 : decode cL_village 64 = .ok (.aload_n 1, 1) := by decide +kernel
theorem dL_village_65 : decode cL_village 65 = .ok (.aload_n 0, 1) := by decide +kernel
theorem dL_village_66 : decode cL_village 66 = .ok (.iload_n 2, 1) := by decide +kernel
theorem dL_village_67 : decode cL_village 67 = .ok (.invokestatic 37, 3) := by decide +kernel
theorem dL_village_70 : decode cL_village 70 = .ok (.aload_n 0, 1) := by decide +kernel
theorem dL_village_71 : decode cL_village 71 = .ok (.iload_n 2, 1) := by decide +kernel
theorem dL_village_72 : decode cL_village 72 = .ok (.invokestatic 40, 3) := by decide +kernel
theorem dL_village_75 : decode cL_village 75 = .ok (.invokevirtual 43, 3) := by decide +kernel
theorem dL_village_78 : decode cL_village 78 = .ok (.pop, 1) := by decide +kernel
theorem dL_village_79 : decode cL_village 79 = .ok (.iinc 2 1, 3) := by decide +kernel
theorem dL_village_82 : decode cL_village 82 = .ok (.goto (-23), 3) := by decide +kernel
theorem dL_village_85 : decode cL_village 85 = .ok (.iconst 0, 1) := by decide +kernel
theorem dL_village_86 : decode cL_village 86 = .ok (.istore_n 2, 1) := by decide +kernel
theorem dL_village_87 : decode cL_village 87 = .ok (.iload_n 2, 1) := by decide +kernel
theorem dL_village_88 : decode cL_village 88 = .ok (.iconst 5, 1) := by decide +kernel
theorem dL_village_89 : decode cL_village 89 = .ok (.if_icmp .ge 62, 3) := by decide +kernel
theorem dL_village_92 : decode cL_village 92 = .ok (.aload_n 1, 1) := by decide +kernel
theorem dL_village_93 : decode cL_village 93 = .ok (.aload_n 0, 1) := by decide +kernel
theorem dL_village_94 : decode cL_village 94 = .ok (.iload_n 2, 1) := by decide +kernel
theorem dL_village_95 : decode cL_village 95 = .ok (.invokestatic 46, 3) := by decide +kernel
theorem dL_village_98 : decode cL_village 98 = .ok (.aload_n 0, 1) := by decide +kernel
theorem dL_village_99 : decode cL_village 99 = .ok (.iload_n 2, 1) := by decide +kernel
theorem dL_village_100 : decode cL_village 100 = .ok (.invokestatic 19, 3) := by decide +kernel
theorem dL_village_103 : decode cL_village 103 = .ok (.invokevirtual 49, 3) := by decide +kernel
theorem dL_village_106 : decode cL_village 106 = .ok (.pop, 1) := by decide +kernel
theorem dL_village_107 : decode cL_village 107 = .ok (.aload_n 0, 1) := by decide +kernel
theorem dL_village_108 : decode cL_village 108 = .ok (.iload_n 2, 1) := by decide +kernel
theorem dL_village_109 : decode cL_village 109 = .ok (.invokestatic 52, 3) := by decide +kernel
theorem dL_village_112 : decode cL_village 112 = .ok (.ifCond .lt 14, 3) := by decide +kernel
theorem dL_village_115 : decode cL_village 115 = .ok (.aload_n 1, 1) := by decide +kernel
theorem dL_village_116 : decode cL_village 116 = .ok (.iload_n 2, 1) := by decide +kernel
theorem dL_village_117 : decode cL_village 117 = .ok (.aload_n 0, 1) := by decide +kernel
theorem dL_village_118 : decode cL_village 118 = .ok (.iload_n 2, 1) := by decide +kernel
theorem dL_village_119 : decode cL_village 119 = .ok (.invokestatic 52, 3) := by decide +kernel
theorem dL_village_122 : decode cL_village 122 = .ok (.invokevirtual 55, 3) := by decide +kernel
theorem dL_village_125 : decode cL_village 125 = .ok (.pop, 1) := by decide +kernel
theorem dL_village_126 : decode cL_village 126 = .ok (.aload_n 0, 1) := by decide +kernel
theorem dL_village_127 : decode cL_village 127 = .ok (.iload_n 2, 1) := by decide +kernel
theorem dL_village_128 : decode cL_village 128 = .ok (.invokestatic 58, 3) := by decide +kernel
theorem dL_village_131 : decode cL_village 131 = .ok (.ifCond .lt 14, 3) := by decide +kernel
theorem dL_village_134 : decode cL_village 134 = .ok (.aload_n 1, 1) := by decide +kernel
theorem dL_village_135 : decode cL_village 135 = .ok (.iload_n 2, 1) := by decide +kernel
theorem dL_village_136 : decode cL_village 136 = .ok (.aload_n 0, 1) := by decide +kernel
theorem dL_village_137 : decode cL_village 137 = .ok (.iload_n 2, 1) := by decide +kernel
theorem dL_village_138 : decode cL_village 138 = .ok (.invokestatic 58, 3) := by decide +kernel
theorem dL_village_141 : decode cL_village 141 = .ok (.invokevirtual 61, 3) := by decide +kernel
theorem dL_village_144 : decode cL_village 144 = .ok (.pop, 1) := by decide +kernel
theorem dL_village_145 : decode cL_village 145 = .ok (.iinc 2 1, 3) := by decide +kernel
theorem dL_village_148 : decode cL_village 148 = .ok (.goto (-61), 3) := by decide +kernel
theorem dL_village_151 : decode cL_village 151 = .ok (.aload_n 1, 1) := by decide +kernel
theorem dL_village_152 : decode cL_village 152 = .ok (.areturn, 1) := by decide +kernel
set_option maxRecDepth 20000 in
theorem ggL_law_L_village : GoodIn wsL_law wsL_village := goodIn_ca (goodIn_ca (goodIn_ca (goodIn_r _ [4, 5, 6, 7, 8, 9, 10, 11, 12, 13, 14, 15, 16, 17, 18, 19, 20, 21, 22, 23, 24, 25, 26, 27, 28, 29, 30, 31, 32, 33, 34, 35, 36, 37, 38, 39, 40, 41, 42, 43, 44, 45, 46, 47, 48, 49, 50, 51, 52, 53, 54, 55, 56, 57, 58, 3, 59, 60, 61, 62, 63, 64, 65, 66, 67, 68, 69, 70, 71, 72, 73, 74, 75, 76, 77, 78, 79, 80, 81, 82, 83, 84, 85, 86, 87, 88, 89, 90, 91, 92, 93, 94, 95, 96, 97, 98, 99, 100, 101, 102, 103, 104, 105, 106, 107, 108, 109, 110, 111, 112, 113, 114, 115, 116, 117, 118, 119, 120, 121, 122, 123, 124, 125, 126, 127, 128, 129, 130, 131, 132, 133, 134, 135, 136, 137, 138, 139, 140, 141, 142, 143, 144, 145, 146, 147, 148, 149, 150, 151, 152, 153, 154, 155, 156, 157, 158, 159, 160, 161, 162, 163, 164, 361, 362, 363, 364, 365, 366, 367, 368, 369, 370, 371, 372, 373, 374, 375, 376, 377, 378, 379, 380, 381, 382, 383] (by decide +kernel) (by decide +kernel)) (goodIn_sub (fun _ h => List.mem_append_left _ (List.mem_append_left _ (List.mem_append_right _ h))) (by decide +kernel))) (goodIn_sub (fun _ h => List.mem_append_left _ (List.mem_append_right _ h)) (by decide +kernel))) (goodIn_sub (fun _ h => List.mem_append_right _ h) (by decide +kernel))
set_option maxRecDepth 20000 in
theorem gL_law_L_village : GoodIn wsL_law (va_wsS RL 64 yL_village wsL_village) := goodIn_app (goodIn_of _ (by decide +kernel)) ggL_law_L_village
set_option maxRecDepth 20000 in
theorem ggL_law_X3_count : GoodIn wsL_law wsX3_count := goodIn_ca (goodIn_r _ [168, 72, 73, 17, 77, 78, 7, 79, 169, 170, 171, 16, 172, 23, 24, 32, 173, 36, 174, 175, 176, 177, 178, 26, 179, 180, 181, 182, 183, 184, 185, 31, 186, 40, 187, 188, 189, 190, 43, 42, 191, 192, 193, 194, 28, 195, 196, 197, 35, 198, 48, 55, 199, 200, 201, 202, 53, 361, 362, 363, 364, 365, 366, 367, 368, 369, 370, 371, 372, 373, 374, 375, 376, 377, 378, 379, 380, 381, 382, 383] (by decide +kernel) (by decide +kernel)) (goodIn_sub (fun _ h => List.mem_append_left _ (List.mem_append_left _ (List.mem_append_right _ h))) (by decide +kernel))
set_option maxRecDepth 20000 in
theorem gL_law_X3_count : GoodIn wsL_law (wsV RL 68 RX3 yX3_count wsX3_count) := goodIn_app (goodIn_of _ (by decide +kernel)) ggL_law_X3_count
set_option maxRecDepth 20000 in
theorem ggL_law_X3_told : GoodIn wsL_law wsX3_told := goodIn_ca (goodIn_r _ [206, 72, 73, 17, 119, 137, 138, 139, 35, 140, 48, 77, 78, 7, 79, 207, 208, 209, 210, 49, 50, 52, 51, 53, 54, 55, 361, 362, 363, 364, 365, 366, 367, 368, 369, 375, 376, 377, 378, 379, 380, 381, 382, 383] (by decide +kernel) (by decide +kernel)) (goodIn_sub (fun _ h => List.mem_append_left _ (List.mem_append_left _ (List.mem_append_right _ h))) (by decide +kernel))
set_option maxRecDepth 20000 in
theorem gL_law_X3_told : GoodIn wsL_law (wsV RL 72 RX3 yX3_told wsX3_told) := goodIn_app (goodIn_of _ (by decide +kernel)) ggL_law_X3_told
set_option maxRecDepth 20000 in
theorem ggL_law_L_cell : GoodIn wsL_law wsL_cell := goodIn_r _ [62, 63] (by decide +kernel) (by decide +kernel)
set_option maxRecDepth 20000 in
theorem gL_law_L_cell : GoodIn wsL_law (va_wsS RL 9 yL_cell wsL_cell) := goodIn_app (goodIn_of _ (by decide +kernel)) ggL_law_L_cell
set_option maxRecDepth 20000 in
theorem ggL_law_L_below : GoodIn wsL_law wsL_below := goodIn_r _ [66, 67] (by decide +kernel) (by decide +kernel)
set_option maxRecDepth 20000 in
theorem gL_law_L_below : GoodIn wsL_law (va_wsS RL 15 yL_below wsL_below) := goodIn_app (goodIn_of _ (by decide +kernel)) ggL_law_L_below
set_option maxRecDepth 20000 in
theorem ggL_law_X3_join : GoodIn wsL_law wsX3_join := goodIn_ca (goodIn_r _ [151, 72, 73, 17, 119, 152, 137, 138, 139, 35, 140, 48, 77, 78, 7, 79, 153, 154, 155, 156, 55, 56, 157, 158, 159, 160, 161, 162, 163, 164, 361, 362, 363, 364, 365, 366, 367, 368, 369, 375, 376, 377, 378, 379, 380, 381, 382, 383] (by decide +kernel) (by decide +kernel)) (goodIn_sub (fun _ h => List.mem_append_left _ (List.mem_append_left _ (List.mem_append_right _ h))) (by decide +kernel))
set_option maxRecDepth 20000 in
theorem gL_law_X3_join : GoodIn wsL_law (wsV RL 61 RX3 yX3_join wsX3_join) := goodIn_app (goodIn_of _ (by decide +kernel)) ggL_law_X3_join
set_option maxRecDepth 20000 in
theorem ggL_law_X3_tow : GoodIn wsL_law wsX3_tow := goodIn_ca (goodIn_r _ [214, 72, 73, 17, 77, 78, 7, 79, 215, 216, 217, 16, 218, 27, 36, 28, 219, 162, 163, 35, 164, 48, 55, 361, 362, 363, 364, 365, 366, 367, 368, 369, 375, 376, 377, 378, 379, 380, 381, 382, 383] (by decide +kernel) (by decide +kernel)) (goodIn_sub (fun _ h => List.mem_append_left _ (List.mem_append_left _ (List.mem_append_right _ h))) (by decide +kernel))
set_option maxRecDepth 20000 in
theorem gL_law_X3_tow : GoodIn wsL_law (wsV RL 75 RX3 yX3_tow wsX3_tow) := goodIn_app (goodIn_of _ (by decide +kernel)) ggL_law_X3_tow
set_option maxRecDepth 20000 in
theorem ggL_law_X3_stands : GoodIn wsL_law wsX3_stands := goodIn_ca (goodIn_r _ [223, 72, 73, 17, 119, 77, 78, 7, 79, 224, 225, 226, 35, 227, 48, 55, 56, 361, 362, 363, 364, 365, 366, 367, 368, 369, 375, 376, 377, 378, 379, 380, 381, 382, 383] (by decide +kernel) (by decide +kernel)) (goodIn_sub (fun _ h => List.mem_append_left _ (List.mem_append_left _ (List.mem_append_right _ h))) (by decide +kernel))
set_option maxRecDepth 20000 in
theorem gL_law_X3_stands : GoodIn wsL_law (wsV RL 78 RX3 yX3_stands wsX3_stands) := goodIn_app (goodIn_of _ (by decide +kernel)) ggL_law_X3_stands
set_option maxRecDepth 20000 in
theorem ggL_law_X3_leave : GoodIn wsL_law wsX3_leave := goodIn_ca (goodIn_r _ [231, 72, 73, 17, 119, 232, 137, 138, 139, 35, 140, 48, 153, 154, 155, 156, 55, 56, 361, 362, 363, 364, 365, 366, 367, 368, 369, 375, 376, 377, 378, 379, 380, 381, 382, 383] (by decide +kernel) (by decide +kernel)) (goodIn_sub (fun _ h => List.mem_append_left _ (List.mem_append_left _ (List.mem_append_right _ h))) (by decide +kernel))
set_option maxRecDepth 20000 in
theorem gL_law_X3_leave : GoodIn wsL_law (wsV RL 81 RX3 yX3_leave wsX3_leave) := goodIn_app (goodIn_of _ (by decide +kernel)) ggL_law_X3_leave
set_option maxRecDepth 20000 in
theorem ggL_law_X3_wax : GoodIn wsL_law wsX3_wax := goodIn_ca (goodIn_ca (goodIn_ca (goodIn_r _ [134, 72, 73, 74, 75, 98, 99, 17, 119, 135, 136, 137, 138, 139, 35, 140, 48, 77, 78, 7, 79, 141, 142, 143, 144, 51, 52, 361, 362, 363, 364, 365, 366, 367, 368, 369, 375, 376, 377, 378, 379, 380, 381, 382, 383] (by decide +kernel) (by decide +kernel)) (goodIn_sub (fun _ h => List.mem_append_left _ (List.mem_append_left _ (List.mem_append_right _ h))) (by decide +kernel))) (goodIn_sub (fun _ h => List.mem_append_left _ (List.mem_append_right _ h)) (by decide +kernel))) (goodIn_sub (fun _ h => List.mem_append_right _ h) (by decide +kernel))
set_option maxRecDepth 20000 in
theorem gL_law_X3_wax : GoodIn wsL_law (wsV RL 55 RX3 yX3_wax wsX3_wax) := goodIn_app (goodIn_of _ (by decide +kernel)) ggL_law_X3_wax
set_option maxRecDepth 20000 in
theorem ggL_law_X3_digest : GoodIn wsL_law wsX3_digest := goodIn_r _ [236, 237, 17, 76, 100, 238, 119, 239, 169, 170, 171, 16, 172, 23, 24, 32, 173, 36, 174, 175, 176, 177, 178, 26, 179, 180, 181, 182, 183, 184, 185, 31, 186, 40, 187, 188, 189, 190, 43, 42, 191, 192, 193, 194, 28, 195, 196, 197, 35, 198, 48, 55, 199, 200, 201, 202, 53, 240, 241, 7, 242, 243, 244, 245, 246, 247, 41, 44, 207, 208, 209, 210, 49, 50, 52, 51, 54, 215, 216, 217, 218, 27, 219, 162, 163, 164, 248, 224, 225, 226, 227, 56, 361, 362, 363, 364, 365, 366, 367, 368, 369, 370, 371, 372, 373, 374, 375, 376, 377, 378, 379, 380, 381, 382, 383] (by decide +kernel) (by decide +kernel)
set_option maxRecDepth 20000 in
theorem gL_law_X3_digest : GoodIn wsL_law (wsV RL 85 RX3 yX3_digest wsX3_digest) := goodIn_app (goodIn_of _ (by decide +kernel)) ggL_law_X3_digest
set_option maxRecDepth 20000 in
theorem ggL_law_X3_foresee : GoodIn wsL_law wsX3_foresee := goodIn_ca (goodIn_ca (goodIn_r _ [252, 74, 75, 72, 73, 18, 17, 77, 78, 7, 79, 253, 254, 255, 16, 256, 23, 24, 26, 27, 28, 32, 36, 257, 258, 259, 260, 261, 262, 263, 264, 265, 266, 267, 268, 269, 31, 270, 40, 41, 42, 43, 44, 271, 272, 273, 35, 274, 48, 49, 50, 51, 52, 53, 54, 55, 56, 275, 276, 277, 278, 175, 176, 177, 178, 179, 180, 181, 182, 279, 280, 281, 282, 283, 284, 285, 286, 287, 288, 289, 290, 291, 292, 293, 294, 295, 296, 297, 298, 299, 219, 162, 163, 164, 300, 225, 226, 227, 301, 138, 139, 140, 302, 154, 155, 156, 303, 304, 305, 306, 307, 308, 309, 310, 311, 312, 313, 314, 315, 316, 317, 187, 188, 189, 190, 318, 319, 320, 321, 322, 323, 324, 325, 326, 327, 328, 329, 330, 331, 332, 333, 334, 158, 159, 160, 161, 169, 170, 171, 172, 173, 174, 183, 184, 185, 186, 191, 192, 193, 194, 195, 196, 197, 198, 199, 200, 201, 202, 361, 362, 363, 364, 365, 366, 367, 368, 369, 370, 371, 372, 373, 374, 375, 376, 377, 378, 379, 380, 381, 382, 383] (by decide +kernel) (by decide +kernel)) (goodIn_sub (fun _ h => List.mem_append_left _ (List.mem_append_right _ h)) (by decide +kernel))) (goodIn_sub (fun _ h => List.mem_append_left _ (List.mem_append_left _ (List.mem_append_right _ h))) (by decide +kernel))
set_option maxRecDepth 20000 in
theorem gL_law_X3_foresee : GoodIn wsL_law (wsV RL 89 RX3 yX3_foresee wsX3_foresee) := goodIn_app (goodIn_of _ (by decide +kernel)) ggL_law_X3_foresee
set_option maxRecDepth 20000 in
theorem ggL_law_X3_until : GoodIn wsL_law wsX3_until := goodIn_ca (goodIn_r _ [338, 72, 73, 17, 119, 18, 339, 137, 138, 139, 35, 140, 48, 253, 254, 255, 16, 256, 23, 24, 26, 27, 28, 32, 36, 257, 7, 258, 259, 260, 261, 262, 263, 264, 265, 266, 267, 268, 269, 31, 270, 40, 41, 42, 43, 44, 271, 272, 273, 274, 49, 50, 51, 52, 53, 54, 55, 56, 275, 276, 277, 278, 175, 176, 177, 178, 179, 180, 181, 182, 279, 280, 281, 282, 283, 284, 285, 286, 287, 288, 289, 290, 291, 292, 293, 294, 295, 296, 297, 298, 299, 219, 162, 163, 164, 300, 225, 226, 227, 301, 302, 154, 155, 156, 303, 304, 305, 306, 307, 308, 309, 310, 311, 312, 313, 314, 315, 316, 317, 187, 188, 189, 190, 318, 319, 320, 321, 322, 323, 324, 325, 326, 327, 328, 329, 330, 331, 332, 333, 334, 158, 159, 160, 161, 361, 362, 363, 364, 365, 366, 367, 368, 369, 375, 376, 377, 378, 379, 380, 381, 382, 383, 370, 371, 372, 373, 374] (by decide +kernel) (by decide +kernel)) (goodIn_sub (fun _ h => List.mem_append_left _ (List.mem_append_left _ (List.mem_append_right _ h))) (by decide +kernel))
set_option maxRecDepth 20000 in
theorem gL_law_X3_until : GoodIn wsL_law (wsV RL 92 RX3 yX3_until wsX3_until) := goodIn_app (goodIn_of _ (by decide +kernel)) ggL_law_X3_until
set_option maxRecDepth 20000 in
theorem ggL_law_X3_pass : GoodIn wsL_law wsX3_pass := goodIn_ca (goodIn_r _ [343, 74, 75, 17, 77, 78, 7, 79, 275, 276, 277, 16, 278, 32, 23, 175, 176, 177, 178, 26, 179, 180, 181, 182, 279, 280, 281, 282, 283, 31, 284, 40, 285, 286, 287, 288, 43, 289, 290, 259, 260, 261, 262, 291, 292, 293, 294, 295, 296, 297, 36, 27, 298, 24, 299, 28, 219, 162, 163, 35, 164, 48, 55, 300, 225, 226, 227, 56, 301, 138, 139, 140, 302, 154, 155, 156, 303, 304, 305, 306, 307, 308, 309, 310, 311, 312, 313, 314, 315, 316, 317, 41, 42, 187, 188, 189, 190, 318, 319, 320, 321, 322, 323, 324, 325, 52, 51, 326, 327, 328, 329, 330, 331, 332, 53, 333, 334, 158, 159, 160, 161, 361, 362, 363, 364, 365, 366, 367, 368, 369, 370, 371, 372, 373, 374, 375, 376, 377, 378, 379, 380, 381, 382, 383] (by decide +kernel) (by decide +kernel)) (goodIn_sub (fun _ h => List.mem_append_left _ (List.mem_append_right _ h)) (by decide +kernel))
set_option maxRecDepth 20000 in
theorem gL_law_X3_pass : GoodIn wsL_law (wsV RL 95 RX3 yX3_pass wsX3_pass) := goodIn_app (goodIn_of _ (by decide +kernel)) ggL_law_X3_pass
set_option maxRecDepth 20000 in
theorem ggL_law_X3_mean : GoodIn wsL_law wsX3_mean := goodIn_r _ [347, 17, 119, 239, 348, 200, 201, 35, 202, 48, 53, 361, 362, 363, 364, 365, 366, 367, 368, 369, 375, 376, 377, 378, 379, 380, 381, 382, 383] (by decide +kernel) (by decide +kernel)
set_option maxRecDepth 20000 in
theorem gL_law_X3_mean : GoodIn wsL_law (wsV RL 98 RX3 yX3_mean wsX3_mean) := goodIn_app (goodIn_of _ (by decide +kernel)) ggL_law_X3_mean
set_option maxRecDepth 20000 in
theorem ggL_law_L_skillOf : GoodIn wsL_law wsL_skillOf := goodIn_r _ [111, 60, 61, 3, 62, 63, 64, 65, 66, 67] (by decide +kernel) (by decide +kernel)
set_option maxRecDepth 20000 in
theorem gL_law_L_skillOf : GoodIn wsL_law (va_wsS RL 46 yL_skillOf wsL_skillOf) := goodIn_app (goodIn_of _ (by decide +kernel)) ggL_law_L_skillOf
set_option maxRecDepth 20000 in
theorem ggL_law_J6_bitCount_0f7a4 : GoodIn wsL_law wsJ6_bitCount_0f7a4 := goodIn_r _ [352, 353, 354, 355] (by decide +kernel) (by decide +kernel)
set_option maxRecDepth 20000 in
theorem gL_law_J6_bitCount_0f7a4 : GoodIn wsL_law (va_wsS RL 104 yJ6_bitCount_0f7a4 wsJ6_bitCount_0f7a4) := goodIn_app (goodIn_of _ (by decide +kernel)) ggL_law_J6_bitCount_0f7a4
set_option maxRecDepth 20000 in
theorem ggL_law_X3_about : GoodIn wsL_law wsX3_about := goodIn_ca (goodIn_r _ [359, 72, 73, 17, 100, 360, 319, 320, 31, 321, 40, 77, 78, 7, 79, 244, 245, 246, 247, 41, 42, 43, 44, 187, 188, 189, 190, 361, 362, 363, 364, 365, 366, 367, 368, 369, 370, 371, 372, 373, 374] (by decide +kernel) (by decide +kernel)) (goodIn_sub (fun _ h => List.mem_append_left _ (List.mem_append_left _ (List.mem_append_right _ h))) (by decide +kernel))
set_option maxRecDepth 20000 in
theorem gL_law_X3_about : GoodIn wsL_law (wsV RL 109 RX3 yX3_about wsX3_about) := goodIn_app (goodIn_of _ (by decide +kernel)) ggL_law_X3_about
theorem dL_law_0 : decode cL_law 0 = .ok (.aload_n 0, 1) := by decide +kernel
theorem dL_law_1 : decode cL_law 1 = .ok (.invokestatic 64, 3) := by decide +kernel
theorem dL_law_4 : decode cL_law 4 = .ok (.astore_n 1, 1) := by decide +kernel
theorem dL_law_5 : decode cL_law 5 = .ok (.aload_n 1, 1) := by decide +kernel
theorem dL_law_6 : decode cL_law 6 = .ok (.iconst 2, 1) := by decide +kernel
theorem dL_law_7 : decode cL_law 7 = .ok (.invokevirtual 68, 3) := by decide +kernel
theorem dL_law_10 : decode cL_law 10 = .ok (.istore_n 2, 1) := by decide +kernel
theorem dL_law_11 : decode cL_law 11 = .ok (.iconst 0, 1) := by decide +kernel
theorem dL_law_12 : decode cL_law 12 = .ok (.istore_n 3, 1) := by decide +kernel
theorem dL_law_13 : decode cL_law 13 = .ok (.iload_n 3, 1) := by decide +kernel
theorem dL_law_14 : decode cL_law 14 = .ok (.iconst 5, 1) := by decide +kernel
theorem dL_law_15 : decode cL_law 15 = .ok (.if_icmp .ge 18, 3) := by decide +kernel
theorem dL_law_18 : decode cL_law 18 = .ok (.iload_n 2, 1) := by decide +kernel
theorem dL_law_19 : decode cL_law 19 = .ok (.aload_n 1, 1) := by decide +kernel
theorem dL_law_20 : decode cL_law 20 = .ok (.iload_n 3, 1) := by decide +kernel
theorem dL_law_21 : decode cL_law 21 = .ok (.iconst 1, 1) := by decide +kernel
theorem dL_law_22 : decode cL_law 22 = .ok (.invokevirtual 72, 3) := by decide +kernel
theorem dL_law_25 : decode cL_law 25 = .ok (.iadd, 1) := by decide +kernel
theorem dL_law_26 : decode cL_law 26 = .ok (.istore_n 2, 1) := by decide +kernel
theorem dL_law_27 : decode cL_law 27 = .ok (.iinc 3 1, 3) := by decide +kernel
theorem dL_law_30 : decode cL_law 30 = .ok (.goto (-17), 3) := by decide +kernel
theorem dL_law_33 : decode cL_law 33 = .ok (.iconst 0, 1) := by decide +kernel
theorem dL_law_34 : decode cL_law 34 = .ok (.istore_n 3, 1) := by decide +kernel
theorem dL_law_35 : decode cL_law 35 = .ok (.iload_n 3, 1) := by decide +kernel
theorem dL_law_36 : decode cL_law 36 = .ok (.bipush 30, 2) := by decide +kernel
theorem dL_law_38 : decode cL_law 38 = .ok (.if_icmp .ge 780, 3) := by decide +kernel
theorem dL_law_41 : decode cL_law 41 = .ok (.aload_n 0, 1) := by decide +kernel
theorem dL_law_42 : decode cL_law 42 = .ok (.iload_n 3, 1) := by decide +kernel
theorem dL_law_43 : decode cL_law 43 = .ok (.bipush 16, 2) := by decide +kernel
theorem dL_law_45 : decode cL_law 45 = .ok (.irem, 1) := by decide +kernel
theorem dL_law_46 : decode cL_law 46 = .ok (.invokestatic 9, 3) := by decide +kernel
theorem dL_law_49 : decode cL_law 49 = .ok (.iload_n 3, 1) := by decide +kernel
theorem dL_law_50 : decode cL_law 50 = .ok (.bipush 16, 2) := by decide +kernel
theorem dL_law_52 : decode cL_law 52 = .ok (.idiv, 1) := by decide +kernel
theorem dL_law_53 : decode cL_law 53 = .ok (.iconst 4, 1) := by decide +kernel
theorem dL_law_54 : decode cL_law 54 = .ok (.imul, 1) := by decide +kernel
theorem dL_law_55 : decode cL_law 55 = .ok (.ishr, 1) := by decide +kernel
theorem dL_law_56 : decode cL_law 56 = .ok (.istore 4, 2) := by decide +kernel
theorem dL_law_58 : decode cL_law 58 = .ok (.iload 4, 2) := by decide +kernel
theorem dL_law_60 : decode cL_law 60 = .ok (.iconst 2, 1) := by decide +kernel
theorem dL_law_61 : decode cL_law 61 = .ok (.ishr, 1) := by decide +kernel
theorem dL_law_62 : decode cL_law 62 = .ok (.iconst 5, 1) := by decide +kernel
theorem dL_law_63 : decode cL_law 63 = .ok (.invokestatic 15, 3) := by decide +kernel
theorem dL_law_66 : decode cL_law 66 = .ok (.istore 5, 2) := by decide +kernel
theorem dL_law_68 : decode cL_law 68 = .ok (.iload 4, 2) := by decide +kernel
theorem dL_law_70 : decode cL_law 70 = .ok (.iconst 5, 1) := by decide +kernel
theorem dL_law_71 : decode cL_law 71 = .ok (.ishr, 1) := by decide +kernel
theorem dL_law_72 : decode cL_law 72 = .ok (.iconst 3, 1) := by decide +kernel
theorem dL_law_73 : decode cL_law 73 = .ok (.invokestatic 15, 3) := by decide +kernel
theorem dL_law_76 : decode cL_law 76 = .ok (.istore 6, 2) := by decide +kernel
theorem dL_law_78 : decode cL_law 78 = .ok (.aload_n 1, 1) := by decide +kernel
theorem dL_law_79 : decode cL_law 79 = .ok (.iload 5, 2) := by decide +kernel
theorem dL_law_81 : decode cL_law 81 = .ok (.iconst 4, 1) := by decide +kernel
theorem dL_law_82 : decode cL_law 82 = .ok (.invokevirtual 72, 3) := by decide +kernel
theorem dL_law_85 : decode cL_law 85 = .ok (.istore 7, 2) := by decide +kernel
theorem dL_law_87 : decode cL_law 87 = .ok (.iload 4, 2) := by decide +kernel
theorem dL_law_89 : decode cL_law 89 = .ok (.bipush 6, 2) := by decide +kernel
theorem dL_law_91 : decode cL_law 91 = .ok (.invokestatic 15, 3) := by decide +kernel
theorem dL_law_94 : decode cL_law 94 = .ok (.tableswitch 158 0 2 #[26, 81, 110], 26) := by decide +kernel
theorem dL_law_120 : decode cL_law 120 = .ok (.aload_n 1, 1) := by decide +kernel
theorem dL_law_121 : decode cL_law 121 = .ok (.iload 5, 2) := by decide +kernel
theorem dL_law_123 : decode cL_law 123 = .ok (.iload 6, 2) := by decide +kernel
theorem dL_law_125 : decode cL_law 125 = .ok (.invokevirtual 61, 3) := by decide +kernel
theorem dL_law_128 : decode cL_law 128 = .ok (.aload_n 1, 1) := by decide +kernel
theorem dL_law_129 : decode cL_law 129 = .ok (.iload 6, 2) := by decide +kernel
theorem dL_law_131 : decode cL_law 131 = .ok (.iconst 1, 1) := by decide +kernel
theorem dL_law_132 : decode cL_law 132 = .ok (.invokevirtual 75, 3) := by decide +kernel
theorem dL_law_135 : decode cL_law 135 = .ok (.iconst 1, 1) := by decide +kernel
theorem dL_law_136 : decode cL_law 136 = .ok (.isub, 1) := by decide +kernel
theorem dL_law_137 : decode cL_law 137 = .ok (.if_icmp .ne 36, 3) := by decide +kernel
theorem dL_law_140 : decode cL_law 140 = .ok (.aload_n 1, 1) := by decide +kernel
theorem dL_law_141 : decode cL_law 141 = .ok (.iload 6, 2) := by decide +kernel
theorem dL_law_143 : decode cL_law 143 = .ok (.aload_n 1, 1) := by decide +kernel
theorem dL_law_144 : decode cL_law 144 = .ok (.iload 6, 2) := by decide +kernel
theorem dL_law_146 : decode cL_law 146 = .ok (.iconst 1, 1) := by decide +kernel
theorem dL_law_147 : decode cL_law 147 = .ok (.invokevirtual 75, 3) := by decide +kernel
theorem dL_law_150 : decode cL_law 150 = .ok (.iconst 1, 1) := by decide +kernel
theorem dL_law_151 : decode cL_law 151 = .ok (.isub, 1) := by decide +kernel
theorem dL_law_152 : decode cL_law 152 = .ok (.invokevirtual 78, 3) := by decide +kernel
theorem dL_law_155 : decode cL_law 155 = .ok (.iload 5, 2) := by decide +kernel
theorem dL_law_157 : decode cL_law 157 = .ok (.if_icmp .ne 16, 3) := by decide +kernel
theorem dL_law_160 : decode cL_law 160 = .ok (.aload_n 1, 1) := by decide +kernel
theorem dL_law_161 : decode cL_law 161 = .ok (.iload 5, 2) := by decide +kernel
theorem dL_law_163 : decode cL_law 163 = .ok (.bipush 6, 2) := by decide +kernel
theorem dL_law_165 : decode cL_law 165 = .ok (.invokevirtual 72, 3) := by decide +kernel
theorem dL_law_168 : decode cL_law 168 = .ok (.iload 6, 2) := by decide +kernel
theorem dL_law_170 : decode cL_law 170 = .ok (.if_icmp .eq 186, 3) := by decide +kernel
theorem dL_law_173 : decode cL_law 173 = .ok (.iconst 0, 1) := by decide +kernel
theorem dL_law_174 : decode cL_law 174 = .ok (.ireturn, 1) := by decide +kernel
theorem dL_law_175 : decode cL_law 175 = .ok (.aload_n 1, 1) := by decide +kernel
theorem dL_law_176 : decode cL_law 176 = .ok (.iload 5, 2) := by decide +kernel
theorem dL_law_178 : decode cL_law 178 = .ok (.invokevirtual 81, 3) := by decide +kernel
theorem dL_law_181 : decode cL_law 181 = .ok (.aload_n 1, 1) := by decide +kernel
theorem dL_law_182 : decode cL_law 182 = .ok (.iload 5, 2) := by decide +kernel
theorem dL_law_184 : decode cL_law 184 = .ok (.invokevirtual 81, 3) := by decide +kernel
theorem dL_law_187 : decode cL_law 187 = .ok (.if_icmp .eq 169, 3) := by decide +kernel
theorem dL_law_190 : decode cL_law 190 = .ok (.aload_n 1, 1) := by decide +kernel
theorem dL_law_191 : decode cL_law 191 = .ok (.iload 5, 2) := by decide +kernel
theorem dL_law_193 : decode cL_law 193 = .ok (.bipush 6, 2) := by decide +kernel
theorem dL_law_195 : decode cL_law 195 = .ok (.invokevirtual 72, 3) := by decide +kernel
theorem dL_law_198 : decode cL_law 198 = .ok (.iconst (-1), 1) := by decide +kernel
theorem dL_law_199 : decode cL_law 199 = .ok (.if_icmp .eq 157, 3) := by decide +kernel
theorem dL_law_202 : decode cL_law 202 = .ok (.iconst 0, 1) := by decide +kernel
theorem dL_law_203 : decode cL_law 203 = .ok (.ireturn, 1) := by decide +kernel
theorem dL_law_204 : decode cL_law 204 = .ok (.aload_n 1, 1) := by decide +kernel
theorem dL_law_205 : decode cL_law 205 = .ok (.iload 5, 2) := by decide +kernel
theorem dL_law_207 : decode cL_law 207 = .ok (.iconst 1, 1) := by decide +kernel
theorem dL_law_208 : decode cL_law 208 = .ok (.invokevirtual 72, 3) := by decide +kernel
theorem dL_law_211 : decode cL_law 211 = .ok (.iconst 1, 1) := by decide +kernel
theorem dL_law_212 : decode cL_law 212 = .ok (.if_icmp .le 144, 3) := by decide +kernel
theorem dL_law_215 : decode cL_law 215 = .ok (.aload_n 1, 1) := by decide +kernel
theorem dL_law_216 : decode cL_law 216 = .ok (.iload 5, 2) := by decide +kernel
theorem dL_law_218 : decode cL_law 218 = .ok (.iload 6, 2) := by decide +kernel
theorem dL_law_220 : decode cL_law 220 = .ok (.invokevirtual 55, 3) := by decide +kernel
theorem dL_law_223 : decode cL_law 223 = .ok (.ifCond .lt 27, 3) := by decide +kernel
theorem dL_law_226 : decode cL_law 226 = .ok (.aload_n 1, 1) := by decide +kernel
theorem dL_law_227 : decode cL_law 227 = .ok (.iload 5, 2) := by decide +kernel
theorem dL_law_229 : decode cL_law 229 = .ok (.iconst 2, 1) := by decide +kernel
theorem dL_law_230 : decode cL_law 230 = .ok (.invokevirtual 72, 3) := by decide +kernel
theorem dL_law_233 : decode cL_law 233 = .ok (.iload 6, 2) := by decide +kernel
theorem dL_law_235 : decode cL_law 235 = .ok (.if_icmp .ne 15, 3) := by decide +kernel
theorem dL_law_238 : decode cL_law 238 = .ok (.aload_n 1, 1) := by decide +kernel
theorem dL_law_239 : decode cL_law 239 = .ok (.iload 5, 2) := by decide +kernel
theorem dL_law_241 : decode cL_law 241 = .ok (.iconst 3, 1) := by decide +kernel
theorem dL_law_242 : decode cL_law 242 = .ok (.invokevirtual 72, 3) := by decide +kernel
theorem dL_law_245 : decode cL_law 245 = .ok (.bipush 10, 2) := by decide +kernel
theorem dL_law_247 : decode cL_law 247 = .ok (.if_icmp .eq 109, 3) := by decide +kernel
theorem dL_law_250 : decode cL_law 250 = .ok (.iconst 0, 1) := by decide +kernel
theorem dL_law_251 : decode cL_law 251 = .ok (.ireturn, 1) := by decide +kernel
theorem dL_law_252 : decode cL_law 252 = .ok (.aload_n 1, 1) := by decide +kernel
theorem dL_law_253 : decode cL_law 253 = .ok (.bipush 6, 2) := by decide +kernel
theorem dL_law_255 : decode cL_law 255 = .ok (.invokevirtual 68, 3) := by decide +kernel
theorem dL_law_258 : decode cL_law 258 = .ok (.istore 8, 2) := by decide +kernel
theorem dL_law_260 : decode cL_law 260 = .ok (.aload_n 1, 1) := by decide +kernel
theorem dL_law_261 : decode cL_law 261 = .ok (.invokevirtual 85, 3) := by decide +kernel
theorem dL_law_264 : decode cL_law 264 = .ok (.lstore 9, 2) := by decide +kernel
theorem dL_law_266 : decode cL_law 266 = .ok (.aload_n 1, 1) := by decide +kernel
theorem dL_law_267 : decode cL_law 267 = .ok (.iconst 2, 1) := by decide +kernel
theorem dL_law_268 : decode cL_law 268 = .ok (.bipush 6, 2) := by decide +kernel
theorem dL_law_270 : decode cL_law 270 = .ok (.invokevirtual 89, 3) := by decide +kernel
theorem dL_law_273 : decode cL_law 273 = .ok (.istore 11, 2) := by decide +kernel
theorem dL_law_275 : decode cL_law 275 = .ok (.aload_n 1, 1) := by decide +kernel
theorem dL_law_276 : decode cL_law 276 = .ok (.iconst 2, 1) := by decide +kernel
theorem dL_law_277 : decode cL_law 277 = .ok (.bipush 8, 2) := by decide +kernel
theorem dL_law_279 : decode cL_law 279 = .ok (.invokevirtual 89, 3) := by decide +kernel
theorem dL_law_282 : decode cL_law 282 = .ok (.istore 12, 2) := by decide +kernel
theorem dL_law_284 : decode cL_law 284 = .ok (.aload_n 1, 1) := by decide +kernel
theorem dL_law_285 : decode cL_law 285 = .ok (.iload 5, 2) := by decide +kernel
theorem dL_law_287 : decode cL_law 287 = .ok (.invokevirtual 92, 3) := by decide +kernel
theorem dL_law_290 : decode cL_law 290 = .ok (.istore 13, 2) := by decide +kernel
theorem dL_law_292 : decode cL_law 292 = .ok (.aload_n 1, 1) := by decide +kernel
theorem dL_law_293 : decode cL_law 293 = .ok (.invokevirtual 85, 3) := by decide +kernel
theorem dL_law_296 : decode cL_law 296 = .ok (.lload 9, 2) := by decide +kernel
theorem dL_law_298 : decode cL_law 298 = .ok (.lcmp, 1) := by decide +kernel
theorem dL_law_299 : decode cL_law 299 = .ok (.ifCond .ne 55, 3) := by decide +kernel
theorem dL_law_302 : decode cL_law 302 = .ok (.iload 13, 2) := by decide +kernel
theorem dL_law_304 : decode cL_law 304 = .ok (.ifCond .eq 50, 3) := by decide +kernel
theorem dL_law_307 : decode cL_law 307 = .ok (.iload 13, 2) := by decide +kernel
theorem dL_law_309 : decode cL_law 309 = .ok (.bipush 90, 2) := by decide +kernel
theorem dL_law_311 : decode cL_law 311 = .ok (.if_icmp .gt 43, 3) := by decide +kernel
theorem dL_law_314 : decode cL_law 314 = .ok (.aload_n 1, 1) := by decide +kernel
theorem dL_law_315 : decode cL_law 315 = .ok (.iload 5, 2) := by decide +kernel
theorem dL_law_317 : decode cL_law 317 = .ok (.bipush 6, 2) := by decide +kernel
theorem dL_law_319 : decode cL_law 319 = .ok (.invokevirtual 72, 3) := by decide +kernel
theorem dL_law_322 : decode cL_law 322 = .ok (.ifCond .ge 8, 3) := by decide +kernel
theorem dL_law_325 : decode cL_law 325 = .ok (.iload 13, 2) := by decide +kernel
theorem dL_law_327 : decode cL_law 327 = .ok (.ifCond .ge 27, 3) := by decide +kernel
theorem dL_law_330 : decode cL_law 330 = .ok (.aload_n 1, 1) := by decide +kernel
theorem dL_law_331 : decode cL_law 331 = .ok (.iconst 2, 1) := by decide +kernel
theorem dL_law_332 : decode cL_law 332 = .ok (.invokevirtual 95, 3) := by decide +kernel
theorem dL_law_335 : decode cL_law 335 = .ok (.iload 11, 2) := by decide +kernel
theorem dL_law_337 : decode cL_law 337 = .ok (.iload 8, 2) := by decide +kernel
theorem dL_law_339 : decode cL_law 339 = .ok (.isub, 1) := by decide +kernel
theorem dL_law_340 : decode cL_law 340 = .ok (.if_icmp .ne 14, 3) := by decide +kernel
theorem dL_law_343 : decode cL_law 343 = .ok (.aload_n 1, 1) := by decide +kernel
theorem dL_law_344 : decode cL_law 344 = .ok (.bipush 8, 2) := by decide +kernel
theorem dL_law_346 : decode cL_law 346 = .ok (.invokevirtual 68, 3) := by decide +kernel
theorem dL_law_349 : decode cL_law 349 = .ok (.iload 12, 2) := by decide +kernel
theorem dL_law_351 : decode cL_law 351 = .ok (.if_icmp .eq 5, 3) := by decide +kernel
theorem dL_law_354 : decode cL_law 354 = .ok (.iconst 0, 1) := by decide +kernel
theorem dL_law_355 : decode cL_law 355 = .ok (.ireturn, 1) := by decide +kernel
theorem dL_law_356 : decode cL_law 356 = .ok (.aload_n 1, 1) := by decide +kernel
theorem dL_law_357 : decode cL_law 357 = .ok (.iconst 2, 1) := by decide +kernel
theorem dL_law_358 : decode cL_law 358 = .ok (.invokevirtual 68, 3) := by decide +kernel
theorem dL_law_361 : decode cL_law 361 = .ok (.istore 8, 2) := by decide +kernel
theorem dL_law_363 : decode cL_law 363 = .ok (.iconst 0, 1) := by decide +kernel
theorem dL_law_364 : decode cL_law 364 = .ok (.istore 9, 2) := by decide +kernel
theorem dL_law_366 : decode cL_law 366 = .ok (.iconst 0, 1) := by decide +kernel
theorem dL_law_367 : decode cL_law 367 = .ok (.istore 10, 2) := by decide +kernel
theorem dL_law_369 : decode cL_law 369 = .ok (.iconst 0, 1) := by decide +kernel
theorem dL_law_370 : decode cL_law 370 = .ok (.istore 11, 2) := by decide +kernel
theorem dL_law_372 : decode cL_law 372 = .ok (.iconst 0, 1) := by decide +kernel
theorem dL_law_373 : decode cL_law 373 = .ok (.istore 12, 2) := by decide +kernel
theorem dL_law_375 : decode cL_law 375 = .ok (.iload 12, 2) := by decide +kernel
theorem dL_law_377 : decode cL_law 377 = .ok (.iconst 5, 1) := by decide +kernel
theorem dL_law_378 : decode cL_law 378 = .ok (.if_icmp .ge 156, 3) := by decide +kernel
theorem dL_law_381 : decode cL_law 381 = .ok (.iload 8, 2) := by decide +kernel
theorem dL_law_383 : decode cL_law 383 = .ok (.aload_n 1, 1) := by decide +kernel
theorem dL_law_384 : decode cL_law 384 = .ok (.iload 12, 2) := by decide +kernel
theorem dL_law_386 : decode cL_law 386 = .ok (.iconst 1, 1) := by decide +kernel
theorem dL_law_387 : decode cL_law 387 = .ok (.invokevirtual 72, 3) := by decide +kernel
theorem dL_law_390 : decode cL_law 390 = .ok (.iadd, 1) := by decide +kernel
theorem dL_law_391 : decode cL_law 391 = .ok (.istore 8, 2) := by decide +kernel
theorem dL_law_393 : decode cL_law 393 = .ok (.iload 9, 2) := by decide +kernel
theorem dL_law_395 : decode cL_law 395 = .ok (.aload_n 1, 1) := by decide +kernel
theorem dL_law_396 : decode cL_law 396 = .ok (.iload 12, 2) := by decide +kernel
theorem dL_law_398 : decode cL_law 398 = .ok (.iconst 5, 1) := by decide +kernel
theorem dL_law_399 : decode cL_law 399 = .ok (.invokevirtual 72, 3) := by decide +kernel
theorem dL_law_402 : decode cL_law 402 = .ok (.iadd, 1) := by decide +kernel
theorem dL_law_403 : decode cL_law 403 = .ok (.istore 9, 2) := by decide +kernel
theorem dL_law_405 : decode cL_law 405 = .ok (.iload 10, 2) := by decide +kernel
theorem dL_law_407 : decode cL_law 407 = .ok (.aload_n 1, 1) := by decide +kernel
theorem dL_law_408 : decode cL_law 408 = .ok (.iload 12, 2) := by decide +kernel
theorem dL_law_410 : decode cL_law 410 = .ok (.iconst 4, 1) := by decide +kernel
theorem dL_law_411 : decode cL_law 411 = .ok (.invokevirtual 72, 3) := by decide +kernel
theorem dL_law_414 : decode cL_law 414 = .ok (.iadd, 1) := by decide +kernel
theorem dL_law_415 : decode cL_law 415 = .ok (.istore 10, 2) := by decide +kernel
theorem dL_law_417 : decode cL_law 417 = .ok (.iload 11, 2) := by decide +kernel
theorem dL_law_419 : decode cL_law 419 = .ok (.aload_n 1, 1) := by decide +kernel
theorem dL_law_420 : decode cL_law 420 = .ok (.iload 12, 2) := by decide +kernel
theorem dL_law_422 : decode cL_law 422 = .ok (.bipush 6, 2) := by decide +kernel
theorem dL_law_424 : decode cL_law 424 = .ok (.invokevirtual 72, 3) := by decide +kernel
theorem dL_law_427 : decode cL_law 427 = .ok (.ifCond .ge 7, 3) := by decide +kernel
theorem dL_law_430 : decode cL_law 430 = .ok (.iconst 0, 1) := by decide +kernel
theorem dL_law_431 : decode cL_law 431 = .ok (.goto 4, 3) := by decide +kernel
theorem dL_law_434 : decode cL_law 434 = .ok (.iconst 1, 1) := by decide +kernel
theorem dL_law_435 : decode cL_law 435 = .ok (.iadd, 1) := by decide +kernel
theorem dL_law_436 : decode cL_law 436 = .ok (.istore 11, 2) := by decide +kernel
theorem dL_law_438 : decode cL_law 438 = .ok (.aload_n 1, 1) := by decide +kernel
theorem dL_law_439 : decode cL_law 439 = .ok (.iload 12, 2) := by decide +kernel
theorem dL_law_441 : decode cL_law 441 = .ok (.iconst 1, 1) := by decide +kernel
theorem dL_law_442 : decode cL_law 442 = .ok (.invokevirtual 72, 3) := by decide +kernel
theorem dL_law_445 : decode cL_law 445 = .ok (.ifCond .lt 81, 3) := by decide +kernel
theorem dL_law_448 : decode cL_law 448 = .ok (.aload_n 1, 1) := by decide +kernel
theorem dL_law_449 : decode cL_law 449 = .ok (.iload 12, 2) := by decide +kernel
theorem dL_law_451 : decode cL_law 451 = .ok (.iconst 4, 1) := by decide +kernel
theorem dL_law_452 : decode cL_law 452 = .ok (.invokevirtual 72, 3) := by decide +kernel
theorem dL_law_455 : decode cL_law 455 = .ok (.ifCond .lt 71, 3) := by decide +kernel
theorem dL_law_458 : decode cL_law 458 = .ok (.aload_n 1, 1) := by decide +kernel
theorem dL_law_459 : decode cL_law 459 = .ok (.iload 12, 2) := by decide +kernel
theorem dL_law_461 : decode cL_law 461 = .ok (.iconst 4, 1) := by decide +kernel
theorem dL_law_462 : decode cL_law 462 = .ok (.invokevirtual 72, 3) := by decide +kernel
theorem dL_law_465 : decode cL_law 465 = .ok (.sipush 999, 3) := by decide +kernel
theorem dL_law_468 : decode cL_law 468 = .ok (.if_icmp .gt 58, 3) := by decide +kernel
theorem dL_law_471 : decode cL_law 471 = .ok (.aload_n 1, 1) := by decide +kernel
theorem dL_law_472 : decode cL_law 472 = .ok (.iload 12, 2) := by decide +kernel
theorem dL_law_474 : decode cL_law 474 = .ok (.iconst 3, 1) := by decide +kernel
theorem dL_law_475 : decode cL_law 475 = .ok (.invokevirtual 72, 3) := by decide +kernel
theorem dL_law_478 : decode cL_law 478 = .ok (.ifCond .lt 48, 3) := by decide +kernel
theorem dL_law_481 : decode cL_law 481 = .ok (.aload_n 1, 1) := by decide +kernel
theorem dL_law_482 : decode cL_law 482 = .ok (.iload 12, 2) := by decide +kernel
theorem dL_law_484 : decode cL_law 484 = .ok (.iconst 3, 1) := by decide +kernel
theorem dL_law_485 : decode cL_law 485 = .ok (.invokevirtual 72, 3) := by decide +kernel
theorem dL_law_488 : decode cL_law 488 = .ok (.bipush 10, 2) := by decide +kernel
theorem dL_law_490 : decode cL_law 490 = .ok (.if_icmp .gt 36, 3) := by decide +kernel
theorem dL_law_493 : decode cL_law 493 = .ok (.aload_n 1, 1) := by decide +kernel
theorem dL_law_494 : decode cL_law 494 = .ok (.iload 12, 2) := by decide +kernel
theorem dL_law_496 : decode cL_law 496 = .ok (.iconst 3, 1) := by decide +kernel
theorem dL_law_497 : decode cL_law 497 = .ok (.invokevirtual 72, 3) := by decide +kernel
theorem dL_law_500 : decode cL_law 500 = .ok (.ifCond .ne 7, 3) := by decide +kernel
theorem dL_law_503 : decode cL_law 503 = .ok (.iconst 1, 1) := by decide +kernel
theorem dL_law_504 : decode cL_law 504 = .ok (.goto 4, 3) := by decide +kernel
theorem dL_law_507 : decode cL_law 507 = .ok (.iconst 0, 1) := by decide +kernel
theorem dL_law_508 : decode cL_law 508 = .ok (.aload_n 1, 1) := by decide +kernel
theorem dL_law_509 : decode cL_law 509 = .ok (.iload 12, 2) := by decide +kernel
theorem dL_law_511 : decode cL_law 511 = .ok (.iconst 2, 1) := by decide +kernel
theorem dL_law_512 : decode cL_law 512 = .ok (.invokevirtual 72, 3) := by decide +kernel
theorem dL_law_515 : decode cL_law 515 = .ok (.ifCond .ge 7, 3) := by decide +kernel
theorem dL_law_518 : decode cL_law 518 = .ok (.iconst 1, 1) := by decide +kernel
theorem dL_law_519 : decode cL_law 519 = .ok (.goto 4, 3) := by decide +kernel
theorem dL_law_522 : decode cL_law 522 = .ok (.iconst 0, 1) := by decide +kernel
theorem dL_law_523 : decode cL_law 523 = .ok (.if_icmp .eq 5, 3) := by decide +kernel
theorem dL_law_526 : decode cL_law 526 = .ok (.iconst 0, 1) := by decide +kernel
theorem dL_law_527 : decode cL_law 527 = .ok (.ireturn, 1) := by decide +kernel
theorem dL_law_528 : decode cL_law 528 = .ok (.iinc 12 1, 3) := by decide +kernel
theorem dL_law_531 : decode cL_law 531 = .ok (.goto (-156), 3) := by decide +kernel
theorem dL_law_534 : decode cL_law 534 = .ok (.aload_n 1, 1) := by decide +kernel
theorem dL_law_535 : decode cL_law 535 = .ok (.iconst 0, 1) := by decide +kernel
theorem dL_law_536 : decode cL_law 536 = .ok (.iconst 2, 1) := by decide +kernel
theorem dL_law_537 : decode cL_law 537 = .ok (.invokevirtual 75, 3) := by decide +kernel
theorem dL_law_540 : decode cL_law 540 = .ok (.aload_n 1, 1) := by decide +kernel
theorem dL_law_541 : decode cL_law 541 = .ok (.iconst 1, 1) := by decide +kernel
theorem dL_law_542 : decode cL_law 542 = .ok (.iconst 2, 1) := by decide +kernel
theorem dL_law_543 : decode cL_law 543 = .ok (.invokevirtual 75, 3) := by decide +kernel
theorem dL_law_546 : decode cL_law 546 = .ok (.iadd, 1) := by decide +kernel
theorem dL_law_547 : decode cL_law 547 = .ok (.aload_n 1, 1) := by decide +kernel
theorem dL_law_548 : decode cL_law 548 = .ok (.iconst 2, 1) := by decide +kernel
theorem dL_law_549 : decode cL_law 549 = .ok (.iconst 2, 1) := by decide +kernel
theorem dL_law_550 : decode cL_law 550 = .ok (.invokevirtual 75, 3) := by decide +kernel
theorem dL_law_553 : decode cL_law 553 = .ok (.iadd, 1) := by decide +kernel
theorem dL_law_554 : decode cL_law 554 = .ok (.istore 12, 2) := by decide +kernel
theorem dL_law_556 : decode cL_law 556 = .ok (.iload 8, 2) := by decide +kernel
theorem dL_law_558 : decode cL_law 558 = .ok (.iload_n 2, 1) := by decide +kernel
theorem dL_law_559 : decode cL_law 559 = .ok (.if_icmp .ne 122, 3) := by decide +kernel
theorem dL_law_562 : decode cL_law 562 = .ok (.iload 9, 2) := by decide +kernel
theorem dL_law_564 : decode cL_law 564 = .ok (.aload_n 1, 1) := by decide +kernel
theorem dL_law_565 : decode cL_law 565 = .ok (.bipush 6, 2) := by decide +kernel
theorem dL_law_567 : decode cL_law 567 = .ok (.invokevirtual 68, 3) := by decide +kernel
theorem dL_law_570 : decode cL_law 570 = .ok (.if_icmp .ne 111, 3) := by decide +kernel
theorem dL_law_573 : decode cL_law 573 = .ok (.iload 12, 2) := by decide +kernel
theorem dL_law_575 : decode cL_law 575 = .ok (.iload 9, 2) := by decide +kernel
theorem dL_law_577 : decode cL_law 577 = .ok (.if_icmp .ne 104, 3) := by decide +kernel
theorem dL_law_580 : decode cL_law 580 = .ok (.iload 10, 2) := by decide +kernel
theorem dL_law_582 : decode cL_law 582 = .ok (.aload_n 1, 1) := by decide +kernel
theorem dL_law_583 : decode cL_law 583 = .ok (.bipush 8, 2) := by decide +kernel
theorem dL_law_585 : decode cL_law 585 = .ok (.invokevirtual 68, 3) := by decide +kernel
theorem dL_law_588 : decode cL_law 588 = .ok (.if_icmp .ne 93, 3) := by decide +kernel
theorem dL_law_591 : decode cL_law 591 = .ok (.iload 11, 2) := by decide +kernel
theorem dL_law_593 : decode cL_law 593 = .ok (.aload_n 1, 1) := by decide +kernel
theorem dL_law_594 : decode cL_law 594 = .ok (.bipush 7, 2) := by decide +kernel
theorem dL_law_596 : decode cL_law 596 = .ok (.invokevirtual 68, 3) := by decide +kernel
theorem dL_law_599 : decode cL_law 599 = .ok (.if_icmp .ne 82, 3) := by decide +kernel
theorem dL_law_602 : decode cL_law 602 = .ok (.aload_n 1, 1) := by decide +kernel
theorem dL_law_603 : decode cL_law 603 = .ok (.iconst 0, 1) := by decide +kernel
theorem dL_law_604 : decode cL_law 604 = .ok (.iconst 1, 1) := by decide +kernel
theorem dL_law_605 : decode cL_law 605 = .ok (.invokevirtual 75, 3) := by decide +kernel
theorem dL_law_608 : decode cL_law 608 = .ok (.aload_n 1, 1) := by decide +kernel
theorem dL_law_609 : decode cL_law 609 = .ok (.iconst 1, 1) := by decide +kernel
theorem dL_law_610 : decode cL_law 610 = .ok (.iconst 1, 1) := by decide +kernel
theorem dL_law_611 : decode cL_law 611 = .ok (.invokevirtual 75, 3) := by decide +kernel
theorem dL_law_614 : decode cL_law 614 = .ok (.iadd, 1) := by decide +kernel
theorem dL_law_615 : decode cL_law 615 = .ok (.aload_n 1, 1) := by decide +kernel
theorem dL_law_616 : decode cL_law 616 = .ok (.iconst 2, 1) := by decide +kernel
theorem dL_law_617 : decode cL_law 617 = .ok (.iconst 1, 1) := by decide +kernel
theorem dL_law_618 : decode cL_law 618 = .ok (.invokevirtual 75, 3) := by decide +kernel
theorem dL_law_621 : decode cL_law 621 = .ok (.iadd, 1) := by decide +kernel
theorem dL_law_622 : decode cL_law 622 = .ok (.iload 11, 2) := by decide +kernel
theorem dL_law_624 : decode cL_law 624 = .ok (.if_icmp .ne 57, 3) := by decide +kernel
theorem dL_law_627 : decode cL_law 627 = .ok (.aload_n 1, 1) := by decide +kernel
theorem dL_law_628 : decode cL_law 628 = .ok (.invokevirtual 98, 3) := by decide +kernel
theorem dL_law_631 : decode cL_law 631 = .ok (.iload 10, 2) := by decide +kernel
theorem dL_law_633 : decode cL_law 633 = .ok (.i2d, 1) := by decide +kernel
theorem dL_law_634 : decode cL_law 634 = .ok (.ldc2_w 102, 3) := by decide +kernel
theorem dL_law_637 : decode cL_law 637 = .ok (.ddiv, 1) := by decide +kernel
theorem dL_law_638 : decode cL_law 638 = .ok (.dcmp .l, 1) := by decide +kernel
theorem dL_law_639 : decode cL_law 639 = .ok (.ifCond .ne 42, 3) := by decide +kernel
theorem dL_law_642 : decode cL_law 642 = .ok (.aload_n 1, 1) := by decide +kernel
theorem dL_law_643 : decode cL_law 643 = .ok (.iload 5, 2) := by decide +kernel
theorem dL_law_645 : decode cL_law 645 = .ok (.iconst 0, 1) := by decide +kernel
theorem dL_law_646 : decode cL_law 646 = .ok (.invokevirtual 72, 3) := by decide +kernel
theorem dL_law_649 : decode cL_law 649 = .ok (.aload_n 0, 1) := by decide +kernel
theorem dL_law_650 : decode cL_law 650 = .ok (.iload 5, 2) := by decide +kernel
theorem dL_law_652 : decode cL_law 652 = .ok (.invokestatic 46, 3) := by decide +kernel
theorem dL_law_655 : decode cL_law 655 = .ok (.if_icmp .ne 26, 3) := by decide +kernel
theorem dL_law_658 : decode cL_law 658 = .ok (.iload 4, 2) := by decide +kernel
theorem dL_law_660 : decode cL_law 660 = .ok (.bipush 6, 2) := by decide +kernel
theorem dL_law_662 : decode cL_law 662 = .ok (.invokestatic 15, 3) := by decide +kernel
theorem dL_law_665 : decode cL_law 665 = .ok (.iconst 3, 1) := by decide +kernel
theorem dL_law_666 : decode cL_law 666 = .ok (.if_icmp .ge 17, 3) := by decide +kernel
theorem dL_law_669 : decode cL_law 669 = .ok (.aload_n 1, 1) := by decide +kernel
theorem dL_law_670 : decode cL_law 670 = .ok (.iload 5, 2) := by decide +kernel
theorem dL_law_672 : decode cL_law 672 = .ok (.iconst 4, 1) := by decide +kernel
theorem dL_law_673 : decode cL_law 673 = .ok (.invokevirtual 72, 3) := by decide +kernel
theorem dL_law_676 : decode cL_law 676 = .ok (.iload 7, 2) := by decide +kernel
theorem dL_law_678 : decode cL_law 678 = .ok (.if_icmp .eq 5, 3) := by decide +kernel
theorem dL_law_681 : decode cL_law 681 = .ok (.iconst 0, 1) := by decide +kernel
theorem dL_law_682 : decode cL_law 682 = .ok (.ireturn, 1) := by decide +kernel
theorem dL_law_683 : decode cL_law 683 = .ok (.iconst 0, 1) := by decide +kernel
theorem dL_law_684 : decode cL_law 684 = .ok (.istore 13, 2) := by decide +kernel
theorem dL_law_686 : decode cL_law 686 = .ok (.iconst 0, 1) := by decide +kernel
theorem dL_law_687 : decode cL_law 687 = .ok (.istore 14, 2) := by decide +kernel
theorem dL_law_689 : decode cL_law 689 = .ok (.iload 14, 2) := by decide +kernel
theorem dL_law_691 : decode cL_law 691 = .ok (.iconst 3, 1) := by decide +kernel
theorem dL_law_692 : decode cL_law 692 = .ok (.if_icmp .ge 45, 3) := by decide +kernel
theorem dL_law_695 : decode cL_law 695 = .ok (.iconst 0, 1) := by decide +kernel
theorem dL_law_696 : decode cL_law 696 = .ok (.istore 15, 2) := by decide +kernel
end
section
theorem dL_law_698 : decode cL_law 698 = .ok (.iload 15, 2) := by decide +kernel
theorem dL_law_700 : decode cL_law 700 = .ok (.aload_n 1, 1) := by decide +kernel
theorem dL_law_701 : decode cL_law 701 = .ok (.iload 14, 2) := by decide +kernel
theorem dL_law_703 : decode cL_law 703 = .ok (.iconst 1, 1) := by decide +kernel
theorem dL_law_704 : decode cL_law 704 = .ok (.invokevirtual 75, 3) := by decide +kernel
theorem dL_law_707 : decode cL_law 707 = .ok (.if_icmp .ge 24, 3) := by decide +kernel
theorem dL_law_710 : decode cL_law 710 = .ok (.iload 13, 2) := by decide +kernel
theorem dL_law_712 : decode cL_law 712 = .ok (.iconst 1, 1) := by decide +kernel
theorem dL_law_713 : decode cL_law 713 = .ok (.aload_n 1, 1) := by decide +kernel
theorem dL_law_714 : decode cL_law 714 = .ok (.iload 14, 2) := by decide +kernel
theorem dL_law_716 : decode cL_law 716 = .ok (.iload 15, 2) := by decide +kernel
theorem dL_law_718 : decode cL_law 718 = .ok (.invokevirtual 78, 3) := by decide +kernel
theorem dL_law_721 : decode cL_law 721 = .ok (.ishl, 1) := by decide +kernel
theorem dL_law_722 : decode cL_law 722 = .ok (.ior, 1) := by decide +kernel
theorem dL_law_723 : decode cL_law 723 = .ok (.istore 13, 2) := by decide +kernel
theorem dL_law_725 : decode cL_law 725 = .ok (.iinc 15 1, 3) := by decide +kernel
theorem dL_law_728 : decode cL_law 728 = .ok (.goto (-30), 3) := by decide +kernel
theorem dL_law_731 : decode cL_law 731 = .ok (.iinc 14 1, 3) := by decide +kernel
theorem dL_law_734 : decode cL_law 734 = .ok (.goto (-45), 3) := by decide +kernel
theorem dL_law_737 : decode cL_law 737 = .ok (.iload 13, 2) := by decide +kernel
theorem dL_law_739 : decode cL_law 739 = .ok (.invokestatic 104, 3) := by decide +kernel
theorem dL_law_742 : decode cL_law 742 = .ok (.iload 11, 2) := by decide +kernel
theorem dL_law_744 : decode cL_law 744 = .ok (.if_icmp .eq 5, 3) := by decide +kernel
theorem dL_law_747 : decode cL_law 747 = .ok (.iconst 0, 1) := by decide +kernel
theorem dL_law_748 : decode cL_law 748 = .ok (.ireturn, 1) := by decide +kernel
theorem dL_law_749 : decode cL_law 749 = .ok (.iconst 0, 1) := by decide +kernel
theorem dL_law_750 : decode cL_law 750 = .ok (.istore 14, 2) := by decide +kernel
theorem dL_law_752 : decode cL_law 752 = .ok (.iconst 0, 1) := by decide +kernel
theorem dL_law_753 : decode cL_law 753 = .ok (.istore 15, 2) := by decide +kernel
theorem dL_law_755 : decode cL_law 755 = .ok (.iload 15, 2) := by decide +kernel
theorem dL_law_757 : decode cL_law 757 = .ok (.iconst 4, 1) := by decide +kernel
theorem dL_law_758 : decode cL_law 758 = .ok (.if_icmp .ge 45, 3) := by decide +kernel
theorem dL_law_761 : decode cL_law 761 = .ok (.iload 14, 2) := by decide +kernel
theorem dL_law_763 : decode cL_law 763 = .ok (.aload_n 1, 1) := by decide +kernel
theorem dL_law_764 : decode cL_law 764 = .ok (.iload 15, 2) := by decide +kernel
theorem dL_law_766 : decode cL_law 766 = .ok (.iconst 4, 1) := by decide +kernel
theorem dL_law_767 : decode cL_law 767 = .ok (.invokevirtual 109, 3) := by decide +kernel
theorem dL_law_770 : decode cL_law 770 = .ok (.iadd, 1) := by decide +kernel
theorem dL_law_771 : decode cL_law 771 = .ok (.istore 14, 2) := by decide +kernel
theorem dL_law_773 : decode cL_law 773 = .ok (.aload_n 1, 1) := by decide +kernel
theorem dL_law_774 : decode cL_law 774 = .ok (.iload 15, 2) := by decide +kernel
theorem dL_law_776 : decode cL_law 776 = .ok (.iconst 2, 1) := by decide +kernel
theorem dL_law_777 : decode cL_law 777 = .ok (.invokevirtual 109, 3) := by decide +kernel
theorem dL_law_780 : decode cL_law 780 = .ok (.ifCond .lt 15, 3) := by decide +kernel
theorem dL_law_783 : decode cL_law 783 = .ok (.aload_n 1, 1) := by decide +kernel
theorem dL_law_784 : decode cL_law 784 = .ok (.iload 15, 2) := by decide +kernel
theorem dL_law_786 : decode cL_law 786 = .ok (.iconst 2, 1) := by decide +kernel
theorem dL_law_787 : decode cL_law 787 = .ok (.invokevirtual 109, 3) := by decide +kernel
theorem dL_law_790 : decode cL_law 790 = .ok (.bipush 90, 2) := by decide +kernel
theorem dL_law_792 : decode cL_law 792 = .ok (.if_icmp .le 5, 3) := by decide +kernel
theorem dL_law_795 : decode cL_law 795 = .ok (.iconst 0, 1) := by decide +kernel
theorem dL_law_796 : decode cL_law 796 = .ok (.ireturn, 1) := by decide +kernel
theorem dL_law_797 : decode cL_law 797 = .ok (.iinc 15 1, 3) := by decide +kernel
theorem dL_law_800 : decode cL_law 800 = .ok (.goto (-45), 3) := by decide +kernel
theorem dL_law_803 : decode cL_law 803 = .ok (.iload 14, 2) := by decide +kernel
theorem dL_law_805 : decode cL_law 805 = .ok (.iload 9, 2) := by decide +kernel
theorem dL_law_807 : decode cL_law 807 = .ok (.if_icmp .le 5, 3) := by decide +kernel
theorem dL_law_810 : decode cL_law 810 = .ok (.iconst 0, 1) := by decide +kernel
theorem dL_law_811 : decode cL_law 811 = .ok (.ireturn, 1) := by decide +kernel
theorem dL_law_812 : decode cL_law 812 = .ok (.iinc 3 1, 3) := by decide +kernel
theorem dL_law_815 : decode cL_law 815 = .ok (.goto (-780), 3) := by decide +kernel
theorem dL_law_818 : decode cL_law 818 = .ok (.iconst 1, 1) := by decide +kernel
theorem dL_law_819 : decode cL_law 819 = .ok (.ireturn, 1) := by decide +kernel
end
section
def nwl : List Cond := [.methodLinkNest "PommelTows$Runs" 28 ⟨"PommelTows", "held", "(III)I"⟩ "PommelTows", .methodLinkNest "PommelTows$Runs" 40 ⟨"PommelTows", "copyRow", "([I[I)V"⟩ "PommelTows", .methodLinkNest "PommelTows$Skiers" 49 ⟨"PommelTows", "held", "(III)I"⟩ "PommelTows", .methodLinkNest "PommelTows$Skiers" 53 ⟨"PommelTows", "copyRow", "([I[I)V"⟩ "PommelTows", .methodLinkNest "PommelTows$Village" 30 ⟨"PommelTows$Runs", "<init>", "()V"⟩ "PommelTows", .methodLinkNest "PommelTows$Village" 37 ⟨"PommelTows$Skiers", "<init>", "()V"⟩ "PommelTows", .methodLinkNest "PommelTows$Village" 42 ⟨"PommelTows", "copyRow", "([I[I)V"⟩ "PommelTows", .methodLinkNest "PommelTows$Village" 69 ⟨"PommelTows", "snowOf", "(I)I"⟩ "PommelTows"]
def srl : List (Nat × String) := []
def exI : String := "java/lang/IndexOutOfBoundsException"
def exA : String := "java/lang/IllegalArgumentException"
def exS : String := "java/lang/IllegalStateException"
def ncl : List (String × String) := []
/-- what the tables say that isn't a word of a list: classes, arrays, nest mates, written texts, casts that fail -/
def KK (D : va_G) (tys : List (ClassId × FieldType)) (U : State) : Prop :=
  va_K D vwCl tys U ∧ (∀ w ∈ nwl, va_Nw w U) ∧ (∀ q ∈ srl, ∃ a, vk_R RX3 q.1 q.2 a U) ∧ (∀ q ∈ ncl, va_Nc q.1 q.2 U)
def isNest (w : Cond) : Bool := match w with
  | .fieldLinkNest _ _ _ _ _ _ => true
  | .methodLinkNest _ _ _ _ => true
  | .castable _ _ => true
  | .declares _ => true
  | _ => false
theorem nwl_nest : ∀ w ∈ nwl, isNest w = true := by decide +kernel
theorem nest_warm {s U : State} (hW : s.WarmedH U.vm) {w : Cond} (hw : isNest w = true) (h : va_Nw w s) : va_Nw w U := by
  cases w <;> first | exact va_Nw.warmF hW h | exact va_Nw.warmM hW h | exact va_Nw.warmC hW h | exact va_Nw.warmD hW h | (simp [isNest] at hw)
theorem nest_same {s U : State} (hv : s.vm = U.vm) {w : Cond} (hw : isNest w = true) (h : va_Nw w s) : va_Nw w U := by
  cases w <;> first | exact va_Nw.same rfl hv h | (simp [isNest] at hw)
theorem KK.warm {D : va_G} {tys : List (ClassId × FieldType)} {s U : State} (hW : s.WarmedH U.vm) (h : KK D tys s) : KK D tys U :=
  ⟨va_K.moved hW.alike h.1, fun w hw => nest_warm hW (nwl_nest w hw) (h.2.1 w hw), fun q hq => (h.2.2.1 q hq).elim fun a ha => ⟨a, ha.warm hW⟩, fun q hq => va_Nc.moved hW.alike (h.2.2.2 q hq)⟩
theorem KK.same {D : va_G} {tys : List (ClassId × FieldType)} {s U : State} (hv : s.vm = U.vm) (h : KK D tys s) : KK D tys U :=
  ⟨va_K.moved (by rw [hv]; exact Vm.Alike.refl _) h.1, fun w hw => nest_same hv (nwl_nest w hw) (h.2.1 w hw), fun q hq => (h.2.2.1 q hq).elim fun a ha => ⟨a, ha.same hv.symm⟩, fun q hq => va_Nc.moved (by rw [hv]; exact Vm.Alike.refl _) (h.2.2.2 q hq)⟩
theorem KK.nest {D : va_G} {tys : List (ClassId × FieldType)} {s : State} (h : KK D tys s) {w : Cond} (hw : w ∈ nwl) : va_Nw w s := h.2.1 w hw
theorem KK.use {D : va_G} {tys : List (ClassId × FieldType)} {s : State} (h : KK D tys s) {w : Cond} (hw : w ∈ nwl) {a : Array Value} : w.before a s = true := by
  have h1 := h.2.1 w hw
  have h2 := nwl_nest w hw
  cases w <;> first | exact va_Nw.use rfl h1 | (simp [isNest] at h2)
/-- where the code stands, what it links, what the tables say -/
def Cx (p : Program) (s : State) (m : MethodId) (args : Array Value) (meth : Method) (c : Code) (cc : ByteArray) (nL : Nat) (ret : Option FieldType) (own : String) (Ts : List Cond) (D : va_G) (tys : List (ClassId × FieldType)) (A : Nat → Prop) : Prop :=
  p.tables.exec = Jvm.exec ∧ c.code = cc ∧ c.maxLocals = nL ∧ meth.sig.returnType = ret ∧ s.vm.findClass own = some m.cls ∧ (∀ w ∈ Ts, w.before args s = true) ∧ KK D tys s ∧ (∀ q : Nat, s.heap.size ≤ q → A q) ∧ meth.locks = false
/-- the heap holds the cells w, apart, and nothing outside A was written -/
def Hw (D : va_G) (A : Nat → Prop) (s : State) (w : va_W) (H : Heap) (locs : List Loc) : Prop := va_P D vwCl w H ∧ va_D A w ∧ va_S A s.heap H locs
/-- a method's start and end; what it answers and what its cells are then: post -/
def cPc (D : va_G) (tys : List (ClassId × FieldType)) (av : List Value) (w : va_W) (sz : Nat) : Array Value → State → Prop := va_Pc av (fun U => U.heap.size = sz ∧ va_P D vwCl w U.heap ∧ KK D tys U ∧ va_D (fun _ => True) w)
def cQ (D : va_G) (A : Nat → Prop) (post : Option Value → va_W → Prop) : Array Value → State → Outcome → State → Prop := fun _ st oc t => (∃ (v : Option Value) (w' : va_W), oc = .returned v ∧ post v w' ∧ va_P D vwCl w' t.heap ∧ va_D A w') ∧ va_F A st t
def Ct (l : Launch) (y : MethodName) (ws : List Cond) (rm : Room) (D : va_G) (tys : List (ClassId × FieldType)) (av : List Value) (w : va_W) (post : Option Value → va_W → Prop) (mc ms : Nat) : Prop :=
  ∀ sz : Nat, Met l y ws rm (cPc D tys av w sz) (cQ D (va_A w sz) post) mc ms (va_A w sz)
theorem cPc.blind {D : va_G} {tys : List (ClassId × FieldType)} {av : List Value} {w : va_W} {sz : Nat} : FrameBlind (cPc D tys av w sz) := by
  intro a U g mk q
  obtain ⟨q0, q1, q2, q3, q4⟩ := q
  exact ⟨q0, q1, q2, KK.same (s := U) (U := U.calling g mk a) rfl q3, q4⟩
theorem Ct.of {l : Launch} {y : MethodName} {ws ws' : List Cond} {rm : Room} {D : va_G} {tys : List (ClassId × FieldType)} {av : List Value} {w : va_W} {post : Option Value → va_W → Prop} {mc ms : Nat} {cc : ByteArray} {maxL : Nat} {ret : Option FieldType}
    (hy : plainName y.cls = true) (hw : ws = Cond.code y cc maxL ret :: ws') (hav : (lg_sl av).length ≤ maxL)
    (body : ∀ (p : Program) (e : Env) (s : State) (m : MethodId) (below : List Frame) (meth : Method) (c : Code) (A : Nat → Prop) (ls : Array Slot), Cx p s m av.toArray meth c cc maxL ret y.cls ws D tys A → meth.name = y.name → Hw D A s w s.heap [] → lv_has ls maxL (lv_args 0 av) →
      W p l e rm s m av.toArray below meth c s.heap [] 0 0 (MQ below (cQ D A post) av.toArray s mc ms A) (F0 m 0 ls [])) : Ct l y ws rm D tys av w post mc ms := by
  intro sz
  refine Met.ofW (cc := cc) (maxL := maxL) (ret := ret) hy hw ?_
  intro p e s m args below meth c s₁ B hml hv
  obtain ⟨rfl, hsz, hP, hK, hD0⟩ := hv
  subst hsz
  have hown : s.vm.findClass y.cls = some m.cls := findClass_of_methodNamed B.named
  have hD := hD0.self (sz := s.heap.size)
  have hA : ∀ q : Nat, s.heap.size ≤ q → va_A w s.heap.size q := fun q h => Or.inr h
  have hl := lv_entry av (n := maxL) hav
  rw [lg_entry_eq]
  exact body p e s m below meth c (va_A w s.heap.size) _ ⟨B.exec, B.bytes, hml, B.returns, hown, atoms_spec (ws := ws) B.pre, hK, hA, B.notSynchronized⟩ (name_of_methodNamed B.named B.method).1 ⟨hP, hD, va_S.rf⟩ hl
theorem Ct.post {l : Launch} {y : MethodName} {ws : List Cond} {rm : Room} {D : va_G} {tys : List (ClassId × FieldType)} {av : List Value} {w : va_W} {p1 p2 : Option Value → va_W → Prop} {mc ms : Nat} (h : Ct l y ws rm D tys av w p1 mc ms) (hp : ∀ v w', p1 v w' → p2 v w') : Ct l y ws rm D tys av w p2 mc ms := by
  intro sz p e ha hc hk s m args below hf happ hpre hK
  obtain ⟨k, o, h1, h2, h3, ⟨⟨⟨v, w', e1, e2, e3⟩, hF⟩, hL⟩⟩ := h sz p e ha hc hk s m args below hf happ hpre hK
  exact ⟨k, o, h1, h2, h3, ⟨⟨v, w', e1, hp v w' e2, e3⟩, hF⟩, hL⟩
/-! cells side by side -/
theorem g_mapC (x y : va_W) : (List.range' x.length y.length).map (fun i => (x ++ y)[i]?) = y.map some := by
  apply List.ext_getElem?
  intro k
  simp only [List.getElem?_map, List.getElem?_range']
  by_cases h : k < y.length
  · simp [h]
  · simp [h]
theorem g_mapR (x y : va_W) : (List.range x.length).map (fun i => (x ++ y)[i]?) = x.map some := by
  apply List.ext_getElem?
  intro k
  by_cases h : k < x.length
  · simp [h, List.getElem?_append_left h]
  · simp [h]
theorem g_nd : ∀ (l : List Nat), l.Nodup → va_nd l = true
  | [], _ => rfl
  | a :: l, h => by
    have h2 := List.nodup_cons.mp h
    simp only [va_nd, Bool.and_eq_true, decide_eq_true_eq]
    exact ⟨h2.1, g_nd l h2.2⟩
theorem g_cut {D : va_G} {A : Nat → Prop} {s : State} {pre wc suf : va_W} {H : Heap} {locs : List Loc} (HW : Hw D A s (pre ++ (wc ++ suf)) H locs) (hA : ∀ q : Nat, s.heap.size ≤ q → A q) :
    va_P D vwCl wc H ∧ va_D (fun _ => True) wc ∧ (∀ q, va_A wc H.size q → A q) ∧ ∀ (H1 : Heap) (w1 : va_W), (∀ q : Nat, q < H.size → ¬ va_A wc H.size q → H1[q]? = H[q]?) → va_P D vwCl w1 H1 → va_D (va_A wc H.size) w1 → va_P D vwCl (pre ++ (w1 ++ suf)) H1 ∧ va_D A (pre ++ (w1 ++ suf)) := by
  obtain ⟨hP, hD, hS⟩ := HW
  rw [← List.append_assoc] at hP hD
  have hP' : va_P D vwCl ((pre ++ suf) ++ wc) H := hP.swap
  have hD' : va_D A ((pre ++ suf) ++ wc) := hD.swap
  have hg : ∀ (k : Nat) (q : Nat × va_E), wc[k]? = some q → ((pre ++ suf) ++ wc)[(pre ++ suf).length + k]? = some q := by
    intro k q hk
    rw [List.getElem?_append_right (by omega), Nat.add_sub_cancel_left]
    exact hk
  have hPc : va_P D vwCl wc H := hP'.by _ hg
  have hDc : va_D A wc := hD'.by _ hg (fun i j _ _ h => by omega)
  have hF : ∀ q, va_A wc H.size q → A q := by
    intro q h
    rcases h with ⟨k, e, h⟩ | h
    · exact hDc.2 k _ h
    · exact hA q (Nat.le_trans hS.1 h)
  refine ⟨hPc, hDc.weaken (fun _ _ _ _ => trivial), hF, fun H1 w1 hk hP1 hD1 => ?_⟩
  obtain ⟨h1, h2⟩ := va_join (wc := wc) (wr := pre ++ suf) hP' hD' _ _ (g_mapC (pre ++ suf) wc) (g_mapR (pre ++ suf) wc) (g_nd _ List.nodup_range) (fun i hi hj => by
    have a1 := List.mem_range.mp hi
    have a2 := (List.mem_range'_1.mp hj).1
    omega) hk hF hP1 hD1
  have h3 := h1.swap
  have h4 := h2.swap
  rw [List.append_assoc] at h3 h4
  exact ⟨h3, h4⟩
section G
variable {p : Program} {l : Launch} {e : Env} {R : Room} {s : State} {m : MethodId} {args : Array Value} {below : List Frame} {meth : Method} {c : Code} {H : Heap} {locs : List Loc} {cells slots : Nat} {Q : State → Prop}
variable {cc : ByteArray} {pc nL : Nat} {ls : Array Slot} {rest : List Value} {ret : Option FieldType} {own : String} {Ts : List Cond} {D : va_G} {A : Nat → Prop} {a : Nat} {tys : List (ClassId × FieldType)} {w : va_W}
theorem g_get (CX : Cx p s m args meth c cc nL ret own Ts D tys A) (HW : Hw D A s w H locs) {C : String} {T : u_T} {N ci index : Nat} (hin : ∀ x ∈ u_ws C T N, x ∈ Ts) (q0 k : Nat) {fs : List Value} (he : w[q0]? = some (a, .inr (ci, fs))) (hc : vwCl[ci]? = some (C, T, N)) (hk : k < N) (hlink : Cond.fieldLink own index (T k).1 (T k).2.1 (T k).2.2.1 ∈ Ts) {v : Value} (hv : fs[k]? = some v) (hdg : decode cc pc = .ok (.getfield index, 3))
    (kk : W p l e R s m args below meth c H locs cells slots Q (F0 m (pc + 3) ls (v :: rest))) : W p l e R s m args below meth c H locs cells slots Q (F0 m pc ls (.ref a :: rest)) := by
  obtain ⟨hx, hb, hml, hr, hown, hts, hK, hA, hlk⟩ := CX
  exact va_get hx hb hts hin hown hK.1 HW.1 q0 he hc k hk (hts _ hlink) (fun _ h => h) hv hdg kk
theorem g_getN (CX : Cx p s m args meth c cc nL ret own Ts D tys A) (HW : Hw D A s w H locs) {C host : String} {T : u_T} {N ci index : Nat} (hin : ∀ x ∈ u_ws C T N, x ∈ Ts) (q0 k : Nat) {fs : List Value} (he : w[q0]? = some (a, .inr (ci, fs))) (hc : vwCl[ci]? = some (C, T, N)) (hk : k < N) (hlink : Cond.fieldLinkNest own index (T k).1 (T k).2.1 (T k).2.2.1 host ∈ nwl) {v : Value} (hv : fs[k]? = some v) (hdg : decode cc pc = .ok (.getfield index, 3))
    (kk : W p l e R s m args below meth c H locs cells slots Q (F0 m (pc + 3) ls (v :: rest))) : W p l e R s m args below meth c H locs cells slots Q (F0 m pc ls (.ref a :: rest)) := by
  obtain ⟨hx, hb, hml, hr, hown, hts, hK, hA, hlk⟩ := CX
  exact va_getN hx hb hts hin hown hK.1 HW.1 q0 he hc k hk (hK.use hlink) (fun _ h => h) hv hdg kk
theorem g_put (CX : Cx p s m args meth c cc nL ret own Ts D tys A) (HW : Hw D A s w H locs) {C : String} {T : u_T} {N ci index : Nat} (hin : ∀ x ∈ u_ws C T N, x ∈ Ts) (ty0 : Nat → FieldType) (hty : ∀ k, k < N → parseFieldDescriptor (T k).2.2.1 = some (ty0 k)) (hnm : ∀ a, a < N → ∀ b, b < N → a ≠ b → (T a).2.1 ≠ (T b).2.1) (q0 k : Nat) {fs : List Value} (he : w[q0]? = some (a, .inr (ci, fs))) (hc : vwCl[ci]? = some (C, T, N)) (hk : k < N) (hlink : Cond.fieldLink own index (T k).1 (T k).2.1 (T k).2.2.1 ∈ Ts) (hfin : (T k).2.2.2 = false) {v : Value} (hn : narrow (ty0 k) v = v) (hfit : fits (ty0 k) v = true) (hl : k < fs.length) (hdg : decode cc pc = .ok (.putfield index, 3))
    (kk : ∀ (H1 : Heap) (locs1 : List Loc), Hw D A s (w.set q0 (a, .inr (ci, fs.set k v))) H1 locs1 → W p l e R s m args below meth c H1 locs1 cells slots Q (F0 m (pc + 3) ls rest)) : W p l e R s m args below meth c H locs cells slots Q (F0 m pc ls (v :: .ref a :: rest)) := by
  obtain ⟨hx, hb, hml, hr, hown, hts, hK, hA, hlk⟩ := CX
  exact va_put hx hb hts hin ty0 hty hnm hown hK.1 HW.1 HW.2.1 HW.2.2 q0 he hc k hk (hts _ hlink) (fun _ h => h) hfin (hty k hk) hn hfit hl hdg (fun H1 l1 h1 h2 h3 => kk H1 l1 ⟨h1, h2, h3⟩)
theorem g_putN (CX : Cx p s m args meth c cc nL ret own Ts D tys A) (HW : Hw D A s w H locs) {C host : String} {T : u_T} {N ci index : Nat} (hin : ∀ x ∈ u_ws C T N, x ∈ Ts) (ty0 : Nat → FieldType) (hty : ∀ k, k < N → parseFieldDescriptor (T k).2.2.1 = some (ty0 k)) (hnm : ∀ a, a < N → ∀ b, b < N → a ≠ b → (T a).2.1 ≠ (T b).2.1) (q0 k : Nat) {fs : List Value} (he : w[q0]? = some (a, .inr (ci, fs))) (hc : vwCl[ci]? = some (C, T, N)) (hk : k < N) (hlink : Cond.fieldLinkNest own index (T k).1 (T k).2.1 (T k).2.2.1 host ∈ nwl) (hfin : (T k).2.2.2 = false) {v : Value} (hn : narrow (ty0 k) v = v) (hfit : fits (ty0 k) v = true) (hl : k < fs.length) (hdg : decode cc pc = .ok (.putfield index, 3))
    (kk : ∀ (H1 : Heap) (locs1 : List Loc), Hw D A s (w.set q0 (a, .inr (ci, fs.set k v))) H1 locs1 → W p l e R s m args below meth c H1 locs1 cells slots Q (F0 m (pc + 3) ls rest)) : W p l e R s m args below meth c H locs cells slots Q (F0 m pc ls (v :: .ref a :: rest)) := by
  obtain ⟨hx, hb, hml, hr, hown, hts, hK, hA, hlk⟩ := CX
  exact va_putN hx hb hts hin ty0 hty hnm hown hK.1 HW.1 HW.2.1 HW.2.2 q0 he hc k hk (hK.use hlink) (fun _ h => h) hfin (hty k hk) hn hfit hl hdg (fun H1 l1 h1 h2 h3 => kk H1 l1 ⟨h1, h2, h3⟩)
theorem g_putF (CX : Cx p s m args meth c cc nL ret own Ts D tys A) (hin2 : meth.name = "<init>") (HW : Hw D A s w H locs) {C : String} {T : u_T} {N ci index : Nat} (hin : ∀ x ∈ u_ws C T N, x ∈ Ts) (ty0 : Nat → FieldType) (hty : ∀ k, k < N → parseFieldDescriptor (T k).2.2.1 = some (ty0 k)) (hnm : ∀ a, a < N → ∀ b, b < N → a ≠ b → (T a).2.1 ≠ (T b).2.1) (q0 k : Nat) {fs : List Value} (he : w[q0]? = some (a, .inr (ci, fs))) (hc : vwCl[ci]? = some (C, T, N)) (hk : k < N) (hlink : Cond.fieldLink own index (T k).1 (T k).2.1 (T k).2.2.1 ∈ Ts) (hfin : (T k).2.2.2 = true) (hdecl : (T k).1 = own) {v : Value} (hn : narrow (ty0 k) v = v) (hfit : fits (ty0 k) v = true) (hl : k < fs.length) (hdg : decode cc pc = .ok (.putfield index, 3))
    (kk : ∀ (H1 : Heap) (locs1 : List Loc), Hw D A s (w.set q0 (a, .inr (ci, fs.set k v))) H1 locs1 → W p l e R s m args below meth c H1 locs1 cells slots Q (F0 m (pc + 3) ls rest)) : W p l e R s m args below meth c H locs cells slots Q (F0 m pc ls (v :: .ref a :: rest)) := by
  obtain ⟨hx, hb, hml, hr, hown, hts, hK, hA, hlk⟩ := CX
  exact va_putF hx hb hts hin ty0 hty hnm hown hK.1 HW.1 HW.2.1 HW.2.2 q0 he hc k hk (hts _ hlink) (fun _ h => h) hfin hin2 hdecl (hty k hk) hn hfit hl hdg (fun H1 l1 h1 h2 h3 => kk H1 l1 ⟨h1, h2, h3⟩)
theorem g_ald (CX : Cx p s m args meth c cc nL ret own Ts D tys A) (HW : Hw D A s w H locs) (q0 : Nat) {cA : ClassId} {n k : Nat} {f : Nat → Int32} (ha : w[q0]? = some (a, .inl (cA, n, .inl f))) (ht : tys[0]? = some (cA, .int)) {x : Int32} (hx0 : x = nI k) (hk : k < n) (hn : n < 2 ^ 31) (hdg : decode cc pc = .ok (.iaload, 1))
    (kk : W p l e R s m args below meth c H locs cells slots Q (F0 m (pc + 1) ls (.int (f k) :: rest))) : W p l e R s m args below meth c H locs cells slots Q (F0 m pc ls (.int x :: .ref a :: rest)) := by
  subst hx0
  obtain ⟨hx, hb, hml, hr, hown, hts, hK, hA, hlk⟩ := CX
  refine va_iald hx hb hK.1 HW.1 q0 0 ha ht (vp_in_nI hk hn) hdg ?_
  rw [nI_clamp (by omega)]
  exact kk
theorem g_ast (CX : Cx p s m args meth c cc nL ret own Ts D tys A) (HW : Hw D A s w H locs) (q0 : Nat) {cA : ClassId} {n k : Nat} {f : Nat → Int32} (ha : w[q0]? = some (a, .inl (cA, n, .inl f))) (ht : tys[0]? = some (cA, .int)) {x y : Int32} (hx0 : x = nI k) (hk : k < n) (hn : n < 2 ^ 31) (hdg : decode cc pc = .ok (.iastore, 1))
    (kk : ∀ (H1 : Heap) (locs1 : List Loc), Hw D A s (w.set q0 (a, .inl (cA, n, .inl (upd f k y)))) H1 locs1 → W p l e R s m args below meth c H1 locs1 cells slots Q (F0 m (pc + 1) ls rest)) : W p l e R s m args below meth c H locs cells slots Q (F0 m pc ls (.int y :: .int x :: .ref a :: rest)) := by
  subst hx0
  obtain ⟨hx, hb, hml, hr, hown, hts, hK, hA, hlk⟩ := CX
  refine va_iast hx hb hK.1 HW.1 HW.2.1 HW.2.2 q0 0 ha ht (vp_in_nI hk hn) hdg (fun H1 l1 h1 h2 h3 => kk H1 l1 ?_)
  rw [nI_clamp (by omega)] at h1 h2
  exact ⟨h1, h2, h3⟩
theorem g_len (CX : Cx p s m args meth c cc nL ret own Ts D tys A) (HW : Hw D A s w H locs) (q0 : Nat) {cA : ClassId} {n : Nat} {f : Nat → Int32} (ha : w[q0]? = some (a, .inl (cA, n, .inl f))) (ht : tys[0]? = some (cA, .int)) (hdg : decode cc pc = .ok (.arraylength, 1))
    (kk : W p l e R s m args below meth c H locs cells slots Q (F0 m (pc + 1) ls (.int (nI n) :: rest))) : W p l e R s m args below meth c H locs cells slots Q (F0 m pc ls (.ref a :: rest)) := by
  obtain ⟨hx, hb, hml, hr, hown, hts, hK, hA, hlk⟩ := CX
  exact va_alen hx hb hK.1 HW.1 q0 0 ha ht rfl hdg kk
theorem g_iret {post : Option Value → va_W → Prop} (CX : Cx p s m args meth c cc nL ret own Ts D tys A) (HW : Hw D A s w H locs) (hret : ret = some .int) {v : Int32} (hpost : post (some (.int v)) w) (hdg : decode cc pc = .ok (.ireturn, 1)) : W p l e R s m args below meth c H locs cells slots (MQ below (cQ D A post) args s cells slots A) (F0 m pc ls [.int v]) := by
  obtain ⟨hx, hb, hml, hr, hown, hts, hK, hA, hlk⟩ := CX
  exact W.iret hx hb (by rw [hr, hret]) (fun t ht hW => ⟨⟨_, w, rfl, hpost, by rw [ht]; exact HW.1, HW.2.1⟩, HW.2.2.F ht⟩) HW.2.2.2.2 hdg hlk
theorem g_zret {post : Option Value → va_W → Prop} (CX : Cx p s m args meth c cc nL ret own Ts D tys A) (HW : Hw D A s w H locs) (hret : ret = some .boolean) {v : Int32} (hn : v = 0 ∨ v = 1) (hpost : post (some (.int v)) w) (hdg : decode cc pc = .ok (.ireturn, 1)) : W p l e R s m args below meth c H locs cells slots (MQ below (cQ D A post) args s cells slots A) (F0 m pc ls [.int v]) := by
  obtain ⟨hx, hb, hml, hr, hown, hts, hK, hA, hlk⟩ := CX
  exact W.zret (ty := .boolean) hx hb (by rw [hr, hret]) (by rcases hn with rfl | rfl <;> rfl) (fun t ht hW => ⟨⟨_, w, rfl, hpost, by rw [ht]; exact HW.1, HW.2.1⟩, HW.2.2.F ht⟩) HW.2.2.2.2 hdg hlk
theorem g_lret {post : Option Value → va_W → Prop} (CX : Cx p s m args meth c cc nL ret own Ts D tys A) (HW : Hw D A s w H locs) (hret : ret = some .long) {v : Int64} (hpost : post (some (.long v)) w) (hdg : decode cc pc = .ok (.lreturn, 1)) : W p l e R s m args below meth c H locs cells slots (MQ below (cQ D A post) args s cells slots A) (F0 m pc ls [.long v]) := by
  obtain ⟨hx, hb, hml, hr, hown, hts, hK, hA, hlk⟩ := CX
  exact W.lret hx hb (by rw [hr, hret]) (fun t ht hW => ⟨⟨_, w, rfl, hpost, by rw [ht]; exact HW.1, HW.2.1⟩, HW.2.2.F ht⟩) HW.2.2.2.2 hdg hlk
theorem g_vret {post : Option Value → va_W → Prop} (CX : Cx p s m args meth c cc nL ret own Ts D tys A) (HW : Hw D A s w H locs) (hret : ret = none) (hpost : post none w) (hdg : decode cc pc = .ok (.return_, 1)) : W p l e R s m args below meth c H locs cells slots (MQ below (cQ D A post) args s cells slots A) (F0 m pc ls []) := by
  obtain ⟨hx, hb, hml, hr, hown, hts, hK, hA, hlk⟩ := CX
  exact W.vret hx hb (by rw [hr, hret]) (fun t ht hW => ⟨⟨_, w, rfl, hpost, by rw [ht]; exact HW.1, HW.2.1⟩, HW.2.2.F ht⟩) HW.2.2.2.2 hdg hlk
theorem g_run {pre wc suf : va_W} {post : Option Value → va_W → Prop} {st0 : List Value} {av : Array Value} {mc ms : Nat} (HW : Hw D A s w H locs) (hw : w = pre ++ (wc ++ suf)) (hA : ∀ q : Nat, s.heap.size ≤ q → A q)
    (hr : va_Run p l e R s m args below meth c H locs cells slots mc ms (F0 m pc ls st0) rest (cQ D (va_A wc H.size) post av) (va_A wc H.size))
    (kk : ∀ (v : Option Value) (w1 : va_W) (H1 : Heap) (locs1 : List Loc), post v w1 → Hw D A s (pre ++ (w1 ++ suf)) H1 locs1 → W p l e R s m args below meth c H1 locs1 (cells + mc) (slots + ms) Q (F0 m (pc + 3) ls (v.toList ++ rest))) : W p l e R s m args below meth c H locs cells slots Q (F0 m pc ls st0) := by
  subst hw
  intro T hT X
  obtain ⟨-, -, hF, hj⟩ := g_cut HW hA
  obtain ⟨hP, hD, hS⟩ := HW
  obtain ⟨v, st₀, t, T', L, h0, X', hL, e1, e2, ⟨⟨v', w1, hv, hp, hP1, hD1⟩, hz, hk⟩, st⟩ := hr T hT X
  cases hv
  rw [h0] at hz hk
  obtain ⟨j1, j2⟩ := hj t.heap w1 hk hP1 hD1
  rw [← e1] at j1 hz hk
  obtain ⟨t2, a1, b1⟩ := kk v w1 T'.heap (locs ++ L) hp ⟨j1, j2, Nat.le_trans hS.1 hz, fun q h1 h2 => (hk q (Nat.lt_of_lt_of_le h1 hS.1) (fun z => h2 (hF q z))).trans (hS.2.1 q h1 h2), fun q hq => by
      rcases List.mem_append.mp hq with h | h
      · exact hS.2.2 q h
      · exact hF _ (hL q h)⟩ T' rfl X'
  exact ⟨t2, st t2 a1, b1⟩
theorem Cx.fix (CX : Cx p s m args meth c cc nL ret own Ts D tys A) : CallFix p m c cc nL s args Ts own := ⟨CX.1, CX.2.1, CX.2.2.1, CX.2.2.2.2.1, CX.2.2.2.2.2.1⟩
theorem Cx.hA (CX : Cx p s m args meth c cc nL ret own Ts D tys A) : ∀ q : Nat, s.heap.size ≤ q → A q := CX.2.2.2.2.2.2.2.1
theorem Cx.hK (CX : Cx p s m args meth c cc nL ret own Ts D tys A) : KK D tys s := CX.2.2.2.2.2.2.1
theorem g_pre {pre wc suf : va_W} (CX : Cx p s m args meth c cc nL ret own Ts D tys A) (HW : Hw D A s w H locs) (hw : w = pre ++ (wc ++ suf)) (av : List Value) : PreS s H (cPc D tys av wc H.size) av := by
  subst hw
  obtain ⟨hPc, hDc, -, -⟩ := g_cut HW CX.hA
  exact ⟨cPc.blind, fun U hU hW => ⟨rfl, by rw [hU], by rw [hU]; exact hPc, CX.hK.warm hW, hDc⟩⟩
theorem g_preV {pre wc suf : va_W} (CX : Cx p s m args meth c cc nL ret own Ts D tys A) (HW : Hw D A s w H locs) (hw : w = pre ++ (wc ++ suf)) {b ci q0 : Nat} {fs : List Value} {C : String} {T : u_T} {N : Nat} (hc : vwCl[ci]? = some (C, T, N)) (he : wc[q0]? = some (b, .inr (ci, fs))) (As : List Value) : PreV s H C b (cPc D tys (.ref b :: As) wc H.size) As := by
  obtain ⟨h1, h2⟩ := g_pre CX HW hw (.ref b :: As)
  subst hw
  obtain ⟨hPc, hDc, -, -⟩ := g_cut HW CX.hA
  exact ⟨h1, va_recv CX.hK.1 hPc hc he, h2⟩
/-- an instance method's call: y's contract hc, over the cells wc; the others stay -/
theorem g_callV {y : MethodName} {index n maxL : Nat} {bytes : ByteArray} {rt : Option FieldType} {ws2 ws2' : List Cond} {rm2 : Room} {b ci : Nat} {fs : List Value} {C : String} {T : u_T} {N : Nat} {As st0 : List Value} {wc : va_W} {post : Option Value → va_W → Prop} (CX : Cx p s m args meth c cc nL ret own Ts D tys A) (HW : Hw D A s w H locs) (hl : ls.size = nL) (pre suf : va_W) (hc : Ct l y ws2 rm2 D tys (.ref b :: As) wc post 0 0) (hw : w = pre ++ (wc ++ suf)) (qr : Nat) (he : wc[qr]? = some (b, .inr (ci, fs))) (hci : vwCl[ci]? = some (C, T, N))
    (hG : GoodIn Ts (wsV own index C y ws2)) (hy : ws2 = Cond.code y bytes maxL rt :: ws2') (hd : y.cls = C ∧ y.cls ≠ "java/lang/invoke/MethodHandle" ∧ y.cls ≠ "java/lang/invoke/VarHandle" ∧ (parseMethodDescriptor y.desc).map (fun d => d.parameters.length) = some n) (hR : rm2.cells = 0 ∧ rm2.slots = 0 ∧ rm2.frames + 1 ≤ R.frames ∧ 8 + (maxL + 11) + rm2.locals ≤ R.locals) (hcs : cells ≤ R.cells ∧ slots ≤ R.slots) (hn : As.length = n) (hst : st0 = As.reverse ++ .ref b :: rest) (hW : (rest.map fun v => v.category).sum ≤ 8) (hdg : decode cc pc = .ok (.invokevirtual index, 3))
    (kk : ∀ (v : Option Value) (w1 : va_W) (H1 : Heap) (locs1 : List Loc), post v w1 → Hw D A s (pre ++ (w1 ++ suf)) H1 locs1 → W p l e R s m args below meth c H1 locs1 cells slots Q (F0 m (pc + 3) ls (v.toList ++ rest))) : W p l e R s m args below meth c H locs cells slots Q (F0 m pc ls st0) :=
  g_run HW hw CX.hA (va_runV CX.fix (hc H.size) (cwV n CX.fix.2.2.2.2 hG hy hR.1 hR.2.1 hd ⟨hR.2.2.1, hR.2.2.2⟩) (g_preV CX HW hw hci he As) rfl hn hl hst (lv_room hW) hdg hcs) kk
/-- a static method of the same class -/
theorem g_callS {y : MethodName} {index n maxL : Nat} {bytes : ByteArray} {rt : Option FieldType} {ws2 ws2' : List Cond} {rm2 : Room} {As st0 : List Value} {wc : va_W} {post : Option Value → va_W → Prop} (CX : Cx p s m args meth c cc nL ret own Ts D tys A) (HW : Hw D A s w H locs) (hl : ls.size = nL) (pre suf : va_W) (hc : Ct l y ws2 rm2 D tys As wc post 0 0) (hw : w = pre ++ (wc ++ suf))
    (hG : GoodIn Ts (va_wsS own index y ws2)) (hy : ws2 = Cond.code y bytes maxL rt :: ws2') (hd : y.cls ≠ "java/lang/invoke/MethodHandle" ∧ y.cls ≠ "java/lang/invoke/VarHandle" ∧ (parseMethodDescriptor y.desc).map (fun d => d.parameters.length) = some n) (hR : rm2.cells = 0 ∧ rm2.slots = 0 ∧ rm2.frames + 1 ≤ R.frames ∧ 8 + (maxL + 11) + rm2.locals ≤ R.locals) (hcs : cells ≤ R.cells ∧ slots ≤ R.slots) (hn : As.length = n) (hst : st0 = As.reverse ++ rest) (hW : (rest.map fun v => v.category).sum ≤ 8) (hdg : decode cc pc = .ok (.invokestatic index, 3))
    (kk : ∀ (v : Option Value) (w1 : va_W) (H1 : Heap) (locs1 : List Loc), post v w1 → Hw D A s (pre ++ (w1 ++ suf)) H1 locs1 → W p l e R s m args below meth c H1 locs1 cells slots Q (F0 m (pc + 3) ls (v.toList ++ rest))) : W p l e R s m args below meth c H locs cells slots Q (F0 m pc ls st0) :=
  g_run HW hw CX.hA (va_runS CX.fix (hc H.size) (va_cwS n CX.fix.2.2.2.2 hG hy hR.1 hR.2.1 hd ⟨hR.2.2.1, hR.2.2.2⟩) (g_pre CX HW hw As) rfl hn hl hst (lv_room hW) hdg hcs) kk
/-- a private static method of a nest mate -/
theorem g_callSN {y : MethodName} {host : String} {index n maxL : Nat} {bytes : ByteArray} {rt : Option FieldType} {ws2 ws2' : List Cond} {rm2 : Room} {As st0 : List Value} {wc : va_W} {post : Option Value → va_W → Prop} (CX : Cx p s m args meth c cc nL ret own Ts D tys A) (HW : Hw D A s w H locs) (hl : ls.size = nL) (pre suf : va_W) (hc : Ct l y ws2 rm2 D tys As wc post 0 0) (hw : w = pre ++ (wc ++ suf))
    (hG : GoodIn Ts ws2) (hin : Cond.initialized y.cls ∈ Ts ∧ Cond.static y ∈ Ts) (hlk : Cond.methodLinkNest own index y host ∈ nwl) (hy : ws2 = Cond.code y bytes maxL rt :: ws2') (hd : y.cls ≠ "java/lang/invoke/MethodHandle" ∧ y.cls ≠ "java/lang/invoke/VarHandle" ∧ (parseMethodDescriptor y.desc).map (fun d => d.parameters.length) = some n) (hR : rm2.cells = 0 ∧ rm2.slots = 0 ∧ rm2.frames + 1 ≤ R.frames ∧ 8 + (maxL + 11) + rm2.locals ≤ R.locals) (hcs : cells ≤ R.cells ∧ slots ≤ R.slots) (hn : As.length = n) (hst : st0 = As.reverse ++ rest) (hW : (rest.map fun v => v.category).sum ≤ 8) (hdg : decode cc pc = .ok (.invokestatic index, 3))
    (kk : ∀ (v : Option Value) (w1 : va_W) (H1 : Heap) (locs1 : List Loc), post v w1 → Hw D A s (pre ++ (w1 ++ suf)) H1 locs1 → W p l e R s m args below meth c H1 locs1 cells slots Q (F0 m (pc + 3) ls (v.toList ++ rest))) : W p l e R s m args below meth c H locs cells slots Q (F0 m pc ls st0) :=
  g_run HW hw CX.hA (va_runSN (host := host) CX.fix (hc H.size) ⟨va_cnB n CX.fix.2.2.2.2 hG hy hR.1 hR.2.1 (CX.hK.nest hlk) (CX.fix.2.2.2.2 _ hin.1) hd ⟨hR.2.2.1, hR.2.2.2⟩, CX.fix.2.2.2.2 _ hin.2, trivial⟩ (g_pre CX HW hw As) rfl hn hl hst (lv_room hW) hdg hcs) kk
end G
end
section
abbrev ty2 (cI cL : ClassId) : List (ClassId × FieldType) := [(cI, .int), (cL, .long)]
theorem inc1 (n : Nat) : nI n + Int32.ofInt 1 = nI (n + 1) := nI_1 n
theorem inc1x (x : Int32) : x + Int32.ofInt 1 = x + 1 := rfl
theorem nI_lt_of {a b : Nat} (ha : a < 2 ^ 31) (hb : b < 2 ^ 31) (h : ¬ nI a ≤ nI b) : b < a := Nat.lt_of_not_le fun h2 => h ((nI_leI ha hb).mpr h2)
/-- a truth as the machine has it -/
def bI (P : Prop) [Decidable P] : Int32 := if P then 1 else 0
theorem bI_t {P : Prop} [Decidable P] (h : P) : bI P = 1 := if_pos h
theorem bI_f {P : Prop} [Decidable P] (h : ¬ P) : bI P = 0 := if_neg h
theorem bI_01 (P : Prop) [Decidable P] : bI P = 0 ∨ bI P = 1 := by by_cases h : P <;> simp [bI, h]
theorem bI_iff {P : Prop} [Decidable P] : bI P = 0 ↔ ¬ P := by by_cases h : P <;> simp [bI, h]
theorem bI_c {P R : Prop} [Decidable P] [Decidable R] (h : P ↔ R) : bI P = bI R := by by_cases h1 : P <;> simp [bI, h1, ← h]
/-- a number or none, as the machine has it -/
def oI (r : Option Nat) : Int32 := match r with
  | none => -1
  | some k => nI k
section GB
variable {p : Program} {l : Launch} {e : Env} {R : Room} {s : State} {m : MethodId} {args : Array Value} {below : List Frame} {meth : Method} {c : Code} {H : Heap} {locs : List Loc} {cells slots : Nat} {Q : State → Prop} {cc : ByteArray} {pc : Nat} {ls : Array Slot} {rest : List Value}
theorem g_top {x y : Int32} (h : x = y) (kk : W p l e R s m args below meth c H locs cells slots Q (F0 m pc ls (.int y :: rest))) : W p l e R s m args below meth c H locs cells slots Q (F0 m pc ls (.int x :: rest)) := by
  rw [h]; exact kk
theorem g_ifne_b {P : Prop} [Decidable P] (hx : p.tables.exec = Jvm.exec) (hb : c.code = cc) {off : Int} {tgt : Nat} (hdg : decode cc pc = .ok (.ifCond .ne off, 3)) (ht : (pc : Int) + off = (tgt : Int))
    (kt : P → W p l e R s m args below meth c H locs cells slots Q (F0 m tgt ls rest)) (kf : ¬ P → W p l e R s m args below meth c H locs cells slots Q (F0 m (pc + 3) ls rest)) : W p l e R s m args below meth c H locs cells slots Q (F0 m pc ls (.int (bI P) :: rest)) :=
  lv_if_ne hx hb hdg ht (fun h => kt (Decidable.byContradiction fun q => h (bI_f q))) (fun h => kf (fun q => absurd h (by rw [bI_t q]; decide)))
theorem g_ifeq_b {P : Prop} [Decidable P] (hx : p.tables.exec = Jvm.exec) (hb : c.code = cc) {off : Int} {tgt : Nat} (hdg : decode cc pc = .ok (.ifCond .eq off, 3)) (ht : (pc : Int) + off = (tgt : Int))
    (kt : ¬ P → W p l e R s m args below meth c H locs cells slots Q (F0 m tgt ls rest)) (kf : P → W p l e R s m args below meth c H locs cells slots Q (F0 m (pc + 3) ls rest)) : W p l e R s m args below meth c H locs cells slots Q (F0 m pc ls (.int (bI P) :: rest)) :=
  lv_if_eq hx hb hdg ht (fun h => kt (fun q => by rw [bI_t q] at h; exact absurd h (by decide))) (fun h => kf (Decidable.byContradiction fun q => h (bI_f q)))
end GB
def wR (cI : ClassId) (a : Nat → Nat) (o : Nat) (n : Nat) (tw : Nat → Int32) (sl : Nat → Int32) (dp : Nat → Int32) (kd : Nat → Int32) : va_W := [((a o), .inr (0, [.int (nI n), .ref (a (o + 1)), .ref (a (o + 2)), .ref (a (o + 3)), .ref (a (o + 4))])), ((a (o + 1)), .inl (cI, 6, .inl tw)), ((a (o + 2)), .inl (cI, 6, .inl sl)), ((a (o + 3)), .inl (cI, 6, .inl dp)), ((a (o + 4)), .inl (cI, 6, .inl kd))]
def wS (cI : ClassId) (a : Nat → Nat) (o : Nat) (n : Nat) (sk : Nat → Int32) (cn : Nat → Int32) (wx : Nat → Int32) (ly : Nat → Int32) (pt : Nat → Int32) (rd : Nat → Int32) (qt : Nat → Int32) (qp : Nat → Int32) : va_W := [((a o), .inr (1, [.int (nI n), .ref (a (o + 1)), .ref (a (o + 2)), .ref (a (o + 3)), .ref (a (o + 4)), .ref (a (o + 5)), .ref (a (o + 6)), .ref (a (o + 7)), .ref (a (o + 8))])), ((a (o + 1)), .inl (cI, 8, .inl sk)), ((a (o + 2)), .inl (cI, 8, .inl cn)), ((a (o + 3)), .inl (cI, 8, .inl wx)), ((a (o + 4)), .inl (cI, 8, .inl ly)), ((a (o + 5)), .inl (cI, 8, .inl pt)), ((a (o + 6)), .inl (cI, 8, .inl rd)), ((a (o + 7)), .inl (cI, 8, .inl qt)), ((a (o + 8)), .inl (cI, 8, .inl qp))]
def wVo (cI : ClassId) (a : Nat → Nat) (o : Nat) (hr : Nat) (co : Int32) (fl : Nat → Int32) (po : Nat → Int32) (pu : Nat → Int32) : va_W := [((a o), .inr (2, [.int (nI hr), .int co, .ref (a (o + 1)), .ref (a (o + 2)), .ref (a (o + 3)), .ref (a (o + 4)), .ref (a (o + 9))])), ((a (o + 1)), .inl (cI, 6, .inl fl)), ((a (o + 2)), .inl (cI, 3, .inl po)), ((a (o + 3)), .inl (cI, 3, .inl pu))]
def wXo (cI : ClassId) (a : Nat → Nat) (o : Nat) : va_W := [((a o), .inr (3, [.ref (a (o + 1)), .ref (a (o + 19))]))]
def wMo (cI : ClassId) (a : Nat → Nat) (o : Nat) (th : Int32) (fl : Nat → Int32) (po : Nat → Int32) (nr : Nat) (tw : Nat → Int32) (sl : Nat → Int32) (ns : Nat) (sk : Nat → Int32) : va_W := [((a o), .inr (5, [.int th, .ref (a (o + 1)), .ref (a (o + 2)), .int (nI nr), .ref (a (o + 3)), .ref (a (o + 4)), .int (nI ns), .ref (a (o + 5)), .ref (a (o + 6)), .ref (a (o + 17))])), ((a (o + 1)), .inl (cI, 6, .inl fl)), ((a (o + 2)), .inl (cI, 3, .inl po)), ((a (o + 3)), .inl (cI, 6, .inl tw)), ((a (o + 4)), .inl (cI, 6, .inl sl)), ((a (o + 5)), .inl (cI, 8, .inl sk))]
def wMS (cI : ClassId) (a : Nat → Nat) (o : Nat) (mo : Nat) (hr : Nat) (co : Int32) (ri : Int32) (dp : Nat → Int32) (kd : Nat → Int32) (cn : Nat → Int32) (wx : Nat → Int32) (ly : Nat → Int32) (pt : Nat → Int32) (rd : Nat → Int32) (pu : Nat → Int32) (my : Nat → Int32) (qu : Nat → Int32) : va_W := [((a o), .inr (4, [.int (nI hr), .int co, .int ri, .ref (a (o + 1)), .ref (a (o + 2)), .ref (a (o + 3)), .ref (a (o + 4)), .ref (a (o + 5)), .ref (a (o + 6)), .ref (a (o + 7)), .ref (a (o + 8)), .ref (a (o + 9)), .ref (a (o + 10)), .ref mo])), ((a (o + 1)), .inl (cI, 6, .inl dp)), ((a (o + 2)), .inl (cI, 6, .inl kd)), ((a (o + 3)), .inl (cI, 8, .inl cn)), ((a (o + 4)), .inl (cI, 8, .inl wx)), ((a (o + 5)), .inl (cI, 8, .inl ly)), ((a (o + 6)), .inl (cI, 8, .inl pt)), ((a (o + 7)), .inl (cI, 8, .inl rd)), ((a (o + 8)), .inl (cI, 3, .inl pu)), ((a (o + 9)), .inl (cI, 3, .inl my)), ((a (o + 10)), .inl (cI, 24, .inl qu))]
theorem pI_t {P : Prop} [Decidable P] (h : P) : some (Value.int 1) = some (Value.int (bI P)) := by rw [bI_t h]
theorem pI_f {P : Prop} [Decidable P] (h : ¬ P) : some (Value.int 0) = some (Value.int (bI P)) := by rw [bI_f h]
theorem has_nat {x : Int32} {n : Nat} (hn : n < 2 ^ 31) (h : 0 ≤ x ∧ x < nI n) : ∃ k : Nat, k < n ∧ x = nI k := by
  obtain ⟨j, hj, rfl⟩ := nI_of (Int32.not_lt.mpr h.1)
  exact ⟨j, (nI_ltI hj hn).mp h.2, rfl⟩
/-- held between two numbers -/
def heldI (x lo hi : Int32) : Int32 := if lo < (if x < hi then x else hi) then (if x < hi then x else hi) else lo
/-- a run is open -/
abbrev opn (dp sl : Nat → Int32) (r : Nat) : Prop := 5 ≤ dp r ∧ dp r * sl r < 300
def bsl (sl : Nat → Int32) (b : Option Nat) : Int32 := match b with
  | none => 0
  | some k => sl k
/-- of the first n runs the choice at the tow t up to the slope lim -/
def bestR (tw sl dp : Nat → Int32) (t lim : Int32) : Nat → Option Nat
  | 0 => none
  | r + 1 => if tw r = t ∧ sl r ≤ lim ∧ opn dp sl r ∧ bsl sl (bestR tw sl dp t lim r) < sl r then some r else bestR tw sl dp t lim r
theorem bestR_lt {tw sl dp : Nat → Int32} {t lim : Int32} : ∀ {n r : Nat}, bestR tw sl dp t lim n = some r → r < n := by
  intro n
  induction n with
  | zero => intro r h; simp [bestR] at h
  | succ n ih =>
    intro r h
    simp only [bestR] at h
    split at h
    · cases h; omega
    · have := ih h; omega
/-- of the first n runs those that are flagged -/
def flagN (dp sl : Nat → Int32) : Nat → Int32
  | 0 => 0
  | r + 1 => if opn dp sl r then flagN dp sl r else flagN dp sl r + 1
/-- the first n runs are deeper by x -/
def dpAll (dp : Nat → Int32) (x : Int32) (n : Nat) : Nat → Int32 := fun r => if r < n then heldI (dp r + x) 0 90 else dp r
theorem dpAll_0 (dp : Nat → Int32) (x : Int32) : dpAll dp x 0 = dp := by
  funext r; simp [dpAll]
theorem dpAll_s (dp : Nat → Int32) (x : Int32) (i : Nat) : upd (dpAll dp x i) i (heldI (dpAll dp x i i + x) 0 90) = dpAll dp x (i + 1) := by
  funext r
  simp only [upd, dpAll]
  by_cases h : r = i
  · subst h; simp
  · simp only [h, if_false]
    by_cases h2 : r < i
    · simp [h2, show r < i + 1 by omega]
    · simp [h2, show ¬ r < i + 1 by omega]
def snowI (f : Nat) : Int32 := if f = 0 then 4 else if f = 1 then 0 else if f = 2 then -2 else -1
def mixI (d : Int64) (x : Int32) : Int64 := d * 31 + x.toInt64
def rI (f : Nat → Int32) : Nat → Int32 := f
def figR (tw sl dp kd : Nat → Int32) (r what : Nat) : Int32 := match what with
  | 0 => tw r
  | 1 => sl r
  | 2 => dp r
  | 3 => if opn dp sl r then 0 else 1
  | _ => kd r

theorem hd_X3_isWithin : yX3_isWithin.cls ≠ "java/lang/invoke/MethodHandle" ∧ yX3_isWithin.cls ≠ "java/lang/invoke/VarHandle" ∧ (parseMethodDescriptor yX3_isWithin.desc).map (fun d => d.parameters.length) = some 3 := by decide +kernel
set_option maxRecDepth 100000 in
set_option maxHeartbeats 4000000 in
theorem c_X3_isWithin {l : Launch} {D : va_G} {cI cL : ClassId} (x : Int32) (lo : Int32) (hi : Int32) : Ct l yX3_isWithin wsX3_isWithin { frames := 0, cells := 0, slots := 0, locals := 0 } D (ty2 cI cL) [.int x, .int lo, .int hi] ([]) (fun v w' => v = some (.int (bI (lo ≤ x ∧ x ≤ hi))) ∧ w' = []) 0 0 := by
  refine Ct.of (cc := cX3_isWithin) (maxL := 3) (ret := (some .boolean)) (by decide) rfl (Nat.le_of_ble_eq_true rfl) ?_
  intro p e s m below meth c A ls CX hin HW hl
  obtain ⟨hx, hb, hml, hr, hown, hts, hK, hA, hlk⟩ := id CX
  have hl : lv_has ls 3 [(0, .int x), (1, .int lo), (2, .int hi)] := hl
  refine lv_iload_n hx hb dX3_isWithin_0 rfl (lv_at hl 0 rfl) ?_
  refine lv_iload_n hx hb dX3_isWithin_1 rfl (lv_at hl 1 rfl) ?_
  refine lv_icmp_lt (tgt := 14) hx hb dX3_isWithin_2 (by decide) (fun c2 => ?_) (fun c2 => ?_)
  · refine lv_iconst (v := 0) hx hb dX3_isWithin_14 (by decide) ?_
    exact g_zret CX HW rfl (Or.inl rfl) ⟨pI_f (by intro h9; first | exact absurd c2 (Int32.not_lt.mpr h9.1) | exact absurd c7 (Int32.not_lt.mpr h9.2)), rfl⟩ dX3_isWithin_15
  · refine lv_iload_n hx hb dX3_isWithin_5 rfl (lv_at hl 0 rfl) ?_
    refine lv_iload_n hx hb dX3_isWithin_6 rfl (lv_at hl 2 rfl) ?_
    refine lv_icmp_gt (tgt := 14) hx hb dX3_isWithin_7 (by decide) (fun c7 => ?_) (fun c7 => ?_)
    · refine lv_iconst (v := 0) hx hb dX3_isWithin_14 (by decide) ?_
      exact g_zret CX HW rfl (Or.inl rfl) ⟨pI_f (by intro h9; first | exact absurd c2 (Int32.not_lt.mpr h9.1) | exact absurd c7 (Int32.not_lt.mpr h9.2)), rfl⟩ dX3_isWithin_15
    · refine lv_iconst (v := 1) hx hb dX3_isWithin_10 (by decide) ?_
      refine lv_goto (tgt := 15) hx hb dX3_isWithin_11 (by decide) ?_
      exact g_zret CX HW rfl (Or.inr rfl) ⟨pI_t ⟨Int32.not_lt.mp c2, Int32.not_lt.mp c7⟩, rfl⟩ dX3_isWithin_15

theorem hd_X3_held : yX3_held.cls ≠ "java/lang/invoke/MethodHandle" ∧ yX3_held.cls ≠ "java/lang/invoke/VarHandle" ∧ (parseMethodDescriptor yX3_held.desc).map (fun d => d.parameters.length) = some 3 := by decide +kernel
theorem mm_X3_held_194 : Cond.methodLink RX3 194 Lib.Math.min.name ∈ wsX3_held ∧ Cond.static Lib.Math.min.name ∈ wsX3_held ∧ Cond.initialized "java/lang/Math" ∈ wsX3_held ∧ Cond.code Lib.Math.min.name Lib.Math.min.code 2 (some .int) ∈ wsX3_held := ⟨by decide +kernel, by decide +kernel, by decide +kernel, by decide +kernel⟩
theorem mm_X3_held_199 : Cond.methodLink RX3 199 Lib.Math.max.name ∈ wsX3_held ∧ Cond.static Lib.Math.max.name ∈ wsX3_held ∧ Cond.initialized "java/lang/Math" ∈ wsX3_held ∧ Cond.code Lib.Math.max.name Lib.Math.max.code 2 (some .int) ∈ wsX3_held := ⟨by decide +kernel, by decide +kernel, by decide +kernel, by decide +kernel⟩
set_option maxRecDepth 100000 in
set_option maxHeartbeats 4000000 in
theorem c_X3_held {l : Launch} {D : va_G} {cI cL : ClassId} (x : Int32) (lo : Int32) (hi : Int32) : Ct l yX3_held wsX3_held { frames := 1, cells := 0, slots := 0, locals := 24 } D (ty2 cI cL) [.int x, .int lo, .int hi] ([]) (fun v w' => v = some (.int (heldI x lo hi)) ∧ w' = []) 0 0 := by
  refine Ct.of (cc := cX3_held) (maxL := 3) (ret := (some .int)) (by decide) rfl (Nat.le_of_ble_eq_true rfl) ?_
  intro p e s m below meth c A ls CX hin HW hl
  obtain ⟨hx, hb, hml, hr, hown, hts, hK, hA, hlk⟩ := id CX
  have hl : lv_has ls 3 [(0, .int x), (1, .int lo), (2, .int hi)] := hl
  refine lv_iload_n hx hb dX3_held_0 rfl (lv_at hl 1 rfl) ?_
  refine lv_iload_n hx hb dX3_held_1 rfl (lv_at hl 2 rfl) ?_
  refine lv_iload_n hx hb dX3_held_2 rfl (lv_at hl 0 rfl) ?_
  refine va_mmin hx hb (hml.trans hl.1.symm) hown (hts _ mm_X3_held_194.1) (hts _ mm_X3_held_194.2.1) (hts _ mm_X3_held_194.2.2.1) (hts _ mm_X3_held_194.2.2.2) (Nat.le_of_ble_eq_true rfl) (Nat.le_of_ble_eq_true rfl) (Nat.zero_le _) (Nat.zero_le _) dX3_held_3 ?_
  refine va_mmax hx hb (hml.trans hl.1.symm) hown (hts _ mm_X3_held_199.1) (hts _ mm_X3_held_199.2.1) (hts _ mm_X3_held_199.2.2.1) (hts _ mm_X3_held_199.2.2.2) (Nat.le_of_ble_eq_true rfl) (Nat.le_of_ble_eq_true rfl) (Nat.zero_le _) (Nat.zero_le _) dX3_held_6 ?_
  exact g_iret CX HW rfl ⟨rfl, rfl⟩ dX3_held_9

theorem hd_X3_snowOf : yX3_snowOf.cls ≠ "java/lang/invoke/MethodHandle" ∧ yX3_snowOf.cls ≠ "java/lang/invoke/VarHandle" ∧ (parseMethodDescriptor yX3_snowOf.desc).map (fun d => d.parameters.length) = some 1 := by decide +kernel
set_option maxRecDepth 100000 in
set_option maxHeartbeats 4000000 in
theorem c_X3_snowOf {l : Launch} {D : va_G} {cI cL : ClassId} (f : Nat) (hf : f < 4) : Ct l yX3_snowOf wsX3_snowOf { frames := 0, cells := 0, slots := 0, locals := 0 } D (ty2 cI cL) [.int (nI f)] ([]) (fun v w' => v = some (.int (snowI f)) ∧ w' = []) 0 0 := by
  refine Ct.of (cc := cX3_snowOf) (maxL := 1) (ret := (some .int)) (by decide) rfl (Nat.le_of_ble_eq_true rfl) ?_
  intro p e s m below meth c A ls CX hin HW hl
  obtain ⟨hx, hb, hml, hr, hown, hts, hK, hA, hlk⟩ := id CX
  have hl : lv_has ls 1 [(0, .int (nI f))] := hl
  refine lv_iload_n hx hb dX3_snowOf_0 rfl (lv_at hl 0 rfl) ?_
  rcases (by omega : f = 0 ∨ f = 1 ∨ f = 2 ∨ f = 3) with rfl | rfl | rfl | rfl
  · refine lv_tableIn (off := 31) (tgt := 32) hx hb dX3_snowOf_1 (by decide) (by decide) (by decide) (by decide) ?_
    refine lv_iconst (v := 4) hx hb dX3_snowOf_32 (by decide) ?_
    exact g_iret CX HW rfl ⟨rfl, rfl⟩ dX3_snowOf_33
  · refine lv_tableIn (off := 38) (tgt := 39) hx hb dX3_snowOf_1 (by decide) (by decide) (by decide) (by decide) ?_
    refine lv_iconst (v := 0) hx hb dX3_snowOf_39 (by decide) ?_
    exact g_iret CX HW rfl ⟨rfl, rfl⟩ dX3_snowOf_40
  · refine lv_tableIn (off := 33) (tgt := 34) hx hb dX3_snowOf_1 (by decide) (by decide) (by decide) (by decide) ?_
    refine lv_bipush (v := (-2)) hx hb dX3_snowOf_34 (by decide) ?_
    exact g_iret CX HW rfl ⟨rfl, rfl⟩ dX3_snowOf_36
  · refine lv_tableIn (off := 36) (tgt := 37) hx hb dX3_snowOf_1 (by decide) (by decide) (by decide) (by decide) ?_
    refine lv_iconst (v := (-1)) hx hb dX3_snowOf_37 (by decide) ?_
    exact g_iret CX HW rfl ⟨rfl, rfl⟩ dX3_snowOf_38

theorem hd_X3_mixed : yX3_mixed.cls ≠ "java/lang/invoke/MethodHandle" ∧ yX3_mixed.cls ≠ "java/lang/invoke/VarHandle" ∧ (parseMethodDescriptor yX3_mixed.desc).map (fun d => d.parameters.length) = some 2 := by decide +kernel
theorem cl_X3_mixed_192 : Cond.constantLong RX3 192 (31) ∈ wsX3_mixed := by decide +kernel
set_option maxRecDepth 100000 in
set_option maxHeartbeats 4000000 in
theorem c_X3_mixed {l : Launch} {D : va_G} {cI cL : ClassId} (d : Int64) (x : Int32) : Ct l yX3_mixed wsX3_mixed { frames := 0, cells := 0, slots := 0, locals := 0 } D (ty2 cI cL) [.long d, .int x] ([]) (fun v w' => v = some (.long (mixI d x)) ∧ w' = []) 0 0 := by
  refine Ct.of (cc := cX3_mixed) (maxL := 3) (ret := (some .long)) (by decide) rfl (Nat.le_of_ble_eq_true rfl) ?_
  intro p e s m below meth c A ls CX hin HW hl
  obtain ⟨hx, hb, hml, hr, hown, hts, hK, hA, hlk⟩ := id CX
  have hl : lv_has ls 3 [(0, .long d), (2, .int x)] := hl
  refine lv_lload_n hx hb dX3_mixed_0 rfl (lv_at hl 0 rfl) ?_
  refine lv_ldc2 hx hb hown (hts _ cl_X3_mixed_192) dX3_mixed_1 ?_
  refine lv_lmul hx hb dX3_mixed_4 ?_
  refine lv_iload_n hx hb dX3_mixed_5 rfl (lv_at hl 1 rfl) ?_
  refine lv_i2l (v := Int32.toInt64 x) hx hb dX3_mixed_6 rfl ?_
  refine lv_ladd hx hb dX3_mixed_7 ?_
  exact g_lret CX HW rfl ⟨rfl, rfl⟩ dX3_mixed_8

theorem hd_X0_has : yX0_has.cls ≠ "java/lang/invoke/MethodHandle" ∧ yX0_has.cls ≠ "java/lang/invoke/VarHandle" ∧ (parseMethodDescriptor yX0_has.desc).map (fun d => d.parameters.length) = some 1 := by decide +kernel
theorem fl_X0_has_9 : Cond.fieldLink RX0 9 (TX0 0).1 (TX0 0).2.1 (TX0 0).2.2.1 ∈ wsX0_has := by decide +kernel
theorem in_X0_has_0 : ∀ x ∈ u_ws RX0 TX0 5, x ∈ wsX0_has := by decide +kernel
set_option maxRecDepth 100000 in
set_option maxHeartbeats 4000000 in
theorem c_X0_has {l : Launch} {D : va_G} {cI cL : ClassId} {a : Nat → Nat} (o : Nat) (n : Nat) (tw : Nat → Int32) (sl : Nat → Int32) (dp : Nat → Int32) (kd : Nat → Int32) (x : Int32) : Ct l yX0_has wsX0_has { frames := 0, cells := 0, slots := 0, locals := 0 } D (ty2 cI cL) [.ref (a o), .int x] (wR cI a o n tw sl dp kd) (fun v w' => v = some (.int (bI (0 ≤ x ∧ x < nI n))) ∧ w' = wR cI a o n tw sl dp kd) 0 0 := by
  refine Ct.of (cc := cX0_has) (maxL := 2) (ret := (some .boolean)) (by decide) rfl (Nat.le_of_ble_eq_true rfl) ?_
  intro p e s m below meth c A ls CX hin HW hl
  obtain ⟨hx, hb, hml, hr, hown, hts, hK, hA, hlk⟩ := id CX
  have hl : lv_has ls 2 [(0, .ref (a o)), (1, .int x)] := hl
  refine lv_iload_n hx hb dX0_has_0 rfl (lv_at hl 1 rfl) ?_
  refine lv_if_lt (tgt := 16) hx hb dX0_has_1 (by decide) (fun c1 => ?_) (fun c1 => ?_)
  · refine lv_iconst (v := 0) hx hb dX0_has_16 (by decide) ?_
    exact g_zret CX HW rfl (Or.inl rfl) ⟨pI_f (by intro h9; first | exact absurd c1 (Int32.not_lt.mpr h9.1) | exact absurd c9 (Int32.not_le.mpr h9.2)), rfl⟩ dX0_has_17
  · refine lv_iload_n hx hb dX0_has_4 rfl (lv_at hl 1 rfl) ?_
    refine lv_aload_n hx hb dX0_has_5 rfl (lv_at hl 0 rfl) ?_
    refine g_get CX HW in_X0_has_0 0 0 rfl rfl (Nat.le_of_ble_eq_true rfl) fl_X0_has_9 rfl dX0_has_6 ?_
    refine lv_icmp_ge (tgt := 16) hx hb dX0_has_9 (by decide) (fun c9 => ?_) (fun c9 => ?_)
    · refine lv_iconst (v := 0) hx hb dX0_has_16 (by decide) ?_
      exact g_zret CX HW rfl (Or.inl rfl) ⟨pI_f (by intro h9; first | exact absurd c1 (Int32.not_lt.mpr h9.1) | exact absurd c9 (Int32.not_le.mpr h9.2)), rfl⟩ dX0_has_17
    · refine lv_iconst (v := 1) hx hb dX0_has_12 (by decide) ?_
      refine lv_goto (tgt := 17) hx hb dX0_has_13 (by decide) ?_
      exact g_zret CX HW rfl (Or.inr rfl) ⟨pI_t ⟨Int32.not_lt.mp c1, Int32.not_le.mp c9⟩, rfl⟩ dX0_has_17

theorem hd_X0_isFull : yX0_isFull.cls ≠ "java/lang/invoke/MethodHandle" ∧ yX0_isFull.cls ≠ "java/lang/invoke/VarHandle" ∧ (parseMethodDescriptor yX0_isFull.desc).map (fun d => d.parameters.length) = some 0 := by decide +kernel
theorem fl_X0_isFull_9 : Cond.fieldLink RX0 9 (TX0 0).1 (TX0 0).2.1 (TX0 0).2.2.1 ∈ wsX0_isFull := by decide +kernel
theorem in_X0_isFull_0 : ∀ x ∈ u_ws RX0 TX0 5, x ∈ wsX0_isFull := by decide +kernel
set_option maxRecDepth 100000 in
set_option maxHeartbeats 4000000 in
theorem c_X0_isFull {l : Launch} {D : va_G} {cI cL : ClassId} {a : Nat → Nat} (o : Nat) (n : Nat) (tw : Nat → Int32) (sl : Nat → Int32) (dp : Nat → Int32) (kd : Nat → Int32) : Ct l yX0_isFull wsX0_isFull { frames := 0, cells := 0, slots := 0, locals := 0 } D (ty2 cI cL) [.ref (a o)] (wR cI a o n tw sl dp kd) (fun v w' => v = some (.int (bI (6 ≤ nI n))) ∧ w' = wR cI a o n tw sl dp kd) 0 0 := by
  refine Ct.of (cc := cX0_isFull) (maxL := 1) (ret := (some .boolean)) (by decide) rfl (Nat.le_of_ble_eq_true rfl) ?_
  intro p e s m below meth c A ls CX hin HW hl
  obtain ⟨hx, hb, hml, hr, hown, hts, hK, hA, hlk⟩ := id CX
  have hl : lv_has ls 1 [(0, .ref (a o))] := hl
  refine lv_aload_n hx hb dX0_isFull_0 rfl (lv_at hl 0 rfl) ?_
  refine g_get CX HW in_X0_isFull_0 0 0 rfl rfl (Nat.le_of_ble_eq_true rfl) fl_X0_isFull_9 rfl dX0_isFull_1 ?_
  refine lv_bipush (v := 6) hx hb dX0_isFull_4 (by decide) ?_
  refine lv_icmp_lt (tgt := 13) hx hb dX0_isFull_6 (by decide) (fun c6 => ?_) (fun c6 => ?_)
  · refine lv_iconst (v := 0) hx hb dX0_isFull_13 (by decide) ?_
    exact g_zret CX HW rfl (Or.inl rfl) ⟨pI_f (Int32.not_le.mpr c6), rfl⟩ dX0_isFull_14
  · refine lv_iconst (v := 1) hx hb dX0_isFull_9 (by decide) ?_
    refine lv_goto (tgt := 14) hx hb dX0_isFull_10 (by decide) ?_
    exact g_zret CX HW rfl (Or.inr rfl) ⟨pI_t (Int32.not_lt.mp c6), rfl⟩ dX0_isFull_14

theorem hd_X0_add : yX0_add.cls ≠ "java/lang/invoke/MethodHandle" ∧ yX0_add.cls ≠ "java/lang/invoke/VarHandle" ∧ (parseMethodDescriptor yX0_add.desc).map (fun d => d.parameters.length) = some 2 := by decide +kernel
theorem fl_X0_add_9 : Cond.fieldLink RX0 9 (TX0 0).1 (TX0 0).2.1 (TX0 0).2.2.1 ∈ wsX0_add := by decide +kernel
theorem in_X0_add_0 : ∀ x ∈ u_ws RX0 TX0 5, x ∈ wsX0_add := by decide +kernel
theorem fl_X0_add_15 : Cond.fieldLink RX0 15 (TX0 1).1 (TX0 1).2.1 (TX0 1).2.2.1 ∈ wsX0_add := by decide +kernel
theorem fl_X0_add_19 : Cond.fieldLink RX0 19 (TX0 2).1 (TX0 2).2.1 (TX0 2).2.2.1 ∈ wsX0_add := by decide +kernel
theorem fl_X0_add_22 : Cond.fieldLink RX0 22 (TX0 3).1 (TX0 3).2.1 (TX0 3).2.2.1 ∈ wsX0_add := by decide +kernel
set_option maxRecDepth 100000 in
set_option maxHeartbeats 4000000 in
theorem c_X0_add {l : Launch} {D : va_G} {cI cL : ClassId} {a : Nat → Nat} (o : Nat) (n : Nat) (tw : Nat → Int32) (sl : Nat → Int32) (dp : Nat → Int32) (kd : Nat → Int32) (t : Int32) (sv : Int32) (hn : n < 6) : Ct l yX0_add wsX0_add { frames := 0, cells := 0, slots := 0, locals := 0 } D (ty2 cI cL) [.ref (a o), .int t, .int sv] (wR cI a o n tw sl dp kd) (fun v w' => v = some (.int (nI n)) ∧ w' = wR cI a o (n + 1) (upd tw n t) (upd sl n sv) (upd dp n 30) kd) 0 0 := by
  refine Ct.of (cc := cX0_add) (maxL := 4) (ret := (some .int)) (by decide) rfl (Nat.le_of_ble_eq_true rfl) ?_
  intro p e s m below meth c A ls CX hin HW hl
  obtain ⟨hx, hb, hml, hr, hown, hts, hK, hA, hlk⟩ := id CX
  have hl : lv_has ls 4 [(0, .ref (a o)), (1, .int t), (2, .int sv)] := hl
  refine lv_aload_n hx hb dX0_add_0 rfl (lv_at hl 0 rfl) ?_
  refine g_get CX HW in_X0_add_0 0 0 rfl rfl (Nat.le_of_ble_eq_true rfl) fl_X0_add_9 rfl dX0_add_1 ?_
  refine lv_istore_n (lv' := [(3, .int (nI n)), (0, .ref (a o)), (1, .int t), (2, .int sv)]) hx hb dX0_add_4 rfl hl (Nat.le_of_ble_eq_true rfl) rfl (fun ls hl => ?_)
  refine lv_aload_n hx hb dX0_add_5 rfl (lv_at hl 1 rfl) ?_
  refine g_get CX HW in_X0_add_0 0 1 rfl rfl (Nat.le_of_ble_eq_true rfl) fl_X0_add_15 rfl dX0_add_6 ?_
  refine lv_iload_n hx hb dX0_add_9 rfl (lv_at hl 0 rfl) ?_
  refine lv_iload_n hx hb dX0_add_10 rfl (lv_at hl 2 rfl) ?_
  refine g_ast CX HW 1 (k := n) rfl rfl rfl (by omega) (Nat.le_of_ble_eq_true rfl) dX0_add_11 (fun H locs HW => ?_)
  have HW : Hw D A s (wR cI a o n (upd tw n t) sl dp kd) H locs := HW
  refine lv_aload_n hx hb dX0_add_12 rfl (lv_at hl 1 rfl) ?_
  refine g_get CX HW in_X0_add_0 0 2 rfl rfl (Nat.le_of_ble_eq_true rfl) fl_X0_add_19 rfl dX0_add_13 ?_
  refine lv_iload_n hx hb dX0_add_16 rfl (lv_at hl 0 rfl) ?_
  refine lv_iload_n hx hb dX0_add_17 rfl (lv_at hl 3 rfl) ?_
  refine g_ast CX HW 2 (k := n) rfl rfl rfl (by omega) (Nat.le_of_ble_eq_true rfl) dX0_add_18 (fun H locs HW => ?_)
  have HW : Hw D A s (wR cI a o n (upd tw n t) (upd sl n sv) dp kd) H locs := HW
  refine lv_aload_n hx hb dX0_add_19 rfl (lv_at hl 1 rfl) ?_
  refine g_get CX HW in_X0_add_0 0 3 rfl rfl (Nat.le_of_ble_eq_true rfl) fl_X0_add_22 rfl dX0_add_20 ?_
  refine lv_iload_n hx hb dX0_add_23 rfl (lv_at hl 0 rfl) ?_
  refine lv_bipush (v := 30) hx hb dX0_add_24 (by decide) ?_
  refine g_ast CX HW 3 (k := n) rfl rfl rfl (by omega) (Nat.le_of_ble_eq_true rfl) dX0_add_26 (fun H locs HW => ?_)
  have HW : Hw D A s (wR cI a o n (upd tw n t) (upd sl n sv) (upd dp n (30 : Int32)) kd) H locs := HW
  refine lv_aload_n hx hb dX0_add_27 rfl (lv_at hl 1 rfl) ?_
  refine lv_dup hx hb dX0_add_28 rfl ?_
  refine g_get CX HW in_X0_add_0 0 0 rfl rfl (Nat.le_of_ble_eq_true rfl) fl_X0_add_9 rfl dX0_add_29 ?_
  refine lv_iconst (v := 1) hx hb dX0_add_32 (by decide) ?_
  refine lv_iadd hx hb dX0_add_33 ?_
  refine g_top (y := (nI (n + 1))) (nI_1 _) ?_
  refine g_put CX HW in_X0_add_0 tyX0 tyX0_ok nmX0 0 0 rfl rfl (Nat.le_of_ble_eq_true rfl) fl_X0_add_9 rfl rfl rfl (Nat.le_of_ble_eq_true rfl) dX0_add_34 (fun H locs HW => ?_)
  have HW : Hw D A s (wR cI a o (n + 1) (upd tw n t) (upd sl n sv) (upd dp n (30 : Int32)) kd) H locs := HW
  refine lv_iload_n hx hb dX0_add_37 rfl (lv_at hl 0 rfl) ?_
  exact g_iret CX HW rfl ⟨rfl, rfl⟩ dX0_add_38

theorem hd_X0_deepen : yX0_deepen.cls ≠ "java/lang/invoke/MethodHandle" ∧ yX0_deepen.cls ≠ "java/lang/invoke/VarHandle" ∧ (parseMethodDescriptor yX0_deepen.desc).map (fun d => d.parameters.length) = some 2 := by decide +kernel
theorem fl_X0_deepen_22 : Cond.fieldLink RX0 22 (TX0 3).1 (TX0 3).2.1 (TX0 3).2.2.1 ∈ wsX0_deepen := by decide +kernel
theorem in_X0_deepen_0 : ∀ x ∈ u_ws RX0 TX0 5, x ∈ wsX0_deepen := by decide +kernel
theorem sn_X0_deepen_X3_held : Cond.initialized yX3_held.cls ∈ wsX0_deepen ∧ Cond.static yX3_held ∈ wsX0_deepen := ⟨by decide +kernel, by decide +kernel⟩
set_option maxRecDepth 100000 in
set_option maxHeartbeats 4000000 in
theorem c_X0_deepen {l : Launch} {D : va_G} {cI cL : ClassId} {a : Nat → Nat} (o : Nat) (n : Nat) (tw : Nat → Int32) (sl : Nat → Int32) (dp : Nat → Int32) (kd : Nat → Int32) (r : Nat) (x : Int32) (hr6 : r < 6) : Ct l yX0_deepen wsX0_deepen { frames := 2, cells := 0, slots := 0, locals := 46 } D (ty2 cI cL) [.ref (a o), .int (nI r), .int x] (wR cI a o n tw sl dp kd) (fun v w' => v = none ∧ w' = wR cI a o n tw sl (upd dp r (heldI (dp r + x) 0 90)) kd) 0 0 := by
  refine Ct.of (cc := cX0_deepen) (maxL := 3) (ret := none) (by decide) rfl (Nat.le_of_ble_eq_true rfl) ?_
  intro p e s m below meth c A ls CX hin HW hl
  obtain ⟨hx, hb, hml, hr, hown, hts, hK, hA, hlk⟩ := id CX
  have hl : lv_has ls 3 [(0, .ref (a o)), (1, .int (nI r)), (2, .int x)] := hl
  refine lv_aload_n hx hb dX0_deepen_0 rfl (lv_at hl 0 rfl) ?_
  refine g_get CX HW in_X0_deepen_0 0 3 rfl rfl (Nat.le_of_ble_eq_true rfl) fl_X0_deepen_22 rfl dX0_deepen_1 ?_
  refine lv_iload_n hx hb dX0_deepen_4 rfl (lv_at hl 1 rfl) ?_
  refine lv_aload_n hx hb dX0_deepen_5 rfl (lv_at hl 0 rfl) ?_
  refine g_get CX HW in_X0_deepen_0 0 3 rfl rfl (Nat.le_of_ble_eq_true rfl) fl_X0_deepen_22 rfl dX0_deepen_6 ?_
  refine lv_iload_n hx hb dX0_deepen_9 rfl (lv_at hl 1 rfl) ?_
  refine g_ald CX HW 3 (k := r) rfl rfl rfl (by omega) (Nat.le_of_ble_eq_true rfl) dX0_deepen_10 ?_
  refine lv_iload_n hx hb dX0_deepen_11 rfl (lv_at hl 2 rfl) ?_
  refine lv_iadd hx hb dX0_deepen_12 ?_
  refine lv_iconst (v := 0) hx hb dX0_deepen_13 (by decide) ?_
  refine lv_bipush (v := 90) hx hb dX0_deepen_14 (by decide) ?_
  refine g_callSN (host := "PommelTows") CX HW hl.1 ([]) (wR cI a o n tw sl dp kd) (c_X3_held ((dp r) + x) (0 : Int32) (90 : Int32)) rfl gX0_deepen_X3_held_n28 sn_X0_deepen_X3_held (by decide +kernel) rfl hd_X3_held ⟨rfl, rfl, (Nat.le_of_ble_eq_true rfl), (Nat.le_of_ble_eq_true rfl)⟩ ⟨(Nat.zero_le _), (Nat.zero_le _)⟩ rfl rfl (Nat.le_of_ble_eq_true rfl) dX0_deepen_16 (fun v w1 H locs hp HW => ?_)
  obtain ⟨rfl, rfl⟩ := hp
  have HW : Hw D A s (wR cI a o n tw sl dp kd) H locs := HW
  refine W.eq (g2 := F0 m 19 ls [.int (heldI ((dp r) + x) (0 : Int32) (90 : Int32)), .int (nI r), .ref (a (o + 3))]) rfl ?_
  refine g_ast CX HW 3 (k := r) rfl rfl rfl (by omega) (Nat.le_of_ble_eq_true rfl) dX0_deepen_19 (fun H locs HW => ?_)
  have HW : Hw D A s (wR cI a o n tw sl (upd dp r (heldI ((dp r) + x) (0 : Int32) (90 : Int32))) kd) H locs := HW
  exact g_vret CX HW rfl ⟨rfl, rfl⟩ dX0_deepen_20

theorem hd_X0_isOpen : yX0_isOpen.cls ≠ "java/lang/invoke/MethodHandle" ∧ yX0_isOpen.cls ≠ "java/lang/invoke/VarHandle" ∧ (parseMethodDescriptor yX0_isOpen.desc).map (fun d => d.parameters.length) = some 1 := by decide +kernel
theorem fl_X0_isOpen_22 : Cond.fieldLink RX0 22 (TX0 3).1 (TX0 3).2.1 (TX0 3).2.2.1 ∈ wsX0_isOpen := by decide +kernel
theorem in_X0_isOpen_0 : ∀ x ∈ u_ws RX0 TX0 5, x ∈ wsX0_isOpen := by decide +kernel
theorem fl_X0_isOpen_19 : Cond.fieldLink RX0 19 (TX0 2).1 (TX0 2).2.1 (TX0 2).2.2.1 ∈ wsX0_isOpen := by decide +kernel
set_option maxRecDepth 100000 in
set_option maxHeartbeats 4000000 in
theorem c_X0_isOpen {l : Launch} {D : va_G} {cI cL : ClassId} {a : Nat → Nat} (o : Nat) (n : Nat) (tw : Nat → Int32) (sl : Nat → Int32) (dp : Nat → Int32) (kd : Nat → Int32) (r : Nat) (hr6 : r < 6) : Ct l yX0_isOpen wsX0_isOpen { frames := 0, cells := 0, slots := 0, locals := 0 } D (ty2 cI cL) [.ref (a o), .int (nI r)] (wR cI a o n tw sl dp kd) (fun v w' => v = some (.int (bI (opn dp sl r))) ∧ w' = wR cI a o n tw sl dp kd) 0 0 := by
  refine Ct.of (cc := cX0_isOpen) (maxL := 2) (ret := (some .boolean)) (by decide) rfl (Nat.le_of_ble_eq_true rfl) ?_
  intro p e s m below meth c A ls CX hin HW hl
  obtain ⟨hx, hb, hml, hr, hown, hts, hK, hA, hlk⟩ := id CX
  have hl : lv_has ls 2 [(0, .ref (a o)), (1, .int (nI r))] := hl
  refine lv_aload_n hx hb dX0_isOpen_0 rfl (lv_at hl 0 rfl) ?_
  refine g_get CX HW in_X0_isOpen_0 0 3 rfl rfl (Nat.le_of_ble_eq_true rfl) fl_X0_isOpen_22 rfl dX0_isOpen_1 ?_
  refine lv_iload_n hx hb dX0_isOpen_4 rfl (lv_at hl 1 rfl) ?_
  refine g_ald CX HW 3 (k := r) rfl rfl rfl (by omega) (Nat.le_of_ble_eq_true rfl) dX0_isOpen_5 ?_
  refine lv_iconst (v := 5) hx hb dX0_isOpen_6 (by decide) ?_
  refine lv_icmp_lt (tgt := 33) hx hb dX0_isOpen_7 (by decide) (fun c7 => ?_) (fun c7 => ?_)
  · refine lv_iconst (v := 0) hx hb dX0_isOpen_33 (by decide) ?_
    exact g_zret CX HW rfl (Or.inl rfl) ⟨pI_f (by intro h9; first | exact absurd c7 (Int32.not_lt.mpr h9.1) | exact absurd c26 (Int32.not_le.mpr h9.2)), rfl⟩ dX0_isOpen_34
  · refine lv_aload_n hx hb dX0_isOpen_10 rfl (lv_at hl 0 rfl) ?_
    refine g_get CX HW in_X0_isOpen_0 0 3 rfl rfl (Nat.le_of_ble_eq_true rfl) fl_X0_isOpen_22 rfl dX0_isOpen_11 ?_
    refine lv_iload_n hx hb dX0_isOpen_14 rfl (lv_at hl 1 rfl) ?_
    refine g_ald CX HW 3 (k := r) rfl rfl rfl (by omega) (Nat.le_of_ble_eq_true rfl) dX0_isOpen_15 ?_
    refine lv_aload_n hx hb dX0_isOpen_16 rfl (lv_at hl 0 rfl) ?_
    refine g_get CX HW in_X0_isOpen_0 0 2 rfl rfl (Nat.le_of_ble_eq_true rfl) fl_X0_isOpen_19 rfl dX0_isOpen_17 ?_
    refine lv_iload_n hx hb dX0_isOpen_20 rfl (lv_at hl 1 rfl) ?_
    refine g_ald CX HW 2 (k := r) rfl rfl rfl (by omega) (Nat.le_of_ble_eq_true rfl) dX0_isOpen_21 ?_
    refine lv_imul hx hb dX0_isOpen_22 ?_
    refine lv_sipush (v := 300) hx hb dX0_isOpen_23 (by decide) ?_
    refine lv_icmp_ge (tgt := 33) hx hb dX0_isOpen_26 (by decide) (fun c26 => ?_) (fun c26 => ?_)
    · refine lv_iconst (v := 0) hx hb dX0_isOpen_33 (by decide) ?_
      exact g_zret CX HW rfl (Or.inl rfl) ⟨pI_f (by intro h9; first | exact absurd c7 (Int32.not_lt.mpr h9.1) | exact absurd c26 (Int32.not_le.mpr h9.2)), rfl⟩ dX0_isOpen_34
    · refine lv_iconst (v := 1) hx hb dX0_isOpen_29 (by decide) ?_
      refine lv_goto (tgt := 34) hx hb dX0_isOpen_30 (by decide) ?_
      exact g_zret CX HW rfl (Or.inr rfl) ⟨pI_t ⟨Int32.not_lt.mp c7, Int32.not_le.mp c26⟩, rfl⟩ dX0_isOpen_34

theorem hd_X0_deepenAll : yX0_deepenAll.cls ≠ "java/lang/invoke/MethodHandle" ∧ yX0_deepenAll.cls ≠ "java/lang/invoke/VarHandle" ∧ (parseMethodDescriptor yX0_deepenAll.desc).map (fun d => d.parameters.length) = some 1 := by decide +kernel
theorem fl_X0_deepenAll_9 : Cond.fieldLink RX0 9 (TX0 0).1 (TX0 0).2.1 (TX0 0).2.2.1 ∈ wsX0_deepenAll := by decide +kernel
theorem in_X0_deepenAll_0 : ∀ x ∈ u_ws RX0 TX0 5, x ∈ wsX0_deepenAll := by decide +kernel
set_option maxRecDepth 100000 in
set_option maxHeartbeats 4000000 in
theorem c_X0_deepenAll {l : Launch} {D : va_G} {cI cL : ClassId} {a : Nat → Nat} (o : Nat) (n : Nat) (tw : Nat → Int32) (sl : Nat → Int32) (dp : Nat → Int32) (kd : Nat → Int32) (x : Int32) (hn : n ≤ 6) : Ct l yX0_deepenAll wsX0_deepenAll { frames := 3, cells := 0, slots := 0, locals := 68 } D (ty2 cI cL) [.ref (a o), .int x] (wR cI a o n tw sl dp kd) (fun v w' => v = none ∧ w' = wR cI a o n tw sl (dpAll dp x n) kd) 0 0 := by
  refine Ct.of (cc := cX0_deepenAll) (maxL := 3) (ret := none) (by decide) rfl (Nat.le_of_ble_eq_true rfl) ?_
  intro p e s m below meth c A ls CX hin HW hl
  obtain ⟨hx, hb, hml, hr, hown, hts, hK, hA, hlk⟩ := id CX
  have hl : lv_has ls 3 [(0, .ref (a o)), (1, .int x)] := hl
  have loop : ∀ (d0 : Nat) (i : Nat), n - i = d0 → (i ≤ n) → ∀ (H : Heap) (locs : List Loc) (ls : Array Slot), Hw D A s (wR cI a o n tw sl (dpAll dp x i) kd) H locs → lv_has ls 3 [(2, .int (nI i)), (1, .int x), (0, .ref (a o))] → W p l e ({ frames := 3, cells := 0, slots := 0, locals := 68 } : Room) s m ([.ref (a o), .int x] : List Value).toArray below meth c H locs 0 0 (MQ below (cQ D A (fun v w' => v = none ∧ w' = wR cI a o n tw sl (dpAll dp x n) kd)) ([.ref (a o), .int x] : List Value).toArray s 0 0 A) (F0 m 2 ls []) := by
    intro d0
    induction d0 using Nat.strongRecOn with
    | _ d0 ih =>
      intro i hd0 hi H locs ls HW hl
      refine lv_iload_n hx hb dX0_deepenAll_2 rfl (lv_at hl 0 rfl) ?_
      refine lv_aload_n hx hb dX0_deepenAll_3 rfl (lv_at hl 2 rfl) ?_
      refine g_get CX HW in_X0_deepenAll_0 0 0 rfl rfl (Nat.le_of_ble_eq_true rfl) fl_X0_deepenAll_9 rfl dX0_deepenAll_4 ?_
      refine lv_icmp_ge (tgt := 22) hx hb dX0_deepenAll_7 (by decide) (fun c7 => ?_) (fun c7 => ?_)
      · have c7 := (nI_leI (by omega) (by omega)).mp c7
        obtain rfl : i = n := by omega
        exact g_vret CX HW rfl ⟨rfl, rfl⟩ dX0_deepenAll_22
      · have c7 : i < n := nI_lt_of (by omega) (by omega) c7
        refine lv_aload_n hx hb dX0_deepenAll_10 rfl (lv_at hl 2 rfl) ?_
        refine lv_iload_n hx hb dX0_deepenAll_11 rfl (lv_at hl 0 rfl) ?_
        refine lv_iload_n hx hb dX0_deepenAll_12 rfl (lv_at hl 1 rfl) ?_
        refine g_callV CX HW hl.1 ([]) ([]) (c_X0_deepen o n tw sl (dpAll dp x i) kd i x (by omega)) rfl 0 rfl rfl gX0_deepenAll_X0_deepen rfl ⟨rfl, hd_X0_deepen⟩ ⟨rfl, rfl, (Nat.le_of_ble_eq_true rfl), (Nat.le_of_ble_eq_true rfl)⟩ ⟨(Nat.zero_le _), (Nat.zero_le _)⟩ rfl rfl (Nat.le_of_ble_eq_true rfl) dX0_deepenAll_13 (fun v w1 H locs hp HW => ?_)
        obtain ⟨rfl, rfl⟩ := hp
        have HW : Hw D A s (wR cI a o n tw sl (upd (dpAll dp x i) i (heldI ((dpAll dp x i) i + x) 0 90)) kd) H locs := HW
        refine W.eq (g2 := F0 m 16 ls []) rfl ?_
        have hwe : (upd (dpAll dp x i) i (heldI ((dpAll dp x i) i + x) 0 90)) = (dpAll dp x (i + 1)) := dpAll_s dp x i
        rw [hwe] at HW; clear hwe
        refine lv_iinc (v := (nI (i + 1))) (lv' := [(2, .int (nI (i + 1))), (1, .int x), (0, .ref (a o))]) hx hb dX0_deepenAll_16 hl (k := 0) rfl (inc1 _) (Nat.le_of_ble_eq_true rfl) rfl (fun ls hl => ?_)
        refine lv_goto (tgt := 2) hx hb dX0_deepenAll_19 (by decide) ?_
        exact ih _ (by omega) (i + 1) rfl (by omega) _ _ _ HW (lv_sub hl [0, 1, 2] rfl)
  rw [← dpAll_0 dp x] at HW
  refine lv_iconst (v := 0) hx hb dX0_deepenAll_0 (by decide) ?_
  refine lv_istore_n (lv' := [(2, .int (0 : Int32)), (0, .ref (a o)), (1, .int x)]) hx hb dX0_deepenAll_1 rfl hl (Nat.le_of_ble_eq_true rfl) rfl (fun ls hl => ?_)
  exact loop _ 0 rfl (by omega) _ _ _ HW (lv_sub hl [0, 2, 1] rfl)

theorem hd_X0_steepestOpen : yX0_steepestOpen.cls ≠ "java/lang/invoke/MethodHandle" ∧ yX0_steepestOpen.cls ≠ "java/lang/invoke/VarHandle" ∧ (parseMethodDescriptor yX0_steepestOpen.desc).map (fun d => d.parameters.length) = some 2 := by decide +kernel
theorem fl_X0_steepestOpen_9 : Cond.fieldLink RX0 9 (TX0 0).1 (TX0 0).2.1 (TX0 0).2.2.1 ∈ wsX0_steepestOpen := by decide +kernel
theorem in_X0_steepestOpen_0 : ∀ x ∈ u_ws RX0 TX0 5, x ∈ wsX0_steepestOpen := by decide +kernel
theorem fl_X0_steepestOpen_15 : Cond.fieldLink RX0 15 (TX0 1).1 (TX0 1).2.1 (TX0 1).2.2.1 ∈ wsX0_steepestOpen := by decide +kernel
theorem fl_X0_steepestOpen_19 : Cond.fieldLink RX0 19 (TX0 2).1 (TX0 2).2.1 (TX0 2).2.2.1 ∈ wsX0_steepestOpen := by decide +kernel
set_option maxRecDepth 100000 in
set_option maxHeartbeats 4000000 in
theorem c_X0_steepestOpen {l : Launch} {D : va_G} {cI cL : ClassId} {a : Nat → Nat} (o : Nat) (n : Nat) (tw : Nat → Int32) (sl : Nat → Int32) (dp : Nat → Int32) (kd : Nat → Int32) (t : Int32) (lim : Int32) (hn : n ≤ 6) : Ct l yX0_steepestOpen wsX0_steepestOpen { frames := 1, cells := 0, slots := 0, locals := 21 } D (ty2 cI cL) [.ref (a o), .int t, .int lim] (wR cI a o n tw sl dp kd) (fun v w' => v = some (.int (oI (bestR tw sl dp t lim n))) ∧ w' = wR cI a o n tw sl dp kd) 0 0 := by
  refine Ct.of (cc := cX0_steepestOpen) (maxL := 7) (ret := (some .int)) (by decide) rfl (Nat.le_of_ble_eq_true rfl) ?_
  intro p e s m below meth c A ls CX hin HW hl
  obtain ⟨hx, hb, hml, hr, hown, hts, hK, hA, hlk⟩ := id CX
  have hl : lv_has ls 7 [(0, .ref (a o)), (1, .int t), (2, .int lim)] := hl
  have loop : ∀ (d0 : Nat) (i : Nat), n - i = d0 → (i ≤ n) → ∀ (H : Heap) (locs : List Loc) (ls : Array Slot), Hw D A s (wR cI a o n tw sl dp kd) H locs → lv_has ls 7 [(5, .int (nI i)), (4, .int (bsl sl (bestR tw sl dp t lim i))), (3, .int (oI (bestR tw sl dp t lim i))), (2, .int lim), (1, .int t), (0, .ref (a o))] → W p l e ({ frames := 1, cells := 0, slots := 0, locals := 21 } : Room) s m ([.ref (a o), .int t, .int lim] : List Value).toArray below meth c H locs 0 0 (MQ below (cQ D A (fun v w' => v = some (.int (oI (bestR tw sl dp t lim n))) ∧ w' = wR cI a o n tw sl dp kd)) ([.ref (a o), .int t, .int lim] : List Value).toArray s 0 0 A) (F0 m 8 ls []) := by
    intro d0
    induction d0 using Nat.strongRecOn with
    | _ d0 ih =>
      intro i hd0 hi H locs ls HW hl
      have j84 : ∀ (x3 : Int32) (x4 : Int32), (i < n) → (x3 = oI (bestR tw sl dp t lim (i + 1))) → (x4 = bsl sl (bestR tw sl dp t lim (i + 1))) → ∀ (H : Heap) (locs : List Loc) (ls : Array Slot), Hw D A s (wR cI a o n tw sl dp kd) H locs → lv_has ls 7 [(5, .int (nI i)), (4, .int x4), (3, .int x3), (2, .int lim), (1, .int t), (0, .ref (a o))] → W p l e ({ frames := 1, cells := 0, slots := 0, locals := 21 } : Room) s m ([.ref (a o), .int t, .int lim] : List Value).toArray below meth c H locs 0 0 (MQ below (cQ D A (fun v w' => v = some (.int (oI (bestR tw sl dp t lim n))) ∧ w' = wR cI a o n tw sl dp kd)) ([.ref (a o), .int t, .int lim] : List Value).toArray s 0 0 A) (F0 m 84 ls []) := by
        intro x3 x4 hlt h3 h4 H locs ls HW hl
        subst h3; subst h4
        refine lv_iinc (v := (nI (i + 1))) (lv' := [(5, .int (nI (i + 1))), (4, .int (bsl sl (bestR tw sl dp t lim (i + 1)))), (3, .int (oI (bestR tw sl dp t lim (i + 1)))), (2, .int lim), (1, .int t), (0, .ref (a o))]) hx hb dX0_steepestOpen_84 hl (k := 0) rfl (inc1 _) (Nat.le_of_ble_eq_true rfl) rfl (fun ls hl => ?_)
        refine lv_goto (tgt := 8) hx hb dX0_steepestOpen_87 (by decide) ?_
        exact ih _ (by omega) (i + 1) rfl (by omega) _ _ _ HW (lv_sub hl [0, 1, 2, 3, 4, 5] rfl)
      refine lv_iload hx hb dX0_steepestOpen_8 (lv_at hl 0 rfl) ?_
      refine lv_aload_n hx hb dX0_steepestOpen_10 rfl (lv_at hl 5 rfl) ?_
      refine g_get CX HW in_X0_steepestOpen_0 0 0 rfl rfl (Nat.le_of_ble_eq_true rfl) fl_X0_steepestOpen_9 rfl dX0_steepestOpen_11 ?_
      refine lv_icmp_ge (tgt := 90) hx hb dX0_steepestOpen_14 (by decide) (fun c14 => ?_) (fun c14 => ?_)
      · have c14 := (nI_leI (by omega) (by omega)).mp c14
        obtain rfl : i = n := by omega
        refine lv_iload_n hx hb dX0_steepestOpen_90 rfl (lv_at hl 2 rfl) ?_
        exact g_iret CX HW rfl ⟨rfl, rfl⟩ dX0_steepestOpen_91
      · have c14 : i < n := nI_lt_of (by omega) (by omega) c14
        refine lv_aload_n hx hb dX0_steepestOpen_17 rfl (lv_at hl 5 rfl) ?_
        refine g_get CX HW in_X0_steepestOpen_0 0 1 rfl rfl (Nat.le_of_ble_eq_true rfl) fl_X0_steepestOpen_15 rfl dX0_steepestOpen_18 ?_
        refine lv_iload hx hb dX0_steepestOpen_21 (lv_at hl 0 rfl) ?_
        refine g_ald CX HW 1 (k := i) rfl rfl rfl (by omega) (Nat.le_of_ble_eq_true rfl) dX0_steepestOpen_23 ?_
        refine lv_iload_n hx hb dX0_steepestOpen_24 rfl (lv_at hl 4 rfl) ?_
        refine lv_icmp_ne (tgt := 52) hx hb dX0_steepestOpen_25 (by decide) (fun c25 => ?_) (fun c25 => ?_)
        · refine lv_iconst (v := 0) hx hb dX0_steepestOpen_52 (by decide) ?_
          refine lv_istore (lv' := [(6, .int (0 : Int32)), (5, .int (nI i)), (4, .int (bsl sl (bestR tw sl dp t lim i))), (3, .int (oI (bestR tw sl dp t lim i))), (2, .int lim), (1, .int t), (0, .ref (a o))]) hx hb dX0_steepestOpen_53 hl (Nat.le_of_ble_eq_true rfl) rfl (fun ls hl => ?_)
          refine lv_iload hx hb dX0_steepestOpen_55 (lv_at hl 0 rfl) ?_
          refine lv_if_eq (tgt := 84) hx hb dX0_steepestOpen_57 (by decide) (fun c57 => ?_) (fun c57 => ?_)
          · exact j84 (oI (bestR tw sl dp t lim i)) (bsl sl (bestR tw sl dp t lim i)) (by omega) (by simp only [bestR]; rw [if_neg (by intro h9; first | exact absurd h9.1 c25 | exact absurd c36 (Int32.not_lt.mpr h9.2.1) | exact absurd h9.2.2.1 c45 | exact absurd h9.2.2.2 (Int32.not_lt.mpr c69))]) (by simp only [bestR]; rw [if_neg (by intro h9; first | exact absurd h9.1 c25 | exact absurd c36 (Int32.not_lt.mpr h9.2.1) | exact absurd h9.2.2.1 c45 | exact absurd h9.2.2.2 (Int32.not_lt.mpr c69))]) _ _ _ HW (lv_sub hl [1, 2, 3, 4, 5, 6] rfl)
          · exact absurd c57 (by decide)
        · refine lv_aload_n hx hb dX0_steepestOpen_28 rfl (lv_at hl 5 rfl) ?_
          refine g_get CX HW in_X0_steepestOpen_0 0 2 rfl rfl (Nat.le_of_ble_eq_true rfl) fl_X0_steepestOpen_19 rfl dX0_steepestOpen_29 ?_
          refine lv_iload hx hb dX0_steepestOpen_32 (lv_at hl 0 rfl) ?_
          refine g_ald CX HW 2 (k := i) rfl rfl rfl (by omega) (Nat.le_of_ble_eq_true rfl) dX0_steepestOpen_34 ?_
          refine lv_iload_n hx hb dX0_steepestOpen_35 rfl (lv_at hl 3 rfl) ?_
          refine lv_icmp_gt (tgt := 52) hx hb dX0_steepestOpen_36 (by decide) (fun c36 => ?_) (fun c36 => ?_)
          · refine lv_iconst (v := 0) hx hb dX0_steepestOpen_52 (by decide) ?_
            refine lv_istore (lv' := [(6, .int (0 : Int32)), (5, .int (nI i)), (4, .int (bsl sl (bestR tw sl dp t lim i))), (3, .int (oI (bestR tw sl dp t lim i))), (2, .int lim), (1, .int t), (0, .ref (a o))]) hx hb dX0_steepestOpen_53 hl (Nat.le_of_ble_eq_true rfl) rfl (fun ls hl => ?_)
            refine lv_iload hx hb dX0_steepestOpen_55 (lv_at hl 0 rfl) ?_
            refine lv_if_eq (tgt := 84) hx hb dX0_steepestOpen_57 (by decide) (fun c57 => ?_) (fun c57 => ?_)
            · exact j84 (oI (bestR tw sl dp t lim i)) (bsl sl (bestR tw sl dp t lim i)) (by omega) (by simp only [bestR]; rw [if_neg (by intro h9; first | exact absurd h9.1 c25 | exact absurd c36 (Int32.not_lt.mpr h9.2.1) | exact absurd h9.2.2.1 c45 | exact absurd h9.2.2.2 (Int32.not_lt.mpr c69))]) (by simp only [bestR]; rw [if_neg (by intro h9; first | exact absurd h9.1 c25 | exact absurd c36 (Int32.not_lt.mpr h9.2.1) | exact absurd h9.2.2.1 c45 | exact absurd h9.2.2.2 (Int32.not_lt.mpr c69))]) _ _ _ HW (lv_sub hl [1, 2, 3, 4, 5, 6] rfl)
            · exact absurd c57 (by decide)
          · refine lv_aload_n hx hb dX0_steepestOpen_39 rfl (lv_at hl 5 rfl) ?_
            refine lv_iload hx hb dX0_steepestOpen_40 (lv_at hl 0 rfl) ?_
            refine g_callV CX HW hl.1 ([]) ([]) (c_X0_isOpen o n tw sl dp kd i (by omega)) rfl 0 rfl rfl gX0_steepestOpen_X0_isOpen rfl ⟨rfl, hd_X0_isOpen⟩ ⟨rfl, rfl, (Nat.le_of_ble_eq_true rfl), (Nat.le_of_ble_eq_true rfl)⟩ ⟨(Nat.zero_le _), (Nat.zero_le _)⟩ rfl rfl (Nat.le_of_ble_eq_true rfl) dX0_steepestOpen_42 (fun v w1 H locs hp HW => ?_)
            obtain ⟨rfl, rfl⟩ := hp
            have HW : Hw D A s (wR cI a o n tw sl dp kd) H locs := HW
            refine W.eq (g2 := F0 m 45 ls [.int (bI (opn dp sl i))]) rfl ?_
            refine g_ifeq_b (tgt := 52) hx hb dX0_steepestOpen_45 (by decide) (fun c45 => ?_) (fun c45 => ?_)
            · refine lv_iconst (v := 0) hx hb dX0_steepestOpen_52 (by decide) ?_
              refine lv_istore (lv' := [(6, .int (0 : Int32)), (5, .int (nI i)), (4, .int (bsl sl (bestR tw sl dp t lim i))), (3, .int (oI (bestR tw sl dp t lim i))), (2, .int lim), (1, .int t), (0, .ref (a o))]) hx hb dX0_steepestOpen_53 hl (Nat.le_of_ble_eq_true rfl) rfl (fun ls hl => ?_)
              refine lv_iload hx hb dX0_steepestOpen_55 (lv_at hl 0 rfl) ?_
              refine lv_if_eq (tgt := 84) hx hb dX0_steepestOpen_57 (by decide) (fun c57 => ?_) (fun c57 => ?_)
              · exact j84 (oI (bestR tw sl dp t lim i)) (bsl sl (bestR tw sl dp t lim i)) (by omega) (by simp only [bestR]; rw [if_neg (by intro h9; first | exact absurd h9.1 c25 | exact absurd c36 (Int32.not_lt.mpr h9.2.1) | exact absurd h9.2.2.1 c45 | exact absurd h9.2.2.2 (Int32.not_lt.mpr c69))]) (by simp only [bestR]; rw [if_neg (by intro h9; first | exact absurd h9.1 c25 | exact absurd c36 (Int32.not_lt.mpr h9.2.1) | exact absurd h9.2.2.1 c45 | exact absurd h9.2.2.2 (Int32.not_lt.mpr c69))]) _ _ _ HW (lv_sub hl [1, 2, 3, 4, 5, 6] rfl)
              · exact absurd c57 (by decide)
            · refine lv_iconst (v := 1) hx hb dX0_steepestOpen_48 (by decide) ?_
              refine lv_goto (tgt := 53) hx hb dX0_steepestOpen_49 (by decide) ?_
              refine lv_istore (lv' := [(6, .int (1 : Int32)), (5, .int (nI i)), (4, .int (bsl sl (bestR tw sl dp t lim i))), (3, .int (oI (bestR tw sl dp t lim i))), (2, .int lim), (1, .int t), (0, .ref (a o))]) hx hb dX0_steepestOpen_53 hl (Nat.le_of_ble_eq_true rfl) rfl (fun ls hl => ?_)
              refine lv_iload hx hb dX0_steepestOpen_55 (lv_at hl 0 rfl) ?_
              refine lv_if_eq (tgt := 84) hx hb dX0_steepestOpen_57 (by decide) (fun c57 => ?_) (fun c57 => ?_)
              · exact absurd c57 (by decide)
              · refine lv_aload_n hx hb dX0_steepestOpen_60 rfl (lv_at hl 6 rfl) ?_
                refine g_get CX HW in_X0_steepestOpen_0 0 2 rfl rfl (Nat.le_of_ble_eq_true rfl) fl_X0_steepestOpen_19 rfl dX0_steepestOpen_61 ?_
                refine lv_iload hx hb dX0_steepestOpen_64 (lv_at hl 1 rfl) ?_
                refine g_ald CX HW 2 (k := i) rfl rfl rfl (by omega) (Nat.le_of_ble_eq_true rfl) dX0_steepestOpen_66 ?_
                refine lv_iload hx hb dX0_steepestOpen_67 (lv_at hl 2 rfl) ?_
                refine lv_icmp_le (tgt := 84) hx hb dX0_steepestOpen_69 (by decide) (fun c69 => ?_) (fun c69 => ?_)
                · exact j84 (oI (bestR tw sl dp t lim i)) (bsl sl (bestR tw sl dp t lim i)) (by omega) (by simp only [bestR]; rw [if_neg (by intro h9; first | exact absurd h9.1 c25 | exact absurd c36 (Int32.not_lt.mpr h9.2.1) | exact absurd h9.2.2.1 c45 | exact absurd h9.2.2.2 (Int32.not_lt.mpr c69))]) (by simp only [bestR]; rw [if_neg (by intro h9; first | exact absurd h9.1 c25 | exact absurd c36 (Int32.not_lt.mpr h9.2.1) | exact absurd h9.2.2.1 c45 | exact absurd h9.2.2.2 (Int32.not_lt.mpr c69))]) _ _ _ HW (lv_sub hl [1, 2, 3, 4, 5, 6] rfl)
                · have c69 := Int32.not_le.mp c69
                  refine lv_iload hx hb dX0_steepestOpen_72 (lv_at hl 1 rfl) ?_
                  refine lv_istore_n (lv' := [(3, .int (nI i)), (6, .int (1 : Int32)), (5, .int (nI i)), (4, .int (bsl sl (bestR tw sl dp t lim i))), (2, .int lim), (1, .int t), (0, .ref (a o))]) hx hb dX0_steepestOpen_74 rfl hl (Nat.le_of_ble_eq_true rfl) rfl (fun ls hl => ?_)
                  refine lv_aload_n hx hb dX0_steepestOpen_75 rfl (lv_at hl 6 rfl) ?_
                  refine g_get CX HW in_X0_steepestOpen_0 0 2 rfl rfl (Nat.le_of_ble_eq_true rfl) fl_X0_steepestOpen_19 rfl dX0_steepestOpen_76 ?_
                  refine lv_iload hx hb dX0_steepestOpen_79 (lv_at hl 2 rfl) ?_
                  refine g_ald CX HW 2 (k := i) rfl rfl rfl (by omega) (Nat.le_of_ble_eq_true rfl) dX0_steepestOpen_81 ?_
                  refine lv_istore (lv' := [(4, .int (sl i)), (3, .int (nI i)), (6, .int (1 : Int32)), (5, .int (nI i)), (2, .int lim), (1, .int t), (0, .ref (a o))]) hx hb dX0_steepestOpen_82 hl (Nat.le_of_ble_eq_true rfl) rfl (fun ls hl => ?_)
                  exact j84 (nI i) (sl i) (by omega) (by simp only [bestR]; rw [if_pos ⟨c25, Int32.not_lt.mp c36, c45, c69⟩]; rfl) (by simp only [bestR]; rw [if_pos ⟨c25, Int32.not_lt.mp c36, c45, c69⟩]; rfl) _ _ _ HW (lv_sub hl [3, 0, 1, 4, 5, 6] rfl)
  refine lv_iconst (v := (-1)) hx hb dX0_steepestOpen_0 (by decide) ?_
  refine lv_istore_n (lv' := [(3, .int (-1 : Int32)), (0, .ref (a o)), (1, .int t), (2, .int lim)]) hx hb dX0_steepestOpen_1 rfl hl (Nat.le_of_ble_eq_true rfl) rfl (fun ls hl => ?_)
  refine lv_iconst (v := 0) hx hb dX0_steepestOpen_2 (by decide) ?_
  refine lv_istore (lv' := [(4, .int (0 : Int32)), (3, .int (-1 : Int32)), (0, .ref (a o)), (1, .int t), (2, .int lim)]) hx hb dX0_steepestOpen_3 hl (Nat.le_of_ble_eq_true rfl) rfl (fun ls hl => ?_)
  refine lv_iconst (v := 0) hx hb dX0_steepestOpen_5 (by decide) ?_
  refine lv_istore (lv' := [(5, .int (0 : Int32)), (4, .int (0 : Int32)), (3, .int (-1 : Int32)), (0, .ref (a o)), (1, .int t), (2, .int lim)]) hx hb dX0_steepestOpen_6 hl (Nat.le_of_ble_eq_true rfl) rfl (fun ls hl => ?_)
  exact loop _ 0 rfl (by omega) _ _ _ HW (lv_sub hl [0, 1, 2, 5, 4, 3] rfl)

theorem hd_X0_flagged : yX0_flagged.cls ≠ "java/lang/invoke/MethodHandle" ∧ yX0_flagged.cls ≠ "java/lang/invoke/VarHandle" ∧ (parseMethodDescriptor yX0_flagged.desc).map (fun d => d.parameters.length) = some 0 := by decide +kernel
theorem fl_X0_flagged_9 : Cond.fieldLink RX0 9 (TX0 0).1 (TX0 0).2.1 (TX0 0).2.2.1 ∈ wsX0_flagged := by decide +kernel
theorem in_X0_flagged_0 : ∀ x ∈ u_ws RX0 TX0 5, x ∈ wsX0_flagged := by decide +kernel
set_option maxRecDepth 100000 in
set_option maxHeartbeats 4000000 in
theorem c_X0_flagged {l : Launch} {D : va_G} {cI cL : ClassId} {a : Nat → Nat} (o : Nat) (n : Nat) (tw : Nat → Int32) (sl : Nat → Int32) (dp : Nat → Int32) (kd : Nat → Int32) (hn : n ≤ 6) : Ct l yX0_flagged wsX0_flagged { frames := 1, cells := 0, slots := 0, locals := 21 } D (ty2 cI cL) [.ref (a o)] (wR cI a o n tw sl dp kd) (fun v w' => v = some (.int (flagN dp sl n)) ∧ w' = wR cI a o n tw sl dp kd) 0 0 := by
  refine Ct.of (cc := cX0_flagged) (maxL := 3) (ret := (some .int)) (by decide) rfl (Nat.le_of_ble_eq_true rfl) ?_
  intro p e s m below meth c A ls CX hin HW hl
  obtain ⟨hx, hb, hml, hr, hown, hts, hK, hA, hlk⟩ := id CX
  have hl : lv_has ls 3 [(0, .ref (a o))] := hl
  have loop : ∀ (d0 : Nat) (i : Nat), n - i = d0 → (i ≤ n) → ∀ (H : Heap) (locs : List Loc) (ls : Array Slot), Hw D A s (wR cI a o n tw sl dp kd) H locs → lv_has ls 3 [(2, .int (nI i)), (1, .int (flagN dp sl i)), (0, .ref (a o))] → W p l e ({ frames := 1, cells := 0, slots := 0, locals := 21 } : Room) s m ([.ref (a o)] : List Value).toArray below meth c H locs 0 0 (MQ below (cQ D A (fun v w' => v = some (.int (flagN dp sl n)) ∧ w' = wR cI a o n tw sl dp kd)) ([.ref (a o)] : List Value).toArray s 0 0 A) (F0 m 4 ls []) := by
    intro d0
    induction d0 using Nat.strongRecOn with
    | _ d0 ih =>
      intro i hd0 hi H locs ls HW hl
      have j23 : ∀ (x1 : Int32), (i < n) → (x1 = flagN dp sl (i + 1)) → ∀ (H : Heap) (locs : List Loc) (ls : Array Slot), Hw D A s (wR cI a o n tw sl dp kd) H locs → lv_has ls 3 [(2, .int (nI i)), (1, .int x1), (0, .ref (a o))] → W p l e ({ frames := 1, cells := 0, slots := 0, locals := 21 } : Room) s m ([.ref (a o)] : List Value).toArray below meth c H locs 0 0 (MQ below (cQ D A (fun v w' => v = some (.int (flagN dp sl n)) ∧ w' = wR cI a o n tw sl dp kd)) ([.ref (a o)] : List Value).toArray s 0 0 A) (F0 m 23 ls []) := by
        intro x1 hlt h1 H locs ls HW hl
        subst h1
        refine lv_iinc (v := (nI (i + 1))) (lv' := [(2, .int (nI (i + 1))), (1, .int (flagN dp sl (i + 1))), (0, .ref (a o))]) hx hb dX0_flagged_23 hl (k := 0) rfl (inc1 _) (Nat.le_of_ble_eq_true rfl) rfl (fun ls hl => ?_)
        refine lv_goto (tgt := 4) hx hb dX0_flagged_26 (by decide) ?_
        exact ih _ (by omega) (i + 1) rfl (by omega) _ _ _ HW (lv_sub hl [0, 1, 2] rfl)
      refine lv_iload_n hx hb dX0_flagged_4 rfl (lv_at hl 0 rfl) ?_
      refine lv_aload_n hx hb dX0_flagged_5 rfl (lv_at hl 2 rfl) ?_
      refine g_get CX HW in_X0_flagged_0 0 0 rfl rfl (Nat.le_of_ble_eq_true rfl) fl_X0_flagged_9 rfl dX0_flagged_6 ?_
      refine lv_icmp_ge (tgt := 29) hx hb dX0_flagged_9 (by decide) (fun c9 => ?_) (fun c9 => ?_)
      · have c9 := (nI_leI (by omega) (by omega)).mp c9
        obtain rfl : i = n := by omega
        refine lv_iload_n hx hb dX0_flagged_29 rfl (lv_at hl 1 rfl) ?_
        exact g_iret CX HW rfl ⟨rfl, rfl⟩ dX0_flagged_30
      · have c9 : i < n := nI_lt_of (by omega) (by omega) c9
        refine lv_aload_n hx hb dX0_flagged_12 rfl (lv_at hl 2 rfl) ?_
        refine lv_iload_n hx hb dX0_flagged_13 rfl (lv_at hl 0 rfl) ?_
        refine g_callV CX HW hl.1 ([]) ([]) (c_X0_isOpen o n tw sl dp kd i (by omega)) rfl 0 rfl rfl gX0_flagged_X0_isOpen rfl ⟨rfl, hd_X0_isOpen⟩ ⟨rfl, rfl, (Nat.le_of_ble_eq_true rfl), (Nat.le_of_ble_eq_true rfl)⟩ ⟨(Nat.zero_le _), (Nat.zero_le _)⟩ rfl rfl (Nat.le_of_ble_eq_true rfl) dX0_flagged_14 (fun v w1 H locs hp HW => ?_)
        obtain ⟨rfl, rfl⟩ := hp
        have HW : Hw D A s (wR cI a o n tw sl dp kd) H locs := HW
        refine W.eq (g2 := F0 m 17 ls [.int (bI (opn dp sl i))]) rfl ?_
        refine g_ifne_b (tgt := 23) hx hb dX0_flagged_17 (by decide) (fun c17 => ?_) (fun c17 => ?_)
        · exact j23 (flagN dp sl i) (by omega) (by simp only [flagN]; rw [if_pos c17]) _ _ _ HW (lv_sub hl [0, 1, 2] rfl)
        · refine lv_iinc (v := ((flagN dp sl i) + (1 : Int32))) (lv' := [(1, .int ((flagN dp sl i) + (1 : Int32))), (2, .int (nI i)), (0, .ref (a o))]) hx hb dX0_flagged_20 hl (k := 1) rfl (inc1x _) (Nat.le_of_ble_eq_true rfl) rfl (fun ls hl => ?_)
          exact j23 ((flagN dp sl i) + (1 : Int32)) (by omega) (by simp only [flagN]; rw [if_neg c17]) _ _ _ HW (lv_sub hl [1, 0, 2] rfl)
  refine lv_iconst (v := 0) hx hb dX0_flagged_0 (by decide) ?_
  refine lv_istore_n (lv' := [(1, .int (0 : Int32)), (0, .ref (a o))]) hx hb dX0_flagged_1 rfl hl (Nat.le_of_ble_eq_true rfl) rfl (fun ls hl => ?_)
  refine lv_iconst (v := 0) hx hb dX0_flagged_2 (by decide) ?_
  refine lv_istore_n (lv' := [(2, .int (0 : Int32)), (1, .int (0 : Int32)), (0, .ref (a o))]) hx hb dX0_flagged_3 rfl hl (Nat.le_of_ble_eq_true rfl) rfl (fun ls hl => ?_)
  exact loop _ 0 rfl (by omega) _ _ _ HW (lv_sub hl [0, 1, 2] rfl)

theorem hd_X0_figure : yX0_figure.cls ≠ "java/lang/invoke/MethodHandle" ∧ yX0_figure.cls ≠ "java/lang/invoke/VarHandle" ∧ (parseMethodDescriptor yX0_figure.desc).map (fun d => d.parameters.length) = some 2 := by decide +kernel
theorem fl_X0_figure_15 : Cond.fieldLink RX0 15 (TX0 1).1 (TX0 1).2.1 (TX0 1).2.2.1 ∈ wsX0_figure := by decide +kernel
theorem in_X0_figure_0 : ∀ x ∈ u_ws RX0 TX0 5, x ∈ wsX0_figure := by decide +kernel
theorem fl_X0_figure_19 : Cond.fieldLink RX0 19 (TX0 2).1 (TX0 2).2.1 (TX0 2).2.2.1 ∈ wsX0_figure := by decide +kernel
theorem fl_X0_figure_22 : Cond.fieldLink RX0 22 (TX0 3).1 (TX0 3).2.1 (TX0 3).2.2.1 ∈ wsX0_figure := by decide +kernel
theorem fl_X0_figure_25 : Cond.fieldLink RX0 25 (TX0 4).1 (TX0 4).2.1 (TX0 4).2.2.1 ∈ wsX0_figure := by decide +kernel
set_option maxRecDepth 100000 in
set_option maxHeartbeats 4000000 in
theorem c_X0_figure {l : Launch} {D : va_G} {cI cL : ClassId} {a : Nat → Nat} (o : Nat) (n : Nat) (tw : Nat → Int32) (sl : Nat → Int32) (dp : Nat → Int32) (kd : Nat → Int32) (r : Nat) (what : Nat) (hr6 : r < 6) (hw5 : what < 5) : Ct l yX0_figure wsX0_figure { frames := 1, cells := 0, slots := 0, locals := 21 } D (ty2 cI cL) [.ref (a o), .int (nI r), .int (nI what)] (wR cI a o n tw sl dp kd) (fun v w' => v = some (.int (figR tw sl dp kd r what)) ∧ w' = wR cI a o n tw sl dp kd) 0 0 := by
  refine Ct.of (cc := cX0_figure) (maxL := 3) (ret := (some .int)) (by decide) rfl (Nat.le_of_ble_eq_true rfl) ?_
  intro p e s m below meth c A ls CX hin HW hl
  obtain ⟨hx, hb, hml, hr, hown, hts, hK, hA, hlk⟩ := id CX
  have hl : lv_has ls 3 [(0, .ref (a o)), (1, .int (nI r)), (2, .int (nI what))] := hl
  refine lv_iload_n hx hb dX0_figure_0 rfl (lv_at hl 2 rfl) ?_
  rcases (by omega : what = 0 ∨ what = 1 ∨ what = 2 ∨ what = 3 ∨ what = 4) with rfl | rfl | rfl | rfl | rfl
  · refine lv_tableIn (off := 31) (tgt := 32) hx hb dX0_figure_1 (by decide) (by decide) (by decide) (by decide) ?_
    refine lv_aload_n hx hb dX0_figure_32 rfl (lv_at hl 0 rfl) ?_
    refine g_get CX HW in_X0_figure_0 0 1 rfl rfl (Nat.le_of_ble_eq_true rfl) fl_X0_figure_15 rfl dX0_figure_33 ?_
    refine lv_iload_n hx hb dX0_figure_36 rfl (lv_at hl 1 rfl) ?_
    refine g_ald CX HW 1 (k := r) rfl rfl rfl (by omega) (Nat.le_of_ble_eq_true rfl) dX0_figure_37 ?_
    exact g_iret CX HW rfl ⟨rfl, rfl⟩ dX0_figure_38
  · refine lv_tableIn (off := 38) (tgt := 39) hx hb dX0_figure_1 (by decide) (by decide) (by decide) (by decide) ?_
    refine lv_aload_n hx hb dX0_figure_39 rfl (lv_at hl 0 rfl) ?_
    refine g_get CX HW in_X0_figure_0 0 2 rfl rfl (Nat.le_of_ble_eq_true rfl) fl_X0_figure_19 rfl dX0_figure_40 ?_
    refine lv_iload_n hx hb dX0_figure_43 rfl (lv_at hl 1 rfl) ?_
    refine g_ald CX HW 2 (k := r) rfl rfl rfl (by omega) (Nat.le_of_ble_eq_true rfl) dX0_figure_44 ?_
    exact g_iret CX HW rfl ⟨rfl, rfl⟩ dX0_figure_45
  · refine lv_tableIn (off := 45) (tgt := 46) hx hb dX0_figure_1 (by decide) (by decide) (by decide) (by decide) ?_
    refine lv_aload_n hx hb dX0_figure_46 rfl (lv_at hl 0 rfl) ?_
    refine g_get CX HW in_X0_figure_0 0 3 rfl rfl (Nat.le_of_ble_eq_true rfl) fl_X0_figure_22 rfl dX0_figure_47 ?_
    refine lv_iload_n hx hb dX0_figure_50 rfl (lv_at hl 1 rfl) ?_
    refine g_ald CX HW 3 (k := r) rfl rfl rfl (by omega) (Nat.le_of_ble_eq_true rfl) dX0_figure_51 ?_
    exact g_iret CX HW rfl ⟨rfl, rfl⟩ dX0_figure_52
  · refine lv_tableIn (off := 52) (tgt := 53) hx hb dX0_figure_1 (by decide) (by decide) (by decide) (by decide) ?_
    refine lv_aload_n hx hb dX0_figure_53 rfl (lv_at hl 0 rfl) ?_
    refine lv_iload_n hx hb dX0_figure_54 rfl (lv_at hl 1 rfl) ?_
    refine g_callV CX HW hl.1 ([]) ([]) (c_X0_isOpen o n tw sl dp kd r (by omega)) rfl 0 rfl rfl gX0_figure_X0_isOpen rfl ⟨rfl, hd_X0_isOpen⟩ ⟨rfl, rfl, (Nat.le_of_ble_eq_true rfl), (Nat.le_of_ble_eq_true rfl)⟩ ⟨(Nat.zero_le _), (Nat.zero_le _)⟩ rfl rfl (Nat.le_of_ble_eq_true rfl) dX0_figure_55 (fun v w1 H locs hp HW => ?_)
    obtain ⟨rfl, rfl⟩ := hp
    have HW : Hw D A s (wR cI a o n tw sl dp kd) H locs := HW
    refine W.eq (g2 := F0 m 58 ls [.int (bI (opn dp sl r))]) rfl ?_
    refine g_ifeq_b (tgt := 65) hx hb dX0_figure_58 (by decide) (fun c58 => ?_) (fun c58 => ?_)
    · refine lv_iconst (v := 1) hx hb dX0_figure_65 (by decide) ?_
      exact g_iret CX HW rfl ⟨by simp only [figR]; rw [if_neg c58], rfl⟩ dX0_figure_66
    · refine lv_iconst (v := 0) hx hb dX0_figure_61 (by decide) ?_
      refine lv_goto (tgt := 66) hx hb dX0_figure_62 (by decide) ?_
      exact g_iret CX HW rfl ⟨by simp only [figR]; rw [if_pos c58], rfl⟩ dX0_figure_66
  · refine lv_tableOut (tgt := 67) hx hb dX0_figure_1 (by decide) (by decide) ?_
    refine lv_aload_n hx hb dX0_figure_67 rfl (lv_at hl 0 rfl) ?_
    refine g_get CX HW in_X0_figure_0 0 4 rfl rfl (Nat.le_of_ble_eq_true rfl) fl_X0_figure_25 rfl dX0_figure_68 ?_
    refine lv_iload_n hx hb dX0_figure_71 rfl (lv_at hl 1 rfl) ?_
    refine g_ald CX HW 4 (k := r) rfl rfl rfl (by omega) (Nat.le_of_ble_eq_true rfl) dX0_figure_72 ?_
    exact g_iret CX HW rfl ⟨rfl, rfl⟩ dX0_figure_73
end
section
/-- how many of the first n are at t -/
def cntE (f : Nat → Int32) (t : Int32) : Nat → Nat
  | 0 => 0
  | k + 1 => if f k = t then cntE f t k + 1 else cntE f t k
def cntN (f : Nat → Int32) : Nat → Nat
  | 0 => 0
  | k + 1 => if f k = -1 then cntN f k else cntN f k + 1
/-- the first of the first n who is at t with the place p -/
def fnd (qt qp : Nat → Int32) (t p : Int32) : Nat → Option Nat
  | 0 => none
  | k + 1 => match fnd qt qp t p k with
    | some j => some j
    | none => if qt k = t ∧ qp k = p then some k else none
theorem fnd_up {qt qp : Nat → Int32} {t p : Int32} {i j : Nat} (h : fnd qt qp t p i = some j) : ∀ {n : Nat}, i ≤ n → fnd qt qp t p n = some j := by
  intro n
  induction n with
  | zero => intro h2; rw [show i = 0 by omega] at h; exact h
  | succ n ih =>
    intro h2
    by_cases h3 : i = n + 1
    · rw [← h3]; exact h
    · simp only [fnd]; rw [ih (by omega)]
def tkP (qt qp : Nat → Int32) (T P : Int32) (i : Nat) : Nat → Int32 := fun j => if j < i ∧ qt j = T ∧ P < qp j then qp j - 1 else qp j
theorem tkP_0 (qt qp : Nat → Int32) (T P : Int32) : tkP qt qp T P 0 = qp := by funext j; simp [tkP]
theorem tkP_at (qt qp : Nat → Int32) (T P : Int32) (i : Nat) : tkP qt qp T P i i = qp i := by simp [tkP]
theorem tkP_s {qt qp : Nat → Int32} {T P : Int32} {i : Nat} (h1 : qt i = T) (h2 : P < qp i) : upd (tkP qt qp T P i) i (qp i - 1) = tkP qt qp T P (i + 1) := by
  funext j
  simp only [upd, tkP]
  by_cases h : j = i
  · subst h; simp [h1, h2]
  · simp only [h, if_false]
    by_cases h3 : j < i
    · simp [h3, show j < i + 1 by omega]
    · simp [h3, show ¬ j < i + 1 by omega]
theorem tkP_n {qt qp : Nat → Int32} {T P : Int32} {i : Nat} (h1 : ¬ (qt i = T ∧ P < qp i)) : tkP qt qp T P i = tkP qt qp T P (i + 1) := by
  funext j
  simp only [tkP]
  by_cases h : j = i
  · subst h; simp [h1]
  · by_cases h3 : j < i
    · simp [h3, show j < i + 1 by omega]
    · simp [h3, show ¬ j < i + 1 by omega]
def tkT (qt : Nat → Int32) (k : Nat) : Nat → Int32 := if qt k = -1 then qt else upd qt k (-1)
def tkQ (n : Nat) (qt qp : Nat → Int32) (k : Nat) : Nat → Int32 := if qt k = -1 then qp else tkP (upd qt k (-1)) qp (qt k) (qp k) n
def absI (x : Int32) : Int32 := if 0 ≤ x then x else 0 - x
def glR (wx ly : Nat → Int32) (k : Nat) (f : Int32) : Int32 := if 0 < ly k then 4 - 2 * absI (wx k - f) else -4
def glL (ly : Nat → Int32) (k : Nat) : Nat → Int32 := if 0 < ly k then upd ly k (ly k - 1) else ly
def sumN (f : Nat → Int32) : Nat → Int32
  | 0 => 0
  | k + 1 => sumN f k + f k
def figS (sk cn wx ly pt rd qt : Nat → Int32) (k what : Nat) : Int32 := match what with
  | 0 => sk k
  | 1 => cn k
  | 2 => if 0 < ly k then wx k else -1
  | 3 => ly k
  | 4 => pt k
  | 5 => rd k
  | _ => qt k

theorem hd_X1_has : yX1_has.cls ≠ "java/lang/invoke/MethodHandle" ∧ yX1_has.cls ≠ "java/lang/invoke/VarHandle" ∧ (parseMethodDescriptor yX1_has.desc).map (fun d => d.parameters.length) = some 1 := by decide +kernel
theorem fl_X1_has_9 : Cond.fieldLink RX1 9 (TX1 0).1 (TX1 0).2.1 (TX1 0).2.2.1 ∈ wsX1_has := by decide +kernel
theorem in_X1_has_1 : ∀ x ∈ u_ws RX1 TX1 9, x ∈ wsX1_has := by decide +kernel
set_option maxRecDepth 100000 in
set_option maxHeartbeats 4000000 in
theorem c_X1_has {l : Launch} {D : va_G} {cI cL : ClassId} {a : Nat → Nat} (o : Nat) (n : Nat) (sk : Nat → Int32) (cn : Nat → Int32) (wx : Nat → Int32) (ly : Nat → Int32) (pt : Nat → Int32) (rd : Nat → Int32) (qt : Nat → Int32) (qp : Nat → Int32) (x : Int32) : Ct l yX1_has wsX1_has { frames := 0, cells := 0, slots := 0, locals := 0 } D (ty2 cI cL) [.ref (a o), .int x] (wS cI a o n sk cn wx ly pt rd qt qp) (fun v w' => v = some (.int (bI (0 ≤ x ∧ x < nI n))) ∧ w' = wS cI a o n sk cn wx ly pt rd qt qp) 0 0 := by
  refine Ct.of (cc := cX1_has) (maxL := 2) (ret := (some .boolean)) (by decide) rfl (Nat.le_of_ble_eq_true rfl) ?_
  intro p e s m below meth c A ls CX hin HW hl
  obtain ⟨hx, hb, hml, hr, hown, hts, hK, hA, hlk⟩ := id CX
  have hl : lv_has ls 2 [(0, .ref (a o)), (1, .int x)] := hl
  refine lv_iload_n hx hb dX1_has_0 rfl (lv_at hl 1 rfl) ?_
  refine lv_if_lt (tgt := 16) hx hb dX1_has_1 (by decide) (fun c1 => ?_) (fun c1 => ?_)
  · refine lv_iconst (v := 0) hx hb dX1_has_16 (by decide) ?_
    exact g_zret CX HW rfl (Or.inl rfl) ⟨pI_f (by intro h9; first | exact absurd c1 (Int32.not_lt.mpr h9.1) | exact absurd c9 (Int32.not_le.mpr h9.2)), rfl⟩ dX1_has_17
  · refine lv_iload_n hx hb dX1_has_4 rfl (lv_at hl 1 rfl) ?_
    refine lv_aload_n hx hb dX1_has_5 rfl (lv_at hl 0 rfl) ?_
    refine g_get CX HW in_X1_has_1 0 0 rfl rfl (Nat.le_of_ble_eq_true rfl) fl_X1_has_9 rfl dX1_has_6 ?_
    refine lv_icmp_ge (tgt := 16) hx hb dX1_has_9 (by decide) (fun c9 => ?_) (fun c9 => ?_)
    · refine lv_iconst (v := 0) hx hb dX1_has_16 (by decide) ?_
      exact g_zret CX HW rfl (Or.inl rfl) ⟨pI_f (by intro h9; first | exact absurd c1 (Int32.not_lt.mpr h9.1) | exact absurd c9 (Int32.not_le.mpr h9.2)), rfl⟩ dX1_has_17
    · refine lv_iconst (v := 1) hx hb dX1_has_12 (by decide) ?_
      refine lv_goto (tgt := 17) hx hb dX1_has_13 (by decide) ?_
      exact g_zret CX HW rfl (Or.inr rfl) ⟨pI_t ⟨Int32.not_lt.mp c1, Int32.not_le.mp c9⟩, rfl⟩ dX1_has_17

theorem hd_X1_isFull : yX1_isFull.cls ≠ "java/lang/invoke/MethodHandle" ∧ yX1_isFull.cls ≠ "java/lang/invoke/VarHandle" ∧ (parseMethodDescriptor yX1_isFull.desc).map (fun d => d.parameters.length) = some 0 := by decide +kernel
theorem fl_X1_isFull_9 : Cond.fieldLink RX1 9 (TX1 0).1 (TX1 0).2.1 (TX1 0).2.2.1 ∈ wsX1_isFull := by decide +kernel
theorem in_X1_isFull_1 : ∀ x ∈ u_ws RX1 TX1 9, x ∈ wsX1_isFull := by decide +kernel
set_option maxRecDepth 100000 in
set_option maxHeartbeats 4000000 in
theorem c_X1_isFull {l : Launch} {D : va_G} {cI cL : ClassId} {a : Nat → Nat} (o : Nat) (n : Nat) (sk : Nat → Int32) (cn : Nat → Int32) (wx : Nat → Int32) (ly : Nat → Int32) (pt : Nat → Int32) (rd : Nat → Int32) (qt : Nat → Int32) (qp : Nat → Int32) : Ct l yX1_isFull wsX1_isFull { frames := 0, cells := 0, slots := 0, locals := 0 } D (ty2 cI cL) [.ref (a o)] (wS cI a o n sk cn wx ly pt rd qt qp) (fun v w' => v = some (.int (bI (8 ≤ nI n))) ∧ w' = wS cI a o n sk cn wx ly pt rd qt qp) 0 0 := by
  refine Ct.of (cc := cX1_isFull) (maxL := 1) (ret := (some .boolean)) (by decide) rfl (Nat.le_of_ble_eq_true rfl) ?_
  intro p e s m below meth c A ls CX hin HW hl
  obtain ⟨hx, hb, hml, hr, hown, hts, hK, hA, hlk⟩ := id CX
  have hl : lv_has ls 1 [(0, .ref (a o))] := hl
  refine lv_aload_n hx hb dX1_isFull_0 rfl (lv_at hl 0 rfl) ?_
  refine g_get CX HW in_X1_isFull_1 0 0 rfl rfl (Nat.le_of_ble_eq_true rfl) fl_X1_isFull_9 rfl dX1_isFull_1 ?_
  refine lv_bipush (v := 8) hx hb dX1_isFull_4 (by decide) ?_
  refine lv_icmp_lt (tgt := 13) hx hb dX1_isFull_6 (by decide) (fun c6 => ?_) (fun c6 => ?_)
  · refine lv_iconst (v := 0) hx hb dX1_isFull_13 (by decide) ?_
    exact g_zret CX HW rfl (Or.inl rfl) ⟨pI_f (Int32.not_le.mpr c6), rfl⟩ dX1_isFull_14
  · refine lv_iconst (v := 1) hx hb dX1_isFull_9 (by decide) ?_
    refine lv_goto (tgt := 14) hx hb dX1_isFull_10 (by decide) ?_
    exact g_zret CX HW rfl (Or.inr rfl) ⟨pI_t (Int32.not_lt.mp c6), rfl⟩ dX1_isFull_14

theorem hd_X1_add : yX1_add.cls ≠ "java/lang/invoke/MethodHandle" ∧ yX1_add.cls ≠ "java/lang/invoke/VarHandle" ∧ (parseMethodDescriptor yX1_add.desc).map (fun d => d.parameters.length) = some 2 := by decide +kernel
theorem fl_X1_add_9 : Cond.fieldLink RX1 9 (TX1 0).1 (TX1 0).2.1 (TX1 0).2.2.1 ∈ wsX1_add := by decide +kernel
theorem in_X1_add_1 : ∀ x ∈ u_ws RX1 TX1 9, x ∈ wsX1_add := by decide +kernel
theorem fl_X1_add_15 : Cond.fieldLink RX1 15 (TX1 1).1 (TX1 1).2.1 (TX1 1).2.2.1 ∈ wsX1_add := by decide +kernel
theorem fl_X1_add_19 : Cond.fieldLink RX1 19 (TX1 2).1 (TX1 2).2.1 (TX1 2).2.2.1 ∈ wsX1_add := by decide +kernel
theorem fl_X1_add_34 : Cond.fieldLink RX1 34 (TX1 7).1 (TX1 7).2.1 (TX1 7).2.2.1 ∈ wsX1_add := by decide +kernel
set_option maxRecDepth 100000 in
set_option maxHeartbeats 4000000 in
theorem c_X1_add {l : Launch} {D : va_G} {cI cL : ClassId} {a : Nat → Nat} (o : Nat) (n : Nat) (sk : Nat → Int32) (cn : Nat → Int32) (wx : Nat → Int32) (ly : Nat → Int32) (pt : Nat → Int32) (rd : Nat → Int32) (qt : Nat → Int32) (qp : Nat → Int32) (sv : Int32) (cv : Int32) (hn : n < 8) : Ct l yX1_add wsX1_add { frames := 0, cells := 0, slots := 0, locals := 0 } D (ty2 cI cL) [.ref (a o), .int sv, .int cv] (wS cI a o n sk cn wx ly pt rd qt qp) (fun v w' => v = some (.int (nI n)) ∧ w' = wS cI a o (n + 1) (upd sk n sv) (upd cn n cv) wx ly pt rd (upd qt n (-1)) qp) 0 0 := by
  refine Ct.of (cc := cX1_add) (maxL := 4) (ret := (some .int)) (by decide) rfl (Nat.le_of_ble_eq_true rfl) ?_
  intro p e s m below meth c A ls CX hin HW hl
  obtain ⟨hx, hb, hml, hr, hown, hts, hK, hA, hlk⟩ := id CX
  have hl : lv_has ls 4 [(0, .ref (a o)), (1, .int sv), (2, .int cv)] := hl
  refine lv_aload_n hx hb dX1_add_0 rfl (lv_at hl 0 rfl) ?_
  refine g_get CX HW in_X1_add_1 0 0 rfl rfl (Nat.le_of_ble_eq_true rfl) fl_X1_add_9 rfl dX1_add_1 ?_
  refine lv_istore_n (lv' := [(3, .int (nI n)), (0, .ref (a o)), (1, .int sv), (2, .int cv)]) hx hb dX1_add_4 rfl hl (Nat.le_of_ble_eq_true rfl) rfl (fun ls hl => ?_)
  refine lv_aload_n hx hb dX1_add_5 rfl (lv_at hl 1 rfl) ?_
  refine g_get CX HW in_X1_add_1 0 1 rfl rfl (Nat.le_of_ble_eq_true rfl) fl_X1_add_15 rfl dX1_add_6 ?_
  refine lv_iload_n hx hb dX1_add_9 rfl (lv_at hl 0 rfl) ?_
  refine lv_iload_n hx hb dX1_add_10 rfl (lv_at hl 2 rfl) ?_
  refine g_ast CX HW 1 (k := n) rfl rfl rfl (by omega) (Nat.le_of_ble_eq_true rfl) dX1_add_11 (fun H locs HW => ?_)
  have HW : Hw D A s (wS cI a o n (upd sk n sv) cn wx ly pt rd qt qp) H locs := HW
  refine lv_aload_n hx hb dX1_add_12 rfl (lv_at hl 1 rfl) ?_
  refine g_get CX HW in_X1_add_1 0 2 rfl rfl (Nat.le_of_ble_eq_true rfl) fl_X1_add_19 rfl dX1_add_13 ?_
  refine lv_iload_n hx hb dX1_add_16 rfl (lv_at hl 0 rfl) ?_
  refine lv_iload_n hx hb dX1_add_17 rfl (lv_at hl 3 rfl) ?_
  refine g_ast CX HW 2 (k := n) rfl rfl rfl (by omega) (Nat.le_of_ble_eq_true rfl) dX1_add_18 (fun H locs HW => ?_)
  have HW : Hw D A s (wS cI a o n (upd sk n sv) (upd cn n cv) wx ly pt rd qt qp) H locs := HW
  refine lv_aload_n hx hb dX1_add_19 rfl (lv_at hl 1 rfl) ?_
  refine g_get CX HW in_X1_add_1 0 7 rfl rfl (Nat.le_of_ble_eq_true rfl) fl_X1_add_34 rfl dX1_add_20 ?_
  refine lv_iload_n hx hb dX1_add_23 rfl (lv_at hl 0 rfl) ?_
  refine lv_iconst (v := (-1)) hx hb dX1_add_24 (by decide) ?_
  refine g_ast CX HW 7 (k := n) rfl rfl rfl (by omega) (Nat.le_of_ble_eq_true rfl) dX1_add_25 (fun H locs HW => ?_)
  have HW : Hw D A s (wS cI a o n (upd sk n sv) (upd cn n cv) wx ly pt rd (upd qt n (-1 : Int32)) qp) H locs := HW
  refine lv_aload_n hx hb dX1_add_26 rfl (lv_at hl 1 rfl) ?_
  refine lv_dup hx hb dX1_add_27 rfl ?_
  refine g_get CX HW in_X1_add_1 0 0 rfl rfl (Nat.le_of_ble_eq_true rfl) fl_X1_add_9 rfl dX1_add_28 ?_
  refine lv_iconst (v := 1) hx hb dX1_add_31 (by decide) ?_
  refine lv_iadd hx hb dX1_add_32 ?_
  refine g_top (y := (nI (n + 1))) (nI_1 _) ?_
  refine g_put CX HW in_X1_add_1 tyX1 tyX1_ok nmX1 0 0 rfl rfl (Nat.le_of_ble_eq_true rfl) fl_X1_add_9 rfl rfl rfl (Nat.le_of_ble_eq_true rfl) dX1_add_33 (fun H locs HW => ?_)
  have HW : Hw D A s (wS cI a o (n + 1) (upd sk n sv) (upd cn n cv) wx ly pt rd (upd qt n (-1 : Int32)) qp) H locs := HW
  refine lv_iload_n hx hb dX1_add_36 rfl (lv_at hl 0 rfl) ?_
  exact g_iret CX HW rfl ⟨rfl, rfl⟩ dX1_add_37

theorem hd_X1_putWaxOn : yX1_putWaxOn.cls ≠ "java/lang/invoke/MethodHandle" ∧ yX1_putWaxOn.cls ≠ "java/lang/invoke/VarHandle" ∧ (parseMethodDescriptor yX1_putWaxOn.desc).map (fun d => d.parameters.length) = some 2 := by decide +kernel
theorem fl_X1_putWaxOn_22 : Cond.fieldLink RX1 22 (TX1 3).1 (TX1 3).2.1 (TX1 3).2.2.1 ∈ wsX1_putWaxOn := by decide +kernel
theorem in_X1_putWaxOn_1 : ∀ x ∈ u_ws RX1 TX1 9, x ∈ wsX1_putWaxOn := by decide +kernel
theorem fl_X1_putWaxOn_25 : Cond.fieldLink RX1 25 (TX1 4).1 (TX1 4).2.1 (TX1 4).2.2.1 ∈ wsX1_putWaxOn := by decide +kernel
set_option maxRecDepth 100000 in
set_option maxHeartbeats 4000000 in
theorem c_X1_putWaxOn {l : Launch} {D : va_G} {cI cL : ClassId} {a : Nat → Nat} (o : Nat) (n : Nat) (sk : Nat → Int32) (cn : Nat → Int32) (wx : Nat → Int32) (ly : Nat → Int32) (pt : Nat → Int32) (rd : Nat → Int32) (qt : Nat → Int32) (qp : Nat → Int32) (k : Nat) (f : Int32) (hk8 : k < 8) : Ct l yX1_putWaxOn wsX1_putWaxOn { frames := 0, cells := 0, slots := 0, locals := 0 } D (ty2 cI cL) [.ref (a o), .int (nI k), .int f] (wS cI a o n sk cn wx ly pt rd qt qp) (fun v w' => v = none ∧ w' = wS cI a o n sk cn (upd wx k f) (upd ly k 10) pt rd qt qp) 0 0 := by
  refine Ct.of (cc := cX1_putWaxOn) (maxL := 3) (ret := none) (by decide) rfl (Nat.le_of_ble_eq_true rfl) ?_
  intro p e s m below meth c A ls CX hin HW hl
  obtain ⟨hx, hb, hml, hr, hown, hts, hK, hA, hlk⟩ := id CX
  have hl : lv_has ls 3 [(0, .ref (a o)), (1, .int (nI k)), (2, .int f)] := hl
  refine lv_aload_n hx hb dX1_putWaxOn_0 rfl (lv_at hl 0 rfl) ?_
  refine g_get CX HW in_X1_putWaxOn_1 0 3 rfl rfl (Nat.le_of_ble_eq_true rfl) fl_X1_putWaxOn_22 rfl dX1_putWaxOn_1 ?_
  refine lv_iload_n hx hb dX1_putWaxOn_4 rfl (lv_at hl 1 rfl) ?_
  refine lv_iload_n hx hb dX1_putWaxOn_5 rfl (lv_at hl 2 rfl) ?_
  refine g_ast CX HW 3 (k := k) rfl rfl rfl (by omega) (Nat.le_of_ble_eq_true rfl) dX1_putWaxOn_6 (fun H locs HW => ?_)
  have HW : Hw D A s (wS cI a o n sk cn (upd wx k f) ly pt rd qt qp) H locs := HW
  refine lv_aload_n hx hb dX1_putWaxOn_7 rfl (lv_at hl 0 rfl) ?_
  refine g_get CX HW in_X1_putWaxOn_1 0 4 rfl rfl (Nat.le_of_ble_eq_true rfl) fl_X1_putWaxOn_25 rfl dX1_putWaxOn_8 ?_
  refine lv_iload_n hx hb dX1_putWaxOn_11 rfl (lv_at hl 1 rfl) ?_
  refine lv_bipush (v := 10) hx hb dX1_putWaxOn_12 (by decide) ?_
  refine g_ast CX HW 4 (k := k) rfl rfl rfl (by omega) (Nat.le_of_ble_eq_true rfl) dX1_putWaxOn_14 (fun H locs HW => ?_)
  have HW : Hw D A s (wS cI a o n sk cn (upd wx k f) (upd ly k (10 : Int32)) pt rd qt qp) H locs := HW
  exact g_vret CX HW rfl ⟨rfl, rfl⟩ dX1_putWaxOn_15

theorem hd_X1_waitingAt : yX1_waitingAt.cls ≠ "java/lang/invoke/MethodHandle" ∧ yX1_waitingAt.cls ≠ "java/lang/invoke/VarHandle" ∧ (parseMethodDescriptor yX1_waitingAt.desc).map (fun d => d.parameters.length) = some 1 := by decide +kernel
theorem fl_X1_waitingAt_9 : Cond.fieldLink RX1 9 (TX1 0).1 (TX1 0).2.1 (TX1 0).2.2.1 ∈ wsX1_waitingAt := by decide +kernel
theorem in_X1_waitingAt_1 : ∀ x ∈ u_ws RX1 TX1 9, x ∈ wsX1_waitingAt := by decide +kernel
theorem fl_X1_waitingAt_34 : Cond.fieldLink RX1 34 (TX1 7).1 (TX1 7).2.1 (TX1 7).2.2.1 ∈ wsX1_waitingAt := by decide +kernel
set_option maxRecDepth 100000 in
set_option maxHeartbeats 4000000 in
theorem c_X1_waitingAt {l : Launch} {D : va_G} {cI cL : ClassId} {a : Nat → Nat} (o : Nat) (n : Nat) (sk : Nat → Int32) (cn : Nat → Int32) (wx : Nat → Int32) (ly : Nat → Int32) (pt : Nat → Int32) (rd : Nat → Int32) (qt : Nat → Int32) (qp : Nat → Int32) (t : Int32) (hn : n ≤ 8) : Ct l yX1_waitingAt wsX1_waitingAt { frames := 0, cells := 0, slots := 0, locals := 0 } D (ty2 cI cL) [.ref (a o), .int t] (wS cI a o n sk cn wx ly pt rd qt qp) (fun v w' => v = some (.int (nI (cntE qt t n))) ∧ w' = wS cI a o n sk cn wx ly pt rd qt qp) 0 0 := by
  refine Ct.of (cc := cX1_waitingAt) (maxL := 4) (ret := (some .int)) (by decide) rfl (Nat.le_of_ble_eq_true rfl) ?_
  intro p e s m below meth c A ls CX hin HW hl
  obtain ⟨hx, hb, hml, hr, hown, hts, hK, hA, hlk⟩ := id CX
  have hl : lv_has ls 4 [(0, .ref (a o)), (1, .int t)] := hl
  have loop : ∀ (d0 : Nat) (i : Nat), n - i = d0 → (i ≤ n) → ∀ (H : Heap) (locs : List Loc) (ls : Array Slot), Hw D A s (wS cI a o n sk cn wx ly pt rd qt qp) H locs → lv_has ls 4 [(3, .int (nI i)), (2, .int (nI (cntE qt t i))), (1, .int t), (0, .ref (a o))] → W p l e ({ frames := 0, cells := 0, slots := 0, locals := 0 } : Room) s m ([.ref (a o), .int t] : List Value).toArray below meth c H locs 0 0 (MQ below (cQ D A (fun v w' => v = some (.int (nI (cntE qt t n))) ∧ w' = wS cI a o n sk cn wx ly pt rd qt qp)) ([.ref (a o), .int t] : List Value).toArray s 0 0 A) (F0 m 4 ls []) := by
    intro d0
    induction d0 using Nat.strongRecOn with
    | _ d0 ih =>
      intro i hd0 hi H locs ls HW hl
      have j25 : ∀ (x2 : Int32), (i < n) → (x2 = nI (cntE qt t (i + 1))) → ∀ (H : Heap) (locs : List Loc) (ls : Array Slot), Hw D A s (wS cI a o n sk cn wx ly pt rd qt qp) H locs → lv_has ls 4 [(3, .int (nI i)), (2, .int x2), (1, .int t), (0, .ref (a o))] → W p l e ({ frames := 0, cells := 0, slots := 0, locals := 0 } : Room) s m ([.ref (a o), .int t] : List Value).toArray below meth c H locs 0 0 (MQ below (cQ D A (fun v w' => v = some (.int (nI (cntE qt t n))) ∧ w' = wS cI a o n sk cn wx ly pt rd qt qp)) ([.ref (a o), .int t] : List Value).toArray s 0 0 A) (F0 m 25 ls []) := by
        intro x2 hlt h2 H locs ls HW hl
        subst h2
        refine lv_iinc (v := (nI (i + 1))) (lv' := [(3, .int (nI (i + 1))), (2, .int (nI (cntE qt t (i + 1)))), (1, .int t), (0, .ref (a o))]) hx hb dX1_waitingAt_25 hl (k := 0) rfl (inc1 _) (Nat.le_of_ble_eq_true rfl) rfl (fun ls hl => ?_)
        refine lv_goto (tgt := 4) hx hb dX1_waitingAt_28 (by decide) ?_
        exact ih _ (by omega) (i + 1) rfl (by omega) _ _ _ HW (lv_sub hl [0, 1, 2, 3] rfl)
      refine lv_iload_n hx hb dX1_waitingAt_4 rfl (lv_at hl 0 rfl) ?_
      refine lv_aload_n hx hb dX1_waitingAt_5 rfl (lv_at hl 3 rfl) ?_
      refine g_get CX HW in_X1_waitingAt_1 0 0 rfl rfl (Nat.le_of_ble_eq_true rfl) fl_X1_waitingAt_9 rfl dX1_waitingAt_6 ?_
      refine lv_icmp_ge (tgt := 31) hx hb dX1_waitingAt_9 (by decide) (fun c9 => ?_) (fun c9 => ?_)
      · have c9 := (nI_leI (by omega) (by omega)).mp c9
        obtain rfl : i = n := by omega
        refine lv_iload_n hx hb dX1_waitingAt_31 rfl (lv_at hl 1 rfl) ?_
        exact g_iret CX HW rfl ⟨rfl, rfl⟩ dX1_waitingAt_32
      · have c9 : i < n := nI_lt_of (by omega) (by omega) c9
        refine lv_aload_n hx hb dX1_waitingAt_12 rfl (lv_at hl 3 rfl) ?_
        refine g_get CX HW in_X1_waitingAt_1 0 7 rfl rfl (Nat.le_of_ble_eq_true rfl) fl_X1_waitingAt_34 rfl dX1_waitingAt_13 ?_
        refine lv_iload_n hx hb dX1_waitingAt_16 rfl (lv_at hl 0 rfl) ?_
        refine g_ald CX HW 7 (k := i) rfl rfl rfl (by omega) (Nat.le_of_ble_eq_true rfl) dX1_waitingAt_17 ?_
        refine lv_iload_n hx hb dX1_waitingAt_18 rfl (lv_at hl 2 rfl) ?_
        refine lv_icmp_ne (tgt := 25) hx hb dX1_waitingAt_19 (by decide) (fun c19 => ?_) (fun c19 => ?_)
        · exact j25 (nI (cntE qt t i)) (by omega) (by simp only [cntE]; rw [if_neg c19]) _ _ _ HW (lv_sub hl [0, 1, 2, 3] rfl)
        · refine lv_iinc (v := (nI ((cntE qt t i) + 1))) (lv' := [(2, .int (nI ((cntE qt t i) + 1))), (3, .int (nI i)), (1, .int t), (0, .ref (a o))]) hx hb dX1_waitingAt_22 hl (k := 1) rfl (inc1 _) (Nat.le_of_ble_eq_true rfl) rfl (fun ls hl => ?_)
          exact j25 (nI ((cntE qt t i) + 1)) (by omega) (by simp only [cntE]; rw [if_pos c19]) _ _ _ HW (lv_sub hl [1, 0, 2, 3] rfl)
  refine lv_iconst (v := 0) hx hb dX1_waitingAt_0 (by decide) ?_
  refine lv_istore_n (lv' := [(2, .int (0 : Int32)), (0, .ref (a o)), (1, .int t)]) hx hb dX1_waitingAt_1 rfl hl (Nat.le_of_ble_eq_true rfl) rfl (fun ls hl => ?_)
  refine lv_iconst (v := 0) hx hb dX1_waitingAt_2 (by decide) ?_
  refine lv_istore_n (lv' := [(3, .int (0 : Int32)), (2, .int (0 : Int32)), (0, .ref (a o)), (1, .int t)]) hx hb dX1_waitingAt_3 rfl hl (Nat.le_of_ble_eq_true rfl) rfl (fun ls hl => ?_)
  exact loop _ 0 rfl (by omega) _ _ _ HW (lv_sub hl [0, 1, 3, 2] rfl)

theorem hd_X1_waitingAnywhere : yX1_waitingAnywhere.cls ≠ "java/lang/invoke/MethodHandle" ∧ yX1_waitingAnywhere.cls ≠ "java/lang/invoke/VarHandle" ∧ (parseMethodDescriptor yX1_waitingAnywhere.desc).map (fun d => d.parameters.length) = some 0 := by decide +kernel
theorem fl_X1_waitingAnywhere_9 : Cond.fieldLink RX1 9 (TX1 0).1 (TX1 0).2.1 (TX1 0).2.2.1 ∈ wsX1_waitingAnywhere := by decide +kernel
theorem in_X1_waitingAnywhere_1 : ∀ x ∈ u_ws RX1 TX1 9, x ∈ wsX1_waitingAnywhere := by decide +kernel
theorem fl_X1_waitingAnywhere_34 : Cond.fieldLink RX1 34 (TX1 7).1 (TX1 7).2.1 (TX1 7).2.2.1 ∈ wsX1_waitingAnywhere := by decide +kernel
set_option maxRecDepth 100000 in
set_option maxHeartbeats 4000000 in
theorem c_X1_waitingAnywhere {l : Launch} {D : va_G} {cI cL : ClassId} {a : Nat → Nat} (o : Nat) (n : Nat) (sk : Nat → Int32) (cn : Nat → Int32) (wx : Nat → Int32) (ly : Nat → Int32) (pt : Nat → Int32) (rd : Nat → Int32) (qt : Nat → Int32) (qp : Nat → Int32) (hn : n ≤ 8) : Ct l yX1_waitingAnywhere wsX1_waitingAnywhere { frames := 0, cells := 0, slots := 0, locals := 0 } D (ty2 cI cL) [.ref (a o)] (wS cI a o n sk cn wx ly pt rd qt qp) (fun v w' => v = some (.int (nI (cntN qt n))) ∧ w' = wS cI a o n sk cn wx ly pt rd qt qp) 0 0 := by
  refine Ct.of (cc := cX1_waitingAnywhere) (maxL := 3) (ret := (some .int)) (by decide) rfl (Nat.le_of_ble_eq_true rfl) ?_
  intro p e s m below meth c A ls CX hin HW hl
  obtain ⟨hx, hb, hml, hr, hown, hts, hK, hA, hlk⟩ := id CX
  have hl : lv_has ls 3 [(0, .ref (a o))] := hl
  have loop : ∀ (d0 : Nat) (i : Nat), n - i = d0 → (i ≤ n) → ∀ (H : Heap) (locs : List Loc) (ls : Array Slot), Hw D A s (wS cI a o n sk cn wx ly pt rd qt qp) H locs → lv_has ls 3 [(2, .int (nI i)), (1, .int (nI (cntN qt i))), (0, .ref (a o))] → W p l e ({ frames := 0, cells := 0, slots := 0, locals := 0 } : Room) s m ([.ref (a o)] : List Value).toArray below meth c H locs 0 0 (MQ below (cQ D A (fun v w' => v = some (.int (nI (cntN qt n))) ∧ w' = wS cI a o n sk cn wx ly pt rd qt qp)) ([.ref (a o)] : List Value).toArray s 0 0 A) (F0 m 4 ls []) := by
    intro d0
    induction d0 using Nat.strongRecOn with
    | _ d0 ih =>
      intro i hd0 hi H locs ls HW hl
      have j25 : ∀ (x2 : Int32), (i < n) → (x2 = nI (cntN qt (i + 1))) → ∀ (H : Heap) (locs : List Loc) (ls : Array Slot), Hw D A s (wS cI a o n sk cn wx ly pt rd qt qp) H locs → lv_has ls 3 [(2, .int (nI i)), (1, .int x2), (0, .ref (a o))] → W p l e ({ frames := 0, cells := 0, slots := 0, locals := 0 } : Room) s m ([.ref (a o)] : List Value).toArray below meth c H locs 0 0 (MQ below (cQ D A (fun v w' => v = some (.int (nI (cntN qt n))) ∧ w' = wS cI a o n sk cn wx ly pt rd qt qp)) ([.ref (a o)] : List Value).toArray s 0 0 A) (F0 m 25 ls []) := by
        intro x2 hlt h2 H locs ls HW hl
        subst h2
        refine lv_iinc (v := (nI (i + 1))) (lv' := [(2, .int (nI (i + 1))), (1, .int (nI (cntN qt (i + 1)))), (0, .ref (a o))]) hx hb dX1_waitingAnywhere_25 hl (k := 0) rfl (inc1 _) (Nat.le_of_ble_eq_true rfl) rfl (fun ls hl => ?_)
        refine lv_goto (tgt := 4) hx hb dX1_waitingAnywhere_28 (by decide) ?_
        exact ih _ (by omega) (i + 1) rfl (by omega) _ _ _ HW (lv_sub hl [0, 1, 2] rfl)
      refine lv_iload_n hx hb dX1_waitingAnywhere_4 rfl (lv_at hl 0 rfl) ?_
      refine lv_aload_n hx hb dX1_waitingAnywhere_5 rfl (lv_at hl 2 rfl) ?_
      refine g_get CX HW in_X1_waitingAnywhere_1 0 0 rfl rfl (Nat.le_of_ble_eq_true rfl) fl_X1_waitingAnywhere_9 rfl dX1_waitingAnywhere_6 ?_
      refine lv_icmp_ge (tgt := 31) hx hb dX1_waitingAnywhere_9 (by decide) (fun c9 => ?_) (fun c9 => ?_)
      · have c9 := (nI_leI (by omega) (by omega)).mp c9
        obtain rfl : i = n := by omega
        refine lv_iload_n hx hb dX1_waitingAnywhere_31 rfl (lv_at hl 1 rfl) ?_
        exact g_iret CX HW rfl ⟨rfl, rfl⟩ dX1_waitingAnywhere_32
      · have c9 : i < n := nI_lt_of (by omega) (by omega) c9
        refine lv_aload_n hx hb dX1_waitingAnywhere_12 rfl (lv_at hl 2 rfl) ?_
        refine g_get CX HW in_X1_waitingAnywhere_1 0 7 rfl rfl (Nat.le_of_ble_eq_true rfl) fl_X1_waitingAnywhere_34 rfl dX1_waitingAnywhere_13 ?_
        refine lv_iload_n hx hb dX1_waitingAnywhere_16 rfl (lv_at hl 0 rfl) ?_
        refine g_ald CX HW 7 (k := i) rfl rfl rfl (by omega) (Nat.le_of_ble_eq_true rfl) dX1_waitingAnywhere_17 ?_
        refine lv_iconst (v := (-1)) hx hb dX1_waitingAnywhere_18 (by decide) ?_
        refine lv_icmp_eq (tgt := 25) hx hb dX1_waitingAnywhere_19 (by decide) (fun c19 => ?_) (fun c19 => ?_)
        · exact j25 (nI (cntN qt i)) (by omega) (by simp only [cntN]; rw [if_pos c19]) _ _ _ HW (lv_sub hl [0, 1, 2] rfl)
        · refine lv_iinc (v := (nI ((cntN qt i) + 1))) (lv' := [(1, .int (nI ((cntN qt i) + 1))), (2, .int (nI i)), (0, .ref (a o))]) hx hb dX1_waitingAnywhere_22 hl (k := 1) rfl (inc1 _) (Nat.le_of_ble_eq_true rfl) rfl (fun ls hl => ?_)
          exact j25 (nI ((cntN qt i) + 1)) (by omega) (by simp only [cntN]; rw [if_neg c19]) _ _ _ HW (lv_sub hl [1, 0, 2] rfl)
  refine lv_iconst (v := 0) hx hb dX1_waitingAnywhere_0 (by decide) ?_
  refine lv_istore_n (lv' := [(1, .int (0 : Int32)), (0, .ref (a o))]) hx hb dX1_waitingAnywhere_1 rfl hl (Nat.le_of_ble_eq_true rfl) rfl (fun ls hl => ?_)
  refine lv_iconst (v := 0) hx hb dX1_waitingAnywhere_2 (by decide) ?_
  refine lv_istore_n (lv' := [(2, .int (0 : Int32)), (1, .int (0 : Int32)), (0, .ref (a o))]) hx hb dX1_waitingAnywhere_3 rfl hl (Nat.le_of_ble_eq_true rfl) rfl (fun ls hl => ?_)
  exact loop _ 0 rfl (by omega) _ _ _ HW (lv_sub hl [0, 1, 2] rfl)

theorem hd_X1_at : yX1_at.cls ≠ "java/lang/invoke/MethodHandle" ∧ yX1_at.cls ≠ "java/lang/invoke/VarHandle" ∧ (parseMethodDescriptor yX1_at.desc).map (fun d => d.parameters.length) = some 2 := by decide +kernel
theorem fl_X1_at_9 : Cond.fieldLink RX1 9 (TX1 0).1 (TX1 0).2.1 (TX1 0).2.2.1 ∈ wsX1_at := by decide +kernel
theorem in_X1_at_1 : ∀ x ∈ u_ws RX1 TX1 9, x ∈ wsX1_at := by decide +kernel
theorem fl_X1_at_34 : Cond.fieldLink RX1 34 (TX1 7).1 (TX1 7).2.1 (TX1 7).2.2.1 ∈ wsX1_at := by decide +kernel
theorem fl_X1_at_37 : Cond.fieldLink RX1 37 (TX1 8).1 (TX1 8).2.1 (TX1 8).2.2.1 ∈ wsX1_at := by decide +kernel
set_option maxRecDepth 100000 in
set_option maxHeartbeats 4000000 in
theorem c_X1_at {l : Launch} {D : va_G} {cI cL : ClassId} {a : Nat → Nat} (o : Nat) (n : Nat) (sk : Nat → Int32) (cn : Nat → Int32) (wx : Nat → Int32) (ly : Nat → Int32) (pt : Nat → Int32) (rd : Nat → Int32) (qt : Nat → Int32) (qp : Nat → Int32) (t : Int32) (pl : Int32) (hn : n ≤ 8) : Ct l yX1_at wsX1_at { frames := 0, cells := 0, slots := 0, locals := 0 } D (ty2 cI cL) [.ref (a o), .int t, .int pl] (wS cI a o n sk cn wx ly pt rd qt qp) (fun v w' => v = some (.int (oI (fnd qt qp t pl n))) ∧ w' = wS cI a o n sk cn wx ly pt rd qt qp) 0 0 := by
  refine Ct.of (cc := cX1_at) (maxL := 4) (ret := (some .int)) (by decide) rfl (Nat.le_of_ble_eq_true rfl) ?_
  intro p e s m below meth c A ls CX hin HW hl
  obtain ⟨hx, hb, hml, hr, hown, hts, hK, hA, hlk⟩ := id CX
  have hl : lv_has ls 4 [(0, .ref (a o)), (1, .int t), (2, .int pl)] := hl
  have loop : ∀ (d0 : Nat) (i : Nat), n - i = d0 → (i ≤ n) → (fnd qt qp t pl i = none) → ∀ (H : Heap) (locs : List Loc) (ls : Array Slot), Hw D A s (wS cI a o n sk cn wx ly pt rd qt qp) H locs → lv_has ls 4 [(3, .int (nI i)), (2, .int pl), (1, .int t), (0, .ref (a o))] → W p l e ({ frames := 0, cells := 0, slots := 0, locals := 0 } : Room) s m ([.ref (a o), .int t, .int pl] : List Value).toArray below meth c H locs 0 0 (MQ below (cQ D A (fun v w' => v = some (.int (oI (fnd qt qp t pl n))) ∧ w' = wS cI a o n sk cn wx ly pt rd qt qp)) ([.ref (a o), .int t, .int pl] : List Value).toArray s 0 0 A) (F0 m 2 ls []) := by
    intro d0
    induction d0 using Nat.strongRecOn with
    | _ d0 ih =>
      intro i hd0 hi hf H locs ls HW hl
      have j32 : ∀ (_u : Unit), (i < n) → (fnd qt qp t pl (i + 1) = none) → ∀ (H : Heap) (locs : List Loc) (ls : Array Slot), Hw D A s (wS cI a o n sk cn wx ly pt rd qt qp) H locs → lv_has ls 4 [(3, .int (nI i)), (2, .int pl), (1, .int t), (0, .ref (a o))] → W p l e ({ frames := 0, cells := 0, slots := 0, locals := 0 } : Room) s m ([.ref (a o), .int t, .int pl] : List Value).toArray below meth c H locs 0 0 (MQ below (cQ D A (fun v w' => v = some (.int (oI (fnd qt qp t pl n))) ∧ w' = wS cI a o n sk cn wx ly pt rd qt qp)) ([.ref (a o), .int t, .int pl] : List Value).toArray s 0 0 A) (F0 m 32 ls []) := by
        intro _u hlt hf2 H locs ls HW hl
        refine lv_iinc (v := (nI (i + 1))) (lv' := [(3, .int (nI (i + 1))), (2, .int pl), (1, .int t), (0, .ref (a o))]) hx hb dX1_at_32 hl (k := 0) rfl (inc1 _) (Nat.le_of_ble_eq_true rfl) rfl (fun ls hl => ?_)
        refine lv_goto (tgt := 2) hx hb dX1_at_35 (by decide) ?_
        exact ih _ (by omega) (i + 1) rfl (by omega) hf2 _ _ _ HW (lv_sub hl [0, 1, 2, 3] rfl)
      refine lv_iload_n hx hb dX1_at_2 rfl (lv_at hl 0 rfl) ?_
      refine lv_aload_n hx hb dX1_at_3 rfl (lv_at hl 3 rfl) ?_
      refine g_get CX HW in_X1_at_1 0 0 rfl rfl (Nat.le_of_ble_eq_true rfl) fl_X1_at_9 rfl dX1_at_4 ?_
      refine lv_icmp_ge (tgt := 38) hx hb dX1_at_7 (by decide) (fun c7 => ?_) (fun c7 => ?_)
      · have c7 := (nI_leI (by omega) (by omega)).mp c7
        obtain rfl : i = n := by omega
        refine lv_iconst (v := (-1)) hx hb dX1_at_38 (by decide) ?_
        exact g_iret CX HW rfl ⟨by rw [hf]; rfl, rfl⟩ dX1_at_39
      · have c7 : i < n := nI_lt_of (by omega) (by omega) c7
        refine lv_aload_n hx hb dX1_at_10 rfl (lv_at hl 3 rfl) ?_
        refine g_get CX HW in_X1_at_1 0 7 rfl rfl (Nat.le_of_ble_eq_true rfl) fl_X1_at_34 rfl dX1_at_11 ?_
        refine lv_iload_n hx hb dX1_at_14 rfl (lv_at hl 0 rfl) ?_
        refine g_ald CX HW 7 (k := i) rfl rfl rfl (by omega) (Nat.le_of_ble_eq_true rfl) dX1_at_15 ?_
        refine lv_iload_n hx hb dX1_at_16 rfl (lv_at hl 2 rfl) ?_
        refine lv_icmp_ne (tgt := 32) hx hb dX1_at_17 (by decide) (fun c17 => ?_) (fun c17 => ?_)
        · exact j32 () (by omega) (by simp only [fnd]; rw [hf]; exact if_neg (by intro h9; first | exact c17 h9.1 | exact c27 h9.2)) _ _ _ HW (lv_sub hl [0, 1, 2, 3] rfl)
        · refine lv_aload_n hx hb dX1_at_20 rfl (lv_at hl 3 rfl) ?_
          refine g_get CX HW in_X1_at_1 0 8 rfl rfl (Nat.le_of_ble_eq_true rfl) fl_X1_at_37 rfl dX1_at_21 ?_
          refine lv_iload_n hx hb dX1_at_24 rfl (lv_at hl 0 rfl) ?_
          refine g_ald CX HW 8 (k := i) rfl rfl rfl (by omega) (Nat.le_of_ble_eq_true rfl) dX1_at_25 ?_
          refine lv_iload_n hx hb dX1_at_26 rfl (lv_at hl 1 rfl) ?_
          refine lv_icmp_ne (tgt := 32) hx hb dX1_at_27 (by decide) (fun c27 => ?_) (fun c27 => ?_)
          · exact j32 () (by omega) (by simp only [fnd]; rw [hf]; exact if_neg (by intro h9; first | exact c17 h9.1 | exact c27 h9.2)) _ _ _ HW (lv_sub hl [0, 1, 2, 3] rfl)
          · refine lv_iload_n hx hb dX1_at_30 rfl (lv_at hl 0 rfl) ?_
            exact g_iret CX HW rfl ⟨by rw [fnd_up (show fnd qt qp t pl (i + 1) = some i by simp only [fnd]; rw [hf]; exact if_pos ⟨c17, c27⟩) (by omega)]; rfl, rfl⟩ dX1_at_31
  refine lv_iconst (v := 0) hx hb dX1_at_0 (by decide) ?_
  refine lv_istore_n (lv' := [(3, .int (0 : Int32)), (0, .ref (a o)), (1, .int t), (2, .int pl)]) hx hb dX1_at_1 rfl hl (Nat.le_of_ble_eq_true rfl) rfl (fun ls hl => ?_)
  exact loop _ 0 rfl (by omega) rfl _ _ _ HW (lv_sub hl [0, 3, 2, 1] rfl)

theorem hd_X1_takeOutOfQueue : yX1_takeOutOfQueue.cls ≠ "java/lang/invoke/MethodHandle" ∧ yX1_takeOutOfQueue.cls ≠ "java/lang/invoke/VarHandle" ∧ (parseMethodDescriptor yX1_takeOutOfQueue.desc).map (fun d => d.parameters.length) = some 1 := by decide +kernel
theorem fl_X1_takeOutOfQueue_9 : Cond.fieldLink RX1 9 (TX1 0).1 (TX1 0).2.1 (TX1 0).2.2.1 ∈ wsX1_takeOutOfQueue := by decide +kernel
theorem in_X1_takeOutOfQueue_1 : ∀ x ∈ u_ws RX1 TX1 9, x ∈ wsX1_takeOutOfQueue := by decide +kernel
theorem fl_X1_takeOutOfQueue_34 : Cond.fieldLink RX1 34 (TX1 7).1 (TX1 7).2.1 (TX1 7).2.2.1 ∈ wsX1_takeOutOfQueue := by decide +kernel
theorem fl_X1_takeOutOfQueue_37 : Cond.fieldLink RX1 37 (TX1 8).1 (TX1 8).2.1 (TX1 8).2.2.1 ∈ wsX1_takeOutOfQueue := by decide +kernel
set_option maxRecDepth 100000 in
set_option maxHeartbeats 4000000 in
theorem c_X1_takeOutOfQueue {l : Launch} {D : va_G} {cI cL : ClassId} {a : Nat → Nat} (o : Nat) (n : Nat) (sk : Nat → Int32) (cn : Nat → Int32) (wx : Nat → Int32) (ly : Nat → Int32) (pt : Nat → Int32) (rd : Nat → Int32) (qt : Nat → Int32) (qp : Nat → Int32) (k : Nat) (hn : n ≤ 8) (hk8 : k < 8) : Ct l yX1_takeOutOfQueue wsX1_takeOutOfQueue { frames := 0, cells := 0, slots := 0, locals := 0 } D (ty2 cI cL) [.ref (a o), .int (nI k)] (wS cI a o n sk cn wx ly pt rd qt qp) (fun v w' => v = none ∧ w' = wS cI a o n sk cn wx ly pt rd (tkT qt k) (tkQ n qt qp k)) 0 0 := by
  refine Ct.of (cc := cX1_takeOutOfQueue) (maxL := 5) (ret := none) (by decide) rfl (Nat.le_of_ble_eq_true rfl) ?_
  intro p e s m below meth c A ls CX hin HW hl
  obtain ⟨hx, hb, hml, hr, hown, hts, hK, hA, hlk⟩ := id CX
  have hl : lv_has ls 5 [(0, .ref (a o)), (1, .int (nI k))] := hl
  have loop : ∀ (d0 : Nat) (i : Nat), n - i = d0 → (¬ qt k = -1) → (i ≤ n) → ∀ (H : Heap) (locs : List Loc) (ls : Array Slot), Hw D A s (wS cI a o n sk cn wx ly pt rd (upd qt k (-1)) (tkP (upd qt k (-1)) qp (qt k) (qp k) i)) H locs → lv_has ls 5 [(4, .int (nI i)), (3, .int (qp k)), (2, .int (qt k)), (1, .int (nI k)), (0, .ref (a o))] → W p l e ({ frames := 0, cells := 0, slots := 0, locals := 0 } : Room) s m ([.ref (a o), .int (nI k)] : List Value).toArray below meth c H locs 0 0 (MQ below (cQ D A (fun v w' => v = none ∧ w' = wS cI a o n sk cn wx ly pt rd (tkT qt k) (tkQ n qt qp k))) ([.ref (a o), .int (nI k)] : List Value).toArray s 0 0 A) (F0 m 30 ls []) := by
    intro d0
    induction d0 using Nat.strongRecOn with
    | _ d0 ih =>
      intro i hd0 hne hi H locs ls HW hl
      have j72 : ∀ (q9 : Nat → Int32), (i < n) → (q9 = tkP (upd qt k (-1)) qp (qt k) (qp k) (i + 1)) → ∀ (H : Heap) (locs : List Loc) (ls : Array Slot), Hw D A s (wS cI a o n sk cn wx ly pt rd (upd qt k (-1)) q9) H locs → lv_has ls 5 [(4, .int (nI i)), (3, .int (qp k)), (2, .int (qt k)), (1, .int (nI k)), (0, .ref (a o))] → W p l e ({ frames := 0, cells := 0, slots := 0, locals := 0 } : Room) s m ([.ref (a o), .int (nI k)] : List Value).toArray below meth c H locs 0 0 (MQ below (cQ D A (fun v w' => v = none ∧ w' = wS cI a o n sk cn wx ly pt rd (tkT qt k) (tkQ n qt qp k))) ([.ref (a o), .int (nI k)] : List Value).toArray s 0 0 A) (F0 m 72 ls []) := by
        intro q9 hlt h9 H locs ls HW hl
        subst h9
        refine lv_iinc (v := (nI (i + 1))) (lv' := [(4, .int (nI (i + 1))), (3, .int (qp k)), (2, .int (qt k)), (1, .int (nI k)), (0, .ref (a o))]) hx hb dX1_takeOutOfQueue_72 hl (k := 0) rfl (inc1 _) (Nat.le_of_ble_eq_true rfl) rfl (fun ls hl => ?_)
        refine lv_goto (tgt := 30) hx hb dX1_takeOutOfQueue_75 (by decide) ?_
        exact ih _ (by omega) (i + 1) rfl hne (by omega) _ _ _ HW (lv_sub hl [0, 1, 2, 3, 4] rfl)
      refine lv_iload hx hb dX1_takeOutOfQueue_30 (lv_at hl 0 rfl) ?_
      refine lv_aload_n hx hb dX1_takeOutOfQueue_32 rfl (lv_at hl 4 rfl) ?_
      refine g_get CX HW in_X1_takeOutOfQueue_1 0 0 rfl rfl (Nat.le_of_ble_eq_true rfl) fl_X1_takeOutOfQueue_9 rfl dX1_takeOutOfQueue_33 ?_
      refine lv_icmp_ge (tgt := 78) hx hb dX1_takeOutOfQueue_36 (by decide) (fun c36 => ?_) (fun c36 => ?_)
      · have c36 := (nI_leI (by omega) (by omega)).mp c36
        obtain rfl : i = n := by omega
        exact g_vret CX HW rfl ⟨rfl, by rw [tkT, tkQ, if_neg hne, if_neg hne]⟩ dX1_takeOutOfQueue_78
      · have c36 : i < n := nI_lt_of (by omega) (by omega) c36
        refine lv_aload_n hx hb dX1_takeOutOfQueue_39 rfl (lv_at hl 4 rfl) ?_
        refine g_get CX HW in_X1_takeOutOfQueue_1 0 7 rfl rfl (Nat.le_of_ble_eq_true rfl) fl_X1_takeOutOfQueue_34 rfl dX1_takeOutOfQueue_40 ?_
        refine lv_iload hx hb dX1_takeOutOfQueue_43 (lv_at hl 0 rfl) ?_
        refine g_ald CX HW 7 (k := i) rfl rfl rfl (by omega) (Nat.le_of_ble_eq_true rfl) dX1_takeOutOfQueue_45 ?_
        refine lv_iload_n hx hb dX1_takeOutOfQueue_46 rfl (lv_at hl 2 rfl) ?_
        refine lv_icmp_ne (tgt := 72) hx hb dX1_takeOutOfQueue_47 (by decide) (fun c47 => ?_) (fun c47 => ?_)
        · exact j72 (tkP (upd qt k (-1)) qp (qt k) (qp k) i) (by omega) (tkP_n (by intro h9; first | exact c47 h9.1 | exact absurd h9.2 (Int32.not_lt.mpr c58))) _ _ _ HW (lv_sub hl [0, 1, 2, 3, 4] rfl)
        · refine lv_aload_n hx hb dX1_takeOutOfQueue_50 rfl (lv_at hl 4 rfl) ?_
          refine g_get CX HW in_X1_takeOutOfQueue_1 0 8 rfl rfl (Nat.le_of_ble_eq_true rfl) fl_X1_takeOutOfQueue_37 rfl dX1_takeOutOfQueue_51 ?_
          refine lv_iload hx hb dX1_takeOutOfQueue_54 (lv_at hl 0 rfl) ?_
          refine g_ald CX HW 8 (k := i) rfl rfl rfl (by omega) (Nat.le_of_ble_eq_true rfl) dX1_takeOutOfQueue_56 ?_
          refine g_top (y := (qp i)) (tkP_at _ _ _ _ _) ?_
          refine lv_iload_n hx hb dX1_takeOutOfQueue_57 rfl (lv_at hl 1 rfl) ?_
          refine lv_icmp_le (tgt := 72) hx hb dX1_takeOutOfQueue_58 (by decide) (fun c58 => ?_) (fun c58 => ?_)
          · exact j72 (tkP (upd qt k (-1)) qp (qt k) (qp k) i) (by omega) (tkP_n (by intro h9; first | exact c47 h9.1 | exact absurd h9.2 (Int32.not_lt.mpr c58))) _ _ _ HW (lv_sub hl [0, 1, 2, 3, 4] rfl)
          · have c58 := Int32.not_le.mp c58
            refine lv_aload_n hx hb dX1_takeOutOfQueue_61 rfl (lv_at hl 4 rfl) ?_
            refine g_get CX HW in_X1_takeOutOfQueue_1 0 8 rfl rfl (Nat.le_of_ble_eq_true rfl) fl_X1_takeOutOfQueue_37 rfl dX1_takeOutOfQueue_62 ?_
            refine lv_iload hx hb dX1_takeOutOfQueue_65 (lv_at hl 0 rfl) ?_
            refine lv_dup2_11 hx hb dX1_takeOutOfQueue_67 rfl rfl ?_
            refine g_ald CX HW 8 (k := i) rfl rfl rfl (by omega) (Nat.le_of_ble_eq_true rfl) dX1_takeOutOfQueue_68 ?_
            refine g_top (y := (qp i)) (tkP_at _ _ _ _ _) ?_
            refine lv_iconst (v := 1) hx hb dX1_takeOutOfQueue_69 (by decide) ?_
            refine lv_isub hx hb dX1_takeOutOfQueue_70 ?_
            refine g_ast CX HW 8 (k := i) rfl rfl rfl (by omega) (Nat.le_of_ble_eq_true rfl) dX1_takeOutOfQueue_71 (fun H locs HW => ?_)
            have HW : Hw D A s (wS cI a o n sk cn wx ly pt rd (upd qt k (-1)) (upd (tkP (upd qt k (-1)) qp (qt k) (qp k) i) i ((qp i) - (1 : Int32)))) H locs := HW
            exact j72 (upd (tkP (upd qt k (-1)) qp (qt k) (qp k) i) i ((qp i) - (1 : Int32))) (by omega) (tkP_s c47 c58) _ _ _ HW (lv_sub hl [0, 1, 2, 3, 4] rfl)
  refine lv_aload_n hx hb dX1_takeOutOfQueue_0 rfl (lv_at hl 0 rfl) ?_
  refine g_get CX HW in_X1_takeOutOfQueue_1 0 7 rfl rfl (Nat.le_of_ble_eq_true rfl) fl_X1_takeOutOfQueue_34 rfl dX1_takeOutOfQueue_1 ?_
  refine lv_iload_n hx hb dX1_takeOutOfQueue_4 rfl (lv_at hl 1 rfl) ?_
  refine g_ald CX HW 7 (k := k) rfl rfl rfl (by omega) (Nat.le_of_ble_eq_true rfl) dX1_takeOutOfQueue_5 ?_
  refine lv_istore_n (lv' := [(2, .int (qt k)), (0, .ref (a o)), (1, .int (nI k))]) hx hb dX1_takeOutOfQueue_6 rfl hl (Nat.le_of_ble_eq_true rfl) rfl (fun ls hl => ?_)
  refine lv_aload_n hx hb dX1_takeOutOfQueue_7 rfl (lv_at hl 1 rfl) ?_
  refine g_get CX HW in_X1_takeOutOfQueue_1 0 8 rfl rfl (Nat.le_of_ble_eq_true rfl) fl_X1_takeOutOfQueue_37 rfl dX1_takeOutOfQueue_8 ?_
  refine lv_iload_n hx hb dX1_takeOutOfQueue_11 rfl (lv_at hl 2 rfl) ?_
  refine g_ald CX HW 8 (k := k) rfl rfl rfl (by omega) (Nat.le_of_ble_eq_true rfl) dX1_takeOutOfQueue_12 ?_
  refine lv_istore_n (lv' := [(3, .int (qp k)), (2, .int (qt k)), (0, .ref (a o)), (1, .int (nI k))]) hx hb dX1_takeOutOfQueue_13 rfl hl (Nat.le_of_ble_eq_true rfl) rfl (fun ls hl => ?_)
  refine lv_iload_n hx hb dX1_takeOutOfQueue_14 rfl (lv_at hl 1 rfl) ?_
  refine lv_iconst (v := (-1)) hx hb dX1_takeOutOfQueue_15 (by decide) ?_
  refine lv_icmp_ne (tgt := 20) hx hb dX1_takeOutOfQueue_16 (by decide) (fun c16 => ?_) (fun c16 => ?_)
  · refine lv_aload_n hx hb dX1_takeOutOfQueue_20 rfl (lv_at hl 2 rfl) ?_
    refine g_get CX HW in_X1_takeOutOfQueue_1 0 7 rfl rfl (Nat.le_of_ble_eq_true rfl) fl_X1_takeOutOfQueue_34 rfl dX1_takeOutOfQueue_21 ?_
    refine lv_iload_n hx hb dX1_takeOutOfQueue_24 rfl (lv_at hl 3 rfl) ?_
    refine lv_iconst (v := (-1)) hx hb dX1_takeOutOfQueue_25 (by decide) ?_
    refine g_ast CX HW 7 (k := k) rfl rfl rfl (by omega) (Nat.le_of_ble_eq_true rfl) dX1_takeOutOfQueue_26 (fun H locs HW => ?_)
    have HW : Hw D A s (wS cI a o n sk cn wx ly pt rd (upd qt k (-1 : Int32)) qp) H locs := HW
    have hwe : qp = (tkP (upd qt k (-1)) qp (qt k) (qp k) 0) := (tkP_0 _ _ _ _).symm
    rw [hwe] at HW; clear hwe
    refine lv_iconst (v := 0) hx hb dX1_takeOutOfQueue_27 (by decide) ?_
    refine lv_istore (lv' := [(4, .int (0 : Int32)), (3, .int (qp k)), (2, .int (qt k)), (0, .ref (a o)), (1, .int (nI k))]) hx hb dX1_takeOutOfQueue_28 hl (Nat.le_of_ble_eq_true rfl) rfl (fun ls hl => ?_)
    exact loop _ 0 rfl c16 (by omega) _ _ _ HW (lv_sub hl [0, 1, 2, 4, 3] rfl)
  · exact g_vret CX HW rfl ⟨rfl, by rw [tkT, tkQ, if_pos c16, if_pos c16]⟩ dX1_takeOutOfQueue_19

theorem hd_X1_putAtEnd : yX1_putAtEnd.cls ≠ "java/lang/invoke/MethodHandle" ∧ yX1_putAtEnd.cls ≠ "java/lang/invoke/VarHandle" ∧ (parseMethodDescriptor yX1_putAtEnd.desc).map (fun d => d.parameters.length) = some 2 := by decide +kernel
theorem fl_X1_putAtEnd_34 : Cond.fieldLink RX1 34 (TX1 7).1 (TX1 7).2.1 (TX1 7).2.2.1 ∈ wsX1_putAtEnd := by decide +kernel
theorem in_X1_putAtEnd_1 : ∀ x ∈ u_ws RX1 TX1 9, x ∈ wsX1_putAtEnd := by decide +kernel
theorem fl_X1_putAtEnd_37 : Cond.fieldLink RX1 37 (TX1 8).1 (TX1 8).2.1 (TX1 8).2.2.1 ∈ wsX1_putAtEnd := by decide +kernel
set_option maxRecDepth 100000 in
set_option maxHeartbeats 4000000 in
theorem c_X1_putAtEnd {l : Launch} {D : va_G} {cI cL : ClassId} {a : Nat → Nat} (o : Nat) (n : Nat) (sk : Nat → Int32) (cn : Nat → Int32) (wx : Nat → Int32) (ly : Nat → Int32) (pt : Nat → Int32) (rd : Nat → Int32) (qt : Nat → Int32) (qp : Nat → Int32) (k : Nat) (t : Int32) (hn : n ≤ 8) (hk8 : k < 8) : Ct l yX1_putAtEnd wsX1_putAtEnd { frames := 1, cells := 0, slots := 0, locals := 23 } D (ty2 cI cL) [.ref (a o), .int (nI k), .int t] (wS cI a o n sk cn wx ly pt rd qt qp) (fun v w' => v = none ∧ w' = wS cI a o n sk cn wx ly pt rd (upd qt k t) (upd qp k (nI (cntE qt t n)))) 0 0 := by
  refine Ct.of (cc := cX1_putAtEnd) (maxL := 4) (ret := none) (by decide) rfl (Nat.le_of_ble_eq_true rfl) ?_
  intro p e s m below meth c A ls CX hin HW hl
  obtain ⟨hx, hb, hml, hr, hown, hts, hK, hA, hlk⟩ := id CX
  have hl : lv_has ls 4 [(0, .ref (a o)), (1, .int (nI k)), (2, .int t)] := hl
  refine lv_aload_n hx hb dX1_putAtEnd_0 rfl (lv_at hl 0 rfl) ?_
  refine lv_iload_n hx hb dX1_putAtEnd_1 rfl (lv_at hl 2 rfl) ?_
  refine g_callV CX HW hl.1 ([]) ([]) (c_X1_waitingAt o n sk cn wx ly pt rd qt qp t (by omega)) rfl 0 rfl rfl gX1_putAtEnd_X1_waitingAt rfl ⟨rfl, hd_X1_waitingAt⟩ ⟨rfl, rfl, (Nat.le_of_ble_eq_true rfl), (Nat.le_of_ble_eq_true rfl)⟩ ⟨(Nat.zero_le _), (Nat.zero_le _)⟩ rfl rfl (Nat.le_of_ble_eq_true rfl) dX1_putAtEnd_2 (fun v w1 H locs hp HW => ?_)
  obtain ⟨rfl, rfl⟩ := hp
  have HW : Hw D A s (wS cI a o n sk cn wx ly pt rd qt qp) H locs := HW
  refine W.eq (g2 := F0 m 5 ls [.int (nI (cntE qt t n))]) rfl ?_
  refine lv_istore_n (lv' := [(3, .int (nI (cntE qt t n))), (0, .ref (a o)), (1, .int (nI k)), (2, .int t)]) hx hb dX1_putAtEnd_5 rfl hl (Nat.le_of_ble_eq_true rfl) rfl (fun ls hl => ?_)
  refine lv_aload_n hx hb dX1_putAtEnd_6 rfl (lv_at hl 1 rfl) ?_
  refine g_get CX HW in_X1_putAtEnd_1 0 7 rfl rfl (Nat.le_of_ble_eq_true rfl) fl_X1_putAtEnd_34 rfl dX1_putAtEnd_7 ?_
  refine lv_iload_n hx hb dX1_putAtEnd_10 rfl (lv_at hl 2 rfl) ?_
  refine lv_iload_n hx hb dX1_putAtEnd_11 rfl (lv_at hl 3 rfl) ?_
  refine g_ast CX HW 7 (k := k) rfl rfl rfl (by omega) (Nat.le_of_ble_eq_true rfl) dX1_putAtEnd_12 (fun H locs HW => ?_)
  have HW : Hw D A s (wS cI a o n sk cn wx ly pt rd (upd qt k t) qp) H locs := HW
  refine lv_aload_n hx hb dX1_putAtEnd_13 rfl (lv_at hl 1 rfl) ?_
  refine g_get CX HW in_X1_putAtEnd_1 0 8 rfl rfl (Nat.le_of_ble_eq_true rfl) fl_X1_putAtEnd_37 rfl dX1_putAtEnd_14 ?_
  refine lv_iload_n hx hb dX1_putAtEnd_17 rfl (lv_at hl 2 rfl) ?_
  refine lv_iload_n hx hb dX1_putAtEnd_18 rfl (lv_at hl 0 rfl) ?_
  refine g_ast CX HW 8 (k := k) rfl rfl rfl (by omega) (Nat.le_of_ble_eq_true rfl) dX1_putAtEnd_19 (fun H locs HW => ?_)
  have HW : Hw D A s (wS cI a o n sk cn wx ly pt rd (upd qt k t) (upd qp k (nI (cntE qt t n)))) H locs := HW
  exact g_vret CX HW rfl ⟨rfl, rfl⟩ dX1_putAtEnd_20

theorem hd_X1_glide : yX1_glide.cls ≠ "java/lang/invoke/MethodHandle" ∧ yX1_glide.cls ≠ "java/lang/invoke/VarHandle" ∧ (parseMethodDescriptor yX1_glide.desc).map (fun d => d.parameters.length) = some 2 := by decide +kernel
theorem fl_X1_glide_25 : Cond.fieldLink RX1 25 (TX1 4).1 (TX1 4).2.1 (TX1 4).2.2.1 ∈ wsX1_glide := by decide +kernel
theorem in_X1_glide_1 : ∀ x ∈ u_ws RX1 TX1 9, x ∈ wsX1_glide := by decide +kernel
theorem fl_X1_glide_22 : Cond.fieldLink RX1 22 (TX1 3).1 (TX1 3).2.1 (TX1 3).2.2.1 ∈ wsX1_glide := by decide +kernel
theorem mm_X1_glide_44 : Cond.methodLink RX1 44 Lib.Math.abs.name ∈ wsX1_glide ∧ Cond.static Lib.Math.abs.name ∈ wsX1_glide ∧ Cond.initialized "java/lang/Math" ∈ wsX1_glide ∧ Cond.code Lib.Math.abs.name Lib.Math.abs.code 1 (some .int) ∈ wsX1_glide := ⟨by decide +kernel, by decide +kernel, by decide +kernel, by decide +kernel⟩
set_option maxRecDepth 100000 in
set_option maxHeartbeats 4000000 in
theorem c_X1_glide {l : Launch} {D : va_G} {cI cL : ClassId} {a : Nat → Nat} (o : Nat) (n : Nat) (sk : Nat → Int32) (cn : Nat → Int32) (wx : Nat → Int32) (ly : Nat → Int32) (pt : Nat → Int32) (rd : Nat → Int32) (qt : Nat → Int32) (qp : Nat → Int32) (k : Nat) (f : Int32) (hk8 : k < 8) : Ct l yX1_glide wsX1_glide { frames := 1, cells := 0, slots := 0, locals := 24 } D (ty2 cI cL) [.ref (a o), .int (nI k), .int f] (wS cI a o n sk cn wx ly pt rd qt qp) (fun v w' => v = some (.int (glR wx ly k f)) ∧ w' = wS cI a o n sk cn wx (glL ly k) pt rd qt qp) 0 0 := by
  refine Ct.of (cc := cX1_glide) (maxL := 3) (ret := (some .int)) (by decide) rfl (Nat.le_of_ble_eq_true rfl) ?_
  intro p e s m below meth c A ls CX hin HW hl
  obtain ⟨hx, hb, hml, hr, hown, hts, hK, hA, hlk⟩ := id CX
  have hl : lv_has ls 3 [(0, .ref (a o)), (1, .int (nI k)), (2, .int f)] := hl
  refine lv_aload_n hx hb dX1_glide_0 rfl (lv_at hl 0 rfl) ?_
  refine g_get CX HW in_X1_glide_1 0 4 rfl rfl (Nat.le_of_ble_eq_true rfl) fl_X1_glide_25 rfl dX1_glide_1 ?_
  refine lv_iload_n hx hb dX1_glide_4 rfl (lv_at hl 1 rfl) ?_
  refine g_ald CX HW 4 (k := k) rfl rfl rfl (by omega) (Nat.le_of_ble_eq_true rfl) dX1_glide_5 ?_
  refine lv_if_gt (tgt := 12) hx hb dX1_glide_6 (by decide) (fun c6 => ?_) (fun c6 => ?_)
  · refine lv_aload_n hx hb dX1_glide_12 rfl (lv_at hl 0 rfl) ?_
    refine g_get CX HW in_X1_glide_1 0 4 rfl rfl (Nat.le_of_ble_eq_true rfl) fl_X1_glide_25 rfl dX1_glide_13 ?_
    refine lv_iload_n hx hb dX1_glide_16 rfl (lv_at hl 1 rfl) ?_
    refine lv_dup2_11 hx hb dX1_glide_17 rfl rfl ?_
    refine g_ald CX HW 4 (k := k) rfl rfl rfl (by omega) (Nat.le_of_ble_eq_true rfl) dX1_glide_18 ?_
    refine lv_iconst (v := 1) hx hb dX1_glide_19 (by decide) ?_
    refine lv_isub hx hb dX1_glide_20 ?_
    refine g_ast CX HW 4 (k := k) rfl rfl rfl (by omega) (Nat.le_of_ble_eq_true rfl) dX1_glide_21 (fun H locs HW => ?_)
    have HW : Hw D A s (wS cI a o n sk cn wx (upd ly k ((ly k) - (1 : Int32))) pt rd qt qp) H locs := HW
    refine lv_iconst (v := 4) hx hb dX1_glide_22 (by decide) ?_
    refine lv_iconst (v := 2) hx hb dX1_glide_23 (by decide) ?_
    refine lv_aload_n hx hb dX1_glide_24 rfl (lv_at hl 0 rfl) ?_
    refine g_get CX HW in_X1_glide_1 0 3 rfl rfl (Nat.le_of_ble_eq_true rfl) fl_X1_glide_22 rfl dX1_glide_25 ?_
    refine lv_iload_n hx hb dX1_glide_28 rfl (lv_at hl 1 rfl) ?_
    refine g_ald CX HW 3 (k := k) rfl rfl rfl (by omega) (Nat.le_of_ble_eq_true rfl) dX1_glide_29 ?_
    refine lv_iload_n hx hb dX1_glide_30 rfl (lv_at hl 2 rfl) ?_
    refine lv_isub hx hb dX1_glide_31 ?_
    refine va_mabs hx hb (hml.trans hl.1.symm) hown (hts _ mm_X1_glide_44.1) (hts _ mm_X1_glide_44.2.1) (hts _ mm_X1_glide_44.2.2.1) (hts _ mm_X1_glide_44.2.2.2) (Nat.le_of_ble_eq_true rfl) (Nat.le_of_ble_eq_true rfl) (Nat.zero_le _) (Nat.zero_le _) dX1_glide_32 ?_
    refine lv_imul hx hb dX1_glide_35 ?_
    refine lv_isub hx hb dX1_glide_36 ?_
    exact g_iret CX HW rfl ⟨by rw [glR, if_pos c6]; rfl, by rw [glL, if_pos c6]⟩ dX1_glide_37
  · refine lv_bipush (v := (-4)) hx hb dX1_glide_9 (by decide) ?_
    exact g_iret CX HW rfl ⟨by rw [glR, if_neg c6], by rw [glL, if_neg c6]⟩ dX1_glide_11

theorem hd_X1_addPoints : yX1_addPoints.cls ≠ "java/lang/invoke/MethodHandle" ∧ yX1_addPoints.cls ≠ "java/lang/invoke/VarHandle" ∧ (parseMethodDescriptor yX1_addPoints.desc).map (fun d => d.parameters.length) = some 2 := by decide +kernel
theorem fl_X1_addPoints_28 : Cond.fieldLink RX1 28 (TX1 5).1 (TX1 5).2.1 (TX1 5).2.2.1 ∈ wsX1_addPoints := by decide +kernel
theorem in_X1_addPoints_1 : ∀ x ∈ u_ws RX1 TX1 9, x ∈ wsX1_addPoints := by decide +kernel
theorem sn_X1_addPoints_X3_held : Cond.initialized yX3_held.cls ∈ wsX1_addPoints ∧ Cond.static yX3_held ∈ wsX1_addPoints := ⟨by decide +kernel, by decide +kernel⟩
set_option maxRecDepth 100000 in
set_option maxHeartbeats 4000000 in
theorem c_X1_addPoints {l : Launch} {D : va_G} {cI cL : ClassId} {a : Nat → Nat} (o : Nat) (n : Nat) (sk : Nat → Int32) (cn : Nat → Int32) (wx : Nat → Int32) (ly : Nat → Int32) (pt : Nat → Int32) (rd : Nat → Int32) (qt : Nat → Int32) (qp : Nat → Int32) (k : Nat) (x : Int32) (hk8 : k < 8) : Ct l yX1_addPoints wsX1_addPoints { frames := 2, cells := 0, slots := 0, locals := 46 } D (ty2 cI cL) [.ref (a o), .int (nI k), .int x] (wS cI a o n sk cn wx ly pt rd qt qp) (fun v w' => v = none ∧ w' = wS cI a o n sk cn wx ly (upd pt k (heldI (pt k + x) 0 999)) rd qt qp) 0 0 := by
  refine Ct.of (cc := cX1_addPoints) (maxL := 3) (ret := none) (by decide) rfl (Nat.le_of_ble_eq_true rfl) ?_
  intro p e s m below meth c A ls CX hin HW hl
  obtain ⟨hx, hb, hml, hr, hown, hts, hK, hA, hlk⟩ := id CX
  have hl : lv_has ls 3 [(0, .ref (a o)), (1, .int (nI k)), (2, .int x)] := hl
  refine lv_aload_n hx hb dX1_addPoints_0 rfl (lv_at hl 0 rfl) ?_
  refine g_get CX HW in_X1_addPoints_1 0 5 rfl rfl (Nat.le_of_ble_eq_true rfl) fl_X1_addPoints_28 rfl dX1_addPoints_1 ?_
  refine lv_iload_n hx hb dX1_addPoints_4 rfl (lv_at hl 1 rfl) ?_
  refine lv_aload_n hx hb dX1_addPoints_5 rfl (lv_at hl 0 rfl) ?_
  refine g_get CX HW in_X1_addPoints_1 0 5 rfl rfl (Nat.le_of_ble_eq_true rfl) fl_X1_addPoints_28 rfl dX1_addPoints_6 ?_
  refine lv_iload_n hx hb dX1_addPoints_9 rfl (lv_at hl 1 rfl) ?_
  refine g_ald CX HW 5 (k := k) rfl rfl rfl (by omega) (Nat.le_of_ble_eq_true rfl) dX1_addPoints_10 ?_
  refine lv_iload_n hx hb dX1_addPoints_11 rfl (lv_at hl 2 rfl) ?_
  refine lv_iadd hx hb dX1_addPoints_12 ?_
  refine lv_iconst (v := 0) hx hb dX1_addPoints_13 (by decide) ?_
  refine lv_sipush (v := 999) hx hb dX1_addPoints_14 (by decide) ?_
  refine g_callSN (host := "PommelTows") CX HW hl.1 ([]) (wS cI a o n sk cn wx ly pt rd qt qp) (c_X3_held ((pt k) + x) (0 : Int32) (999 : Int32)) rfl gX1_addPoints_X3_held_n49 sn_X1_addPoints_X3_held (by decide +kernel) rfl hd_X3_held ⟨rfl, rfl, (Nat.le_of_ble_eq_true rfl), (Nat.le_of_ble_eq_true rfl)⟩ ⟨(Nat.zero_le _), (Nat.zero_le _)⟩ rfl rfl (Nat.le_of_ble_eq_true rfl) dX1_addPoints_17 (fun v w1 H locs hp HW => ?_)
  obtain ⟨rfl, rfl⟩ := hp
  have HW : Hw D A s (wS cI a o n sk cn wx ly pt rd qt qp) H locs := HW
  refine W.eq (g2 := F0 m 20 ls [.int (heldI ((pt k) + x) (0 : Int32) (999 : Int32)), .int (nI k), .ref (a (o + 5))]) rfl ?_
  refine g_ast CX HW 5 (k := k) rfl rfl rfl (by omega) (Nat.le_of_ble_eq_true rfl) dX1_addPoints_20 (fun H locs HW => ?_)
  have HW : Hw D A s (wS cI a o n sk cn wx ly (upd pt k (heldI ((pt k) + x) (0 : Int32) (999 : Int32))) rd qt qp) H locs := HW
  exact g_vret CX HW rfl ⟨rfl, rfl⟩ dX1_addPoints_21

theorem hd_X1_allPoints : yX1_allPoints.cls ≠ "java/lang/invoke/MethodHandle" ∧ yX1_allPoints.cls ≠ "java/lang/invoke/VarHandle" ∧ (parseMethodDescriptor yX1_allPoints.desc).map (fun d => d.parameters.length) = some 0 := by decide +kernel
theorem fl_X1_allPoints_9 : Cond.fieldLink RX1 9 (TX1 0).1 (TX1 0).2.1 (TX1 0).2.2.1 ∈ wsX1_allPoints := by decide +kernel
theorem in_X1_allPoints_1 : ∀ x ∈ u_ws RX1 TX1 9, x ∈ wsX1_allPoints := by decide +kernel
theorem fl_X1_allPoints_28 : Cond.fieldLink RX1 28 (TX1 5).1 (TX1 5).2.1 (TX1 5).2.2.1 ∈ wsX1_allPoints := by decide +kernel
set_option maxRecDepth 100000 in
set_option maxHeartbeats 4000000 in
theorem c_X1_allPoints {l : Launch} {D : va_G} {cI cL : ClassId} {a : Nat → Nat} (o : Nat) (n : Nat) (sk : Nat → Int32) (cn : Nat → Int32) (wx : Nat → Int32) (ly : Nat → Int32) (pt : Nat → Int32) (rd : Nat → Int32) (qt : Nat → Int32) (qp : Nat → Int32) (hn : n ≤ 8) : Ct l yX1_allPoints wsX1_allPoints { frames := 0, cells := 0, slots := 0, locals := 0 } D (ty2 cI cL) [.ref (a o)] (wS cI a o n sk cn wx ly pt rd qt qp) (fun v w' => v = some (.int (sumN pt n)) ∧ w' = wS cI a o n sk cn wx ly pt rd qt qp) 0 0 := by
  refine Ct.of (cc := cX1_allPoints) (maxL := 3) (ret := (some .int)) (by decide) rfl (Nat.le_of_ble_eq_true rfl) ?_
  intro p e s m below meth c A ls CX hin HW hl
  obtain ⟨hx, hb, hml, hr, hown, hts, hK, hA, hlk⟩ := id CX
  have hl : lv_has ls 3 [(0, .ref (a o))] := hl
  have loop : ∀ (d0 : Nat) (i : Nat), n - i = d0 → (i ≤ n) → ∀ (H : Heap) (locs : List Loc) (ls : Array Slot), Hw D A s (wS cI a o n sk cn wx ly pt rd qt qp) H locs → lv_has ls 3 [(2, .int (nI i)), (1, .int (sumN pt i)), (0, .ref (a o))] → W p l e ({ frames := 0, cells := 0, slots := 0, locals := 0 } : Room) s m ([.ref (a o)] : List Value).toArray below meth c H locs 0 0 (MQ below (cQ D A (fun v w' => v = some (.int (sumN pt n)) ∧ w' = wS cI a o n sk cn wx ly pt rd qt qp)) ([.ref (a o)] : List Value).toArray s 0 0 A) (F0 m 4 ls []) := by
    intro d0
    induction d0 using Nat.strongRecOn with
    | _ d0 ih =>
      intro i hd0 hi H locs ls HW hl
      refine lv_iload_n hx hb dX1_allPoints_4 rfl (lv_at hl 0 rfl) ?_
      refine lv_aload_n hx hb dX1_allPoints_5 rfl (lv_at hl 2 rfl) ?_
      refine g_get CX HW in_X1_allPoints_1 0 0 rfl rfl (Nat.le_of_ble_eq_true rfl) fl_X1_allPoints_9 rfl dX1_allPoints_6 ?_
      refine lv_icmp_ge (tgt := 27) hx hb dX1_allPoints_9 (by decide) (fun c9 => ?_) (fun c9 => ?_)
      · have c9 := (nI_leI (by omega) (by omega)).mp c9
        obtain rfl : i = n := by omega
        refine lv_iload_n hx hb dX1_allPoints_27 rfl (lv_at hl 1 rfl) ?_
        exact g_iret CX HW rfl ⟨rfl, rfl⟩ dX1_allPoints_28
      · have c9 : i < n := nI_lt_of (by omega) (by omega) c9
        refine lv_iload_n hx hb dX1_allPoints_12 rfl (lv_at hl 1 rfl) ?_
        refine lv_aload_n hx hb dX1_allPoints_13 rfl (lv_at hl 2 rfl) ?_
        refine g_get CX HW in_X1_allPoints_1 0 5 rfl rfl (Nat.le_of_ble_eq_true rfl) fl_X1_allPoints_28 rfl dX1_allPoints_14 ?_
        refine lv_iload_n hx hb dX1_allPoints_17 rfl (lv_at hl 0 rfl) ?_
        refine g_ald CX HW 5 (k := i) rfl rfl rfl (by omega) (Nat.le_of_ble_eq_true rfl) dX1_allPoints_18 ?_
        refine lv_iadd hx hb dX1_allPoints_19 ?_
        refine lv_istore_n (lv' := [(1, .int ((sumN pt i) + (pt i))), (2, .int (nI i)), (0, .ref (a o))]) hx hb dX1_allPoints_20 rfl hl (Nat.le_of_ble_eq_true rfl) rfl (fun ls hl => ?_)
        refine lv_iinc (v := (nI (i + 1))) (lv' := [(2, .int (nI (i + 1))), (1, .int ((sumN pt i) + (pt i))), (0, .ref (a o))]) hx hb dX1_allPoints_21 hl (k := 1) rfl (inc1 _) (Nat.le_of_ble_eq_true rfl) rfl (fun ls hl => ?_)
        refine lv_goto (tgt := 4) hx hb dX1_allPoints_24 (by decide) ?_
        exact ih _ (by omega) (i + 1) rfl (by omega) _ _ _ HW (lv_sub hl [0, 1, 2] rfl)
  refine lv_iconst (v := 0) hx hb dX1_allPoints_0 (by decide) ?_
  refine lv_istore_n (lv' := [(1, .int (0 : Int32)), (0, .ref (a o))]) hx hb dX1_allPoints_1 rfl hl (Nat.le_of_ble_eq_true rfl) rfl (fun ls hl => ?_)
  refine lv_iconst (v := 0) hx hb dX1_allPoints_2 (by decide) ?_
  refine lv_istore_n (lv' := [(2, .int (0 : Int32)), (1, .int (0 : Int32)), (0, .ref (a o))]) hx hb dX1_allPoints_3 rfl hl (Nat.le_of_ble_eq_true rfl) rfl (fun ls hl => ?_)
  exact loop _ 0 rfl (by omega) _ _ _ HW (lv_sub hl [0, 1, 2] rfl)

theorem hd_X1_figure : yX1_figure.cls ≠ "java/lang/invoke/MethodHandle" ∧ yX1_figure.cls ≠ "java/lang/invoke/VarHandle" ∧ (parseMethodDescriptor yX1_figure.desc).map (fun d => d.parameters.length) = some 2 := by decide +kernel
theorem fl_X1_figure_15 : Cond.fieldLink RX1 15 (TX1 1).1 (TX1 1).2.1 (TX1 1).2.2.1 ∈ wsX1_figure := by decide +kernel
theorem in_X1_figure_1 : ∀ x ∈ u_ws RX1 TX1 9, x ∈ wsX1_figure := by decide +kernel
theorem fl_X1_figure_19 : Cond.fieldLink RX1 19 (TX1 2).1 (TX1 2).2.1 (TX1 2).2.2.1 ∈ wsX1_figure := by decide +kernel
theorem fl_X1_figure_25 : Cond.fieldLink RX1 25 (TX1 4).1 (TX1 4).2.1 (TX1 4).2.2.1 ∈ wsX1_figure := by decide +kernel
theorem fl_X1_figure_22 : Cond.fieldLink RX1 22 (TX1 3).1 (TX1 3).2.1 (TX1 3).2.2.1 ∈ wsX1_figure := by decide +kernel
theorem fl_X1_figure_28 : Cond.fieldLink RX1 28 (TX1 5).1 (TX1 5).2.1 (TX1 5).2.2.1 ∈ wsX1_figure := by decide +kernel
theorem fl_X1_figure_31 : Cond.fieldLink RX1 31 (TX1 6).1 (TX1 6).2.1 (TX1 6).2.2.1 ∈ wsX1_figure := by decide +kernel
theorem fl_X1_figure_34 : Cond.fieldLink RX1 34 (TX1 7).1 (TX1 7).2.1 (TX1 7).2.2.1 ∈ wsX1_figure := by decide +kernel
set_option maxRecDepth 100000 in
set_option maxHeartbeats 4000000 in
theorem c_X1_figure {l : Launch} {D : va_G} {cI cL : ClassId} {a : Nat → Nat} (o : Nat) (n : Nat) (sk : Nat → Int32) (cn : Nat → Int32) (wx : Nat → Int32) (ly : Nat → Int32) (pt : Nat → Int32) (rd : Nat → Int32) (qt : Nat → Int32) (qp : Nat → Int32) (k : Nat) (what : Nat) (hk8 : k < 8) (hw7 : what < 7) : Ct l yX1_figure wsX1_figure { frames := 0, cells := 0, slots := 0, locals := 0 } D (ty2 cI cL) [.ref (a o), .int (nI k), .int (nI what)] (wS cI a o n sk cn wx ly pt rd qt qp) (fun v w' => v = some (.int (figS sk cn wx ly pt rd qt k what)) ∧ w' = wS cI a o n sk cn wx ly pt rd qt qp) 0 0 := by
  refine Ct.of (cc := cX1_figure) (maxL := 3) (ret := (some .int)) (by decide) rfl (Nat.le_of_ble_eq_true rfl) ?_
  intro p e s m below meth c A ls CX hin HW hl
  obtain ⟨hx, hb, hml, hr, hown, hts, hK, hA, hlk⟩ := id CX
  have hl : lv_has ls 3 [(0, .ref (a o)), (1, .int (nI k)), (2, .int (nI what))] := hl
  refine lv_iload_n hx hb dX1_figure_0 rfl (lv_at hl 2 rfl) ?_
  rcases (by omega : what = 0 ∨ what = 1 ∨ what = 2 ∨ what = 3 ∨ what = 4 ∨ what = 5 ∨ what = 6) with rfl | rfl | rfl | rfl | rfl | rfl | rfl
  · refine lv_tableIn (off := 39) (tgt := 40) hx hb dX1_figure_1 (by decide) (by decide) (by decide) (by decide) ?_
    refine lv_aload_n hx hb dX1_figure_40 rfl (lv_at hl 0 rfl) ?_
    refine g_get CX HW in_X1_figure_1 0 1 rfl rfl (Nat.le_of_ble_eq_true rfl) fl_X1_figure_15 rfl dX1_figure_41 ?_
    refine lv_iload_n hx hb dX1_figure_44 rfl (lv_at hl 1 rfl) ?_
    refine g_ald CX HW 1 (k := k) rfl rfl rfl (by omega) (Nat.le_of_ble_eq_true rfl) dX1_figure_45 ?_
    exact g_iret CX HW rfl ⟨rfl, rfl⟩ dX1_figure_46
  · refine lv_tableIn (off := 46) (tgt := 47) hx hb dX1_figure_1 (by decide) (by decide) (by decide) (by decide) ?_
    refine lv_aload_n hx hb dX1_figure_47 rfl (lv_at hl 0 rfl) ?_
    refine g_get CX HW in_X1_figure_1 0 2 rfl rfl (Nat.le_of_ble_eq_true rfl) fl_X1_figure_19 rfl dX1_figure_48 ?_
    refine lv_iload_n hx hb dX1_figure_51 rfl (lv_at hl 1 rfl) ?_
    refine g_ald CX HW 2 (k := k) rfl rfl rfl (by omega) (Nat.le_of_ble_eq_true rfl) dX1_figure_52 ?_
    exact g_iret CX HW rfl ⟨rfl, rfl⟩ dX1_figure_53
  · refine lv_tableIn (off := 53) (tgt := 54) hx hb dX1_figure_1 (by decide) (by decide) (by decide) (by decide) ?_
    refine lv_aload_n hx hb dX1_figure_54 rfl (lv_at hl 0 rfl) ?_
    refine g_get CX HW in_X1_figure_1 0 4 rfl rfl (Nat.le_of_ble_eq_true rfl) fl_X1_figure_25 rfl dX1_figure_55 ?_
    refine lv_iload_n hx hb dX1_figure_58 rfl (lv_at hl 1 rfl) ?_
    refine g_ald CX HW 4 (k := k) rfl rfl rfl (by omega) (Nat.le_of_ble_eq_true rfl) dX1_figure_59 ?_
    refine lv_if_gt (tgt := 67) hx hb dX1_figure_60 (by decide) (fun c60 => ?_) (fun c60 => ?_)
    · refine lv_aload_n hx hb dX1_figure_67 rfl (lv_at hl 0 rfl) ?_
      refine g_get CX HW in_X1_figure_1 0 3 rfl rfl (Nat.le_of_ble_eq_true rfl) fl_X1_figure_22 rfl dX1_figure_68 ?_
      refine lv_iload_n hx hb dX1_figure_71 rfl (lv_at hl 1 rfl) ?_
      refine g_ald CX HW 3 (k := k) rfl rfl rfl (by omega) (Nat.le_of_ble_eq_true rfl) dX1_figure_72 ?_
      exact g_iret CX HW rfl ⟨by simp only [figS]; rw [if_pos c60], rfl⟩ dX1_figure_73
    · refine lv_iconst (v := (-1)) hx hb dX1_figure_63 (by decide) ?_
      refine lv_goto (tgt := 73) hx hb dX1_figure_64 (by decide) ?_
      exact g_iret CX HW rfl ⟨by simp only [figS]; rw [if_neg c60], rfl⟩ dX1_figure_73
  · refine lv_tableIn (off := 73) (tgt := 74) hx hb dX1_figure_1 (by decide) (by decide) (by decide) (by decide) ?_
    refine lv_aload_n hx hb dX1_figure_74 rfl (lv_at hl 0 rfl) ?_
    refine g_get CX HW in_X1_figure_1 0 4 rfl rfl (Nat.le_of_ble_eq_true rfl) fl_X1_figure_25 rfl dX1_figure_75 ?_
    refine lv_iload_n hx hb dX1_figure_78 rfl (lv_at hl 1 rfl) ?_
    refine g_ald CX HW 4 (k := k) rfl rfl rfl (by omega) (Nat.le_of_ble_eq_true rfl) dX1_figure_79 ?_
    exact g_iret CX HW rfl ⟨rfl, rfl⟩ dX1_figure_80
  · refine lv_tableIn (off := 80) (tgt := 81) hx hb dX1_figure_1 (by decide) (by decide) (by decide) (by decide) ?_
    refine lv_aload_n hx hb dX1_figure_81 rfl (lv_at hl 0 rfl) ?_
    refine g_get CX HW in_X1_figure_1 0 5 rfl rfl (Nat.le_of_ble_eq_true rfl) fl_X1_figure_28 rfl dX1_figure_82 ?_
    refine lv_iload_n hx hb dX1_figure_85 rfl (lv_at hl 1 rfl) ?_
    refine g_ald CX HW 5 (k := k) rfl rfl rfl (by omega) (Nat.le_of_ble_eq_true rfl) dX1_figure_86 ?_
    exact g_iret CX HW rfl ⟨rfl, rfl⟩ dX1_figure_87
  · refine lv_tableIn (off := 87) (tgt := 88) hx hb dX1_figure_1 (by decide) (by decide) (by decide) (by decide) ?_
    refine lv_aload_n hx hb dX1_figure_88 rfl (lv_at hl 0 rfl) ?_
    refine g_get CX HW in_X1_figure_1 0 6 rfl rfl (Nat.le_of_ble_eq_true rfl) fl_X1_figure_31 rfl dX1_figure_89 ?_
    refine lv_iload_n hx hb dX1_figure_92 rfl (lv_at hl 1 rfl) ?_
    refine g_ald CX HW 6 (k := k) rfl rfl rfl (by omega) (Nat.le_of_ble_eq_true rfl) dX1_figure_93 ?_
    exact g_iret CX HW rfl ⟨rfl, rfl⟩ dX1_figure_94
  · refine lv_tableOut (tgt := 95) hx hb dX1_figure_1 (by decide) (by decide) ?_
    refine lv_aload_n hx hb dX1_figure_95 rfl (lv_at hl 0 rfl) ?_
    refine g_get CX HW in_X1_figure_1 0 7 rfl rfl (Nat.le_of_ble_eq_true rfl) fl_X1_figure_34 rfl dX1_figure_96 ?_
    refine lv_iload_n hx hb dX1_figure_99 rfl (lv_at hl 1 rfl) ?_
    refine g_ald CX HW 7 (k := k) rfl rfl rfl (by omega) (Nat.le_of_ble_eq_true rfl) dX1_figure_100 ?_
    exact g_iret CX HW rfl ⟨rfl, rfl⟩ dX1_figure_101
end
section
theorem hd_X3_copyRow : yX3_copyRow.cls ≠ "java/lang/invoke/MethodHandle" ∧ yX3_copyRow.cls ≠ "java/lang/invoke/VarHandle" ∧ (parseMethodDescriptor yX3_copyRow.desc).map (fun d => d.parameters.length) = some 2 := by decide +kernel
theorem vp_row {cA : ClassId} {n : Nat} {f g : Nat → Int32} (h : ∀ k, k < n → f k = g k) : vp_cell cA (n, .inl f) = vp_cell cA (n, .inl g) := by
  rw [vp_cell_i, vp_cell_i]
  unfold arrV
  congr 2
  funext j
  show Value.int (f j.val) = Value.int (g j.val)
  rw [h j.val j.isLt]
/-- a row's cell says nothing of what lies beyond its length -/
theorem va_P_row {D : va_G} {cl : List vw_C} {w : va_W} {H : Heap} {cI : ClassId} {y q1 n : Nat} {f g : Nat → Int32} (h : va_P D cl (w.set q1 (y, .inl (cI, n, .inl f))) H) (hfg : ∀ k, k < n → f k = g k) : va_P D cl (w.set q1 (y, .inl (cI, n, .inl g))) H := by
  intro k q hk
  by_cases hkq : k = q1
  · subst hkq
    have hl : k < w.length := by
      have := (List.getElem?_eq_some_iff.mp hk).1
      rwa [List.length_set] at this
    rw [List.getElem?_set_self hl] at hk
    cases hk
    have h1 := h k _ (List.getElem?_set_self hl)
    show H[y]? = some (vp_cell cI (n, .inl g))
    rw [← vp_row hfg]
    exact h1
  · rw [List.getElem?_set_ne (Ne.symm hkq)] at hk
    exact h k q (by rw [List.getElem?_set_ne (Ne.symm hkq)]; exact hk)
section GC
variable {p : Program} {l : Launch} {e : Env} {R : Room} {s : State} {m : MethodId} {args : Array Value} {below : List Frame} {meth : Method} {c : Code} {H : Heap} {locs : List Loc} {cells slots : Nat} {Q : State → Prop}
variable {cc : ByteArray} {pc nL : Nat} {ls : Array Slot} {rest : List Value} {ret : Option FieldType} {own : String} {Ts : List Cond} {D : va_G} {A : Nat → Prop} {tys : List (ClassId × FieldType)} {w : va_W}
/-- a whole row copied over another of the same length -/
theorem g_copy (CX : Cx p s m args meth c cc nL ret own Ts D tys A) (HW : Hw D A s w H locs) (hls : ls.size = nL) {x y n index : Nat} (q0 q1 : Nat) {f g : Nat → Int32} {cI : ClassId} (ha0 : w[q0]? = some (x, .inl (cI, n, .inl f))) (ha1 : w[q1]? = some (y, .inl (cI, n, .inl g))) (ht : tys[0]? = some (cI, .int)) (hn : n < 2 ^ 31)
    (hlk : Cond.methodLink own index arraycopyName ∈ Ts) (hnat : Cond.native arraycopyName ∈ Ts) (hstat : Cond.static arraycopyName ∈ Ts) (hini : Cond.initialized "java/lang/System" ∈ Ts) (hf : 1 ≤ R.frames) (hlo : (rest.map fun v => v.category).sum + (nativeFrameWords "java/lang/System" "arraycopy" 5 + 11) ≤ R.locals) (hdg : decode cc pc = .ok (.invokestatic index, 3))
    (kk : ∀ (H1 : Heap) (locs1 : List Loc), Hw D A s (w.set q1 (y, .inl (cI, n, .inl f))) H1 locs1 → W p l e R s m args below meth c H1 locs1 cells slots Q (F0 m (pc + 3) ls rest)) : W p l e R s m args below meth c H locs cells slots Q (F0 m pc ls (.int (nI n) :: .int 0 :: .ref y :: .int 0 :: .ref x :: rest)) := by
  obtain ⟨hx, hb, hml, hr, hown, hts, hK, hA, hlk0⟩ := CX
  have e0 : (0 : Int32).toNatClampNeg = 0 := by decide
  have en : (nI n).toNatClampNeg = n := nI_clamp hn
  refine va_copyi hx hb (hml.trans hls.symm) hown (hts _ hlk) (hts _ hnat) (hts _ hstat) (hts _ hini) hK.1 HW.1 HW.2.1 HW.2.2 q0 q1 0 0 ha0 ha1 ht ht rfl (by decide) (by decide) (nI_pos hn) (by rw [e0, en]; omega) (by rw [e0, en]; omega) (fun _ _ => rfl) hf hlo hdg (fun H1 l1 h1 h2 h3 => kk H1 l1 ⟨?_, ?_, h3⟩)
  · refine va_P_row h1 (fun k hk => ?_)
    rw [e0, en, pk_cpy_in (Nat.zero_le _) (by omega)]
    congr 1; omega
  · exact HW.2.1.set ha1
end GC
set_option maxRecDepth 100000 in
set_option maxHeartbeats 4000000 in
theorem c_X3_copyRow {l : Launch} {D : va_G} {cI cL : ClassId} (w : va_W) (x y q0 q1 n : Nat) (f g : Nat → Int32) (h0 : w[q0]? = some (x, .inl (cI, n, .inl f))) (h1 : w[q1]? = some (y, .inl (cI, n, .inl g))) (hn : n < 2 ^ 31) : Ct l yX3_copyRow wsX3_copyRow { frames := 1, cells := 0, slots := 0, locals := 60 } D (ty2 cI cL) [.ref x, .ref y] w (fun v w' => v = none ∧ w' = w.set q1 (y, .inl (cI, n, .inl f))) 0 0 := by
  refine Ct.of (cc := cX3_copyRow) (maxL := 2) (ret := none) (by decide) rfl (Nat.le_of_ble_eq_true rfl) ?_
  intro p e s m below meth c A ls CX hin HW hl
  obtain ⟨hx, hb, hml, hr, hown, hts, hK, hA, hlk⟩ := id CX
  have hl : lv_has ls 2 [(0, .ref x), (1, .ref y)] := hl
  refine lv_aload_n hx hb dX3_copyRow_0 rfl (lv_at hl 0 rfl) ?_
  refine lv_iconst (v := 0) hx hb dX3_copyRow_1 (by decide) ?_
  refine lv_aload_n hx hb dX3_copyRow_2 rfl (lv_at hl 1 rfl) ?_
  refine lv_iconst (v := 0) hx hb dX3_copyRow_3 (by decide) ?_
  refine lv_aload_n hx hb dX3_copyRow_4 rfl (lv_at hl 0 rfl) ?_
  refine g_len CX HW q0 h0 rfl dX3_copyRow_5 ?_
  refine lv_aload_n hx hb dX3_copyRow_6 rfl (lv_at hl 1 rfl) ?_
  refine g_len CX HW q1 h1 rfl dX3_copyRow_7 ?_
  refine va_mmin hx hb (hml.trans hl.1.symm) hown (hts (.methodLink RX3 194 Lib.Math.min.name) (by decide +kernel)) (hts (.static Lib.Math.min.name) (by decide +kernel)) (hts (.initialized "java/lang/Math") (by decide +kernel)) (hts (.code Lib.Math.min.name Lib.Math.min.code 2 (some .int)) (by decide +kernel)) (Nat.le_of_ble_eq_true rfl) (Nat.le_of_ble_eq_true rfl) (Nat.zero_le _) (Nat.zero_le _) dX3_copyRow_8 ?_
  refine g_top (y := nI n) (by rw [ite_self]) ?_
  refine g_copy CX HW hl.1 q0 q1 h0 h1 rfl hn (index := 202) (by decide +kernel) (by decide +kernel) (by decide +kernel) (by decide +kernel) (Nat.le_of_ble_eq_true rfl) (Nat.le_of_ble_eq_true rfl) dX3_copyRow_11 (fun H locs HW => ?_)
  exact g_vret CX HW rfl ⟨rfl, rfl⟩ dX3_copyRow_14
theorem Ct.ofF {l : Launch} {y : MethodName} {ws ws' : List Cond} {rm : Room} {D : va_G} {tys : List (ClassId × FieldType)} {av : List Value} {w : va_W} {post : Option Value → va_W → Prop} {mc ms : Nat} {cc : ByteArray} {maxL : Nat} {ret : Option FieldType}
    (hy : plainFor y = true) (hw : ws = Cond.code y cc maxL ret :: ws') (hav : (lg_sl av).length ≤ maxL)
    (body : ∀ (p : Program) (e : Env) (s : State) (m : MethodId) (below : List Frame) (meth : Method) (c : Code) (A : Nat → Prop) (ls : Array Slot), Cx p s m av.toArray meth c cc maxL ret y.cls ws D tys A → meth.name = y.name → Hw D A s w s.heap [] → lv_has ls maxL (lv_args 0 av) →
      W p l e rm s m av.toArray below meth c s.heap [] 0 0 (MQ below (cQ D A post) av.toArray s mc ms A) (F0 m 0 ls [])) : Ct l y ws rm D tys av w post mc ms := by
  intro sz
  refine va_MetF (cc := cc) (maxL := maxL) (ret := ret) hy hw ?_
  intro p e s m args below meth c s₁ B hml hv
  obtain ⟨rfl, hsz, hP, hK, hD0⟩ := hv
  subst hsz
  have hown : s.vm.findClass y.cls = some m.cls := findClass_of_methodNamed B.named
  have hD := hD0.self (sz := s.heap.size)
  have hA : ∀ q : Nat, s.heap.size ≤ q → va_A w s.heap.size q := fun q h => Or.inr h
  have hl := lv_entry av (n := maxL) hav
  rw [lg_entry_eq]
  exact body p e s m below meth c (va_A w s.heap.size) _ ⟨B.exec, B.bytes, hml, B.returns, hown, atoms_spec (ws := ws) B.pre, hK, hA, B.notSynchronized⟩ (name_of_methodNamed B.named B.method).1 ⟨hP, hD, va_S.rf⟩ hl
theorem xor_pos {x y : Nat} (hx : x < 2 ^ 31) (hy : y < 2 ^ 31) : ¬ (nI x ^^^ nI y < 0) := by
  intro h
  have h1 := Int32.lt_iff_toInt_lt.mp h
  rw [Int32.toInt_zero] at h1
  have h2 : (nI x ^^^ nI y).toInt = ((x ^^^ y : Nat) : Int) := by
    have h3 : nI x ^^^ nI y = nI (x ^^^ y) := by
      apply Int32.toBitVec_inj.mp
      rw [Int32.toBitVec_xor]
      apply BitVec.eq_of_toNat_eq
      rw [BitVec.toNat_xor, pk_tn (by omega), pk_tn (by omega), pk_tn (Nat.xor_lt_two_pow (n := 32) (by omega) (by omega))]
    rw [h3]
    exact nI_toInt (Nat.xor_lt_two_pow hx hy)
  omega
theorem hd_J9_floorMod_7cf53 : yJ9_floorMod_7cf53.cls ≠ "java/lang/invoke/MethodHandle" ∧ yJ9_floorMod_7cf53.cls ≠ "java/lang/invoke/VarHandle" ∧ (parseMethodDescriptor yJ9_floorMod_7cf53.desc).map (fun d => d.parameters.length) = some 2 := by decide +kernel
set_option maxRecDepth 100000 in
set_option maxHeartbeats 4000000 in
theorem c_J9_floorMod_7cf53 {l : Launch} {D : va_G} {cI cL : ClassId} (x : Nat) (y : Nat) (hx9 : x < 2 ^ 31) (hy0 : 0 < y) (hy9 : y < 2 ^ 31) : Ct l yJ9_floorMod_7cf53 wsJ9_floorMod_7cf53 { frames := 0, cells := 0, slots := 0, locals := 0 } D (ty2 cI cL) [.int (nI x), .int (nI y)] ([]) (fun v w' => v = some (.int (nI (x % y))) ∧ w' = []) 0 0 := by
  refine Ct.ofF (cc := cJ9_floorMod_7cf53) (maxL := 3) (ret := (some .int)) (by decide +kernel) rfl (Nat.le_of_ble_eq_true rfl) ?_
  intro p e s m below meth c A ls CX hin HW hl
  obtain ⟨hx, hb, hml, hr, hown, hts, hK, hA, hlk⟩ := id CX
  have hl : lv_has ls 3 [(0, .int (nI x)), (1, .int (nI y))] := hl
  refine lv_iload_n hx hb dJ9_floorMod_7cf53_0 rfl (lv_at hl 0 rfl) ?_
  refine lv_iload_n hx hb dJ9_floorMod_7cf53_1 rfl (lv_at hl 1 rfl) ?_
  refine lv_irem hx hb dJ9_floorMod_7cf53_2 (nI_ne0 hy0 hy9) ?_
  refine g_top (y := (nI (x % y))) (pk_rem hx9 hy0 hy9) ?_
  refine lv_istore_n (lv' := [(2, .int (nI (x % y))), (0, .int (nI x)), (1, .int (nI y))]) hx hb dJ9_floorMod_7cf53_3 rfl hl (Nat.le_of_ble_eq_true rfl) rfl (fun ls hl => ?_)
  refine lv_iload_n hx hb dJ9_floorMod_7cf53_4 rfl (lv_at hl 1 rfl) ?_
  refine lv_iload_n hx hb dJ9_floorMod_7cf53_5 rfl (lv_at hl 2 rfl) ?_
  refine lv_ixor hx hb dJ9_floorMod_7cf53_6 ?_
  refine lv_if_ge (tgt := 18) hx hb dJ9_floorMod_7cf53_7 (by decide) (fun c7 => ?_) (fun c7 => ?_)
  · refine lv_iload_n hx hb dJ9_floorMod_7cf53_18 rfl (lv_at hl 0 rfl) ?_
    exact g_iret CX HW rfl ⟨rfl, rfl⟩ dJ9_floorMod_7cf53_19
  · exact absurd c7 (fun h => xor_pos hx9 hy9 (Int32.not_le.mp h))
theorem hd_X0_copyFrom : yX0_copyFrom.cls ≠ "java/lang/invoke/MethodHandle" ∧ yX0_copyFrom.cls ≠ "java/lang/invoke/VarHandle" ∧ (parseMethodDescriptor yX0_copyFrom.desc).map (fun d => d.parameters.length) = some 1 := by decide +kernel
theorem fl_X0_copyFrom_9 : Cond.fieldLink RX0 9 (TX0 0).1 (TX0 0).2.1 (TX0 0).2.2.1 ∈ wsX0_copyFrom := by decide +kernel
theorem in_X0_copyFrom_0 : ∀ x ∈ u_ws RX0 TX0 5, x ∈ wsX0_copyFrom := by decide +kernel
theorem fl_X0_copyFrom_15 : Cond.fieldLink RX0 15 (TX0 1).1 (TX0 1).2.1 (TX0 1).2.2.1 ∈ wsX0_copyFrom := by decide +kernel
theorem sn_X0_copyFrom_X3_copyRow : Cond.initialized yX3_copyRow.cls ∈ wsX0_copyFrom ∧ Cond.static yX3_copyRow ∈ wsX0_copyFrom := ⟨by decide +kernel, by decide +kernel⟩
theorem fl_X0_copyFrom_19 : Cond.fieldLink RX0 19 (TX0 2).1 (TX0 2).2.1 (TX0 2).2.2.1 ∈ wsX0_copyFrom := by decide +kernel
theorem fl_X0_copyFrom_22 : Cond.fieldLink RX0 22 (TX0 3).1 (TX0 3).2.1 (TX0 3).2.2.1 ∈ wsX0_copyFrom := by decide +kernel
theorem fl_X0_copyFrom_25 : Cond.fieldLink RX0 25 (TX0 4).1 (TX0 4).2.1 (TX0 4).2.2.1 ∈ wsX0_copyFrom := by decide +kernel
set_option maxRecDepth 100000 in
set_option maxHeartbeats 4000000 in
theorem c_X0_copyFrom {l : Launch} {D : va_G} {cI cL : ClassId} {a : Nat → Nat} (o2 : Nat) (o : Nat) (n2 : Nat) (tw2 : Nat → Int32) (sl2 : Nat → Int32) (dp2 : Nat → Int32) (kd2 : Nat → Int32) (n : Nat) (tw : Nat → Int32) (sl : Nat → Int32) (dp : Nat → Int32) (kd : Nat → Int32) : Ct l yX0_copyFrom wsX0_copyFrom { frames := 2, cells := 0, slots := 0, locals := 81 } D (ty2 cI cL) [.ref (a o), .ref (a o2)] (wR cI a o2 n2 tw2 sl2 dp2 kd2 ++ (wR cI a o n tw sl dp kd)) (fun v w' => v = none ∧ w' = wR cI a o2 n2 tw2 sl2 dp2 kd2 ++ (wR cI a o n2 tw2 sl2 dp2 kd2)) 0 0 := by
  refine Ct.of (cc := cX0_copyFrom) (maxL := 2) (ret := none) (by decide) rfl (Nat.le_of_ble_eq_true rfl) ?_
  intro p e s m below meth c A ls CX hin HW hl
  obtain ⟨hx, hb, hml, hr, hown, hts, hK, hA, hlk⟩ := id CX
  have hl : lv_has ls 2 [(0, .ref (a o)), (1, .ref (a o2))] := hl
  refine lv_aload_n hx hb dX0_copyFrom_0 rfl (lv_at hl 0 rfl) ?_
  refine lv_aload_n hx hb dX0_copyFrom_1 rfl (lv_at hl 1 rfl) ?_
  refine g_get CX HW in_X0_copyFrom_0 0 0 rfl rfl (Nat.le_of_ble_eq_true rfl) fl_X0_copyFrom_9 rfl dX0_copyFrom_2 ?_
  refine g_put CX HW in_X0_copyFrom_0 tyX0 tyX0_ok nmX0 5 0 rfl rfl (Nat.le_of_ble_eq_true rfl) fl_X0_copyFrom_9 rfl rfl rfl (Nat.le_of_ble_eq_true rfl) dX0_copyFrom_5 (fun H locs HW => ?_)
  have HW : Hw D A s (wR cI a o2 n2 tw2 sl2 dp2 kd2 ++ (wR cI a o n2 tw sl dp kd)) H locs := HW
  refine lv_aload_n hx hb dX0_copyFrom_8 rfl (lv_at hl 1 rfl) ?_
  refine g_get CX HW in_X0_copyFrom_0 0 1 rfl rfl (Nat.le_of_ble_eq_true rfl) fl_X0_copyFrom_15 rfl dX0_copyFrom_9 ?_
  refine lv_aload_n hx hb dX0_copyFrom_12 rfl (lv_at hl 0 rfl) ?_
  refine g_get CX HW in_X0_copyFrom_0 5 1 rfl rfl (Nat.le_of_ble_eq_true rfl) fl_X0_copyFrom_15 rfl dX0_copyFrom_13 ?_
  refine g_callSN (host := "PommelTows") CX HW hl.1 [] [] (c_X3_copyRow (wR cI a o2 n2 tw2 sl2 dp2 kd2 ++ (wR cI a o n2 tw sl dp kd)) (a (o2 + 1)) (a (o + 1)) 1 6 6 tw2 tw rfl rfl (Nat.le_of_ble_eq_true rfl)) (List.append_nil _).symm gX0_copyFrom_X3_copyRow_n40 sn_X0_copyFrom_X3_copyRow (by decide +kernel) rfl hd_X3_copyRow ⟨rfl, rfl, (Nat.le_of_ble_eq_true rfl), (Nat.le_of_ble_eq_true rfl)⟩ ⟨(Nat.zero_le _), (Nat.zero_le _)⟩ rfl rfl (Nat.le_of_ble_eq_true rfl) dX0_copyFrom_16 (fun v w1 H locs hp HW => ?_)
  obtain ⟨rfl, rfl⟩ := hp
  have HW : Hw D A s (wR cI a o2 n2 tw2 sl2 dp2 kd2 ++ (wR cI a o n2 tw2 sl dp kd)) H locs := HW
  refine W.eq (g2 := F0 m 19 ls []) rfl ?_
  refine lv_aload_n hx hb dX0_copyFrom_19 rfl (lv_at hl 1 rfl) ?_
  refine g_get CX HW in_X0_copyFrom_0 0 2 rfl rfl (Nat.le_of_ble_eq_true rfl) fl_X0_copyFrom_19 rfl dX0_copyFrom_20 ?_
  refine lv_aload_n hx hb dX0_copyFrom_23 rfl (lv_at hl 0 rfl) ?_
  refine g_get CX HW in_X0_copyFrom_0 5 2 rfl rfl (Nat.le_of_ble_eq_true rfl) fl_X0_copyFrom_19 rfl dX0_copyFrom_24 ?_
  refine g_callSN (host := "PommelTows") CX HW hl.1 [] [] (c_X3_copyRow (wR cI a o2 n2 tw2 sl2 dp2 kd2 ++ (wR cI a o n2 tw2 sl dp kd)) (a (o2 + 2)) (a (o + 2)) 2 7 6 sl2 sl rfl rfl (Nat.le_of_ble_eq_true rfl)) (List.append_nil _).symm gX0_copyFrom_X3_copyRow_n40 sn_X0_copyFrom_X3_copyRow (by decide +kernel) rfl hd_X3_copyRow ⟨rfl, rfl, (Nat.le_of_ble_eq_true rfl), (Nat.le_of_ble_eq_true rfl)⟩ ⟨(Nat.zero_le _), (Nat.zero_le _)⟩ rfl rfl (Nat.le_of_ble_eq_true rfl) dX0_copyFrom_27 (fun v w1 H locs hp HW => ?_)
  obtain ⟨rfl, rfl⟩ := hp
  have HW : Hw D A s (wR cI a o2 n2 tw2 sl2 dp2 kd2 ++ (wR cI a o n2 tw2 sl2 dp kd)) H locs := HW
  refine W.eq (g2 := F0 m 30 ls []) rfl ?_
  refine lv_aload_n hx hb dX0_copyFrom_30 rfl (lv_at hl 1 rfl) ?_
  refine g_get CX HW in_X0_copyFrom_0 0 3 rfl rfl (Nat.le_of_ble_eq_true rfl) fl_X0_copyFrom_22 rfl dX0_copyFrom_31 ?_
  refine lv_aload_n hx hb dX0_copyFrom_34 rfl (lv_at hl 0 rfl) ?_
  refine g_get CX HW in_X0_copyFrom_0 5 3 rfl rfl (Nat.le_of_ble_eq_true rfl) fl_X0_copyFrom_22 rfl dX0_copyFrom_35 ?_
  refine g_callSN (host := "PommelTows") CX HW hl.1 [] [] (c_X3_copyRow (wR cI a o2 n2 tw2 sl2 dp2 kd2 ++ (wR cI a o n2 tw2 sl2 dp kd)) (a (o2 + 3)) (a (o + 3)) 3 8 6 dp2 dp rfl rfl (Nat.le_of_ble_eq_true rfl)) (List.append_nil _).symm gX0_copyFrom_X3_copyRow_n40 sn_X0_copyFrom_X3_copyRow (by decide +kernel) rfl hd_X3_copyRow ⟨rfl, rfl, (Nat.le_of_ble_eq_true rfl), (Nat.le_of_ble_eq_true rfl)⟩ ⟨(Nat.zero_le _), (Nat.zero_le _)⟩ rfl rfl (Nat.le_of_ble_eq_true rfl) dX0_copyFrom_38 (fun v w1 H locs hp HW => ?_)
  obtain ⟨rfl, rfl⟩ := hp
  have HW : Hw D A s (wR cI a o2 n2 tw2 sl2 dp2 kd2 ++ (wR cI a o n2 tw2 sl2 dp2 kd)) H locs := HW
  refine W.eq (g2 := F0 m 41 ls []) rfl ?_
  refine lv_aload_n hx hb dX0_copyFrom_41 rfl (lv_at hl 1 rfl) ?_
  refine g_get CX HW in_X0_copyFrom_0 0 4 rfl rfl (Nat.le_of_ble_eq_true rfl) fl_X0_copyFrom_25 rfl dX0_copyFrom_42 ?_
  refine lv_aload_n hx hb dX0_copyFrom_45 rfl (lv_at hl 0 rfl) ?_
  refine g_get CX HW in_X0_copyFrom_0 5 4 rfl rfl (Nat.le_of_ble_eq_true rfl) fl_X0_copyFrom_25 rfl dX0_copyFrom_46 ?_
  refine g_callSN (host := "PommelTows") CX HW hl.1 [] [] (c_X3_copyRow (wR cI a o2 n2 tw2 sl2 dp2 kd2 ++ (wR cI a o n2 tw2 sl2 dp2 kd)) (a (o2 + 4)) (a (o + 4)) 4 9 6 kd2 kd rfl rfl (Nat.le_of_ble_eq_true rfl)) (List.append_nil _).symm gX0_copyFrom_X3_copyRow_n40 sn_X0_copyFrom_X3_copyRow (by decide +kernel) rfl hd_X3_copyRow ⟨rfl, rfl, (Nat.le_of_ble_eq_true rfl), (Nat.le_of_ble_eq_true rfl)⟩ ⟨(Nat.zero_le _), (Nat.zero_le _)⟩ rfl rfl (Nat.le_of_ble_eq_true rfl) dX0_copyFrom_49 (fun v w1 H locs hp HW => ?_)
  obtain ⟨rfl, rfl⟩ := hp
  have HW : Hw D A s (wR cI a o2 n2 tw2 sl2 dp2 kd2 ++ (wR cI a o n2 tw2 sl2 dp2 kd2)) H locs := HW
  refine W.eq (g2 := F0 m 52 ls []) rfl ?_
  exact g_vret CX HW rfl ⟨rfl, rfl⟩ dX0_copyFrom_52

theorem hd_X1_copyFrom : yX1_copyFrom.cls ≠ "java/lang/invoke/MethodHandle" ∧ yX1_copyFrom.cls ≠ "java/lang/invoke/VarHandle" ∧ (parseMethodDescriptor yX1_copyFrom.desc).map (fun d => d.parameters.length) = some 1 := by decide +kernel
theorem fl_X1_copyFrom_9 : Cond.fieldLink RX1 9 (TX1 0).1 (TX1 0).2.1 (TX1 0).2.2.1 ∈ wsX1_copyFrom := by decide +kernel
theorem in_X1_copyFrom_1 : ∀ x ∈ u_ws RX1 TX1 9, x ∈ wsX1_copyFrom := by decide +kernel
theorem fl_X1_copyFrom_15 : Cond.fieldLink RX1 15 (TX1 1).1 (TX1 1).2.1 (TX1 1).2.2.1 ∈ wsX1_copyFrom := by decide +kernel
theorem sn_X1_copyFrom_X3_copyRow : Cond.initialized yX3_copyRow.cls ∈ wsX1_copyFrom ∧ Cond.static yX3_copyRow ∈ wsX1_copyFrom := ⟨by decide +kernel, by decide +kernel⟩
theorem fl_X1_copyFrom_19 : Cond.fieldLink RX1 19 (TX1 2).1 (TX1 2).2.1 (TX1 2).2.2.1 ∈ wsX1_copyFrom := by decide +kernel
theorem fl_X1_copyFrom_22 : Cond.fieldLink RX1 22 (TX1 3).1 (TX1 3).2.1 (TX1 3).2.2.1 ∈ wsX1_copyFrom := by decide +kernel
theorem fl_X1_copyFrom_25 : Cond.fieldLink RX1 25 (TX1 4).1 (TX1 4).2.1 (TX1 4).2.2.1 ∈ wsX1_copyFrom := by decide +kernel
theorem fl_X1_copyFrom_28 : Cond.fieldLink RX1 28 (TX1 5).1 (TX1 5).2.1 (TX1 5).2.2.1 ∈ wsX1_copyFrom := by decide +kernel
theorem fl_X1_copyFrom_31 : Cond.fieldLink RX1 31 (TX1 6).1 (TX1 6).2.1 (TX1 6).2.2.1 ∈ wsX1_copyFrom := by decide +kernel
theorem fl_X1_copyFrom_34 : Cond.fieldLink RX1 34 (TX1 7).1 (TX1 7).2.1 (TX1 7).2.2.1 ∈ wsX1_copyFrom := by decide +kernel
theorem fl_X1_copyFrom_37 : Cond.fieldLink RX1 37 (TX1 8).1 (TX1 8).2.1 (TX1 8).2.2.1 ∈ wsX1_copyFrom := by decide +kernel
set_option maxRecDepth 100000 in
set_option maxHeartbeats 4000000 in
theorem c_X1_copyFrom {l : Launch} {D : va_G} {cI cL : ClassId} {a : Nat → Nat} (o2 : Nat) (o : Nat) (n2 : Nat) (sk2 : Nat → Int32) (cn2 : Nat → Int32) (wx2 : Nat → Int32) (ly2 : Nat → Int32) (pt2 : Nat → Int32) (rd2 : Nat → Int32) (qt2 : Nat → Int32) (qp2 : Nat → Int32) (n : Nat) (sk : Nat → Int32) (cn : Nat → Int32) (wx : Nat → Int32) (ly : Nat → Int32) (pt : Nat → Int32) (rd : Nat → Int32) (qt : Nat → Int32) (qp : Nat → Int32) : Ct l yX1_copyFrom wsX1_copyFrom { frames := 2, cells := 0, slots := 0, locals := 81 } D (ty2 cI cL) [.ref (a o), .ref (a o2)] (wS cI a o2 n2 sk2 cn2 wx2 ly2 pt2 rd2 qt2 qp2 ++ (wS cI a o n sk cn wx ly pt rd qt qp)) (fun v w' => v = none ∧ w' = wS cI a o2 n2 sk2 cn2 wx2 ly2 pt2 rd2 qt2 qp2 ++ (wS cI a o n2 sk2 cn2 wx2 ly2 pt2 rd2 qt2 qp2)) 0 0 := by
  refine Ct.of (cc := cX1_copyFrom) (maxL := 2) (ret := none) (by decide) rfl (Nat.le_of_ble_eq_true rfl) ?_
  intro p e s m below meth c A ls CX hin HW hl
  obtain ⟨hx, hb, hml, hr, hown, hts, hK, hA, hlk⟩ := id CX
  have hl : lv_has ls 2 [(0, .ref (a o)), (1, .ref (a o2))] := hl
  refine lv_aload_n hx hb dX1_copyFrom_0 rfl (lv_at hl 0 rfl) ?_
  refine lv_aload_n hx hb dX1_copyFrom_1 rfl (lv_at hl 1 rfl) ?_
  refine g_get CX HW in_X1_copyFrom_1 0 0 rfl rfl (Nat.le_of_ble_eq_true rfl) fl_X1_copyFrom_9 rfl dX1_copyFrom_2 ?_
  refine g_put CX HW in_X1_copyFrom_1 tyX1 tyX1_ok nmX1 9 0 rfl rfl (Nat.le_of_ble_eq_true rfl) fl_X1_copyFrom_9 rfl rfl rfl (Nat.le_of_ble_eq_true rfl) dX1_copyFrom_5 (fun H locs HW => ?_)
  have HW : Hw D A s (wS cI a o2 n2 sk2 cn2 wx2 ly2 pt2 rd2 qt2 qp2 ++ (wS cI a o n2 sk cn wx ly pt rd qt qp)) H locs := HW
  refine lv_aload_n hx hb dX1_copyFrom_8 rfl (lv_at hl 1 rfl) ?_
  refine g_get CX HW in_X1_copyFrom_1 0 1 rfl rfl (Nat.le_of_ble_eq_true rfl) fl_X1_copyFrom_15 rfl dX1_copyFrom_9 ?_
  refine lv_aload_n hx hb dX1_copyFrom_12 rfl (lv_at hl 0 rfl) ?_
  refine g_get CX HW in_X1_copyFrom_1 9 1 rfl rfl (Nat.le_of_ble_eq_true rfl) fl_X1_copyFrom_15 rfl dX1_copyFrom_13 ?_
  refine g_callSN (host := "PommelTows") CX HW hl.1 [] [] (c_X3_copyRow (wS cI a o2 n2 sk2 cn2 wx2 ly2 pt2 rd2 qt2 qp2 ++ (wS cI a o n2 sk cn wx ly pt rd qt qp)) (a (o2 + 1)) (a (o + 1)) 1 10 8 sk2 sk rfl rfl (Nat.le_of_ble_eq_true rfl)) (List.append_nil _).symm gX1_copyFrom_X3_copyRow_n53 sn_X1_copyFrom_X3_copyRow (by decide +kernel) rfl hd_X3_copyRow ⟨rfl, rfl, (Nat.le_of_ble_eq_true rfl), (Nat.le_of_ble_eq_true rfl)⟩ ⟨(Nat.zero_le _), (Nat.zero_le _)⟩ rfl rfl (Nat.le_of_ble_eq_true rfl) dX1_copyFrom_16 (fun v w1 H locs hp HW => ?_)
  obtain ⟨rfl, rfl⟩ := hp
  have HW : Hw D A s (wS cI a o2 n2 sk2 cn2 wx2 ly2 pt2 rd2 qt2 qp2 ++ (wS cI a o n2 sk2 cn wx ly pt rd qt qp)) H locs := HW
  refine W.eq (g2 := F0 m 19 ls []) rfl ?_
  refine lv_aload_n hx hb dX1_copyFrom_19 rfl (lv_at hl 1 rfl) ?_
  refine g_get CX HW in_X1_copyFrom_1 0 2 rfl rfl (Nat.le_of_ble_eq_true rfl) fl_X1_copyFrom_19 rfl dX1_copyFrom_20 ?_
  refine lv_aload_n hx hb dX1_copyFrom_23 rfl (lv_at hl 0 rfl) ?_
  refine g_get CX HW in_X1_copyFrom_1 9 2 rfl rfl (Nat.le_of_ble_eq_true rfl) fl_X1_copyFrom_19 rfl dX1_copyFrom_24 ?_
  refine g_callSN (host := "PommelTows") CX HW hl.1 [] [] (c_X3_copyRow (wS cI a o2 n2 sk2 cn2 wx2 ly2 pt2 rd2 qt2 qp2 ++ (wS cI a o n2 sk2 cn wx ly pt rd qt qp)) (a (o2 + 2)) (a (o + 2)) 2 11 8 cn2 cn rfl rfl (Nat.le_of_ble_eq_true rfl)) (List.append_nil _).symm gX1_copyFrom_X3_copyRow_n53 sn_X1_copyFrom_X3_copyRow (by decide +kernel) rfl hd_X3_copyRow ⟨rfl, rfl, (Nat.le_of_ble_eq_true rfl), (Nat.le_of_ble_eq_true rfl)⟩ ⟨(Nat.zero_le _), (Nat.zero_le _)⟩ rfl rfl (Nat.le_of_ble_eq_true rfl) dX1_copyFrom_27 (fun v w1 H locs hp HW => ?_)
  obtain ⟨rfl, rfl⟩ := hp
  have HW : Hw D A s (wS cI a o2 n2 sk2 cn2 wx2 ly2 pt2 rd2 qt2 qp2 ++ (wS cI a o n2 sk2 cn2 wx ly pt rd qt qp)) H locs := HW
  refine W.eq (g2 := F0 m 30 ls []) rfl ?_
  refine lv_aload_n hx hb dX1_copyFrom_30 rfl (lv_at hl 1 rfl) ?_
  refine g_get CX HW in_X1_copyFrom_1 0 3 rfl rfl (Nat.le_of_ble_eq_true rfl) fl_X1_copyFrom_22 rfl dX1_copyFrom_31 ?_
  refine lv_aload_n hx hb dX1_copyFrom_34 rfl (lv_at hl 0 rfl) ?_
  refine g_get CX HW in_X1_copyFrom_1 9 3 rfl rfl (Nat.le_of_ble_eq_true rfl) fl_X1_copyFrom_22 rfl dX1_copyFrom_35 ?_
  refine g_callSN (host := "PommelTows") CX HW hl.1 [] [] (c_X3_copyRow (wS cI a o2 n2 sk2 cn2 wx2 ly2 pt2 rd2 qt2 qp2 ++ (wS cI a o n2 sk2 cn2 wx ly pt rd qt qp)) (a (o2 + 3)) (a (o + 3)) 3 12 8 wx2 wx rfl rfl (Nat.le_of_ble_eq_true rfl)) (List.append_nil _).symm gX1_copyFrom_X3_copyRow_n53 sn_X1_copyFrom_X3_copyRow (by decide +kernel) rfl hd_X3_copyRow ⟨rfl, rfl, (Nat.le_of_ble_eq_true rfl), (Nat.le_of_ble_eq_true rfl)⟩ ⟨(Nat.zero_le _), (Nat.zero_le _)⟩ rfl rfl (Nat.le_of_ble_eq_true rfl) dX1_copyFrom_38 (fun v w1 H locs hp HW => ?_)
  obtain ⟨rfl, rfl⟩ := hp
  have HW : Hw D A s (wS cI a o2 n2 sk2 cn2 wx2 ly2 pt2 rd2 qt2 qp2 ++ (wS cI a o n2 sk2 cn2 wx2 ly pt rd qt qp)) H locs := HW
  refine W.eq (g2 := F0 m 41 ls []) rfl ?_
  refine lv_aload_n hx hb dX1_copyFrom_41 rfl (lv_at hl 1 rfl) ?_
  refine g_get CX HW in_X1_copyFrom_1 0 4 rfl rfl (Nat.le_of_ble_eq_true rfl) fl_X1_copyFrom_25 rfl dX1_copyFrom_42 ?_
  refine lv_aload_n hx hb dX1_copyFrom_45 rfl (lv_at hl 0 rfl) ?_
  refine g_get CX HW in_X1_copyFrom_1 9 4 rfl rfl (Nat.le_of_ble_eq_true rfl) fl_X1_copyFrom_25 rfl dX1_copyFrom_46 ?_
  refine g_callSN (host := "PommelTows") CX HW hl.1 [] [] (c_X3_copyRow (wS cI a o2 n2 sk2 cn2 wx2 ly2 pt2 rd2 qt2 qp2 ++ (wS cI a o n2 sk2 cn2 wx2 ly pt rd qt qp)) (a (o2 + 4)) (a (o + 4)) 4 13 8 ly2 ly rfl rfl (Nat.le_of_ble_eq_true rfl)) (List.append_nil _).symm gX1_copyFrom_X3_copyRow_n53 sn_X1_copyFrom_X3_copyRow (by decide +kernel) rfl hd_X3_copyRow ⟨rfl, rfl, (Nat.le_of_ble_eq_true rfl), (Nat.le_of_ble_eq_true rfl)⟩ ⟨(Nat.zero_le _), (Nat.zero_le _)⟩ rfl rfl (Nat.le_of_ble_eq_true rfl) dX1_copyFrom_49 (fun v w1 H locs hp HW => ?_)
  obtain ⟨rfl, rfl⟩ := hp
  have HW : Hw D A s (wS cI a o2 n2 sk2 cn2 wx2 ly2 pt2 rd2 qt2 qp2 ++ (wS cI a o n2 sk2 cn2 wx2 ly2 pt rd qt qp)) H locs := HW
  refine W.eq (g2 := F0 m 52 ls []) rfl ?_
  refine lv_aload_n hx hb dX1_copyFrom_52 rfl (lv_at hl 1 rfl) ?_
  refine g_get CX HW in_X1_copyFrom_1 0 5 rfl rfl (Nat.le_of_ble_eq_true rfl) fl_X1_copyFrom_28 rfl dX1_copyFrom_53 ?_
  refine lv_aload_n hx hb dX1_copyFrom_56 rfl (lv_at hl 0 rfl) ?_
  refine g_get CX HW in_X1_copyFrom_1 9 5 rfl rfl (Nat.le_of_ble_eq_true rfl) fl_X1_copyFrom_28 rfl dX1_copyFrom_57 ?_
  refine g_callSN (host := "PommelTows") CX HW hl.1 [] [] (c_X3_copyRow (wS cI a o2 n2 sk2 cn2 wx2 ly2 pt2 rd2 qt2 qp2 ++ (wS cI a o n2 sk2 cn2 wx2 ly2 pt rd qt qp)) (a (o2 + 5)) (a (o + 5)) 5 14 8 pt2 pt rfl rfl (Nat.le_of_ble_eq_true rfl)) (List.append_nil _).symm gX1_copyFrom_X3_copyRow_n53 sn_X1_copyFrom_X3_copyRow (by decide +kernel) rfl hd_X3_copyRow ⟨rfl, rfl, (Nat.le_of_ble_eq_true rfl), (Nat.le_of_ble_eq_true rfl)⟩ ⟨(Nat.zero_le _), (Nat.zero_le _)⟩ rfl rfl (Nat.le_of_ble_eq_true rfl) dX1_copyFrom_60 (fun v w1 H locs hp HW => ?_)
  obtain ⟨rfl, rfl⟩ := hp
  have HW : Hw D A s (wS cI a o2 n2 sk2 cn2 wx2 ly2 pt2 rd2 qt2 qp2 ++ (wS cI a o n2 sk2 cn2 wx2 ly2 pt2 rd qt qp)) H locs := HW
  refine W.eq (g2 := F0 m 63 ls []) rfl ?_
  refine lv_aload_n hx hb dX1_copyFrom_63 rfl (lv_at hl 1 rfl) ?_
  refine g_get CX HW in_X1_copyFrom_1 0 6 rfl rfl (Nat.le_of_ble_eq_true rfl) fl_X1_copyFrom_31 rfl dX1_copyFrom_64 ?_
  refine lv_aload_n hx hb dX1_copyFrom_67 rfl (lv_at hl 0 rfl) ?_
  refine g_get CX HW in_X1_copyFrom_1 9 6 rfl rfl (Nat.le_of_ble_eq_true rfl) fl_X1_copyFrom_31 rfl dX1_copyFrom_68 ?_
  refine g_callSN (host := "PommelTows") CX HW hl.1 [] [] (c_X3_copyRow (wS cI a o2 n2 sk2 cn2 wx2 ly2 pt2 rd2 qt2 qp2 ++ (wS cI a o n2 sk2 cn2 wx2 ly2 pt2 rd qt qp)) (a (o2 + 6)) (a (o + 6)) 6 15 8 rd2 rd rfl rfl (Nat.le_of_ble_eq_true rfl)) (List.append_nil _).symm gX1_copyFrom_X3_copyRow_n53 sn_X1_copyFrom_X3_copyRow (by decide +kernel) rfl hd_X3_copyRow ⟨rfl, rfl, (Nat.le_of_ble_eq_true rfl), (Nat.le_of_ble_eq_true rfl)⟩ ⟨(Nat.zero_le _), (Nat.zero_le _)⟩ rfl rfl (Nat.le_of_ble_eq_true rfl) dX1_copyFrom_71 (fun v w1 H locs hp HW => ?_)
  obtain ⟨rfl, rfl⟩ := hp
  have HW : Hw D A s (wS cI a o2 n2 sk2 cn2 wx2 ly2 pt2 rd2 qt2 qp2 ++ (wS cI a o n2 sk2 cn2 wx2 ly2 pt2 rd2 qt qp)) H locs := HW
  refine W.eq (g2 := F0 m 74 ls []) rfl ?_
  refine lv_aload_n hx hb dX1_copyFrom_74 rfl (lv_at hl 1 rfl) ?_
  refine g_get CX HW in_X1_copyFrom_1 0 7 rfl rfl (Nat.le_of_ble_eq_true rfl) fl_X1_copyFrom_34 rfl dX1_copyFrom_75 ?_
  refine lv_aload_n hx hb dX1_copyFrom_78 rfl (lv_at hl 0 rfl) ?_
  refine g_get CX HW in_X1_copyFrom_1 9 7 rfl rfl (Nat.le_of_ble_eq_true rfl) fl_X1_copyFrom_34 rfl dX1_copyFrom_79 ?_
  refine g_callSN (host := "PommelTows") CX HW hl.1 [] [] (c_X3_copyRow (wS cI a o2 n2 sk2 cn2 wx2 ly2 pt2 rd2 qt2 qp2 ++ (wS cI a o n2 sk2 cn2 wx2 ly2 pt2 rd2 qt qp)) (a (o2 + 7)) (a (o + 7)) 7 16 8 qt2 qt rfl rfl (Nat.le_of_ble_eq_true rfl)) (List.append_nil _).symm gX1_copyFrom_X3_copyRow_n53 sn_X1_copyFrom_X3_copyRow (by decide +kernel) rfl hd_X3_copyRow ⟨rfl, rfl, (Nat.le_of_ble_eq_true rfl), (Nat.le_of_ble_eq_true rfl)⟩ ⟨(Nat.zero_le _), (Nat.zero_le _)⟩ rfl rfl (Nat.le_of_ble_eq_true rfl) dX1_copyFrom_82 (fun v w1 H locs hp HW => ?_)
  obtain ⟨rfl, rfl⟩ := hp
  have HW : Hw D A s (wS cI a o2 n2 sk2 cn2 wx2 ly2 pt2 rd2 qt2 qp2 ++ (wS cI a o n2 sk2 cn2 wx2 ly2 pt2 rd2 qt2 qp)) H locs := HW
  refine W.eq (g2 := F0 m 85 ls []) rfl ?_
  refine lv_aload_n hx hb dX1_copyFrom_85 rfl (lv_at hl 1 rfl) ?_
  refine g_get CX HW in_X1_copyFrom_1 0 8 rfl rfl (Nat.le_of_ble_eq_true rfl) fl_X1_copyFrom_37 rfl dX1_copyFrom_86 ?_
  refine lv_aload_n hx hb dX1_copyFrom_89 rfl (lv_at hl 0 rfl) ?_
  refine g_get CX HW in_X1_copyFrom_1 9 8 rfl rfl (Nat.le_of_ble_eq_true rfl) fl_X1_copyFrom_37 rfl dX1_copyFrom_90 ?_
  refine g_callSN (host := "PommelTows") CX HW hl.1 [] [] (c_X3_copyRow (wS cI a o2 n2 sk2 cn2 wx2 ly2 pt2 rd2 qt2 qp2 ++ (wS cI a o n2 sk2 cn2 wx2 ly2 pt2 rd2 qt2 qp)) (a (o2 + 8)) (a (o + 8)) 8 17 8 qp2 qp rfl rfl (Nat.le_of_ble_eq_true rfl)) (List.append_nil _).symm gX1_copyFrom_X3_copyRow_n53 sn_X1_copyFrom_X3_copyRow (by decide +kernel) rfl hd_X3_copyRow ⟨rfl, rfl, (Nat.le_of_ble_eq_true rfl), (Nat.le_of_ble_eq_true rfl)⟩ ⟨(Nat.zero_le _), (Nat.zero_le _)⟩ rfl rfl (Nat.le_of_ble_eq_true rfl) dX1_copyFrom_93 (fun v w1 H locs hp HW => ?_)
  obtain ⟨rfl, rfl⟩ := hp
  have HW : Hw D A s (wS cI a o2 n2 sk2 cn2 wx2 ly2 pt2 rd2 qt2 qp2 ++ (wS cI a o n2 sk2 cn2 wx2 ly2 pt2 rd2 qt2 qp2)) H locs := HW
  refine W.eq (g2 := F0 m 96 ls []) rfl ?_
  exact g_vret CX HW rfl ⟨rfl, rfl⟩ dX1_copyFrom_96
end
section
/-! the village's state: the hour, how many runs, skiers, coins, rows of numbers, queues.
rows: 0 flakes, 1 pommels, 2 pulled, 3 tows of runs, 4 slopes, 5 depths, 6 skied, 7 skills, 8 purses, 9 waxes, 10 layers, 11 points, 12 rides -/
abbrev VS : Type := Nat × Nat × Nat × Int32 × (Nat → Nat → Int32) × (Nat → List Nat)
def vh (S : VS) : Nat := S.1
def vr (S : VS) : Nat := S.2.1
def vs (S : VS) : Nat := S.2.2.1
def vc (S : VS) : Int32 := S.2.2.2.1
def vA (S : VS) : Nat → Nat → Int32 := S.2.2.2.2.1
def vq (S : VS) : Nat → List Nat := S.2.2.2.2.2
def mkV (h r k : Nat) (c : Int32) (A : Nat → Nat → Int32) (q : Nat → List Nat) : VS := (h, r, k, c, A, q)
def setR (A : Nat → Nat → Int32) (j : Nat) (f : Nat → Int32) : Nat → Nat → Int32 := fun i => bif Nat.beq i j then f else A i
def setQ (q : Nat → List Nat) (t : Nat) (x : List Nat) : Nat → List Nat := fun i => if i = t then x else q i
/-- who skis down at the tow t -/
def skiS (t k : Nat) (S : VS) : VS := match bestR (vA S 3) (vA S 4) (vA S 5) (nI t) (vA S 7 k + 1) (vr S) with
  | none => S
  | some r => mkV (vh S) (vr S) (vs S) (vc S) (setR (setR (setR (setR (vA S) 10 (glL (vA S 10) k)) 11 (upd (vA S 11) k (heldI (vA S 11 k + (3 * vA S 4 r + vA S 7 k + glR (vA S 9) (vA S 10) k (vA S 0 (vh S % 6)))) 0 999))) 5 (upd (vA S 5) r (heldI (vA S 5 r + -1) 0 90))) 6 (upd (vA S 6) r (vA S 6 r + 1))) (vq S)
theorem skiS_none {t k : Nat} {S : VS} (h : bestR (vA S 3) (vA S 4) (vA S 5) (nI t) (vA S 7 k + 1) (vr S) = none) : skiS t k S = S := by simp only [skiS, h]
theorem skiS_some {t k r : Nat} {S : VS} (h : bestR (vA S 3) (vA S 4) (vA S 5) (nI t) (vA S 7 k + 1) (vr S) = some r) : skiS t k S = mkV (vh S) (vr S) (vs S) (vc S) (setR (setR (setR (setR (vA S) 10 (glL (vA S 10) k)) 11 (upd (vA S 11) k (heldI (vA S 11 k + (3 * vA S 4 r + vA S 7 k + glR (vA S 9) (vA S 10) k (vA S 0 (vh S % 6)))) 0 999))) 5 (upd (vA S 5) r (heldI (vA S 5 r + -1) 0 90))) 6 (upd (vA S 6) r (vA S 6 r + 1))) (vq S) := by simp only [skiS, h]
/-- pays, has ridden once more: before the way down -/
def payS (t k : Nat) (S : VS) : VS := mkV (vh S) (vr S) (vs S) (vc S + 1) (setR (setR (setR (vA S) 8 (upd (vA S 8) k (vA S 8 k - 1))) 12 (upd (vA S 12) k (vA S 12 k + 1))) 2 (upd (vA S 2) t (vA S 2 t + 1))) (vq S)
def quS (S : VS) (t : Nat) (x : List Nat) : VS := mkV (vh S) (vr S) (vs S) (vc S) (vA S) (setQ (vq S) t x)
/-- the turn of a tow: so many are looked at still, so many pommels are free -/
def pullN (t : Nat) : Nat → Nat → VS → VS
  | 0, _, S => S
  | _ + 1, 0, S => S
  | n + 1, p + 1, S => match vq S t with
    | [] => S
    | k :: rest => if vA S 8 k < 1 then pullN t n (p + 1) (quS S t rest) else
        pullN t n p (quS (skiS t k (payS t k (quS S t rest))) t (rest ++ [k]))
def natI (x : Int32) : Nat := x.toNatClampNeg
def pullS (t : Nat) (S : VS) : VS := pullN t (vq S t).length (natI (vA S 1 t)) S
def snowS (S : VS) : VS := mkV (vh S) (vr S) (vs S) (vc S) (setR (vA S) 5 (dpAll (vA S 5) (snowI (natI (vA S 0 (vh S % 6)))) (vr S))) (vq S)
def incS (S : VS) : VS := mkV (vh S + 1) (vr S) (vs S) (vc S) (vA S) (vq S)
def hourS (S : VS) : VS := incS (pullS 2 (pullS 1 (pullS 0 (snowS S))))
def hoursS : Nat → VS → VS
  | 0, S => S
  | n + 1, S => hourS (hoursS n S)
def sumP (S : VS) : Int32 := 0 + vA S 2 0 + vA S 2 1 + vA S 2 2
/-- the queues as the skiers' rows have them -/
def Rep (ns : Nat) (q : Nat → List Nat) (qt qp : Nat → Int32) : Prop :=
  (∀ k : Nat, k < ns → qt k = -1 ∨ ∃ t p : Nat, t < 3 ∧ (q t)[p]? = some k) ∧ (∀ t p k : Nat, t < 3 → (q t)[p]? = some k → k < ns ∧ qt k = nI t ∧ qp k = nI p) ∧ (∀ t : Nat, t < 3 → cntE qt (nI t) ns = (q t).length)
/-- what always holds of the rows -/
def Inv (S : VS) : Prop :=
  vr S ≤ 6 ∧ vs S ≤ 8 ∧ (∀ h : Nat, h < 6 → ∃ f : Nat, f < 4 ∧ vA S 0 h = nI f) ∧ (∀ t : Nat, t < 3 → ∃ p : Nat, 1 ≤ p ∧ p ≤ 4 ∧ vA S 1 t = nI p) ∧
  (∀ r : Nat, r < vr S → (∃ t : Nat, t < 3 ∧ vA S 3 r = nI t) ∧ (∃ z : Nat, 1 ≤ z ∧ z ≤ 9 ∧ vA S 4 r = nI z) ∧ ∃ d : Nat, d ≤ 90 ∧ vA S 5 r = nI d) ∧
  (∀ k : Nat, k < vs S → (∃ z : Nat, 1 ≤ z ∧ z ≤ 9 ∧ vA S 7 k = nI z) ∧ (∃ z : Nat, z ≤ 60 ∧ vA S 8 k = nI z) ∧ ∃ z : Nat, z ≤ 10 ∧ vA S 10 k = nI z)
theorem natI_nI {n : Nat} (h : n < 2 ^ 31) : natI (nI n) = n := nI_clamp h
theorem nI_inj {a b : Nat} (ha : a < 2 ^ 31) (hb : b < 2 ^ 31) (h : nI a = nI b) : a = b := (nI_eq ha hb).mp h
theorem nI_nm1 {n : Nat} (h : n < 2 ^ 31) : ¬ nI n = -1 := by
  intro h2
  have h3 := nI_toInt h
  rw [h2] at h3
  have h4 : (-1 : Int32).toInt = -1 := by decide
  omega
theorem nI_nm1' {n : Nat} (h : n < 2 ^ 31) : ¬ -1 = nI n := fun h2 => nI_nm1 h h2.symm
theorem upd_self (f : Nat → Int32) (k : Nat) : upd f k (f k) = f := by
  funext j; simp only [upd]; split
  · rename_i h; rw [h]
  · rfl
theorem upd_upd (f : Nat → Int32) (k : Nat) (x y : Int32) : upd (upd f k x) k y = upd f k y := by
  funext j; simp only [upd]; split <;> rfl
theorem add_sub_self (x y : Int32) : x + y - x = y := by
  rw [Int32.add_comm, Int32.add_sub_cancel]
theorem cntE_le (f : Nat → Int32) (t : Int32) : ∀ n, cntE f t n ≤ n
  | 0 => Nat.le_refl _
  | n + 1 => by
    have := cntE_le f t n
    simp only [cntE]; split <;> omega
theorem cntE_out {f : Nat → Int32} {t v : Int32} {k : Nat} : ∀ {n : Nat}, n ≤ k → cntE (upd f k v) t n = cntE f t n := by
  intro n
  induction n with
  | zero => intro _; rfl
  | succ n ih =>
    intro h
    simp only [cntE, ih (by omega), pk_un (show n ≠ k by omega)]
theorem cntE_upd {f : Nat → Int32} {t v : Int32} {k : Nat} : ∀ {n : Nat}, k < n → cntE (upd f k v) t n + (if f k = t then 1 else 0) = cntE f t n + (if v = t then 1 else 0) := by
  intro n
  induction n with
  | zero => intro h; omega
  | succ n ih =>
    intro h
    by_cases hk : k = n
    · subst hk
      simp only [cntE, cntE_out (Nat.le_refl _), pk_us]
      split <;> split <;> omega
    · have h1 := ih (by omega)
      simp only [cntE, pk_un (show n ≠ k by omega)]
      by_cases h2 : f n = t
      · rw [if_pos h2, if_pos h2]; omega
      · rw [if_neg h2, if_neg h2]; exact h1
theorem fnd_is {qt qp : Nat → Int32} {T P : Int32} : ∀ {n j : Nat}, fnd qt qp T P n = some j → j < n ∧ qt j = T ∧ qp j = P := by
  intro n
  induction n with
  | zero => intro j h; simp [fnd] at h
  | succ n ih =>
    intro j h
    simp only [fnd] at h
    split at h
    · rename_i i hi
      cases h
      obtain ⟨a, b⟩ := ih hi
      exact ⟨by omega, b⟩
    · split at h
      · rename_i hc; cases h; exact ⟨by omega, hc⟩
      · cases h
theorem fnd_no {qt qp : Nat → Int32} {T P : Int32} : ∀ {n : Nat}, fnd qt qp T P n = none → ∀ j, j < n → ¬ (qt j = T ∧ qp j = P) := by
  intro n
  induction n with
  | zero => intro _ j h; omega
  | succ n ih =>
    intro h j hj
    simp only [fnd] at h
    split at h
    · cases h
    · rename_i hn
      split at h
      · cases h
      · rename_i hc
        by_cases h2 : j = n
        · subst h2; exact hc
        · exact ih hn j (by omega)
theorem rep_len {ns : Nat} {q : Nat → List Nat} {qt qp : Nat → Int32} (h : Rep ns q qt qp) (hn : ns ≤ 8) {t : Nat} (ht : t < 3) : (q t).length ≤ 8 := by
  rw [← h.2.2 t ht]
  exact Nat.le_trans (cntE_le _ _ _) hn
theorem rep_plt {ns : Nat} {q : Nat → List Nat} {qt qp : Nat → Int32} (h : Rep ns q qt qp) (hn : ns ≤ 8) {t p k : Nat} (ht : t < 3) (hp : (q t)[p]? = some k) : p < 8 := by
  have h1 := (List.getElem?_eq_some_iff.mp hp).1
  have h2 := rep_len h hn ht
  omega
theorem rep_uniq {ns : Nat} {q : Nat → List Nat} {qt qp : Nat → Int32} (h : Rep ns q qt qp) (hn : ns ≤ 8) {t p j : Nat} (ht : t < 3) (hp : p < 2 ^ 31) (hj : j < ns) (h1 : qt j = nI t) (h2 : qp j = nI p) : (q t)[p]? = some j := by
  rcases h.1 j hj with h3 | ⟨t1, p1, h3, h4⟩
  · rw [h1] at h3; exact absurd h3 (nI_nm1 (by omega))
  · obtain ⟨-, h5, h6⟩ := h.2.1 t1 p1 j h3 h4
    have e1 : t = t1 := nI_inj (by omega) (by omega) (h1.symm.trans h5)
    have e2 : p = p1 := nI_inj hp (by have := rep_plt h hn h3 h4; omega) (h2.symm.trans h6)
    rw [e1, e2]; exact h4
theorem rep_at {ns : Nat} {q : Nat → List Nat} {qt qp : Nat → Int32} (h : Rep ns q qt qp) (hn : ns ≤ 8) {t p : Nat} (ht : t < 3) (hp : p < 2 ^ 31) : fnd qt qp (nI t) (nI p) ns = (q t)[p]? := by
  cases hf : fnd qt qp (nI t) (nI p) ns with
  | some j =>
    obtain ⟨h1, h2, h3⟩ := fnd_is hf
    exact (rep_uniq h hn ht hp h1 h2 h3).symm
  | none =>
    cases hq : (q t)[p]? with
    | none => rfl
    | some k => exact absurd (h.2.1 t p k ht hq).2 (fnd_no hf k (h.2.1 t p k ht hq).1)
theorem rep_at0 {ns : Nat} {q : Nat → List Nat} {qt qp : Nat → Int32} (h : Rep ns q qt qp) (hn : ns ≤ 8) {t k : Nat} {rest : List Nat} (ht : t < 3) (hq : q t = k :: rest) : oI (fnd qt qp (nI t) 0 ns) = nI k := by
  have h1 := rep_at h hn (p := 0) ht (by decide)
  rw [nI_0] at h1
  rw [h1, hq]; rfl
theorem tkT_k (qt : Nat → Int32) (k : Nat) : tkT qt k k = -1 := by
  unfold tkT; split
  · assumption
  · exact pk_us
theorem rep_take {ns : Nat} {q : Nat → List Nat} {qt qp : Nat → Int32} (h : Rep ns q qt qp) (hn : ns ≤ 8) {t p k : Nat} (ht : t < 3) (hp : (q t)[p]? = some k) : Rep ns (setQ q t ((q t).eraseIdx p)) (tkT qt k) (tkQ ns qt qp k) := by
  obtain ⟨hk, hkt, hkp⟩ := h.2.1 t p k ht hp
  have hp8 := rep_plt h hn ht hp
  have hm : ¬ qt k = -1 := by rw [hkt]; exact nI_nm1 (by omega)
  have hpl := (List.getElem?_eq_some_iff.mp hp).1
  rw [tkT, if_neg hm, tkQ, if_neg hm]
  have other : ∀ j, j ≠ k → upd qt k (-1) j = qt j := fun j hj => pk_un hj
  refine ⟨fun j hj => ?_, fun t1 p1 j ht1 hj => ?_, fun t1 ht1 => ?_⟩
  · by_cases hjk : j = k
    · left; rw [hjk]; exact pk_us
    · rw [other j hjk]
      rcases h.1 j hj with h1 | ⟨t1, p1, h1, h2⟩
      · exact Or.inl h1
      · right
        by_cases htt : t1 = t
        · subst htt
          by_cases hpp : p1 < p
          · exact ⟨t1, p1, h1, by simp only [setQ, if_true]; rw [List.getElem?_eraseIdx_of_lt hpp]; exact h2⟩
          · have hne : p1 ≠ p := by intro e; rw [e, hp] at h2; exact hjk (Option.some.inj h2).symm
            exact ⟨t1, p1 - 1, h1, by simp only [setQ, if_true]; rw [List.getElem?_eraseIdx_of_ge (by omega), show p1 - 1 + 1 = p1 by omega]; exact h2⟩
        · exact ⟨t1, p1, h1, by simp only [setQ, if_neg htt]; exact h2⟩
  · by_cases htt : t1 = t
    · subst htt
      simp only [setQ, if_true] at hj
      by_cases hpp : p1 < p
      · rw [List.getElem?_eraseIdx_of_lt hpp] at hj
        obtain ⟨h1, h2, h3⟩ := h.2.1 t1 p1 j ht1 hj
        have hjk : j ≠ k := by intro e; rw [e, hkp] at h3; exact absurd (nI_inj (by omega) (by omega) h3) (by omega)
        refine ⟨h1, by rw [other j hjk]; exact h2, ?_⟩
        simp only [tkP]
        rw [if_neg]
        · exact h3
        · rintro ⟨-, -, h4⟩
          rw [hkp, h3] at h4
          exact absurd ((nI_ltI (by omega) (by omega)).mp h4) (by omega)
      · rw [List.getElem?_eraseIdx_of_ge (by omega)] at hj
        obtain ⟨h1, h2, h3⟩ := h.2.1 t1 (p1 + 1) j ht1 hj
        have hp1 := rep_plt h hn ht1 hj
        have hjk : j ≠ k := by intro e; rw [e, hkp] at h3; exact absurd (nI_inj (by omega) (by omega) h3) (by omega)
        refine ⟨h1, by rw [other j hjk]; exact h2, ?_⟩
        simp only [tkP]
        rw [if_pos]
        · rw [h3, nI_pred]
        · refine ⟨h1, by rw [other j hjk, h2, hkt], ?_⟩
          rw [hkp, h3]
          exact (nI_ltI (by omega) (by omega)).mpr (by omega)
    · simp only [setQ, if_neg htt] at hj
      obtain ⟨h1, h2, h3⟩ := h.2.1 t1 p1 j ht1 hj
      have hjk : j ≠ k := by intro e; rw [e, hkt] at h2; exact htt (nI_inj (by omega) (by omega) h2).symm
      refine ⟨h1, by rw [other j hjk]; exact h2, ?_⟩
      simp only [tkP]
      rw [if_neg]
      · exact h3
      · rintro ⟨-, h4, -⟩
        rw [other j hjk, h2, hkt] at h4
        exact htt (nI_inj (by omega) (by omega) h4)
  · have h1 := cntE_upd (f := qt) (t := nI t1) (v := -1) hk
    have h2 := h.2.2 t1 ht1
    rw [if_neg (nI_nm1' (show t1 < 2 ^ 31 by omega))] at h1
    by_cases htt : t1 = t
    · subst htt
      rw [if_pos hkt] at h1
      simp only [setQ, if_true]
      rw [List.length_eraseIdx_of_lt hpl]
      omega
    · rw [if_neg (by rw [hkt]; intro e; exact htt (nI_inj (by omega) (by omega) e).symm)] at h1
      simp only [setQ, if_neg htt]
      omega
theorem rep_take0 {ns : Nat} {q : Nat → List Nat} {qt qp : Nat → Int32} (h : Rep ns q qt qp) (hn : ns ≤ 8) {t k : Nat} {rest : List Nat} (ht : t < 3) (hq : q t = k :: rest) : Rep ns (setQ q t rest) (tkT qt k) (tkQ ns qt qp k) := by
  have h1 := rep_take h hn (p := 0) (k := k) ht (by rw [hq]; rfl)
  rw [hq] at h1
  exact h1
theorem rep_put {ns : Nat} {q : Nat → List Nat} {qt qp : Nat → Int32} (h : Rep ns q qt qp) (hn : ns ≤ 8) {t k : Nat} (ht : t < 3) (hk : k < ns) (hm : qt k = -1) : Rep ns (setQ q t (q t ++ [k])) (upd qt k (nI t)) (upd qp k (nI (cntE qt (nI t) ns))) := by
  have hcnt := h.2.2 t ht
  refine ⟨fun j hj => ?_, fun t1 p1 j ht1 hj => ?_, fun t1 ht1 => ?_⟩
  · by_cases hjk : j = k
    · right
      exact ⟨t, (q t).length, ht, by simp [setQ, hjk]⟩
    · rw [pk_un hjk]
      rcases h.1 j hj with h1 | ⟨t1, p1, h1, h2⟩
      · exact Or.inl h1
      · right
        by_cases htt : t1 = t
        · subst htt
          exact ⟨t1, p1, h1, by simp only [setQ, if_true]; rw [List.getElem?_append_left (List.getElem?_eq_some_iff.mp h2).1]; exact h2⟩
        · exact ⟨t1, p1, h1, by simp only [setQ, if_neg htt]; exact h2⟩
  · by_cases htt : t1 = t
    · subst htt
      simp only [setQ, if_true] at hj
      by_cases hpl : p1 < (q t1).length
      · rw [List.getElem?_append_left hpl] at hj
        obtain ⟨h1, h2, h3⟩ := h.2.1 t1 p1 j ht1 hj
        have hjk : j ≠ k := by intro e; rw [e, hm] at h2; exact nI_nm1' (by omega) h2
        exact ⟨h1, by rw [pk_un hjk]; exact h2, by rw [pk_un hjk]; exact h3⟩
      · rw [List.getElem?_append_right (by omega)] at hj
        have hz := (List.getElem?_eq_some_iff.mp hj).1
        simp only [List.length_cons, List.length_nil] at hz
        have hp1 : p1 = (q t1).length := by omega
        rw [hp1, Nat.sub_self] at hj
        cases hj
        exact ⟨hk, pk_us, by rw [pk_us, hcnt, hp1]⟩
    · simp only [setQ, if_neg htt] at hj
      obtain ⟨h1, h2, h3⟩ := h.2.1 t1 p1 j ht1 hj
      have hjk : j ≠ k := by intro e; rw [e, hm] at h2; exact nI_nm1' (by omega) h2
      exact ⟨h1, by rw [pk_un hjk]; exact h2, by rw [pk_un hjk]; exact h3⟩
  · have h1 := cntE_upd (f := qt) (t := nI t1) (v := nI t) hk
    have h2 := h.2.2 t1 ht1
    rw [hm, if_neg (nI_nm1' (show t1 < 2 ^ 31 by omega))] at h1
    by_cases htt : t1 = t
    · subst htt
      rw [if_pos rfl] at h1
      simp only [setQ, if_true, List.length_append, List.length_cons, List.length_nil]
      omega
    · rw [if_neg (by intro e; exact htt (nI_inj (by omega) (by omega) e).symm)] at h1
      simp only [setQ, if_neg htt]
      omega
theorem rep_put3 {ns : Nat} {q : Nat → List Nat} {qt qp : Nat → Int32} {t k : Nat} {rest : List Nat} (h : Rep ns (setQ q t rest) (tkT qt k) qp) (hn : ns ≤ 8) (ht : t < 3) (hk : k < ns) : Rep ns (setQ (setQ q t rest) t (rest ++ [k])) (upd (tkT qt k) k (nI t)) (upd qp k (nI (cntE (tkT qt k) (nI t) ns))) := by
  have h1 := rep_put h hn ht hk (tkT_k qt k)
  have h2 : setQ q t rest t = rest := by simp [setQ]
  rw [h2] at h1
  exact h1
theorem pullN_p0 (t n : Nat) (T : VS) : pullN t n 0 T = T := by cases n <;> rfl
theorem pullN_no {t n p k : Nat} {rest : List Nat} {T : VS} (hq : vq T t = k :: rest) (hc : vA T 8 k < 1) : pullN t (n + 1) (p + 1) T = pullN t n (p + 1) (quS T t rest) := by
  simp only [pullN, hq, if_pos hc]
theorem pullN_yes {t n p k : Nat} {rest : List Nat} {T : VS} (hq : vq T t = k :: rest) (hc : ¬ vA T 8 k < 1) : pullN t (n + 1) (p + 1) T = pullN t n p (quS (skiS t k (payS t k (quS T t rest))) t (rest ++ [k])) := by
  simp only [pullN, hq, if_neg hc]
theorem quS_len (T : VS) (t : Nat) (x : List Nat) : (vq (quS T t x) t).length = x.length := by
  show (setQ (vq T) t x t).length = _
  simp [setQ]
theorem vh_skiS (t k : Nat) (S : VS) : vh (skiS t k S) = vh S := by unfold skiS; split <;> rfl
theorem vr_skiS (t k : Nat) (S : VS) : vr (skiS t k S) = vr S := by unfold skiS; split <;> rfl
theorem vs_skiS (t k : Nat) (S : VS) : vs (skiS t k S) = vs S := by unfold skiS; split <;> rfl
theorem vc_skiS (t k : Nat) (S : VS) : vc (skiS t k S) = vc S := by unfold skiS; split <;> rfl
theorem vq_skiS (t k : Nat) (S : VS) : vq (skiS t k S) = vq S := by unfold skiS; split <;> rfl
theorem vA_skiS {t k i : Nat} {S : VS} (h : (Nat.beq i 5 || (Nat.beq i 6 || (Nat.beq i 10 || Nat.beq i 11))) = false) : vA (skiS t k S) i = vA S i := by
  simp only [Bool.or_eq_false_iff] at h
  obtain ⟨h1, h2, h3, h4⟩ := h
  unfold skiS; split
  · rfl
  · show setR (setR (setR (setR (vA S) 10 _) 11 _) 5 _) 6 _ i = _
    simp only [setR, h1, h2, h3, h4, cond_false]
theorem heldI_90 (x : Int32) : ∃ d : Nat, d ≤ 90 ∧ heldI x 0 90 = nI d := by
  unfold heldI
  by_cases h1 : x < 90
  · rw [if_pos h1]
    by_cases h2 : 0 < x
    · rw [if_pos h2]
      exact nI_of2 (M := 90) (n := 90) (by decide) (Int32.not_lt.mpr (Int32.le_of_lt h2)) (Int32.le_of_lt h1)
    · rw [if_neg h2]; exact ⟨0, by omega, rfl⟩
  · rw [if_neg h1, if_pos (by decide)]; exact ⟨90, by omega, rfl⟩
theorem Inv_quS {S : VS} {t : Nat} {x : List Nat} (h : Inv S) : Inv (quS S t x) := h
theorem Inv_payS {S : VS} {t k : Nat} (hk : k < vs S) (hc : ¬ vA S 8 k < 1) (h : Inv S) : Inv (payS t k S) := by
  obtain ⟨h1, h2, h3, h4, h5, h6⟩ := h
  refine ⟨h1, h2, h3, h4, h5, fun j hj => ⟨(h6 j hj).1, ?_, (h6 j hj).2.2⟩⟩
  show ∃ z, z ≤ 60 ∧ upd (vA S 8) k (vA S 8 k - 1) j = nI z
  by_cases hjk : j = k
  · subst hjk
    obtain ⟨z, h7, h8⟩ := (h6 j hj).2.1
    rw [h8] at hc
    have h9 : 1 ≤ z := Nat.lt_of_not_le fun h => hc ((nI_ltI (a := z) (b := 1) (by omega) (by decide)).mpr (by omega))
    exact ⟨z - 1, by omega, by rw [pk_us, h8]; exact pk_sub h9⟩
  · rw [pk_un hjk]; exact (h6 j hj).2.1
theorem Inv_skiS {S : VS} {t k : Nat} (hk : k < vs S) (h : Inv S) : Inv (skiS t k S) := by
  cases hb : bestR (vA S 3) (vA S 4) (vA S 5) (nI t) (vA S 7 k + 1) (vr S) with
  | none => rw [skiS_none hb]; exact h
  | some r =>
    obtain ⟨h1, h2, h3, h4, h5, h6⟩ := h
    rw [skiS_some hb]
    refine ⟨h1, h2, h3, h4, fun j hj => ⟨(h5 j hj).1, (h5 j hj).2.1, ?_⟩, fun j hj => ⟨(h6 j hj).1, (h6 j hj).2.1, ?_⟩⟩
    · show ∃ d, d ≤ 90 ∧ upd (vA S 5) r (heldI (vA S 5 r + -1) 0 90) j = nI d
      by_cases hjr : j = r
      · subst hjr; rw [pk_us]; exact heldI_90 _
      · rw [pk_un hjr]; exact (h5 j hj).2.2
    · show ∃ z, z ≤ 10 ∧ glL (vA S 10) k j = nI z
      unfold glL
      by_cases hl : 0 < vA S 10 k
      · rw [if_pos hl]
        by_cases hjk : j = k
        · subst hjk
          obtain ⟨z, h7, h8⟩ := (h6 j hj).2.2
          rw [h8] at hl
          have h9 : 1 ≤ z := (nI_ltI (a := 0) (b := z) (by decide) (by omega)).mp hl
          exact ⟨z - 1, by omega, by rw [pk_us, h8]; exact pk_sub h9⟩
        · rw [pk_un hjk]; exact (h6 j hj).2.2
      · rw [if_neg hl]; exact (h6 j hj).2.2
theorem pu_step {T : VS} {f : Nat → Int32} {t r : Nat} (h : vA T 2 = upd f t (f t + nI r)) : upd (vA T 2) t (vA T 2 t + 1) = upd f t (f t + nI (r + 1)) := by
  rw [h, upd_upd, pk_us, Int32.add_assoc, nI_1]
theorem hd_X2_flakeOfHour : yX2_flakeOfHour.cls ≠ "java/lang/invoke/MethodHandle" ∧ yX2_flakeOfHour.cls ≠ "java/lang/invoke/VarHandle" ∧ (parseMethodDescriptor yX2_flakeOfHour.desc).map (fun d => d.parameters.length) = some 0 := by decide +kernel
theorem fl_X2_flakeOfHour_18 : Cond.fieldLink RX2 18 (TX2 2).1 (TX2 2).2.1 (TX2 2).2.2.1 ∈ wsX2_flakeOfHour := by decide +kernel
theorem in_X2_flakeOfHour_2 : ∀ x ∈ u_ws RX2 TX2 7, x ∈ wsX2_flakeOfHour := by decide +kernel
theorem fl_X2_flakeOfHour_9 : Cond.fieldLink RX2 9 (TX2 0).1 (TX2 0).2.1 (TX2 0).2.2.1 ∈ wsX2_flakeOfHour := by decide +kernel
set_option maxRecDepth 100000 in
set_option maxHeartbeats 4000000 in
theorem c_X2_flakeOfHour {l : Launch} {D : va_G} {cI cL : ClassId} {a : Nat → Nat} (o : Nat) (S : VS) (qt : Nat → Int32) (qp : Nat → Int32) (pu : Nat → Int32) (hh : vh S < 2 ^ 31) : Ct l yX2_flakeOfHour wsX2_flakeOfHour { frames := 1, cells := 0, slots := 0, locals := 22 } D (ty2 cI cL) [.ref (a o)] (wVo cI a o (vh S) (vc S) (vA S 0) (vA S 1) pu ++ (wR cI a (o + 4) (vr S) (vA S 3) (vA S 4) (vA S 5) (vA S 6) ++ (wS cI a (o + 9) (vs S) (vA S 7) (vA S 8) (vA S 9) (vA S 10) (vA S 11) (vA S 12) qt qp))) (fun v w' => v = some (.int (vA S 0 (vh S % 6))) ∧ w' = wVo cI a o (vh S) (vc S) (vA S 0) (vA S 1) pu ++ (wR cI a (o + 4) (vr S) (vA S 3) (vA S 4) (vA S 5) (vA S 6) ++ (wS cI a (o + 9) (vs S) (vA S 7) (vA S 8) (vA S 9) (vA S 10) (vA S 11) (vA S 12) qt qp))) 0 0 := by
  refine Ct.of (cc := cX2_flakeOfHour) (maxL := 1) (ret := (some .int)) (by decide) rfl (Nat.le_of_ble_eq_true rfl) ?_
  intro p e s m below meth c A ls CX hin HW hl
  obtain ⟨hx, hb, hml, hr, hown, hts, hK, hA, hlk⟩ := id CX
  have hl : lv_has ls 1 [(0, .ref (a o))] := hl
  refine lv_aload_n hx hb dX2_flakeOfHour_0 rfl (lv_at hl 0 rfl) ?_
  refine g_get CX HW in_X2_flakeOfHour_2 0 2 rfl rfl (Nat.le_of_ble_eq_true rfl) fl_X2_flakeOfHour_18 rfl dX2_flakeOfHour_1 ?_
  refine lv_aload_n hx hb dX2_flakeOfHour_4 rfl (lv_at hl 0 rfl) ?_
  refine g_get CX HW in_X2_flakeOfHour_2 0 0 rfl rfl (Nat.le_of_ble_eq_true rfl) fl_X2_flakeOfHour_9 rfl dX2_flakeOfHour_5 ?_
  refine lv_bipush (v := 6) hx hb dX2_flakeOfHour_8 (by decide) ?_
  refine g_callS CX HW hl.1 ([]) (wVo cI a o (vh S) (vc S) (vA S 0) (vA S 1) pu ++ (wR cI a (o + 4) (vr S) (vA S 3) (vA S 4) (vA S 5) (vA S 6) ++ (wS cI a (o + 9) (vs S) (vA S 7) (vA S 8) (vA S 9) (vA S 10) (vA S 11) (vA S 12) qt qp))) (c_J9_floorMod_7cf53 (vh S) 6 hh (by decide) (by decide)) rfl gX2_flakeOfHour_J9_floorMod_7cf53 rfl hd_J9_floorMod_7cf53 ⟨rfl, rfl, (Nat.le_of_ble_eq_true rfl), (Nat.le_of_ble_eq_true rfl)⟩ ⟨(Nat.zero_le _), (Nat.zero_le _)⟩ rfl rfl (Nat.le_of_ble_eq_true rfl) dX2_flakeOfHour_10 (fun v w1 H locs hp HW => ?_)
  obtain ⟨rfl, rfl⟩ := hp
  have HW : Hw D A s (wVo cI a o (vh S) (vc S) (vA S 0) (vA S 1) pu ++ (wR cI a (o + 4) (vr S) (vA S 3) (vA S 4) (vA S 5) (vA S 6) ++ (wS cI a (o + 9) (vs S) (vA S 7) (vA S 8) (vA S 9) (vA S 10) (vA S 11) (vA S 12) qt qp))) H locs := HW
  refine W.eq (g2 := F0 m 13 ls [.int (nI ((vh S) % 6)), .ref (a (o + 1))]) rfl ?_
  refine g_ald CX HW 1 (k := vh S % 6) rfl rfl rfl (by omega) (Nat.le_of_ble_eq_true rfl) dX2_flakeOfHour_13 ?_
  exact g_iret CX HW rfl ⟨rfl, rfl⟩ dX2_flakeOfHour_14

theorem hd_X2_chosenRun : yX2_chosenRun.cls ≠ "java/lang/invoke/MethodHandle" ∧ yX2_chosenRun.cls ≠ "java/lang/invoke/VarHandle" ∧ (parseMethodDescriptor yX2_chosenRun.desc).map (fun d => d.parameters.length) = some 2 := by decide +kernel
theorem fl_X2_chosenRun_31 : Cond.fieldLink RX2 31 (TX2 5).1 (TX2 5).2.1 (TX2 5).2.2.1 ∈ wsX2_chosenRun := by decide +kernel
theorem in_X2_chosenRun_2 : ∀ x ∈ u_ws RX2 TX2 7, x ∈ wsX2_chosenRun := by decide +kernel
theorem fl_X2_chosenRun_38 : Cond.fieldLink RX2 38 (TX2 6).1 (TX2 6).2.1 (TX2 6).2.2.1 ∈ wsX2_chosenRun := by decide +kernel
theorem fl_X2_chosenRun_59 : Cond.fieldLink RX2 59 (TX1 1).1 (TX1 1).2.1 (TX1 1).2.2.1 ∈ wsX2_chosenRun := by decide +kernel
theorem in_X2_chosenRun_1 : ∀ x ∈ u_ws RX1 TX1 9, x ∈ wsX2_chosenRun := by decide +kernel
set_option maxRecDepth 100000 in
set_option maxHeartbeats 4000000 in
theorem c_X2_chosenRun {l : Launch} {D : va_G} {cI cL : ClassId} {a : Nat → Nat} (o : Nat) (S : VS) (qt : Nat → Int32) (qp : Nat → Int32) (pu : Nat → Int32) (k : Nat) (t : Int32) (hk8 : k < 8) (hn : vr S ≤ 6) : Ct l yX2_chosenRun wsX2_chosenRun { frames := 2, cells := 0, slots := 0, locals := 47 } D (ty2 cI cL) [.ref (a o), .int (nI k), .int t] (wVo cI a o (vh S) (vc S) (vA S 0) (vA S 1) pu ++ (wR cI a (o + 4) (vr S) (vA S 3) (vA S 4) (vA S 5) (vA S 6) ++ (wS cI a (o + 9) (vs S) (vA S 7) (vA S 8) (vA S 9) (vA S 10) (vA S 11) (vA S 12) qt qp))) (fun v w' => v = some (.int (oI (bestR (vA S 3) (vA S 4) (vA S 5) t (vA S 7 k + 1) (vr S)))) ∧ w' = wVo cI a o (vh S) (vc S) (vA S 0) (vA S 1) pu ++ (wR cI a (o + 4) (vr S) (vA S 3) (vA S 4) (vA S 5) (vA S 6) ++ (wS cI a (o + 9) (vs S) (vA S 7) (vA S 8) (vA S 9) (vA S 10) (vA S 11) (vA S 12) qt qp))) 0 0 := by
  refine Ct.of (cc := cX2_chosenRun) (maxL := 3) (ret := (some .int)) (by decide) rfl (Nat.le_of_ble_eq_true rfl) ?_
  intro p e s m below meth c A ls CX hin HW hl
  obtain ⟨hx, hb, hml, hr, hown, hts, hK, hA, hlk⟩ := id CX
  have hl : lv_has ls 3 [(0, .ref (a o)), (1, .int (nI k)), (2, .int t)] := hl
  refine lv_aload_n hx hb dX2_chosenRun_0 rfl (lv_at hl 0 rfl) ?_
  refine g_get CX HW in_X2_chosenRun_2 0 5 rfl rfl (Nat.le_of_ble_eq_true rfl) fl_X2_chosenRun_31 rfl dX2_chosenRun_1 ?_
  refine lv_iload_n hx hb dX2_chosenRun_4 rfl (lv_at hl 2 rfl) ?_
  refine lv_aload_n hx hb dX2_chosenRun_5 rfl (lv_at hl 0 rfl) ?_
  refine g_get CX HW in_X2_chosenRun_2 0 6 rfl rfl (Nat.le_of_ble_eq_true rfl) fl_X2_chosenRun_38 rfl dX2_chosenRun_6 ?_
  refine g_get CX HW in_X2_chosenRun_1 9 1 rfl rfl (Nat.le_of_ble_eq_true rfl) fl_X2_chosenRun_59 rfl dX2_chosenRun_9 ?_
  refine lv_iload_n hx hb dX2_chosenRun_12 rfl (lv_at hl 1 rfl) ?_
  refine g_ald CX HW 10 (k := k) rfl rfl rfl (by omega) (Nat.le_of_ble_eq_true rfl) dX2_chosenRun_13 ?_
  refine lv_iconst (v := 1) hx hb dX2_chosenRun_14 (by decide) ?_
  refine lv_iadd hx hb dX2_chosenRun_15 ?_
  refine g_callV CX HW hl.1 (wVo cI a o (vh S) (vc S) (vA S 0) (vA S 1) pu) (wS cI a (o + 9) (vs S) (vA S 7) (vA S 8) (vA S 9) (vA S 10) (vA S 11) (vA S 12) qt qp) (c_X0_steepestOpen (o + 4) (vr S) (vA S 3) (vA S 4) (vA S 5) (vA S 6) t ((vA S 7 k) + (1 : Int32)) hn) rfl 0 rfl rfl gX2_chosenRun_X0_steepestOpen rfl ⟨rfl, hd_X0_steepestOpen⟩ ⟨rfl, rfl, (Nat.le_of_ble_eq_true rfl), (Nat.le_of_ble_eq_true rfl)⟩ ⟨(Nat.zero_le _), (Nat.zero_le _)⟩ rfl rfl (Nat.le_of_ble_eq_true rfl) dX2_chosenRun_16 (fun v w1 H locs hp HW => ?_)
  obtain ⟨rfl, rfl⟩ := hp
  have HW : Hw D A s (wVo cI a o (vh S) (vc S) (vA S 0) (vA S 1) pu ++ (wR cI a (o + 4) (vr S) (vA S 3) (vA S 4) (vA S 5) (vA S 6) ++ (wS cI a (o + 9) (vs S) (vA S 7) (vA S 8) (vA S 9) (vA S 10) (vA S 11) (vA S 12) qt qp))) H locs := HW
  refine W.eq (g2 := F0 m 19 ls [.int (oI (bestR (vA S 3) (vA S 4) (vA S 5) t ((vA S 7 k) + (1 : Int32)) (vr S)))]) rfl ?_
  exact g_iret CX HW rfl ⟨rfl, rfl⟩ dX2_chosenRun_19

theorem hd_X2_skiDown : yX2_skiDown.cls ≠ "java/lang/invoke/MethodHandle" ∧ yX2_skiDown.cls ≠ "java/lang/invoke/VarHandle" ∧ (parseMethodDescriptor yX2_skiDown.desc).map (fun d => d.parameters.length) = some 2 := by decide +kernel
theorem fl_X2_skiDown_31 : Cond.fieldLink RX2 31 (TX2 5).1 (TX2 5).2.1 (TX2 5).2.2.1 ∈ wsX2_skiDown := by decide +kernel
theorem in_X2_skiDown_2 : ∀ x ∈ u_ws RX2 TX2 7, x ∈ wsX2_skiDown := by decide +kernel
theorem fl_X2_skiDown_38 : Cond.fieldLink RX2 38 (TX2 6).1 (TX2 6).2.1 (TX2 6).2.2.1 ∈ wsX2_skiDown := by decide +kernel
theorem fl_X2_skiDown_112 : Cond.fieldLink RX2 112 (TX0 2).1 (TX0 2).2.1 (TX0 2).2.2.1 ∈ wsX2_skiDown := by decide +kernel
theorem in_X2_skiDown_0 : ∀ x ∈ u_ws RX0 TX0 5, x ∈ wsX2_skiDown := by decide +kernel
theorem fl_X2_skiDown_59 : Cond.fieldLink RX2 59 (TX1 1).1 (TX1 1).2.1 (TX1 1).2.2.1 ∈ wsX2_skiDown := by decide +kernel
theorem in_X2_skiDown_1 : ∀ x ∈ u_ws RX1 TX1 9, x ∈ wsX2_skiDown := by decide +kernel
theorem fl_X2_skiDown_121 : Cond.fieldLink RX2 121 (TX0 4).1 (TX0 4).2.1 (TX0 4).2.2.1 ∈ wsX2_skiDown := by decide +kernel
set_option maxRecDepth 100000 in
set_option maxHeartbeats 4000000 in
theorem c_X2_skiDown {l : Launch} {D : va_G} {cI cL : ClassId} {a : Nat → Nat} (o : Nat) (S : VS) (qt : Nat → Int32) (qp : Nat → Int32) (pu : Nat → Int32) (k : Nat) (t : Nat) (hk8 : k < 8) (hn : vr S ≤ 6) (hh : vh S < 2 ^ 31) : Ct l yX2_skiDown wsX2_skiDown { frames := 3, cells := 0, slots := 0, locals := 69 } D (ty2 cI cL) [.ref (a o), .int (nI k), .int (nI t)] (wVo cI a o (vh S) (vc S) (vA S 0) (vA S 1) pu ++ (wR cI a (o + 4) (vr S) (vA S 3) (vA S 4) (vA S 5) (vA S 6) ++ (wS cI a (o + 9) (vs S) (vA S 7) (vA S 8) (vA S 9) (vA S 10) (vA S 11) (vA S 12) qt qp))) (fun v w' => v = none ∧ w' = wVo cI a o (vh (skiS t k S)) (vc (skiS t k S)) (vA (skiS t k S) 0) (vA (skiS t k S) 1) pu ++ (wR cI a (o + 4) (vr (skiS t k S)) (vA (skiS t k S) 3) (vA (skiS t k S) 4) (vA (skiS t k S) 5) (vA (skiS t k S) 6) ++ (wS cI a (o + 9) (vs (skiS t k S)) (vA (skiS t k S) 7) (vA (skiS t k S) 8) (vA (skiS t k S) 9) (vA (skiS t k S) 10) (vA (skiS t k S) 11) (vA (skiS t k S) 12) qt qp))) 0 0 := by
  refine Ct.of (cc := cX2_skiDown) (maxL := 5) (ret := none) (by decide) rfl (Nat.le_of_ble_eq_true rfl) ?_
  intro p e s m below meth c A ls CX hin HW hl
  obtain ⟨hx, hb, hml, hr, hown, hts, hK, hA, hlk⟩ := id CX
  have hl : lv_has ls 5 [(0, .ref (a o)), (1, .int (nI k)), (2, .int (nI t))] := hl
  refine lv_aload_n hx hb dX2_skiDown_0 rfl (lv_at hl 0 rfl) ?_
  refine lv_iload_n hx hb dX2_skiDown_1 rfl (lv_at hl 1 rfl) ?_
  refine lv_iload_n hx hb dX2_skiDown_2 rfl (lv_at hl 2 rfl) ?_
  refine g_callV CX HW hl.1 ([]) ([]) (c_X2_chosenRun o S qt qp pu k (nI t) hk8 hn) rfl 0 rfl rfl gX2_skiDown_X2_chosenRun rfl ⟨rfl, hd_X2_chosenRun⟩ ⟨rfl, rfl, (Nat.le_of_ble_eq_true rfl), (Nat.le_of_ble_eq_true rfl)⟩ ⟨(Nat.zero_le _), (Nat.zero_le _)⟩ rfl rfl (Nat.le_of_ble_eq_true rfl) dX2_skiDown_3 (fun v w1 H locs hp HW => ?_)
  obtain ⟨rfl, rfl⟩ := hp
  have HW : Hw D A s (wVo cI a o (vh S) (vc S) (vA S 0) (vA S 1) pu ++ (wR cI a (o + 4) (vr S) (vA S 3) (vA S 4) (vA S 5) (vA S 6) ++ (wS cI a (o + 9) (vs S) (vA S 7) (vA S 8) (vA S 9) (vA S 10) (vA S 11) (vA S 12) qt qp))) H locs := HW
  refine W.eq (g2 := F0 m 6 ls [.int (oI (bestR (vA S 3) (vA S 4) (vA S 5) (nI t) (vA S 7 k + 1) (vr S)))]) rfl ?_
  refine lv_istore_n (lv' := [(3, .int (oI (bestR (vA S 3) (vA S 4) (vA S 5) (nI t) (vA S 7 k + 1) (vr S)))), (0, .ref (a o)), (1, .int (nI k)), (2, .int (nI t))]) hx hb dX2_skiDown_6 rfl hl (Nat.le_of_ble_eq_true rfl) rfl (fun ls hl => ?_)
  generalize hb9 : (bestR (vA S 3) (vA S 4) (vA S 5) (nI t) (vA S 7 k + 1) (vr S)) = b9 at hl
  rcases b9 with _ | r
  · have hl : lv_has ls 5 [(3, .int (-1 : Int32)), (0, .ref (a o)), (1, .int (nI k)), (2, .int (nI t))] := hl
    refine lv_aload_n hx hb dX2_skiDown_7 rfl (lv_at hl 1 rfl) ?_
    refine g_get CX HW in_X2_skiDown_2 0 5 rfl rfl (Nat.le_of_ble_eq_true rfl) fl_X2_skiDown_31 rfl dX2_skiDown_8 ?_
    refine lv_iload_n hx hb dX2_skiDown_11 rfl (lv_at hl 0 rfl) ?_
    refine g_callV CX HW hl.1 (wVo cI a o (vh S) (vc S) (vA S 0) (vA S 1) pu) (wS cI a (o + 9) (vs S) (vA S 7) (vA S 8) (vA S 9) (vA S 10) (vA S 11) (vA S 12) qt qp) (c_X0_has (o + 4) (vr S) (vA S 3) (vA S 4) (vA S 5) (vA S 6) (-1 : Int32)) rfl 0 rfl rfl gX2_skiDown_X0_has rfl ⟨rfl, hd_X0_has⟩ ⟨rfl, rfl, (Nat.le_of_ble_eq_true rfl), (Nat.le_of_ble_eq_true rfl)⟩ ⟨(Nat.zero_le _), (Nat.zero_le _)⟩ rfl rfl (Nat.le_of_ble_eq_true rfl) dX2_skiDown_12 (fun v w1 H locs hp HW => ?_)
    obtain ⟨rfl, rfl⟩ := hp
    have HW : Hw D A s (wVo cI a o (vh S) (vc S) (vA S 0) (vA S 1) pu ++ (wR cI a (o + 4) (vr S) (vA S 3) (vA S 4) (vA S 5) (vA S 6) ++ (wS cI a (o + 9) (vs S) (vA S 7) (vA S 8) (vA S 9) (vA S 10) (vA S 11) (vA S 12) qt qp))) H locs := HW
    refine W.eq (g2 := F0 m 15 ls [.int (bI (0 ≤ (-1 : Int32) ∧ (-1 : Int32) < nI (vr S)))]) rfl ?_
    refine g_ifne_b (tgt := 19) hx hb dX2_skiDown_15 (by decide) (fun c15 => ?_) (fun c15 => ?_)
    · exact absurd c15.1 (by decide)
    · exact g_vret CX HW rfl ⟨rfl, by rw [skiS_none hb9]⟩ dX2_skiDown_18
  · have hl : lv_has ls 5 [(3, .int (nI r)), (0, .ref (a o)), (1, .int (nI k)), (2, .int (nI t))] := hl
    have hr9 : r < vr S := bestR_lt hb9
    refine lv_aload_n hx hb dX2_skiDown_7 rfl (lv_at hl 1 rfl) ?_
    refine g_get CX HW in_X2_skiDown_2 0 5 rfl rfl (Nat.le_of_ble_eq_true rfl) fl_X2_skiDown_31 rfl dX2_skiDown_8 ?_
    refine lv_iload_n hx hb dX2_skiDown_11 rfl (lv_at hl 0 rfl) ?_
    refine g_callV CX HW hl.1 (wVo cI a o (vh S) (vc S) (vA S 0) (vA S 1) pu) (wS cI a (o + 9) (vs S) (vA S 7) (vA S 8) (vA S 9) (vA S 10) (vA S 11) (vA S 12) qt qp) (c_X0_has (o + 4) (vr S) (vA S 3) (vA S 4) (vA S 5) (vA S 6) (nI r)) rfl 0 rfl rfl gX2_skiDown_X0_has rfl ⟨rfl, hd_X0_has⟩ ⟨rfl, rfl, (Nat.le_of_ble_eq_true rfl), (Nat.le_of_ble_eq_true rfl)⟩ ⟨(Nat.zero_le _), (Nat.zero_le _)⟩ rfl rfl (Nat.le_of_ble_eq_true rfl) dX2_skiDown_12 (fun v w1 H locs hp HW => ?_)
    obtain ⟨rfl, rfl⟩ := hp
    have HW : Hw D A s (wVo cI a o (vh S) (vc S) (vA S 0) (vA S 1) pu ++ (wR cI a (o + 4) (vr S) (vA S 3) (vA S 4) (vA S 5) (vA S 6) ++ (wS cI a (o + 9) (vs S) (vA S 7) (vA S 8) (vA S 9) (vA S 10) (vA S 11) (vA S 12) qt qp))) H locs := HW
    refine W.eq (g2 := F0 m 15 ls [.int (bI (0 ≤ (nI r) ∧ (nI r) < nI (vr S)))]) rfl ?_
    refine g_ifne_b (tgt := 19) hx hb dX2_skiDown_15 (by decide) (fun c15 => ?_) (fun c15 => ?_)
    · refine lv_aload_n hx hb dX2_skiDown_19 rfl (lv_at hl 1 rfl) ?_
      refine g_get CX HW in_X2_skiDown_2 0 6 rfl rfl (Nat.le_of_ble_eq_true rfl) fl_X2_skiDown_38 rfl dX2_skiDown_20 ?_
      refine lv_iload_n hx hb dX2_skiDown_23 rfl (lv_at hl 2 rfl) ?_
      refine lv_aload_n hx hb dX2_skiDown_24 rfl (lv_at hl 1 rfl) ?_
      refine g_callV CX HW hl.1 ([]) ([]) (c_X2_flakeOfHour o S qt qp pu hh) rfl 0 rfl rfl gX2_skiDown_X2_flakeOfHour rfl ⟨rfl, hd_X2_flakeOfHour⟩ ⟨rfl, rfl, (Nat.le_of_ble_eq_true rfl), (Nat.le_of_ble_eq_true rfl)⟩ ⟨(Nat.zero_le _), (Nat.zero_le _)⟩ rfl rfl (Nat.le_of_ble_eq_true rfl) dX2_skiDown_25 (fun v w1 H locs hp HW => ?_)
      obtain ⟨rfl, rfl⟩ := hp
      have HW : Hw D A s (wVo cI a o (vh S) (vc S) (vA S 0) (vA S 1) pu ++ (wR cI a (o + 4) (vr S) (vA S 3) (vA S 4) (vA S 5) (vA S 6) ++ (wS cI a (o + 9) (vs S) (vA S 7) (vA S 8) (vA S 9) (vA S 10) (vA S 11) (vA S 12) qt qp))) H locs := HW
      refine W.eq (g2 := F0 m 28 ls [.int (vA S 0 (vh S % 6)), .int (nI k), .ref (a (o + 9))]) rfl ?_
      refine g_callV CX HW hl.1 (wVo cI a o (vh S) (vc S) (vA S 0) (vA S 1) pu ++ (wR cI a (o + 4) (vr S) (vA S 3) (vA S 4) (vA S 5) (vA S 6))) ([]) (c_X1_glide (o + 9) (vs S) (vA S 7) (vA S 8) (vA S 9) (vA S 10) (vA S 11) (vA S 12) qt qp k (vA S 0 (vh S % 6)) (by omega)) rfl 0 rfl rfl gX2_skiDown_X1_glide rfl ⟨rfl, hd_X1_glide⟩ ⟨rfl, rfl, (Nat.le_of_ble_eq_true rfl), (Nat.le_of_ble_eq_true rfl)⟩ ⟨(Nat.zero_le _), (Nat.zero_le _)⟩ rfl rfl (Nat.le_of_ble_eq_true rfl) dX2_skiDown_28 (fun v w1 H locs hp HW => ?_)
      obtain ⟨rfl, rfl⟩ := hp
      have HW : Hw D A s (wVo cI a o (vh S) (vc S) (vA S 0) (vA S 1) pu ++ (wR cI a (o + 4) (vr S) (vA S 3) (vA S 4) (vA S 5) (vA S 6) ++ (wS cI a (o + 9) (vs S) (vA S 7) (vA S 8) (vA S 9) (glL (vA S 10) k) (vA S 11) (vA S 12) qt qp))) H locs := HW
      refine W.eq (g2 := F0 m 31 ls [.int (glR (vA S 9) (vA S 10) k (vA S 0 (vh S % 6)))]) rfl ?_
      refine lv_istore (lv' := [(4, .int (glR (vA S 9) (vA S 10) k (vA S 0 (vh S % 6)))), (3, .int (nI r)), (0, .ref (a o)), (1, .int (nI k)), (2, .int (nI t))]) hx hb dX2_skiDown_31 hl (Nat.le_of_ble_eq_true rfl) rfl (fun ls hl => ?_)
      refine lv_aload_n hx hb dX2_skiDown_33 rfl (lv_at hl 2 rfl) ?_
      refine g_get CX HW in_X2_skiDown_2 0 6 rfl rfl (Nat.le_of_ble_eq_true rfl) fl_X2_skiDown_38 rfl dX2_skiDown_34 ?_
      refine lv_iload_n hx hb dX2_skiDown_37 rfl (lv_at hl 3 rfl) ?_
      refine lv_iconst (v := 3) hx hb dX2_skiDown_38 (by decide) ?_
      refine lv_aload_n hx hb dX2_skiDown_39 rfl (lv_at hl 2 rfl) ?_
      refine g_get CX HW in_X2_skiDown_2 0 5 rfl rfl (Nat.le_of_ble_eq_true rfl) fl_X2_skiDown_31 rfl dX2_skiDown_40 ?_
      refine g_get CX HW in_X2_skiDown_0 4 2 rfl rfl (Nat.le_of_ble_eq_true rfl) fl_X2_skiDown_112 rfl dX2_skiDown_43 ?_
      refine lv_iload_n hx hb dX2_skiDown_46 rfl (lv_at hl 1 rfl) ?_
      refine g_ald CX HW 6 (k := r) rfl rfl rfl (by omega) (Nat.le_of_ble_eq_true rfl) dX2_skiDown_47 ?_
      refine lv_imul hx hb dX2_skiDown_48 ?_
      refine lv_aload_n hx hb dX2_skiDown_49 rfl (lv_at hl 2 rfl) ?_
      refine g_get CX HW in_X2_skiDown_2 0 6 rfl rfl (Nat.le_of_ble_eq_true rfl) fl_X2_skiDown_38 rfl dX2_skiDown_50 ?_
      refine g_get CX HW in_X2_skiDown_1 9 1 rfl rfl (Nat.le_of_ble_eq_true rfl) fl_X2_skiDown_59 rfl dX2_skiDown_53 ?_
      refine lv_iload_n hx hb dX2_skiDown_56 rfl (lv_at hl 3 rfl) ?_
      refine g_ald CX HW 10 (k := k) rfl rfl rfl (by omega) (Nat.le_of_ble_eq_true rfl) dX2_skiDown_57 ?_
      refine lv_iadd hx hb dX2_skiDown_58 ?_
      refine lv_iload hx hb dX2_skiDown_59 (lv_at hl 0 rfl) ?_
      refine lv_iadd hx hb dX2_skiDown_61 ?_
      refine g_callV CX HW hl.1 (wVo cI a o (vh S) (vc S) (vA S 0) (vA S 1) pu ++ (wR cI a (o + 4) (vr S) (vA S 3) (vA S 4) (vA S 5) (vA S 6))) ([]) (c_X1_addPoints (o + 9) (vs S) (vA S 7) (vA S 8) (vA S 9) (glL (vA S 10) k) (vA S 11) (vA S 12) qt qp k ((((3 : Int32) * ((vA S 4) r)) + ((vA S 7) k)) + (glR (vA S 9) (vA S 10) k (vA S 0 (vh S % 6)))) (by omega)) rfl 0 rfl rfl gX2_skiDown_X1_addPoints rfl ⟨rfl, hd_X1_addPoints⟩ ⟨rfl, rfl, (Nat.le_of_ble_eq_true rfl), (Nat.le_of_ble_eq_true rfl)⟩ ⟨(Nat.zero_le _), (Nat.zero_le _)⟩ rfl rfl (Nat.le_of_ble_eq_true rfl) dX2_skiDown_62 (fun v w1 H locs hp HW => ?_)
      obtain ⟨rfl, rfl⟩ := hp
      have HW : Hw D A s (wVo cI a o (vh S) (vc S) (vA S 0) (vA S 1) pu ++ (wR cI a (o + 4) (vr S) (vA S 3) (vA S 4) (vA S 5) (vA S 6) ++ (wS cI a (o + 9) (vs S) (vA S 7) (vA S 8) (vA S 9) (glL (vA S 10) k) (upd (vA S 11) k (heldI ((vA S 11) k + ((((3 : Int32) * ((vA S 4) r)) + ((vA S 7) k)) + (glR (vA S 9) (vA S 10) k (vA S 0 (vh S % 6))))) 0 999)) (vA S 12) qt qp))) H locs := HW
      refine W.eq (g2 := F0 m 65 ls []) rfl ?_
      refine lv_aload_n hx hb dX2_skiDown_65 rfl (lv_at hl 2 rfl) ?_
      refine g_get CX HW in_X2_skiDown_2 0 5 rfl rfl (Nat.le_of_ble_eq_true rfl) fl_X2_skiDown_31 rfl dX2_skiDown_66 ?_
      refine lv_iload_n hx hb dX2_skiDown_69 rfl (lv_at hl 1 rfl) ?_
      refine lv_iconst (v := (-1)) hx hb dX2_skiDown_70 (by decide) ?_
      refine g_callV CX HW hl.1 (wVo cI a o (vh S) (vc S) (vA S 0) (vA S 1) pu) (wS cI a (o + 9) (vs S) (vA S 7) (vA S 8) (vA S 9) (glL (vA S 10) k) (upd (vA S 11) k (heldI ((vA S 11) k + ((((3 : Int32) * ((vA S 4) r)) + ((vA S 7) k)) + (glR (vA S 9) (vA S 10) k (vA S 0 (vh S % 6))))) 0 999)) (vA S 12) qt qp) (c_X0_deepen (o + 4) (vr S) (vA S 3) (vA S 4) (vA S 5) (vA S 6) r (-1 : Int32) (by omega)) rfl 0 rfl rfl gX2_skiDown_X0_deepen rfl ⟨rfl, hd_X0_deepen⟩ ⟨rfl, rfl, (Nat.le_of_ble_eq_true rfl), (Nat.le_of_ble_eq_true rfl)⟩ ⟨(Nat.zero_le _), (Nat.zero_le _)⟩ rfl rfl (Nat.le_of_ble_eq_true rfl) dX2_skiDown_71 (fun v w1 H locs hp HW => ?_)
      obtain ⟨rfl, rfl⟩ := hp
      have HW : Hw D A s (wVo cI a o (vh S) (vc S) (vA S 0) (vA S 1) pu ++ (wR cI a (o + 4) (vr S) (vA S 3) (vA S 4) (upd (vA S 5) r (heldI ((vA S 5) r + (-1 : Int32)) 0 90)) (vA S 6) ++ (wS cI a (o + 9) (vs S) (vA S 7) (vA S 8) (vA S 9) (glL (vA S 10) k) (upd (vA S 11) k (heldI ((vA S 11) k + ((((3 : Int32) * ((vA S 4) r)) + ((vA S 7) k)) + (glR (vA S 9) (vA S 10) k (vA S 0 (vh S % 6))))) 0 999)) (vA S 12) qt qp))) H locs := HW
      refine W.eq (g2 := F0 m 74 ls []) rfl ?_
      refine lv_aload_n hx hb dX2_skiDown_74 rfl (lv_at hl 2 rfl) ?_
      refine g_get CX HW in_X2_skiDown_2 0 5 rfl rfl (Nat.le_of_ble_eq_true rfl) fl_X2_skiDown_31 rfl dX2_skiDown_75 ?_
      refine g_get CX HW in_X2_skiDown_0 4 4 rfl rfl (Nat.le_of_ble_eq_true rfl) fl_X2_skiDown_121 rfl dX2_skiDown_78 ?_
      refine lv_iload_n hx hb dX2_skiDown_81 rfl (lv_at hl 1 rfl) ?_
      refine lv_dup2_11 hx hb dX2_skiDown_82 rfl rfl ?_
      refine g_ald CX HW 8 (k := r) rfl rfl rfl (by omega) (Nat.le_of_ble_eq_true rfl) dX2_skiDown_83 ?_
      refine lv_iconst (v := 1) hx hb dX2_skiDown_84 (by decide) ?_
      refine lv_iadd hx hb dX2_skiDown_85 ?_
      refine g_ast CX HW 8 (k := r) rfl rfl rfl (by omega) (Nat.le_of_ble_eq_true rfl) dX2_skiDown_86 (fun H locs HW => ?_)
      have HW : Hw D A s (wVo cI a o (vh S) (vc S) (vA S 0) (vA S 1) pu ++ (wR cI a (o + 4) (vr S) (vA S 3) (vA S 4) (upd (vA S 5) r (heldI ((vA S 5) r + (-1 : Int32)) 0 90)) (upd (vA S 6) r (((vA S 6) r) + (1 : Int32))) ++ (wS cI a (o + 9) (vs S) (vA S 7) (vA S 8) (vA S 9) (glL (vA S 10) k) (upd (vA S 11) k (heldI ((vA S 11) k + ((((3 : Int32) * ((vA S 4) r)) + ((vA S 7) k)) + (glR (vA S 9) (vA S 10) k (vA S 0 (vh S % 6))))) 0 999)) (vA S 12) qt qp))) H locs := HW
      exact g_vret CX HW rfl ⟨rfl, by rw [skiS_some hb9]; rfl⟩ dX2_skiDown_87
    · exact absurd ⟨nI_pos' (by omega), (nI_ltI (by omega) (by omega)).mpr hr9⟩ c15

theorem hd_X2_pullAt : yX2_pullAt.cls ≠ "java/lang/invoke/MethodHandle" ∧ yX2_pullAt.cls ≠ "java/lang/invoke/VarHandle" ∧ (parseMethodDescriptor yX2_pullAt.desc).map (fun d => d.parameters.length) = some 1 := by decide +kernel
theorem fl_X2_pullAt_25 : Cond.fieldLink RX2 25 (TX2 4).1 (TX2 4).2.1 (TX2 4).2.2.1 ∈ wsX2_pullAt := by decide +kernel
theorem in_X2_pullAt_2 : ∀ x ∈ u_ws RX2 TX2 7, x ∈ wsX2_pullAt := by decide +kernel
theorem fl_X2_pullAt_22 : Cond.fieldLink RX2 22 (TX2 3).1 (TX2 3).2.1 (TX2 3).2.2.1 ∈ wsX2_pullAt := by decide +kernel
theorem fl_X2_pullAt_38 : Cond.fieldLink RX2 38 (TX2 6).1 (TX2 6).2.1 (TX2 6).2.2.1 ∈ wsX2_pullAt := by decide +kernel
theorem fl_X2_pullAt_93 : Cond.fieldLink RX2 93 (TX1 2).1 (TX1 2).2.1 (TX1 2).2.2.1 ∈ wsX2_pullAt := by decide +kernel
theorem in_X2_pullAt_1 : ∀ x ∈ u_ws RX1 TX1 9, x ∈ wsX2_pullAt := by decide +kernel
theorem fl_X2_pullAt_15 : Cond.fieldLink RX2 15 (TX2 1).1 (TX2 1).2.1 (TX2 1).2.2.1 ∈ wsX2_pullAt := by decide +kernel
theorem fl_X2_pullAt_95 : Cond.fieldLink RX2 95 (TX1 6).1 (TX1 6).2.1 (TX1 6).2.2.1 ∈ wsX2_pullAt := by decide +kernel
set_option maxRecDepth 100000 in
set_option maxHeartbeats 4000000 in
theorem c_X2_pullAt {l : Launch} {D : va_G} {cI cL : ClassId} {a : Nat → Nat} (o : Nat) (S : VS) (qt : Nat → Int32) (qp : Nat → Int32) (t : Nat) (hI : Inv S) (hR : Rep (vs S) (vq S) qt qp) (ht : t < 3) (hh : vh S < 2 ^ 31) : Ct l yX2_pullAt wsX2_pullAt { frames := 4, cells := 0, slots := 0, locals := 93 } D (ty2 cI cL) [.ref (a o), .int (nI t)] (wVo cI a o (vh S) (vc S) (vA S 0) (vA S 1) (vA S 2) ++ (wR cI a (o + 4) (vr S) (vA S 3) (vA S 4) (vA S 5) (vA S 6) ++ (wS cI a (o + 9) (vs S) (vA S 7) (vA S 8) (vA S 9) (vA S 10) (vA S 11) (vA S 12) qt qp))) (fun v w' => ∃ (qt' : Nat → Int32) (qp' : Nat → Int32), (Rep (vs (pullS t S)) (vq (pullS t S)) qt' qp') ∧ v = some (.int (vA (pullS t S) 2 t - vA S 2 t)) ∧ w' = wVo cI a o (vh (pullS t S)) (vc (pullS t S)) (vA (pullS t S) 0) (vA (pullS t S) 1) (vA (pullS t S) 2) ++ (wR cI a (o + 4) (vr (pullS t S)) (vA (pullS t S) 3) (vA (pullS t S) 4) (vA (pullS t S) 5) (vA (pullS t S) 6) ++ (wS cI a (o + 9) (vs (pullS t S)) (vA (pullS t S) 7) (vA (pullS t S) 8) (vA (pullS t S) 9) (vA (pullS t S) 10) (vA (pullS t S) 11) (vA (pullS t S) 12) qt' qp'))) 0 0 := by
  refine Ct.of (cc := cX2_pullAt) (maxL := 6) (ret := (some .int)) (by decide) rfl (Nat.le_of_ble_eq_true rfl) ?_
  intro p e s m below meth c A ls CX hin HW hl
  obtain ⟨hx, hb, hml, hr, hown, hts, hK, hA, hlk⟩ := id CX
  have hl : lv_has ls 6 [(0, .ref (a o)), (1, .int (nI t))] := hl
  obtain ⟨P, hP1, hP4, hP⟩ := hI.2.2.2.1 t ht
  obtain ⟨N, hN⟩ : ∃ N : Nat, N = (vq S t).length := ⟨_, rfl⟩
  have hN8 : N ≤ 8 := by rw [hN]; exact rep_len hR hI.2.1 ht
  have j143 : ∀ (T : VS) (qt : Nat → Int32) (qp : Nat → Int32) (r : Nat), (T = pullS t S) → (Rep (vs T) (vq T) qt qp) → (vA T 2 = upd (vA S 2) t (vA S 2 t + nI r)) → ∀ (H : Heap) (locs : List Loc) (ls : Array Slot), Hw D A s (wVo cI a o (vh T) (vc T) (vA T 0) (vA T 1) (vA S 2) ++ (wR cI a (o + 4) (vr T) (vA T 3) (vA T 4) (vA T 5) (vA T 6) ++ (wS cI a (o + 9) (vs T) (vA T 7) (vA T 8) (vA T 9) (vA T 10) (vA T 11) (vA T 12) qt qp))) H locs → lv_has ls 6 [(2, .int (nI r)), (1, .int (nI t)), (0, .ref (a o))] → W p l e ({ frames := 4, cells := 0, slots := 0, locals := 93 } : Room) s m ([.ref (a o), .int (nI t)] : List Value).toArray below meth c H locs 0 0 (MQ below (cQ D A (fun v w' => ∃ (qt' : Nat → Int32) (qp' : Nat → Int32), (Rep (vs (pullS t S)) (vq (pullS t S)) qt' qp') ∧ v = some (.int (vA (pullS t S) 2 t - vA S 2 t)) ∧ w' = wVo cI a o (vh (pullS t S)) (vc (pullS t S)) (vA (pullS t S) 0) (vA (pullS t S) 1) (vA (pullS t S) 2) ++ (wR cI a (o + 4) (vr (pullS t S)) (vA (pullS t S) 3) (vA (pullS t S) 4) (vA (pullS t S) 5) (vA (pullS t S) 6) ++ (wS cI a (o + 9) (vs (pullS t S)) (vA (pullS t S) 7) (vA (pullS t S) 8) (vA (pullS t S) 9) (vA (pullS t S) 10) (vA (pullS t S) 11) (vA (pullS t S) 12) qt' qp')))) ([.ref (a o), .int (nI t)] : List Value).toArray s 0 0 A) (F0 m 143 ls []) := by
    intro T qt qp r hT hRep hPu H locs ls HW hl
    refine lv_aload_n hx hb dX2_pullAt_143 rfl (lv_at hl 2 rfl) ?_
    refine g_get CX HW in_X2_pullAt_2 0 4 rfl rfl (Nat.le_of_ble_eq_true rfl) fl_X2_pullAt_25 rfl dX2_pullAt_144 ?_
    refine lv_iload_n hx hb dX2_pullAt_147 rfl (lv_at hl 1 rfl) ?_
    refine lv_dup2_11 hx hb dX2_pullAt_148 rfl rfl ?_
    refine g_ald CX HW 3 (k := t) rfl rfl rfl (by omega) (Nat.le_of_ble_eq_true rfl) dX2_pullAt_149 ?_
    refine lv_iload_n hx hb dX2_pullAt_150 rfl (lv_at hl 0 rfl) ?_
    refine lv_iadd hx hb dX2_pullAt_151 ?_
    refine g_ast CX HW 3 (k := t) rfl rfl rfl (by omega) (Nat.le_of_ble_eq_true rfl) dX2_pullAt_152 (fun H locs HW => ?_)
    have HW : Hw D A s (wVo cI a o (vh T) (vc T) (vA T 0) (vA T 1) (upd (vA S 2) t (((vA S 2) t) + (nI r))) ++ (wR cI a (o + 4) (vr T) (vA T 3) (vA T 4) (vA T 5) (vA T 6) ++ (wS cI a (o + 9) (vs T) (vA T 7) (vA T 8) (vA T 9) (vA T 10) (vA T 11) (vA T 12) qt qp))) H locs := HW
    have hwe : (upd (vA S 2) t (((vA S 2) t) + (nI r))) = (vA T 2) := hPu.symm
    rw [hwe] at HW; clear hwe
    refine lv_iload_n hx hb dX2_pullAt_153 rfl (lv_at hl 0 rfl) ?_
    exact g_iret CX HW rfl ⟨qt, qp, by rw [← hT]; exact hRep, by rw [← hT, hPu, pk_us, add_sub_self], by rw [← hT]⟩ dX2_pullAt_154
  have loop : ∀ (d0 : Nat) (j : Nat) (T : VS) (qt : Nat → Int32) (qp : Nat → Int32) (r : Nat), N - j = d0 → (pullN t (N - j) (P - r) T = pullS t S) → (j ≤ N) → (r ≤ P) → (N - j ≤ (vq T t).length) → (Inv T) → (Rep (vs T) (vq T) qt qp) → (vh T < 2 ^ 31) → (vA T 1 t = nI P) → (vA T 2 = upd (vA S 2) t (vA S 2 t + nI r)) → ∀ (H : Heap) (locs : List Loc) (ls : Array Slot), Hw D A s (wVo cI a o (vh T) (vc T) (vA T 0) (vA T 1) (vA S 2) ++ (wR cI a (o + 4) (vr T) (vA T 3) (vA T 4) (vA T 5) (vA T 6) ++ (wS cI a (o + 9) (vs T) (vA T 7) (vA T 8) (vA T 9) (vA T 10) (vA T 11) (vA T 12) qt qp))) H locs → lv_has ls 6 [(4, .int (nI j)), (3, .int (nI N)), (2, .int (nI r)), (1, .int (nI t)), (0, .ref (a o))] → W p l e ({ frames := 4, cells := 0, slots := 0, locals := 93 } : Room) s m ([.ref (a o), .int (nI t)] : List Value).toArray below meth c H locs 0 0 (MQ below (cQ D A (fun v w' => ∃ (qt' : Nat → Int32) (qp' : Nat → Int32), (Rep (vs (pullS t S)) (vq (pullS t S)) qt' qp') ∧ v = some (.int (vA (pullS t S) 2 t - vA S 2 t)) ∧ w' = wVo cI a o (vh (pullS t S)) (vc (pullS t S)) (vA (pullS t S) 0) (vA (pullS t S) 1) (vA (pullS t S) 2) ++ (wR cI a (o + 4) (vr (pullS t S)) (vA (pullS t S) 3) (vA (pullS t S) 4) (vA (pullS t S) 5) (vA (pullS t S) 6) ++ (wS cI a (o + 9) (vs (pullS t S)) (vA (pullS t S) 7) (vA (pullS t S) 8) (vA (pullS t S) 9) (vA (pullS t S) 10) (vA (pullS t S) 11) (vA (pullS t S) 12) qt' qp')))) ([.ref (a o), .int (nI t)] : List Value).toArray s 0 0 A) (F0 m 14 ls []) := by
    intro d0
    induction d0 using Nat.strongRecOn with
    | _ d0 ih =>
      intro j T qt qp r hd0 hTT hj hr hlen hIT hRep hhT hPT hPu H locs ls HW hl
      refine lv_iload hx hb dX2_pullAt_14 (lv_at hl 0 rfl) ?_
      refine lv_iload_n hx hb dX2_pullAt_16 rfl (lv_at hl 1 rfl) ?_
      refine lv_icmp_ge (tgt := 143) hx hb dX2_pullAt_17 (by decide) (fun c17 => ?_) (fun c17 => ?_)
      · have c17 := (nI_leI (by omega) (by omega)).mp c17
        exact j143 T qt qp r (by first | (have h9 : N - j = 0 := (by omega); rw [h9] at hTT; exact hTT) | (have h9 : P - r = 0 := (by omega); rw [h9, pullN_p0] at hTT; exact hTT)) hRep hPu _ _ _ HW (lv_sub hl [2, 3, 4] rfl)
      · have c17 : j < N := nI_lt_of (by omega) (by omega) c17
        refine lv_iload_n hx hb dX2_pullAt_20 rfl (lv_at hl 2 rfl) ?_
        refine lv_aload_n hx hb dX2_pullAt_21 rfl (lv_at hl 4 rfl) ?_
        refine g_get CX HW in_X2_pullAt_2 0 3 rfl rfl (Nat.le_of_ble_eq_true rfl) fl_X2_pullAt_22 rfl dX2_pullAt_22 ?_
        refine lv_iload_n hx hb dX2_pullAt_25 rfl (lv_at hl 3 rfl) ?_
        refine g_ald CX HW 2 (k := t) rfl rfl rfl (by omega) (Nat.le_of_ble_eq_true rfl) dX2_pullAt_26 ?_
        refine g_top (y := (nI P)) hPT ?_
        refine lv_icmp_ge (tgt := 143) hx hb dX2_pullAt_27 (by decide) (fun c27 => ?_) (fun c27 => ?_)
        · have c27 := (nI_leI (by omega) (by omega)).mp c27
          exact j143 T qt qp r (by first | (have h9 : N - j = 0 := (by omega); rw [h9] at hTT; exact hTT) | (have h9 : P - r = 0 := (by omega); rw [h9, pullN_p0] at hTT; exact hTT)) hRep hPu _ _ _ HW (lv_sub hl [2, 3, 4] rfl)
        · have c27 : r < P := nI_lt_of (by omega) (by omega) c27
          obtain ⟨k, rest, hq⟩ : ∃ k rest, vq T t = k :: rest := by
            cases hq9 : vq T t with
            | nil => rw [hq9] at hlen; simp only [List.length_nil] at hlen; omega
            | cons k rest => exact ⟨k, rest, rfl⟩
          have hk : k < vs T := (hRep.2.1 t 0 k ht (by rw [hq]; rfl)).1
          have hk8 : k < 8 := Nat.lt_of_lt_of_le hk hIT.2.1
          have hRep2 := rep_take0 hRep hIT.2.1 ht hq
          refine lv_aload_n hx hb dX2_pullAt_30 rfl (lv_at hl 4 rfl) ?_
          refine g_get CX HW in_X2_pullAt_2 0 6 rfl rfl (Nat.le_of_ble_eq_true rfl) fl_X2_pullAt_38 rfl dX2_pullAt_31 ?_
          refine lv_iload_n hx hb dX2_pullAt_34 rfl (lv_at hl 3 rfl) ?_
          refine lv_iconst (v := 0) hx hb dX2_pullAt_35 (by decide) ?_
          refine g_callV CX HW hl.1 (wVo cI a o (vh T) (vc T) (vA T 0) (vA T 1) (vA S 2) ++ (wR cI a (o + 4) (vr T) (vA T 3) (vA T 4) (vA T 5) (vA T 6))) ([]) (c_X1_at (o + 9) (vs T) (vA T 7) (vA T 8) (vA T 9) (vA T 10) (vA T 11) (vA T 12) qt qp (nI t) (0 : Int32) hIT.2.1) rfl 0 rfl rfl gX2_pullAt_X1_at rfl ⟨rfl, hd_X1_at⟩ ⟨rfl, rfl, (Nat.le_of_ble_eq_true rfl), (Nat.le_of_ble_eq_true rfl)⟩ ⟨(Nat.zero_le _), (Nat.zero_le _)⟩ rfl rfl (Nat.le_of_ble_eq_true rfl) dX2_pullAt_36 (fun v w1 H locs hp HW => ?_)
          obtain ⟨rfl, rfl⟩ := hp
          have HW : Hw D A s (wVo cI a o (vh T) (vc T) (vA T 0) (vA T 1) (vA S 2) ++ (wR cI a (o + 4) (vr T) (vA T 3) (vA T 4) (vA T 5) (vA T 6) ++ (wS cI a (o + 9) (vs T) (vA T 7) (vA T 8) (vA T 9) (vA T 10) (vA T 11) (vA T 12) qt qp))) H locs := HW
          refine W.eq (g2 := F0 m 39 ls [.int (oI (fnd qt qp (nI t) (0 : Int32) (vs T)))]) rfl ?_
          refine g_top (y := (nI k)) (rep_at0 hRep hIT.2.1 ht hq) ?_
          refine lv_istore (lv' := [(5, .int (nI k)), (4, .int (nI j)), (3, .int (nI N)), (2, .int (nI r)), (1, .int (nI t)), (0, .ref (a o))]) hx hb dX2_pullAt_39 hl (Nat.le_of_ble_eq_true rfl) rfl (fun ls hl => ?_)
          refine lv_aload_n hx hb dX2_pullAt_41 rfl (lv_at hl 5 rfl) ?_
          refine g_get CX HW in_X2_pullAt_2 0 6 rfl rfl (Nat.le_of_ble_eq_true rfl) fl_X2_pullAt_38 rfl dX2_pullAt_42 ?_
          refine lv_iload hx hb dX2_pullAt_45 (lv_at hl 0 rfl) ?_
          refine g_callV CX HW hl.1 (wVo cI a o (vh T) (vc T) (vA T 0) (vA T 1) (vA S 2) ++ (wR cI a (o + 4) (vr T) (vA T 3) (vA T 4) (vA T 5) (vA T 6))) ([]) (c_X1_has (o + 9) (vs T) (vA T 7) (vA T 8) (vA T 9) (vA T 10) (vA T 11) (vA T 12) qt qp (nI k)) rfl 0 rfl rfl gX2_pullAt_X1_has rfl ⟨rfl, hd_X1_has⟩ ⟨rfl, rfl, (Nat.le_of_ble_eq_true rfl), (Nat.le_of_ble_eq_true rfl)⟩ ⟨(Nat.zero_le _), (Nat.zero_le _)⟩ rfl rfl (Nat.le_of_ble_eq_true rfl) dX2_pullAt_47 (fun v w1 H locs hp HW => ?_)
          obtain ⟨rfl, rfl⟩ := hp
          have HW : Hw D A s (wVo cI a o (vh T) (vc T) (vA T 0) (vA T 1) (vA S 2) ++ (wR cI a (o + 4) (vr T) (vA T 3) (vA T 4) (vA T 5) (vA T 6) ++ (wS cI a (o + 9) (vs T) (vA T 7) (vA T 8) (vA T 9) (vA T 10) (vA T 11) (vA T 12) qt qp))) H locs := HW
          refine W.eq (g2 := F0 m 50 ls [.int (bI (0 ≤ (nI k) ∧ (nI k) < nI (vs T)))]) rfl ?_
          refine g_ifne_b (tgt := 56) hx hb dX2_pullAt_50 (by decide) (fun c50 => ?_) (fun c50 => ?_)
          · refine lv_aload_n hx hb dX2_pullAt_56 rfl (lv_at hl 5 rfl) ?_
            refine g_get CX HW in_X2_pullAt_2 0 6 rfl rfl (Nat.le_of_ble_eq_true rfl) fl_X2_pullAt_38 rfl dX2_pullAt_57 ?_
            refine lv_iload hx hb dX2_pullAt_60 (lv_at hl 0 rfl) ?_
            refine g_callV CX HW hl.1 (wVo cI a o (vh T) (vc T) (vA T 0) (vA T 1) (vA S 2) ++ (wR cI a (o + 4) (vr T) (vA T 3) (vA T 4) (vA T 5) (vA T 6))) ([]) (c_X1_takeOutOfQueue (o + 9) (vs T) (vA T 7) (vA T 8) (vA T 9) (vA T 10) (vA T 11) (vA T 12) qt qp k hIT.2.1 hk8) rfl 0 rfl rfl gX2_pullAt_X1_takeOutOfQueue rfl ⟨rfl, hd_X1_takeOutOfQueue⟩ ⟨rfl, rfl, (Nat.le_of_ble_eq_true rfl), (Nat.le_of_ble_eq_true rfl)⟩ ⟨(Nat.zero_le _), (Nat.zero_le _)⟩ rfl rfl (Nat.le_of_ble_eq_true rfl) dX2_pullAt_62 (fun v w1 H locs hp HW => ?_)
            obtain ⟨rfl, rfl⟩ := hp
            have HW : Hw D A s (wVo cI a o (vh T) (vc T) (vA T 0) (vA T 1) (vA S 2) ++ (wR cI a (o + 4) (vr T) (vA T 3) (vA T 4) (vA T 5) (vA T 6) ++ (wS cI a (o + 9) (vs T) (vA T 7) (vA T 8) (vA T 9) (vA T 10) (vA T 11) (vA T 12) (tkT qt k) (tkQ (vs T) qt qp k)))) H locs := HW
            refine W.eq (g2 := F0 m 65 ls []) rfl ?_
            refine lv_aload_n hx hb dX2_pullAt_65 rfl (lv_at hl 5 rfl) ?_
            refine g_get CX HW in_X2_pullAt_2 0 6 rfl rfl (Nat.le_of_ble_eq_true rfl) fl_X2_pullAt_38 rfl dX2_pullAt_66 ?_
            refine g_get CX HW in_X2_pullAt_1 9 2 rfl rfl (Nat.le_of_ble_eq_true rfl) fl_X2_pullAt_93 rfl dX2_pullAt_69 ?_
            refine lv_iload hx hb dX2_pullAt_72 (lv_at hl 0 rfl) ?_
            refine g_ald CX HW 11 (k := k) rfl rfl rfl hk8 (Nat.le_of_ble_eq_true rfl) dX2_pullAt_74 ?_
            refine lv_iconst (v := 1) hx hb dX2_pullAt_75 (by decide) ?_
            refine lv_icmp_lt (tgt := 137) hx hb dX2_pullAt_76 (by decide) (fun c76 => ?_) (fun c76 => ?_)
            · refine lv_iinc (v := (nI (j + 1))) (lv' := [(4, .int (nI (j + 1))), (5, .int (nI k)), (3, .int (nI N)), (2, .int (nI r)), (1, .int (nI t)), (0, .ref (a o))]) hx hb dX2_pullAt_137 hl (k := 1) rfl (inc1 _) (Nat.le_of_ble_eq_true rfl) rfl (fun ls hl => ?_)
              refine lv_goto (tgt := 14) hx hb dX2_pullAt_140 (by decide) ?_
              exact ih _ (by omega) (j + 1) (quS T t rest) (tkT qt k) (tkQ (vs T) qt qp k) r rfl (by rw [← hTT, show N - j = (N - (j + 1)) + 1 by omega, show P - r = (P - r - 1) + 1 by omega, pullN_no hq c76]) (by omega) (by omega) (by rw [quS_len]; rw [hq] at hlen; simp only [List.length_cons] at hlen; omega) (Inv_quS hIT) hRep2 hhT hPT hPu _ _ _ HW (lv_sub hl [0, 2, 3, 4, 5] rfl)
            · refine lv_aload_n hx hb dX2_pullAt_79 rfl (lv_at hl 5 rfl) ?_
              refine g_get CX HW in_X2_pullAt_2 0 6 rfl rfl (Nat.le_of_ble_eq_true rfl) fl_X2_pullAt_38 rfl dX2_pullAt_80 ?_
              refine g_get CX HW in_X2_pullAt_1 9 2 rfl rfl (Nat.le_of_ble_eq_true rfl) fl_X2_pullAt_93 rfl dX2_pullAt_83 ?_
              refine lv_iload hx hb dX2_pullAt_86 (lv_at hl 0 rfl) ?_
              refine lv_dup2_11 hx hb dX2_pullAt_88 rfl rfl ?_
              refine g_ald CX HW 11 (k := k) rfl rfl rfl hk8 (Nat.le_of_ble_eq_true rfl) dX2_pullAt_89 ?_
              refine lv_iconst (v := 1) hx hb dX2_pullAt_90 (by decide) ?_
              refine lv_isub hx hb dX2_pullAt_91 ?_
              refine g_ast CX HW 11 (k := k) rfl rfl rfl hk8 (Nat.le_of_ble_eq_true rfl) dX2_pullAt_92 (fun H locs HW => ?_)
              have HW : Hw D A s (wVo cI a o (vh T) (vc T) (vA T 0) (vA T 1) (vA S 2) ++ (wR cI a (o + 4) (vr T) (vA T 3) (vA T 4) (vA T 5) (vA T 6) ++ (wS cI a (o + 9) (vs T) (vA T 7) (upd (vA T 8) k (((vA T 8) k) - (1 : Int32))) (vA T 9) (vA T 10) (vA T 11) (vA T 12) (tkT qt k) (tkQ (vs T) qt qp k)))) H locs := HW
              refine lv_aload_n hx hb dX2_pullAt_93 rfl (lv_at hl 5 rfl) ?_
              refine lv_dup hx hb dX2_pullAt_94 rfl ?_
              refine g_get CX HW in_X2_pullAt_2 0 1 rfl rfl (Nat.le_of_ble_eq_true rfl) fl_X2_pullAt_15 rfl dX2_pullAt_95 ?_
              refine lv_iconst (v := 1) hx hb dX2_pullAt_98 (by decide) ?_
              refine lv_iadd hx hb dX2_pullAt_99 ?_
              refine g_put CX HW in_X2_pullAt_2 tyX2 tyX2_ok nmX2 0 1 rfl rfl (Nat.le_of_ble_eq_true rfl) fl_X2_pullAt_15 rfl rfl rfl (Nat.le_of_ble_eq_true rfl) dX2_pullAt_100 (fun H locs HW => ?_)
              have HW : Hw D A s (wVo cI a o (vh T) (vc T + (1 : Int32)) (vA T 0) (vA T 1) (vA S 2) ++ (wR cI a (o + 4) (vr T) (vA T 3) (vA T 4) (vA T 5) (vA T 6) ++ (wS cI a (o + 9) (vs T) (vA T 7) (upd (vA T 8) k (((vA T 8) k) - (1 : Int32))) (vA T 9) (vA T 10) (vA T 11) (vA T 12) (tkT qt k) (tkQ (vs T) qt qp k)))) H locs := HW
              refine lv_aload_n hx hb dX2_pullAt_103 rfl (lv_at hl 5 rfl) ?_
              refine g_get CX HW in_X2_pullAt_2 0 6 rfl rfl (Nat.le_of_ble_eq_true rfl) fl_X2_pullAt_38 rfl dX2_pullAt_104 ?_
              refine g_get CX HW in_X2_pullAt_1 9 6 rfl rfl (Nat.le_of_ble_eq_true rfl) fl_X2_pullAt_95 rfl dX2_pullAt_107 ?_
              refine lv_iload hx hb dX2_pullAt_110 (lv_at hl 0 rfl) ?_
              refine lv_dup2_11 hx hb dX2_pullAt_112 rfl rfl ?_
              refine g_ald CX HW 15 (k := k) rfl rfl rfl hk8 (Nat.le_of_ble_eq_true rfl) dX2_pullAt_113 ?_
              refine lv_iconst (v := 1) hx hb dX2_pullAt_114 (by decide) ?_
              refine lv_iadd hx hb dX2_pullAt_115 ?_
              refine g_ast CX HW 15 (k := k) rfl rfl rfl hk8 (Nat.le_of_ble_eq_true rfl) dX2_pullAt_116 (fun H locs HW => ?_)
              have HW : Hw D A s (wVo cI a o (vh T) (vc T + (1 : Int32)) (vA T 0) (vA T 1) (vA S 2) ++ (wR cI a (o + 4) (vr T) (vA T 3) (vA T 4) (vA T 5) (vA T 6) ++ (wS cI a (o + 9) (vs T) (vA T 7) (upd (vA T 8) k (((vA T 8) k) - (1 : Int32))) (vA T 9) (vA T 10) (vA T 11) (upd (vA T 12) k (((vA T 12) k) + (1 : Int32))) (tkT qt k) (tkQ (vs T) qt qp k)))) H locs := HW
              refine lv_iinc (v := (nI (r + 1))) (lv' := [(2, .int (nI (r + 1))), (5, .int (nI k)), (4, .int (nI j)), (3, .int (nI N)), (1, .int (nI t)), (0, .ref (a o))]) hx hb dX2_pullAt_117 hl (k := 3) rfl (inc1 _) (Nat.le_of_ble_eq_true rfl) rfl (fun ls hl => ?_)
              refine lv_aload_n hx hb dX2_pullAt_120 rfl (lv_at hl 5 rfl) ?_
              refine lv_iload hx hb dX2_pullAt_121 (lv_at hl 1 rfl) ?_
              refine lv_iload_n hx hb dX2_pullAt_123 rfl (lv_at hl 4 rfl) ?_
              refine g_callV CX HW hl.1 ([]) ([]) (c_X2_skiDown o (payS t k (quS T t rest)) (tkT qt k) (tkQ (vs T) qt qp k) (vA S 2) k t hk8 hIT.1 hhT) rfl 0 rfl rfl gX2_pullAt_X2_skiDown rfl ⟨rfl, hd_X2_skiDown⟩ ⟨rfl, rfl, (Nat.le_of_ble_eq_true rfl), (Nat.le_of_ble_eq_true rfl)⟩ ⟨(Nat.zero_le _), (Nat.zero_le _)⟩ rfl rfl (Nat.le_of_ble_eq_true rfl) dX2_pullAt_124 (fun v w1 H locs hp HW => ?_)
              obtain ⟨rfl, rfl⟩ := hp
              have HW : Hw D A s (wVo cI a o (vh (skiS t k (payS t k (quS T t rest)))) (vc (skiS t k (payS t k (quS T t rest)))) (vA (skiS t k (payS t k (quS T t rest))) 0) (vA (skiS t k (payS t k (quS T t rest))) 1) (vA S 2) ++ (wR cI a (o + 4) (vr (skiS t k (payS t k (quS T t rest)))) (vA (skiS t k (payS t k (quS T t rest))) 3) (vA (skiS t k (payS t k (quS T t rest))) 4) (vA (skiS t k (payS t k (quS T t rest))) 5) (vA (skiS t k (payS t k (quS T t rest))) 6) ++ (wS cI a (o + 9) (vs (skiS t k (payS t k (quS T t rest)))) (vA (skiS t k (payS t k (quS T t rest))) 7) (vA (skiS t k (payS t k (quS T t rest))) 8) (vA (skiS t k (payS t k (quS T t rest))) 9) (vA (skiS t k (payS t k (quS T t rest))) 10) (vA (skiS t k (payS t k (quS T t rest))) 11) (vA (skiS t k (payS t k (quS T t rest))) 12) (tkT qt k) (tkQ (vs T) qt qp k)))) H locs := HW
              refine W.eq (g2 := F0 m 127 ls []) rfl ?_
              refine lv_aload_n hx hb dX2_pullAt_127 rfl (lv_at hl 5 rfl) ?_
              refine g_get CX HW in_X2_pullAt_2 0 6 rfl rfl (Nat.le_of_ble_eq_true rfl) fl_X2_pullAt_38 rfl dX2_pullAt_128 ?_
              refine lv_iload hx hb dX2_pullAt_131 (lv_at hl 1 rfl) ?_
              refine lv_iload_n hx hb dX2_pullAt_133 rfl (lv_at hl 4 rfl) ?_
              refine g_callV CX HW hl.1 (wVo cI a o (vh (skiS t k (payS t k (quS T t rest)))) (vc (skiS t k (payS t k (quS T t rest)))) (vA (skiS t k (payS t k (quS T t rest))) 0) (vA (skiS t k (payS t k (quS T t rest))) 1) (vA S 2) ++ (wR cI a (o + 4) (vr (skiS t k (payS t k (quS T t rest)))) (vA (skiS t k (payS t k (quS T t rest))) 3) (vA (skiS t k (payS t k (quS T t rest))) 4) (vA (skiS t k (payS t k (quS T t rest))) 5) (vA (skiS t k (payS t k (quS T t rest))) 6))) ([]) (c_X1_putAtEnd (o + 9) (vs (skiS t k (payS t k (quS T t rest)))) (vA (skiS t k (payS t k (quS T t rest))) 7) (vA (skiS t k (payS t k (quS T t rest))) 8) (vA (skiS t k (payS t k (quS T t rest))) 9) (vA (skiS t k (payS t k (quS T t rest))) 10) (vA (skiS t k (payS t k (quS T t rest))) 11) (vA (skiS t k (payS t k (quS T t rest))) 12) (tkT qt k) (tkQ (vs T) qt qp k) k (nI t) (by rw [vs_skiS]; exact hIT.2.1) hk8) rfl 0 rfl rfl gX2_pullAt_X1_putAtEnd rfl ⟨rfl, hd_X1_putAtEnd⟩ ⟨rfl, rfl, (Nat.le_of_ble_eq_true rfl), (Nat.le_of_ble_eq_true rfl)⟩ ⟨(Nat.zero_le _), (Nat.zero_le _)⟩ rfl rfl (Nat.le_of_ble_eq_true rfl) dX2_pullAt_134 (fun v w1 H locs hp HW => ?_)
              obtain ⟨rfl, rfl⟩ := hp
              have HW : Hw D A s (wVo cI a o (vh (skiS t k (payS t k (quS T t rest)))) (vc (skiS t k (payS t k (quS T t rest)))) (vA (skiS t k (payS t k (quS T t rest))) 0) (vA (skiS t k (payS t k (quS T t rest))) 1) (vA S 2) ++ (wR cI a (o + 4) (vr (skiS t k (payS t k (quS T t rest)))) (vA (skiS t k (payS t k (quS T t rest))) 3) (vA (skiS t k (payS t k (quS T t rest))) 4) (vA (skiS t k (payS t k (quS T t rest))) 5) (vA (skiS t k (payS t k (quS T t rest))) 6) ++ (wS cI a (o + 9) (vs (skiS t k (payS t k (quS T t rest)))) (vA (skiS t k (payS t k (quS T t rest))) 7) (vA (skiS t k (payS t k (quS T t rest))) 8) (vA (skiS t k (payS t k (quS T t rest))) 9) (vA (skiS t k (payS t k (quS T t rest))) 10) (vA (skiS t k (payS t k (quS T t rest))) 11) (vA (skiS t k (payS t k (quS T t rest))) 12) (upd (tkT qt k) k (nI t)) (upd (tkQ (vs T) qt qp k) k (nI (cntE (tkT qt k) (nI t) (vs (skiS t k (payS t k (quS T t rest)))))))))) H locs := HW
              refine W.eq (g2 := F0 m 137 ls []) rfl ?_
              refine lv_iinc (v := (nI (j + 1))) (lv' := [(4, .int (nI (j + 1))), (2, .int (nI (r + 1))), (5, .int (nI k)), (3, .int (nI N)), (1, .int (nI t)), (0, .ref (a o))]) hx hb dX2_pullAt_137 hl (k := 2) rfl (inc1 _) (Nat.le_of_ble_eq_true rfl) rfl (fun ls hl => ?_)
              refine lv_goto (tgt := 14) hx hb dX2_pullAt_140 (by decide) ?_
              exact ih _ (by omega) (j + 1) (quS (skiS t k (payS t k (quS T t rest))) t (rest ++ [k])) _ _ (r + 1) rfl (by rw [← hTT, show N - j = (N - (j + 1)) + 1 by omega, show P - r = (P - (r + 1)) + 1 by omega, pullN_yes hq c76]) (by omega) (by omega) (by rw [quS_len]; rw [hq] at hlen; simp only [List.length_cons, List.length_append] at hlen ⊢; omega) (Inv_quS (Inv_skiS hk (Inv_payS hk c76 (Inv_quS hIT)))) (by show Rep (vs (skiS t k (payS t k (quS T t rest)))) (setQ (vq (skiS t k (payS t k (quS T t rest)))) t (rest ++ [k])) _ _; rw [vs_skiS, vq_skiS]; exact rep_put3 hRep2 hIT.2.1 ht hk) (by show vh (skiS t k (payS t k (quS T t rest))) < _; rw [vh_skiS]; exact hhT) (by show vA (skiS t k (payS t k (quS T t rest))) 1 t = _; rw [vA_skiS (by decide)]; exact hPT) (by show vA (skiS t k (payS t k (quS T t rest))) 2 = _; rw [vA_skiS (by decide)]; exact pu_step hPu) _ _ _ HW (lv_sub hl [0, 3, 1, 4, 5] rfl)
          · exact absurd ⟨nI_pos' (by omega), (nI_ltI (by omega) (by have := hIT.2.1; omega)).mpr hk⟩ c50
  refine lv_iconst (v := 0) hx hb dX2_pullAt_0 (by decide) ?_
  refine lv_istore_n (lv' := [(2, .int (0 : Int32)), (0, .ref (a o)), (1, .int (nI t))]) hx hb dX2_pullAt_1 rfl hl (Nat.le_of_ble_eq_true rfl) rfl (fun ls hl => ?_)
  refine lv_aload_n hx hb dX2_pullAt_2 rfl (lv_at hl 1 rfl) ?_
  refine g_get CX HW in_X2_pullAt_2 0 6 rfl rfl (Nat.le_of_ble_eq_true rfl) fl_X2_pullAt_38 rfl dX2_pullAt_3 ?_
  refine lv_iload_n hx hb dX2_pullAt_6 rfl (lv_at hl 2 rfl) ?_
  refine g_callV CX HW hl.1 (wVo cI a o (vh S) (vc S) (vA S 0) (vA S 1) (vA S 2) ++ (wR cI a (o + 4) (vr S) (vA S 3) (vA S 4) (vA S 5) (vA S 6))) ([]) (c_X1_waitingAt (o + 9) (vs S) (vA S 7) (vA S 8) (vA S 9) (vA S 10) (vA S 11) (vA S 12) qt qp (nI t) hI.2.1) rfl 0 rfl rfl gX2_pullAt_X1_waitingAt rfl ⟨rfl, hd_X1_waitingAt⟩ ⟨rfl, rfl, (Nat.le_of_ble_eq_true rfl), (Nat.le_of_ble_eq_true rfl)⟩ ⟨(Nat.zero_le _), (Nat.zero_le _)⟩ rfl rfl (Nat.le_of_ble_eq_true rfl) dX2_pullAt_7 (fun v w1 H locs hp HW => ?_)
  obtain ⟨rfl, rfl⟩ := hp
  have HW : Hw D A s (wVo cI a o (vh S) (vc S) (vA S 0) (vA S 1) (vA S 2) ++ (wR cI a (o + 4) (vr S) (vA S 3) (vA S 4) (vA S 5) (vA S 6) ++ (wS cI a (o + 9) (vs S) (vA S 7) (vA S 8) (vA S 9) (vA S 10) (vA S 11) (vA S 12) qt qp))) H locs := HW
  refine W.eq (g2 := F0 m 10 ls [.int (nI (cntE qt (nI t) (vs S)))]) rfl ?_
  refine g_top (y := (nI N)) (by rw [hN, hR.2.2 t ht]) ?_
  refine lv_istore_n (lv' := [(3, .int (nI N)), (2, .int (0 : Int32)), (0, .ref (a o)), (1, .int (nI t))]) hx hb dX2_pullAt_10 rfl hl (Nat.le_of_ble_eq_true rfl) rfl (fun ls hl => ?_)
  refine lv_iconst (v := 0) hx hb dX2_pullAt_11 (by decide) ?_
  refine lv_istore (lv' := [(4, .int (0 : Int32)), (3, .int (nI N)), (2, .int (0 : Int32)), (0, .ref (a o)), (1, .int (nI t))]) hx hb dX2_pullAt_12 hl (Nat.le_of_ble_eq_true rfl) rfl (fun ls hl => ?_)
  exact loop _ 0 S qt qp 0 rfl (by rw [Nat.sub_zero, Nat.sub_zero, hN]; unfold pullS; rw [hP, natI_nI (by omega)]) (by omega) (by omega) (by omega) hI hR hh hP (by rw [nI_0, Int32.add_zero]; exact (upd_self _ _).symm) _ _ _ HW (lv_sub hl [0, 1, 2, 4, 3] rfl)
end
section
theorem pullN_ind {P : VS → Prop} {t : Nat} (h1 : ∀ (T : VS) (k : Nat) (rest : List Nat), P T → vq T t = k :: rest → vA T 8 k < 1 → P (quS T t rest))
    (h2 : ∀ (T : VS) (k : Nat) (rest : List Nat), P T → vq T t = k :: rest → ¬ vA T 8 k < 1 → P (quS (skiS t k (payS t k (quS T t rest))) t (rest ++ [k]))) : ∀ (n p : Nat) (S : VS), P S → P (pullN t n p S) := by
  intro n
  induction n with
  | zero => intro p S h; exact h
  | succ n ih =>
    intro p S h
    cases p with
    | zero => exact h
    | succ p =>
      cases hq : vq S t with
      | nil => simp only [pullN, hq]; exact h
      | cons k rest =>
        by_cases hc : vA S 8 k < 1
        · rw [pullN_no hq hc]; exact ih _ _ (h1 S k rest h hq hc)
        · rw [pullN_yes hq hc]; exact ih _ _ (h2 S k rest h hq hc)
def Qk (ns : Nat) (q : Nat → List Nat) : Prop := ∀ t, t < 3 → ∀ k, k ∈ q t → k < ns
theorem rep_qok {ns : Nat} {q : Nat → List Nat} {qt qp : Nat → Int32} (h : Rep ns q qt qp) : Qk ns q := fun t ht k hk => by
  obtain ⟨p, hp⟩ := List.getElem?_of_mem hk
  exact (h.2.1 t p k ht hp).1
theorem Qk_set {ns t : Nat} {q : Nat → List Nat} {x : List Nat} (h : Qk ns q) (hx : ∀ k, k ∈ x → k < ns) : Qk ns (setQ q t x) := by
  intro t1 ht1 k hk
  simp only [setQ] at hk
  split at hk
  · exact hx k hk
  · exact h t1 ht1 k hk
theorem vs_ride (t k : Nat) (T : VS) (x : List Nat) : vs (skiS t k (payS t k (quS T t x))) = vs T := by rw [vs_skiS]; rfl
theorem vq_ride (t k : Nat) (T : VS) (x : List Nat) : vq (skiS t k (payS t k (quS T t x))) = setQ (vq T) t x := by rw [vq_skiS]; rfl
theorem InvQ_pullN {t : Nat} (ht : t < 3) (n p : Nat) (S : VS) (h : Inv S) (hq : Qk (vs S) (vq S)) : Inv (pullN t n p S) ∧ Qk (vs (pullN t n p S)) (vq (pullN t n p S)) := by
  refine pullN_ind (P := fun T => Inv T ∧ Qk (vs T) (vq T)) ?_ ?_ n p S ⟨h, hq⟩
  · rintro T k rest ⟨h1, h2⟩ h3 -
    exact ⟨h1, Qk_set h2 (fun j hj => h2 t ht j (by rw [h3]; exact List.mem_cons_of_mem _ hj))⟩
  · rintro T k rest ⟨h1, h2⟩ h3 h4
    have hk : k < vs T := h2 t ht k (by rw [h3]; exact List.mem_cons_self)
    have hr : ∀ j, j ∈ rest → j < vs T := fun j hj => h2 t ht j (by rw [h3]; exact List.mem_cons_of_mem _ hj)
    refine ⟨Inv_quS (Inv_skiS (S := payS t k (quS T t rest)) hk (Inv_payS hk h4 (Inv_quS h1))), ?_⟩
    show Qk (vs (skiS t k (payS t k (quS T t rest)))) (setQ (vq (skiS t k (payS t k (quS T t rest)))) t (rest ++ [k]))
    rw [vs_ride, vq_ride]
    refine Qk_set (Qk_set h2 hr) (fun j hj => ?_)
    rcases List.mem_append.mp hj with h5 | h5
    · exact hr j h5
    · rw [List.mem_singleton.mp h5]; exact hk
theorem Inv_pullS {t : Nat} {S : VS} (h : Inv S) (hq : Qk (vs S) (vq S)) (ht : t < 3 := by decide) : Inv (pullS t S) := (InvQ_pullN ht _ _ S h hq).1
theorem Qk_pullS {t : Nat} {S : VS} (h : Inv S) (hq : Qk (vs S) (vq S)) (ht : t < 3 := by decide) : Qk (vs (pullS t S)) (vq (pullS t S)) := (InvQ_pullN ht _ _ S h hq).2
theorem vh_pullS (t : Nat) (S : VS) : vh (pullS t S) = vh S :=
  pullN_ind (P := fun T => vh T = vh S) (fun _ _ _ h _ _ => h) (fun T k rest h _ _ => (vh_skiS t k (payS t k (quS T t rest))).trans h) _ _ S rfl
theorem vr_pullS (t : Nat) (S : VS) : vr (pullS t S) = vr S :=
  pullN_ind (P := fun T => vr T = vr S) (fun _ _ _ h _ _ => h) (fun T k rest h _ _ => (vr_skiS t k (payS t k (quS T t rest))).trans h) _ _ S rfl
theorem vs_pullS (t : Nat) (S : VS) : vs (pullS t S) = vs S :=
  pullN_ind (P := fun T => vs T = vs S) (fun _ _ _ h _ _ => h) (fun T k rest h _ _ => (vs_skiS t k (payS t k (quS T t rest))).trans h) _ _ S rfl
theorem vA_payS {t k i : Nat} {S : VS} (h : (Nat.beq i 8 || (Nat.beq i 12 || Nat.beq i 2)) = false) : vA (payS t k S) i = vA S i := by
  simp only [Bool.or_eq_false_iff] at h
  obtain ⟨h1, h2, h3⟩ := h
  show setR (setR (setR (vA S) 8 _) 12 _) 2 _ i = _
  simp only [setR, h1, h2, h3, cond_false]
theorem vA_pullS {t i : Nat} {S : VS} (h1 : (Nat.beq i 8 || (Nat.beq i 12 || Nat.beq i 2)) = false) (h2 : (Nat.beq i 5 || (Nat.beq i 6 || (Nat.beq i 10 || Nat.beq i 11))) = false) : vA (pullS t S) i = vA S i := by
  refine pullN_ind (P := fun T => vA T i = vA S i) (fun _ _ _ h _ _ => h) (fun T k rest h _ _ => ?_) _ _ S rfl
  show vA (skiS t k (payS t k (quS T t rest))) i = _
  rw [vA_skiS h2, vA_payS h1]; exact h
theorem pu_pullS {t j : Nat} {S : VS} (hj : j ≠ t) : vA (pullS t S) 2 j = vA S 2 j := by
  refine pullN_ind (P := fun T => vA T 2 j = vA S 2 j) (fun _ _ _ h _ _ => h) (fun T k rest h _ _ => ?_) _ _ S rfl
  show vA (skiS t k (payS t k (quS T t rest))) 2 j = _
  rw [vA_skiS (by decide)]
  show upd (vA T 2) t (vA T 2 t + 1) j = _
  rw [pk_un hj]; exact h
theorem vq_pullS {t j : Nat} {S : VS} (hj : j ≠ t) : vq (pullS t S) j = vq S j := by
  refine pullN_ind (P := fun T => vq T j = vq S j) (fun T k rest h _ _ => ?_) (fun T k rest h _ _ => ?_) _ _ S rfl
  · show setQ (vq T) t rest j = _
    simp only [setQ, if_neg hj]; exact h
  · show setQ (vq (skiS t k (payS t k (quS T t rest)))) t (rest ++ [k]) j = _
    rw [vq_ride]
    simp only [setQ, if_neg hj]; exact h
theorem Inv_snowS {S : VS} (h : Inv S) : Inv (snowS S) := by
  obtain ⟨h1, h2, h3, h4, h5, h6⟩ := h
  refine ⟨h1, h2, h3, h4, fun j hj => ⟨(h5 j hj).1, (h5 j hj).2.1, ?_⟩, h6⟩
  show ∃ d, d ≤ 90 ∧ dpAll (vA S 5) (snowI (natI (vA S 0 (vh S % 6)))) (vr S) j = nI d
  unfold dpAll
  split
  · exact heldI_90 _
  · exact (h5 j hj).2.2
theorem Inv_incS {S : VS} (h : Inv S) : Inv (incS S) := h
theorem Qk_incS {S : VS} (h : Qk (vs S) (vq S)) : Qk (vs (incS S)) (vq (incS S)) := h
theorem InvQ_hourS {S : VS} (h : Inv S) (hq : Qk (vs S) (vq S)) : Inv (hourS S) ∧ Qk (vs (hourS S)) (vq (hourS S)) := by
  have h0 := Inv_snowS h
  have q0 : Qk (vs (snowS S)) (vq (snowS S)) := hq
  have h1 := Inv_pullS (t := 0) h0 q0
  have q1 := Qk_pullS (t := 0) h0 q0
  have h2 := Inv_pullS (t := 1) h1 q1
  have q2 := Qk_pullS (t := 1) h1 q1
  exact ⟨Inv_incS (Inv_pullS (t := 2) h2 q2), Qk_incS (Qk_pullS (t := 2) h2 q2)⟩
theorem InvQ_hoursS {S : VS} (h : Inv S) (hq : Qk (vs S) (vq S)) : ∀ i, Inv (hoursS i S) ∧ Qk (vs (hoursS i S)) (vq (hoursS i S))
  | 0 => ⟨h, hq⟩
  | i + 1 => InvQ_hourS (InvQ_hoursS h hq i).1 (InvQ_hoursS h hq i).2
theorem Inv_hoursS {S : VS} {qt qp : Nat → Int32} (h : Inv S) (hR : Rep (vs S) (vq S) qt qp) (i : Nat) : Inv (hoursS i S) := (InvQ_hoursS h (rep_qok hR) i).1
theorem vh_hourS (S : VS) : vh (hourS S) = vh S + 1 := by
  show vh (pullS 2 (pullS 1 (pullS 0 (snowS S)))) + 1 = _
  rw [vh_pullS, vh_pullS, vh_pullS]; rfl
theorem vr_hourS (S : VS) : vr (hourS S) = vr S := by
  show vr (pullS 2 (pullS 1 (pullS 0 (snowS S)))) = _
  rw [vr_pullS, vr_pullS, vr_pullS]; rfl
theorem vs_hourS (S : VS) : vs (hourS S) = vs S := by
  show vs (pullS 2 (pullS 1 (pullS 0 (snowS S)))) = _
  rw [vs_pullS, vs_pullS, vs_pullS]; rfl
theorem vh_hoursS (i : Nat) (S : VS) : vh (hoursS i S) = vh S + i := by
  induction i with
  | zero => rfl
  | succ i ih => show vh (hourS (hoursS i S)) = _; rw [vh_hourS, ih]; omega
theorem vr_hoursS (i : Nat) (S : VS) : vr (hoursS i S) = vr S := by
  induction i with
  | zero => rfl
  | succ i ih => show vr (hourS (hoursS i S)) = _; rw [vr_hourS, ih]
theorem vs_hoursS (i : Nat) (S : VS) : vs (hoursS i S) = vs S := by
  induction i with
  | zero => rfl
  | succ i ih => show vs (hourS (hoursS i S)) = _; rw [vs_hourS, ih]
theorem vA_hourS {i : Nat} {S : VS} (h1 : (Nat.beq i 8 || (Nat.beq i 12 || Nat.beq i 2)) = false) (h2 : (Nat.beq i 5 || (Nat.beq i 6 || (Nat.beq i 10 || Nat.beq i 11))) = false) : vA (hourS S) i = vA S i := by
  show vA (pullS 2 (pullS 1 (pullS 0 (snowS S)))) i = _
  rw [vA_pullS h1 h2, vA_pullS h1 h2, vA_pullS h1 h2]
  simp only [Bool.or_eq_false_iff] at h2
  show setR (vA S) 5 _ i = _
  simp only [setR, h2.1, cond_false]
theorem vA_hoursS {i : Nat} {S : VS} (h1 : (Nat.beq i 8 || (Nat.beq i 12 || Nat.beq i 2)) = false) (h2 : (Nat.beq i 5 || (Nat.beq i 6 || (Nat.beq i 10 || Nat.beq i 11))) = false) (n : Nat) : vA (hoursS n S) i = vA S i := by
  induction n with
  | zero => rfl
  | succ n ih => show vA (hourS (hoursS n S)) i = _; rw [vA_hourS h1 h2, ih]
theorem ring6 (c x y z x' y' z' : Int32) : ((((0 + x + y + z) - c) + (x' - x)) + (y' - y)) + (z' - z) = (0 + x' + y' + z') - c := by
  have h : ∀ a b : Int32, a + (b + -a) = b := fun a b => by rw [Int32.add_comm b, ← Int32.add_assoc, Int32.add_right_neg, Int32.zero_add]
  simp only [Int32.sub_eq_add_neg, Int32.zero_add]
  have e : x + y + z + -c + (x' + -x) + (y' + -y) + (z' + -z) = (x + (x' + -x)) + (y + (y' + -y)) + (z + (z' + -z)) + -c := by ac_rfl
  rw [e, h, h, h]
theorem hour_sum (T : VS) (c : Int32) : ((((sumP T - c) + (vA (pullS 0 (snowS T)) 2 0 - vA (snowS T) 2 0)) + (vA (pullS 1 (pullS 0 (snowS T))) 2 1 - vA (pullS 0 (snowS T)) 2 1)) + (vA (pullS 2 (pullS 1 (pullS 0 (snowS T)))) 2 2 - vA (pullS 1 (pullS 0 (snowS T))) 2 2)) = sumP (hourS T) - c := by
  have e : sumP (hourS T) = 0 + vA (pullS 2 (pullS 1 (pullS 0 (snowS T)))) 2 0 + vA (pullS 2 (pullS 1 (pullS 0 (snowS T)))) 2 1 + vA (pullS 2 (pullS 1 (pullS 0 (snowS T)))) 2 2 := rfl
  rw [e]
  have a0 : vA (pullS 2 (pullS 1 (pullS 0 (snowS T)))) 2 0 = vA (pullS 0 (snowS T)) 2 0 := by rw [pu_pullS (by decide), pu_pullS (by decide)]
  have a1 : vA (pullS 2 (pullS 1 (pullS 0 (snowS T)))) 2 1 = vA (pullS 1 (pullS 0 (snowS T))) 2 1 := pu_pullS (by decide)
  have b1 : vA (pullS 0 (snowS T)) 2 1 = vA T 2 1 := pu_pullS (by decide)
  have b2 : vA (pullS 1 (pullS 0 (snowS T))) 2 2 = vA T 2 2 := by rw [pu_pullS (by decide), pu_pullS (by decide)]; rfl
  have b0 : vA (snowS T) 2 0 = vA T 2 0 := rfl
  rw [a0, a1, b0, b1, b2]
  exact ring6 _ _ _ _ _ _ _
theorem cntN_E {qt : Nat → Int32} : ∀ {n : Nat}, (∀ k, k < n → qt k = -1 ∨ ∃ t, t < 3 ∧ qt k = nI t) → cntN qt n = cntE qt (nI 0) n + cntE qt (nI 1) n + cntE qt (nI 2) n := by
  intro n
  induction n with
  | zero => intro _; rfl
  | succ n ih =>
    intro h
    have h1 := ih (fun k hk => h k (by omega))
    simp only [cntN, cntE]
    rcases h n (by omega) with h2 | ⟨t, ht, h2⟩
    · rw [h2, if_pos rfl, if_neg (nI_nm1' (by decide)), if_neg (nI_nm1' (by decide)), if_neg (nI_nm1' (by decide))]; exact h1
    · rw [h2, if_neg (nI_nm1 (by omega))]
      rcases (by omega : t = 0 ∨ t = 1 ∨ t = 2) with rfl | rfl | rfl
      · rw [if_pos rfl, if_neg (by decide), if_neg (by decide)]; omega
      · rw [if_neg (by decide), if_pos rfl, if_neg (by decide)]; omega
      · rw [if_neg (by decide), if_neg (by decide), if_pos rfl]; omega
theorem rep_any {ns : Nat} {q : Nat → List Nat} {qt qp : Nat → Int32} (h : Rep ns q qt qp) : cntN qt ns = (q 0).length + (q 1).length + (q 2).length := by
  rw [← h.2.2 0 (by decide), ← h.2.2 1 (by decide), ← h.2.2 2 (by decide)]
  refine cntN_E (fun k hk => ?_)
  rcases h.1 k hk with h1 | ⟨t, p, h1, h2⟩
  · exact Or.inl h1
  · exact Or.inr ⟨t, h1, (h.2.1 t p k h1 h2).2.1⟩
theorem hw_inc {D : va_G} {A : Nat → Prop} {s : State} {cI : ClassId} {a : Nat → Nat} {o : Nat} {qt qp : Nat → Int32} {H : Heap} {locs : List Loc} (S : VS) (h : Hw D A s (wVo cI a o (vh S + 1) (vc S) (vA S 0) (vA S 1) (vA S 2) ++ (wR cI a (o + 4) (vr S) (vA S 3) (vA S 4) (vA S 5) (vA S 6) ++ (wS cI a (o + 9) (vs S) (vA S 7) (vA S 8) (vA S 9) (vA S 10) (vA S 11) (vA S 12) qt qp))) H locs) : Hw D A s (wVo cI a o (vh (incS S)) (vc (incS S)) (vA (incS S) 0) (vA (incS S) 1) (vA (incS S) 2) ++ (wR cI a (o + 4) (vr (incS S)) (vA (incS S) 3) (vA (incS S) 4) (vA (incS S) 5) (vA (incS S) 6) ++ (wS cI a (o + 9) (vs (incS S)) (vA (incS S) 7) (vA (incS S) 8) (vA (incS S) 9) (vA (incS S) 10) (vA (incS S) 11) (vA (incS S) 12) qt qp))) H locs := h
def figT (S : VS) (t what : Nat) : Int32 := match what with
  | 0 => vA S 1 t
  | 1 => nI (vq S t).length
  | _ => vA S 2 t
def figV (S : VS) (what : Nat) : Int32 := match what with
  | 0 => nI (vh S)
  | 1 => vA S 0 (vh S % 6)
  | 2 => vc S
  | 3 => nI (vr S)
  | 4 => nI (vs S)
  | 5 => flagN (vA S 5) (vA S 4) (vr S)
  | 6 => sumP S
  | 7 => nI ((vq S 0).length + (vq S 1).length + (vq S 2).length)
  | _ => sumN (vA S 11) (vs S)
theorem hd_X2_letHoursGo : yX2_letHoursGo.cls ≠ "java/lang/invoke/MethodHandle" ∧ yX2_letHoursGo.cls ≠ "java/lang/invoke/VarHandle" ∧ (parseMethodDescriptor yX2_letHoursGo.desc).map (fun d => d.parameters.length) = some 1 := by decide +kernel
theorem fl_X2_letHoursGo_31 : Cond.fieldLink RX2 31 (TX2 5).1 (TX2 5).2.1 (TX2 5).2.2.1 ∈ wsX2_letHoursGo := by decide +kernel
theorem in_X2_letHoursGo_2 : ∀ x ∈ u_ws RX2 TX2 7, x ∈ wsX2_letHoursGo := by decide +kernel
theorem sn_X2_letHoursGo_X3_snowOf : Cond.initialized yX3_snowOf.cls ∈ wsX2_letHoursGo ∧ Cond.static yX3_snowOf ∈ wsX2_letHoursGo := ⟨by decide +kernel, by decide +kernel⟩
theorem fl_X2_letHoursGo_9 : Cond.fieldLink RX2 9 (TX2 0).1 (TX2 0).2.1 (TX2 0).2.2.1 ∈ wsX2_letHoursGo := by decide +kernel
set_option maxRecDepth 100000 in
set_option maxHeartbeats 4000000 in
theorem c_X2_letHoursGo {l : Launch} {D : va_G} {cI cL : ClassId} {a : Nat → Nat} (o : Nat) (S : VS) (qt : Nat → Int32) (qp : Nat → Int32) (h : Nat) (hI : Inv S) (hR : Rep (vs S) (vq S) qt qp) (hh9 : h ≤ 90) (hh : vh S + h < 2 ^ 31) : Ct l yX2_letHoursGo wsX2_letHoursGo { frames := 5, cells := 0, slots := 0, locals := 118 } D (ty2 cI cL) [.ref (a o), .int (nI h)] (wVo cI a o (vh S) (vc S) (vA S 0) (vA S 1) (vA S 2) ++ (wR cI a (o + 4) (vr S) (vA S 3) (vA S 4) (vA S 5) (vA S 6) ++ (wS cI a (o + 9) (vs S) (vA S 7) (vA S 8) (vA S 9) (vA S 10) (vA S 11) (vA S 12) qt qp))) (fun v w' => ∃ (qt' : Nat → Int32) (qp' : Nat → Int32), (Rep (vs (hoursS h S)) (vq (hoursS h S)) qt' qp') ∧ v = some (.int (sumP (hoursS h S) - sumP S)) ∧ w' = wVo cI a o (vh (hoursS h S)) (vc (hoursS h S)) (vA (hoursS h S) 0) (vA (hoursS h S) 1) (vA (hoursS h S) 2) ++ (wR cI a (o + 4) (vr (hoursS h S)) (vA (hoursS h S) 3) (vA (hoursS h S) 4) (vA (hoursS h S) 5) (vA (hoursS h S) 6) ++ (wS cI a (o + 9) (vs (hoursS h S)) (vA (hoursS h S) 7) (vA (hoursS h S) 8) (vA (hoursS h S) 9) (vA (hoursS h S) 10) (vA (hoursS h S) 11) (vA (hoursS h S) 12) qt' qp'))) 0 0 := by
  refine Ct.of (cc := cX2_letHoursGo) (maxL := 5) (ret := (some .int)) (by decide) rfl (Nat.le_of_ble_eq_true rfl) ?_
  intro p e s m below meth c A ls CX hin HW hl
  obtain ⟨hx, hb, hml, hr, hown, hts, hK, hA, hlk⟩ := id CX
  have hl : lv_has ls 5 [(0, .ref (a o)), (1, .int (nI h))] := hl
  have loop : ∀ (d0 : Nat) (i : Nat) (qt : Nat → Int32) (qp : Nat → Int32), h - i = d0 → (i ≤ h) → (Rep (vs (hoursS i S)) (vq (hoursS i S)) qt qp) → ∀ (H : Heap) (locs : List Loc) (ls : Array Slot), Hw D A s (wVo cI a o (vh (hoursS i S)) (vc (hoursS i S)) (vA (hoursS i S) 0) (vA (hoursS i S) 1) (vA (hoursS i S) 2) ++ (wR cI a (o + 4) (vr (hoursS i S)) (vA (hoursS i S) 3) (vA (hoursS i S) 4) (vA (hoursS i S) 5) (vA (hoursS i S) 6) ++ (wS cI a (o + 9) (vs (hoursS i S)) (vA (hoursS i S) 7) (vA (hoursS i S) 8) (vA (hoursS i S) 9) (vA (hoursS i S) 10) (vA (hoursS i S) 11) (vA (hoursS i S) 12) qt qp))) H locs → lv_has ls 5 [(3, .int (nI i)), (2, .int (sumP (hoursS i S) - sumP S)), (1, .int (nI h)), (0, .ref (a o))] → W p l e ({ frames := 5, cells := 0, slots := 0, locals := 118 } : Room) s m ([.ref (a o), .int (nI h)] : List Value).toArray below meth c H locs 0 0 (MQ below (cQ D A (fun v w' => ∃ (qt' : Nat → Int32) (qp' : Nat → Int32), (Rep (vs (hoursS h S)) (vq (hoursS h S)) qt' qp') ∧ v = some (.int (sumP (hoursS h S) - sumP S)) ∧ w' = wVo cI a o (vh (hoursS h S)) (vc (hoursS h S)) (vA (hoursS h S) 0) (vA (hoursS h S) 1) (vA (hoursS h S) 2) ++ (wR cI a (o + 4) (vr (hoursS h S)) (vA (hoursS h S) 3) (vA (hoursS h S) 4) (vA (hoursS h S) 5) (vA (hoursS h S) 6) ++ (wS cI a (o + 9) (vs (hoursS h S)) (vA (hoursS h S) 7) (vA (hoursS h S) 8) (vA (hoursS h S) 9) (vA (hoursS h S) 10) (vA (hoursS h S) 11) (vA (hoursS h S) 12) qt' qp')))) ([.ref (a o), .int (nI h)] : List Value).toArray s 0 0 A) (F0 m 4 ls []) := by
    intro d0
    induction d0 using Nat.strongRecOn with
    | _ d0 ih =>
      intro i qt qp hd0 hi hRep H locs ls HW hl
      refine lv_iload_n hx hb dX2_letHoursGo_4 rfl (lv_at hl 0 rfl) ?_
      refine lv_iload_n hx hb dX2_letHoursGo_5 rfl (lv_at hl 2 rfl) ?_
      refine lv_icmp_ge (tgt := 63) hx hb dX2_letHoursGo_6 (by decide) (fun c6 => ?_) (fun c6 => ?_)
      · have c6 := (nI_leI (by omega) (by omega)).mp c6
        obtain rfl : i = h := by omega
        refine lv_iload_n hx hb dX2_letHoursGo_63 rfl (lv_at hl 1 rfl) ?_
        exact g_iret CX HW rfl ⟨qt, qp, hRep, rfl, rfl⟩ dX2_letHoursGo_64
      · have c6 : i < h := nI_lt_of (by omega) (by omega) c6
        have hIT : Inv (hoursS i S) := Inv_hoursS hI hR i
        have hhT : vh (hoursS i S) < 2 ^ 31 := by rw [vh_hoursS]; omega
        obtain ⟨f, hf, ef⟩ := hIT.2.2.1 (vh (hoursS i S) % 6) (Nat.mod_lt _ (by decide))
        refine lv_aload_n hx hb dX2_letHoursGo_9 rfl (lv_at hl 3 rfl) ?_
        refine g_get CX HW in_X2_letHoursGo_2 0 5 rfl rfl (Nat.le_of_ble_eq_true rfl) fl_X2_letHoursGo_31 rfl dX2_letHoursGo_10 ?_
        refine lv_aload_n hx hb dX2_letHoursGo_13 rfl (lv_at hl 3 rfl) ?_
        refine g_callV CX HW hl.1 ([]) ([]) (c_X2_flakeOfHour o (hoursS i S) qt qp (vA (hoursS i S) 2) hhT) rfl 0 rfl rfl gX2_letHoursGo_X2_flakeOfHour rfl ⟨rfl, hd_X2_flakeOfHour⟩ ⟨rfl, rfl, (Nat.le_of_ble_eq_true rfl), (Nat.le_of_ble_eq_true rfl)⟩ ⟨(Nat.zero_le _), (Nat.zero_le _)⟩ rfl rfl (Nat.le_of_ble_eq_true rfl) dX2_letHoursGo_14 (fun v w1 H locs hp HW => ?_)
        obtain ⟨rfl, rfl⟩ := hp
        have HW : Hw D A s (wVo cI a o (vh (hoursS i S)) (vc (hoursS i S)) (vA (hoursS i S) 0) (vA (hoursS i S) 1) (vA (hoursS i S) 2) ++ (wR cI a (o + 4) (vr (hoursS i S)) (vA (hoursS i S) 3) (vA (hoursS i S) 4) (vA (hoursS i S) 5) (vA (hoursS i S) 6) ++ (wS cI a (o + 9) (vs (hoursS i S)) (vA (hoursS i S) 7) (vA (hoursS i S) 8) (vA (hoursS i S) 9) (vA (hoursS i S) 10) (vA (hoursS i S) 11) (vA (hoursS i S) 12) qt qp))) H locs := HW
        refine W.eq (g2 := F0 m 17 ls [.int (vA (hoursS i S) 0 (vh (hoursS i S) % 6)), .ref (a (o + 4))]) rfl ?_
        refine g_top (y := (nI f)) ef ?_
        refine g_callSN (host := "PommelTows") CX HW hl.1 ([]) (wVo cI a o (vh (hoursS i S)) (vc (hoursS i S)) (vA (hoursS i S) 0) (vA (hoursS i S) 1) (vA (hoursS i S) 2) ++ (wR cI a (o + 4) (vr (hoursS i S)) (vA (hoursS i S) 3) (vA (hoursS i S) 4) (vA (hoursS i S) 5) (vA (hoursS i S) 6) ++ (wS cI a (o + 9) (vs (hoursS i S)) (vA (hoursS i S) 7) (vA (hoursS i S) 8) (vA (hoursS i S) 9) (vA (hoursS i S) 10) (vA (hoursS i S) 11) (vA (hoursS i S) 12) qt qp))) (c_X3_snowOf f hf) rfl gX2_letHoursGo_X3_snowOf_n69 sn_X2_letHoursGo_X3_snowOf (by decide +kernel) rfl hd_X3_snowOf ⟨rfl, rfl, (Nat.le_of_ble_eq_true rfl), (Nat.le_of_ble_eq_true rfl)⟩ ⟨(Nat.zero_le _), (Nat.zero_le _)⟩ rfl rfl (Nat.le_of_ble_eq_true rfl) dX2_letHoursGo_17 (fun v w1 H locs hp HW => ?_)
        obtain ⟨rfl, rfl⟩ := hp
        have HW : Hw D A s (wVo cI a o (vh (hoursS i S)) (vc (hoursS i S)) (vA (hoursS i S) 0) (vA (hoursS i S) 1) (vA (hoursS i S) 2) ++ (wR cI a (o + 4) (vr (hoursS i S)) (vA (hoursS i S) 3) (vA (hoursS i S) 4) (vA (hoursS i S) 5) (vA (hoursS i S) 6) ++ (wS cI a (o + 9) (vs (hoursS i S)) (vA (hoursS i S) 7) (vA (hoursS i S) 8) (vA (hoursS i S) 9) (vA (hoursS i S) 10) (vA (hoursS i S) 11) (vA (hoursS i S) 12) qt qp))) H locs := HW
        refine W.eq (g2 := F0 m 20 ls [.int (snowI f), .ref (a (o + 4))]) rfl ?_
        refine g_callV CX HW hl.1 (wVo cI a o (vh (hoursS i S)) (vc (hoursS i S)) (vA (hoursS i S) 0) (vA (hoursS i S) 1) (vA (hoursS i S) 2)) (wS cI a (o + 9) (vs (hoursS i S)) (vA (hoursS i S) 7) (vA (hoursS i S) 8) (vA (hoursS i S) 9) (vA (hoursS i S) 10) (vA (hoursS i S) 11) (vA (hoursS i S) 12) qt qp) (c_X0_deepenAll (o + 4) (vr (hoursS i S)) (vA (hoursS i S) 3) (vA (hoursS i S) 4) (vA (hoursS i S) 5) (vA (hoursS i S) 6) (snowI f) hIT.1) rfl 0 rfl rfl gX2_letHoursGo_X0_deepenAll rfl ⟨rfl, hd_X0_deepenAll⟩ ⟨rfl, rfl, (Nat.le_of_ble_eq_true rfl), (Nat.le_of_ble_eq_true rfl)⟩ ⟨(Nat.zero_le _), (Nat.zero_le _)⟩ rfl rfl (Nat.le_of_ble_eq_true rfl) dX2_letHoursGo_20 (fun v w1 H locs hp HW => ?_)
        obtain ⟨rfl, rfl⟩ := hp
        have HW : Hw D A s (wVo cI a o (vh (hoursS i S)) (vc (hoursS i S)) (vA (hoursS i S) 0) (vA (hoursS i S) 1) (vA (hoursS i S) 2) ++ (wR cI a (o + 4) (vr (hoursS i S)) (vA (hoursS i S) 3) (vA (hoursS i S) 4) (dpAll (vA (hoursS i S) 5) (snowI f) (vr (hoursS i S))) (vA (hoursS i S) 6) ++ (wS cI a (o + 9) (vs (hoursS i S)) (vA (hoursS i S) 7) (vA (hoursS i S) 8) (vA (hoursS i S) 9) (vA (hoursS i S) 10) (vA (hoursS i S) 11) (vA (hoursS i S) 12) qt qp))) H locs := HW
        refine W.eq (g2 := F0 m 23 ls []) rfl ?_
        have hwe : (dpAll (vA (hoursS i S) 5) (snowI f) (vr (hoursS i S))) = (vA (snowS (hoursS i S)) 5) := (by show _ = dpAll _ (snowI (natI _)) _; rw [ef, natI_nI (by omega)])
        rw [hwe] at HW; clear hwe
        refine lv_iconst (v := 0) hx hb dX2_letHoursGo_23 (by decide) ?_
        refine lv_istore (lv' := [(4, .int (0 : Int32)), (3, .int (nI i)), (2, .int (sumP (hoursS i S) - sumP S)), (1, .int (nI h)), (0, .ref (a o))]) hx hb dX2_letHoursGo_24 hl (Nat.le_of_ble_eq_true rfl) rfl (fun ls hl => ?_)
        refine lv_iload hx hb dX2_letHoursGo_26 (lv_at hl 0 rfl) ?_
        refine lv_iconst (v := 3) hx hb dX2_letHoursGo_28 (by decide) ?_
        refine lv_icmp_ge (tgt := 47) hx hb dX2_letHoursGo_29 (by decide) (fun c29 => ?_) (fun c29 => ?_)
        · exact absurd c29 (by decide)
        · refine lv_iload_n hx hb dX2_letHoursGo_32 rfl (lv_at hl 2 rfl) ?_
          refine lv_aload_n hx hb dX2_letHoursGo_33 rfl (lv_at hl 4 rfl) ?_
          refine lv_iload hx hb dX2_letHoursGo_34 (lv_at hl 0 rfl) ?_
          refine g_callV CX HW hl.1 ([]) ([]) (c_X2_pullAt o (snowS (hoursS i S)) qt qp 0 (Inv_snowS hIT) hRep (by omega) hhT) rfl 0 rfl rfl gX2_letHoursGo_X2_pullAt rfl ⟨rfl, hd_X2_pullAt⟩ ⟨rfl, rfl, (Nat.le_of_ble_eq_true rfl), (Nat.le_of_ble_eq_true rfl)⟩ ⟨(Nat.zero_le _), (Nat.zero_le _)⟩ rfl rfl (Nat.le_of_ble_eq_true rfl) dX2_letHoursGo_36 (fun v w1 H locs hp HW => ?_)
          obtain ⟨qt'_1, qp'_1, hr9_1, rfl, rfl⟩ := hp
          have HW : Hw D A s (wVo cI a o (vh (pullS 0 (snowS (hoursS i S)))) (vc (pullS 0 (snowS (hoursS i S)))) (vA (pullS 0 (snowS (hoursS i S))) 0) (vA (pullS 0 (snowS (hoursS i S))) 1) (vA (pullS 0 (snowS (hoursS i S))) 2) ++ (wR cI a (o + 4) (vr (pullS 0 (snowS (hoursS i S)))) (vA (pullS 0 (snowS (hoursS i S))) 3) (vA (pullS 0 (snowS (hoursS i S))) 4) (vA (pullS 0 (snowS (hoursS i S))) 5) (vA (pullS 0 (snowS (hoursS i S))) 6) ++ (wS cI a (o + 9) (vs (pullS 0 (snowS (hoursS i S)))) (vA (pullS 0 (snowS (hoursS i S))) 7) (vA (pullS 0 (snowS (hoursS i S))) 8) (vA (pullS 0 (snowS (hoursS i S))) 9) (vA (pullS 0 (snowS (hoursS i S))) 10) (vA (pullS 0 (snowS (hoursS i S))) 11) (vA (pullS 0 (snowS (hoursS i S))) 12) qt'_1 qp'_1))) H locs := HW
          refine W.eq (g2 := F0 m 39 ls [.int (vA (pullS 0 (snowS (hoursS i S))) 2 0 - vA (snowS (hoursS i S)) 2 0), .int (sumP (hoursS i S) - sumP S)]) rfl ?_
          have hI1 := Inv_pullS (t := 0) (Inv_snowS hIT) (rep_qok hRep)
          have hQ1 := hr9_1
          refine lv_iadd hx hb dX2_letHoursGo_39 ?_
          refine lv_istore_n (lv' := [(2, .int ((sumP (hoursS i S) - sumP S) + (vA (pullS 0 (snowS (hoursS i S))) 2 0 - vA (snowS (hoursS i S)) 2 0))), (4, .int (0 : Int32)), (3, .int (nI i)), (1, .int (nI h)), (0, .ref (a o))]) hx hb dX2_letHoursGo_40 rfl hl (Nat.le_of_ble_eq_true rfl) rfl (fun ls hl => ?_)
          refine lv_iinc (v := (1 : Int32)) (lv' := [(4, .int (1 : Int32)), (2, .int ((sumP (hoursS i S) - sumP S) + (vA (pullS 0 (snowS (hoursS i S))) 2 0 - vA (snowS (hoursS i S)) 2 0))), (3, .int (nI i)), (1, .int (nI h)), (0, .ref (a o))]) hx hb dX2_letHoursGo_41 hl (k := 1) rfl (by decide) (Nat.le_of_ble_eq_true rfl) rfl (fun ls hl => ?_)
          refine lv_goto (tgt := 26) hx hb dX2_letHoursGo_44 (by decide) ?_
          refine lv_iload hx hb dX2_letHoursGo_26 (lv_at hl 0 rfl) ?_
          refine lv_iconst (v := 3) hx hb dX2_letHoursGo_28 (by decide) ?_
          refine lv_icmp_ge (tgt := 47) hx hb dX2_letHoursGo_29 (by decide) (fun c29 => ?_) (fun c29 => ?_)
          · exact absurd c29 (by decide)
          · refine lv_iload_n hx hb dX2_letHoursGo_32 rfl (lv_at hl 1 rfl) ?_
            refine lv_aload_n hx hb dX2_letHoursGo_33 rfl (lv_at hl 4 rfl) ?_
            refine lv_iload hx hb dX2_letHoursGo_34 (lv_at hl 0 rfl) ?_
            refine g_callV CX HW hl.1 ([]) ([]) (c_X2_pullAt o (pullS 0 (snowS (hoursS i S))) qt'_1 qp'_1 1 hI1 hr9_1 (by omega) (by rw [vh_pullS]; exact hhT)) rfl 0 rfl rfl gX2_letHoursGo_X2_pullAt rfl ⟨rfl, hd_X2_pullAt⟩ ⟨rfl, rfl, (Nat.le_of_ble_eq_true rfl), (Nat.le_of_ble_eq_true rfl)⟩ ⟨(Nat.zero_le _), (Nat.zero_le _)⟩ rfl rfl (Nat.le_of_ble_eq_true rfl) dX2_letHoursGo_36 (fun v w1 H locs hp HW => ?_)
            obtain ⟨qt'_2, qp'_2, hr9_2, rfl, rfl⟩ := hp
            have HW : Hw D A s (wVo cI a o (vh (pullS 1 (pullS 0 (snowS (hoursS i S))))) (vc (pullS 1 (pullS 0 (snowS (hoursS i S))))) (vA (pullS 1 (pullS 0 (snowS (hoursS i S)))) 0) (vA (pullS 1 (pullS 0 (snowS (hoursS i S)))) 1) (vA (pullS 1 (pullS 0 (snowS (hoursS i S)))) 2) ++ (wR cI a (o + 4) (vr (pullS 1 (pullS 0 (snowS (hoursS i S))))) (vA (pullS 1 (pullS 0 (snowS (hoursS i S)))) 3) (vA (pullS 1 (pullS 0 (snowS (hoursS i S)))) 4) (vA (pullS 1 (pullS 0 (snowS (hoursS i S)))) 5) (vA (pullS 1 (pullS 0 (snowS (hoursS i S)))) 6) ++ (wS cI a (o + 9) (vs (pullS 1 (pullS 0 (snowS (hoursS i S))))) (vA (pullS 1 (pullS 0 (snowS (hoursS i S)))) 7) (vA (pullS 1 (pullS 0 (snowS (hoursS i S)))) 8) (vA (pullS 1 (pullS 0 (snowS (hoursS i S)))) 9) (vA (pullS 1 (pullS 0 (snowS (hoursS i S)))) 10) (vA (pullS 1 (pullS 0 (snowS (hoursS i S)))) 11) (vA (pullS 1 (pullS 0 (snowS (hoursS i S)))) 12) qt'_2 qp'_2))) H locs := HW
            refine W.eq (g2 := F0 m 39 ls [.int (vA (pullS 1 (pullS 0 (snowS (hoursS i S)))) 2 1 - vA (pullS 0 (snowS (hoursS i S))) 2 1), .int ((sumP (hoursS i S) - sumP S) + (vA (pullS 0 (snowS (hoursS i S))) 2 0 - vA (snowS (hoursS i S)) 2 0))]) rfl ?_
            have hI2 := Inv_pullS (t := 1) hI1 (rep_qok hQ1)
            have hQ2 := hr9_2
            refine lv_iadd hx hb dX2_letHoursGo_39 ?_
            refine lv_istore_n (lv' := [(2, .int (((sumP (hoursS i S) - sumP S) + (vA (pullS 0 (snowS (hoursS i S))) 2 0 - vA (snowS (hoursS i S)) 2 0)) + (vA (pullS 1 (pullS 0 (snowS (hoursS i S)))) 2 1 - vA (pullS 0 (snowS (hoursS i S))) 2 1))), (4, .int (1 : Int32)), (3, .int (nI i)), (1, .int (nI h)), (0, .ref (a o))]) hx hb dX2_letHoursGo_40 rfl hl (Nat.le_of_ble_eq_true rfl) rfl (fun ls hl => ?_)
            refine lv_iinc (v := (2 : Int32)) (lv' := [(4, .int (2 : Int32)), (2, .int (((sumP (hoursS i S) - sumP S) + (vA (pullS 0 (snowS (hoursS i S))) 2 0 - vA (snowS (hoursS i S)) 2 0)) + (vA (pullS 1 (pullS 0 (snowS (hoursS i S)))) 2 1 - vA (pullS 0 (snowS (hoursS i S))) 2 1))), (3, .int (nI i)), (1, .int (nI h)), (0, .ref (a o))]) hx hb dX2_letHoursGo_41 hl (k := 1) rfl (by decide) (Nat.le_of_ble_eq_true rfl) rfl (fun ls hl => ?_)
            refine lv_goto (tgt := 26) hx hb dX2_letHoursGo_44 (by decide) ?_
            refine lv_iload hx hb dX2_letHoursGo_26 (lv_at hl 0 rfl) ?_
            refine lv_iconst (v := 3) hx hb dX2_letHoursGo_28 (by decide) ?_
            refine lv_icmp_ge (tgt := 47) hx hb dX2_letHoursGo_29 (by decide) (fun c29 => ?_) (fun c29 => ?_)
            · exact absurd c29 (by decide)
            · refine lv_iload_n hx hb dX2_letHoursGo_32 rfl (lv_at hl 1 rfl) ?_
              refine lv_aload_n hx hb dX2_letHoursGo_33 rfl (lv_at hl 4 rfl) ?_
              refine lv_iload hx hb dX2_letHoursGo_34 (lv_at hl 0 rfl) ?_
              refine g_callV CX HW hl.1 ([]) ([]) (c_X2_pullAt o (pullS 1 (pullS 0 (snowS (hoursS i S)))) qt'_2 qp'_2 2 hI2 hr9_2 (by omega) (by rw [vh_pullS, vh_pullS]; exact hhT)) rfl 0 rfl rfl gX2_letHoursGo_X2_pullAt rfl ⟨rfl, hd_X2_pullAt⟩ ⟨rfl, rfl, (Nat.le_of_ble_eq_true rfl), (Nat.le_of_ble_eq_true rfl)⟩ ⟨(Nat.zero_le _), (Nat.zero_le _)⟩ rfl rfl (Nat.le_of_ble_eq_true rfl) dX2_letHoursGo_36 (fun v w1 H locs hp HW => ?_)
              obtain ⟨qt'_3, qp'_3, hr9_3, rfl, rfl⟩ := hp
              have HW : Hw D A s (wVo cI a o (vh (pullS 2 (pullS 1 (pullS 0 (snowS (hoursS i S)))))) (vc (pullS 2 (pullS 1 (pullS 0 (snowS (hoursS i S)))))) (vA (pullS 2 (pullS 1 (pullS 0 (snowS (hoursS i S))))) 0) (vA (pullS 2 (pullS 1 (pullS 0 (snowS (hoursS i S))))) 1) (vA (pullS 2 (pullS 1 (pullS 0 (snowS (hoursS i S))))) 2) ++ (wR cI a (o + 4) (vr (pullS 2 (pullS 1 (pullS 0 (snowS (hoursS i S)))))) (vA (pullS 2 (pullS 1 (pullS 0 (snowS (hoursS i S))))) 3) (vA (pullS 2 (pullS 1 (pullS 0 (snowS (hoursS i S))))) 4) (vA (pullS 2 (pullS 1 (pullS 0 (snowS (hoursS i S))))) 5) (vA (pullS 2 (pullS 1 (pullS 0 (snowS (hoursS i S))))) 6) ++ (wS cI a (o + 9) (vs (pullS 2 (pullS 1 (pullS 0 (snowS (hoursS i S)))))) (vA (pullS 2 (pullS 1 (pullS 0 (snowS (hoursS i S))))) 7) (vA (pullS 2 (pullS 1 (pullS 0 (snowS (hoursS i S))))) 8) (vA (pullS 2 (pullS 1 (pullS 0 (snowS (hoursS i S))))) 9) (vA (pullS 2 (pullS 1 (pullS 0 (snowS (hoursS i S))))) 10) (vA (pullS 2 (pullS 1 (pullS 0 (snowS (hoursS i S))))) 11) (vA (pullS 2 (pullS 1 (pullS 0 (snowS (hoursS i S))))) 12) qt'_3 qp'_3))) H locs := HW
              refine W.eq (g2 := F0 m 39 ls [.int (vA (pullS 2 (pullS 1 (pullS 0 (snowS (hoursS i S))))) 2 2 - vA (pullS 1 (pullS 0 (snowS (hoursS i S)))) 2 2), .int (((sumP (hoursS i S) - sumP S) + (vA (pullS 0 (snowS (hoursS i S))) 2 0 - vA (snowS (hoursS i S)) 2 0)) + (vA (pullS 1 (pullS 0 (snowS (hoursS i S)))) 2 1 - vA (pullS 0 (snowS (hoursS i S))) 2 1))]) rfl ?_
              have hQ3 := hr9_3
              refine lv_iadd hx hb dX2_letHoursGo_39 ?_
              refine lv_istore_n (lv' := [(2, .int ((((sumP (hoursS i S) - sumP S) + (vA (pullS 0 (snowS (hoursS i S))) 2 0 - vA (snowS (hoursS i S)) 2 0)) + (vA (pullS 1 (pullS 0 (snowS (hoursS i S)))) 2 1 - vA (pullS 0 (snowS (hoursS i S))) 2 1)) + (vA (pullS 2 (pullS 1 (pullS 0 (snowS (hoursS i S))))) 2 2 - vA (pullS 1 (pullS 0 (snowS (hoursS i S)))) 2 2))), (4, .int (2 : Int32)), (3, .int (nI i)), (1, .int (nI h)), (0, .ref (a o))]) hx hb dX2_letHoursGo_40 rfl hl (Nat.le_of_ble_eq_true rfl) rfl (fun ls hl => ?_)
              refine lv_iinc (v := (3 : Int32)) (lv' := [(4, .int (3 : Int32)), (2, .int ((((sumP (hoursS i S) - sumP S) + (vA (pullS 0 (snowS (hoursS i S))) 2 0 - vA (snowS (hoursS i S)) 2 0)) + (vA (pullS 1 (pullS 0 (snowS (hoursS i S)))) 2 1 - vA (pullS 0 (snowS (hoursS i S))) 2 1)) + (vA (pullS 2 (pullS 1 (pullS 0 (snowS (hoursS i S))))) 2 2 - vA (pullS 1 (pullS 0 (snowS (hoursS i S)))) 2 2))), (3, .int (nI i)), (1, .int (nI h)), (0, .ref (a o))]) hx hb dX2_letHoursGo_41 hl (k := 1) rfl (by decide) (Nat.le_of_ble_eq_true rfl) rfl (fun ls hl => ?_)
              refine lv_goto (tgt := 26) hx hb dX2_letHoursGo_44 (by decide) ?_
              refine lv_iload hx hb dX2_letHoursGo_26 (lv_at hl 0 rfl) ?_
              refine lv_iconst (v := 3) hx hb dX2_letHoursGo_28 (by decide) ?_
              refine lv_icmp_ge (tgt := 47) hx hb dX2_letHoursGo_29 (by decide) (fun c29 => ?_) (fun c29 => ?_)
              · refine lv_aload_n hx hb dX2_letHoursGo_47 rfl (lv_at hl 4 rfl) ?_
                refine lv_dup hx hb dX2_letHoursGo_48 rfl ?_
                refine g_get CX HW in_X2_letHoursGo_2 0 0 rfl rfl (Nat.le_of_ble_eq_true rfl) fl_X2_letHoursGo_9 rfl dX2_letHoursGo_49 ?_
                refine lv_iconst (v := 1) hx hb dX2_letHoursGo_52 (by decide) ?_
                refine lv_iadd hx hb dX2_letHoursGo_53 ?_
                refine g_top (y := (nI (vh (pullS 2 (pullS 1 (pullS 0 (snowS (hoursS i S))))) + 1))) (nI_1 _) ?_
                refine g_put CX HW in_X2_letHoursGo_2 tyX2 tyX2_ok nmX2 0 0 rfl rfl (Nat.le_of_ble_eq_true rfl) fl_X2_letHoursGo_9 rfl rfl rfl (Nat.le_of_ble_eq_true rfl) dX2_letHoursGo_54 (fun H locs HW => ?_)
                have HW : Hw D A s (wVo cI a o (vh (pullS 2 (pullS 1 (pullS 0 (snowS (hoursS i S))))) + 1) (vc (pullS 2 (pullS 1 (pullS 0 (snowS (hoursS i S)))))) (vA (pullS 2 (pullS 1 (pullS 0 (snowS (hoursS i S))))) 0) (vA (pullS 2 (pullS 1 (pullS 0 (snowS (hoursS i S))))) 1) (vA (pullS 2 (pullS 1 (pullS 0 (snowS (hoursS i S))))) 2) ++ (wR cI a (o + 4) (vr (pullS 2 (pullS 1 (pullS 0 (snowS (hoursS i S)))))) (vA (pullS 2 (pullS 1 (pullS 0 (snowS (hoursS i S))))) 3) (vA (pullS 2 (pullS 1 (pullS 0 (snowS (hoursS i S))))) 4) (vA (pullS 2 (pullS 1 (pullS 0 (snowS (hoursS i S))))) 5) (vA (pullS 2 (pullS 1 (pullS 0 (snowS (hoursS i S))))) 6) ++ (wS cI a (o + 9) (vs (pullS 2 (pullS 1 (pullS 0 (snowS (hoursS i S)))))) (vA (pullS 2 (pullS 1 (pullS 0 (snowS (hoursS i S))))) 7) (vA (pullS 2 (pullS 1 (pullS 0 (snowS (hoursS i S))))) 8) (vA (pullS 2 (pullS 1 (pullS 0 (snowS (hoursS i S))))) 9) (vA (pullS 2 (pullS 1 (pullS 0 (snowS (hoursS i S))))) 10) (vA (pullS 2 (pullS 1 (pullS 0 (snowS (hoursS i S))))) 11) (vA (pullS 2 (pullS 1 (pullS 0 (snowS (hoursS i S))))) 12) qt'_3 qp'_3))) H locs := HW
                refine lv_iinc (v := (nI (i + 1))) (lv' := [(3, .int (nI (i + 1))), (4, .int (3 : Int32)), (2, .int ((((sumP (hoursS i S) - sumP S) + (vA (pullS 0 (snowS (hoursS i S))) 2 0 - vA (snowS (hoursS i S)) 2 0)) + (vA (pullS 1 (pullS 0 (snowS (hoursS i S)))) 2 1 - vA (pullS 0 (snowS (hoursS i S))) 2 1)) + (vA (pullS 2 (pullS 1 (pullS 0 (snowS (hoursS i S))))) 2 2 - vA (pullS 1 (pullS 0 (snowS (hoursS i S)))) 2 2))), (1, .int (nI h)), (0, .ref (a o))]) hx hb dX2_letHoursGo_57 hl (k := 2) rfl (inc1 _) (Nat.le_of_ble_eq_true rfl) rfl (fun ls hl => ?_)
                refine lv_goto (tgt := 4) hx hb dX2_letHoursGo_60 (by decide) ?_
                have hl9 : ((((sumP (hoursS i S) - sumP S) + (vA (pullS 0 (snowS (hoursS i S))) 2 0 - vA (snowS (hoursS i S)) 2 0)) + (vA (pullS 1 (pullS 0 (snowS (hoursS i S)))) 2 1 - vA (pullS 0 (snowS (hoursS i S))) 2 1)) + (vA (pullS 2 (pullS 1 (pullS 0 (snowS (hoursS i S))))) 2 2 - vA (pullS 1 (pullS 0 (snowS (hoursS i S)))) 2 2)) = sumP (hoursS (i + 1) S) - sumP S := hour_sum (hoursS i S) (sumP S)
                rw [hl9] at hl
                have HW : Hw D A s (wVo cI a o (vh (hoursS (i + 1) S)) (vc (hoursS (i + 1) S)) (vA (hoursS (i + 1) S) 0) (vA (hoursS (i + 1) S) 1) (vA (hoursS (i + 1) S) 2) ++ (wR cI a (o + 4) (vr (hoursS (i + 1) S)) (vA (hoursS (i + 1) S) 3) (vA (hoursS (i + 1) S) 4) (vA (hoursS (i + 1) S) 5) (vA (hoursS (i + 1) S) 6) ++ (wS cI a (o + 9) (vs (hoursS (i + 1) S)) (vA (hoursS (i + 1) S) 7) (vA (hoursS (i + 1) S) 8) (vA (hoursS (i + 1) S) 9) (vA (hoursS (i + 1) S) 10) (vA (hoursS (i + 1) S) 11) (vA (hoursS (i + 1) S) 12) qt'_3 qp'_3))) H locs := by rw [show hoursS (i + 1) S = incS (pullS 2 (pullS 1 (pullS 0 (snowS (hoursS i S))))) from rfl]; exact hw_inc _ HW
                exact ih _ (by omega) (i + 1) _ _ rfl (by omega) hQ3 _ _ _ HW (lv_sub hl [0, 2, 3, 4] rfl)
              · exact absurd c29 (by decide)
  have hl0 : (0 : Int32) = sumP (hoursS 0 S) - sumP S := (Int32.sub_self _).symm
  refine lv_iconst (v := 0) hx hb dX2_letHoursGo_0 (by decide) ?_
  refine lv_istore_n (lv' := [(2, .int (0 : Int32)), (0, .ref (a o)), (1, .int (nI h))]) hx hb dX2_letHoursGo_1 rfl hl (Nat.le_of_ble_eq_true rfl) rfl (fun ls hl => ?_)
  refine lv_iconst (v := 0) hx hb dX2_letHoursGo_2 (by decide) ?_
  refine lv_istore_n (lv' := [(3, .int (0 : Int32)), (2, .int (0 : Int32)), (0, .ref (a o)), (1, .int (nI h))]) hx hb dX2_letHoursGo_3 rfl hl (Nat.le_of_ble_eq_true rfl) rfl (fun ls hl => ?_)
  have hl : lv_has ls 5 [(3, .int (0 : Int32)), (2, .int (sumP (hoursS 0 S) - sumP S)), (0, .ref (a o)), (1, .int (nI h))] := by rw [← hl0]; exact hl
  exact loop _ 0 qt qp rfl (by omega) hR _ _ _ HW (lv_sub hl [0, 1, 3, 2] rfl)

theorem hd_X2_allRides : yX2_allRides.cls ≠ "java/lang/invoke/MethodHandle" ∧ yX2_allRides.cls ≠ "java/lang/invoke/VarHandle" ∧ (parseMethodDescriptor yX2_allRides.desc).map (fun d => d.parameters.length) = some 0 := by decide +kernel
theorem fl_X2_allRides_25 : Cond.fieldLink RX2 25 (TX2 4).1 (TX2 4).2.1 (TX2 4).2.2.1 ∈ wsX2_allRides := by decide +kernel
theorem in_X2_allRides_2 : ∀ x ∈ u_ws RX2 TX2 7, x ∈ wsX2_allRides := by decide +kernel
set_option maxRecDepth 100000 in
set_option maxHeartbeats 4000000 in
theorem c_X2_allRides {l : Launch} {D : va_G} {cI cL : ClassId} {a : Nat → Nat} (o : Nat) (S : VS) (qt : Nat → Int32) (qp : Nat → Int32) : Ct l yX2_allRides wsX2_allRides { frames := 0, cells := 0, slots := 0, locals := 0 } D (ty2 cI cL) [.ref (a o)] (wVo cI a o (vh S) (vc S) (vA S 0) (vA S 1) (vA S 2) ++ (wR cI a (o + 4) (vr S) (vA S 3) (vA S 4) (vA S 5) (vA S 6) ++ (wS cI a (o + 9) (vs S) (vA S 7) (vA S 8) (vA S 9) (vA S 10) (vA S 11) (vA S 12) qt qp))) (fun v w' => v = some (.int (sumP S)) ∧ w' = wVo cI a o (vh S) (vc S) (vA S 0) (vA S 1) (vA S 2) ++ (wR cI a (o + 4) (vr S) (vA S 3) (vA S 4) (vA S 5) (vA S 6) ++ (wS cI a (o + 9) (vs S) (vA S 7) (vA S 8) (vA S 9) (vA S 10) (vA S 11) (vA S 12) qt qp))) 0 0 := by
  refine Ct.of (cc := cX2_allRides) (maxL := 3) (ret := (some .int)) (by decide) rfl (Nat.le_of_ble_eq_true rfl) ?_
  intro p e s m below meth c A ls CX hin HW hl
  obtain ⟨hx, hb, hml, hr, hown, hts, hK, hA, hlk⟩ := id CX
  have hl : lv_has ls 3 [(0, .ref (a o))] := hl
  refine lv_iconst (v := 0) hx hb dX2_allRides_0 (by decide) ?_
  refine lv_istore_n (lv' := [(1, .int (0 : Int32)), (0, .ref (a o))]) hx hb dX2_allRides_1 rfl hl (Nat.le_of_ble_eq_true rfl) rfl (fun ls hl => ?_)
  refine lv_iconst (v := 0) hx hb dX2_allRides_2 (by decide) ?_
  refine lv_istore_n (lv' := [(2, .int (0 : Int32)), (1, .int (0 : Int32)), (0, .ref (a o))]) hx hb dX2_allRides_3 rfl hl (Nat.le_of_ble_eq_true rfl) rfl (fun ls hl => ?_)
  refine lv_iload_n hx hb dX2_allRides_4 rfl (lv_at hl 0 rfl) ?_
  refine lv_iconst (v := 3) hx hb dX2_allRides_5 (by decide) ?_
  refine lv_icmp_ge (tgt := 24) hx hb dX2_allRides_6 (by decide) (fun c6 => ?_) (fun c6 => ?_)
  · exact absurd c6 (by decide)
  · refine lv_iload_n hx hb dX2_allRides_9 rfl (lv_at hl 1 rfl) ?_
    refine lv_aload_n hx hb dX2_allRides_10 rfl (lv_at hl 2 rfl) ?_
    refine g_get CX HW in_X2_allRides_2 0 4 rfl rfl (Nat.le_of_ble_eq_true rfl) fl_X2_allRides_25 rfl dX2_allRides_11 ?_
    refine lv_iload_n hx hb dX2_allRides_14 rfl (lv_at hl 0 rfl) ?_
    refine g_ald CX HW 3 (k := 0) rfl rfl rfl (Nat.le_of_ble_eq_true rfl) (Nat.le_of_ble_eq_true rfl) dX2_allRides_15 ?_
    refine lv_iadd hx hb dX2_allRides_16 ?_
    refine lv_istore_n (lv' := [(1, .int ((0 : Int32) + (vA S 2 0))), (2, .int (0 : Int32)), (0, .ref (a o))]) hx hb dX2_allRides_17 rfl hl (Nat.le_of_ble_eq_true rfl) rfl (fun ls hl => ?_)
    refine lv_iinc (v := (1 : Int32)) (lv' := [(2, .int (1 : Int32)), (1, .int ((0 : Int32) + (vA S 2 0))), (0, .ref (a o))]) hx hb dX2_allRides_18 hl (k := 1) rfl (by decide) (Nat.le_of_ble_eq_true rfl) rfl (fun ls hl => ?_)
    refine lv_goto (tgt := 4) hx hb dX2_allRides_21 (by decide) ?_
    refine lv_iload_n hx hb dX2_allRides_4 rfl (lv_at hl 0 rfl) ?_
    refine lv_iconst (v := 3) hx hb dX2_allRides_5 (by decide) ?_
    refine lv_icmp_ge (tgt := 24) hx hb dX2_allRides_6 (by decide) (fun c6 => ?_) (fun c6 => ?_)
    · exact absurd c6 (by decide)
    · refine lv_iload_n hx hb dX2_allRides_9 rfl (lv_at hl 1 rfl) ?_
      refine lv_aload_n hx hb dX2_allRides_10 rfl (lv_at hl 2 rfl) ?_
      refine g_get CX HW in_X2_allRides_2 0 4 rfl rfl (Nat.le_of_ble_eq_true rfl) fl_X2_allRides_25 rfl dX2_allRides_11 ?_
      refine lv_iload_n hx hb dX2_allRides_14 rfl (lv_at hl 0 rfl) ?_
      refine g_ald CX HW 3 (k := 1) rfl rfl rfl (Nat.le_of_ble_eq_true rfl) (Nat.le_of_ble_eq_true rfl) dX2_allRides_15 ?_
      refine lv_iadd hx hb dX2_allRides_16 ?_
      refine lv_istore_n (lv' := [(1, .int (((0 : Int32) + (vA S 2 0)) + (vA S 2 1))), (2, .int (1 : Int32)), (0, .ref (a o))]) hx hb dX2_allRides_17 rfl hl (Nat.le_of_ble_eq_true rfl) rfl (fun ls hl => ?_)
      refine lv_iinc (v := (2 : Int32)) (lv' := [(2, .int (2 : Int32)), (1, .int (((0 : Int32) + (vA S 2 0)) + (vA S 2 1))), (0, .ref (a o))]) hx hb dX2_allRides_18 hl (k := 1) rfl (by decide) (Nat.le_of_ble_eq_true rfl) rfl (fun ls hl => ?_)
      refine lv_goto (tgt := 4) hx hb dX2_allRides_21 (by decide) ?_
      refine lv_iload_n hx hb dX2_allRides_4 rfl (lv_at hl 0 rfl) ?_
      refine lv_iconst (v := 3) hx hb dX2_allRides_5 (by decide) ?_
      refine lv_icmp_ge (tgt := 24) hx hb dX2_allRides_6 (by decide) (fun c6 => ?_) (fun c6 => ?_)
      · exact absurd c6 (by decide)
      · refine lv_iload_n hx hb dX2_allRides_9 rfl (lv_at hl 1 rfl) ?_
        refine lv_aload_n hx hb dX2_allRides_10 rfl (lv_at hl 2 rfl) ?_
        refine g_get CX HW in_X2_allRides_2 0 4 rfl rfl (Nat.le_of_ble_eq_true rfl) fl_X2_allRides_25 rfl dX2_allRides_11 ?_
        refine lv_iload_n hx hb dX2_allRides_14 rfl (lv_at hl 0 rfl) ?_
        refine g_ald CX HW 3 (k := 2) rfl rfl rfl (Nat.le_of_ble_eq_true rfl) (Nat.le_of_ble_eq_true rfl) dX2_allRides_15 ?_
        refine lv_iadd hx hb dX2_allRides_16 ?_
        refine lv_istore_n (lv' := [(1, .int ((((0 : Int32) + (vA S 2 0)) + (vA S 2 1)) + (vA S 2 2))), (2, .int (2 : Int32)), (0, .ref (a o))]) hx hb dX2_allRides_17 rfl hl (Nat.le_of_ble_eq_true rfl) rfl (fun ls hl => ?_)
        refine lv_iinc (v := (3 : Int32)) (lv' := [(2, .int (3 : Int32)), (1, .int ((((0 : Int32) + (vA S 2 0)) + (vA S 2 1)) + (vA S 2 2))), (0, .ref (a o))]) hx hb dX2_allRides_18 hl (k := 1) rfl (by decide) (Nat.le_of_ble_eq_true rfl) rfl (fun ls hl => ?_)
        refine lv_goto (tgt := 4) hx hb dX2_allRides_21 (by decide) ?_
        refine lv_iload_n hx hb dX2_allRides_4 rfl (lv_at hl 0 rfl) ?_
        refine lv_iconst (v := 3) hx hb dX2_allRides_5 (by decide) ?_
        refine lv_icmp_ge (tgt := 24) hx hb dX2_allRides_6 (by decide) (fun c6 => ?_) (fun c6 => ?_)
        · refine lv_iload_n hx hb dX2_allRides_24 rfl (lv_at hl 1 rfl) ?_
          exact g_iret CX HW rfl ⟨rfl, rfl⟩ dX2_allRides_25
        · exact absurd c6 (by decide)

theorem hd_X2_towFigure : yX2_towFigure.cls ≠ "java/lang/invoke/MethodHandle" ∧ yX2_towFigure.cls ≠ "java/lang/invoke/VarHandle" ∧ (parseMethodDescriptor yX2_towFigure.desc).map (fun d => d.parameters.length) = some 2 := by decide +kernel
theorem fl_X2_towFigure_22 : Cond.fieldLink RX2 22 (TX2 3).1 (TX2 3).2.1 (TX2 3).2.2.1 ∈ wsX2_towFigure := by decide +kernel
theorem in_X2_towFigure_2 : ∀ x ∈ u_ws RX2 TX2 7, x ∈ wsX2_towFigure := by decide +kernel
theorem fl_X2_towFigure_38 : Cond.fieldLink RX2 38 (TX2 6).1 (TX2 6).2.1 (TX2 6).2.2.1 ∈ wsX2_towFigure := by decide +kernel
theorem fl_X2_towFigure_25 : Cond.fieldLink RX2 25 (TX2 4).1 (TX2 4).2.1 (TX2 4).2.2.1 ∈ wsX2_towFigure := by decide +kernel
set_option maxRecDepth 100000 in
set_option maxHeartbeats 4000000 in
theorem c_X2_towFigure {l : Launch} {D : va_G} {cI cL : ClassId} {a : Nat → Nat} (o : Nat) (S : VS) (qt : Nat → Int32) (qp : Nat → Int32) (t : Nat) (what : Nat) (hR : Rep (vs S) (vq S) qt qp) (hn : vs S ≤ 8) (ht : t < 3) (hw3 : what < 3) : Ct l yX2_towFigure wsX2_towFigure { frames := 1, cells := 0, slots := 0, locals := 23 } D (ty2 cI cL) [.ref (a o), .int (nI t), .int (nI what)] (wVo cI a o (vh S) (vc S) (vA S 0) (vA S 1) (vA S 2) ++ (wR cI a (o + 4) (vr S) (vA S 3) (vA S 4) (vA S 5) (vA S 6) ++ (wS cI a (o + 9) (vs S) (vA S 7) (vA S 8) (vA S 9) (vA S 10) (vA S 11) (vA S 12) qt qp))) (fun v w' => v = some (.int (figT S t what)) ∧ w' = wVo cI a o (vh S) (vc S) (vA S 0) (vA S 1) (vA S 2) ++ (wR cI a (o + 4) (vr S) (vA S 3) (vA S 4) (vA S 5) (vA S 6) ++ (wS cI a (o + 9) (vs S) (vA S 7) (vA S 8) (vA S 9) (vA S 10) (vA S 11) (vA S 12) qt qp))) 0 0 := by
  refine Ct.of (cc := cX2_towFigure) (maxL := 3) (ret := (some .int)) (by decide) rfl (Nat.le_of_ble_eq_true rfl) ?_
  intro p e s m below meth c A ls CX hin HW hl
  obtain ⟨hx, hb, hml, hr, hown, hts, hK, hA, hlk⟩ := id CX
  have hl : lv_has ls 3 [(0, .ref (a o)), (1, .int (nI t)), (2, .int (nI what))] := hl
  refine lv_iload_n hx hb dX2_towFigure_0 rfl (lv_at hl 2 rfl) ?_
  rcases (by omega : what = 0 ∨ what = 1 ∨ what = 2) with rfl | rfl | rfl
  · refine lv_lookup (off := 27) (tgt := 28) hx hb dX2_towFigure_1 (by decide) (by decide) (by decide) ?_
    refine lv_aload_n hx hb dX2_towFigure_28 rfl (lv_at hl 0 rfl) ?_
    refine g_get CX HW in_X2_towFigure_2 0 3 rfl rfl (Nat.le_of_ble_eq_true rfl) fl_X2_towFigure_22 rfl dX2_towFigure_29 ?_
    refine lv_iload_n hx hb dX2_towFigure_32 rfl (lv_at hl 1 rfl) ?_
    refine g_ald CX HW 2 (k := t) rfl rfl rfl (by omega) (Nat.le_of_ble_eq_true rfl) dX2_towFigure_33 ?_
    exact g_iret CX HW rfl ⟨rfl, rfl⟩ dX2_towFigure_34
  · refine lv_lookup (off := 34) (tgt := 35) hx hb dX2_towFigure_1 (by decide) (by decide) (by decide) ?_
    refine lv_aload_n hx hb dX2_towFigure_35 rfl (lv_at hl 0 rfl) ?_
    refine g_get CX HW in_X2_towFigure_2 0 6 rfl rfl (Nat.le_of_ble_eq_true rfl) fl_X2_towFigure_38 rfl dX2_towFigure_36 ?_
    refine lv_iload_n hx hb dX2_towFigure_39 rfl (lv_at hl 1 rfl) ?_
    refine g_callV CX HW hl.1 (wVo cI a o (vh S) (vc S) (vA S 0) (vA S 1) (vA S 2) ++ (wR cI a (o + 4) (vr S) (vA S 3) (vA S 4) (vA S 5) (vA S 6))) ([]) (c_X1_waitingAt (o + 9) (vs S) (vA S 7) (vA S 8) (vA S 9) (vA S 10) (vA S 11) (vA S 12) qt qp (nI t) hn) rfl 0 rfl rfl gX2_towFigure_X1_waitingAt rfl ⟨rfl, hd_X1_waitingAt⟩ ⟨rfl, rfl, (Nat.le_of_ble_eq_true rfl), (Nat.le_of_ble_eq_true rfl)⟩ ⟨(Nat.zero_le _), (Nat.zero_le _)⟩ rfl rfl (Nat.le_of_ble_eq_true rfl) dX2_towFigure_40 (fun v w1 H locs hp HW => ?_)
    obtain ⟨rfl, rfl⟩ := hp
    have HW : Hw D A s (wVo cI a o (vh S) (vc S) (vA S 0) (vA S 1) (vA S 2) ++ (wR cI a (o + 4) (vr S) (vA S 3) (vA S 4) (vA S 5) (vA S 6) ++ (wS cI a (o + 9) (vs S) (vA S 7) (vA S 8) (vA S 9) (vA S 10) (vA S 11) (vA S 12) qt qp))) H locs := HW
    refine W.eq (g2 := F0 m 43 ls [.int (nI (cntE qt (nI t) (vs S)))]) rfl ?_
    refine g_top (y := (nI (vq S t).length)) (by rw [hR.2.2 t ht]) ?_
    exact g_iret CX HW rfl ⟨rfl, rfl⟩ dX2_towFigure_43
  · refine lv_lookup (off := 43) (tgt := 44) hx hb dX2_towFigure_1 (by decide) (by decide) (by decide) ?_
    refine lv_aload_n hx hb dX2_towFigure_44 rfl (lv_at hl 0 rfl) ?_
    refine g_get CX HW in_X2_towFigure_2 0 4 rfl rfl (Nat.le_of_ble_eq_true rfl) fl_X2_towFigure_25 rfl dX2_towFigure_45 ?_
    refine lv_iload_n hx hb dX2_towFigure_48 rfl (lv_at hl 1 rfl) ?_
    refine g_ald CX HW 3 (k := t) rfl rfl rfl (by omega) (Nat.le_of_ble_eq_true rfl) dX2_towFigure_49 ?_
    exact g_iret CX HW rfl ⟨rfl, rfl⟩ dX2_towFigure_50

theorem hd_X2_figure : yX2_figure.cls ≠ "java/lang/invoke/MethodHandle" ∧ yX2_figure.cls ≠ "java/lang/invoke/VarHandle" ∧ (parseMethodDescriptor yX2_figure.desc).map (fun d => d.parameters.length) = some 1 := by decide +kernel
theorem fl_X2_figure_9 : Cond.fieldLink RX2 9 (TX2 0).1 (TX2 0).2.1 (TX2 0).2.2.1 ∈ wsX2_figure := by decide +kernel
theorem in_X2_figure_2 : ∀ x ∈ u_ws RX2 TX2 7, x ∈ wsX2_figure := by decide +kernel
theorem fl_X2_figure_15 : Cond.fieldLink RX2 15 (TX2 1).1 (TX2 1).2.1 (TX2 1).2.2.1 ∈ wsX2_figure := by decide +kernel
theorem fl_X2_figure_31 : Cond.fieldLink RX2 31 (TX2 5).1 (TX2 5).2.1 (TX2 5).2.2.1 ∈ wsX2_figure := by decide +kernel
theorem fl_X2_figure_124 : Cond.fieldLink RX2 124 (TX0 0).1 (TX0 0).2.1 (TX0 0).2.2.1 ∈ wsX2_figure := by decide +kernel
theorem in_X2_figure_0 : ∀ x ∈ u_ws RX0 TX0 5, x ∈ wsX2_figure := by decide +kernel
theorem fl_X2_figure_38 : Cond.fieldLink RX2 38 (TX2 6).1 (TX2 6).2.1 (TX2 6).2.2.1 ∈ wsX2_figure := by decide +kernel
theorem fl_X2_figure_127 : Cond.fieldLink RX2 127 (TX1 0).1 (TX1 0).2.1 (TX1 0).2.2.1 ∈ wsX2_figure := by decide +kernel
theorem in_X2_figure_1 : ∀ x ∈ u_ws RX1 TX1 9, x ∈ wsX2_figure := by decide +kernel
set_option maxRecDepth 100000 in
set_option maxHeartbeats 4000000 in
theorem c_X2_figure {l : Launch} {D : va_G} {cI cL : ClassId} {a : Nat → Nat} (o : Nat) (S : VS) (qt : Nat → Int32) (qp : Nat → Int32) (what : Nat) (hR : Rep (vs S) (vq S) qt qp) (hr6 : vr S ≤ 6) (hn : vs S ≤ 8) (hh : vh S < 2 ^ 31) (hw9 : what < 9) : Ct l yX2_figure wsX2_figure { frames := 2, cells := 0, slots := 0, locals := 43 } D (ty2 cI cL) [.ref (a o), .int (nI what)] (wVo cI a o (vh S) (vc S) (vA S 0) (vA S 1) (vA S 2) ++ (wR cI a (o + 4) (vr S) (vA S 3) (vA S 4) (vA S 5) (vA S 6) ++ (wS cI a (o + 9) (vs S) (vA S 7) (vA S 8) (vA S 9) (vA S 10) (vA S 11) (vA S 12) qt qp))) (fun v w' => v = some (.int (figV S what)) ∧ w' = wVo cI a o (vh S) (vc S) (vA S 0) (vA S 1) (vA S 2) ++ (wR cI a (o + 4) (vr S) (vA S 3) (vA S 4) (vA S 5) (vA S 6) ++ (wS cI a (o + 9) (vs S) (vA S 7) (vA S 8) (vA S 9) (vA S 10) (vA S 11) (vA S 12) qt qp))) 0 0 := by
  refine Ct.of (cc := cX2_figure) (maxL := 2) (ret := (some .int)) (by decide) rfl (Nat.le_of_ble_eq_true rfl) ?_
  intro p e s m below meth c A ls CX hin HW hl
  obtain ⟨hx, hb, hml, hr, hown, hts, hK, hA, hlk⟩ := id CX
  have hl : lv_has ls 2 [(0, .ref (a o)), (1, .int (nI what))] := hl
  refine lv_iload_n hx hb dX2_figure_0 rfl (lv_at hl 1 rfl) ?_
  rcases (by omega : what = 0 ∨ what = 1 ∨ what = 2 ∨ what = 3 ∨ what = 4 ∨ what = 5 ∨ what = 6 ∨ what = 7 ∨ what = 8) with rfl | rfl | rfl | rfl | rfl | rfl | rfl | rfl | rfl
  · refine lv_tableIn (off := 47) (tgt := 48) hx hb dX2_figure_1 (by decide) (by decide) (by decide) (by decide) ?_
    refine lv_aload_n hx hb dX2_figure_48 rfl (lv_at hl 0 rfl) ?_
    refine g_get CX HW in_X2_figure_2 0 0 rfl rfl (Nat.le_of_ble_eq_true rfl) fl_X2_figure_9 rfl dX2_figure_49 ?_
    exact g_iret CX HW rfl ⟨rfl, rfl⟩ dX2_figure_52
  · refine lv_tableIn (off := 52) (tgt := 53) hx hb dX2_figure_1 (by decide) (by decide) (by decide) (by decide) ?_
    refine lv_aload_n hx hb dX2_figure_53 rfl (lv_at hl 0 rfl) ?_
    refine g_callV CX HW hl.1 ([]) ([]) (c_X2_flakeOfHour o S qt qp (vA S 2) hh) rfl 0 rfl rfl gX2_figure_X2_flakeOfHour rfl ⟨rfl, hd_X2_flakeOfHour⟩ ⟨rfl, rfl, (Nat.le_of_ble_eq_true rfl), (Nat.le_of_ble_eq_true rfl)⟩ ⟨(Nat.zero_le _), (Nat.zero_le _)⟩ rfl rfl (Nat.le_of_ble_eq_true rfl) dX2_figure_54 (fun v w1 H locs hp HW => ?_)
    obtain ⟨rfl, rfl⟩ := hp
    have HW : Hw D A s (wVo cI a o (vh S) (vc S) (vA S 0) (vA S 1) (vA S 2) ++ (wR cI a (o + 4) (vr S) (vA S 3) (vA S 4) (vA S 5) (vA S 6) ++ (wS cI a (o + 9) (vs S) (vA S 7) (vA S 8) (vA S 9) (vA S 10) (vA S 11) (vA S 12) qt qp))) H locs := HW
    refine W.eq (g2 := F0 m 57 ls [.int (vA S 0 (vh S % 6))]) rfl ?_
    exact g_iret CX HW rfl ⟨rfl, rfl⟩ dX2_figure_57
  · refine lv_tableIn (off := 57) (tgt := 58) hx hb dX2_figure_1 (by decide) (by decide) (by decide) (by decide) ?_
    refine lv_aload_n hx hb dX2_figure_58 rfl (lv_at hl 0 rfl) ?_
    refine g_get CX HW in_X2_figure_2 0 1 rfl rfl (Nat.le_of_ble_eq_true rfl) fl_X2_figure_15 rfl dX2_figure_59 ?_
    exact g_iret CX HW rfl ⟨rfl, rfl⟩ dX2_figure_62
  · refine lv_tableIn (off := 62) (tgt := 63) hx hb dX2_figure_1 (by decide) (by decide) (by decide) (by decide) ?_
    refine lv_aload_n hx hb dX2_figure_63 rfl (lv_at hl 0 rfl) ?_
    refine g_get CX HW in_X2_figure_2 0 5 rfl rfl (Nat.le_of_ble_eq_true rfl) fl_X2_figure_31 rfl dX2_figure_64 ?_
    refine g_get CX HW in_X2_figure_0 4 0 rfl rfl (Nat.le_of_ble_eq_true rfl) fl_X2_figure_124 rfl dX2_figure_67 ?_
    exact g_iret CX HW rfl ⟨rfl, rfl⟩ dX2_figure_70
  · refine lv_tableIn (off := 70) (tgt := 71) hx hb dX2_figure_1 (by decide) (by decide) (by decide) (by decide) ?_
    refine lv_aload_n hx hb dX2_figure_71 rfl (lv_at hl 0 rfl) ?_
    refine g_get CX HW in_X2_figure_2 0 6 rfl rfl (Nat.le_of_ble_eq_true rfl) fl_X2_figure_38 rfl dX2_figure_72 ?_
    refine g_get CX HW in_X2_figure_1 9 0 rfl rfl (Nat.le_of_ble_eq_true rfl) fl_X2_figure_127 rfl dX2_figure_75 ?_
    exact g_iret CX HW rfl ⟨rfl, rfl⟩ dX2_figure_78
  · refine lv_tableIn (off := 78) (tgt := 79) hx hb dX2_figure_1 (by decide) (by decide) (by decide) (by decide) ?_
    refine lv_aload_n hx hb dX2_figure_79 rfl (lv_at hl 0 rfl) ?_
    refine g_get CX HW in_X2_figure_2 0 5 rfl rfl (Nat.le_of_ble_eq_true rfl) fl_X2_figure_31 rfl dX2_figure_80 ?_
    refine g_callV CX HW hl.1 (wVo cI a o (vh S) (vc S) (vA S 0) (vA S 1) (vA S 2)) (wS cI a (o + 9) (vs S) (vA S 7) (vA S 8) (vA S 9) (vA S 10) (vA S 11) (vA S 12) qt qp) (c_X0_flagged (o + 4) (vr S) (vA S 3) (vA S 4) (vA S 5) (vA S 6) hr6) rfl 0 rfl rfl gX2_figure_X0_flagged rfl ⟨rfl, hd_X0_flagged⟩ ⟨rfl, rfl, (Nat.le_of_ble_eq_true rfl), (Nat.le_of_ble_eq_true rfl)⟩ ⟨(Nat.zero_le _), (Nat.zero_le _)⟩ rfl rfl (Nat.le_of_ble_eq_true rfl) dX2_figure_83 (fun v w1 H locs hp HW => ?_)
    obtain ⟨rfl, rfl⟩ := hp
    have HW : Hw D A s (wVo cI a o (vh S) (vc S) (vA S 0) (vA S 1) (vA S 2) ++ (wR cI a (o + 4) (vr S) (vA S 3) (vA S 4) (vA S 5) (vA S 6) ++ (wS cI a (o + 9) (vs S) (vA S 7) (vA S 8) (vA S 9) (vA S 10) (vA S 11) (vA S 12) qt qp))) H locs := HW
    refine W.eq (g2 := F0 m 86 ls [.int (flagN (vA S 5) (vA S 4) (vr S))]) rfl ?_
    exact g_iret CX HW rfl ⟨rfl, rfl⟩ dX2_figure_86
  · refine lv_tableIn (off := 86) (tgt := 87) hx hb dX2_figure_1 (by decide) (by decide) (by decide) (by decide) ?_
    refine lv_aload_n hx hb dX2_figure_87 rfl (lv_at hl 0 rfl) ?_
    refine g_callV CX HW hl.1 ([]) ([]) (c_X2_allRides o S qt qp) rfl 0 rfl rfl gX2_figure_X2_allRides rfl ⟨rfl, hd_X2_allRides⟩ ⟨rfl, rfl, (Nat.le_of_ble_eq_true rfl), (Nat.le_of_ble_eq_true rfl)⟩ ⟨(Nat.zero_le _), (Nat.zero_le _)⟩ rfl rfl (Nat.le_of_ble_eq_true rfl) dX2_figure_88 (fun v w1 H locs hp HW => ?_)
    obtain ⟨rfl, rfl⟩ := hp
    have HW : Hw D A s (wVo cI a o (vh S) (vc S) (vA S 0) (vA S 1) (vA S 2) ++ (wR cI a (o + 4) (vr S) (vA S 3) (vA S 4) (vA S 5) (vA S 6) ++ (wS cI a (o + 9) (vs S) (vA S 7) (vA S 8) (vA S 9) (vA S 10) (vA S 11) (vA S 12) qt qp))) H locs := HW
    refine W.eq (g2 := F0 m 91 ls [.int (sumP S)]) rfl ?_
    exact g_iret CX HW rfl ⟨rfl, rfl⟩ dX2_figure_91
  · refine lv_tableIn (off := 91) (tgt := 92) hx hb dX2_figure_1 (by decide) (by decide) (by decide) (by decide) ?_
    refine lv_aload_n hx hb dX2_figure_92 rfl (lv_at hl 0 rfl) ?_
    refine g_get CX HW in_X2_figure_2 0 6 rfl rfl (Nat.le_of_ble_eq_true rfl) fl_X2_figure_38 rfl dX2_figure_93 ?_
    refine g_callV CX HW hl.1 (wVo cI a o (vh S) (vc S) (vA S 0) (vA S 1) (vA S 2) ++ (wR cI a (o + 4) (vr S) (vA S 3) (vA S 4) (vA S 5) (vA S 6))) ([]) (c_X1_waitingAnywhere (o + 9) (vs S) (vA S 7) (vA S 8) (vA S 9) (vA S 10) (vA S 11) (vA S 12) qt qp hn) rfl 0 rfl rfl gX2_figure_X1_waitingAnywhere rfl ⟨rfl, hd_X1_waitingAnywhere⟩ ⟨rfl, rfl, (Nat.le_of_ble_eq_true rfl), (Nat.le_of_ble_eq_true rfl)⟩ ⟨(Nat.zero_le _), (Nat.zero_le _)⟩ rfl rfl (Nat.le_of_ble_eq_true rfl) dX2_figure_96 (fun v w1 H locs hp HW => ?_)
    obtain ⟨rfl, rfl⟩ := hp
    have HW : Hw D A s (wVo cI a o (vh S) (vc S) (vA S 0) (vA S 1) (vA S 2) ++ (wR cI a (o + 4) (vr S) (vA S 3) (vA S 4) (vA S 5) (vA S 6) ++ (wS cI a (o + 9) (vs S) (vA S 7) (vA S 8) (vA S 9) (vA S 10) (vA S 11) (vA S 12) qt qp))) H locs := HW
    refine W.eq (g2 := F0 m 99 ls [.int (nI (cntN qt (vs S)))]) rfl ?_
    refine g_top (y := (nI ((vq S 0).length + (vq S 1).length + (vq S 2).length))) (by rw [rep_any hR]) ?_
    exact g_iret CX HW rfl ⟨rfl, rfl⟩ dX2_figure_99
  · refine lv_tableOut (tgt := 100) hx hb dX2_figure_1 (by decide) (by decide) ?_
    refine lv_aload_n hx hb dX2_figure_100 rfl (lv_at hl 0 rfl) ?_
    refine g_get CX HW in_X2_figure_2 0 6 rfl rfl (Nat.le_of_ble_eq_true rfl) fl_X2_figure_38 rfl dX2_figure_101 ?_
    refine g_callV CX HW hl.1 (wVo cI a o (vh S) (vc S) (vA S 0) (vA S 1) (vA S 2) ++ (wR cI a (o + 4) (vr S) (vA S 3) (vA S 4) (vA S 5) (vA S 6))) ([]) (c_X1_allPoints (o + 9) (vs S) (vA S 7) (vA S 8) (vA S 9) (vA S 10) (vA S 11) (vA S 12) qt qp hn) rfl 0 rfl rfl gX2_figure_X1_allPoints rfl ⟨rfl, hd_X1_allPoints⟩ ⟨rfl, rfl, (Nat.le_of_ble_eq_true rfl), (Nat.le_of_ble_eq_true rfl)⟩ ⟨(Nat.zero_le _), (Nat.zero_le _)⟩ rfl rfl (Nat.le_of_ble_eq_true rfl) dX2_figure_104 (fun v w1 H locs hp HW => ?_)
    obtain ⟨rfl, rfl⟩ := hp
    have HW : Hw D A s (wVo cI a o (vh S) (vc S) (vA S 0) (vA S 1) (vA S 2) ++ (wR cI a (o + 4) (vr S) (vA S 3) (vA S 4) (vA S 5) (vA S 6) ++ (wS cI a (o + 9) (vs S) (vA S 7) (vA S 8) (vA S 9) (vA S 10) (vA S 11) (vA S 12) qt qp))) H locs := HW
    refine W.eq (g2 := F0 m 107 ls [.int (sumN (vA S 11) (vs S))]) rfl ?_
    exact g_iret CX HW rfl ⟨rfl, rfl⟩ dX2_figure_107

theorem hd_X2_copyFrom : yX2_copyFrom.cls ≠ "java/lang/invoke/MethodHandle" ∧ yX2_copyFrom.cls ≠ "java/lang/invoke/VarHandle" ∧ (parseMethodDescriptor yX2_copyFrom.desc).map (fun d => d.parameters.length) = some 1 := by decide +kernel
theorem fl_X2_copyFrom_9 : Cond.fieldLink RX2 9 (TX2 0).1 (TX2 0).2.1 (TX2 0).2.2.1 ∈ wsX2_copyFrom := by decide +kernel
theorem in_X2_copyFrom_2 : ∀ x ∈ u_ws RX2 TX2 7, x ∈ wsX2_copyFrom := by decide +kernel
theorem fl_X2_copyFrom_15 : Cond.fieldLink RX2 15 (TX2 1).1 (TX2 1).2.1 (TX2 1).2.2.1 ∈ wsX2_copyFrom := by decide +kernel
theorem fl_X2_copyFrom_18 : Cond.fieldLink RX2 18 (TX2 2).1 (TX2 2).2.1 (TX2 2).2.2.1 ∈ wsX2_copyFrom := by decide +kernel
theorem sn_X2_copyFrom_X3_copyRow : Cond.initialized yX3_copyRow.cls ∈ wsX2_copyFrom ∧ Cond.static yX3_copyRow ∈ wsX2_copyFrom := ⟨by decide +kernel, by decide +kernel⟩
theorem fl_X2_copyFrom_22 : Cond.fieldLink RX2 22 (TX2 3).1 (TX2 3).2.1 (TX2 3).2.2.1 ∈ wsX2_copyFrom := by decide +kernel
theorem fl_X2_copyFrom_25 : Cond.fieldLink RX2 25 (TX2 4).1 (TX2 4).2.1 (TX2 4).2.2.1 ∈ wsX2_copyFrom := by decide +kernel
theorem fl_X2_copyFrom_31 : Cond.fieldLink RX2 31 (TX2 5).1 (TX2 5).2.1 (TX2 5).2.2.1 ∈ wsX2_copyFrom := by decide +kernel
theorem fl_X2_copyFrom_38 : Cond.fieldLink RX2 38 (TX2 6).1 (TX2 6).2.1 (TX2 6).2.2.1 ∈ wsX2_copyFrom := by decide +kernel
set_option maxRecDepth 100000 in
set_option maxHeartbeats 4000000 in
theorem c_X2_copyFrom {l : Launch} {D : va_G} {cI cL : ClassId} {a : Nat → Nat} (o2 : Nat) (o : Nat) (S : VS) (T : VS) (qt : Nat → Int32) (qp : Nat → Int32) (qt2 : Nat → Int32) (qp2 : Nat → Int32) : Ct l yX2_copyFrom wsX2_copyFrom { frames := 3, cells := 0, slots := 0, locals := 102 } D (ty2 cI cL) [.ref (a o), .ref (a o2)] (wVo cI a o2 (vh S) (vc S) (vA S 0) (vA S 1) (vA S 2) ++ (wVo cI a o (vh T) (vc T) (vA T 0) (vA T 1) (vA T 2) ++ (wR cI a (o2 + 4) (vr S) (vA S 3) (vA S 4) (vA S 5) (vA S 6) ++ (wR cI a (o + 4) (vr T) (vA T 3) (vA T 4) (vA T 5) (vA T 6) ++ (wS cI a (o2 + 9) (vs S) (vA S 7) (vA S 8) (vA S 9) (vA S 10) (vA S 11) (vA S 12) qt qp ++ (wS cI a (o + 9) (vs T) (vA T 7) (vA T 8) (vA T 9) (vA T 10) (vA T 11) (vA T 12) qt2 qp2)))))) (fun v w' => v = none ∧ w' = wVo cI a o2 (vh S) (vc S) (vA S 0) (vA S 1) (vA S 2) ++ (wVo cI a o (vh S) (vc S) (vA S 0) (vA S 1) (vA S 2) ++ (wR cI a (o2 + 4) (vr S) (vA S 3) (vA S 4) (vA S 5) (vA S 6) ++ (wR cI a (o + 4) (vr S) (vA S 3) (vA S 4) (vA S 5) (vA S 6) ++ (wS cI a (o2 + 9) (vs S) (vA S 7) (vA S 8) (vA S 9) (vA S 10) (vA S 11) (vA S 12) qt qp ++ (wS cI a (o + 9) (vs S) (vA S 7) (vA S 8) (vA S 9) (vA S 10) (vA S 11) (vA S 12) qt qp)))))) 0 0 := by
  refine Ct.of (cc := cX2_copyFrom) (maxL := 2) (ret := none) (by decide) rfl (Nat.le_of_ble_eq_true rfl) ?_
  intro p e s m below meth c A ls CX hin HW hl
  obtain ⟨hx, hb, hml, hr, hown, hts, hK, hA, hlk⟩ := id CX
  have hl : lv_has ls 2 [(0, .ref (a o)), (1, .ref (a o2))] := hl
  refine lv_aload_n hx hb dX2_copyFrom_0 rfl (lv_at hl 0 rfl) ?_
  refine lv_aload_n hx hb dX2_copyFrom_1 rfl (lv_at hl 1 rfl) ?_
  refine g_get CX HW in_X2_copyFrom_2 0 0 rfl rfl (Nat.le_of_ble_eq_true rfl) fl_X2_copyFrom_9 rfl dX2_copyFrom_2 ?_
  refine g_put CX HW in_X2_copyFrom_2 tyX2 tyX2_ok nmX2 4 0 rfl rfl (Nat.le_of_ble_eq_true rfl) fl_X2_copyFrom_9 rfl rfl rfl (Nat.le_of_ble_eq_true rfl) dX2_copyFrom_5 (fun H locs HW => ?_)
  have HW : Hw D A s (wVo cI a o2 (vh S) (vc S) (vA S 0) (vA S 1) (vA S 2) ++ (wVo cI a o (vh S) (vc T) (vA T 0) (vA T 1) (vA T 2) ++ (wR cI a (o2 + 4) (vr S) (vA S 3) (vA S 4) (vA S 5) (vA S 6) ++ (wR cI a (o + 4) (vr T) (vA T 3) (vA T 4) (vA T 5) (vA T 6) ++ (wS cI a (o2 + 9) (vs S) (vA S 7) (vA S 8) (vA S 9) (vA S 10) (vA S 11) (vA S 12) qt qp ++ (wS cI a (o + 9) (vs T) (vA T 7) (vA T 8) (vA T 9) (vA T 10) (vA T 11) (vA T 12) qt2 qp2)))))) H locs := HW
  refine lv_aload_n hx hb dX2_copyFrom_8 rfl (lv_at hl 0 rfl) ?_
  refine lv_aload_n hx hb dX2_copyFrom_9 rfl (lv_at hl 1 rfl) ?_
  refine g_get CX HW in_X2_copyFrom_2 0 1 rfl rfl (Nat.le_of_ble_eq_true rfl) fl_X2_copyFrom_15 rfl dX2_copyFrom_10 ?_
  refine g_put CX HW in_X2_copyFrom_2 tyX2 tyX2_ok nmX2 4 1 rfl rfl (Nat.le_of_ble_eq_true rfl) fl_X2_copyFrom_15 rfl rfl rfl (Nat.le_of_ble_eq_true rfl) dX2_copyFrom_13 (fun H locs HW => ?_)
  have HW : Hw D A s (wVo cI a o2 (vh S) (vc S) (vA S 0) (vA S 1) (vA S 2) ++ (wVo cI a o (vh S) (vc S) (vA T 0) (vA T 1) (vA T 2) ++ (wR cI a (o2 + 4) (vr S) (vA S 3) (vA S 4) (vA S 5) (vA S 6) ++ (wR cI a (o + 4) (vr T) (vA T 3) (vA T 4) (vA T 5) (vA T 6) ++ (wS cI a (o2 + 9) (vs S) (vA S 7) (vA S 8) (vA S 9) (vA S 10) (vA S 11) (vA S 12) qt qp ++ (wS cI a (o + 9) (vs T) (vA T 7) (vA T 8) (vA T 9) (vA T 10) (vA T 11) (vA T 12) qt2 qp2)))))) H locs := HW
  refine lv_aload_n hx hb dX2_copyFrom_16 rfl (lv_at hl 1 rfl) ?_
  refine g_get CX HW in_X2_copyFrom_2 0 2 rfl rfl (Nat.le_of_ble_eq_true rfl) fl_X2_copyFrom_18 rfl dX2_copyFrom_17 ?_
  refine lv_aload_n hx hb dX2_copyFrom_20 rfl (lv_at hl 0 rfl) ?_
  refine g_get CX HW in_X2_copyFrom_2 4 2 rfl rfl (Nat.le_of_ble_eq_true rfl) fl_X2_copyFrom_18 rfl dX2_copyFrom_21 ?_
  refine g_callSN (host := "PommelTows") CX HW hl.1 [] [] (c_X3_copyRow (wVo cI a o2 (vh S) (vc S) (vA S 0) (vA S 1) (vA S 2) ++ (wVo cI a o (vh S) (vc S) (vA T 0) (vA T 1) (vA T 2) ++ (wR cI a (o2 + 4) (vr S) (vA S 3) (vA S 4) (vA S 5) (vA S 6) ++ (wR cI a (o + 4) (vr T) (vA T 3) (vA T 4) (vA T 5) (vA T 6) ++ (wS cI a (o2 + 9) (vs S) (vA S 7) (vA S 8) (vA S 9) (vA S 10) (vA S 11) (vA S 12) qt qp ++ (wS cI a (o + 9) (vs T) (vA T 7) (vA T 8) (vA T 9) (vA T 10) (vA T 11) (vA T 12) qt2 qp2)))))) (a (o2 + 1)) (a (o + 1)) 1 5 6 (vA S 0) (vA T 0) rfl rfl (Nat.le_of_ble_eq_true rfl)) (List.append_nil _).symm gX2_copyFrom_X3_copyRow_n42 sn_X2_copyFrom_X3_copyRow (by decide +kernel) rfl hd_X3_copyRow ⟨rfl, rfl, (Nat.le_of_ble_eq_true rfl), (Nat.le_of_ble_eq_true rfl)⟩ ⟨(Nat.zero_le _), (Nat.zero_le _)⟩ rfl rfl (Nat.le_of_ble_eq_true rfl) dX2_copyFrom_24 (fun v w1 H locs hp HW => ?_)
  obtain ⟨rfl, rfl⟩ := hp
  have HW : Hw D A s (wVo cI a o2 (vh S) (vc S) (vA S 0) (vA S 1) (vA S 2) ++ (wVo cI a o (vh S) (vc S) (vA S 0) (vA T 1) (vA T 2) ++ (wR cI a (o2 + 4) (vr S) (vA S 3) (vA S 4) (vA S 5) (vA S 6) ++ (wR cI a (o + 4) (vr T) (vA T 3) (vA T 4) (vA T 5) (vA T 6) ++ (wS cI a (o2 + 9) (vs S) (vA S 7) (vA S 8) (vA S 9) (vA S 10) (vA S 11) (vA S 12) qt qp ++ (wS cI a (o + 9) (vs T) (vA T 7) (vA T 8) (vA T 9) (vA T 10) (vA T 11) (vA T 12) qt2 qp2)))))) H locs := HW
  refine W.eq (g2 := F0 m 27 ls []) rfl ?_
  refine lv_aload_n hx hb dX2_copyFrom_27 rfl (lv_at hl 1 rfl) ?_
  refine g_get CX HW in_X2_copyFrom_2 0 3 rfl rfl (Nat.le_of_ble_eq_true rfl) fl_X2_copyFrom_22 rfl dX2_copyFrom_28 ?_
  refine lv_aload_n hx hb dX2_copyFrom_31 rfl (lv_at hl 0 rfl) ?_
  refine g_get CX HW in_X2_copyFrom_2 4 3 rfl rfl (Nat.le_of_ble_eq_true rfl) fl_X2_copyFrom_22 rfl dX2_copyFrom_32 ?_
  refine g_callSN (host := "PommelTows") CX HW hl.1 [] [] (c_X3_copyRow (wVo cI a o2 (vh S) (vc S) (vA S 0) (vA S 1) (vA S 2) ++ (wVo cI a o (vh S) (vc S) (vA S 0) (vA T 1) (vA T 2) ++ (wR cI a (o2 + 4) (vr S) (vA S 3) (vA S 4) (vA S 5) (vA S 6) ++ (wR cI a (o + 4) (vr T) (vA T 3) (vA T 4) (vA T 5) (vA T 6) ++ (wS cI a (o2 + 9) (vs S) (vA S 7) (vA S 8) (vA S 9) (vA S 10) (vA S 11) (vA S 12) qt qp ++ (wS cI a (o + 9) (vs T) (vA T 7) (vA T 8) (vA T 9) (vA T 10) (vA T 11) (vA T 12) qt2 qp2)))))) (a (o2 + 2)) (a (o + 2)) 2 6 3 (vA S 1) (vA T 1) rfl rfl (Nat.le_of_ble_eq_true rfl)) (List.append_nil _).symm gX2_copyFrom_X3_copyRow_n42 sn_X2_copyFrom_X3_copyRow (by decide +kernel) rfl hd_X3_copyRow ⟨rfl, rfl, (Nat.le_of_ble_eq_true rfl), (Nat.le_of_ble_eq_true rfl)⟩ ⟨(Nat.zero_le _), (Nat.zero_le _)⟩ rfl rfl (Nat.le_of_ble_eq_true rfl) dX2_copyFrom_35 (fun v w1 H locs hp HW => ?_)
  obtain ⟨rfl, rfl⟩ := hp
  have HW : Hw D A s (wVo cI a o2 (vh S) (vc S) (vA S 0) (vA S 1) (vA S 2) ++ (wVo cI a o (vh S) (vc S) (vA S 0) (vA S 1) (vA T 2) ++ (wR cI a (o2 + 4) (vr S) (vA S 3) (vA S 4) (vA S 5) (vA S 6) ++ (wR cI a (o + 4) (vr T) (vA T 3) (vA T 4) (vA T 5) (vA T 6) ++ (wS cI a (o2 + 9) (vs S) (vA S 7) (vA S 8) (vA S 9) (vA S 10) (vA S 11) (vA S 12) qt qp ++ (wS cI a (o + 9) (vs T) (vA T 7) (vA T 8) (vA T 9) (vA T 10) (vA T 11) (vA T 12) qt2 qp2)))))) H locs := HW
  refine W.eq (g2 := F0 m 38 ls []) rfl ?_
  refine lv_aload_n hx hb dX2_copyFrom_38 rfl (lv_at hl 1 rfl) ?_
  refine g_get CX HW in_X2_copyFrom_2 0 4 rfl rfl (Nat.le_of_ble_eq_true rfl) fl_X2_copyFrom_25 rfl dX2_copyFrom_39 ?_
  refine lv_aload_n hx hb dX2_copyFrom_42 rfl (lv_at hl 0 rfl) ?_
  refine g_get CX HW in_X2_copyFrom_2 4 4 rfl rfl (Nat.le_of_ble_eq_true rfl) fl_X2_copyFrom_25 rfl dX2_copyFrom_43 ?_
  refine g_callSN (host := "PommelTows") CX HW hl.1 [] [] (c_X3_copyRow (wVo cI a o2 (vh S) (vc S) (vA S 0) (vA S 1) (vA S 2) ++ (wVo cI a o (vh S) (vc S) (vA S 0) (vA S 1) (vA T 2) ++ (wR cI a (o2 + 4) (vr S) (vA S 3) (vA S 4) (vA S 5) (vA S 6) ++ (wR cI a (o + 4) (vr T) (vA T 3) (vA T 4) (vA T 5) (vA T 6) ++ (wS cI a (o2 + 9) (vs S) (vA S 7) (vA S 8) (vA S 9) (vA S 10) (vA S 11) (vA S 12) qt qp ++ (wS cI a (o + 9) (vs T) (vA T 7) (vA T 8) (vA T 9) (vA T 10) (vA T 11) (vA T 12) qt2 qp2)))))) (a (o2 + 3)) (a (o + 3)) 3 7 3 (vA S 2) (vA T 2) rfl rfl (Nat.le_of_ble_eq_true rfl)) (List.append_nil _).symm gX2_copyFrom_X3_copyRow_n42 sn_X2_copyFrom_X3_copyRow (by decide +kernel) rfl hd_X3_copyRow ⟨rfl, rfl, (Nat.le_of_ble_eq_true rfl), (Nat.le_of_ble_eq_true rfl)⟩ ⟨(Nat.zero_le _), (Nat.zero_le _)⟩ rfl rfl (Nat.le_of_ble_eq_true rfl) dX2_copyFrom_46 (fun v w1 H locs hp HW => ?_)
  obtain ⟨rfl, rfl⟩ := hp
  have HW : Hw D A s (wVo cI a o2 (vh S) (vc S) (vA S 0) (vA S 1) (vA S 2) ++ (wVo cI a o (vh S) (vc S) (vA S 0) (vA S 1) (vA S 2) ++ (wR cI a (o2 + 4) (vr S) (vA S 3) (vA S 4) (vA S 5) (vA S 6) ++ (wR cI a (o + 4) (vr T) (vA T 3) (vA T 4) (vA T 5) (vA T 6) ++ (wS cI a (o2 + 9) (vs S) (vA S 7) (vA S 8) (vA S 9) (vA S 10) (vA S 11) (vA S 12) qt qp ++ (wS cI a (o + 9) (vs T) (vA T 7) (vA T 8) (vA T 9) (vA T 10) (vA T 11) (vA T 12) qt2 qp2)))))) H locs := HW
  refine W.eq (g2 := F0 m 49 ls []) rfl ?_
  refine lv_aload_n hx hb dX2_copyFrom_49 rfl (lv_at hl 0 rfl) ?_
  refine g_get CX HW in_X2_copyFrom_2 4 5 rfl rfl (Nat.le_of_ble_eq_true rfl) fl_X2_copyFrom_31 rfl dX2_copyFrom_50 ?_
  refine lv_aload_n hx hb dX2_copyFrom_53 rfl (lv_at hl 1 rfl) ?_
  refine g_get CX HW in_X2_copyFrom_2 0 5 rfl rfl (Nat.le_of_ble_eq_true rfl) fl_X2_copyFrom_31 rfl dX2_copyFrom_54 ?_
  refine g_callV CX HW hl.1 (wVo cI a o2 (vh S) (vc S) (vA S 0) (vA S 1) (vA S 2) ++ (wVo cI a o (vh S) (vc S) (vA S 0) (vA S 1) (vA S 2))) (wS cI a (o2 + 9) (vs S) (vA S 7) (vA S 8) (vA S 9) (vA S 10) (vA S 11) (vA S 12) qt qp ++ (wS cI a (o + 9) (vs T) (vA T 7) (vA T 8) (vA T 9) (vA T 10) (vA T 11) (vA T 12) qt2 qp2)) (c_X0_copyFrom (o2 + 4) (o + 4) (vr S) (vA S 3) (vA S 4) (vA S 5) (vA S 6) (vr T) (vA T 3) (vA T 4) (vA T 5) (vA T 6)) rfl 5 rfl rfl gX2_copyFrom_X0_copyFrom rfl ⟨rfl, hd_X0_copyFrom⟩ ⟨rfl, rfl, (Nat.le_of_ble_eq_true rfl), (Nat.le_of_ble_eq_true rfl)⟩ ⟨(Nat.zero_le _), (Nat.zero_le _)⟩ rfl rfl (Nat.le_of_ble_eq_true rfl) dX2_copyFrom_57 (fun v w1 H locs hp HW => ?_)
  obtain ⟨rfl, rfl⟩ := hp
  have HW : Hw D A s (wVo cI a o2 (vh S) (vc S) (vA S 0) (vA S 1) (vA S 2) ++ (wVo cI a o (vh S) (vc S) (vA S 0) (vA S 1) (vA S 2) ++ (wR cI a (o2 + 4) (vr S) (vA S 3) (vA S 4) (vA S 5) (vA S 6) ++ (wR cI a (o + 4) (vr S) (vA S 3) (vA S 4) (vA S 5) (vA S 6) ++ (wS cI a (o2 + 9) (vs S) (vA S 7) (vA S 8) (vA S 9) (vA S 10) (vA S 11) (vA S 12) qt qp ++ (wS cI a (o + 9) (vs T) (vA T 7) (vA T 8) (vA T 9) (vA T 10) (vA T 11) (vA T 12) qt2 qp2)))))) H locs := HW
  refine W.eq (g2 := F0 m 60 ls []) rfl ?_
  refine lv_aload_n hx hb dX2_copyFrom_60 rfl (lv_at hl 0 rfl) ?_
  refine g_get CX HW in_X2_copyFrom_2 4 6 rfl rfl (Nat.le_of_ble_eq_true rfl) fl_X2_copyFrom_38 rfl dX2_copyFrom_61 ?_
  refine lv_aload_n hx hb dX2_copyFrom_64 rfl (lv_at hl 1 rfl) ?_
  refine g_get CX HW in_X2_copyFrom_2 0 6 rfl rfl (Nat.le_of_ble_eq_true rfl) fl_X2_copyFrom_38 rfl dX2_copyFrom_65 ?_
  refine g_callV CX HW hl.1 (wVo cI a o2 (vh S) (vc S) (vA S 0) (vA S 1) (vA S 2) ++ (wVo cI a o (vh S) (vc S) (vA S 0) (vA S 1) (vA S 2) ++ (wR cI a (o2 + 4) (vr S) (vA S 3) (vA S 4) (vA S 5) (vA S 6) ++ (wR cI a (o + 4) (vr S) (vA S 3) (vA S 4) (vA S 5) (vA S 6))))) ([]) (c_X1_copyFrom (o2 + 9) (o + 9) (vs S) (vA S 7) (vA S 8) (vA S 9) (vA S 10) (vA S 11) (vA S 12) qt qp (vs T) (vA T 7) (vA T 8) (vA T 9) (vA T 10) (vA T 11) (vA T 12) qt2 qp2) rfl 9 rfl rfl gX2_copyFrom_X1_copyFrom rfl ⟨rfl, hd_X1_copyFrom⟩ ⟨rfl, rfl, (Nat.le_of_ble_eq_true rfl), (Nat.le_of_ble_eq_true rfl)⟩ ⟨(Nat.zero_le _), (Nat.zero_le _)⟩ rfl rfl (Nat.le_of_ble_eq_true rfl) dX2_copyFrom_68 (fun v w1 H locs hp HW => ?_)
  obtain ⟨rfl, rfl⟩ := hp
  have HW : Hw D A s (wVo cI a o2 (vh S) (vc S) (vA S 0) (vA S 1) (vA S 2) ++ (wVo cI a o (vh S) (vc S) (vA S 0) (vA S 1) (vA S 2) ++ (wR cI a (o2 + 4) (vr S) (vA S 3) (vA S 4) (vA S 5) (vA S 6) ++ (wR cI a (o + 4) (vr S) (vA S 3) (vA S 4) (vA S 5) (vA S 6) ++ (wS cI a (o2 + 9) (vs S) (vA S 7) (vA S 8) (vA S 9) (vA S 10) (vA S 11) (vA S 12) qt qp ++ (wS cI a (o + 9) (vs S) (vA S 7) (vA S 8) (vA S 9) (vA S 10) (vA S 11) (vA S 12) qt qp)))))) H locs := HW
  refine W.eq (g2 := F0 m 71 ls []) rfl ?_
  exact g_vret CX HW rfl ⟨rfl, rfl⟩ dX2_copyFrom_71
end
