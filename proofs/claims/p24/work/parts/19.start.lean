theorem Cx.dr {p : Program} {s : State} {m : MethodId} {args : Array Value} {meth : Method} {c : Code} {cc : ByteArray} {nL : Nat} {ret : Option FieldType} {own : String} {Ts : List Cond} {D : va_G} {tys : List (ClassId × FieldType)} {A : Nat → Prop} (h : Cx p s m args meth c cc nL ret own Ts D tys A) (d : Drawn) : Cx p (s.setDrawn d) m args meth c cc nL ret own Ts D tys A :=
  ⟨h.1, h.2.1, h.2.2.1, h.2.2.2.1, h.2.2.2.2.1, dr_words h.2.2.2.2.2.1 d, KK.same (s := s) (U := s.setDrawn d) rfl h.2.2.2.2.2.2.1, h.2.2.2.2.2.2.2.1, h.2.2.2.2.2.2.2.2⟩
theorem hd_L_village : yL_village.cls ≠ "java/lang/invoke/MethodHandle" ∧ yL_village.cls ≠ "java/lang/invoke/VarHandle" ∧ (parseMethodDescriptor yL_village.desc).map (fun d => d.parameters.length) = some 1 := by decide +kernel
theorem ar_L_int : Cond.arrayClass .int ∈ wsL_law := by decide +kernel
theorem nwl_t : ∀ w ∈ nwl, w ∈ lw_tbl := by decide +kernel
theorem nwl_on : ∀ w ∈ nwl, w.onTables = true := by decide +kernel
theorem known_law {args : Array Value} {s : State} (hts : ∀ w ∈ wsL_law, w.before args s = true) : ∃ D : va_G, ∀ (k : Nat) (q : vw_C), vwCl[k]? = some q → u_Kn s q.1 q.2.1 q.2.2 (D.1 k) (D.2 k) := by
  obtain ⟨k0, i0, h0⟩ := u_known (C := RX0) (T := TX0) (N := 5) (n := 5) hts inlX0 (hts (.instantiable RX0 5) (by decide +kernel))
  obtain ⟨k1, i1, h1⟩ := u_known (C := RX1) (T := TX1) (N := 9) (n := 9) hts inlX1 (hts (.instantiable RX1 9) (by decide +kernel))
  obtain ⟨k2, i2, h2⟩ := u_known (C := RX2) (T := TX2) (N := 7) (n := 7) hts inlX2 (hts (.instantiable RX2 7) (by decide +kernel))
  obtain ⟨k3, i3, h3⟩ := u_known (C := RX3) (T := TX3) (N := 2) (n := 2) hts inlX3 (hts (.instantiable RX3 2) (by decide +kernel))
  refine ⟨(fun k => if k = 0 then k0 else if k = 1 then k1 else if k = 2 then k2 else k3, fun k => if k = 0 then i0 else if k = 1 then i1 else if k = 2 then i2 else i3), ?_⟩
  intro k q hq
  match k, hq with
  | 0, hq => cases hq; exact h0
  | 1, hq => cases hq; exact h1
  | 2, hq => cases hq; exact h2
  | 3, hq => cases hq; exact h3
  | k + 4, hq => exact absurd hq (by simp [vwCl])
/-! THE CLAIM OUT OF ONE WALK OF THE LAW'S BODY. Your part is whole_start (and what it stands on); all else here is the same for every law, but numbers. -/
def R_law : String := "PommelTowsLaw"
def lw_P (b : Addr) (xs : List Int32) (args : Array Value) (s : State) : Prop := args = #[.ref b] ∧ s.IntsAt b xs ∧ xs.length ≤ 260 ∧ (Jvm.Cond.and given_1 narrow_1).before args s = true
/-- what a walk over the start with the record d0 says of its end, said of the start itself -/
theorem lw_closed {s t : State} {o : Outcome} {d0 : Drawn} {L : List Loc} {k n : Nat} (hd0 : s.drawn.sameBut d0 lw_cs) (hv : ∃ v, o = .returned v) (hW : (s.setDrawn d0).WarmedH t.vm) (hs : (s.setDrawn d0).sameButNew ({ t with vm := s.vm } : State) L k n) : State.butDraws s t lw_cs (fun t1 => Framed s o t1 L k n) := by
  have h2 : t.drawn = d0 := congrArg State.drawn hs.1
  refine ⟨⟨hv, hW, State.sameButNew.setDrawn hs s.drawn⟩, ?_, by decide⟩
  rw [h2]
  exact hd0
def lw_Q (_ : Array Value) (s : State) (o : Outcome) (t : State) : Prop := o = .returned (some (.int 1)) ∧ State.butDraws s t lw_cs (fun t1 => Framed s o t1 [] 646378 7162047)
def lw_Z (below : List Frame) (a : Array Value) (s : State) : State → Prop := fun t => ∃ o, t.status = .running ∧ Ended t below o ∧ lw_Q a s o t
/-- the law's own end, with 1 on the stack, nothing written that was there before, its room as the claim has it; d0: the record of draws at this point (at the entry s.drawn: begin with 'refine W.base ?_' and 'have hd0 := Drawn.sameBut.refl s.drawn lw_cs') -/
theorem lw_ret {p : Program} {l : Launch} {e : Env} {s : State} {m : MethodId} {below : List Frame} {meth : Method} {c : Code} {b : Nat} {d0 : Drawn} (hd0 : s.drawn.sameBut d0 lw_cs) (hx : p.tables.exec = Jvm.exec) (hb : c.code = code) (hr : meth.sig.returnType = ret) (hlocks : meth.locks = false) {pc : Nat} {H : Heap} {ls : Array Slot} (hdg : decode code pc = .ok (.ireturn, 1)) : W p l e room_1 (s.setDrawn d0) m #[Value.ref b] below meth c H [] 646378 7162047 (lw_Z below #[Value.ref b] s) (F0 m pc ls [.int 1]) := by
  intro T hT X
  obtain ⟨fs, hret, hrun, hended, hW, hframe⟩ := X.leave (v := some (.int 1)) (hlocks := hlocks) (fun h => by rw [hr] at h; cases h)
  have hmeth' : T.vm.method? m = some meth := X.method'
  refine ⟨T.setFrames fs, ?_, .returned (some (.int 1)), hrun, hended, rfl, lw_closed hd0 ⟨_, rfl⟩ hW hframe⟩
  jvm_step X.here [X.here.top, hx, hb, hdg, hmeth', hr, ret, narrow_b1]
  (try refine ⟨rfl, ?_⟩); (try refine ⟨rfl, ?_⟩)
  first | (intro acts; rw [hret _ acts rfl rfl rfl]) | rw [hret _ _ rfl rfl rfl]
  exact Steps.refl _
/-- what holds at the law's entry: the machine, the code, the tables' words (any of lw_tbl by 'hts w (by decide +kernel)'), the script of L ints xs at the cell b, what the Statement gives of the start (any of its parts by flat_of_before) -/
def lw_At (p : Program) (s : State) (m : MethodId) (meth : Method) (c : Code) (b L : Nat) (xs : Nat → Int32) : Prop :=
  p.tables.exec = Jvm.exec ∧ c.code = code ∧ meth.sig.returnType = ret ∧ c.maxLocals = 16 ∧ s.vm.findClass R_law = some m.cls ∧ (∀ w ∈ lw_tbl, w.before #[Value.ref b] s = true) ∧ va_X b L xs s s.heap ∧ b < s.heap.size ∧ meth.locks = false ∧ (Jvm.Cond.and given_1 narrow_1).before #[Value.ref b] s = true
set_option maxRecDepth 100000 in
set_option maxHeartbeats 4000000 in
theorem whole_start {p : Program} {e : Env} {s : State} {m : MethodId} {below : List Frame} {meth : Method} {c : Code} (l : Launch) (hflags : l.flags = flags0) {b L : Nat} {xs : Nat → Int32} (hL : L ≤ 260) (C0 : lw_At p s m meth c b L xs) : W p l e room_1 s m #[Value.ref b] below meth c s.heap [] 0 0 (lw_Z below #[Value.ref b] s) (entryFrame m ([Value.ref b] : List Value).toArray 16) := by
  obtain ⟨hx, hb, hr, hml, hown, hts0, hX, hbl, hlocks, hgv⟩ := id C0
  have hts : ∀ w ∈ wsL_law, w.before #[Value.ref b] s = true := fun w h => hts0 w (wsL_law_in w h)
  have hbA : ¬ (fun q : Nat => s.heap.size ≤ q) b := Nat.not_le.mpr hbl
  obtain ⟨cI, kI, compI, hcI, hkI, hkdI⟩ := Cond.arrayClass_spec (hts (.arrayClass .int) ar_L_int)
  obtain ⟨D, hKc⟩ : ∃ D : va_G, ∀ (k : Nat) (q : vw_C), vwCl[k]? = some q → u_Kn s q.1 q.2.1 q.2.2 (D.1 k) (D.2 k) := known_law hts
  have hK1 : va_K D vwCl (ty2 cI cI) s := by
    refine ⟨hKc, fun k q hk => ?_⟩
    match k, hk with
    | 0, hk => cases hk; exact ⟨fun n z => ⟨fun k h => (by cases h), kI, hkI, compI, hkdI⟩, hcI⟩
    | k + 1, hk => exact absurd hk (by simp [ty2])
  have hK : KK D (ty2 cI cI) s := ⟨hK1, fun w hw => va_Nw.of (nwl_on w hw) (hts0 w (nwl_t w hw)), fun q hq => absurd hq List.not_mem_nil, fun q hq => absurd hq List.not_mem_nil⟩
  have CX0 : Cx p s m #[Value.ref b] meth c cL_law 16 (some .boolean) RL wsL_law D (ty2 cI cI) (fun q : Nat => s.heap.size ≤ q) := ⟨hx, hb, hml, hr, hown, hts, hK, fun _ h => h, hlocks⟩
  have hd0 := Drawn.sameBut.refl s.drawn lw_cs
  refine W.base ?_
  have CX := CX0.dr s.drawn
  have hSX : SX (fun q : Nat => s.heap.size ≤ q) b L xs (s.setDrawn s.drawn) := ⟨hX.moved (u := s) (U := s.setDrawn s.drawn) (Vm.Alike.refl s.vm), hbl, hbA⟩
  have HW : Hw D (fun q : Nat => s.heap.size ≤ q) (s.setDrawn s.drawn) [] s.heap [] := hw_nil (s := s.setDrawn s.drawn)
  have hl := lv_entry ([.ref b]) (n := 16) (Nat.le_of_ble_eq_true rfl)
  rw [lg_entry_eq]
  generalize (lg_sl ([.ref b]) ++ List.replicate (16 - (lg_sl ([.ref b])).length) Slot.unset).toArray = ls at hl ⊢
  have hl : lv_has ls 16 [(0, .ref b)] := hl
  refine lv_aload_n hx hb dL_law_0 rfl (lv_at hl 0 rfl) ?_
  refine g_callSS CX HW hSX hl.1 [] [] (c_L_village b L xs hL) rfl gL_law_L_village rfl hd_L_village ⟨rfl, rfl, (Nat.le_of_ble_eq_true rfl), (Nat.le_of_ble_eq_true rfl)⟩ ⟨(Nat.le_of_ble_eq_true rfl), (Nat.le_of_ble_eq_true rfl)⟩ rfl rfl (Nat.le_of_ble_eq_true rfl) dL_law_1 (fun v w1 H locs hp HW => ?_)
  obtain ⟨a, S, qt, qp, T, qt2, qp2, hV, hR, rfl, rfl⟩ := hp
  have HW : Hw D (fun q : Nat => s.heap.size ≤ q) (s.setDrawn s.drawn) (wXo cI a 0  ++ (wVo cI a (0 + 1) (vh S) (vc S) (vA S 0) (vA S 1) (vA S 2) ++ (wR cI a ((0 + 1) + 4) (vr S) (vA S 3) (vA S 4) (vA S 5) (vA S 6) ++ (wS cI a ((0 + 1) + 9) (vs S) (vA S 7) (vA S 8) (vA S 9) (vA S 10) (vA S 11) (vA S 12) qt qp ++ (wVo cI a (0 + 19) (vh T) (vc T) (vA T 0) (vA T 1) (vA T 2) ++ (wR cI a ((0 + 19) + 4) (vr T) (vA T 3) (vA T 4) (vA T 5) (vA T 6) ++ (wS cI a ((0 + 19) + 9) (vs T) (vA T 7) (vA T 8) (vA T 9) (vA T 10) (vA T 11) (vA T 12) qt2 qp2))))))) H locs := by
    have h9 := HW
    rw [List.append_nil] at h9; exact h9
  refine W.eq (g2 := F0 m 4 ls [.ref (a 0)]) rfl ?_
  refine lv_astore_n (lv' := [(1, .ref (a 0)), (0, .ref b)]) hx hb dL_law_4 rfl hl (Nat.le_of_ble_eq_true rfl) rfl (fun ls hl => ?_)
  refine st_pre CX hSX (Nat.le_of_ble_eq_true rfl) (Nat.le_of_ble_eq_true rfl) 0 S qt qp T qt2 qp2 hV hR HW hl (fun _ H locs ls HW hl => ?_)
  refine law_loop CX hSX (Nat.le_of_ble_eq_true rfl) (Nat.le_of_ble_eq_true rfl) 0 S qt qp T qt2 qp2 _ 0 hL (Nat.zero_le _) (pi_vi hV) hR HW hl (fun S qt qp T qt2 qp2 H locs ls HW hl => ?_)
  refine lv_iconst (v := 1) hx hb dL_law_818 (by decide) ?_
  refine va_forget (s := s.setDrawn s.drawn) (fun q hq => HW.2.2.2.2 q hq) ?_
  refine W.widen (k := 646378) (n := 7162047) (Nat.le_of_ble_eq_true rfl) (Nat.le_of_ble_eq_true rfl) ?_
  exact lw_ret hd0 hx hb hr hlocks dL_law_819
