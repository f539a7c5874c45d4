/-! the law: its loop, its entry -/
section GN
variable {p : Program} {l : Launch} {e : Env} {R : Room} {s : State} {m : MethodId} {args : Array Value} {below : List Frame} {meth : Method} {c : Code} {H : Heap} {locs : List Loc} {cells slots : Nat} {Q : State → Prop}
variable {cc : ByteArray} {pc nL : Nat} {ls : Array Slot} {rest : List Value} {ret : Option FieldType} {own : String} {Ts : List Cond} {D : va_G} {A : Nat → Prop} {tys : List (ClassId × FieldType)} {w : va_W}
theorem g_newl (CX : Cx p s m args meth c cc nL ret own Ts D tys A) (HW : Hw D A s w H locs) {cI : ClassId} (ht : tys[1]? = some (cI, .long)) (harr : Cond.arrayClass .long ∈ Ts) {n : Int32} {N : Nat} (hn : ¬ n < 0) (hN : n.toNatClampNeg = N) (hb2 : N * componentBytes .long ≤ 536870912) (hcells : cells + 1 ≤ R.cells) (hslots : slots + N ≤ R.slots) (hdg : decode cc pc = .ok (.newarray .long, 2))
    (kk : ∀ (q : Nat) (H1 : Heap), Hw D A s (w ++ [(q, .inl (cI, N, .inr (.inl (fun _ => 0))))]) H1 locs → W p l e R s m args below meth c H1 locs (cells + 1) (slots + N) Q (F0 m (pc + 2) ls (.ref q :: rest))) : W p l e R s m args below meth c H locs cells slots Q (F0 m pc ls (.int n :: rest)) := by
  obtain ⟨hx, hb, hml, hr, hown, hts, hK, hA, hlk⟩ := CX
  refine va_newa (atype := .long) (ty := .long) (a0 := (N, .inr (.inl (fun _ => 0)))) hx hb (hts _ harr) rfl hK.1 HW.1 HW.2.1 HW.2.2 hA (fun cA => by rw [vp_cell_l]; rfl) hn hN hb2 hcells hslots hdg (fun q cA H1 h0 h1 h2 h3 => ?_)
  have e1 : va_RA s cI .long := (hK.1.2 1 _ ht).2
  have e2 : va_RA s cA .long := (h0.2 tys.length (cA, .long) (by rw [List.getElem?_append_right (Nat.le_refl _), Nat.sub_self]; rfl)).2
  have e3 : cA = cI := Option.some.inj (Eq.trans (Eq.symm e2) e1)
  subst e3
  exact kk q H1 ⟨h1, h2, h3⟩
end GN
def adr (q : List Nat) : Nat → Nat := fun k => q.getD k 0
def FL0 : Nat → Int32 := (upd (upd (upd (upd (upd (upd (fun _ => (0 : Int32)) 0 (1 : Int32)) 1 (1 : Int32)) 2 (1 : Int32)) 3 (1 : Int32)) 4 (1 : Int32)) 5 (1 : Int32))
def PO0 : Nat → Int32 := (upd (upd (upd (fun _ => (0 : Int32)) 0 (2 : Int32)) 1 (2 : Int32)) 2 (2 : Int32))
def Z0 : VS := mkV 0 0 0 0 (setR (setR (fun _ _ => 0) 0 FL0) 1 PO0) (fun _ => [])
theorem li_Z0 : LI Z0 := by
  refine ⟨⟨by decide, by decide, ?_, ?_, fun r hr => absurd hr (Nat.not_lt_zero _), fun k hk => absurd hk (Nat.not_lt_zero _)⟩, fun j => ⟨0, by decide, rfl⟩⟩
  · intro h hh
    rcases (by omega : h = 0 ∨ h = 1 ∨ h = 2 ∨ h = 3 ∨ h = 4 ∨ h = 5) with rfl | rfl | rfl | rfl | rfl | rfl <;> exact ⟨1, by decide, rfl⟩
  · intro t ht
    rcases (by omega : t = 0 ∨ t = 1 ∨ t = 2) with rfl | rfl | rfl <;> exact ⟨2, by decide, by decide, rfl⟩
theorem rep_Z0 : Rep (vs Z0) (vq Z0) (fun _ => (0 : Int32)) (fun _ => (0 : Int32)) := by
  refine ⟨fun k hk => absurd hk (Nat.not_lt_zero _), fun t p k ht hp => ?_, fun t ht => rfl⟩
  have h9 : ([] : List Nat)[p]? = some k := hp
  simp at h9
theorem repM_Z0 : RepM (vq Z0) (fun _ => (0 : Int32)) (fun _ => (0 : Int32)) := by
  intro t ht
  refine ⟨⟨rfl, fun p k hp => ?_⟩, Nat.zero_le _⟩
  have h9 : ([] : List Nat)[p]? = some k := hp
  simp at h9
theorem le_of_sub3 {L n : Nat} (hL : L ≤ 1536) (hn : n < 2 ^ 31) (h : ¬ nI L - 3 < nI n) : n + 3 ≤ L := by
  rcases Nat.lt_or_ge L 3 with h1 | h1
  · exfalso
    apply h
    have h2 : nI L - 3 < 0 := by rcases (by omega : L = 0 ∨ L = 1 ∨ L = 2) with rfl | rfl | rfl <;> decide
    exact Int32.lt_of_lt_of_le h2 ((nI_leI (a := 0) (b := n) (by decide) hn).mpr (Nat.zero_le _))
  · have e : nI L - 3 = nI (L - 3) := pk_sub (a := L) (b := 3) h1
    rw [e] at h
    have h2 := (nI_leI hn (by omega)).mp (Int32.not_lt.mp h)
    omega
theorem flags_st : (!flags0.contains noTraceFlag) = false := by decide +kernel
theorem ar_L_int : Cond.arrayClass .int ∈ wsL_law := by decide +kernel
theorem ar_L_long : Cond.arrayClass .long ∈ wsL_law := by decide +kernel
theorem nwl_t : ∀ w ∈ nwl, w ∈ lw_tbl := by decide +kernel
theorem nwl_on : ∀ w ∈ nwl, w.onTables = true := by decide +kernel
theorem srl_t : ∀ q ∈ srl, Cond.stringRef RX3 q.1 q.2 ∈ lw_tbl := by decide +kernel
theorem srl_n : ∀ q ∈ srl, Cond.exactly (Term.string RX3 q.1) "java/lang/String" ∈ flatC (Jvm.Cond.and given_1 narrow_1) := by decide +kernel
theorem ncl_n : ∀ q ∈ ncl, Cond.not (.castable q.1 q.2) ∈ flatC (Jvm.Cond.and given_1 narrow_1) := by decide +kernel
theorem zu_l : Cond.laysStatic Bundle.tN "UNASSIGNED_STACK" Bundle.steD ∈ lw_tbl := by decide +kernel
theorem zs_l : Cond.laysStatic Bundle.tN "SUPPRESSED_SENTINEL" Bundle.listD ∈ lw_tbl := by decide +kernel
theorem zt_i : Cond.initialized Bundle.tN ∈ lw_tbl := by decide +kernel
theorem zu_n : Cond.isRef (.static Bundle.tN "UNASSIGNED_STACK" Bundle.steD) ∈ flatC (Jvm.Cond.and given_1 narrow_1) := by decide +kernel
theorem zs_n : Cond.isRef (.static Bundle.tN "SUPPRESSED_SENTINEL" Bundle.listD) ∈ flatC (Jvm.Cond.and given_1 narrow_1) := by decide +kernel
theorem known_law {args : Array Value} {s : State} (hts : ∀ w ∈ wsL_law, w.before args s = true) : ∃ D : va_G, ∀ (k : Nat) (q : vw_C), vwCl[k]? = some q → u_Kn s q.1 q.2.1 q.2.2 (D.1 k) (D.2 k) := by
  obtain ⟨k0, i0, h0⟩ := u_known (C := RX0) (T := TX0) (N := 5) (n := 5) hts inlX0 (hts (.instantiable RX0 5) (by decide +kernel))
  obtain ⟨k1, i1, h1⟩ := u_known (C := RX1) (T := TX1) (N := 9) (n := 9) hts inlX1 (hts (.instantiable RX1 9) (by decide +kernel))
  obtain ⟨k2, i2, h2⟩ := u_known (C := RX2) (T := TX2) (N := 7) (n := 7) hts inlX2 (hts (.instantiable RX2 7) (by decide +kernel))
  obtain ⟨k3, i3, h3⟩ := u_known (C := RX3) (T := TX3) (N := 2) (n := 2) hts inlX3 (hts (.instantiable RX3 2) (by decide +kernel))
  obtain ⟨k4, i4, h4⟩ := u_known (C := RX4) (T := TX4) (N := 14) (n := 14) hts inlX4 (hts (.instantiable RX4 14) (by decide +kernel))
  obtain ⟨k5, i5, h5⟩ := u_known (C := RX5) (T := TX5) (N := 10) (n := 10) hts inlX5 (hts (.instantiable RX5 10) (by decide +kernel))
  refine ⟨(fun k => if k = 0 then k0 else if k = 1 then k1 else if k = 2 then k2 else if k = 3 then k3 else if k = 4 then k4 else k5, fun k => if k = 0 then i0 else if k = 1 then i1 else if k = 2 then i2 else if k = 3 then i3 else if k = 4 then i4 else i5), ?_⟩
  intro k q hq
  match k, hq with
  | 0, hq => cases hq; exact h0
  | 1, hq => cases hq; exact h1
  | 2, hq => cases hq; exact h2
  | 3, hq => cases hq; exact h3
  | 4, hq => cases hq; exact h4
  | 5, hq => cases hq; exact h5
  | k + 6, hq => exact absurd hq (by simp [vwCl])
/-! THE CLAIM OUT OF ONE WALK OF THE LAW'S BODY. Your part is whole_start (and what it stands on); all else here is the same for every law, but numbers. -/
def R_law : String := "PommelTowsLaw"
def lw_P (b : Addr) (xs : List Int32) (args : Array Value) (s : State) : Prop := args = #[.ref b] ∧ s.IntsAt b xs ∧ xs.length ≤ 1536 ∧ (Jvm.Cond.and given_1 narrow_1).before args s = true
/-- what a walk over the start with the record d0 says of its end, said of the start itself -/
theorem lw_closed {s t : State} {o : Outcome} {d0 : Drawn} {L : List Loc} {k n : Nat} (hd0 : s.drawn.sameBut d0 lw_cs) (hv : ∃ v, o = .returned v) (hW : (s.setDrawn d0).WarmedH t.vm) (hs : (s.setDrawn d0).sameButNew ({ t with vm := s.vm } : State) L k n) : State.butDraws s t lw_cs (fun t1 => Framed s o t1 L k n) := by
  have h2 : t.drawn = d0 := congrArg State.drawn hs.1
  refine ⟨⟨hv, hW, State.sameButNew.setDrawn hs s.drawn⟩, ?_, by decide⟩
  rw [h2]
  exact hd0
def lw_Q (_ : Array Value) (s : State) (o : Outcome) (t : State) : Prop := o = .returned (some (.int 1)) ∧ State.butDraws s t lw_cs (fun t1 => Framed s o t1 [] 1128 8896)
def lw_Z (below : List Frame) (a : Array Value) (s : State) : State → Prop := fun t => ∃ o, t.status = .running ∧ Ended t below o ∧ lw_Q a s o t
/-- the law's own end, with 1 on the stack, nothing written that was there before, its room as the claim has it; d0: the record of draws at this point (at the entry s.drawn: begin with 'refine W.base ?_' and 'have hd0 := Drawn.sameBut.refl s.drawn lw_cs') -/
theorem lw_ret {p : Program} {l : Launch} {e : Env} {s : State} {m : MethodId} {below : List Frame} {meth : Method} {c : Code} {b : Nat} {d0 : Drawn} (hd0 : s.drawn.sameBut d0 lw_cs) (hx : p.tables.exec = Jvm.exec) (hb : c.code = code) (hr : meth.sig.returnType = ret) (hlocks : meth.locks = false) {pc : Nat} {H : Heap} {ls : Array Slot} (hdg : decode code pc = .ok (.ireturn, 1)) : W p l e room_1 (s.setDrawn d0) m #[Value.ref b] below meth c H [] 1128 8896 (lw_Z below #[Value.ref b] s) (F0 m pc ls [.int 1]) := by
  intro T hT X
  obtain ⟨fs, hret, hrun, hended, hW, hframe⟩ := X.leave (v := some (.int 1)) (hlocks := hlocks) (fun h => by rw [hr] at h; cases h)
  have hmeth' : T.vm.method? m = some meth := X.method'
  refine ⟨T.setFrames fs, ?_, .returned (some (.int 1)), hrun, hended, rfl, lw_closed hd0 ⟨_, rfl⟩ hW hframe⟩
  jvm_step X.here [X.here.top, hx, hb, hdg, hmeth', hr, ret, narrow_b1]
  (try refine ⟨rfl, ?_⟩); (try refine ⟨rfl, ?_⟩)
  first | (intro acts; rw [hret _ acts rfl rfl rfl]) | rw [hret _ _ rfl rfl rfl]
  exact Steps.refl _
/-- what holds at the law's entry: the machine, the code, the tables' words (any of lw_tbl by 'hts w (by decide +kernel)'), the script of L ints xs at the cell b, what the Statement gives of the start (any of its parts by flat_of_before) -/
def lw_At (p : Program) (s : State) (m : MethodId) (meth : Method) (c : Code) (b L : Nat) (xs : Nat → Int32) : Prop :=
  p.tables.exec = Jvm.exec ∧ c.code = code ∧ meth.sig.returnType = ret ∧ c.maxLocals = 9 ∧ s.vm.findClass R_law = some m.cls ∧ (∀ w ∈ lw_tbl, w.before #[Value.ref b] s = true) ∧ va_X b L xs s s.heap ∧ b < s.heap.size ∧ meth.locks = false ∧ (Jvm.Cond.and given_1 narrow_1).before #[Value.ref b] s = true
set_option maxRecDepth 100000 in
set_option maxHeartbeats 4000000 in
theorem law_loop {p : Program} {l : Launch} {e : Env} {s : State} {m : MethodId} {below : List Frame} {meth : Method} {c : Code} {D : va_G} {cI cL : ClassId} {a1 a2 : Nat → Nat} {b sb L : Nat} {xs : Nat → Int32} (hst : l.stackTraces = false) (CX0 : Cx p s m #[Value.ref sb] meth c cL_law 9 ret RL wsL_law D (ty2 cI cL) (fun q : Nat => s.heap.size ≤ q)) (hZ : Zs (fun q : Nat => s.heap.size ≤ q) s s.heap) (hX : va_X sb L xs s s.heap) (hsb : sb < s.heap.size) (hsA : ¬ (fun q : Nat => s.heap.size ≤ q) sb) (hL : L ≤ 1536) (hx : p.tables.exec = Jvm.exec) (hb : c.code = code) (hr : meth.sig.returnType = ret) (hlocks : meth.locks = false) :
    ∀ (k n : Nat), 3 * n + k = L + 1 + 3 * n - 3 * n → 3 * n ≤ L + 2 → ∀ (d0 : Drawn), s.drawn.sameBut d0 lw_cs → ∀ (Z : VS) (H : Heap) (locs : List Loc) (ls : Array Slot), LI Z → vh Z ≤ 60 * n → LR D cI cL (fun q : Nat => s.heap.size ≤ q) s a1 a2 b Z H locs → lv_has ls 9 [(4, .int (nI (3 * n))), (3, .ref b), (2, .ref (a2 0)), (1, .ref (a1 0)), (0, .ref sb)] →
      W p l e room_1 (s.setDrawn d0) m #[Value.ref sb] below meth c H locs (66 + n) (476 + 6 * n) (lw_Z below #[Value.ref sb] s) (F0 m 23 ls []) := by
  intro k
  induction k using Nat.strongRecOn with
  | _ k ih =>
  intro n hk hn3 d0 hd0 Z H locs ls hI hv HL hl
  have CX := CX0.dr d0
  have hX1 : va_X sb L xs (s.setDrawn d0) (s.setDrawn d0).heap := hX.moved (u := s) (U := s.setDrawn d0) (Vm.Alike.refl s.vm)
  have hZ1 : Zs (fun q : Nat => s.heap.size ≤ q) (s.setDrawn d0) (s.setDrawn d0).heap := ⟨vx_Zq.moved (u := s) (U := s.setDrawn d0) (Vm.Alike.refl s.vm) hZ.1, vx_Zq.moved (u := s) (U := s.setDrawn d0) (Vm.Alike.refl s.vm) hZ.2⟩
  have HL1 : LR D cI cL (fun q : Nat => s.heap.size ≤ q) (s.setDrawn d0) a1 a2 b Z H locs := HL
  obtain ⟨qt, qp, T, qt2, qp2, f, th, my, qu, T2, ri2, my2, qu2, hR, hM, HW⟩ := HL
  refine lv_iload hx hb dL_law_23 (lv_at hl 0 rfl) ?_
  refine lv_aload_n hx hb dL_law_25 rfl (lv_at hl 4 rfl) ?_
  refine va_slen (s := s.setDrawn d0) (A := fun q : Nat => s.heap.size ≤ q) hx hb hX1 hsb hsA HW.2.2 dL_law_26 ?_
  refine lv_iconst (v := 3) hx hb dL_law_27 (by decide) ?_
  refine lv_isub hx hb dL_law_28 ?_
  refine lv_icmp_gt (tgt := 1424) hx hb dL_law_29 (by decide) (fun c29 => ?_) (fun c29 => ?_)
  · refine lv_iconst (v := 1) hx hb dL_law_1424 (by decide) ?_
    refine va_forget (s := s.setDrawn d0) (fun q hq => HW.2.2.2.2 q hq) ?_
    have hn : 3 * n ≤ L + 2 := hn3
    refine W.widen (k := 1128) (n := 8896) (by omega) (by omega) ?_
    exact lw_ret hd0 hx hb hr hlocks dL_law_1425
  · have hn : 3 * n + 3 ≤ L := le_of_sub3 hL (by omega) c29
    have K : ∀ (d1 : Drawn) (Z1 : VS) (H1 : Heap) (locs1 : List Loc) (ls1 : Array Slot), s.drawn.sameBut d1 lw_cs → LI Z1 → vh Z1 ≤ 60 * (n + 1) → LR D cI cL (fun q : Nat => s.heap.size ≤ q) s a1 a2 b Z1 H1 locs1 → lv_has ls1 9 [(4, .int (nI (3 * n))), (3, .ref b), (2, .ref (a2 0)), (1, .ref (a1 0)), (0, .ref sb)] → W p l e room_1 (s.setDrawn d1) m #[Value.ref sb] below meth c H1 locs1 (66 + n + 1) (476 + 6 * n + 6) (lw_Z below #[Value.ref sb] s) (F0 m 1418 ls1 []) := by
      intro d1 Z1 H1 locs1 ls1 hd1 hI1 hv1 HL1 hl1
      refine lv_iinc (v := nI (3 * (n + 1))) (lv' := [(4, .int (nI (3 * (n + 1)))), (3, .ref b), (2, .ref (a2 0)), (1, .ref (a1 0)), (0, .ref sb)]) hx hb dL_law_1418 hl1 (k := 0) rfl (nI_add (3 * n) 3) (by decide) rfl (fun ls hl => ?_)
      refine lv_goto (tgt := 23) hx hb dL_law_1421 (by decide) ?_
      exact ih (k - 3) (by omega) (n + 1) (by omega) (by omega) d1 hd1 Z1 H1 locs1 ls hI1 hv1 HL1 hl
    refine lv_aload_n hx hb dL_law_32 rfl (lv_at hl 4 rfl) ?_
    refine lv_iload hx hb dL_law_33 (lv_at hl 0 rfl) ?_
    refine g_sld CX HW hX1 hsb hsA (k := 3 * n) (by omega) (by omega) dL_law_35 ?_
    refine lv_bipush (v := 31) hx hb dL_law_36 (by decide) ?_
    refine lv_iand hx hb dL_law_38 ?_
    obtain ⟨j, hj, ej⟩ := pk_andE (xs (3 * n)) (m := (31 : Int32)) 5 (by decide)
    refine g_top (y := nI j) ej ?_
    rcases (by omega : j = 0 ∨ j = 1 ∨ j = 2 ∨ j = 3 ∨ j = 4 ∨ j = 5 ∨ j = 6 ∨ j = 7 ∨ j = 8 ∨ j = 9 ∨ j = 10 ∨ j = 11 ∨ j = 12 ∨ j = 13 ∨ j = 14 ∨ j = 15 ∨ j = 16 ∨ j = 17 ∨ j = 18 ∨ j = 19 ∨ j = 20 ∨ j = 21 ∨ j = 22 ∨ j = 23 ∨ j = 24 ∨ j = 25 ∨ j = 26 ∨ j = 27 ∨ j = 28 ∨ j = 29 ∨ j = 30 ∨ j = 31) with rfl | rfl | rfl | rfl | rfl | rfl | rfl | rfl | rfl | rfl | rfl | rfl | rfl | rfl | rfl | rfl | rfl | rfl | rfl | rfl | rfl | rfl | rfl | rfl | rfl | rfl | rfl | rfl | rfl | rfl | rfl | rfl
    · refine lv_tableIn (off := 97) (tgt := 136) hx hb dL_law_39 (by decide) (by decide) (by decide) (by decide) ?_
      exact st_run hst CX hZ1 hX1 hsb hsA hL hn hI hv HL1 hl (by omega) (by omega) (fun Z1 H1 locs1 ls1 h1 h2 h3 h4 => K d0 Z1 H1 locs1 ls1 hd0 h1 h2 h3 h4)
    · refine lv_tableIn (off := 165) (tgt := 204) hx hb dL_law_39 (by decide) (by decide) (by decide) (by decide) ?_
      exact st_setPommels hst CX hZ1 hX1 hsb hsA hL hn hI hv HL1 hl (by omega) (by omega) (fun Z1 H1 locs1 ls1 h1 h2 h3 h4 => K d0 Z1 H1 locs1 ls1 hd0 h1 h2 h3 h4)
    · refine lv_tableIn (off := 233) (tgt := 272) hx hb dL_law_39 (by decide) (by decide) (by decide) (by decide) ?_
      exact st_setFlake hst CX hZ1 hX1 hsb hsA hL hn hI hv HL1 hl (by omega) (by omega) (fun Z1 H1 locs1 ls1 h1 h2 h3 h4 => K d0 Z1 H1 locs1 ls1 hd0 h1 h2 h3 h4)
    · refine lv_tableIn (off := 301) (tgt := 340) hx hb dL_law_39 (by decide) (by decide) (by decide) (by decide) ?_
      exact st_cannon hst CX hZ1 hX1 hsb hsA hL hn hI hv HL1 hl (by omega) (by omega) (fun Z1 H1 locs1 ls1 h1 h2 h3 h4 => K d0 Z1 H1 locs1 ls1 hd0 h1 h2 h3 h4)
    · refine lv_tableIn (off := 357) (tgt := 396) hx hb dL_law_39 (by decide) (by decide) (by decide) (by decide) ?_
      exact st_blast hst CX hZ1 hX1 hsb hsA hL hn hI hv HL1 hl (by omega) (by omega) (fun Z1 H1 locs1 ls1 h1 h2 h3 h4 => K d0 Z1 H1 locs1 ls1 hd0 h1 h2 h3 h4)
    · refine lv_tableIn (off := 413) (tgt := 452) hx hb dL_law_39 (by decide) (by decide) (by decide) (by decide) ?_
      exact st_skier hst CX hZ1 hX1 hsb hsA hL hn hI hv HL1 hl (by omega) (by omega) (fun Z1 H1 locs1 ls1 h1 h2 h3 h4 => K d0 Z1 H1 locs1 ls1 hd0 h1 h2 h3 h4)
    · refine lv_tableIn (off := 481) (tgt := 520) hx hb dL_law_39 (by decide) (by decide) (by decide) (by decide) ?_
      exact st_wax hst CX hZ1 hX1 hsb hsA hL hn hI hv HL1 hl (by omega) (by omega) (fun Z1 H1 locs1 ls1 h1 h2 h3 h4 => K d0 Z1 H1 locs1 ls1 hd0 h1 h2 h3 h4)
    · refine lv_tableIn (off := 549) (tgt := 588) hx hb dL_law_39 (by decide) (by decide) (by decide) (by decide) ?_
      exact st_join hst CX hZ1 hX1 hsb hsA hL hn hI hv HL1 hl (by omega) (by omega) (fun Z1 H1 locs1 ls1 h1 h2 h3 h4 => K d0 Z1 H1 locs1 ls1 hd0 h1 h2 h3 h4)
    · refine lv_tableIn (off := 617) (tgt := 656) hx hb dL_law_39 (by decide) (by decide) (by decide) (by decide) ?_
      exact st_leave hst CX hZ1 hX1 hsb hsA hL hn hI hv HL1 hl (by omega) (by omega) (fun Z1 H1 locs1 ls1 h1 h2 h3 h4 => K d0 Z1 H1 locs1 ls1 hd0 h1 h2 h3 h4)
    · refine lv_tableIn (off := 680) (tgt := 719) hx hb dL_law_39 (by decide) (by decide) (by decide) (by decide) ?_
      exact st_about hst CX hZ1 hX1 hsb hsA hL hn hI hv HL1 hl (by omega) (by omega) (fun Z1 H1 locs1 ls1 h1 h2 h3 h4 => K d0 Z1 H1 locs1 ls1 hd0 h1 h2 h3 h4)
    · refine lv_tableIn (off := 748) (tgt := 787) hx hb dL_law_39 (by decide) (by decide) (by decide) (by decide) ?_
      exact st_told hst CX hZ1 hX1 hsb hsA hL hn hI hv HL1 hl (by omega) (by omega) (fun Z1 H1 locs1 ls1 h1 h2 h3 h4 => K d0 Z1 H1 locs1 ls1 hd0 h1 h2 h3 h4)
    · refine lv_tableIn (off := 816) (tgt := 855) hx hb dL_law_39 (by decide) (by decide) (by decide) (by decide) ?_
      exact st_tow hst CX hZ1 hX1 hsb hsA hL hn hI hv HL1 hl (by omega) (by omega) (fun Z1 H1 locs1 ls1 h1 h2 h3 h4 => K d0 Z1 H1 locs1 ls1 hd0 h1 h2 h3 h4)
    · refine lv_tableIn (off := 884) (tgt := 923) hx hb dL_law_39 (by decide) (by decide) (by decide) (by decide) ?_
      exact st_stands hst CX hZ1 hX1 hsb hsA hL hn hI hv HL1 hl (by omega) (by omega) (fun Z1 H1 locs1 ls1 h1 h2 h3 h4 => K d0 Z1 H1 locs1 ls1 hd0 h1 h2 h3 h4)
    · refine lv_tableIn (off := 952) (tgt := 991) hx hb dL_law_39 (by decide) (by decide) (by decide) (by decide) ?_
      exact st_choice hst CX hZ1 hX1 hsb hsA hL hn hI hv HL1 hl (by omega) (by omega) (fun Z1 H1 locs1 ls1 h1 h2 h3 h4 => K d0 Z1 H1 locs1 ls1 hd0 h1 h2 h3 h4)
    · refine lv_tableIn (off := 1020) (tgt := 1059) hx hb dL_law_39 (by decide) (by decide) (by decide) (by decide) ?_
      exact st_count hst CX hZ1 hX1 hsb hsA hL hn hI hv HL1 hl (by omega) (by omega) (fun Z1 H1 locs1 ls1 h1 h2 h3 h4 => K d0 Z1 H1 locs1 ls1 hd0 h1 h2 h3 h4)
    · refine lv_tableIn (off := 1076) (tgt := 1115) hx hb dL_law_39 (by decide) (by decide) (by decide) (by decide) ?_
      exact st_pass hst CX hZ1 hX1 hsb hsA hL hn hI hv HL1 hl (by omega) (by omega) (fun Z1 H1 locs1 ls1 h1 h2 h3 h4 => K d0 Z1 H1 locs1 ls1 hd0 h1 h2 h3 h4)
    · refine lv_tableIn (off := 1132) (tgt := 1171) hx hb dL_law_39 (by decide) (by decide) (by decide) (by decide) ?_
      exact st_until hst CX hZ1 hX1 hsb hsA hL hn hI hv HL1 hl (by omega) (by omega) (fun Z1 H1 locs1 ls1 h1 h2 h3 h4 => K d0 Z1 H1 locs1 ls1 hd0 h1 h2 h3 h4)
    · refine lv_tableIn (off := 1188) (tgt := 1227) hx hb dL_law_39 (by decide) (by decide) (by decide) (by decide) ?_
      exact st_foresee hst CX hZ1 hX1 hsb hsA hL hn hI hv HL1 hl (by omega) (by omega) (fun Z1 H1 locs1 ls1 h1 h2 h3 h4 => K d0 Z1 H1 locs1 ls1 hd0 h1 h2 h3 h4)
    · refine lv_tableIn (off := 1256) (tgt := 1295) hx hb dL_law_39 (by decide) (by decide) (by decide) (by decide) ?_
      exact st_advise hst CX hZ1 hX1 hsb hsA hL hn hI hv HL1 hl (by omega) (by omega) (fun Z1 H1 locs1 ls1 h1 h2 h3 h4 => K d0 Z1 H1 locs1 ls1 hd0 h1 h2 h3 h4)
    · refine lv_tableIn (off := 1324) (tgt := 1363) hx hb dL_law_39 (by decide) (by decide) (by decide) (by decide) ?_
      exact st_mean hst CX hZ1 hX1 hsb hsA hL hn hI hv HL1 hl (by omega) (by omega) (fun d1 H1 locs1 ls1 h1 h2 h3 => K d1 Z H1 locs1 ls1 (hd0.trans h1) hI (by omega) h2 h3)
    · refine lv_tableIn (off := 1365) (tgt := 1404) hx hb dL_law_39 (by decide) (by decide) (by decide) (by decide) ?_
      exact st_digest hst CX hZ1 hX1 hsb hsA hL hn hI hv HL1 hl (by omega) (by omega) (fun Z1 H1 locs1 ls1 h1 h2 h3 h4 => K d0 Z1 H1 locs1 ls1 hd0 h1 h2 h3 h4)
    · refine lv_tableOut (tgt := 1418) hx hb dL_law_39 (by decide) (by decide) ?_
      refine W.widen (k := 66 + n + 1) (n := 476 + 6 * n + 6) (by omega) (by omega) ?_
      exact K d0 Z H locs ls hd0 hI (by omega) HL1 hl
    · refine lv_tableOut (tgt := 1418) hx hb dL_law_39 (by decide) (by decide) ?_
      refine W.widen (k := 66 + n + 1) (n := 476 + 6 * n + 6) (by omega) (by omega) ?_
      exact K d0 Z H locs ls hd0 hI (by omega) HL1 hl
    · refine lv_tableOut (tgt := 1418) hx hb dL_law_39 (by decide) (by decide) ?_
      refine W.widen (k := 66 + n + 1) (n := 476 + 6 * n + 6) (by omega) (by omega) ?_
      exact K d0 Z H locs ls hd0 hI (by omega) HL1 hl
    · refine lv_tableOut (tgt := 1418) hx hb dL_law_39 (by decide) (by decide) ?_
      refine W.widen (k := 66 + n + 1) (n := 476 + 6 * n + 6) (by omega) (by omega) ?_
      exact K d0 Z H locs ls hd0 hI (by omega) HL1 hl
    · refine lv_tableOut (tgt := 1418) hx hb dL_law_39 (by decide) (by decide) ?_
      refine W.widen (k := 66 + n + 1) (n := 476 + 6 * n + 6) (by omega) (by omega) ?_
      exact K d0 Z H locs ls hd0 hI (by omega) HL1 hl
    · refine lv_tableOut (tgt := 1418) hx hb dL_law_39 (by decide) (by decide) ?_
      refine W.widen (k := 66 + n + 1) (n := 476 + 6 * n + 6) (by omega) (by omega) ?_
      exact K d0 Z H locs ls hd0 hI (by omega) HL1 hl
    · refine lv_tableOut (tgt := 1418) hx hb dL_law_39 (by decide) (by decide) ?_
      refine W.widen (k := 66 + n + 1) (n := 476 + 6 * n + 6) (by omega) (by omega) ?_
      exact K d0 Z H locs ls hd0 hI (by omega) HL1 hl
    · refine lv_tableOut (tgt := 1418) hx hb dL_law_39 (by decide) (by decide) ?_
      refine W.widen (k := 66 + n + 1) (n := 476 + 6 * n + 6) (by omega) (by omega) ?_
      exact K d0 Z H locs ls hd0 hI (by omega) HL1 hl
    · refine lv_tableOut (tgt := 1418) hx hb dL_law_39 (by decide) (by decide) ?_
      refine W.widen (k := 66 + n + 1) (n := 476 + 6 * n + 6) (by omega) (by omega) ?_
      exact K d0 Z H locs ls hd0 hI (by omega) HL1 hl
    · refine lv_tableOut (tgt := 1418) hx hb dL_law_39 (by decide) (by decide) ?_
      refine W.widen (k := 66 + n + 1) (n := 476 + 6 * n + 6) (by omega) (by omega) ?_
      exact K d0 Z H locs ls hd0 hI (by omega) HL1 hl
    · refine lv_tableOut (tgt := 1418) hx hb dL_law_39 (by decide) (by decide) ?_
      refine W.widen (k := 66 + n + 1) (n := 476 + 6 * n + 6) (by omega) (by omega) ?_
      exact K d0 Z H locs ls hd0 hI (by omega) HL1 hl
set_option maxRecDepth 100000 in
set_option maxHeartbeats 4000000 in
theorem whole_start {p : Program} {e : Env} {s : State} {m : MethodId} {below : List Frame} {meth : Method} {c : Code} (l : Launch) (hflags : l.flags = flags0) {b L : Nat} {xs : Nat → Int32} (hL : L ≤ 1536) (C0 : lw_At p s m meth c b L xs) : W p l e room_1 s m #[Value.ref b] below meth c s.heap [] 0 0 (lw_Z below #[Value.ref b] s) (entryFrame m ([Value.ref b] : List Value).toArray 9) := by
  obtain ⟨hx, hb, hr, hml, hown, hts0, hX, hbl, hlocks, hgv⟩ := id C0
  have hst : l.stackTraces = false := by unfold Launch.stackTraces; rw [hflags]; exact flags_st
  have hts : ∀ w ∈ wsL_law, w.before #[Value.ref b] s = true := fun w h => hts0 w (wsL_law_in w h)
  have hs := flat_of_before _ hgv
  have hbA : ¬ (fun q : Nat => s.heap.size ≤ q) b := Nat.not_le.mpr hbl
  obtain ⟨cI, kI, compI, hcI, hkI, hkdI⟩ := Cond.arrayClass_spec (hts (.arrayClass .int) ar_L_int)
  obtain ⟨cL, kL, compL, hcL, hkL, hkdL⟩ := Cond.arrayClass_spec (hts (.arrayClass .long) ar_L_long)
  obtain ⟨D, hKc⟩ : ∃ D : va_G, ∀ (k : Nat) (q : vw_C), vwCl[k]? = some q → u_Kn s q.1 q.2.1 q.2.2 (D.1 k) (D.2 k) := known_law hts
  have hK1 : va_K D vwCl (ty2 cI cL) s := by
    refine ⟨hKc, fun k q hk => ?_⟩
    match k, hk with
    | 0, hk => cases hk; exact ⟨fun n z => ⟨fun k h => (by cases h), kI, hkI, compI, hkdI⟩, hcI⟩
    | 1, hk => cases hk; exact ⟨fun n z => ⟨fun k h => (by cases h), kL, hkL, compL, hkdL⟩, hcL⟩
    | k + 2, hk => exact absurd hk (by simp [ty2])
  have hK : KK D (ty2 cI cL) s := ⟨hK1, fun w hw => va_Nw.of (nwl_on w hw) (hts0 w (nwl_t w hw)), fun q hq => by
      obtain ⟨a, c9, cA, kA, q1, -⟩ := Cond.exactly_spec (args := #[Value.ref b]) (first := s) (o := none) (s := s) (idx := []) (t := Term.string RX3 q.1) (cls := "java/lang/String") (hs _ (srl_n q hq))
      exact ⟨a, vk_R.of (hts0 _ (srl_t q hq)) q1⟩, fun q hq => va_Nc.of (hs _ (ncl_n q hq))⟩
  have hZ : Zs (fun q : Nat => s.heap.size ≤ q) s s.heap := ⟨vx_Zqof (hts0 _ zu_l) (hts0 _ zt_i) (hs _ zu_n) (fun a h => Nat.not_le.mpr h), vx_Zqof (hts0 _ zs_l) (hts0 _ zt_i) (hs _ zs_n) (fun a h => Nat.not_le.mpr h)⟩
  have CX0 : Cx p s m #[Value.ref b] meth c cL_law 9 ret RL wsL_law D (ty2 cI cL) (fun q : Nat => s.heap.size ≤ q) := ⟨hx, hb, hml, hr, hown, hts, hK, fun _ h => h, hlocks⟩
  have hd0 := Drawn.sameBut.refl s.drawn lw_cs
  refine W.base ?_
  have CX := CX0.dr s.drawn
  have HW : Hw D (fun q : Nat => s.heap.size ≤ q) (s.setDrawn s.drawn) [] s.heap [] := ⟨fun k q h => by simp at h, ⟨fun i j p q h => by simp at h, fun k q h => by simp at h⟩, va_S.rf⟩
  have hl := lv_entry ([.ref b]) (n := 9) (Nat.le_of_ble_eq_true rfl)
  rw [lg_entry_eq]
  generalize (lg_sl ([.ref b]) ++ List.replicate (9 - (lg_sl ([.ref b])).length) Slot.unset).toArray = ls at hl ⊢
  have hl : lv_has ls 9 [(0, .ref b)] := hl
  refine g_newc CX HW (ci := 3) (fs := [.null, .null]) inlX3 tyX3 tyX3_ok (by decide +kernel) (by decide +kernel) (by decide +kernel) rfl (by intro j hj; rcases (show j = 0 ∨ j = 1 by omega) with rfl | rfl <;> rfl) (Nat.le_of_ble_eq_true rfl) (Nat.le_of_ble_eq_true rfl) dL_law_0 (fun h3 H HW => ?_)
  have HW : Hw D (fun q : Nat => s.heap.size ≤ q) (s.setDrawn s.drawn) [(h3, .inr (3, [.null, .null]))] H [] := HW
  refine W.widen (k := 1) (n := 2) (Nat.le_of_ble_eq_true rfl) (Nat.le_of_ble_eq_true rfl) ?_
  refine lv_dup hx hb dL_law_3 rfl ?_
  refine g_callI CX HW hl.1 [] [] (c_X3_init h3) rfl gL_law_X3_init (by decide +kernel) (by decide +kernel) (by decide +kernel) rfl rfl hd_X3_init ⟨rfl, rfl, (Nat.le_of_ble_eq_true rfl), (Nat.le_of_ble_eq_true rfl)⟩ ⟨(Nat.le_of_ble_eq_true rfl), (Nat.le_of_ble_eq_true rfl)⟩ rfl rfl (Nat.le_of_ble_eq_true rfl) dL_law_4 (fun v w1 H locs hp HW => ?_)
  obtain ⟨rfl, r1, r2, r3, r4, r5, r6, r7, r8, r9, r10, r11, r12, r13, r14, r15, r16, r17, r18, r19, r20, r21, r22, r23, r24, r25, r26, r27, r28, r29, r30, r31, r32, r33, r34, r35, r36, rfl⟩ := hp
  have HW : Hw D (fun q : Nat => s.heap.size ≤ q) (s.setDrawn s.drawn) [(h3, .inr (3, [.ref r1, .ref r19])), (r1, .inr (2, [.int (0 : Int32), .int (0 : Int32), .ref r2, .ref r3, .ref r4, .ref r5, .ref r10])), (r2, .inl (cI, 6, .inl (upd (upd (upd (upd (upd (upd (fun _ => (0 : Int32)) 0 (1 : Int32)) 1 (1 : Int32)) 2 (1 : Int32)) 3 (1 : Int32)) 4 (1 : Int32)) 5 (1 : Int32)))), (r3, .inl (cI, 3, .inl (upd (upd (upd (fun _ => (0 : Int32)) 0 (2 : Int32)) 1 (2 : Int32)) 2 (2 : Int32)))), (r4, .inl (cI, 3, .inl (fun _ => (0 : Int32)))), (r5, .inr (0, [.int (0 : Int32), .ref r6, .ref r7, .ref r8, .ref r9])), (r6, .inl (cI, 6, .inl (fun _ => (0 : Int32)))), (r7, .inl (cI, 6, .inl (fun _ => (0 : Int32)))), (r8, .inl (cI, 6, .inl (fun _ => (0 : Int32)))), (r9, .inl (cI, 6, .inl (fun _ => (0 : Int32)))), (r10, .inr (1, [.int (0 : Int32), .ref r11, .ref r12, .ref r13, .ref r14, .ref r15, .ref r16, .ref r17, .ref r18])), (r11, .inl (cI, 8, .inl (fun _ => (0 : Int32)))), (r12, .inl (cI, 8, .inl (fun _ => (0 : Int32)))), (r13, .inl (cI, 8, .inl (fun _ => (0 : Int32)))), (r14, .inl (cI, 8, .inl (fun _ => (0 : Int32)))), (r15, .inl (cI, 8, .inl (fun _ => (0 : Int32)))), (r16, .inl (cI, 8, .inl (fun _ => (0 : Int32)))), (r17, .inl (cI, 8, .inl (fun _ => (0 : Int32)))), (r18, .inl (cI, 8, .inl (fun _ => (0 : Int32)))), (r19, .inr (2, [.int (0 : Int32), .int (0 : Int32), .ref r20, .ref r21, .ref r22, .ref r23, .ref r28])), (r20, .inl (cI, 6, .inl (upd (upd (upd (upd (upd (upd (fun _ => (0 : Int32)) 0 (1 : Int32)) 1 (1 : Int32)) 2 (1 : Int32)) 3 (1 : Int32)) 4 (1 : Int32)) 5 (1 : Int32)))), (r21, .inl (cI, 3, .inl (upd (upd (upd (fun _ => (0 : Int32)) 0 (2 : Int32)) 1 (2 : Int32)) 2 (2 : Int32)))), (r22, .inl (cI, 3, .inl (fun _ => (0 : Int32)))), (r23, .inr (0, [.int (0 : Int32), .ref r24, .ref r25, .ref r26, .ref r27])), (r24, .inl (cI, 6, .inl (fun _ => (0 : Int32)))), (r25, .inl (cI, 6, .inl (fun _ => (0 : Int32)))), (r26, .inl (cI, 6, .inl (fun _ => (0 : Int32)))), (r27, .inl (cI, 6, .inl (fun _ => (0 : Int32)))), (r28, .inr (1, [.int (0 : Int32), .ref r29, .ref r30, .ref r31, .ref r32, .ref r33, .ref r34, .ref r35, .ref r36])), (r29, .inl (cI, 8, .inl (fun _ => (0 : Int32)))), (r30, .inl (cI, 8, .inl (fun _ => (0 : Int32)))), (r31, .inl (cI, 8, .inl (fun _ => (0 : Int32)))), (r32, .inl (cI, 8, .inl (fun _ => (0 : Int32)))), (r33, .inl (cI, 8, .inl (fun _ => (0 : Int32)))), (r34, .inl (cI, 8, .inl (fun _ => (0 : Int32)))), (r35, .inl (cI, 8, .inl (fun _ => (0 : Int32)))), (r36, .inl (cI, 8, .inl (fun _ => (0 : Int32))))] H locs := HW
  refine W.eq (g2 := F0 m 7 ls [.ref h3]) rfl ?_
  refine W.widen (k := 37) (n := 244) (Nat.le_of_ble_eq_true rfl) (Nat.le_of_ble_eq_true rfl) ?_
  refine lv_astore_n (lv' := [(1, .ref h3), (0, .ref b)]) hx hb dL_law_7 rfl hl (Nat.le_of_ble_eq_true rfl) rfl (fun ls hl => ?_)
  refine g_newc CX HW (ci := 5) (fs := [.int (0 : Int32), .null, .null, .int (0 : Int32), .null, .null, .int (0 : Int32), .null, .null, .null]) inlX5 tyX5 tyX5_ok (by decide +kernel) (by decide +kernel) (by decide +kernel) rfl (by intro j hj; rcases (show j = 0 ∨ j = 1 ∨ j = 2 ∨ j = 3 ∨ j = 4 ∨ j = 5 ∨ j = 6 ∨ j = 7 ∨ j = 8 ∨ j = 9 by omega) with rfl | rfl | rfl | rfl | rfl | rfl | rfl | rfl | rfl | rfl <;> rfl) (Nat.le_of_ble_eq_true rfl) (Nat.le_of_ble_eq_true rfl) dL_law_8 (fun h5 H HW => ?_)
  have HW : Hw D (fun q : Nat => s.heap.size ≤ q) (s.setDrawn s.drawn) [(h3, .inr (3, [.ref r1, .ref r19])), (r1, .inr (2, [.int (0 : Int32), .int (0 : Int32), .ref r2, .ref r3, .ref r4, .ref r5, .ref r10])), (r2, .inl (cI, 6, .inl (upd (upd (upd (upd (upd (upd (fun _ => (0 : Int32)) 0 (1 : Int32)) 1 (1 : Int32)) 2 (1 : Int32)) 3 (1 : Int32)) 4 (1 : Int32)) 5 (1 : Int32)))), (r3, .inl (cI, 3, .inl (upd (upd (upd (fun _ => (0 : Int32)) 0 (2 : Int32)) 1 (2 : Int32)) 2 (2 : Int32)))), (r4, .inl (cI, 3, .inl (fun _ => (0 : Int32)))), (r5, .inr (0, [.int (0 : Int32), .ref r6, .ref r7, .ref r8, .ref r9])), (r6, .inl (cI, 6, .inl (fun _ => (0 : Int32)))), (r7, .inl (cI, 6, .inl (fun _ => (0 : Int32)))), (r8, .inl (cI, 6, .inl (fun _ => (0 : Int32)))), (r9, .inl (cI, 6, .inl (fun _ => (0 : Int32)))), (r10, .inr (1, [.int (0 : Int32), .ref r11, .ref r12, .ref r13, .ref r14, .ref r15, .ref r16, .ref r17, .ref r18])), (r11, .inl (cI, 8, .inl (fun _ => (0 : Int32)))), (r12, .inl (cI, 8, .inl (fun _ => (0 : Int32)))), (r13, .inl (cI, 8, .inl (fun _ => (0 : Int32)))), (r14, .inl (cI, 8, .inl (fun _ => (0 : Int32)))), (r15, .inl (cI, 8, .inl (fun _ => (0 : Int32)))), (r16, .inl (cI, 8, .inl (fun _ => (0 : Int32)))), (r17, .inl (cI, 8, .inl (fun _ => (0 : Int32)))), (r18, .inl (cI, 8, .inl (fun _ => (0 : Int32)))), (r19, .inr (2, [.int (0 : Int32), .int (0 : Int32), .ref r20, .ref r21, .ref r22, .ref r23, .ref r28])), (r20, .inl (cI, 6, .inl (upd (upd (upd (upd (upd (upd (fun _ => (0 : Int32)) 0 (1 : Int32)) 1 (1 : Int32)) 2 (1 : Int32)) 3 (1 : Int32)) 4 (1 : Int32)) 5 (1 : Int32)))), (r21, .inl (cI, 3, .inl (upd (upd (upd (fun _ => (0 : Int32)) 0 (2 : Int32)) 1 (2 : Int32)) 2 (2 : Int32)))), (r22, .inl (cI, 3, .inl (fun _ => (0 : Int32)))), (r23, .inr (0, [.int (0 : Int32), .ref r24, .ref r25, .ref r26, .ref r27])), (r24, .inl (cI, 6, .inl (fun _ => (0 : Int32)))), (r25, .inl (cI, 6, .inl (fun _ => (0 : Int32)))), (r26, .inl (cI, 6, .inl (fun _ => (0 : Int32)))), (r27, .inl (cI, 6, .inl (fun _ => (0 : Int32)))), (r28, .inr (1, [.int (0 : Int32), .ref r29, .ref r30, .ref r31, .ref r32, .ref r33, .ref r34, .ref r35, .ref r36])), (r29, .inl (cI, 8, .inl (fun _ => (0 : Int32)))), (r30, .inl (cI, 8, .inl (fun _ => (0 : Int32)))), (r31, .inl (cI, 8, .inl (fun _ => (0 : Int32)))), (r32, .inl (cI, 8, .inl (fun _ => (0 : Int32)))), (r33, .inl (cI, 8, .inl (fun _ => (0 : Int32)))), (r34, .inl (cI, 8, .inl (fun _ => (0 : Int32)))), (r35, .inl (cI, 8, .inl (fun _ => (0 : Int32)))), (r36, .inl (cI, 8, .inl (fun _ => (0 : Int32)))), (h5, .inr (5, [.int (0 : Int32), .null, .null, .int (0 : Int32), .null, .null, .int (0 : Int32), .null, .null, .null]))] H locs := HW
  refine W.widen (k := 38) (n := 254) (Nat.le_of_ble_eq_true rfl) (Nat.le_of_ble_eq_true rfl) ?_
  refine lv_dup hx hb dL_law_11 rfl ?_
  refine g_callI CX HW hl.1 [(h3, .inr (3, [.ref r1, .ref r19])), (r1, .inr (2, [.int (0 : Int32), .int (0 : Int32), .ref r2, .ref r3, .ref r4, .ref r5, .ref r10])), (r2, .inl (cI, 6, .inl (upd (upd (upd (upd (upd (upd (fun _ => (0 : Int32)) 0 (1 : Int32)) 1 (1 : Int32)) 2 (1 : Int32)) 3 (1 : Int32)) 4 (1 : Int32)) 5 (1 : Int32)))), (r3, .inl (cI, 3, .inl (upd (upd (upd (fun _ => (0 : Int32)) 0 (2 : Int32)) 1 (2 : Int32)) 2 (2 : Int32)))), (r4, .inl (cI, 3, .inl (fun _ => (0 : Int32)))), (r5, .inr (0, [.int (0 : Int32), .ref r6, .ref r7, .ref r8, .ref r9])), (r6, .inl (cI, 6, .inl (fun _ => (0 : Int32)))), (r7, .inl (cI, 6, .inl (fun _ => (0 : Int32)))), (r8, .inl (cI, 6, .inl (fun _ => (0 : Int32)))), (r9, .inl (cI, 6, .inl (fun _ => (0 : Int32)))), (r10, .inr (1, [.int (0 : Int32), .ref r11, .ref r12, .ref r13, .ref r14, .ref r15, .ref r16, .ref r17, .ref r18])), (r11, .inl (cI, 8, .inl (fun _ => (0 : Int32)))), (r12, .inl (cI, 8, .inl (fun _ => (0 : Int32)))), (r13, .inl (cI, 8, .inl (fun _ => (0 : Int32)))), (r14, .inl (cI, 8, .inl (fun _ => (0 : Int32)))), (r15, .inl (cI, 8, .inl (fun _ => (0 : Int32)))), (r16, .inl (cI, 8, .inl (fun _ => (0 : Int32)))), (r17, .inl (cI, 8, .inl (fun _ => (0 : Int32)))), (r18, .inl (cI, 8, .inl (fun _ => (0 : Int32)))), (r19, .inr (2, [.int (0 : Int32), .int (0 : Int32), .ref r20, .ref r21, .ref r22, .ref r23, .ref r28])), (r20, .inl (cI, 6, .inl (upd (upd (upd (upd (upd (upd (fun _ => (0 : Int32)) 0 (1 : Int32)) 1 (1 : Int32)) 2 (1 : Int32)) 3 (1 : Int32)) 4 (1 : Int32)) 5 (1 : Int32)))), (r21, .inl (cI, 3, .inl (upd (upd (upd (fun _ => (0 : Int32)) 0 (2 : Int32)) 1 (2 : Int32)) 2 (2 : Int32)))), (r22, .inl (cI, 3, .inl (fun _ => (0 : Int32)))), (r23, .inr (0, [.int (0 : Int32), .ref r24, .ref r25, .ref r26, .ref r27])), (r24, .inl (cI, 6, .inl (fun _ => (0 : Int32)))), (r25, .inl (cI, 6, .inl (fun _ => (0 : Int32)))), (r26, .inl (cI, 6, .inl (fun _ => (0 : Int32)))), (r27, .inl (cI, 6, .inl (fun _ => (0 : Int32)))), (r28, .inr (1, [.int (0 : Int32), .ref r29, .ref r30, .ref r31, .ref r32, .ref r33, .ref r34, .ref r35, .ref r36])), (r29, .inl (cI, 8, .inl (fun _ => (0 : Int32)))), (r30, .inl (cI, 8, .inl (fun _ => (0 : Int32)))), (r31, .inl (cI, 8, .inl (fun _ => (0 : Int32)))), (r32, .inl (cI, 8, .inl (fun _ => (0 : Int32)))), (r33, .inl (cI, 8, .inl (fun _ => (0 : Int32)))), (r34, .inl (cI, 8, .inl (fun _ => (0 : Int32)))), (r35, .inl (cI, 8, .inl (fun _ => (0 : Int32)))), (r36, .inl (cI, 8, .inl (fun _ => (0 : Int32))))] [] (c_X5_init h5) rfl gL_law_X5_init (by decide +kernel) (by decide +kernel) (by decide +kernel) rfl rfl hd_X5_init ⟨rfl, rfl, (Nat.le_of_ble_eq_true rfl), (Nat.le_of_ble_eq_true rfl)⟩ ⟨(Nat.le_of_ble_eq_true rfl), (Nat.le_of_ble_eq_true rfl)⟩ rfl rfl (Nat.le_of_ble_eq_true rfl) dL_law_12 (fun v w1 H locs hp HW => ?_)
  obtain ⟨rfl, t1, t2, t3, t4, t5, t6, t7, t8, t9, t10, t11, t12, t13, t14, t15, t16, t17, t18, t19, t20, t21, t22, t23, t24, t25, t26, t27, rfl⟩ := hp
  have HW : Hw D (fun q : Nat => s.heap.size ≤ q) (s.setDrawn s.drawn) [(h3, .inr (3, [.ref r1, .ref r19])), (r1, .inr (2, [.int (0 : Int32), .int (0 : Int32), .ref r2, .ref r3, .ref r4, .ref r5, .ref r10])), (r2, .inl (cI, 6, .inl (upd (upd (upd (upd (upd (upd (fun _ => (0 : Int32)) 0 (1 : Int32)) 1 (1 : Int32)) 2 (1 : Int32)) 3 (1 : Int32)) 4 (1 : Int32)) 5 (1 : Int32)))), (r3, .inl (cI, 3, .inl (upd (upd (upd (fun _ => (0 : Int32)) 0 (2 : Int32)) 1 (2 : Int32)) 2 (2 : Int32)))), (r4, .inl (cI, 3, .inl (fun _ => (0 : Int32)))), (r5, .inr (0, [.int (0 : Int32), .ref r6, .ref r7, .ref r8, .ref r9])), (r6, .inl (cI, 6, .inl (fun _ => (0 : Int32)))), (r7, .inl (cI, 6, .inl (fun _ => (0 : Int32)))), (r8, .inl (cI, 6, .inl (fun _ => (0 : Int32)))), (r9, .inl (cI, 6, .inl (fun _ => (0 : Int32)))), (r10, .inr (1, [.int (0 : Int32), .ref r11, .ref r12, .ref r13, .ref r14, .ref r15, .ref r16, .ref r17, .ref r18])), (r11, .inl (cI, 8, .inl (fun _ => (0 : Int32)))), (r12, .inl (cI, 8, .inl (fun _ => (0 : Int32)))), (r13, .inl (cI, 8, .inl (fun _ => (0 : Int32)))), (r14, .inl (cI, 8, .inl (fun _ => (0 : Int32)))), (r15, .inl (cI, 8, .inl (fun _ => (0 : Int32)))), (r16, .inl (cI, 8, .inl (fun _ => (0 : Int32)))), (r17, .inl (cI, 8, .inl (fun _ => (0 : Int32)))), (r18, .inl (cI, 8, .inl (fun _ => (0 : Int32)))), (r19, .inr (2, [.int (0 : Int32), .int (0 : Int32), .ref r20, .ref r21, .ref r22, .ref r23, .ref r28])), (r20, .inl (cI, 6, .inl (upd (upd (upd (upd (upd (upd (fun _ => (0 : Int32)) 0 (1 : Int32)) 1 (1 : Int32)) 2 (1 : Int32)) 3 (1 : Int32)) 4 (1 : Int32)) 5 (1 : Int32)))), (r21, .inl (cI, 3, .inl (upd (upd (upd (fun _ => (0 : Int32)) 0 (2 : Int32)) 1 (2 : Int32)) 2 (2 : Int32)))), (r22, .inl (cI, 3, .inl (fun _ => (0 : Int32)))), (r23, .inr (0, [.int (0 : Int32), .ref r24, .ref r25, .ref r26, .ref r27])), (r24, .inl (cI, 6, .inl (fun _ => (0 : Int32)))), (r25, .inl (cI, 6, .inl (fun _ => (0 : Int32)))), (r26, .inl (cI, 6, .inl (fun _ => (0 : Int32)))), (r27, .inl (cI, 6, .inl (fun _ => (0 : Int32)))), (r28, .inr (1, [.int (0 : Int32), .ref r29, .ref r30, .ref r31, .ref r32, .ref r33, .ref r34, .ref r35, .ref r36])), (r29, .inl (cI, 8, .inl (fun _ => (0 : Int32)))), (r30, .inl (cI, 8, .inl (fun _ => (0 : Int32)))), (r31, .inl (cI, 8, .inl (fun _ => (0 : Int32)))), (r32, .inl (cI, 8, .inl (fun _ => (0 : Int32)))), (r33, .inl (cI, 8, .inl (fun _ => (0 : Int32)))), (r34, .inl (cI, 8, .inl (fun _ => (0 : Int32)))), (r35, .inl (cI, 8, .inl (fun _ => (0 : Int32)))), (r36, .inl (cI, 8, .inl (fun _ => (0 : Int32)))), (h5, .inr (5, [.int (0 : Int32), .ref t1, .ref t2, .int (0 : Int32), .ref t3, .ref t4, .int (0 : Int32), .ref t5, .ref t6, .ref t17])), (t1, .inl (cI, 6, .inl (upd (upd (upd (upd (upd (upd (fun _ => (0 : Int32)) 0 (1 : Int32)) 1 (1 : Int32)) 2 (1 : Int32)) 3 (1 : Int32)) 4 (1 : Int32)) 5 (1 : Int32)))), (t2, .inl (cI, 3, .inl (upd (upd (upd (fun _ => (0 : Int32)) 0 (2 : Int32)) 1 (2 : Int32)) 2 (2 : Int32)))), (t3, .inl (cI, 6, .inl (fun _ => (0 : Int32)))), (t4, .inl (cI, 6, .inl (fun _ => (0 : Int32)))), (t5, .inl (cI, 8, .inl (fun _ => (0 : Int32)))), (t6, .inr (4, [.int (0 : Int32), .int (0 : Int32), .int (0 : Int32), .ref t7, .ref t8, .ref t9, .ref t10, .ref t11, .ref t12, .ref t13, .ref t14, .ref t15, .ref t16, .ref h5])), (t7, .inl (cI, 6, .inl (fun _ => (0 : Int32)))), (t8, .inl (cI, 6, .inl (fun _ => (0 : Int32)))), (t9, .inl (cI, 8, .inl (fun _ => (0 : Int32)))), (t10, .inl (cI, 8, .inl (fun _ => (0 : Int32)))), (t11, .inl (cI, 8, .inl (fun _ => (0 : Int32)))), (t12, .inl (cI, 8, .inl (fun _ => (0 : Int32)))), (t13, .inl (cI, 8, .inl (fun _ => (0 : Int32)))), (t14, .inl (cI, 3, .inl (fun _ => (0 : Int32)))), (t15, .inl (cI, 3, .inl (fun _ => (0 : Int32)))), (t16, .inl (cI, 24, .inl (fun _ => (0 : Int32)))), (t17, .inr (4, [.int (0 : Int32), .int (0 : Int32), .int (0 : Int32), .ref t18, .ref t19, .ref t20, .ref t21, .ref t22, .ref t23, .ref t24, .ref t25, .ref t26, .ref t27, .ref h5])), (t18, .inl (cI, 6, .inl (fun _ => (0 : Int32)))), (t19, .inl (cI, 6, .inl (fun _ => (0 : Int32)))), (t20, .inl (cI, 8, .inl (fun _ => (0 : Int32)))), (t21, .inl (cI, 8, .inl (fun _ => (0 : Int32)))), (t22, .inl (cI, 8, .inl (fun _ => (0 : Int32)))), (t23, .inl (cI, 8, .inl (fun _ => (0 : Int32)))), (t24, .inl (cI, 8, .inl (fun _ => (0 : Int32)))), (t25, .inl (cI, 3, .inl (fun _ => (0 : Int32)))), (t26, .inl (cI, 3, .inl (fun _ => (0 : Int32)))), (t27, .inl (cI, 24, .inl (fun _ => (0 : Int32))))] H locs := HW
  refine W.eq (g2 := F0 m 15 ls [.ref h5]) rfl ?_
  refine W.widen (k := 65) (n := 475) (Nat.le_of_ble_eq_true rfl) (Nat.le_of_ble_eq_true rfl) ?_
  refine lv_astore_n (lv' := [(2, .ref h5), (1, .ref h3), (0, .ref b)]) hx hb dL_law_15 rfl hl (Nat.le_of_ble_eq_true rfl) rfl (fun ls hl => ?_)
  refine lv_iconst (v := 1) hx hb dL_law_16 (by decide) ?_
  refine g_newl CX HW rfl ar_L_long (n := 1) (N := 1) (by decide) (by decide) (by decide) (Nat.le_of_ble_eq_true rfl) (Nat.le_of_ble_eq_true rfl) dL_law_17 (fun bo H HW => ?_)
  refine W.widen (k := 66) (n := 476) (Nat.le_of_ble_eq_true rfl) (Nat.le_of_ble_eq_true rfl) ?_
  refine lv_astore_n (lv' := [(3, .ref bo), (2, .ref h5), (1, .ref h3), (0, .ref b)]) hx hb dL_law_19 rfl hl (Nat.le_of_ble_eq_true rfl) rfl (fun ls hl => ?_)
  refine lv_iconst (v := 0) hx hb dL_law_20 (by decide) ?_
  refine lv_istore (lv' := [(4, .int (0 : Int32)), (3, .ref bo), (2, .ref h5), (1, .ref h3), (0, .ref b)]) hx hb dL_law_21 hl (Nat.le_of_ble_eq_true rfl) rfl (fun ls hl => ?_)
  have HW : Hw D (fun q : Nat => s.heap.size ≤ q) s ((wXo cI (adr [h3, r1, r2, r3, r4, r5, r6, r7, r8, r9, r10, r11, r12, r13, r14, r15, r16, r17, r18, r19, r20, r21, r22, r23, r24, r25, r26, r27, r28, r29, r30, r31, r32, r33, r34, r35, r36]) 0  ++ (wVo cI (adr [h3, r1, r2, r3, r4, r5, r6, r7, r8, r9, r10, r11, r12, r13, r14, r15, r16, r17, r18, r19, r20, r21, r22, r23, r24, r25, r26, r27, r28, r29, r30, r31, r32, r33, r34, r35, r36]) (0 + 1) (vh Z0) (vc Z0) (vA Z0 0) (vA Z0 1) (vA Z0 2) ++ (wR cI (adr [h3, r1, r2, r3, r4, r5, r6, r7, r8, r9, r10, r11, r12, r13, r14, r15, r16, r17, r18, r19, r20, r21, r22, r23, r24, r25, r26, r27, r28, r29, r30, r31, r32, r33, r34, r35, r36]) ((0 + 1) + 4) (vr Z0) (vA Z0 3) (vA Z0 4) (vA Z0 5) (vA Z0 6) ++ (wS cI (adr [h3, r1, r2, r3, r4, r5, r6, r7, r8, r9, r10, r11, r12, r13, r14, r15, r16, r17, r18, r19, r20, r21, r22, r23, r24, r25, r26, r27, r28, r29, r30, r31, r32, r33, r34, r35, r36]) ((0 + 1) + 9) (vs Z0) (vA Z0 7) (vA Z0 8) (vA Z0 9) (vA Z0 10) (vA Z0 11) (vA Z0 12) (fun _ => (0 : Int32)) (fun _ => (0 : Int32)) ++ (wVo cI (adr [h3, r1, r2, r3, r4, r5, r6, r7, r8, r9, r10, r11, r12, r13, r14, r15, r16, r17, r18, r19, r20, r21, r22, r23, r24, r25, r26, r27, r28, r29, r30, r31, r32, r33, r34, r35, r36]) (0 + 19) (vh Z0) (vc Z0) (vA Z0 0) (vA Z0 1) (vA Z0 2) ++ (wR cI (adr [h3, r1, r2, r3, r4, r5, r6, r7, r8, r9, r10, r11, r12, r13, r14, r15, r16, r17, r18, r19, r20, r21, r22, r23, r24, r25, r26, r27, r28, r29, r30, r31, r32, r33, r34, r35, r36]) ((0 + 19) + 4) (vr Z0) (vA Z0 3) (vA Z0 4) (vA Z0 5) (vA Z0 6) ++ (wS cI (adr [h3, r1, r2, r3, r4, r5, r6, r7, r8, r9, r10, r11, r12, r13, r14, r15, r16, r17, r18, r19, r20, r21, r22, r23, r24, r25, r26, r27, r28, r29, r30, r31, r32, r33, r34, r35, r36]) ((0 + 19) + 9) (vs Z0) (vA Z0 7) (vA Z0 8) (vA Z0 9) (vA Z0 10) (vA Z0 11) (vA Z0 12) (fun _ => (0 : Int32)) (fun _ => (0 : Int32))))))))) ++ ((wMo cI (adr [h5, t1, t2, t3, t4, t5, t6, t7, t8, t9, t10, t11, t12, t13, t14, t15, t16, t17, t18, t19, t20, t21, t22, t23, t24, t25, t26, t27]) 0 (0 : Int32) (vA Z0 0) (vA Z0 1) (vr Z0) (vA Z0 3) (vA Z0 4) (vs Z0) (vA Z0 7) ++ (wMS cI (adr [h5, t1, t2, t3, t4, t5, t6, t7, t8, t9, t10, t11, t12, t13, t14, t15, t16, t17, t18, t19, t20, t21, t22, t23, t24, t25, t26, t27]) (0 + 6) ((adr [h5, t1, t2, t3, t4, t5, t6, t7, t8, t9, t10, t11, t12, t13, t14, t15, t16, t17, t18, t19, t20, t21, t22, t23, t24, t25, t26, t27]) 0) (vh Z0) (vc Z0) (0 : Int32) (vA Z0 5) (vA Z0 6) (vA Z0 8) (vA Z0 9) (vA Z0 10) (vA Z0 11) (vA Z0 12) (vA Z0 2) (fun _ => (0 : Int32)) (fun _ => (0 : Int32)) ++ (wMS cI (adr [h5, t1, t2, t3, t4, t5, t6, t7, t8, t9, t10, t11, t12, t13, t14, t15, t16, t17, t18, t19, t20, t21, t22, t23, t24, t25, t26, t27]) (0 + 17) ((adr [h5, t1, t2, t3, t4, t5, t6, t7, t8, t9, t10, t11, t12, t13, t14, t15, t16, t17, t18, t19, t20, t21, t22, t23, t24, t25, t26, t27]) 0) (vh Z0) (vc Z0) (0 : Int32) (vA Z0 5) (vA Z0 6) (vA Z0 8) (vA Z0 9) (vA Z0 10) (vA Z0 11) (vA Z0 12) (vA Z0 2) (fun _ => (0 : Int32)) (fun _ => (0 : Int32))))) ++ [(bo, .inl (cL, 1, .inr (.inl (fun _ => (0 : Int64)))))])) H locs := HW
  have HW : Hw D (fun q : Nat => s.heap.size ≤ q) s ((wXo cI (adr [h3, r1, r2, r3, r4, r5, r6, r7, r8, r9, r10, r11, r12, r13, r14, r15, r16, r17, r18, r19, r20, r21, r22, r23, r24, r25, r26, r27, r28, r29, r30, r31, r32, r33, r34, r35, r36]) 0  ++ (wVo cI (adr [h3, r1, r2, r3, r4, r5, r6, r7, r8, r9, r10, r11, r12, r13, r14, r15, r16, r17, r18, r19, r20, r21, r22, r23, r24, r25, r26, r27, r28, r29, r30, r31, r32, r33, r34, r35, r36]) (0 + 1) (vh Z0) (vc Z0) (vA Z0 0) (vA Z0 1) (vA Z0 2) ++ (wR cI (adr [h3, r1, r2, r3, r4, r5, r6, r7, r8, r9, r10, r11, r12, r13, r14, r15, r16, r17, r18, r19, r20, r21, r22, r23, r24, r25, r26, r27, r28, r29, r30, r31, r32, r33, r34, r35, r36]) ((0 + 1) + 4) (vr Z0) (vA Z0 3) (vA Z0 4) (vA Z0 5) (vA Z0 6) ++ (wS cI (adr [h3, r1, r2, r3, r4, r5, r6, r7, r8, r9, r10, r11, r12, r13, r14, r15, r16, r17, r18, r19, r20, r21, r22, r23, r24, r25, r26, r27, r28, r29, r30, r31, r32, r33, r34, r35, r36]) ((0 + 1) + 9) (vs Z0) (vA Z0 7) (vA Z0 8) (vA Z0 9) (vA Z0 10) (vA Z0 11) (vA Z0 12) (fun _ => (0 : Int32)) (fun _ => (0 : Int32)) ++ (wVo cI (adr [h3, r1, r2, r3, r4, r5, r6, r7, r8, r9, r10, r11, r12, r13, r14, r15, r16, r17, r18, r19, r20, r21, r22, r23, r24, r25, r26, r27, r28, r29, r30, r31, r32, r33, r34, r35, r36]) (0 + 19) (vh Z0) (vc Z0) (vA Z0 0) (vA Z0 1) (vA Z0 2) ++ (wR cI (adr [h3, r1, r2, r3, r4, r5, r6, r7, r8, r9, r10, r11, r12, r13, r14, r15, r16, r17, r18, r19, r20, r21, r22, r23, r24, r25, r26, r27, r28, r29, r30, r31, r32, r33, r34, r35, r36]) ((0 + 19) + 4) (vr Z0) (vA Z0 3) (vA Z0 4) (vA Z0 5) (vA Z0 6) ++ (wS cI (adr [h3, r1, r2, r3, r4, r5, r6, r7, r8, r9, r10, r11, r12, r13, r14, r15, r16, r17, r18, r19, r20, r21, r22, r23, r24, r25, r26, r27, r28, r29, r30, r31, r32, r33, r34, r35, r36]) ((0 + 19) + 9) (vs Z0) (vA Z0 7) (vA Z0 8) (vA Z0 9) (vA Z0 10) (vA Z0 11) (vA Z0 12) (fun _ => (0 : Int32)) (fun _ => (0 : Int32))))))))) ++ ((wMo cI (adr [h5, t1, t2, t3, t4, t5, t6, t7, t8, t9, t10, t11, t12, t13, t14, t15, t16, t17, t18, t19, t20, t21, t22, t23, t24, t25, t26, t27]) 0 (0 : Int32) (vA Z0 0) (vA Z0 1) (vr Z0) (vA Z0 3) (vA Z0 4) (vs Z0) (vA Z0 7) ++ (wMS cI (adr [h5, t1, t2, t3, t4, t5, t6, t7, t8, t9, t10, t11, t12, t13, t14, t15, t16, t17, t18, t19, t20, t21, t22, t23, t24, t25, t26, t27]) (0 + 6) ((adr [h5, t1, t2, t3, t4, t5, t6, t7, t8, t9, t10, t11, t12, t13, t14, t15, t16, t17, t18, t19, t20, t21, t22, t23, t24, t25, t26, t27]) 0) (vh Z0) (vc Z0) (sumP Z0) (vA Z0 5) (vA Z0 6) (vA Z0 8) (vA Z0 9) (vA Z0 10) (vA Z0 11) (vA Z0 12) (vA Z0 2) (fun _ => (0 : Int32)) (fun _ => (0 : Int32)) ++ (wMS cI (adr [h5, t1, t2, t3, t4, t5, t6, t7, t8, t9, t10, t11, t12, t13, t14, t15, t16, t17, t18, t19, t20, t21, t22, t23, t24, t25, t26, t27]) (0 + 17) ((adr [h5, t1, t2, t3, t4, t5, t6, t7, t8, t9, t10, t11, t12, t13, t14, t15, t16, t17, t18, t19, t20, t21, t22, t23, t24, t25, t26, t27]) 0) (vh Z0) (vc Z0) (0 : Int32) (vA Z0 5) (vA Z0 6) (vA Z0 8) (vA Z0 9) (vA Z0 10) (vA Z0 11) (vA Z0 12) (vA Z0 2) (fun _ => (0 : Int32)) (fun _ => (0 : Int32))))) ++ [(bo, .inl (cL, 1, .inr (.inl (fun _ => (0 : Int64)))))])) H locs := by rw [show sumP Z0 = (0 : Int32) from by decide]; exact HW
  have HW := HW.sw2
  rw [← List.append_assoc] at HW
  have HL : LR D cI cL (fun q : Nat => s.heap.size ≤ q) s (adr [h3, r1, r2, r3, r4, r5, r6, r7, r8, r9, r10, r11, r12, r13, r14, r15, r16, r17, r18, r19, r20, r21, r22, r23, r24, r25, r26, r27, r28, r29, r30, r31, r32, r33, r34, r35, r36]) (adr [h5, t1, t2, t3, t4, t5, t6, t7, t8, t9, t10, t11, t12, t13, t14, t15, t16, t17, t18, t19, t20, t21, t22, t23, t24, t25, t26, t27]) bo Z0 H locs := ⟨(fun _ => (0 : Int32)), (fun _ => (0 : Int32)), Z0, (fun _ => (0 : Int32)), (fun _ => (0 : Int32)), (fun _ => (0 : Int64)), 0, (fun _ => (0 : Int32)), (fun _ => (0 : Int32)), Z0, 0, (fun _ => (0 : Int32)), (fun _ => (0 : Int32)), rep_Z0, repM_Z0, HW⟩
  exact law_loop hst CX0 hZ hX hbl hbA hL hx hb hr hlocks (L + 1) 0 (by omega) (by omega) s.drawn hd0 Z0 H locs ls li_Z0 (Nat.zero_le _) HL hl
