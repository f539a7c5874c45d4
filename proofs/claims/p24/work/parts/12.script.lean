/-! methods that read the script -/
def SX (A : Nat → Prop) (b L : Nat) (xs : Nat → Int32) (s : State) : Prop := va_X b L xs s s.heap ∧ b < s.heap.size ∧ ¬ A b
def sPc (D : va_G) (tys : List (ClassId × FieldType)) (av : List Value) (b L : Nat) (xs : Nat → Int32) (sz : Nat) : Array Value → State → Prop := va_Pc av (fun U => U.heap.size = sz ∧ KK D tys U ∧ va_X b L xs U U.heap ∧ b < sz)
def CtS (l : Launch) (y : MethodName) (ws : List Cond) (rm : Room) (D : va_G) (tys : List (ClassId × FieldType)) (av : List Value) (b L : Nat) (xs : Nat → Int32) (post : Option Value → va_W → Prop) (mc ms : Nat) : Prop :=
  ∀ sz : Nat, Met l y ws rm (sPc D tys av b L xs sz) (cQ D (va_A [] sz) post) mc ms (va_A [] sz)
theorem sPc.blind {D : va_G} {tys : List (ClassId × FieldType)} {av : List Value} {b L : Nat} {xs : Nat → Int32} {sz : Nat} : FrameBlind (sPc D tys av b L xs sz) := by
  intro a U g mk q
  obtain ⟨q0, q1, q2, q3, q4⟩ := q
  exact ⟨q0, q1, KK.same (s := U) (U := U.calling g mk a) rfl q2, va_X.moved (u := U) (U := U.calling g mk a) (Vm.Alike.refl U.vm) q3, q4⟩
theorem hw_nil {D : va_G} {A : Nat → Prop} {s : State} : Hw D A s [] s.heap [] := ⟨fun k q h => by simp at h, ⟨fun i j p q h => by simp at h, fun k q h => by simp at h⟩, va_S.rf⟩
theorem CtS.of {l : Launch} {y : MethodName} {ws ws' : List Cond} {rm : Room} {D : va_G} {tys : List (ClassId × FieldType)} {av : List Value} {b L : Nat} {xs : Nat → Int32} {post : Option Value → va_W → Prop} {mc ms : Nat} {cc : ByteArray} {maxL : Nat} {ret : Option FieldType}
    (hy : plainName y.cls = true) (hw : ws = Cond.code y cc maxL ret :: ws') (hav : (lg_sl av).length ≤ maxL)
    (body : ∀ (p : Program) (e : Env) (s : State) (m : MethodId) (below : List Frame) (meth : Method) (c : Code) (A : Nat → Prop) (ls : Array Slot), Cx p s m av.toArray meth c cc maxL ret y.cls ws D tys A → meth.name = y.name → SX A b L xs s → Hw D A s [] s.heap [] → lv_has ls maxL (lv_args 0 av) →
      W p l e rm s m av.toArray below meth c s.heap [] 0 0 (MQ below (cQ D A post) av.toArray s mc ms A) (F0 m 0 ls [])) : CtS l y ws rm D tys av b L xs post mc ms := by
  intro sz
  refine Met.ofW (cc := cc) (maxL := maxL) (ret := ret) hy hw ?_
  intro p e s m args below meth c s₁ B hml hv
  obtain ⟨rfl, hsz, hK, hX, hb⟩ := hv
  subst hsz
  have hown : s.vm.findClass y.cls = some m.cls := findClass_of_methodNamed B.named
  have hA : ∀ q : Nat, s.heap.size ≤ q → va_A [] s.heap.size q := fun q h => Or.inr h
  have hl := lv_entry av (n := maxL) hav
  rw [lg_entry_eq]
  exact body p e s m below meth c (va_A [] s.heap.size) _ ⟨B.exec, B.bytes, hml, B.returns, hown, atoms_spec (ws := ws) B.pre, hK, hA, B.notSynchronized⟩ (name_of_methodNamed B.named B.method).1 ⟨hX, hb, fun h => h.elim (fun ⟨k, e, h⟩ => by simp at h) (fun h => absurd h (Nat.not_le.mpr hb))⟩ hw_nil hl
section GS
variable {p : Program} {l : Launch} {e : Env} {R : Room} {s : State} {m : MethodId} {args : Array Value} {below : List Frame} {meth : Method} {c : Code} {H : Heap} {locs : List Loc} {cells slots : Nat} {Q : State → Prop}
variable {cc : ByteArray} {pc nL : Nat} {ls : Array Slot} {rest : List Value} {ret : Option FieldType} {own : String} {Ts : List Cond} {D : va_G} {A : Nat → Prop} {tys : List (ClassId × FieldType)} {w : va_W} {sb L : Nat} {xs : Nat → Int32}
theorem g_preS (CX : Cx p s m args meth c cc nL ret own Ts D tys A) (HW : Hw D A s w H locs) (hSX : SX A sb L xs s) (av : List Value) : PreS s H (sPc D tys av sb L xs H.size) av :=
  ⟨sPc.blind, fun U hU hW => ⟨rfl, by rw [hU], CX.hK.warm hW, by rw [hU]; exact (hSX.1.kept (HW.2.2.2.1 sb hSX.2.1 hSX.2.2)).moved hW.alike, Nat.lt_of_lt_of_le hSX.2.1 HW.2.2.1⟩⟩
/-- a static method of the same class, over the script -/
theorem g_callSS {y : MethodName} {index n maxL mc ms : Nat} {bytes : ByteArray} {rt : Option FieldType} {ws2 ws2' : List Cond} {rm2 : Room} {As st0 : List Value} {post : Option Value → va_W → Prop} (CX : Cx p s m args meth c cc nL ret own Ts D tys A) (HW : Hw D A s w H locs) (hSX : SX A sb L xs s) (hl : ls.size = nL) (pre suf : va_W) (hc : CtS l y ws2 rm2 D tys As sb L xs post mc ms) (hw : w = pre ++ ([] ++ suf))
    (hG : GoodIn Ts (va_wsS own index y ws2)) (hy : ws2 = Cond.code y bytes maxL rt :: ws2') (hd : y.cls ≠ "java/lang/invoke/MethodHandle" ∧ y.cls ≠ "java/lang/invoke/VarHandle" ∧ (parseMethodDescriptor y.desc).map (fun d => d.parameters.length) = some n) (hR : rm2.cells = mc ∧ rm2.slots = ms ∧ rm2.frames + 1 ≤ R.frames ∧ 8 + (maxL + 11) + rm2.locals ≤ R.locals) (hcs : cells + mc ≤ R.cells ∧ slots + ms ≤ R.slots) (hn : As.length = n) (hst : st0 = As.reverse ++ rest) (hW : (rest.map fun v => v.category).sum ≤ 8) (hdg : decode cc pc = .ok (.invokestatic index, 3))
    (kk : ∀ (v : Option Value) (w1 : va_W) (H1 : Heap) (locs1 : List Loc), post v w1 → Hw D A s (pre ++ (w1 ++ suf)) H1 locs1 → W p l e R s m args below meth c H1 locs1 (cells + mc) (slots + ms) Q (F0 m (pc + 3) ls (v.toList ++ rest))) : W p l e R s m args below meth c H locs cells slots Q (F0 m pc ls st0) :=
  g_run HW hw CX.hA (va_runS CX.fix (hc H.size) (va_cwS n CX.fix.2.2.2.2 hG hy hR.1 hR.2.1 hd ⟨hR.2.2.1, hR.2.2.2⟩) (g_preS CX HW hSX As) rfl hn hl hst (lv_room hW) hdg hcs) kk
/-- a read of the script -/
theorem g_sld (CX : Cx p s m args meth c cc nL ret own Ts D tys A) (HW : Hw D A s w H locs) (hSX : SX A sb L xs s) {k : Nat} (hk : k < L) (hL : L < 2 ^ 31) (hdg : decode cc pc = .ok (.iaload, 1))
    (kk : W p l e R s m args below meth c H locs cells slots Q (F0 m (pc + 1) ls (.int (xs k) :: rest))) : W p l e R s m args below meth c H locs cells slots Q (F0 m pc ls (.int (nI k) :: .ref sb :: rest)) := by
  refine va_sld CX.1 CX.2.1 hSX.1 hSX.2.1 hSX.2.2 HW.2.2 (vp_in_nI hk hL) hdg ?_
  rw [nI_clamp (by omega)]
  exact kk
theorem g_aret {post : Option Value → va_W → Prop} {rn : String} (CX : Cx p s m args meth c cc nL ret own Ts D tys A) (HW : Hw D A s w H locs) (hret : ret = some (.object rn)) {v : Addr} (hpost : post (some (.ref v)) w) (hdg : decode cc pc = .ok (.areturn, 1)) : W p l e R s m args below meth c H locs cells slots (MQ below (cQ D A post) args s cells slots A) (F0 m pc ls [.ref v]) := by
  obtain ⟨hx, hb, hml, hr, hown, hts, hK, hA, hlk⟩ := CX
  exact W.aret (rt := .object rn) hx hb (by rw [hr, hret]) (Or.inl ⟨rn, rfl⟩) (Or.inr ⟨v, rfl⟩) (fun t ht hW => ⟨⟨_, w, rfl, hpost, by rw [ht]; exact HW.1, HW.2.1⟩, HW.2.2.F ht⟩) HW.2.2.2.2 hdg hlk
end GS
/-- below(v, n) -/
def bl (v : Int32) (n : Nat) : Nat := natI (v &&& 2147483647) % n
theorem bl_and (v : Int32) : v &&& 2147483647 = nI (natI (v &&& 2147483647)) ∧ natI (v &&& 2147483647) < 2 ^ 31 := by
  obtain ⟨j, hj, e⟩ := pk_andE v (m := 2147483647) 31 (by decide)
  rw [e, natI_nI hj]
  exact ⟨rfl, hj⟩
theorem bl_lt (v : Int32) {n : Nat} (h : 0 < n) : bl v n < n := Nat.mod_lt _ h
theorem bl_eq {v : Int32} {n : Nat} (h : nI (bl v n) = 0) : bl v n = 0 := by
  have h1 : bl v n < 2 ^ 31 := Nat.lt_of_le_of_lt (Nat.mod_le _ _) (bl_and v).2
  exact nI_inj (b := 0) h1 (by decide) h
theorem bl_ne {v : Int32} {n : Nat} (h : ¬ nI (bl v n) = 0) : ¬ bl v n = 0 := fun h9 => h (by rw [h9]; rfl)
/-- a cell of the script -/
def cellF (xs : Nat → Int32) (L k : Nat) : Int32 := if k < L then xs k else 461243603 * (nI k + 3)
def fkF (xs : Nat → Int32) (L k : Nat) : Nat := bl (cellF xs L k >>> ((3 : Int32) &&& 31)) 4
def pmF (xs : Nat → Int32) (L k : Nat) : Nat := 1 + bl (cellF xs L k >>> ((7 : Int32) &&& 31)) 4
def toF (xs : Nat → Int32) (L k : Nat) : Nat := bl (cellF xs L (6 + k)) 3
def slF (xs : Nat → Int32) (L k : Nat) : Nat := 1 + bl (cellF xs L (6 + k) >>> ((4 : Int32) &&& 31)) 9
def skF (xs : Nat → Int32) (L k : Nat) : Nat := 1 + bl (cellF xs L (10 + k)) 9
def coF (xs : Nat → Int32) (L k : Nat) : Nat := if bl (cellF xs L (10 + k) >>> ((12 : Int32) &&& 31)) 3 = 0 then bl (cellF xs L (10 + k) >>> ((5 : Int32) &&& 31)) 61 else bl (cellF xs L (10 + k) >>> ((5 : Int32) &&& 31)) 9
def wxF (xs : Nat → Int32) (L k : Nat) : Nat := if coF xs L k < 2 then 0 else bl (cellF xs L (10 + k) >>> ((9 : Int32) &&& 31)) 5
def stF (xs : Nat → Int32) (L k : Nat) : Nat := bl (cellF xs L (10 + k) >>> ((15 : Int32) &&& 31)) 4
theorem coF_le (xs : Nat → Int32) (L k : Nat) : coF xs L k ≤ 60 := by
  unfold coF
  split
  · exact Nat.le_of_lt_succ (bl_lt _ (by decide))
  · exact Nat.le_trans (Nat.le_of_lt (bl_lt _ (by decide))) (by decide)
theorem coF_lt (xs : Nat → Int32) (L k : Nat) : coF xs L k < 2 ^ 31 := Nat.lt_of_le_of_lt (coF_le xs L k) (by decide)
theorem wxF_le (xs : Nat → Int32) (L k : Nat) : wxF xs L k ≤ 4 := by
  unfold wxF
  split
  · decide
  · exact Nat.le_of_lt_succ (bl_lt _ (by decide))
theorem wxF_co {xs : Nat → Int32} {L k : Nat} (h : wxF xs L k ≠ 0) : 2 ≤ coF xs L k := by
  unfold wxF at h
  split at h
  · exact absurd rfl h
  · omega
theorem stF_le (xs : Nat → Int32) (L k : Nat) : stF xs L k ≤ 3 := Nat.le_of_lt_succ (bl_lt _ (by decide))
theorem fkF_le (xs : Nat → Int32) (L k : Nat) : fkF xs L k ≤ 3 := Nat.le_of_lt_succ (bl_lt _ (by decide))
theorem toF_le (xs : Nat → Int32) (L k : Nat) : toF xs L k ≤ 2 := Nat.le_of_lt_succ (bl_lt _ (by decide))
theorem pmF_in (xs : Nat → Int32) (L k : Nat) : 1 ≤ pmF xs L k ∧ pmF xs L k ≤ 4 := by
  have := bl_lt (cellF xs L k >>> ((7 : Int32) &&& 31)) (n := 4) (by decide)
  unfold pmF; omega
theorem slF_in (xs : Nat → Int32) (L k : Nat) : 1 ≤ slF xs L k ∧ slF xs L k ≤ 9 := by
  have := bl_lt (cellF xs L (6 + k) >>> ((4 : Int32) &&& 31)) (n := 9) (by decide)
  unfold slF; omega
theorem skF_in (xs : Nat → Int32) (L k : Nat) : 1 ≤ skF xs L k ∧ skF xs L k ≤ 9 := by
  have := bl_lt (cellF xs L (10 + k)) (n := 9) (by decide)
  unfold skF; omega
def pop5 (v : Nat) : Nat := (v.testBit 0).toNat + (v.testBit 1).toNat + (v.testBit 2).toNat + (v.testBit 3).toNat + (v.testBit 4).toNat
theorem hd_L_below : yL_below.cls ≠ "java/lang/invoke/MethodHandle" ∧ yL_below.cls ≠ "java/lang/invoke/VarHandle" ∧ (parseMethodDescriptor yL_below.desc).map (fun d => d.parameters.length) = some 2 := by decide +kernel
theorem ci_L_below_7 : Cond.constant RL 7 (2147483647) ∈ wsL_below := by decide +kernel
set_option maxRecDepth 100000 in
set_option maxHeartbeats 4000000 in
theorem c_L_below {l : Launch} {D : va_G} {cI cL : ClassId} (x : Int32) (n : Nat) (h0 : 0 < n) (hn : n < 2 ^ 31) : Ct l yL_below wsL_below { frames := 0, cells := 0, slots := 0, locals := 0 } D (ty2 cI cL) [.int x, .int (nI n)] ([]) (fun v w' => v = some (.int (nI (bl x n))) ∧ w' = []) 0 0 := by
  refine Ct.of (cc := cL_below) (maxL := 2) (ret := (some .int)) (by decide) rfl (Nat.le_of_ble_eq_true rfl) ?_
  intro p e s m below meth c A ls CX hin HW hl
  obtain ⟨hx, hb, hml, hr, hown, hts, hK, hA, hlk⟩ := id CX
  have hl : lv_has ls 2 [(0, .int x), (1, .int (nI n))] := hl
  refine lv_iload_n hx hb dL_below_0 rfl (lv_at hl 0 rfl) ?_
  refine lv_ldc (v := 2147483647) hx hb hown (hts _ ci_L_below_7) dL_below_1 ?_
  refine lv_iand hx hb dL_below_3 ?_
  refine g_top (y := (nI (natI (x &&& 2147483647)))) (bl_and x).1 ?_
  refine lv_iload_n hx hb dL_below_4 rfl (lv_at hl 1 rfl) ?_
  refine lv_irem hx hb dL_below_5 (nI_ne0 h0 hn) ?_
  refine g_top (y := (nI (bl x n))) (pk_rem (bl_and x).2 h0 hn) ?_
  exact g_iret CX HW rfl ⟨rfl, rfl⟩ dL_below_6

theorem hd_L_cell : yL_cell.cls ≠ "java/lang/invoke/MethodHandle" ∧ yL_cell.cls ≠ "java/lang/invoke/VarHandle" ∧ (parseMethodDescriptor yL_cell.desc).map (fun d => d.parameters.length) = some 2 := by decide +kernel
theorem ci_L_cell_8 : Cond.constant RL 8 (461243603) ∈ wsL_cell := by decide +kernel
set_option maxRecDepth 100000 in
set_option maxHeartbeats 4000000 in
theorem c_L_cell {l : Launch} {D : va_G} {cI cL : ClassId} (sb : Nat) (L : Nat) (xs : Nat → Int32) (k : Nat) (hL : L < 2 ^ 31) (hk : k < 2 ^ 31) : CtS l yL_cell wsL_cell { frames := 0, cells := 0, slots := 0, locals := 0 } D (ty2 cI cL) [.ref sb, .int (nI k)] sb L xs (fun v w' => v = some (.int (cellF xs L k)) ∧ w' = []) 0 0 := by
  refine CtS.of (cc := cL_cell) (maxL := 2) (ret := (some .int)) (by decide) rfl (Nat.le_of_ble_eq_true rfl) ?_
  intro p e s m below meth c A ls CX hin hSX HW hl
  obtain ⟨hx, hb, hml, hr, hown, hts, hK, hA, hlk⟩ := id CX
  have hl : lv_has ls 2 [(0, .ref sb), (1, .int (nI k))] := hl
  refine lv_iload_n hx hb dL_cell_0 rfl (lv_at hl 1 rfl) ?_
  refine lv_aload_n hx hb dL_cell_1 rfl (lv_at hl 0 rfl) ?_
  refine va_slen (A := A) hx hb hSX.1 hSX.2.1 hSX.2.2 HW.2.2 dL_cell_2 ?_
  refine lv_icmp_ge (tgt := 12) hx hb dL_cell_3 (by decide) (fun c3 => ?_) (fun c3 => ?_)
  · have c3 : L ≤ k := (nI_leI hL hk).mp c3
    refine lv_ldc (v := 461243603) hx hb hown (hts _ ci_L_cell_8) dL_cell_12 ?_
    refine lv_iload_n hx hb dL_cell_14 rfl (lv_at hl 1 rfl) ?_
    refine lv_iconst (v := 3) hx hb dL_cell_15 (by decide) ?_
    refine lv_iadd hx hb dL_cell_16 ?_
    refine lv_imul hx hb dL_cell_17 ?_
    exact g_iret CX HW rfl ⟨by rw [cellF, if_neg (by omega)], rfl⟩ dL_cell_18
  · have c3 : k < L := nI_lt_of hL hk c3
    refine lv_aload_n hx hb dL_cell_6 rfl (lv_at hl 0 rfl) ?_
    refine lv_iload_n hx hb dL_cell_7 rfl (lv_at hl 1 rfl) ?_
    refine g_sld CX HW hSX (k := k) (by omega) (by omega) dL_cell_8 ?_
    refine lv_goto (tgt := 18) hx hb dL_cell_9 (by decide) ?_
    exact g_iret CX HW rfl ⟨by rw [cellF, if_pos c3], rfl⟩ dL_cell_18

theorem hd_L_flakeOf : yL_flakeOf.cls ≠ "java/lang/invoke/MethodHandle" ∧ yL_flakeOf.cls ≠ "java/lang/invoke/VarHandle" ∧ (parseMethodDescriptor yL_flakeOf.desc).map (fun d => d.parameters.length) = some 2 := by decide +kernel
set_option maxRecDepth 100000 in
set_option maxHeartbeats 4000000 in
theorem c_L_flakeOf {l : Launch} {D : va_G} {cI cL : ClassId} (sb : Nat) (L : Nat) (xs : Nat → Int32) (k : Nat) (hL : L < 2 ^ 31) (hk : k < 2 ^ 30) : CtS l yL_flakeOf wsL_flakeOf { frames := 1, cells := 0, slots := 0, locals := 21 } D (ty2 cI cL) [.ref sb, .int (nI k)] sb L xs (fun v w' => v = some (.int (nI (fkF xs L k))) ∧ w' = []) 0 0 := by
  refine CtS.of (cc := cL_flakeOf) (maxL := 2) (ret := (some .int)) (by decide) rfl (Nat.le_of_ble_eq_true rfl) ?_
  intro p e s m below meth c A ls CX hin hSX HW hl
  obtain ⟨hx, hb, hml, hr, hown, hts, hK, hA, hlk⟩ := id CX
  have hl : lv_has ls 2 [(0, .ref sb), (1, .int (nI k))] := hl
  refine lv_aload_n hx hb dL_flakeOf_0 rfl (lv_at hl 0 rfl) ?_
  refine lv_iload_n hx hb dL_flakeOf_1 rfl (lv_at hl 1 rfl) ?_
  refine g_callSS CX HW hSX hl.1 ([]) ([]) (c_L_cell sb L xs k hL (by omega)) rfl gL_flakeOf_L_cell rfl hd_L_cell ⟨rfl, rfl, (Nat.le_of_ble_eq_true rfl), (Nat.le_of_ble_eq_true rfl)⟩ ⟨(Nat.zero_le _), (Nat.zero_le _)⟩ rfl rfl (Nat.le_of_ble_eq_true rfl) dL_flakeOf_2 (fun v w1 H locs hp HW => ?_)
  obtain ⟨rfl, rfl⟩ := hp
  have HW : Hw D A s ([]) H locs := HW
  refine W.eq (g2 := F0 m 5 ls [.int (cellF xs L k)]) rfl ?_
  refine lv_iconst (v := 3) hx hb dL_flakeOf_5 (by decide) ?_
  refine lv_ishr hx hb dL_flakeOf_6 ?_
  refine lv_iconst (v := 4) hx hb dL_flakeOf_7 (by decide) ?_
  refine g_callS CX HW hl.1 ([]) ([]) (c_L_below ((cellF xs L k) >>> ((3 : Int32) &&& 31)) 4 (by omega) (by omega)) rfl gL_flakeOf_L_below rfl hd_L_below ⟨rfl, rfl, (Nat.le_of_ble_eq_true rfl), (Nat.le_of_ble_eq_true rfl)⟩ ⟨(Nat.zero_le _), (Nat.zero_le _)⟩ rfl rfl (Nat.le_of_ble_eq_true rfl) dL_flakeOf_8 (fun v w1 H locs hp HW => ?_)
  obtain ⟨rfl, rfl⟩ := hp
  have HW : Hw D A s ([]) H locs := HW
  refine W.eq (g2 := F0 m 11 ls [.int (nI (bl ((cellF xs L k) >>> ((3 : Int32) &&& 31)) 4))]) rfl ?_
  exact g_iret CX HW rfl ⟨rfl, rfl⟩ dL_flakeOf_11

theorem hd_L_pommelsOf : yL_pommelsOf.cls ≠ "java/lang/invoke/MethodHandle" ∧ yL_pommelsOf.cls ≠ "java/lang/invoke/VarHandle" ∧ (parseMethodDescriptor yL_pommelsOf.desc).map (fun d => d.parameters.length) = some 2 := by decide +kernel
set_option maxRecDepth 100000 in
set_option maxHeartbeats 4000000 in
theorem c_L_pommelsOf {l : Launch} {D : va_G} {cI cL : ClassId} (sb : Nat) (L : Nat) (xs : Nat → Int32) (k : Nat) (hL : L < 2 ^ 31) (hk : k < 2 ^ 30) : CtS l yL_pommelsOf wsL_pommelsOf { frames := 1, cells := 0, slots := 0, locals := 21 } D (ty2 cI cL) [.ref sb, .int (nI k)] sb L xs (fun v w' => v = some (.int (nI (pmF xs L k))) ∧ w' = []) 0 0 := by
  refine CtS.of (cc := cL_pommelsOf) (maxL := 2) (ret := (some .int)) (by decide) rfl (Nat.le_of_ble_eq_true rfl) ?_
  intro p e s m below meth c A ls CX hin hSX HW hl
  obtain ⟨hx, hb, hml, hr, hown, hts, hK, hA, hlk⟩ := id CX
  have hl : lv_has ls 2 [(0, .ref sb), (1, .int (nI k))] := hl
  refine lv_iconst (v := 1) hx hb dL_pommelsOf_0 (by decide) ?_
  refine lv_aload_n hx hb dL_pommelsOf_1 rfl (lv_at hl 0 rfl) ?_
  refine lv_iload_n hx hb dL_pommelsOf_2 rfl (lv_at hl 1 rfl) ?_
  refine g_callSS CX HW hSX hl.1 ([]) ([]) (c_L_cell sb L xs k hL (by omega)) rfl gL_pommelsOf_L_cell rfl hd_L_cell ⟨rfl, rfl, (Nat.le_of_ble_eq_true rfl), (Nat.le_of_ble_eq_true rfl)⟩ ⟨(Nat.zero_le _), (Nat.zero_le _)⟩ rfl rfl (Nat.le_of_ble_eq_true rfl) dL_pommelsOf_3 (fun v w1 H locs hp HW => ?_)
  obtain ⟨rfl, rfl⟩ := hp
  have HW : Hw D A s ([]) H locs := HW
  refine W.eq (g2 := F0 m 6 ls [.int (cellF xs L k), .int (1 : Int32)]) rfl ?_
  refine lv_bipush (v := 7) hx hb dL_pommelsOf_6 (by decide) ?_
  refine lv_ishr hx hb dL_pommelsOf_8 ?_
  refine lv_iconst (v := 4) hx hb dL_pommelsOf_9 (by decide) ?_
  refine g_callS CX HW hl.1 ([]) ([]) (c_L_below ((cellF xs L k) >>> ((7 : Int32) &&& 31)) 4 (by omega) (by omega)) rfl gL_pommelsOf_L_below rfl hd_L_below ⟨rfl, rfl, (Nat.le_of_ble_eq_true rfl), (Nat.le_of_ble_eq_true rfl)⟩ ⟨(Nat.zero_le _), (Nat.zero_le _)⟩ rfl rfl (Nat.le_of_ble_eq_true rfl) dL_pommelsOf_10 (fun v w1 H locs hp HW => ?_)
  obtain ⟨rfl, rfl⟩ := hp
  have HW : Hw D A s ([]) H locs := HW
  refine W.eq (g2 := F0 m 13 ls [.int (nI (bl ((cellF xs L k) >>> ((7 : Int32) &&& 31)) 4)), .int (1 : Int32)]) rfl ?_
  refine lv_iadd hx hb dL_pommelsOf_13 ?_
  refine g_top (y := (nI (1 + (bl ((cellF xs L k) >>> ((7 : Int32) &&& 31)) 4)))) (nI_add 1 _) ?_
  exact g_iret CX HW rfl ⟨rfl, rfl⟩ dL_pommelsOf_14

theorem hd_L_towOf : yL_towOf.cls ≠ "java/lang/invoke/MethodHandle" ∧ yL_towOf.cls ≠ "java/lang/invoke/VarHandle" ∧ (parseMethodDescriptor yL_towOf.desc).map (fun d => d.parameters.length) = some 2 := by decide +kernel
set_option maxRecDepth 100000 in
set_option maxHeartbeats 4000000 in
theorem c_L_towOf {l : Launch} {D : va_G} {cI cL : ClassId} (sb : Nat) (L : Nat) (xs : Nat → Int32) (k : Nat) (hL : L < 2 ^ 31) (hk : k < 2 ^ 30) : CtS l yL_towOf wsL_towOf { frames := 1, cells := 0, slots := 0, locals := 21 } D (ty2 cI cL) [.ref sb, .int (nI k)] sb L xs (fun v w' => v = some (.int (nI (toF xs L k))) ∧ w' = []) 0 0 := by
  refine CtS.of (cc := cL_towOf) (maxL := 2) (ret := (some .int)) (by decide) rfl (Nat.le_of_ble_eq_true rfl) ?_
  intro p e s m below meth c A ls CX hin hSX HW hl
  obtain ⟨hx, hb, hml, hr, hown, hts, hK, hA, hlk⟩ := id CX
  have hl : lv_has ls 2 [(0, .ref sb), (1, .int (nI k))] := hl
  refine lv_aload_n hx hb dL_towOf_0 rfl (lv_at hl 0 rfl) ?_
  refine lv_bipush (v := 6) hx hb dL_towOf_1 (by decide) ?_
  refine lv_iload_n hx hb dL_towOf_3 rfl (lv_at hl 1 rfl) ?_
  refine lv_iadd hx hb dL_towOf_4 ?_
  refine g_top (y := (nI (6 + k))) (nI_add 6 _) ?_
  refine g_callSS CX HW hSX hl.1 ([]) ([]) (c_L_cell sb L xs (6 + k) hL (by omega)) rfl gL_towOf_L_cell rfl hd_L_cell ⟨rfl, rfl, (Nat.le_of_ble_eq_true rfl), (Nat.le_of_ble_eq_true rfl)⟩ ⟨(Nat.zero_le _), (Nat.zero_le _)⟩ rfl rfl (Nat.le_of_ble_eq_true rfl) dL_towOf_5 (fun v w1 H locs hp HW => ?_)
  obtain ⟨rfl, rfl⟩ := hp
  have HW : Hw D A s ([]) H locs := HW
  refine W.eq (g2 := F0 m 8 ls [.int (cellF xs L (6 + k))]) rfl ?_
  refine lv_iconst (v := 3) hx hb dL_towOf_8 (by decide) ?_
  refine g_callS CX HW hl.1 ([]) ([]) (c_L_below (cellF xs L (6 + k)) 3 (by omega) (by omega)) rfl gL_towOf_L_below rfl hd_L_below ⟨rfl, rfl, (Nat.le_of_ble_eq_true rfl), (Nat.le_of_ble_eq_true rfl)⟩ ⟨(Nat.zero_le _), (Nat.zero_le _)⟩ rfl rfl (Nat.le_of_ble_eq_true rfl) dL_towOf_9 (fun v w1 H locs hp HW => ?_)
  obtain ⟨rfl, rfl⟩ := hp
  have HW : Hw D A s ([]) H locs := HW
  refine W.eq (g2 := F0 m 12 ls [.int (nI (bl (cellF xs L (6 + k)) 3))]) rfl ?_
  exact g_iret CX HW rfl ⟨rfl, rfl⟩ dL_towOf_12

theorem hd_L_slopeOf : yL_slopeOf.cls ≠ "java/lang/invoke/MethodHandle" ∧ yL_slopeOf.cls ≠ "java/lang/invoke/VarHandle" ∧ (parseMethodDescriptor yL_slopeOf.desc).map (fun d => d.parameters.length) = some 2 := by decide +kernel
set_option maxRecDepth 100000 in
set_option maxHeartbeats 4000000 in
theorem c_L_slopeOf {l : Launch} {D : va_G} {cI cL : ClassId} (sb : Nat) (L : Nat) (xs : Nat → Int32) (k : Nat) (hL : L < 2 ^ 31) (hk : k < 2 ^ 30) : CtS l yL_slopeOf wsL_slopeOf { frames := 1, cells := 0, slots := 0, locals := 21 } D (ty2 cI cL) [.ref sb, .int (nI k)] sb L xs (fun v w' => v = some (.int (nI (slF xs L k))) ∧ w' = []) 0 0 := by
  refine CtS.of (cc := cL_slopeOf) (maxL := 2) (ret := (some .int)) (by decide) rfl (Nat.le_of_ble_eq_true rfl) ?_
  intro p e s m below meth c A ls CX hin hSX HW hl
  obtain ⟨hx, hb, hml, hr, hown, hts, hK, hA, hlk⟩ := id CX
  have hl : lv_has ls 2 [(0, .ref sb), (1, .int (nI k))] := hl
  refine lv_iconst (v := 1) hx hb dL_slopeOf_0 (by decide) ?_
  refine lv_aload_n hx hb dL_slopeOf_1 rfl (lv_at hl 0 rfl) ?_
  refine lv_bipush (v := 6) hx hb dL_slopeOf_2 (by decide) ?_
  refine lv_iload_n hx hb dL_slopeOf_4 rfl (lv_at hl 1 rfl) ?_
  refine lv_iadd hx hb dL_slopeOf_5 ?_
  refine g_top (y := (nI (6 + k))) (nI_add 6 _) ?_
  refine g_callSS CX HW hSX hl.1 ([]) ([]) (c_L_cell sb L xs (6 + k) hL (by omega)) rfl gL_slopeOf_L_cell rfl hd_L_cell ⟨rfl, rfl, (Nat.le_of_ble_eq_true rfl), (Nat.le_of_ble_eq_true rfl)⟩ ⟨(Nat.zero_le _), (Nat.zero_le _)⟩ rfl rfl (Nat.le_of_ble_eq_true rfl) dL_slopeOf_6 (fun v w1 H locs hp HW => ?_)
  obtain ⟨rfl, rfl⟩ := hp
  have HW : Hw D A s ([]) H locs := HW
  refine W.eq (g2 := F0 m 9 ls [.int (cellF xs L (6 + k)), .int (1 : Int32)]) rfl ?_
  refine lv_iconst (v := 4) hx hb dL_slopeOf_9 (by decide) ?_
  refine lv_ishr hx hb dL_slopeOf_10 ?_
  refine lv_bipush (v := 9) hx hb dL_slopeOf_11 (by decide) ?_
  refine g_callS CX HW hl.1 ([]) ([]) (c_L_below ((cellF xs L (6 + k)) >>> ((4 : Int32) &&& 31)) 9 (by omega) (by omega)) rfl gL_slopeOf_L_below rfl hd_L_below ⟨rfl, rfl, (Nat.le_of_ble_eq_true rfl), (Nat.le_of_ble_eq_true rfl)⟩ ⟨(Nat.zero_le _), (Nat.zero_le _)⟩ rfl rfl (Nat.le_of_ble_eq_true rfl) dL_slopeOf_13 (fun v w1 H locs hp HW => ?_)
  obtain ⟨rfl, rfl⟩ := hp
  have HW : Hw D A s ([]) H locs := HW
  refine W.eq (g2 := F0 m 16 ls [.int (nI (bl ((cellF xs L (6 + k)) >>> ((4 : Int32) &&& 31)) 9)), .int (1 : Int32)]) rfl ?_
  refine lv_iadd hx hb dL_slopeOf_16 ?_
  refine g_top (y := (nI (1 + (bl ((cellF xs L (6 + k)) >>> ((4 : Int32) &&& 31)) 9)))) (nI_add 1 _) ?_
  exact g_iret CX HW rfl ⟨rfl, rfl⟩ dL_slopeOf_17

theorem hd_L_skillOf : yL_skillOf.cls ≠ "java/lang/invoke/MethodHandle" ∧ yL_skillOf.cls ≠ "java/lang/invoke/VarHandle" ∧ (parseMethodDescriptor yL_skillOf.desc).map (fun d => d.parameters.length) = some 2 := by decide +kernel
set_option maxRecDepth 100000 in
set_option maxHeartbeats 4000000 in
theorem c_L_skillOf {l : Launch} {D : va_G} {cI cL : ClassId} (sb : Nat) (L : Nat) (xs : Nat → Int32) (k : Nat) (hL : L < 2 ^ 31) (hk : k < 2 ^ 30) : CtS l yL_skillOf wsL_skillOf { frames := 1, cells := 0, slots := 0, locals := 21 } D (ty2 cI cL) [.ref sb, .int (nI k)] sb L xs (fun v w' => v = some (.int (nI (skF xs L k))) ∧ w' = []) 0 0 := by
  refine CtS.of (cc := cL_skillOf) (maxL := 2) (ret := (some .int)) (by decide) rfl (Nat.le_of_ble_eq_true rfl) ?_
  intro p e s m below meth c A ls CX hin hSX HW hl
  obtain ⟨hx, hb, hml, hr, hown, hts, hK, hA, hlk⟩ := id CX
  have hl : lv_has ls 2 [(0, .ref sb), (1, .int (nI k))] := hl
  refine lv_iconst (v := 1) hx hb dL_skillOf_0 (by decide) ?_
  refine lv_aload_n hx hb dL_skillOf_1 rfl (lv_at hl 0 rfl) ?_
  refine lv_bipush (v := 10) hx hb dL_skillOf_2 (by decide) ?_
  refine lv_iload_n hx hb dL_skillOf_4 rfl (lv_at hl 1 rfl) ?_
  refine lv_iadd hx hb dL_skillOf_5 ?_
  refine g_top (y := (nI (10 + k))) (nI_add 10 _) ?_
  refine g_callSS CX HW hSX hl.1 ([]) ([]) (c_L_cell sb L xs (10 + k) hL (by omega)) rfl gL_skillOf_L_cell rfl hd_L_cell ⟨rfl, rfl, (Nat.le_of_ble_eq_true rfl), (Nat.le_of_ble_eq_true rfl)⟩ ⟨(Nat.zero_le _), (Nat.zero_le _)⟩ rfl rfl (Nat.le_of_ble_eq_true rfl) dL_skillOf_6 (fun v w1 H locs hp HW => ?_)
  obtain ⟨rfl, rfl⟩ := hp
  have HW : Hw D A s ([]) H locs := HW
  refine W.eq (g2 := F0 m 9 ls [.int (cellF xs L (10 + k)), .int (1 : Int32)]) rfl ?_
  refine lv_bipush (v := 9) hx hb dL_skillOf_9 (by decide) ?_
  refine g_callS CX HW hl.1 ([]) ([]) (c_L_below (cellF xs L (10 + k)) 9 (by omega) (by omega)) rfl gL_skillOf_L_below rfl hd_L_below ⟨rfl, rfl, (Nat.le_of_ble_eq_true rfl), (Nat.le_of_ble_eq_true rfl)⟩ ⟨(Nat.zero_le _), (Nat.zero_le _)⟩ rfl rfl (Nat.le_of_ble_eq_true rfl) dL_skillOf_11 (fun v w1 H locs hp HW => ?_)
  obtain ⟨rfl, rfl⟩ := hp
  have HW : Hw D A s ([]) H locs := HW
  refine W.eq (g2 := F0 m 14 ls [.int (nI (bl (cellF xs L (10 + k)) 9)), .int (1 : Int32)]) rfl ?_
  refine lv_iadd hx hb dL_skillOf_14 ?_
  refine g_top (y := (nI (1 + (bl (cellF xs L (10 + k)) 9)))) (nI_add 1 _) ?_
  exact g_iret CX HW rfl ⟨rfl, rfl⟩ dL_skillOf_15

theorem hd_L_coinsOf : yL_coinsOf.cls ≠ "java/lang/invoke/MethodHandle" ∧ yL_coinsOf.cls ≠ "java/lang/invoke/VarHandle" ∧ (parseMethodDescriptor yL_coinsOf.desc).map (fun d => d.parameters.length) = some 2 := by decide +kernel
set_option maxRecDepth 100000 in
set_option maxHeartbeats 4000000 in
theorem c_L_coinsOf {l : Launch} {D : va_G} {cI cL : ClassId} (sb : Nat) (L : Nat) (xs : Nat → Int32) (k : Nat) (hL : L < 2 ^ 31) (hk : k < 2 ^ 30) : CtS l yL_coinsOf wsL_coinsOf { frames := 1, cells := 0, slots := 0, locals := 21 } D (ty2 cI cL) [.ref sb, .int (nI k)] sb L xs (fun v w' => v = some (.int (nI (coF xs L k))) ∧ w' = []) 0 0 := by
  refine CtS.of (cc := cL_coinsOf) (maxL := 2) (ret := (some .int)) (by decide) rfl (Nat.le_of_ble_eq_true rfl) ?_
  intro p e s m below meth c A ls CX hin hSX HW hl
  obtain ⟨hx, hb, hml, hr, hown, hts, hK, hA, hlk⟩ := id CX
  have hl : lv_has ls 2 [(0, .ref sb), (1, .int (nI k))] := hl
  refine lv_aload_n hx hb dL_coinsOf_0 rfl (lv_at hl 0 rfl) ?_
  refine lv_bipush (v := 10) hx hb dL_coinsOf_1 (by decide) ?_
  refine lv_iload_n hx hb dL_coinsOf_3 rfl (lv_at hl 1 rfl) ?_
  refine lv_iadd hx hb dL_coinsOf_4 ?_
  refine g_top (y := (nI (10 + k))) (nI_add 10 _) ?_
  refine g_callSS CX HW hSX hl.1 ([]) ([]) (c_L_cell sb L xs (10 + k) hL (by omega)) rfl gL_coinsOf_L_cell rfl hd_L_cell ⟨rfl, rfl, (Nat.le_of_ble_eq_true rfl), (Nat.le_of_ble_eq_true rfl)⟩ ⟨(Nat.zero_le _), (Nat.zero_le _)⟩ rfl rfl (Nat.le_of_ble_eq_true rfl) dL_coinsOf_5 (fun v w1 H locs hp HW => ?_)
  obtain ⟨rfl, rfl⟩ := hp
  have HW : Hw D A s ([]) H locs := HW
  refine W.eq (g2 := F0 m 8 ls [.int (cellF xs L (10 + k))]) rfl ?_
  refine lv_iconst (v := 5) hx hb dL_coinsOf_8 (by decide) ?_
  refine lv_ishr hx hb dL_coinsOf_9 ?_
  refine lv_aload_n hx hb dL_coinsOf_10 rfl (lv_at hl 0 rfl) ?_
  refine lv_bipush (v := 10) hx hb dL_coinsOf_11 (by decide) ?_
  refine lv_iload_n hx hb dL_coinsOf_13 rfl (lv_at hl 1 rfl) ?_
  refine lv_iadd hx hb dL_coinsOf_14 ?_
  refine g_top (y := (nI (10 + k))) (nI_add 10 _) ?_
  refine g_callSS CX HW hSX hl.1 ([]) ([]) (c_L_cell sb L xs (10 + k) hL (by omega)) rfl gL_coinsOf_L_cell rfl hd_L_cell ⟨rfl, rfl, (Nat.le_of_ble_eq_true rfl), (Nat.le_of_ble_eq_true rfl)⟩ ⟨(Nat.zero_le _), (Nat.zero_le _)⟩ rfl rfl (Nat.le_of_ble_eq_true rfl) dL_coinsOf_15 (fun v w1 H locs hp HW => ?_)
  obtain ⟨rfl, rfl⟩ := hp
  have HW : Hw D A s ([]) H locs := HW
  refine W.eq (g2 := F0 m 18 ls [.int (cellF xs L (10 + k)), .int ((cellF xs L (10 + k)) >>> ((5 : Int32) &&& 31))]) rfl ?_
  refine lv_bipush (v := 12) hx hb dL_coinsOf_18 (by decide) ?_
  refine lv_ishr hx hb dL_coinsOf_20 ?_
  refine lv_iconst (v := 3) hx hb dL_coinsOf_21 (by decide) ?_
  refine g_callS CX HW hl.1 ([]) ([]) (c_L_below ((cellF xs L (10 + k)) >>> ((12 : Int32) &&& 31)) 3 (by omega) (by omega)) rfl gL_coinsOf_L_below rfl hd_L_below ⟨rfl, rfl, (Nat.le_of_ble_eq_true rfl), (Nat.le_of_ble_eq_true rfl)⟩ ⟨(Nat.zero_le _), (Nat.zero_le _)⟩ rfl rfl (Nat.le_of_ble_eq_true rfl) dL_coinsOf_22 (fun v w1 H locs hp HW => ?_)
  obtain ⟨rfl, rfl⟩ := hp
  have HW : Hw D A s ([]) H locs := HW
  refine W.eq (g2 := F0 m 25 ls [.int (nI (bl ((cellF xs L (10 + k)) >>> ((12 : Int32) &&& 31)) 3)), .int ((cellF xs L (10 + k)) >>> ((5 : Int32) &&& 31))]) rfl ?_
  refine lv_if_ne (tgt := 33) hx hb dL_coinsOf_25 (by decide) (fun c25 => ?_) (fun c25 => ?_)
  · have c25 := bl_ne c25
    refine lv_bipush (v := 9) hx hb dL_coinsOf_33 (by decide) ?_
    refine g_callS CX HW hl.1 ([]) ([]) (c_L_below ((cellF xs L (10 + k)) >>> ((5 : Int32) &&& 31)) 9 (by omega) (by omega)) rfl gL_coinsOf_L_below rfl hd_L_below ⟨rfl, rfl, (Nat.le_of_ble_eq_true rfl), (Nat.le_of_ble_eq_true rfl)⟩ ⟨(Nat.zero_le _), (Nat.zero_le _)⟩ rfl rfl (Nat.le_of_ble_eq_true rfl) dL_coinsOf_35 (fun v w1 H locs hp HW => ?_)
    obtain ⟨rfl, rfl⟩ := hp
    have HW : Hw D A s ([]) H locs := HW
    refine W.eq (g2 := F0 m 38 ls [.int (nI (bl ((cellF xs L (10 + k)) >>> ((5 : Int32) &&& 31)) 9))]) rfl ?_
    exact g_iret CX HW rfl ⟨by rw [coF, if_neg c25], rfl⟩ dL_coinsOf_38
  · have c25 := bl_eq c25
    refine lv_bipush (v := 61) hx hb dL_coinsOf_28 (by decide) ?_
    refine lv_goto (tgt := 35) hx hb dL_coinsOf_30 (by decide) ?_
    refine g_callS CX HW hl.1 ([]) ([]) (c_L_below ((cellF xs L (10 + k)) >>> ((5 : Int32) &&& 31)) 61 (by omega) (by omega)) rfl gL_coinsOf_L_below rfl hd_L_below ⟨rfl, rfl, (Nat.le_of_ble_eq_true rfl), (Nat.le_of_ble_eq_true rfl)⟩ ⟨(Nat.zero_le _), (Nat.zero_le _)⟩ rfl rfl (Nat.le_of_ble_eq_true rfl) dL_coinsOf_35 (fun v w1 H locs hp HW => ?_)
    obtain ⟨rfl, rfl⟩ := hp
    have HW : Hw D A s ([]) H locs := HW
    refine W.eq (g2 := F0 m 38 ls [.int (nI (bl ((cellF xs L (10 + k)) >>> ((5 : Int32) &&& 31)) 61))]) rfl ?_
    exact g_iret CX HW rfl ⟨by rw [coF, if_pos c25], rfl⟩ dL_coinsOf_38

theorem hd_L_waxOf : yL_waxOf.cls ≠ "java/lang/invoke/MethodHandle" ∧ yL_waxOf.cls ≠ "java/lang/invoke/VarHandle" ∧ (parseMethodDescriptor yL_waxOf.desc).map (fun d => d.parameters.length) = some 2 := by decide +kernel
set_option maxRecDepth 100000 in
set_option maxHeartbeats 4000000 in
theorem c_L_waxOf {l : Launch} {D : va_G} {cI cL : ClassId} (sb : Nat) (L : Nat) (xs : Nat → Int32) (k : Nat) (hL : L < 2 ^ 31) (hk : k < 2 ^ 30) : CtS l yL_waxOf wsL_waxOf { frames := 2, cells := 0, slots := 0, locals := 42 } D (ty2 cI cL) [.ref sb, .int (nI k)] sb L xs (fun v w' => v = some (.int (nI (wxF xs L k) - 1)) ∧ w' = []) 0 0 := by
  refine CtS.of (cc := cL_waxOf) (maxL := 2) (ret := (some .int)) (by decide) rfl (Nat.le_of_ble_eq_true rfl) ?_
  intro p e s m below meth c A ls CX hin hSX HW hl
  obtain ⟨hx, hb, hml, hr, hown, hts, hK, hA, hlk⟩ := id CX
  have hl : lv_has ls 2 [(0, .ref sb), (1, .int (nI k))] := hl
  refine lv_aload_n hx hb dL_waxOf_0 rfl (lv_at hl 0 rfl) ?_
  refine lv_iload_n hx hb dL_waxOf_1 rfl (lv_at hl 1 rfl) ?_
  refine g_callSS CX HW hSX hl.1 ([]) ([]) (c_L_coinsOf sb L xs k hL hk) rfl gL_waxOf_L_coinsOf rfl hd_L_coinsOf ⟨rfl, rfl, (Nat.le_of_ble_eq_true rfl), (Nat.le_of_ble_eq_true rfl)⟩ ⟨(Nat.zero_le _), (Nat.zero_le _)⟩ rfl rfl (Nat.le_of_ble_eq_true rfl) dL_waxOf_2 (fun v w1 H locs hp HW => ?_)
  obtain ⟨rfl, rfl⟩ := hp
  have HW : Hw D A s ([]) H locs := HW
  refine W.eq (g2 := F0 m 5 ls [.int (nI (coF xs L k))]) rfl ?_
  refine lv_iconst (v := 2) hx hb dL_waxOf_5 (by decide) ?_
  refine lv_icmp_ge (tgt := 13) hx hb dL_waxOf_6 (by decide) (fun c6 => ?_) (fun c6 => ?_)
  · have c6 : ¬ coF xs L k < 2 := fun h9 => absurd ((nI_leI (a := 2) (b := coF xs L k) (by decide) (coF_lt _ _ _)).mp c6) (by omega)
    refine lv_aload_n hx hb dL_waxOf_13 rfl (lv_at hl 0 rfl) ?_
    refine lv_bipush (v := 10) hx hb dL_waxOf_14 (by decide) ?_
    refine lv_iload_n hx hb dL_waxOf_16 rfl (lv_at hl 1 rfl) ?_
    refine lv_iadd hx hb dL_waxOf_17 ?_
    refine g_top (y := (nI (10 + k))) (nI_add 10 _) ?_
    refine g_callSS CX HW hSX hl.1 ([]) ([]) (c_L_cell sb L xs (10 + k) hL (by omega)) rfl gL_waxOf_L_cell rfl hd_L_cell ⟨rfl, rfl, (Nat.le_of_ble_eq_true rfl), (Nat.le_of_ble_eq_true rfl)⟩ ⟨(Nat.zero_le _), (Nat.zero_le _)⟩ rfl rfl (Nat.le_of_ble_eq_true rfl) dL_waxOf_18 (fun v w1 H locs hp HW => ?_)
    obtain ⟨rfl, rfl⟩ := hp
    have HW : Hw D A s ([]) H locs := HW
    refine W.eq (g2 := F0 m 21 ls [.int (cellF xs L (10 + k))]) rfl ?_
    refine lv_bipush (v := 9) hx hb dL_waxOf_21 (by decide) ?_
    refine lv_ishr hx hb dL_waxOf_23 ?_
    refine lv_iconst (v := 5) hx hb dL_waxOf_24 (by decide) ?_
    refine g_callS CX HW hl.1 ([]) ([]) (c_L_below ((cellF xs L (10 + k)) >>> ((9 : Int32) &&& 31)) 5 (by omega) (by omega)) rfl gL_waxOf_L_below rfl hd_L_below ⟨rfl, rfl, (Nat.le_of_ble_eq_true rfl), (Nat.le_of_ble_eq_true rfl)⟩ ⟨(Nat.zero_le _), (Nat.zero_le _)⟩ rfl rfl (Nat.le_of_ble_eq_true rfl) dL_waxOf_25 (fun v w1 H locs hp HW => ?_)
    obtain ⟨rfl, rfl⟩ := hp
    have HW : Hw D A s ([]) H locs := HW
    refine W.eq (g2 := F0 m 28 ls [.int (nI (bl ((cellF xs L (10 + k)) >>> ((9 : Int32) &&& 31)) 5))]) rfl ?_
    refine lv_iconst (v := 1) hx hb dL_waxOf_28 (by decide) ?_
    refine lv_isub hx hb dL_waxOf_29 ?_
    exact g_iret CX HW rfl ⟨by rw [wxF, if_neg c6], rfl⟩ dL_waxOf_30
  · have c6 : coF xs L k < 2 := nI_lt_of (a := 2) (b := coF xs L k) (by decide) (coF_lt _ _ _) c6
    refine lv_iconst (v := (-1)) hx hb dL_waxOf_9 (by decide) ?_
    refine lv_goto (tgt := 30) hx hb dL_waxOf_10 (by decide) ?_
    exact g_iret CX HW rfl ⟨by rw [wxF, if_pos c6]; rfl, rfl⟩ dL_waxOf_30

theorem hd_L_standsOf : yL_standsOf.cls ≠ "java/lang/invoke/MethodHandle" ∧ yL_standsOf.cls ≠ "java/lang/invoke/VarHandle" ∧ (parseMethodDescriptor yL_standsOf.desc).map (fun d => d.parameters.length) = some 2 := by decide +kernel
set_option maxRecDepth 100000 in
set_option maxHeartbeats 4000000 in
theorem c_L_standsOf {l : Launch} {D : va_G} {cI cL : ClassId} (sb : Nat) (L : Nat) (xs : Nat → Int32) (k : Nat) (hL : L < 2 ^ 31) (hk : k < 2 ^ 30) : CtS l yL_standsOf wsL_standsOf { frames := 1, cells := 0, slots := 0, locals := 21 } D (ty2 cI cL) [.ref sb, .int (nI k)] sb L xs (fun v w' => v = some (.int (nI (stF xs L k) - 1)) ∧ w' = []) 0 0 := by
  refine CtS.of (cc := cL_standsOf) (maxL := 2) (ret := (some .int)) (by decide) rfl (Nat.le_of_ble_eq_true rfl) ?_
  intro p e s m below meth c A ls CX hin hSX HW hl
  obtain ⟨hx, hb, hml, hr, hown, hts, hK, hA, hlk⟩ := id CX
  have hl : lv_has ls 2 [(0, .ref sb), (1, .int (nI k))] := hl
  refine lv_aload_n hx hb dL_standsOf_0 rfl (lv_at hl 0 rfl) ?_
  refine lv_bipush (v := 10) hx hb dL_standsOf_1 (by decide) ?_
  refine lv_iload_n hx hb dL_standsOf_3 rfl (lv_at hl 1 rfl) ?_
  refine lv_iadd hx hb dL_standsOf_4 ?_
  refine g_top (y := (nI (10 + k))) (nI_add 10 _) ?_
  refine g_callSS CX HW hSX hl.1 ([]) ([]) (c_L_cell sb L xs (10 + k) hL (by omega)) rfl gL_standsOf_L_cell rfl hd_L_cell ⟨rfl, rfl, (Nat.le_of_ble_eq_true rfl), (Nat.le_of_ble_eq_true rfl)⟩ ⟨(Nat.zero_le _), (Nat.zero_le _)⟩ rfl rfl (Nat.le_of_ble_eq_true rfl) dL_standsOf_5 (fun v w1 H locs hp HW => ?_)
  obtain ⟨rfl, rfl⟩ := hp
  have HW : Hw D A s ([]) H locs := HW
  refine W.eq (g2 := F0 m 8 ls [.int (cellF xs L (10 + k))]) rfl ?_
  refine lv_bipush (v := 15) hx hb dL_standsOf_8 (by decide) ?_
  refine lv_ishr hx hb dL_standsOf_10 ?_
  refine lv_iconst (v := 4) hx hb dL_standsOf_11 (by decide) ?_
  refine g_callS CX HW hl.1 ([]) ([]) (c_L_below ((cellF xs L (10 + k)) >>> ((15 : Int32) &&& 31)) 4 (by omega) (by omega)) rfl gL_standsOf_L_below rfl hd_L_below ⟨rfl, rfl, (Nat.le_of_ble_eq_true rfl), (Nat.le_of_ble_eq_true rfl)⟩ ⟨(Nat.zero_le _), (Nat.zero_le _)⟩ rfl rfl (Nat.le_of_ble_eq_true rfl) dL_standsOf_12 (fun v w1 H locs hp HW => ?_)
  obtain ⟨rfl, rfl⟩ := hp
  have HW : Hw D A s ([]) H locs := HW
  refine W.eq (g2 := F0 m 15 ls [.int (nI (bl ((cellF xs L (10 + k)) >>> ((15 : Int32) &&& 31)) 4))]) rfl ?_
  refine lv_iconst (v := 1) hx hb dL_standsOf_15 (by decide) ?_
  refine lv_isub hx hb dL_standsOf_16 ?_
  exact g_iret CX HW rfl ⟨rfl, rfl⟩ dL_standsOf_17

def bc0 (z : Nat) : Int32 := ((Int32.toUInt32 (nI z) >>> (Int32.toUInt32 (1 : Int32) &&& Int32.toUInt32 31)).toInt32)
def bc1 (z : Nat) : Int32 := ((nI z) - ((bc0 z) &&& (1431655765 : Int32)))
def bc2 (z : Nat) : Int32 := ((Int32.toUInt32 (bc1 z) >>> (Int32.toUInt32 (2 : Int32) &&& Int32.toUInt32 31)).toInt32)
def bc3 (z : Nat) : Int32 := (((bc1 z) &&& (858993459 : Int32)) + ((bc2 z) &&& (858993459 : Int32)))
def bc4 (z : Nat) : Int32 := ((Int32.toUInt32 (bc3 z) >>> (Int32.toUInt32 (4 : Int32) &&& Int32.toUInt32 31)).toInt32)
def bc5 (z : Nat) : Int32 := (((bc3 z) + (bc4 z)) &&& (252645135 : Int32))
def bc6 (z : Nat) : Int32 := ((Int32.toUInt32 (bc5 z) >>> (Int32.toUInt32 (8 : Int32) &&& Int32.toUInt32 31)).toInt32)
def bc7 (z : Nat) : Int32 := ((bc5 z) + (bc6 z))
def bc8 (z : Nat) : Int32 := ((Int32.toUInt32 (bc7 z) >>> (Int32.toUInt32 (16 : Int32) &&& Int32.toUInt32 31)).toInt32)
def bc9 (z : Nat) : Int32 := ((bc7 z) + (bc8 z))
def bc10 (z : Nat) : Int32 := ((bc9 z) &&& (63 : Int32))
theorem hd_J6_bitCount_0f7a4 : yJ6_bitCount_0f7a4.cls ≠ "java/lang/invoke/MethodHandle" ∧ yJ6_bitCount_0f7a4.cls ≠ "java/lang/invoke/VarHandle" ∧ (parseMethodDescriptor yJ6_bitCount_0f7a4.desc).map (fun d => d.parameters.length) = some 1 := by decide +kernel
theorem bc_ok : ∀ z : Nat, z < 32 → bc10 z = nI (pop5 z) := by decide +kernel
theorem ci_J6_bitCount_0f7a4_265 : Cond.constant RJ6 265 (1431655765) ∈ wsJ6_bitCount_0f7a4 := by decide +kernel
theorem ci_J6_bitCount_0f7a4_266 : Cond.constant RJ6 266 (858993459) ∈ wsJ6_bitCount_0f7a4 := by decide +kernel
theorem ci_J6_bitCount_0f7a4_267 : Cond.constant RJ6 267 (252645135) ∈ wsJ6_bitCount_0f7a4 := by decide +kernel
set_option maxRecDepth 100000 in
set_option maxHeartbeats 4000000 in
theorem c_J6_bitCount_0f7a4 {l : Launch} {D : va_G} {cI cL : ClassId} (z : Nat) (hz : z < 32) : Ct l yJ6_bitCount_0f7a4 wsJ6_bitCount_0f7a4 { frames := 0, cells := 0, slots := 0, locals := 0 } D (ty2 cI cL) [.int (nI z)] ([]) (fun v w' => v = some (.int (nI (pop5 z))) ∧ w' = []) 0 0 := by
  refine Ct.ofF (cc := cJ6_bitCount_0f7a4) (maxL := 1) (ret := (some .int)) (by decide +kernel) rfl (Nat.le_of_ble_eq_true rfl) ?_
  intro p e s m below meth c A ls CX hin HW hl
  obtain ⟨hx, hb, hml, hr, hown, hts, hK, hA, hlk⟩ := id CX
  have hl : lv_has ls 1 [(0, .int (nI z))] := hl
  refine lv_iload_n hx hb dJ6_bitCount_0f7a4_0 rfl (lv_at hl 0 rfl) ?_
  refine lv_iload_n hx hb dJ6_bitCount_0f7a4_1 rfl (lv_at hl 0 rfl) ?_
  refine lv_iconst (v := 1) hx hb dJ6_bitCount_0f7a4_2 (by decide) ?_
  refine lv_iushr hx hb dJ6_bitCount_0f7a4_3 rfl ?_
  refine g_top (y := (bc0 z)) rfl ?_
  refine lv_ldcw (v := 1431655765) hx hb hown (hts _ ci_J6_bitCount_0f7a4_265) dJ6_bitCount_0f7a4_4 ?_
  refine lv_iand hx hb dJ6_bitCount_0f7a4_7 ?_
  refine lv_isub hx hb dJ6_bitCount_0f7a4_8 ?_
  refine g_top (y := (bc1 z)) rfl ?_
  refine lv_istore_n (lv' := [(0, .int (bc1 z))]) hx hb dJ6_bitCount_0f7a4_9 rfl hl (Nat.le_of_ble_eq_true rfl) rfl (fun ls hl => ?_)
  refine lv_iload_n hx hb dJ6_bitCount_0f7a4_10 rfl (lv_at hl 0 rfl) ?_
  refine lv_ldcw (v := 858993459) hx hb hown (hts _ ci_J6_bitCount_0f7a4_266) dJ6_bitCount_0f7a4_11 ?_
  refine lv_iand hx hb dJ6_bitCount_0f7a4_14 ?_
  refine lv_iload_n hx hb dJ6_bitCount_0f7a4_15 rfl (lv_at hl 0 rfl) ?_
  refine lv_iconst (v := 2) hx hb dJ6_bitCount_0f7a4_16 (by decide) ?_
  refine lv_iushr hx hb dJ6_bitCount_0f7a4_17 rfl ?_
  refine g_top (y := (bc2 z)) rfl ?_
  refine lv_ldcw (v := 858993459) hx hb hown (hts _ ci_J6_bitCount_0f7a4_266) dJ6_bitCount_0f7a4_18 ?_
  refine lv_iand hx hb dJ6_bitCount_0f7a4_21 ?_
  refine lv_iadd hx hb dJ6_bitCount_0f7a4_22 ?_
  refine g_top (y := (bc3 z)) rfl ?_
  refine lv_istore_n (lv' := [(0, .int (bc3 z))]) hx hb dJ6_bitCount_0f7a4_23 rfl hl (Nat.le_of_ble_eq_true rfl) rfl (fun ls hl => ?_)
  refine lv_iload_n hx hb dJ6_bitCount_0f7a4_24 rfl (lv_at hl 0 rfl) ?_
  refine lv_iload_n hx hb dJ6_bitCount_0f7a4_25 rfl (lv_at hl 0 rfl) ?_
  refine lv_iconst (v := 4) hx hb dJ6_bitCount_0f7a4_26 (by decide) ?_
  refine lv_iushr hx hb dJ6_bitCount_0f7a4_27 rfl ?_
  refine g_top (y := (bc4 z)) rfl ?_
  refine lv_iadd hx hb dJ6_bitCount_0f7a4_28 ?_
  refine lv_ldcw (v := 252645135) hx hb hown (hts _ ci_J6_bitCount_0f7a4_267) dJ6_bitCount_0f7a4_29 ?_
  refine lv_iand hx hb dJ6_bitCount_0f7a4_32 ?_
  refine g_top (y := (bc5 z)) rfl ?_
  refine lv_istore_n (lv' := [(0, .int (bc5 z))]) hx hb dJ6_bitCount_0f7a4_33 rfl hl (Nat.le_of_ble_eq_true rfl) rfl (fun ls hl => ?_)
  refine lv_iload_n hx hb dJ6_bitCount_0f7a4_34 rfl (lv_at hl 0 rfl) ?_
  refine lv_iload_n hx hb dJ6_bitCount_0f7a4_35 rfl (lv_at hl 0 rfl) ?_
  refine lv_bipush (v := 8) hx hb dJ6_bitCount_0f7a4_36 (by decide) ?_
  refine lv_iushr hx hb dJ6_bitCount_0f7a4_38 rfl ?_
  refine g_top (y := (bc6 z)) rfl ?_
  refine lv_iadd hx hb dJ6_bitCount_0f7a4_39 ?_
  refine g_top (y := (bc7 z)) rfl ?_
  refine lv_istore_n (lv' := [(0, .int (bc7 z))]) hx hb dJ6_bitCount_0f7a4_40 rfl hl (Nat.le_of_ble_eq_true rfl) rfl (fun ls hl => ?_)
  refine lv_iload_n hx hb dJ6_bitCount_0f7a4_41 rfl (lv_at hl 0 rfl) ?_
  refine lv_iload_n hx hb dJ6_bitCount_0f7a4_42 rfl (lv_at hl 0 rfl) ?_
  refine lv_bipush (v := 16) hx hb dJ6_bitCount_0f7a4_43 (by decide) ?_
  refine lv_iushr hx hb dJ6_bitCount_0f7a4_45 rfl ?_
  refine g_top (y := (bc8 z)) rfl ?_
  refine lv_iadd hx hb dJ6_bitCount_0f7a4_46 ?_
  refine g_top (y := (bc9 z)) rfl ?_
  refine lv_istore_n (lv' := [(0, .int (bc9 z))]) hx hb dJ6_bitCount_0f7a4_47 rfl hl (Nat.le_of_ble_eq_true rfl) rfl (fun ls hl => ?_)
  refine lv_iload_n hx hb dJ6_bitCount_0f7a4_48 rfl (lv_at hl 0 rfl) ?_
  refine lv_bipush (v := 63) hx hb dJ6_bitCount_0f7a4_49 (by decide) ?_
  refine lv_iand hx hb dJ6_bitCount_0f7a4_51 ?_
  refine g_top (y := (bc10 z)) rfl ?_
  exact g_iret CX HW rfl ⟨congrArg (fun z => some (Value.int z)) (bc_ok z hz), rfl⟩ dJ6_bitCount_0f7a4_52
