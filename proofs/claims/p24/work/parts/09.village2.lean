theorem pullN_ind {P : VS → Prop} {t : Nat} (h1 : ∀ (T : VS) (k : Nat) (rest : List Nat), P T → vq T t = k :: rest → vA T 8 k < 1 → P (quS T t rest))
    (h2 : ∀ (T : VS) (k : Nat) (rest : List Nat), P T → vq T t = k :: rest → ¬ vA T 8 k < 1 → P (quS (skiS t k (payS t k (quS T t rest))) t (rest ++ [k]))) : ∀ (n p : Nat) (S : VS), P S → P (pullN t n p S) := by
  intro n
  induction n with
  | zero => intro p S h; exact h
  | succ n ih =>
    intro p S h
    cases p with
    | zero => exact h
    | succ p =>
      cases hq : vq S t with
      | nil => simp only [pullN, hq]; exact h
      | cons k rest =>
        by_cases hc : vA S 8 k < 1
        · rw [pullN_no hq hc]; exact ih _ _ (h1 S k rest h hq hc)
        · rw [pullN_yes hq hc]; exact ih _ _ (h2 S k rest h hq hc)
def Qk (ns : Nat) (q : Nat → List Nat) : Prop := ∀ t, t < 3 → ∀ k, k ∈ q t → k < ns
theorem rep_qok {ns : Nat} {q : Nat → List Nat} {qt qp : Nat → Int32} (h : Rep ns q qt qp) : Qk ns q := fun t ht k hk => by
  obtain ⟨p, hp⟩ := List.getElem?_of_mem hk
  exact (h.2.1 t p k ht hp).1
theorem Qk_set {ns t : Nat} {q : Nat → List Nat} {x : List Nat} (h : Qk ns q) (hx : ∀ k, k ∈ x → k < ns) : Qk ns (setQ q t x) := by
  intro t1 ht1 k hk
  simp only [setQ] at hk
  split at hk
  · exact hx k hk
  · exact h t1 ht1 k hk
theorem vs_ride (t k : Nat) (T : VS) (x : List Nat) : vs (skiS t k (payS t k (quS T t x))) = vs T := by rw [vs_skiS]; rfl
theorem vq_ride (t k : Nat) (T : VS) (x : List Nat) : vq (skiS t k (payS t k (quS T t x))) = setQ (vq T) t x := by rw [vq_skiS]; rfl
theorem InvQ_pullN {t : Nat} (ht : t < 3) (n p : Nat) (S : VS) (h : Inv S) (hq : Qk (vs S) (vq S)) : Inv (pullN t n p S) ∧ Qk (vs (pullN t n p S)) (vq (pullN t n p S)) := by
  refine pullN_ind (P := fun T => Inv T ∧ Qk (vs T) (vq T)) ?_ ?_ n p S ⟨h, hq⟩
  · rintro T k rest ⟨h1, h2⟩ h3 -
    exact ⟨h1, Qk_set h2 (fun j hj => h2 t ht j (by rw [h3]; exact List.mem_cons_of_mem _ hj))⟩
  · rintro T k rest ⟨h1, h2⟩ h3 h4
    have hk : k < vs T := h2 t ht k (by rw [h3]; exact List.mem_cons_self)
    have hr : ∀ j, j ∈ rest → j < vs T := fun j hj => h2 t ht j (by rw [h3]; exact List.mem_cons_of_mem _ hj)
    refine ⟨Inv_quS (Inv_skiS (S := payS t k (quS T t rest)) hk (Inv_payS hk h4 (Inv_quS h1))), ?_⟩
    show Qk (vs (skiS t k (payS t k (quS T t rest)))) (setQ (vq (skiS t k (payS t k (quS T t rest)))) t (rest ++ [k]))
    rw [vs_ride, vq_ride]
    refine Qk_set (Qk_set h2 hr) (fun j hj => ?_)
    rcases List.mem_append.mp hj with h5 | h5
    · exact hr j h5
    · rw [List.mem_singleton.mp h5]; exact hk
theorem Inv_pullS {t : Nat} {S : VS} (h : Inv S) (hq : Qk (vs S) (vq S)) (ht : t < 3 := by decide) : Inv (pullS t S) := (InvQ_pullN ht _ _ S h hq).1
theorem Qk_pullS {t : Nat} {S : VS} (h : Inv S) (hq : Qk (vs S) (vq S)) (ht : t < 3 := by decide) : Qk (vs (pullS t S)) (vq (pullS t S)) := (InvQ_pullN ht _ _ S h hq).2
theorem vh_pullS (t : Nat) (S : VS) : vh (pullS t S) = vh S :=
  pullN_ind (P := fun T => vh T = vh S) (fun _ _ _ h _ _ => h) (fun T k rest h _ _ => (vh_skiS t k (payS t k (quS T t rest))).trans h) _ _ S rfl
theorem vr_pullS (t : Nat) (S : VS) : vr (pullS t S) = vr S :=
  pullN_ind (P := fun T => vr T = vr S) (fun _ _ _ h _ _ => h) (fun T k rest h _ _ => (vr_skiS t k (payS t k (quS T t rest))).trans h) _ _ S rfl
theorem vs_pullS (t : Nat) (S : VS) : vs (pullS t S) = vs S :=
  pullN_ind (P := fun T => vs T = vs S) (fun _ _ _ h _ _ => h) (fun T k rest h _ _ => (vs_skiS t k (payS t k (quS T t rest))).trans h) _ _ S rfl
theorem vA_payS {t k i : Nat} {S : VS} (h : (Nat.beq i 8 || (Nat.beq i 12 || Nat.beq i 2)) = false) : vA (payS t k S) i = vA S i := by
  simp only [Bool.or_eq_false_iff] at h
  obtain ⟨h1, h2, h3⟩ := h
  show setR (setR (setR (vA S) 8 _) 12 _) 2 _ i = _
  simp only [setR, h1, h2, h3, cond_false]
theorem vA_pullS {t i : Nat} {S : VS} (h1 : (Nat.beq i 8 || (Nat.beq i 12 || Nat.beq i 2)) = false) (h2 : (Nat.beq i 5 || (Nat.beq i 6 || (Nat.beq i 10 || Nat.beq i 11))) = false) : vA (pullS t S) i = vA S i := by
  refine pullN_ind (P := fun T => vA T i = vA S i) (fun _ _ _ h _ _ => h) (fun T k rest h _ _ => ?_) _ _ S rfl
  show vA (skiS t k (payS t k (quS T t rest))) i = _
  rw [vA_skiS h2, vA_payS h1]; exact h
theorem pu_pullS {t j : Nat} {S : VS} (hj : j ≠ t) : vA (pullS t S) 2 j = vA S 2 j := by
  refine pullN_ind (P := fun T => vA T 2 j = vA S 2 j) (fun _ _ _ h _ _ => h) (fun T k rest h _ _ => ?_) _ _ S rfl
  show vA (skiS t k (payS t k (quS T t rest))) 2 j = _
  rw [vA_skiS (by decide)]
  show upd (vA T 2) t (vA T 2 t + 1) j = _
  rw [pk_un hj]; exact h
theorem vq_pullS {t j : Nat} {S : VS} (hj : j ≠ t) : vq (pullS t S) j = vq S j := by
  refine pullN_ind (P := fun T => vq T j = vq S j) (fun T k rest h _ _ => ?_) (fun T k rest h _ _ => ?_) _ _ S rfl
  · show setQ (vq T) t rest j = _
    simp only [setQ, if_neg hj]; exact h
  · show setQ (vq (skiS t k (payS t k (quS T t rest)))) t (rest ++ [k]) j = _
    rw [vq_ride]
    simp only [setQ, if_neg hj]; exact h
theorem Inv_snowS {S : VS} (h : Inv S) : Inv (snowS S) := by
  obtain ⟨h1, h2, h3, h4, h5, h6⟩ := h
  refine ⟨h1, h2, h3, h4, fun j hj => ⟨(h5 j hj).1, (h5 j hj).2.1, ?_⟩, h6⟩
  show ∃ d, d ≤ 90 ∧ dpAll (vA S 5) (snowI (natI (vA S 0 (vh S % 6)))) (vr S) j = nI d
  unfold dpAll
  split
  · exact heldI_90 _
  · exact (h5 j hj).2.2
theorem Inv_incS {S : VS} (h : Inv S) : Inv (incS S) := h
theorem Qk_incS {S : VS} (h : Qk (vs S) (vq S)) : Qk (vs (incS S)) (vq (incS S)) := h
theorem InvQ_hourS {S : VS} (h : Inv S) (hq : Qk (vs S) (vq S)) : Inv (hourS S) ∧ Qk (vs (hourS S)) (vq (hourS S)) := by
  have h0 := Inv_snowS h
  have q0 : Qk (vs (snowS S)) (vq (snowS S)) := hq
  have h1 := Inv_pullS (t := 0) h0 q0
  have q1 := Qk_pullS (t := 0) h0 q0
  have h2 := Inv_pullS (t := 1) h1 q1
  have q2 := Qk_pullS (t := 1) h1 q1
  exact ⟨Inv_incS (Inv_pullS (t := 2) h2 q2), Qk_incS (Qk_pullS (t := 2) h2 q2)⟩
theorem InvQ_hoursS {S : VS} (h : Inv S) (hq : Qk (vs S) (vq S)) : ∀ i, Inv (hoursS i S) ∧ Qk (vs (hoursS i S)) (vq (hoursS i S))
  | 0 => ⟨h, hq⟩
  | i + 1 => InvQ_hourS (InvQ_hoursS h hq i).1 (InvQ_hoursS h hq i).2
theorem Inv_hoursS {S : VS} {qt qp : Nat → Int32} (h : Inv S) (hR : Rep (vs S) (vq S) qt qp) (i : Nat) : Inv (hoursS i S) := (InvQ_hoursS h (rep_qok hR) i).1
theorem vh_hourS (S : VS) : vh (hourS S) = vh S + 1 := by
  show vh (pullS 2 (pullS 1 (pullS 0 (snowS S)))) + 1 = _
  rw [vh_pullS, vh_pullS, vh_pullS]; rfl
theorem vr_hourS (S : VS) : vr (hourS S) = vr S := by
  show vr (pullS 2 (pullS 1 (pullS 0 (snowS S)))) = _
  rw [vr_pullS, vr_pullS, vr_pullS]; rfl
theorem vs_hourS (S : VS) : vs (hourS S) = vs S := by
  show vs (pullS 2 (pullS 1 (pullS 0 (snowS S)))) = _
  rw [vs_pullS, vs_pullS, vs_pullS]; rfl
theorem vh_hoursS (i : Nat) (S : VS) : vh (hoursS i S) = vh S + i := by
  induction i with
  | zero => rfl
  | succ i ih => show vh (hourS (hoursS i S)) = _; rw [vh_hourS, ih]; omega
theorem vr_hoursS (i : Nat) (S : VS) : vr (hoursS i S) = vr S := by
  induction i with
  | zero => rfl
  | succ i ih => show vr (hourS (hoursS i S)) = _; rw [vr_hourS, ih]
theorem vs_hoursS (i : Nat) (S : VS) : vs (hoursS i S) = vs S := by
  induction i with
  | zero => rfl
  | succ i ih => show vs (hourS (hoursS i S)) = _; rw [vs_hourS, ih]
theorem vA_hourS {i : Nat} {S : VS} (h1 : (Nat.beq i 8 || (Nat.beq i 12 || Nat.beq i 2)) = false) (h2 : (Nat.beq i 5 || (Nat.beq i 6 || (Nat.beq i 10 || Nat.beq i 11))) = false) : vA (hourS S) i = vA S i := by
  show vA (pullS 2 (pullS 1 (pullS 0 (snowS S)))) i = _
  rw [vA_pullS h1 h2, vA_pullS h1 h2, vA_pullS h1 h2]
  simp only [Bool.or_eq_false_iff] at h2
  show setR (vA S) 5 _ i = _
  simp only [setR, h2.1, cond_false]
theorem vA_hoursS {i : Nat} {S : VS} (h1 : (Nat.beq i 8 || (Nat.beq i 12 || Nat.beq i 2)) = false) (h2 : (Nat.beq i 5 || (Nat.beq i 6 || (Nat.beq i 10 || Nat.beq i 11))) = false) (n : Nat) : vA (hoursS n S) i = vA S i := by
  induction n with
  | zero => rfl
  | succ n ih => show vA (hourS (hoursS n S)) i = _; rw [vA_hourS h1 h2, ih]
theorem ring6 (c x y z x' y' z' : Int32) : ((((0 + x + y + z) - c) + (x' - x)) + (y' - y)) + (z' - z) = (0 + x' + y' + z') - c := by
  have h : ∀ a b : Int32, a + (b + -a) = b := fun a b => by rw [Int32.add_comm b, ← Int32.add_assoc, Int32.add_right_neg, Int32.zero_add]
  simp only [Int32.sub_eq_add_neg, Int32.zero_add]
  have e : x + y + z + -c + (x' + -x) + (y' + -y) + (z' + -z) = (x + (x' + -x)) + (y + (y' + -y)) + (z + (z' + -z)) + -c := by ac_rfl
  rw [e, h, h, h]
theorem hour_sum (T : VS) (c : Int32) : ((((sumP T - c) + (vA (pullS 0 (snowS T)) 2 0 - vA (snowS T) 2 0)) + (vA (pullS 1 (pullS 0 (snowS T))) 2 1 - vA (pullS 0 (snowS T)) 2 1)) + (vA (pullS 2 (pullS 1 (pullS 0 (snowS T)))) 2 2 - vA (pullS 1 (pullS 0 (snowS T))) 2 2)) = sumP (hourS T) - c := by
  have e : sumP (hourS T) = 0 + vA (pullS 2 (pullS 1 (pullS 0 (snowS T)))) 2 0 + vA (pullS 2 (pullS 1 (pullS 0 (snowS T)))) 2 1 + vA (pullS 2 (pullS 1 (pullS 0 (snowS T)))) 2 2 := rfl
  rw [e]
  have a0 : vA (pullS 2 (pullS 1 (pullS 0 (snowS T)))) 2 0 = vA (pullS 0 (snowS T)) 2 0 := by rw [pu_pullS (by decide), pu_pullS (by decide)]
  have a1 : vA (pullS 2 (pullS 1 (pullS 0 (snowS T)))) 2 1 = vA (pullS 1 (pullS 0 (snowS T))) 2 1 := pu_pullS (by decide)
  have b1 : vA (pullS 0 (snowS T)) 2 1 = vA T 2 1 := pu_pullS (by decide)
  have b2 : vA (pullS 1 (pullS 0 (snowS T))) 2 2 = vA T 2 2 := by rw [pu_pullS (by decide), pu_pullS (by decide)]; rfl
  have b0 : vA (snowS T) 2 0 = vA T 2 0 := rfl
  rw [a0, a1, b0, b1, b2]
  exact ring6 _ _ _ _ _ _ _
theorem cntN_E {qt : Nat → Int32} : ∀ {n : Nat}, (∀ k, k < n → qt k = -1 ∨ ∃ t, t < 3 ∧ qt k = nI t) → cntN qt n = cntE qt (nI 0) n + cntE qt (nI 1) n + cntE qt (nI 2) n := by
  intro n
  induction n with
  | zero => intro _; rfl
  | succ n ih =>
    intro h
    have h1 := ih (fun k hk => h k (by omega))
    simp only [cntN, cntE]
    rcases h n (by omega) with h2 | ⟨t, ht, h2⟩
    · rw [h2, if_pos rfl, if_neg (nI_nm1' (by decide)), if_neg (nI_nm1' (by decide)), if_neg (nI_nm1' (by decide))]; exact h1
    · rw [h2, if_neg (nI_nm1 (by omega))]
      rcases (by omega : t = 0 ∨ t = 1 ∨ t = 2) with rfl | rfl | rfl
      · rw [if_pos rfl, if_neg (by decide), if_neg (by decide)]; omega
      · rw [if_neg (by decide), if_pos rfl, if_neg (by decide)]; omega
      · rw [if_neg (by decide), if_neg (by decide), if_pos rfl]; omega
theorem rep_any {ns : Nat} {q : Nat → List Nat} {qt qp : Nat → Int32} (h : Rep ns q qt qp) : cntN qt ns = (q 0).length + (q 1).length + (q 2).length := by
  rw [← h.2.2 0 (by decide), ← h.2.2 1 (by decide), ← h.2.2 2 (by decide)]
  refine cntN_E (fun k hk => ?_)
  rcases h.1 k hk with h1 | ⟨t, p, h1, h2⟩
  · exact Or.inl h1
  · exact Or.inr ⟨t, h1, (h.2.1 t p k h1 h2).2.1⟩
theorem hw_inc {D : va_G} {A : Nat → Prop} {s : State} {cI : ClassId} {a : Nat → Nat} {o : Nat} {qt qp : Nat → Int32} {H : Heap} {locs : List Loc} (S : VS) (h : Hw D A s (wVo cI a o (vh S + 1) (vc S) (vA S 0) (vA S 1) (vA S 2) ++ (wR cI a (o + 4) (vr S) (vA S 3) (vA S 4) (vA S 5) (vA S 6) ++ (wS cI a (o + 9) (vs S) (vA S 7) (vA S 8) (vA S 9) (vA S 10) (vA S 11) (vA S 12) qt qp))) H locs) : Hw D A s (wVo cI a o (vh (incS S)) (vc (incS S)) (vA (incS S) 0) (vA (incS S) 1) (vA (incS S) 2) ++ (wR cI a (o + 4) (vr (incS S)) (vA (incS S) 3) (vA (incS S) 4) (vA (incS S) 5) (vA (incS S) 6) ++ (wS cI a (o + 9) (vs (incS S)) (vA (incS S) 7) (vA (incS S) 8) (vA (incS S) 9) (vA (incS S) 10) (vA (incS S) 11) (vA (incS S) 12) qt qp))) H locs := h
def figT (S : VS) (t what : Nat) : Int32 := match what with
  | 0 => vA S 1 t
  | 1 => nI (vq S t).length
  | _ => vA S 2 t
def figV (S : VS) (what : Nat) : Int32 := match what with
  | 0 => nI (vh S)
  | 1 => vA S 0 (vh S % 6)
  | 2 => vc S
  | 3 => nI (vr S)
  | 4 => nI (vs S)
  | 5 => flagN (vA S 5) (vA S 4) (vr S)
  | 6 => sumP S
  | 7 => nI ((vq S 0).length + (vq S 1).length + (vq S 2).length)
  | _ => sumN (vA S 11) (vs S)
theorem hd_X2_letHoursGo : yX2_letHoursGo.cls ≠ "java/lang/invoke/MethodHandle" ∧ yX2_letHoursGo.cls ≠ "java/lang/invoke/VarHandle" ∧ (parseMethodDescriptor yX2_letHoursGo.desc).map (fun d => d.parameters.length) = some 1 := by decide +kernel
theorem fl_X2_letHoursGo_31 : Cond.fieldLink RX2 31 (TX2 5).1 (TX2 5).2.1 (TX2 5).2.2.1 ∈ wsX2_letHoursGo := by decide +kernel
theorem in_X2_letHoursGo_2 : ∀ x ∈ u_ws RX2 TX2 7, x ∈ wsX2_letHoursGo := by decide +kernel
theorem sn_X2_letHoursGo_X3_snowOf : Cond.initialized yX3_snowOf.cls ∈ wsX2_letHoursGo ∧ Cond.static yX3_snowOf ∈ wsX2_letHoursGo := ⟨by decide +kernel, by decide +kernel⟩
theorem fl_X2_letHoursGo_9 : Cond.fieldLink RX2 9 (TX2 0).1 (TX2 0).2.1 (TX2 0).2.2.1 ∈ wsX2_letHoursGo := by decide +kernel
set_option maxRecDepth 100000 in
set_option maxHeartbeats 4000000 in
theorem c_X2_letHoursGo {l : Launch} {D : va_G} {cI cL : ClassId} {a : Nat → Nat} (o : Nat) (S : VS) (qt : Nat → Int32) (qp : Nat → Int32) (h : Nat) (hI : Inv S) (hR : Rep (vs S) (vq S) qt qp) (hh9 : h ≤ 90) (hh : vh S + h < 2 ^ 31) : Ct l yX2_letHoursGo wsX2_letHoursGo { frames := 5, cells := 0, slots := 0, locals := 118 } D (ty2 cI cL) [.ref (a o), .int (nI h)] (wVo cI a o (vh S) (vc S) (vA S 0) (vA S 1) (vA S 2) ++ (wR cI a (o + 4) (vr S) (vA S 3) (vA S 4) (vA S 5) (vA S 6) ++ (wS cI a (o + 9) (vs S) (vA S 7) (vA S 8) (vA S 9) (vA S 10) (vA S 11) (vA S 12) qt qp))) (fun v w' => ∃ (qt' : Nat → Int32) (qp' : Nat → Int32), (Rep (vs (hoursS h S)) (vq (hoursS h S)) qt' qp') ∧ v = some (.int (sumP (hoursS h S) - sumP S)) ∧ w' = wVo cI a o (vh (hoursS h S)) (vc (hoursS h S)) (vA (hoursS h S) 0) (vA (hoursS h S) 1) (vA (hoursS h S) 2) ++ (wR cI a (o + 4) (vr (hoursS h S)) (vA (hoursS h S) 3) (vA (hoursS h S) 4) (vA (hoursS h S) 5) (vA (hoursS h S) 6) ++ (wS cI a (o + 9) (vs (hoursS h S)) (vA (hoursS h S) 7) (vA (hoursS h S) 8) (vA (hoursS h S) 9) (vA (hoursS h S) 10) (vA (hoursS h S) 11) (vA (hoursS h S) 12) qt' qp'))) 0 0 := by
  refine Ct.of (cc := cX2_letHoursGo) (maxL := 5) (ret := (some .int)) (by decide) rfl (Nat.le_of_ble_eq_true rfl) ?_
  intro p e s m below meth c A ls CX hin HW hl
  obtain ⟨hx, hb, hml, hr, hown, hts, hK, hA, hlk⟩ := id CX
  have hl : lv_has ls 5 [(0, .ref (a o)), (1, .int (nI h))] := hl
  have loop : ∀ (d0 : Nat) (i : Nat) (qt : Nat → Int32) (qp : Nat → Int32), h - i = d0 → (i ≤ h) → (Rep (vs (hoursS i S)) (vq (hoursS i S)) qt qp) → ∀ (H : Heap) (locs : List Loc) (ls : Array Slot), Hw D A s (wVo cI a o (vh (hoursS i S)) (vc (hoursS i S)) (vA (hoursS i S) 0) (vA (hoursS i S) 1) (vA (hoursS i S) 2) ++ (wR cI a (o + 4) (vr (hoursS i S)) (vA (hoursS i S) 3) (vA (hoursS i S) 4) (vA (hoursS i S) 5) (vA (hoursS i S) 6) ++ (wS cI a (o + 9) (vs (hoursS i S)) (vA (hoursS i S) 7) (vA (hoursS i S) 8) (vA (hoursS i S) 9) (vA (hoursS i S) 10) (vA (hoursS i S) 11) (vA (hoursS i S) 12) qt qp))) H locs → lv_has ls 5 [(3, .int (nI i)), (2, .int (sumP (hoursS i S) - sumP S)), (1, .int (nI h)), (0, .ref (a o))] → W p l e ({ frames := 5, cells := 0, slots := 0, locals := 118 } : Room) s m ([.ref (a o), .int (nI h)] : List Value).toArray below meth c H locs 0 0 (MQ below (cQ D A (fun v w' => ∃ (qt' : Nat → Int32) (qp' : Nat → Int32), (Rep (vs (hoursS h S)) (vq (hoursS h S)) qt' qp') ∧ v = some (.int (sumP (hoursS h S) - sumP S)) ∧ w' = wVo cI a o (vh (hoursS h S)) (vc (hoursS h S)) (vA (hoursS h S) 0) (vA (hoursS h S) 1) (vA (hoursS h S) 2) ++ (wR cI a (o + 4) (vr (hoursS h S)) (vA (hoursS h S) 3) (vA (hoursS h S) 4) (vA (hoursS h S) 5) (vA (hoursS h S) 6) ++ (wS cI a (o + 9) (vs (hoursS h S)) (vA (hoursS h S) 7) (vA (hoursS h S) 8) (vA (hoursS h S) 9) (vA (hoursS h S) 10) (vA (hoursS h S) 11) (vA (hoursS h S) 12) qt' qp')))) ([.ref (a o), .int (nI h)] : List Value).toArray s 0 0 A) (F0 m 4 ls []) := by
    intro d0
    induction d0 using Nat.strongRecOn with
    | _ d0 ih =>
      intro i qt qp hd0 hi hRep H locs ls HW hl
      refine lv_iload_n hx hb dX2_letHoursGo_4 rfl (lv_at hl 0 rfl) ?_
      refine lv_iload_n hx hb dX2_letHoursGo_5 rfl (lv_at hl 2 rfl) ?_
      refine lv_icmp_ge (tgt := 63) hx hb dX2_letHoursGo_6 (by decide) (fun c6 => ?_) (fun c6 => ?_)
      · have c6 := (nI_leI (by omega) (by omega)).mp c6
        obtain rfl : i = h := by omega
        refine lv_iload_n hx hb dX2_letHoursGo_63 rfl (lv_at hl 1 rfl) ?_
        exact g_iret CX HW rfl ⟨qt, qp, hRep, rfl, rfl⟩ dX2_letHoursGo_64
      · have c6 : i < h := nI_lt_of (by omega) (by omega) c6
        have hIT : Inv (hoursS i S) := Inv_hoursS hI hR i
        have hhT : vh (hoursS i S) < 2 ^ 31 := by rw [vh_hoursS]; omega
        obtain ⟨f, hf, ef⟩ := hIT.2.2.1 (vh (hoursS i S) % 6) (Nat.mod_lt _ (by decide))
        refine lv_aload_n hx hb dX2_letHoursGo_9 rfl (lv_at hl 3 rfl) ?_
        refine g_get CX HW in_X2_letHoursGo_2 0 5 rfl rfl (Nat.le_of_ble_eq_true rfl) fl_X2_letHoursGo_31 rfl dX2_letHoursGo_10 ?_
        refine lv_aload_n hx hb dX2_letHoursGo_13 rfl (lv_at hl 3 rfl) ?_
        refine g_callV CX HW hl.1 ([]) ([]) (c_X2_flakeOfHour o (hoursS i S) qt qp (vA (hoursS i S) 2) hhT) rfl 0 rfl rfl gX2_letHoursGo_X2_flakeOfHour rfl ⟨rfl, hd_X2_flakeOfHour⟩ ⟨rfl, rfl, (Nat.le_of_ble_eq_true rfl), (Nat.le_of_ble_eq_true rfl)⟩ ⟨(Nat.zero_le _), (Nat.zero_le _)⟩ rfl rfl (Nat.le_of_ble_eq_true rfl) dX2_letHoursGo_14 (fun v w1 H locs hp HW => ?_)
        obtain ⟨rfl, rfl⟩ := hp
        have HW : Hw D A s (wVo cI a o (vh (hoursS i S)) (vc (hoursS i S)) (vA (hoursS i S) 0) (vA (hoursS i S) 1) (vA (hoursS i S) 2) ++ (wR cI a (o + 4) (vr (hoursS i S)) (vA (hoursS i S) 3) (vA (hoursS i S) 4) (vA (hoursS i S) 5) (vA (hoursS i S) 6) ++ (wS cI a (o + 9) (vs (hoursS i S)) (vA (hoursS i S) 7) (vA (hoursS i S) 8) (vA (hoursS i S) 9) (vA (hoursS i S) 10) (vA (hoursS i S) 11) (vA (hoursS i S) 12) qt qp))) H locs := HW
        refine W.eq (g2 := F0 m 17 ls [.int (vA (hoursS i S) 0 (vh (hoursS i S) % 6)), .ref (a (o + 4))]) rfl ?_
        refine g_top (y := (nI f)) ef ?_
        refine g_callSN (host := "PommelTows") CX HW hl.1 ([]) (wVo cI a o (vh (hoursS i S)) (vc (hoursS i S)) (vA (hoursS i S) 0) (vA (hoursS i S) 1) (vA (hoursS i S) 2) ++ (wR cI a (o + 4) (vr (hoursS i S)) (vA (hoursS i S) 3) (vA (hoursS i S) 4) (vA (hoursS i S) 5) (vA (hoursS i S) 6) ++ (wS cI a (o + 9) (vs (hoursS i S)) (vA (hoursS i S) 7) (vA (hoursS i S) 8) (vA (hoursS i S) 9) (vA (hoursS i S) 10) (vA (hoursS i S) 11) (vA (hoursS i S) 12) qt qp))) (c_X3_snowOf f hf) rfl gX2_letHoursGo_X3_snowOf_n69 sn_X2_letHoursGo_X3_snowOf (by decide +kernel) rfl hd_X3_snowOf ⟨rfl, rfl, (Nat.le_of_ble_eq_true rfl), (Nat.le_of_ble_eq_true rfl)⟩ ⟨(Nat.zero_le _), (Nat.zero_le _)⟩ rfl rfl (Nat.le_of_ble_eq_true rfl) dX2_letHoursGo_17 (fun v w1 H locs hp HW => ?_)
        obtain ⟨rfl, rfl⟩ := hp
        have HW : Hw D A s (wVo cI a o (vh (hoursS i S)) (vc (hoursS i S)) (vA (hoursS i S) 0) (vA (hoursS i S) 1) (vA (hoursS i S) 2) ++ (wR cI a (o + 4) (vr (hoursS i S)) (vA (hoursS i S) 3) (vA (hoursS i S) 4) (vA (hoursS i S) 5) (vA (hoursS i S) 6) ++ (wS cI a (o + 9) (vs (hoursS i S)) (vA (hoursS i S) 7) (vA (hoursS i S) 8) (vA (hoursS i S) 9) (vA (hoursS i S) 10) (vA (hoursS i S) 11) (vA (hoursS i S) 12) qt qp))) H locs := HW
        refine W.eq (g2 := F0 m 20 ls [.int (snowI f), .ref (a (o + 4))]) rfl ?_
        refine g_callV CX HW hl.1 (wVo cI a o (vh (hoursS i S)) (vc (hoursS i S)) (vA (hoursS i S) 0) (vA (hoursS i S) 1) (vA (hoursS i S) 2)) (wS cI a (o + 9) (vs (hoursS i S)) (vA (hoursS i S) 7) (vA (hoursS i S) 8) (vA (hoursS i S) 9) (vA (hoursS i S) 10) (vA (hoursS i S) 11) (vA (hoursS i S) 12) qt qp) (c_X0_deepenAll (o + 4) (vr (hoursS i S)) (vA (hoursS i S) 3) (vA (hoursS i S) 4) (vA (hoursS i S) 5) (vA (hoursS i S) 6) (snowI f) hIT.1) rfl 0 rfl rfl gX2_letHoursGo_X0_deepenAll rfl ⟨rfl, hd_X0_deepenAll⟩ ⟨rfl, rfl, (Nat.le_of_ble_eq_true rfl), (Nat.le_of_ble_eq_true rfl)⟩ ⟨(Nat.zero_le _), (Nat.zero_le _)⟩ rfl rfl (Nat.le_of_ble_eq_true rfl) dX2_letHoursGo_20 (fun v w1 H locs hp HW => ?_)
        obtain ⟨rfl, rfl⟩ := hp
        have HW : Hw D A s (wVo cI a o (vh (hoursS i S)) (vc (hoursS i S)) (vA (hoursS i S) 0) (vA (hoursS i S) 1) (vA (hoursS i S) 2) ++ (wR cI a (o + 4) (vr (hoursS i S)) (vA (hoursS i S) 3) (vA (hoursS i S) 4) (dpAll (vA (hoursS i S) 5) (snowI f) (vr (hoursS i S))) (vA (hoursS i S) 6) ++ (wS cI a (o + 9) (vs (hoursS i S)) (vA (hoursS i S) 7) (vA (hoursS i S) 8) (vA (hoursS i S) 9) (vA (hoursS i S) 10) (vA (hoursS i S) 11) (vA (hoursS i S) 12) qt qp))) H locs := HW
        refine W.eq (g2 := F0 m 23 ls []) rfl ?_
        have hwe : (dpAll (vA (hoursS i S) 5) (snowI f) (vr (hoursS i S))) = (vA (snowS (hoursS i S)) 5) := (by show _ = dpAll _ (snowI (natI _)) _; rw [ef, natI_nI (by omega)])
        rw [hwe] at HW; clear hwe
        refine lv_iconst (v := 0) hx hb dX2_letHoursGo_23 (by decide) ?_
        refine lv_istore (lv' := [(4, .int (0 : Int32)), (3, .int (nI i)), (2, .int (sumP (hoursS i S) - sumP S)), (1, .int (nI h)), (0, .ref (a o))]) hx hb dX2_letHoursGo_24 hl (Nat.le_of_ble_eq_true rfl) rfl (fun ls hl => ?_)
        refine lv_iload hx hb dX2_letHoursGo_26 (lv_at hl 0 rfl) ?_
        refine lv_iconst (v := 3) hx hb dX2_letHoursGo_28 (by decide) ?_
        refine lv_icmp_ge (tgt := 47) hx hb dX2_letHoursGo_29 (by decide) (fun c29 => ?_) (fun c29 => ?_)
        · exact absurd c29 (by decide)
        · refine lv_iload_n hx hb dX2_letHoursGo_32 rfl (lv_at hl 2 rfl) ?_
          refine lv_aload_n hx hb dX2_letHoursGo_33 rfl (lv_at hl 4 rfl) ?_
          refine lv_iload hx hb dX2_letHoursGo_34 (lv_at hl 0 rfl) ?_
          refine g_callV CX HW hl.1 ([]) ([]) (c_X2_pullAt o (snowS (hoursS i S)) qt qp 0 (Inv_snowS hIT) hRep (by omega) hhT) rfl 0 rfl rfl gX2_letHoursGo_X2_pullAt rfl ⟨rfl, hd_X2_pullAt⟩ ⟨rfl, rfl, (Nat.le_of_ble_eq_true rfl), (Nat.le_of_ble_eq_true rfl)⟩ ⟨(Nat.zero_le _), (Nat.zero_le _)⟩ rfl rfl (Nat.le_of_ble_eq_true rfl) dX2_letHoursGo_36 (fun v w1 H locs hp HW => ?_)
          obtain ⟨qt'_1, qp'_1, hr9_1, rfl, rfl⟩ := hp
          have HW : Hw D A s (wVo cI a o (vh (pullS 0 (snowS (hoursS i S)))) (vc (pullS 0 (snowS (hoursS i S)))) (vA (pullS 0 (snowS (hoursS i S))) 0) (vA (pullS 0 (snowS (hoursS i S))) 1) (vA (pullS 0 (snowS (hoursS i S))) 2) ++ (wR cI a (o + 4) (vr (pullS 0 (snowS (hoursS i S)))) (vA (pullS 0 (snowS (hoursS i S))) 3) (vA (pullS 0 (snowS (hoursS i S))) 4) (vA (pullS 0 (snowS (hoursS i S))) 5) (vA (pullS 0 (snowS (hoursS i S))) 6) ++ (wS cI a (o + 9) (vs (pullS 0 (snowS (hoursS i S)))) (vA (pullS 0 (snowS (hoursS i S))) 7) (vA (pullS 0 (snowS (hoursS i S))) 8) (vA (pullS 0 (snowS (hoursS i S))) 9) (vA (pullS 0 (snowS (hoursS i S))) 10) (vA (pullS 0 (snowS (hoursS i S))) 11) (vA (pullS 0 (snowS (hoursS i S))) 12) qt'_1 qp'_1))) H locs := HW
          refine W.eq (g2 := F0 m 39 ls [.int (vA (pullS 0 (snowS (hoursS i S))) 2 0 - vA (snowS (hoursS i S)) 2 0), .int (sumP (hoursS i S) - sumP S)]) rfl ?_
          have hI1 := Inv_pullS (t := 0) (Inv_snowS hIT) (rep_qok hRep)
          have hQ1 := hr9_1
          refine lv_iadd hx hb dX2_letHoursGo_39 ?_
          refine lv_istore_n (lv' := [(2, .int ((sumP (hoursS i S) - sumP S) + (vA (pullS 0 (snowS (hoursS i S))) 2 0 - vA (snowS (hoursS i S)) 2 0))), (4, .int (0 : Int32)), (3, .int (nI i)), (1, .int (nI h)), (0, .ref (a o))]) hx hb dX2_letHoursGo_40 rfl hl (Nat.le_of_ble_eq_true rfl) rfl (fun ls hl => ?_)
          refine lv_iinc (v := (1 : Int32)) (lv' := [(4, .int (1 : Int32)), (2, .int ((sumP (hoursS i S) - sumP S) + (vA (pullS 0 (snowS (hoursS i S))) 2 0 - vA (snowS (hoursS i S)) 2 0))), (3, .int (nI i)), (1, .int (nI h)), (0, .ref (a o))]) hx hb dX2_letHoursGo_41 hl (k := 1) rfl (by decide) (Nat.le_of_ble_eq_true rfl) rfl (fun ls hl => ?_)
          refine lv_goto (tgt := 26) hx hb dX2_letHoursGo_44 (by decide) ?_
          refine lv_iload hx hb dX2_letHoursGo_26 (lv_at hl 0 rfl) ?_
          refine lv_iconst (v := 3) hx hb dX2_letHoursGo_28 (by decide) ?_
          refine lv_icmp_ge (tgt := 47) hx hb dX2_letHoursGo_29 (by decide) (fun c29 => ?_) (fun c29 => ?_)
          · exact absurd c29 (by decide)
          · refine lv_iload_n hx hb dX2_letHoursGo_32 rfl (lv_at hl 1 rfl) ?_
            refine lv_aload_n hx hb dX2_letHoursGo_33 rfl (lv_at hl 4 rfl) ?_
            refine lv_iload hx hb dX2_letHoursGo_34 (lv_at hl 0 rfl) ?_
            refine g_callV CX HW hl.1 ([]) ([]) (c_X2_pullAt o (pullS 0 (snowS (hoursS i S))) qt'_1 qp'_1 1 hI1 hr9_1 (by omega) (by rw [vh_pullS]; exact hhT)) rfl 0 rfl rfl gX2_letHoursGo_X2_pullAt rfl ⟨rfl, hd_X2_pullAt⟩ ⟨rfl, rfl, (Nat.le_of_ble_eq_true rfl), (Nat.le_of_ble_eq_true rfl)⟩ ⟨(Nat.zero_le _), (Nat.zero_le _)⟩ rfl rfl (Nat.le_of_ble_eq_true rfl) dX2_letHoursGo_36 (fun v w1 H locs hp HW => ?_)
            obtain ⟨qt'_2, qp'_2, hr9_2, rfl, rfl⟩ := hp
            have HW : Hw D A s (wVo cI a o (vh (pullS 1 (pullS 0 (snowS (hoursS i S))))) (vc (pullS 1 (pullS 0 (snowS (hoursS i S))))) (vA (pullS 1 (pullS 0 (snowS (hoursS i S)))) 0) (vA (pullS 1 (pullS 0 (snowS (hoursS i S)))) 1) (vA (pullS 1 (pullS 0 (snowS (hoursS i S)))) 2) ++ (wR cI a (o + 4) (vr (pullS 1 (pullS 0 (snowS (hoursS i S))))) (vA (pullS 1 (pullS 0 (snowS (hoursS i S)))) 3) (vA (pullS 1 (pullS 0 (snowS (hoursS i S)))) 4) (vA (pullS 1 (pullS 0 (snowS (hoursS i S)))) 5) (vA (pullS 1 (pullS 0 (snowS (hoursS i S)))) 6) ++ (wS cI a (o + 9) (vs (pullS 1 (pullS 0 (snowS (hoursS i S))))) (vA (pullS 1 (pullS 0 (snowS (hoursS i S)))) 7) (vA (pullS 1 (pullS 0 (snowS (hoursS i S)))) 8) (vA (pullS 1 (pullS 0 (snowS (hoursS i S)))) 9) (vA (pullS 1 (pullS 0 (snowS (hoursS i S)))) 10) (vA (pullS 1 (pullS 0 (snowS (hoursS i S)))) 11) (vA (pullS 1 (pullS 0 (snowS (hoursS i S)))) 12) qt'_2 qp'_2))) H locs := HW
            refine W.eq (g2 := F0 m 39 ls [.int (vA (pullS 1 (pullS 0 (snowS (hoursS i S)))) 2 1 - vA (pullS 0 (snowS (hoursS i S))) 2 1), .int ((sumP (hoursS i S) - sumP S) + (vA (pullS 0 (snowS (hoursS i S))) 2 0 - vA (snowS (hoursS i S)) 2 0))]) rfl ?_
            have hI2 := Inv_pullS (t := 1) hI1 (rep_qok hQ1)
            have hQ2 := hr9_2
            refine lv_iadd hx hb dX2_letHoursGo_39 ?_
            refine lv_istore_n (lv' := [(2, .int (((sumP (hoursS i S) - sumP S) + (vA (pullS 0 (snowS (hoursS i S))) 2 0 - vA (snowS (hoursS i S)) 2 0)) + (vA (pullS 1 (pullS 0 (snowS (hoursS i S)))) 2 1 - vA (pullS 0 (snowS (hoursS i S))) 2 1))), (4, .int (1 : Int32)), (3, .int (nI i)), (1, .int (nI h)), (0, .ref (a o))]) hx hb dX2_letHoursGo_40 rfl hl (Nat.le_of_ble_eq_true rfl) rfl (fun ls hl => ?_)
            refine lv_iinc (v := (2 : Int32)) (lv' := [(4, .int (2 : Int32)), (2, .int (((sumP (hoursS i S) - sumP S) + (vA (pullS 0 (snowS (hoursS i S))) 2 0 - vA (snowS (hoursS i S)) 2 0)) + (vA (pullS 1 (pullS 0 (snowS (hoursS i S)))) 2 1 - vA (pullS 0 (snowS (hoursS i S))) 2 1))), (3, .int (nI i)), (1, .int (nI h)), (0, .ref (a o))]) hx hb dX2_letHoursGo_41 hl (k := 1) rfl (by decide) (Nat.le_of_ble_eq_true rfl) rfl (fun ls hl => ?_)
            refine lv_goto (tgt := 26) hx hb dX2_letHoursGo_44 (by decide) ?_
            refine lv_iload hx hb dX2_letHoursGo_26 (lv_at hl 0 rfl) ?_
            refine lv_iconst (v := 3) hx hb dX2_letHoursGo_28 (by decide) ?_
            refine lv_icmp_ge (tgt := 47) hx hb dX2_letHoursGo_29 (by decide) (fun c29 => ?_) (fun c29 => ?_)
            · exact absurd c29 (by decide)
            · refine lv_iload_n hx hb dX2_letHoursGo_32 rfl (lv_at hl 1 rfl) ?_
              refine lv_aload_n hx hb dX2_letHoursGo_33 rfl (lv_at hl 4 rfl) ?_
              refine lv_iload hx hb dX2_letHoursGo_34 (lv_at hl 0 rfl) ?_
              refine g_callV CX HW hl.1 ([]) ([]) (c_X2_pullAt o (pullS 1 (pullS 0 (snowS (hoursS i S)))) qt'_2 qp'_2 2 hI2 hr9_2 (by omega) (by rw [vh_pullS, vh_pullS]; exact hhT)) rfl 0 rfl rfl gX2_letHoursGo_X2_pullAt rfl ⟨rfl, hd_X2_pullAt⟩ ⟨rfl, rfl, (Nat.le_of_ble_eq_true rfl), (Nat.le_of_ble_eq_true rfl)⟩ ⟨(Nat.zero_le _), (Nat.zero_le _)⟩ rfl rfl (Nat.le_of_ble_eq_true rfl) dX2_letHoursGo_36 (fun v w1 H locs hp HW => ?_)
              obtain ⟨qt'_3, qp'_3, hr9_3, rfl, rfl⟩ := hp
              have HW : Hw D A s (wVo cI a o (vh (pullS 2 (pullS 1 (pullS 0 (snowS (hoursS i S)))))) (vc (pullS 2 (pullS 1 (pullS 0 (snowS (hoursS i S)))))) (vA (pullS 2 (pullS 1 (pullS 0 (snowS (hoursS i S))))) 0) (vA (pullS 2 (pullS 1 (pullS 0 (snowS (hoursS i S))))) 1) (vA (pullS 2 (pullS 1 (pullS 0 (snowS (hoursS i S))))) 2) ++ (wR cI a (o + 4) (vr (pullS 2 (pullS 1 (pullS 0 (snowS (hoursS i S)))))) (vA (pullS 2 (pullS 1 (pullS 0 (snowS (hoursS i S))))) 3) (vA (pullS 2 (pullS 1 (pullS 0 (snowS (hoursS i S))))) 4) (vA (pullS 2 (pullS 1 (pullS 0 (snowS (hoursS i S))))) 5) (vA (pullS 2 (pullS 1 (pullS 0 (snowS (hoursS i S))))) 6) ++ (wS cI a (o + 9) (vs (pullS 2 (pullS 1 (pullS 0 (snowS (hoursS i S)))))) (vA (pullS 2 (pullS 1 (pullS 0 (snowS (hoursS i S))))) 7) (vA (pullS 2 (pullS 1 (pullS 0 (snowS (hoursS i S))))) 8) (vA (pullS 2 (pullS 1 (pullS 0 (snowS (hoursS i S))))) 9) (vA (pullS 2 (pullS 1 (pullS 0 (snowS (hoursS i S))))) 10) (vA (pullS 2 (pullS 1 (pullS 0 (snowS (hoursS i S))))) 11) (vA (pullS 2 (pullS 1 (pullS 0 (snowS (hoursS i S))))) 12) qt'_3 qp'_3))) H locs := HW
              refine W.eq (g2 := F0 m 39 ls [.int (vA (pullS 2 (pullS 1 (pullS 0 (snowS (hoursS i S))))) 2 2 - vA (pullS 1 (pullS 0 (snowS (hoursS i S)))) 2 2), .int (((sumP (hoursS i S) - sumP S) + (vA (pullS 0 (snowS (hoursS i S))) 2 0 - vA (snowS (hoursS i S)) 2 0)) + (vA (pullS 1 (pullS 0 (snowS (hoursS i S)))) 2 1 - vA (pullS 0 (snowS (hoursS i S))) 2 1))]) rfl ?_
              have hQ3 := hr9_3
              refine lv_iadd hx hb dX2_letHoursGo_39 ?_
              refine lv_istore_n (lv' := [(2, .int ((((sumP (hoursS i S) - sumP S) + (vA (pullS 0 (snowS (hoursS i S))) 2 0 - vA (snowS (hoursS i S)) 2 0)) + (vA (pullS 1 (pullS 0 (snowS (hoursS i S)))) 2 1 - vA (pullS 0 (snowS (hoursS i S))) 2 1)) + (vA (pullS 2 (pullS 1 (pullS 0 (snowS (hoursS i S))))) 2 2 - vA (pullS 1 (pullS 0 (snowS (hoursS i S)))) 2 2))), (4, .int (2 : Int32)), (3, .int (nI i)), (1, .int (nI h)), (0, .ref (a o))]) hx hb dX2_letHoursGo_40 rfl hl (Nat.le_of_ble_eq_true rfl) rfl (fun ls hl => ?_)
              refine lv_iinc (v := (3 : Int32)) (lv' := [(4, .int (3 : Int32)), (2, .int ((((sumP (hoursS i S) - sumP S) + (vA (pullS 0 (snowS (hoursS i S))) 2 0 - vA (snowS (hoursS i S)) 2 0)) + (vA (pullS 1 (pullS 0 (snowS (hoursS i S)))) 2 1 - vA (pullS 0 (snowS (hoursS i S))) 2 1)) + (vA (pullS 2 (pullS 1 (pullS 0 (snowS (hoursS i S))))) 2 2 - vA (pullS 1 (pullS 0 (snowS (hoursS i S)))) 2 2))), (3, .int (nI i)), (1, .int (nI h)), (0, .ref (a o))]) hx hb dX2_letHoursGo_41 hl (k := 1) rfl (by decide) (Nat.le_of_ble_eq_true rfl) rfl (fun ls hl => ?_)
              refine lv_goto (tgt := 26) hx hb dX2_letHoursGo_44 (by decide) ?_
              refine lv_iload hx hb dX2_letHoursGo_26 (lv_at hl 0 rfl) ?_
              refine lv_iconst (v := 3) hx hb dX2_letHoursGo_28 (by decide) ?_
              refine lv_icmp_ge (tgt := 47) hx hb dX2_letHoursGo_29 (by decide) (fun c29 => ?_) (fun c29 => ?_)
              · refine lv_aload_n hx hb dX2_letHoursGo_47 rfl (lv_at hl 4 rfl) ?_
                refine lv_dup hx hb dX2_letHoursGo_48 rfl ?_
                refine g_get CX HW in_X2_letHoursGo_2 0 0 rfl rfl (Nat.le_of_ble_eq_true rfl) fl_X2_letHoursGo_9 rfl dX2_letHoursGo_49 ?_
                refine lv_iconst (v := 1) hx hb dX2_letHoursGo_52 (by decide) ?_
                refine lv_iadd hx hb dX2_letHoursGo_53 ?_
                refine g_top (y := (nI (vh (pullS 2 (pullS 1 (pullS 0 (snowS (hoursS i S))))) + 1))) (nI_1 _) ?_
                refine g_put CX HW in_X2_letHoursGo_2 tyX2 tyX2_ok nmX2 0 0 rfl rfl (Nat.le_of_ble_eq_true rfl) fl_X2_letHoursGo_9 rfl rfl rfl (Nat.le_of_ble_eq_true rfl) dX2_letHoursGo_54 (fun H locs HW => ?_)
                have HW : Hw D A s (wVo cI a o (vh (pullS 2 (pullS 1 (pullS 0 (snowS (hoursS i S))))) + 1) (vc (pullS 2 (pullS 1 (pullS 0 (snowS (hoursS i S)))))) (vA (pullS 2 (pullS 1 (pullS 0 (snowS (hoursS i S))))) 0) (vA (pullS 2 (pullS 1 (pullS 0 (snowS (hoursS i S))))) 1) (vA (pullS 2 (pullS 1 (pullS 0 (snowS (hoursS i S))))) 2) ++ (wR cI a (o + 4) (vr (pullS 2 (pullS 1 (pullS 0 (snowS (hoursS i S)))))) (vA (pullS 2 (pullS 1 (pullS 0 (snowS (hoursS i S))))) 3) (vA (pullS 2 (pullS 1 (pullS 0 (snowS (hoursS i S))))) 4) (vA (pullS 2 (pullS 1 (pullS 0 (snowS (hoursS i S))))) 5) (vA (pullS 2 (pullS 1 (pullS 0 (snowS (hoursS i S))))) 6) ++ (wS cI a (o + 9) (vs (pullS 2 (pullS 1 (pullS 0 (snowS (hoursS i S)))))) (vA (pullS 2 (pullS 1 (pullS 0 (snowS (hoursS i S))))) 7) (vA (pullS 2 (pullS 1 (pullS 0 (snowS (hoursS i S))))) 8) (vA (pullS 2 (pullS 1 (pullS 0 (snowS (hoursS i S))))) 9) (vA (pullS 2 (pullS 1 (pullS 0 (snowS (hoursS i S))))) 10) (vA (pullS 2 (pullS 1 (pullS 0 (snowS (hoursS i S))))) 11) (vA (pullS 2 (pullS 1 (pullS 0 (snowS (hoursS i S))))) 12) qt'_3 qp'_3))) H locs := HW
                refine lv_iinc (v := (nI (i + 1))) (lv' := [(3, .int (nI (i + 1))), (4, .int (3 : Int32)), (2, .int ((((sumP (hoursS i S) - sumP S) + (vA (pullS 0 (snowS (hoursS i S))) 2 0 - vA (snowS (hoursS i S)) 2 0)) + (vA (pullS 1 (pullS 0 (snowS (hoursS i S)))) 2 1 - vA (pullS 0 (snowS (hoursS i S))) 2 1)) + (vA (pullS 2 (pullS 1 (pullS 0 (snowS (hoursS i S))))) 2 2 - vA (pullS 1 (pullS 0 (snowS (hoursS i S)))) 2 2))), (1, .int (nI h)), (0, .ref (a o))]) hx hb dX2_letHoursGo_57 hl (k := 2) rfl (inc1 _) (Nat.le_of_ble_eq_true rfl) rfl (fun ls hl => ?_)
                refine lv_goto (tgt := 4) hx hb dX2_letHoursGo_60 (by decide) ?_
                have hl9 : ((((sumP (hoursS i S) - sumP S) + (vA (pullS 0 (snowS (hoursS i S))) 2 0 - vA (snowS (hoursS i S)) 2 0)) + (vA (pullS 1 (pullS 0 (snowS (hoursS i S)))) 2 1 - vA (pullS 0 (snowS (hoursS i S))) 2 1)) + (vA (pullS 2 (pullS 1 (pullS 0 (snowS (hoursS i S))))) 2 2 - vA (pullS 1 (pullS 0 (snowS (hoursS i S)))) 2 2)) = sumP (hoursS (i + 1) S) - sumP S := hour_sum (hoursS i S) (sumP S)
                rw [hl9] at hl
                have HW : Hw D A s (wVo cI a o (vh (hoursS (i + 1) S)) (vc (hoursS (i + 1) S)) (vA (hoursS (i + 1) S) 0) (vA (hoursS (i + 1) S) 1) (vA (hoursS (i + 1) S) 2) ++ (wR cI a (o + 4) (vr (hoursS (i + 1) S)) (vA (hoursS (i + 1) S) 3) (vA (hoursS (i + 1) S) 4) (vA (hoursS (i + 1) S) 5) (vA (hoursS (i + 1) S) 6) ++ (wS cI a (o + 9) (vs (hoursS (i + 1) S)) (vA (hoursS (i + 1) S) 7) (vA (hoursS (i + 1) S) 8) (vA (hoursS (i + 1) S) 9) (vA (hoursS (i + 1) S) 10) (vA (hoursS (i + 1) S) 11) (vA (hoursS (i + 1) S) 12) qt'_3 qp'_3))) H locs := by rw [show hoursS (i + 1) S = incS (pullS 2 (pullS 1 (pullS 0 (snowS (hoursS i S))))) from rfl]; exact hw_inc _ HW
                exact ih _ (by omega) (i + 1) _ _ rfl (by omega) hQ3 _ _ _ HW (lv_sub hl [0, 2, 3, 4] rfl)
              · exact absurd c29 (by decide)
  have hl0 : (0 : Int32) = sumP (hoursS 0 S) - sumP S := (Int32.sub_self _).symm
  refine lv_iconst (v := 0) hx hb dX2_letHoursGo_0 (by decide) ?_
  refine lv_istore_n (lv' := [(2, .int (0 : Int32)), (0, .ref (a o)), (1, .int (nI h))]) hx hb dX2_letHoursGo_1 rfl hl (Nat.le_of_ble_eq_true rfl) rfl (fun ls hl => ?_)
  refine lv_iconst (v := 0) hx hb dX2_letHoursGo_2 (by decide) ?_
  refine lv_istore_n (lv' := [(3, .int (0 : Int32)), (2, .int (0 : Int32)), (0, .ref (a o)), (1, .int (nI h))]) hx hb dX2_letHoursGo_3 rfl hl (Nat.le_of_ble_eq_true rfl) rfl (fun ls hl => ?_)
  have hl : lv_has ls 5 [(3, .int (0 : Int32)), (2, .int (sumP (hoursS 0 S) - sumP S)), (0, .ref (a o)), (1, .int (nI h))] := by rw [← hl0]; exact hl
  exact loop _ 0 qt qp rfl (by omega) hR _ _ _ HW (lv_sub hl [0, 1, 3, 2] rfl)

theorem hd_X2_allRides : yX2_allRides.cls ≠ "java/lang/invoke/MethodHandle" ∧ yX2_allRides.cls ≠ "java/lang/invoke/VarHandle" ∧ (parseMethodDescriptor yX2_allRides.desc).map (fun d => d.parameters.length) = some 0 := by decide +kernel
theorem fl_X2_allRides_25 : Cond.fieldLink RX2 25 (TX2 4).1 (TX2 4).2.1 (TX2 4).2.2.1 ∈ wsX2_allRides := by decide +kernel
theorem in_X2_allRides_2 : ∀ x ∈ u_ws RX2 TX2 7, x ∈ wsX2_allRides := by decide +kernel
set_option maxRecDepth 100000 in
set_option maxHeartbeats 4000000 in
theorem c_X2_allRides {l : Launch} {D : va_G} {cI cL : ClassId} {a : Nat → Nat} (o : Nat) (S : VS) (qt : Nat → Int32) (qp : Nat → Int32) : Ct l yX2_allRides wsX2_allRides { frames := 0, cells := 0, slots := 0, locals := 0 } D (ty2 cI cL) [.ref (a o)] (wVo cI a o (vh S) (vc S) (vA S 0) (vA S 1) (vA S 2) ++ (wR cI a (o + 4) (vr S) (vA S 3) (vA S 4) (vA S 5) (vA S 6) ++ (wS cI a (o + 9) (vs S) (vA S 7) (vA S 8) (vA S 9) (vA S 10) (vA S 11) (vA S 12) qt qp))) (fun v w' => v = some (.int (sumP S)) ∧ w' = wVo cI a o (vh S) (vc S) (vA S 0) (vA S 1) (vA S 2) ++ (wR cI a (o + 4) (vr S) (vA S 3) (vA S 4) (vA S 5) (vA S 6) ++ (wS cI a (o + 9) (vs S) (vA S 7) (vA S 8) (vA S 9) (vA S 10) (vA S 11) (vA S 12) qt qp))) 0 0 := by
  refine Ct.of (cc := cX2_allRides) (maxL := 3) (ret := (some .int)) (by decide) rfl (Nat.le_of_ble_eq_true rfl) ?_
  intro p e s m below meth c A ls CX hin HW hl
  obtain ⟨hx, hb, hml, hr, hown, hts, hK, hA, hlk⟩ := id CX
  have hl : lv_has ls 3 [(0, .ref (a o))] := hl
  refine lv_iconst (v := 0) hx hb dX2_allRides_0 (by decide) ?_
  refine lv_istore_n (lv' := [(1, .int (0 : Int32)), (0, .ref (a o))]) hx hb dX2_allRides_1 rfl hl (Nat.le_of_ble_eq_true rfl) rfl (fun ls hl => ?_)
  refine lv_iconst (v := 0) hx hb dX2_allRides_2 (by decide) ?_
  refine lv_istore_n (lv' := [(2, .int (0 : Int32)), (1, .int (0 : Int32)), (0, .ref (a o))]) hx hb dX2_allRides_3 rfl hl (Nat.le_of_ble_eq_true rfl) rfl (fun ls hl => ?_)
  refine lv_iload_n hx hb dX2_allRides_4 rfl (lv_at hl 0 rfl) ?_
  refine lv_iconst (v := 3) hx hb dX2_allRides_5 (by decide) ?_
  refine lv_icmp_ge (tgt := 24) hx hb dX2_allRides_6 (by decide) (fun c6 => ?_) (fun c6 => ?_)
  · exact absurd c6 (by decide)
  · refine lv_iload_n hx hb dX2_allRides_9 rfl (lv_at hl 1 rfl) ?_
    refine lv_aload_n hx hb dX2_allRides_10 rfl (lv_at hl 2 rfl) ?_
    refine g_get CX HW in_X2_allRides_2 0 4 rfl rfl (Nat.le_of_ble_eq_true rfl) fl_X2_allRides_25 rfl dX2_allRides_11 ?_
    refine lv_iload_n hx hb dX2_allRides_14 rfl (lv_at hl 0 rfl) ?_
    refine g_ald CX HW 3 (k := 0) rfl rfl rfl (Nat.le_of_ble_eq_true rfl) (Nat.le_of_ble_eq_true rfl) dX2_allRides_15 ?_
    refine lv_iadd hx hb dX2_allRides_16 ?_
    refine lv_istore_n (lv' := [(1, .int ((0 : Int32) + (vA S 2 0))), (2, .int (0 : Int32)), (0, .ref (a o))]) hx hb dX2_allRides_17 rfl hl (Nat.le_of_ble_eq_true rfl) rfl (fun ls hl => ?_)
    refine lv_iinc (v := (1 : Int32)) (lv' := [(2, .int (1 : Int32)), (1, .int ((0 : Int32) + (vA S 2 0))), (0, .ref (a o))]) hx hb dX2_allRides_18 hl (k := 1) rfl (by decide) (Nat.le_of_ble_eq_true rfl) rfl (fun ls hl => ?_)
    refine lv_goto (tgt := 4) hx hb dX2_allRides_21 (by decide) ?_
    refine lv_iload_n hx hb dX2_allRides_4 rfl (lv_at hl 0 rfl) ?_
    refine lv_iconst (v := 3) hx hb dX2_allRides_5 (by decide) ?_
    refine lv_icmp_ge (tgt := 24) hx hb dX2_allRides_6 (by decide) (fun c6 => ?_) (fun c6 => ?_)
    · exact absurd c6 (by decide)
    · refine lv_iload_n hx hb dX2_allRides_9 rfl (lv_at hl 1 rfl) ?_
      refine lv_aload_n hx hb dX2_allRides_10 rfl (lv_at hl 2 rfl) ?_
      refine g_get CX HW in_X2_allRides_2 0 4 rfl rfl (Nat.le_of_ble_eq_true rfl) fl_X2_allRides_25 rfl dX2_allRides_11 ?_
      refine lv_iload_n hx hb dX2_allRides_14 rfl (lv_at hl 0 rfl) ?_
      refine g_ald CX HW 3 (k := 1) rfl rfl rfl (Nat.le_of_ble_eq_true rfl) (Nat.le_of_ble_eq_true rfl) dX2_allRides_15 ?_
      refine lv_iadd hx hb dX2_allRides_16 ?_
      refine lv_istore_n (lv' := [(1, .int (((0 : Int32) + (vA S 2 0)) + (vA S 2 1))), (2, .int (1 : Int32)), (0, .ref (a o))]) hx hb dX2_allRides_17 rfl hl (Nat.le_of_ble_eq_true rfl) rfl (fun ls hl => ?_)
      refine lv_iinc (v := (2 : Int32)) (lv' := [(2, .int (2 : Int32)), (1, .int (((0 : Int32) + (vA S 2 0)) + (vA S 2 1))), (0, .ref (a o))]) hx hb dX2_allRides_18 hl (k := 1) rfl (by decide) (Nat.le_of_ble_eq_true rfl) rfl (fun ls hl => ?_)
      refine lv_goto (tgt := 4) hx hb dX2_allRides_21 (by decide) ?_
      refine lv_iload_n hx hb dX2_allRides_4 rfl (lv_at hl 0 rfl) ?_
      refine lv_iconst (v := 3) hx hb dX2_allRides_5 (by decide) ?_
      refine lv_icmp_ge (tgt := 24) hx hb dX2_allRides_6 (by decide) (fun c6 => ?_) (fun c6 => ?_)
      · exact absurd c6 (by decide)
      · refine lv_iload_n hx hb dX2_allRides_9 rfl (lv_at hl 1 rfl) ?_
        refine lv_aload_n hx hb dX2_allRides_10 rfl (lv_at hl 2 rfl) ?_
        refine g_get CX HW in_X2_allRides_2 0 4 rfl rfl (Nat.le_of_ble_eq_true rfl) fl_X2_allRides_25 rfl dX2_allRides_11 ?_
        refine lv_iload_n hx hb dX2_allRides_14 rfl (lv_at hl 0 rfl) ?_
        refine g_ald CX HW 3 (k := 2) rfl rfl rfl (Nat.le_of_ble_eq_true rfl) (Nat.le_of_ble_eq_true rfl) dX2_allRides_15 ?_
        refine lv_iadd hx hb dX2_allRides_16 ?_
        refine lv_istore_n (lv' := [(1, .int ((((0 : Int32) + (vA S 2 0)) + (vA S 2 1)) + (vA S 2 2))), (2, .int (2 : Int32)), (0, .ref (a o))]) hx hb dX2_allRides_17 rfl hl (Nat.le_of_ble_eq_true rfl) rfl (fun ls hl => ?_)
        refine lv_iinc (v := (3 : Int32)) (lv' := [(2, .int (3 : Int32)), (1, .int ((((0 : Int32) + (vA S 2 0)) + (vA S 2 1)) + (vA S 2 2))), (0, .ref (a o))]) hx hb dX2_allRides_18 hl (k := 1) rfl (by decide) (Nat.le_of_ble_eq_true rfl) rfl (fun ls hl => ?_)
        refine lv_goto (tgt := 4) hx hb dX2_allRides_21 (by decide) ?_
        refine lv_iload_n hx hb dX2_allRides_4 rfl (lv_at hl 0 rfl) ?_
        refine lv_iconst (v := 3) hx hb dX2_allRides_5 (by decide) ?_
        refine lv_icmp_ge (tgt := 24) hx hb dX2_allRides_6 (by decide) (fun c6 => ?_) (fun c6 => ?_)
        · refine lv_iload_n hx hb dX2_allRides_24 rfl (lv_at hl 1 rfl) ?_
          exact g_iret CX HW rfl ⟨rfl, rfl⟩ dX2_allRides_25
        · exact absurd c6 (by decide)

theorem hd_X2_towFigure : yX2_towFigure.cls ≠ "java/lang/invoke/MethodHandle" ∧ yX2_towFigure.cls ≠ "java/lang/invoke/VarHandle" ∧ (parseMethodDescriptor yX2_towFigure.desc).map (fun d => d.parameters.length) = some 2 := by decide +kernel
theorem fl_X2_towFigure_22 : Cond.fieldLink RX2 22 (TX2 3).1 (TX2 3).2.1 (TX2 3).2.2.1 ∈ wsX2_towFigure := by decide +kernel
theorem in_X2_towFigure_2 : ∀ x ∈ u_ws RX2 TX2 7, x ∈ wsX2_towFigure := by decide +kernel
theorem fl_X2_towFigure_38 : Cond.fieldLink RX2 38 (TX2 6).1 (TX2 6).2.1 (TX2 6).2.2.1 ∈ wsX2_towFigure := by decide +kernel
theorem fl_X2_towFigure_25 : Cond.fieldLink RX2 25 (TX2 4).1 (TX2 4).2.1 (TX2 4).2.2.1 ∈ wsX2_towFigure := by decide +kernel
set_option maxRecDepth 100000 in
set_option maxHeartbeats 4000000 in
theorem c_X2_towFigure {l : Launch} {D : va_G} {cI cL : ClassId} {a : Nat → Nat} (o : Nat) (S : VS) (qt : Nat → Int32) (qp : Nat → Int32) (t : Nat) (what : Nat) (hR : Rep (vs S) (vq S) qt qp) (hn : vs S ≤ 8) (ht : t < 3) (hw3 : what < 3) : Ct l yX2_towFigure wsX2_towFigure { frames := 1, cells := 0, slots := 0, locals := 23 } D (ty2 cI cL) [.ref (a o), .int (nI t), .int (nI what)] (wVo cI a o (vh S) (vc S) (vA S 0) (vA S 1) (vA S 2) ++ (wR cI a (o + 4) (vr S) (vA S 3) (vA S 4) (vA S 5) (vA S 6) ++ (wS cI a (o + 9) (vs S) (vA S 7) (vA S 8) (vA S 9) (vA S 10) (vA S 11) (vA S 12) qt qp))) (fun v w' => v = some (.int (figT S t what)) ∧ w' = wVo cI a o (vh S) (vc S) (vA S 0) (vA S 1) (vA S 2) ++ (wR cI a (o + 4) (vr S) (vA S 3) (vA S 4) (vA S 5) (vA S 6) ++ (wS cI a (o + 9) (vs S) (vA S 7) (vA S 8) (vA S 9) (vA S 10) (vA S 11) (vA S 12) qt qp))) 0 0 := by
  refine Ct.of (cc := cX2_towFigure) (maxL := 3) (ret := (some .int)) (by decide) rfl (Nat.le_of_ble_eq_true rfl) ?_
  intro p e s m below meth c A ls CX hin HW hl
  obtain ⟨hx, hb, hml, hr, hown, hts, hK, hA, hlk⟩ := id CX
  have hl : lv_has ls 3 [(0, .ref (a o)), (1, .int (nI t)), (2, .int (nI what))] := hl
  refine lv_iload_n hx hb dX2_towFigure_0 rfl (lv_at hl 2 rfl) ?_
  rcases (by omega : what = 0 ∨ what = 1 ∨ what = 2) with rfl | rfl | rfl
  · refine lv_lookup (off := 27) (tgt := 28) hx hb dX2_towFigure_1 (by decide) (by decide) (by decide) ?_
    refine lv_aload_n hx hb dX2_towFigure_28 rfl (lv_at hl 0 rfl) ?_
    refine g_get CX HW in_X2_towFigure_2 0 3 rfl rfl (Nat.le_of_ble_eq_true rfl) fl_X2_towFigure_22 rfl dX2_towFigure_29 ?_
    refine lv_iload_n hx hb dX2_towFigure_32 rfl (lv_at hl 1 rfl) ?_
    refine g_ald CX HW 2 (k := t) rfl rfl rfl (by omega) (Nat.le_of_ble_eq_true rfl) dX2_towFigure_33 ?_
    exact g_iret CX HW rfl ⟨rfl, rfl⟩ dX2_towFigure_34
  · refine lv_lookup (off := 34) (tgt := 35) hx hb dX2_towFigure_1 (by decide) (by decide) (by decide) ?_
    refine lv_aload_n hx hb dX2_towFigure_35 rfl (lv_at hl 0 rfl) ?_
    refine g_get CX HW in_X2_towFigure_2 0 6 rfl rfl (Nat.le_of_ble_eq_true rfl) fl_X2_towFigure_38 rfl dX2_towFigure_36 ?_
    refine lv_iload_n hx hb dX2_towFigure_39 rfl (lv_at hl 1 rfl) ?_
    refine g_callV CX HW hl.1 (wVo cI a o (vh S) (vc S) (vA S 0) (vA S 1) (vA S 2) ++ (wR cI a (o + 4) (vr S) (vA S 3) (vA S 4) (vA S 5) (vA S 6))) ([]) (c_X1_waitingAt (o + 9) (vs S) (vA S 7) (vA S 8) (vA S 9) (vA S 10) (vA S 11) (vA S 12) qt qp (nI t) hn) rfl 0 rfl rfl gX2_towFigure_X1_waitingAt rfl ⟨rfl, hd_X1_waitingAt⟩ ⟨rfl, rfl, (Nat.le_of_ble_eq_true rfl), (Nat.le_of_ble_eq_true rfl)⟩ ⟨(Nat.zero_le _), (Nat.zero_le _)⟩ rfl rfl (Nat.le_of_ble_eq_true rfl) dX2_towFigure_40 (fun v w1 H locs hp HW => ?_)
    obtain ⟨rfl, rfl⟩ := hp
    have HW : Hw D A s (wVo cI a o (vh S) (vc S) (vA S 0) (vA S 1) (vA S 2) ++ (wR cI a (o + 4) (vr S) (vA S 3) (vA S 4) (vA S 5) (vA S 6) ++ (wS cI a (o + 9) (vs S) (vA S 7) (vA S 8) (vA S 9) (vA S 10) (vA S 11) (vA S 12) qt qp))) H locs := HW
    refine W.eq (g2 := F0 m 43 ls [.int (nI (cntE qt (nI t) (vs S)))]) rfl ?_
    refine g_top (y := (nI (vq S t).length)) (by rw [hR.2.2 t ht]) ?_
    exact g_iret CX HW rfl ⟨rfl, rfl⟩ dX2_towFigure_43
  · refine lv_lookup (off := 43) (tgt := 44) hx hb dX2_towFigure_1 (by decide) (by decide) (by decide) ?_
    refine lv_aload_n hx hb dX2_towFigure_44 rfl (lv_at hl 0 rfl) ?_
    refine g_get CX HW in_X2_towFigure_2 0 4 rfl rfl (Nat.le_of_ble_eq_true rfl) fl_X2_towFigure_25 rfl dX2_towFigure_45 ?_
    refine lv_iload_n hx hb dX2_towFigure_48 rfl (lv_at hl 1 rfl) ?_
    refine g_ald CX HW 3 (k := t) rfl rfl rfl (by omega) (Nat.le_of_ble_eq_true rfl) dX2_towFigure_49 ?_
    exact g_iret CX HW rfl ⟨rfl, rfl⟩ dX2_towFigure_50

theorem hd_X2_figure : yX2_figure.cls ≠ "java/lang/invoke/MethodHandle" ∧ yX2_figure.cls ≠ "java/lang/invoke/VarHandle" ∧ (parseMethodDescriptor yX2_figure.desc).map (fun d => d.parameters.length) = some 1 := by decide +kernel
theorem fl_X2_figure_9 : Cond.fieldLink RX2 9 (TX2 0).1 (TX2 0).2.1 (TX2 0).2.2.1 ∈ wsX2_figure := by decide +kernel
theorem in_X2_figure_2 : ∀ x ∈ u_ws RX2 TX2 7, x ∈ wsX2_figure := by decide +kernel
theorem fl_X2_figure_15 : Cond.fieldLink RX2 15 (TX2 1).1 (TX2 1).2.1 (TX2 1).2.2.1 ∈ wsX2_figure := by decide +kernel
theorem fl_X2_figure_31 : Cond.fieldLink RX2 31 (TX2 5).1 (TX2 5).2.1 (TX2 5).2.2.1 ∈ wsX2_figure := by decide +kernel
theorem fl_X2_figure_124 : Cond.fieldLink RX2 124 (TX0 0).1 (TX0 0).2.1 (TX0 0).2.2.1 ∈ wsX2_figure := by decide +kernel
theorem in_X2_figure_0 : ∀ x ∈ u_ws RX0 TX0 5, x ∈ wsX2_figure := by decide +kernel
theorem fl_X2_figure_38 : Cond.fieldLink RX2 38 (TX2 6).1 (TX2 6).2.1 (TX2 6).2.2.1 ∈ wsX2_figure := by decide +kernel
theorem fl_X2_figure_127 : Cond.fieldLink RX2 127 (TX1 0).1 (TX1 0).2.1 (TX1 0).2.2.1 ∈ wsX2_figure := by decide +kernel
theorem in_X2_figure_1 : ∀ x ∈ u_ws RX1 TX1 9, x ∈ wsX2_figure := by decide +kernel
set_option maxRecDepth 100000 in
set_option maxHeartbeats 4000000 in
theorem c_X2_figure {l : Launch} {D : va_G} {cI cL : ClassId} {a : Nat → Nat} (o : Nat) (S : VS) (qt : Nat → Int32) (qp : Nat → Int32) (what : Nat) (hR : Rep (vs S) (vq S) qt qp) (hr6 : vr S ≤ 6) (hn : vs S ≤ 8) (hh : vh S < 2 ^ 31) (hw9 : what < 9) : Ct l yX2_figure wsX2_figure { frames := 2, cells := 0, slots := 0, locals := 43 } D (ty2 cI cL) [.ref (a o), .int (nI what)] (wVo cI a o (vh S) (vc S) (vA S 0) (vA S 1) (vA S 2) ++ (wR cI a (o + 4) (vr S) (vA S 3) (vA S 4) (vA S 5) (vA S 6) ++ (wS cI a (o + 9) (vs S) (vA S 7) (vA S 8) (vA S 9) (vA S 10) (vA S 11) (vA S 12) qt qp))) (fun v w' => v = some (.int (figV S what)) ∧ w' = wVo cI a o (vh S) (vc S) (vA S 0) (vA S 1) (vA S 2) ++ (wR cI a (o + 4) (vr S) (vA S 3) (vA S 4) (vA S 5) (vA S 6) ++ (wS cI a (o + 9) (vs S) (vA S 7) (vA S 8) (vA S 9) (vA S 10) (vA S 11) (vA S 12) qt qp))) 0 0 := by
  refine Ct.of (cc := cX2_figure) (maxL := 2) (ret := (some .int)) (by decide) rfl (Nat.le_of_ble_eq_true rfl) ?_
  intro p e s m below meth c A ls CX hin HW hl
  obtain ⟨hx, hb, hml, hr, hown, hts, hK, hA, hlk⟩ := id CX
  have hl : lv_has ls 2 [(0, .ref (a o)), (1, .int (nI what))] := hl
  refine lv_iload_n hx hb dX2_figure_0 rfl (lv_at hl 1 rfl) ?_
  rcases (by omega : what = 0 ∨ what = 1 ∨ what = 2 ∨ what = 3 ∨ what = 4 ∨ what = 5 ∨ what = 6 ∨ what = 7 ∨ what = 8) with rfl | rfl | rfl | rfl | rfl | rfl | rfl | rfl | rfl
  · refine lv_tableIn (off := 47) (tgt := 48) hx hb dX2_figure_1 (by decide) (by decide) (by decide) (by decide) ?_
    refine lv_aload_n hx hb dX2_figure_48 rfl (lv_at hl 0 rfl) ?_
    refine g_get CX HW in_X2_figure_2 0 0 rfl rfl (Nat.le_of_ble_eq_true rfl) fl_X2_figure_9 rfl dX2_figure_49 ?_
    exact g_iret CX HW rfl ⟨rfl, rfl⟩ dX2_figure_52
  · refine lv_tableIn (off := 52) (tgt := 53) hx hb dX2_figure_1 (by decide) (by decide) (by decide) (by decide) ?_
    refine lv_aload_n hx hb dX2_figure_53 rfl (lv_at hl 0 rfl) ?_
    refine g_callV CX HW hl.1 ([]) ([]) (c_X2_flakeOfHour o S qt qp (vA S 2) hh) rfl 0 rfl rfl gX2_figure_X2_flakeOfHour rfl ⟨rfl, hd_X2_flakeOfHour⟩ ⟨rfl, rfl, (Nat.le_of_ble_eq_true rfl), (Nat.le_of_ble_eq_true rfl)⟩ ⟨(Nat.zero_le _), (Nat.zero_le _)⟩ rfl rfl (Nat.le_of_ble_eq_true rfl) dX2_figure_54 (fun v w1 H locs hp HW => ?_)
    obtain ⟨rfl, rfl⟩ := hp
    have HW : Hw D A s (wVo cI a o (vh S) (vc S) (vA S 0) (vA S 1) (vA S 2) ++ (wR cI a (o + 4) (vr S) (vA S 3) (vA S 4) (vA S 5) (vA S 6) ++ (wS cI a (o + 9) (vs S) (vA S 7) (vA S 8) (vA S 9) (vA S 10) (vA S 11) (vA S 12) qt qp))) H locs := HW
    refine W.eq (g2 := F0 m 57 ls [.int (vA S 0 (vh S % 6))]) rfl ?_
    exact g_iret CX HW rfl ⟨rfl, rfl⟩ dX2_figure_57
  · refine lv_tableIn (off := 57) (tgt := 58) hx hb dX2_figure_1 (by decide) (by decide) (by decide) (by decide) ?_
    refine lv_aload_n hx hb dX2_figure_58 rfl (lv_at hl 0 rfl) ?_
    refine g_get CX HW in_X2_figure_2 0 1 rfl rfl (Nat.le_of_ble_eq_true rfl) fl_X2_figure_15 rfl dX2_figure_59 ?_
    exact g_iret CX HW rfl ⟨rfl, rfl⟩ dX2_figure_62
  · refine lv_tableIn (off := 62) (tgt := 63) hx hb dX2_figure_1 (by decide) (by decide) (by decide) (by decide) ?_
    refine lv_aload_n hx hb dX2_figure_63 rfl (lv_at hl 0 rfl) ?_
    refine g_get CX HW in_X2_figure_2 0 5 rfl rfl (Nat.le_of_ble_eq_true rfl) fl_X2_figure_31 rfl dX2_figure_64 ?_
    refine g_get CX HW in_X2_figure_0 4 0 rfl rfl (Nat.le_of_ble_eq_true rfl) fl_X2_figure_124 rfl dX2_figure_67 ?_
    exact g_iret CX HW rfl ⟨rfl, rfl⟩ dX2_figure_70
  · refine lv_tableIn (off := 70) (tgt := 71) hx hb dX2_figure_1 (by decide) (by decide) (by decide) (by decide) ?_
    refine lv_aload_n hx hb dX2_figure_71 rfl (lv_at hl 0 rfl) ?_
    refine g_get CX HW in_X2_figure_2 0 6 rfl rfl (Nat.le_of_ble_eq_true rfl) fl_X2_figure_38 rfl dX2_figure_72 ?_
    refine g_get CX HW in_X2_figure_1 9 0 rfl rfl (Nat.le_of_ble_eq_true rfl) fl_X2_figure_127 rfl dX2_figure_75 ?_
    exact g_iret CX HW rfl ⟨rfl, rfl⟩ dX2_figure_78
  · refine lv_tableIn (off := 78) (tgt := 79) hx hb dX2_figure_1 (by decide) (by decide) (by decide) (by decide) ?_
    refine lv_aload_n hx hb dX2_figure_79 rfl (lv_at hl 0 rfl) ?_
    refine g_get CX HW in_X2_figure_2 0 5 rfl rfl (Nat.le_of_ble_eq_true rfl) fl_X2_figure_31 rfl dX2_figure_80 ?_
    refine g_callV CX HW hl.1 (wVo cI a o (vh S) (vc S) (vA S 0) (vA S 1) (vA S 2)) (wS cI a (o + 9) (vs S) (vA S 7) (vA S 8) (vA S 9) (vA S 10) (vA S 11) (vA S 12) qt qp) (c_X0_flagged (o + 4) (vr S) (vA S 3) (vA S 4) (vA S 5) (vA S 6) hr6) rfl 0 rfl rfl gX2_figure_X0_flagged rfl ⟨rfl, hd_X0_flagged⟩ ⟨rfl, rfl, (Nat.le_of_ble_eq_true rfl), (Nat.le_of_ble_eq_true rfl)⟩ ⟨(Nat.zero_le _), (Nat.zero_le _)⟩ rfl rfl (Nat.le_of_ble_eq_true rfl) dX2_figure_83 (fun v w1 H locs hp HW => ?_)
    obtain ⟨rfl, rfl⟩ := hp
    have HW : Hw D A s (wVo cI a o (vh S) (vc S) (vA S 0) (vA S 1) (vA S 2) ++ (wR cI a (o + 4) (vr S) (vA S 3) (vA S 4) (vA S 5) (vA S 6) ++ (wS cI a (o + 9) (vs S) (vA S 7) (vA S 8) (vA S 9) (vA S 10) (vA S 11) (vA S 12) qt qp))) H locs := HW
    refine W.eq (g2 := F0 m 86 ls [.int (flagN (vA S 5) (vA S 4) (vr S))]) rfl ?_
    exact g_iret CX HW rfl ⟨rfl, rfl⟩ dX2_figure_86
  · refine lv_tableIn (off := 86) (tgt := 87) hx hb dX2_figure_1 (by decide) (by decide) (by decide) (by decide) ?_
    refine lv_aload_n hx hb dX2_figure_87 rfl (lv_at hl 0 rfl) ?_
    refine g_callV CX HW hl.1 ([]) ([]) (c_X2_allRides o S qt qp) rfl 0 rfl rfl gX2_figure_X2_allRides rfl ⟨rfl, hd_X2_allRides⟩ ⟨rfl, rfl, (Nat.le_of_ble_eq_true rfl), (Nat.le_of_ble_eq_true rfl)⟩ ⟨(Nat.zero_le _), (Nat.zero_le _)⟩ rfl rfl (Nat.le_of_ble_eq_true rfl) dX2_figure_88 (fun v w1 H locs hp HW => ?_)
    obtain ⟨rfl, rfl⟩ := hp
    have HW : Hw D A s (wVo cI a o (vh S) (vc S) (vA S 0) (vA S 1) (vA S 2) ++ (wR cI a (o + 4) (vr S) (vA S 3) (vA S 4) (vA S 5) (vA S 6) ++ (wS cI a (o + 9) (vs S) (vA S 7) (vA S 8) (vA S 9) (vA S 10) (vA S 11) (vA S 12) qt qp))) H locs := HW
    refine W.eq (g2 := F0 m 91 ls [.int (sumP S)]) rfl ?_
    exact g_iret CX HW rfl ⟨rfl, rfl⟩ dX2_figure_91
  · refine lv_tableIn (off := 91) (tgt := 92) hx hb dX2_figure_1 (by decide) (by decide) (by decide) (by decide) ?_
    refine lv_aload_n hx hb dX2_figure_92 rfl (lv_at hl 0 rfl) ?_
    refine g_get CX HW in_X2_figure_2 0 6 rfl rfl (Nat.le_of_ble_eq_true rfl) fl_X2_figure_38 rfl dX2_figure_93 ?_
    refine g_callV CX HW hl.1 (wVo cI a o (vh S) (vc S) (vA S 0) (vA S 1) (vA S 2) ++ (wR cI a (o + 4) (vr S) (vA S 3) (vA S 4) (vA S 5) (vA S 6))) ([]) (c_X1_waitingAnywhere (o + 9) (vs S) (vA S 7) (vA S 8) (vA S 9) (vA S 10) (vA S 11) (vA S 12) qt qp hn) rfl 0 rfl rfl gX2_figure_X1_waitingAnywhere rfl ⟨rfl, hd_X1_waitingAnywhere⟩ ⟨rfl, rfl, (Nat.le_of_ble_eq_true rfl), (Nat.le_of_ble_eq_true rfl)⟩ ⟨(Nat.zero_le _), (Nat.zero_le _)⟩ rfl rfl (Nat.le_of_ble_eq_true rfl) dX2_figure_96 (fun v w1 H locs hp HW => ?_)
    obtain ⟨rfl, rfl⟩ := hp
    have HW : Hw D A s (wVo cI a o (vh S) (vc S) (vA S 0) (vA S 1) (vA S 2) ++ (wR cI a (o + 4) (vr S) (vA S 3) (vA S 4) (vA S 5) (vA S 6) ++ (wS cI a (o + 9) (vs S) (vA S 7) (vA S 8) (vA S 9) (vA S 10) (vA S 11) (vA S 12) qt qp))) H locs := HW
    refine W.eq (g2 := F0 m 99 ls [.int (nI (cntN qt (vs S)))]) rfl ?_
    refine g_top (y := (nI ((vq S 0).length + (vq S 1).length + (vq S 2).length))) (by rw [rep_any hR]) ?_
    exact g_iret CX HW rfl ⟨rfl, rfl⟩ dX2_figure_99
  · refine lv_tableOut (tgt := 100) hx hb dX2_figure_1 (by decide) (by decide) ?_
    refine lv_aload_n hx hb dX2_figure_100 rfl (lv_at hl 0 rfl) ?_
    refine g_get CX HW in_X2_figure_2 0 6 rfl rfl (Nat.le_of_ble_eq_true rfl) fl_X2_figure_38 rfl dX2_figure_101 ?_
    refine g_callV CX HW hl.1 (wVo cI a o (vh S) (vc S) (vA S 0) (vA S 1) (vA S 2) ++ (wR cI a (o + 4) (vr S) (vA S 3) (vA S 4) (vA S 5) (vA S 6))) ([]) (c_X1_allPoints (o + 9) (vs S) (vA S 7) (vA S 8) (vA S 9) (vA S 10) (vA S 11) (vA S 12) qt qp hn) rfl 0 rfl rfl gX2_figure_X1_allPoints rfl ⟨rfl, hd_X1_allPoints⟩ ⟨rfl, rfl, (Nat.le_of_ble_eq_true rfl), (Nat.le_of_ble_eq_true rfl)⟩ ⟨(Nat.zero_le _), (Nat.zero_le _)⟩ rfl rfl (Nat.le_of_ble_eq_true rfl) dX2_figure_104 (fun v w1 H locs hp HW => ?_)
    obtain ⟨rfl, rfl⟩ := hp
    have HW : Hw D A s (wVo cI a o (vh S) (vc S) (vA S 0) (vA S 1) (vA S 2) ++ (wR cI a (o + 4) (vr S) (vA S 3) (vA S 4) (vA S 5) (vA S 6) ++ (wS cI a (o + 9) (vs S) (vA S 7) (vA S 8) (vA S 9) (vA S 10) (vA S 11) (vA S 12) qt qp))) H locs := HW
    refine W.eq (g2 := F0 m 107 ls [.int (sumN (vA S 11) (vs S))]) rfl ?_
    exact g_iret CX HW rfl ⟨rfl, rfl⟩ dX2_figure_107

theorem hd_X2_copyFrom : yX2_copyFrom.cls ≠ "java/lang/invoke/MethodHandle" ∧ yX2_copyFrom.cls ≠ "java/lang/invoke/VarHandle" ∧ (parseMethodDescriptor yX2_copyFrom.desc).map (fun d => d.parameters.length) = some 1 := by decide +kernel
theorem fl_X2_copyFrom_9 : Cond.fieldLink RX2 9 (TX2 0).1 (TX2 0).2.1 (TX2 0).2.2.1 ∈ wsX2_copyFrom := by decide +kernel
theorem in_X2_copyFrom_2 : ∀ x ∈ u_ws RX2 TX2 7, x ∈ wsX2_copyFrom := by decide +kernel
theorem fl_X2_copyFrom_15 : Cond.fieldLink RX2 15 (TX2 1).1 (TX2 1).2.1 (TX2 1).2.2.1 ∈ wsX2_copyFrom := by decide +kernel
theorem fl_X2_copyFrom_18 : Cond.fieldLink RX2 18 (TX2 2).1 (TX2 2).2.1 (TX2 2).2.2.1 ∈ wsX2_copyFrom := by decide +kernel
theorem sn_X2_copyFrom_X3_copyRow : Cond.initialized yX3_copyRow.cls ∈ wsX2_copyFrom ∧ Cond.static yX3_copyRow ∈ wsX2_copyFrom := ⟨by decide +kernel, by decide +kernel⟩
theorem fl_X2_copyFrom_22 : Cond.fieldLink RX2 22 (TX2 3).1 (TX2 3).2.1 (TX2 3).2.2.1 ∈ wsX2_copyFrom := by decide +kernel
theorem fl_X2_copyFrom_25 : Cond.fieldLink RX2 25 (TX2 4).1 (TX2 4).2.1 (TX2 4).2.2.1 ∈ wsX2_copyFrom := by decide +kernel
theorem fl_X2_copyFrom_31 : Cond.fieldLink RX2 31 (TX2 5).1 (TX2 5).2.1 (TX2 5).2.2.1 ∈ wsX2_copyFrom := by decide +kernel
theorem fl_X2_copyFrom_38 : Cond.fieldLink RX2 38 (TX2 6).1 (TX2 6).2.1 (TX2 6).2.2.1 ∈ wsX2_copyFrom := by decide +kernel
set_option maxRecDepth 100000 in
set_option maxHeartbeats 4000000 in
theorem c_X2_copyFrom {l : Launch} {D : va_G} {cI cL : ClassId} {a : Nat → Nat} (o2 : Nat) (o : Nat) (S : VS) (T : VS) (qt : Nat → Int32) (qp : Nat → Int32) (qt2 : Nat → Int32) (qp2 : Nat → Int32) : Ct l yX2_copyFrom wsX2_copyFrom { frames := 3, cells := 0, slots := 0, locals := 102 } D (ty2 cI cL) [.ref (a o), .ref (a o2)] (wVo cI a o2 (vh S) (vc S) (vA S 0) (vA S 1) (vA S 2) ++ (wVo cI a o (vh T) (vc T) (vA T 0) (vA T 1) (vA T 2) ++ (wR cI a (o2 + 4) (vr S) (vA S 3) (vA S 4) (vA S 5) (vA S 6) ++ (wR cI a (o + 4) (vr T) (vA T 3) (vA T 4) (vA T 5) (vA T 6) ++ (wS cI a (o2 + 9) (vs S) (vA S 7) (vA S 8) (vA S 9) (vA S 10) (vA S 11) (vA S 12) qt qp ++ (wS cI a (o + 9) (vs T) (vA T 7) (vA T 8) (vA T 9) (vA T 10) (vA T 11) (vA T 12) qt2 qp2)))))) (fun v w' => v = none ∧ w' = wVo cI a o2 (vh S) (vc S) (vA S 0) (vA S 1) (vA S 2) ++ (wVo cI a o (vh S) (vc S) (vA S 0) (vA S 1) (vA S 2) ++ (wR cI a (o2 + 4) (vr S) (vA S 3) (vA S 4) (vA S 5) (vA S 6) ++ (wR cI a (o + 4) (vr S) (vA S 3) (vA S 4) (vA S 5) (vA S 6) ++ (wS cI a (o2 + 9) (vs S) (vA S 7) (vA S 8) (vA S 9) (vA S 10) (vA S 11) (vA S 12) qt qp ++ (wS cI a (o + 9) (vs S) (vA S 7) (vA S 8) (vA S 9) (vA S 10) (vA S 11) (vA S 12) qt qp)))))) 0 0 := by
  refine Ct.of (cc := cX2_copyFrom) (maxL := 2) (ret := none) (by decide) rfl (Nat.le_of_ble_eq_true rfl) ?_
  intro p e s m below meth c A ls CX hin HW hl
  obtain ⟨hx, hb, hml, hr, hown, hts, hK, hA, hlk⟩ := id CX
  have hl : lv_has ls 2 [(0, .ref (a o)), (1, .ref (a o2))] := hl
  refine lv_aload_n hx hb dX2_copyFrom_0 rfl (lv_at hl 0 rfl) ?_
  refine lv_aload_n hx hb dX2_copyFrom_1 rfl (lv_at hl 1 rfl) ?_
  refine g_get CX HW in_X2_copyFrom_2 0 0 rfl rfl (Nat.le_of_ble_eq_true rfl) fl_X2_copyFrom_9 rfl dX2_copyFrom_2 ?_
  refine g_put CX HW in_X2_copyFrom_2 tyX2 tyX2_ok nmX2 4 0 rfl rfl (Nat.le_of_ble_eq_true rfl) fl_X2_copyFrom_9 rfl rfl rfl (Nat.le_of_ble_eq_true rfl) dX2_copyFrom_5 (fun H locs HW => ?_)
  have HW : Hw D A s (wVo cI a o2 (vh S) (vc S) (vA S 0) (vA S 1) (vA S 2) ++ (wVo cI a o (vh S) (vc T) (vA T 0) (vA T 1) (vA T 2) ++ (wR cI a (o2 + 4) (vr S) (vA S 3) (vA S 4) (vA S 5) (vA S 6) ++ (wR cI a (o + 4) (vr T) (vA T 3) (vA T 4) (vA T 5) (vA T 6) ++ (wS cI a (o2 + 9) (vs S) (vA S 7) (vA S 8) (vA S 9) (vA S 10) (vA S 11) (vA S 12) qt qp ++ (wS cI a (o + 9) (vs T) (vA T 7) (vA T 8) (vA T 9) (vA T 10) (vA T 11) (vA T 12) qt2 qp2)))))) H locs := HW
  refine lv_aload_n hx hb dX2_copyFrom_8 rfl (lv_at hl 0 rfl) ?_
  refine lv_aload_n hx hb dX2_copyFrom_9 rfl (lv_at hl 1 rfl) ?_
  refine g_get CX HW in_X2_copyFrom_2 0 1 rfl rfl (Nat.le_of_ble_eq_true rfl) fl_X2_copyFrom_15 rfl dX2_copyFrom_10 ?_
  refine g_put CX HW in_X2_copyFrom_2 tyX2 tyX2_ok nmX2 4 1 rfl rfl (Nat.le_of_ble_eq_true rfl) fl_X2_copyFrom_15 rfl rfl rfl (Nat.le_of_ble_eq_true rfl) dX2_copyFrom_13 (fun H locs HW => ?_)
  have HW : Hw D A s (wVo cI a o2 (vh S) (vc S) (vA S 0) (vA S 1) (vA S 2) ++ (wVo cI a o (vh S) (vc S) (vA T 0) (vA T 1) (vA T 2) ++ (wR cI a (o2 + 4) (vr S) (vA S 3) (vA S 4) (vA S 5) (vA S 6) ++ (wR cI a (o + 4) (vr T) (vA T 3) (vA T 4) (vA T 5) (vA T 6) ++ (wS cI a (o2 + 9) (vs S) (vA S 7) (vA S 8) (vA S 9) (vA S 10) (vA S 11) (vA S 12) qt qp ++ (wS cI a (o + 9) (vs T) (vA T 7) (vA T 8) (vA T 9) (vA T 10) (vA T 11) (vA T 12) qt2 qp2)))))) H locs := HW
  refine lv_aload_n hx hb dX2_copyFrom_16 rfl (lv_at hl 1 rfl) ?_
  refine g_get CX HW in_X2_copyFrom_2 0 2 rfl rfl (Nat.le_of_ble_eq_true rfl) fl_X2_copyFrom_18 rfl dX2_copyFrom_17 ?_
  refine lv_aload_n hx hb dX2_copyFrom_20 rfl (lv_at hl 0 rfl) ?_
  refine g_get CX HW in_X2_copyFrom_2 4 2 rfl rfl (Nat.le_of_ble_eq_true rfl) fl_X2_copyFrom_18 rfl dX2_copyFrom_21 ?_
  refine g_callSN (host := "PommelTows") CX HW hl.1 [] [] (c_X3_copyRow (wVo cI a o2 (vh S) (vc S) (vA S 0) (vA S 1) (vA S 2) ++ (wVo cI a o (vh S) (vc S) (vA T 0) (vA T 1) (vA T 2) ++ (wR cI a (o2 + 4) (vr S) (vA S 3) (vA S 4) (vA S 5) (vA S 6) ++ (wR cI a (o + 4) (vr T) (vA T 3) (vA T 4) (vA T 5) (vA T 6) ++ (wS cI a (o2 + 9) (vs S) (vA S 7) (vA S 8) (vA S 9) (vA S 10) (vA S 11) (vA S 12) qt qp ++ (wS cI a (o + 9) (vs T) (vA T 7) (vA T 8) (vA T 9) (vA T 10) (vA T 11) (vA T 12) qt2 qp2)))))) (a (o2 + 1)) (a (o + 1)) 1 5 6 (vA S 0) (vA T 0) rfl rfl (Nat.le_of_ble_eq_true rfl)) (List.append_nil _).symm gX2_copyFrom_X3_copyRow_n42 sn_X2_copyFrom_X3_copyRow (by decide +kernel) rfl hd_X3_copyRow ⟨rfl, rfl, (Nat.le_of_ble_eq_true rfl), (Nat.le_of_ble_eq_true rfl)⟩ ⟨(Nat.zero_le _), (Nat.zero_le _)⟩ rfl rfl (Nat.le_of_ble_eq_true rfl) dX2_copyFrom_24 (fun v w1 H locs hp HW => ?_)
  obtain ⟨rfl, rfl⟩ := hp
  have HW : Hw D A s (wVo cI a o2 (vh S) (vc S) (vA S 0) (vA S 1) (vA S 2) ++ (wVo cI a o (vh S) (vc S) (vA S 0) (vA T 1) (vA T 2) ++ (wR cI a (o2 + 4) (vr S) (vA S 3) (vA S 4) (vA S 5) (vA S 6) ++ (wR cI a (o + 4) (vr T) (vA T 3) (vA T 4) (vA T 5) (vA T 6) ++ (wS cI a (o2 + 9) (vs S) (vA S 7) (vA S 8) (vA S 9) (vA S 10) (vA S 11) (vA S 12) qt qp ++ (wS cI a (o + 9) (vs T) (vA T 7) (vA T 8) (vA T 9) (vA T 10) (vA T 11) (vA T 12) qt2 qp2)))))) H locs := HW
  refine W.eq (g2 := F0 m 27 ls []) rfl ?_
  refine lv_aload_n hx hb dX2_copyFrom_27 rfl (lv_at hl 1 rfl) ?_
  refine g_get CX HW in_X2_copyFrom_2 0 3 rfl rfl (Nat.le_of_ble_eq_true rfl) fl_X2_copyFrom_22 rfl dX2_copyFrom_28 ?_
  refine lv_aload_n hx hb dX2_copyFrom_31 rfl (lv_at hl 0 rfl) ?_
  refine g_get CX HW in_X2_copyFrom_2 4 3 rfl rfl (Nat.le_of_ble_eq_true rfl) fl_X2_copyFrom_22 rfl dX2_copyFrom_32 ?_
  refine g_callSN (host := "PommelTows") CX HW hl.1 [] [] (c_X3_copyRow (wVo cI a o2 (vh S) (vc S) (vA S 0) (vA S 1) (vA S 2) ++ (wVo cI a o (vh S) (vc S) (vA S 0) (vA T 1) (vA T 2) ++ (wR cI a (o2 + 4) (vr S) (vA S 3) (vA S 4) (vA S 5) (vA S 6) ++ (wR cI a (o + 4) (vr T) (vA T 3) (vA T 4) (vA T 5) (vA T 6) ++ (wS cI a (o2 + 9) (vs S) (vA S 7) (vA S 8) (vA S 9) (vA S 10) (vA S 11) (vA S 12) qt qp ++ (wS cI a (o + 9) (vs T) (vA T 7) (vA T 8) (vA T 9) (vA T 10) (vA T 11) (vA T 12) qt2 qp2)))))) (a (o2 + 2)) (a (o + 2)) 2 6 3 (vA S 1) (vA T 1) rfl rfl (Nat.le_of_ble_eq_true rfl)) (List.append_nil _).symm gX2_copyFrom_X3_copyRow_n42 sn_X2_copyFrom_X3_copyRow (by decide +kernel) rfl hd_X3_copyRow ⟨rfl, rfl, (Nat.le_of_ble_eq_true rfl), (Nat.le_of_ble_eq_true rfl)⟩ ⟨(Nat.zero_le _), (Nat.zero_le _)⟩ rfl rfl (Nat.le_of_ble_eq_true rfl) dX2_copyFrom_35 (fun v w1 H locs hp HW => ?_)
  obtain ⟨rfl, rfl⟩ := hp
  have HW : Hw D A s (wVo cI a o2 (vh S) (vc S) (vA S 0) (vA S 1) (vA S 2) ++ (wVo cI a o (vh S) (vc S) (vA S 0) (vA S 1) (vA T 2) ++ (wR cI a (o2 + 4) (vr S) (vA S 3) (vA S 4) (vA S 5) (vA S 6) ++ (wR cI a (o + 4) (vr T) (vA T 3) (vA T 4) (vA T 5) (vA T 6) ++ (wS cI a (o2 + 9) (vs S) (vA S 7) (vA S 8) (vA S 9) (vA S 10) (vA S 11) (vA S 12) qt qp ++ (wS cI a (o + 9) (vs T) (vA T 7) (vA T 8) (vA T 9) (vA T 10) (vA T 11) (vA T 12) qt2 qp2)))))) H locs := HW
  refine W.eq (g2 := F0 m 38 ls []) rfl ?_
  refine lv_aload_n hx hb dX2_copyFrom_38 rfl (lv_at hl 1 rfl) ?_
  refine g_get CX HW in_X2_copyFrom_2 0 4 rfl rfl (Nat.le_of_ble_eq_true rfl) fl_X2_copyFrom_25 rfl dX2_copyFrom_39 ?_
  refine lv_aload_n hx hb dX2_copyFrom_42 rfl (lv_at hl 0 rfl) ?_
  refine g_get CX HW in_X2_copyFrom_2 4 4 rfl rfl (Nat.le_of_ble_eq_true rfl) fl_X2_copyFrom_25 rfl dX2_copyFrom_43 ?_
  refine g_callSN (host := "PommelTows") CX HW hl.1 [] [] (c_X3_copyRow (wVo cI a o2 (vh S) (vc S) (vA S 0) (vA S 1) (vA S 2) ++ (wVo cI a o (vh S) (vc S) (vA S 0) (vA S 1) (vA T 2) ++ (wR cI a (o2 + 4) (vr S) (vA S 3) (vA S 4) (vA S 5) (vA S 6) ++ (wR cI a (o + 4) (vr T) (vA T 3) (vA T 4) (vA T 5) (vA T 6) ++ (wS cI a (o2 + 9) (vs S) (vA S 7) (vA S 8) (vA S 9) (vA S 10) (vA S 11) (vA S 12) qt qp ++ (wS cI a (o + 9) (vs T) (vA T 7) (vA T 8) (vA T 9) (vA T 10) (vA T 11) (vA T 12) qt2 qp2)))))) (a (o2 + 3)) (a (o + 3)) 3 7 3 (vA S 2) (vA T 2) rfl rfl (Nat.le_of_ble_eq_true rfl)) (List.append_nil _).symm gX2_copyFrom_X3_copyRow_n42 sn_X2_copyFrom_X3_copyRow (by decide +kernel) rfl hd_X3_copyRow ⟨rfl, rfl, (Nat.le_of_ble_eq_true rfl), (Nat.le_of_ble_eq_true rfl)⟩ ⟨(Nat.zero_le _), (Nat.zero_le _)⟩ rfl rfl (Nat.le_of_ble_eq_true rfl) dX2_copyFrom_46 (fun v w1 H locs hp HW => ?_)
  obtain ⟨rfl, rfl⟩ := hp
  have HW : Hw D A s (wVo cI a o2 (vh S) (vc S) (vA S 0) (vA S 1) (vA S 2) ++ (wVo cI a o (vh S) (vc S) (vA S 0) (vA S 1) (vA S 2) ++ (wR cI a (o2 + 4) (vr S) (vA S 3) (vA S 4) (vA S 5) (vA S 6) ++ (wR cI a (o + 4) (vr T) (vA T 3) (vA T 4) (vA T 5) (vA T 6) ++ (wS cI a (o2 + 9) (vs S) (vA S 7) (vA S 8) (vA S 9) (vA S 10) (vA S 11) (vA S 12) qt qp ++ (wS cI a (o + 9) (vs T) (vA T 7) (vA T 8) (vA T 9) (vA T 10) (vA T 11) (vA T 12) qt2 qp2)))))) H locs := HW
  refine W.eq (g2 := F0 m 49 ls []) rfl ?_
  refine lv_aload_n hx hb dX2_copyFrom_49 rfl (lv_at hl 0 rfl) ?_
  refine g_get CX HW in_X2_copyFrom_2 4 5 rfl rfl (Nat.le_of_ble_eq_true rfl) fl_X2_copyFrom_31 rfl dX2_copyFrom_50 ?_
  refine lv_aload_n hx hb dX2_copyFrom_53 rfl (lv_at hl 1 rfl) ?_
  refine g_get CX HW in_X2_copyFrom_2 0 5 rfl rfl (Nat.le_of_ble_eq_true rfl) fl_X2_copyFrom_31 rfl dX2_copyFrom_54 ?_
  refine g_callV CX HW hl.1 (wVo cI a o2 (vh S) (vc S) (vA S 0) (vA S 1) (vA S 2) ++ (wVo cI a o (vh S) (vc S) (vA S 0) (vA S 1) (vA S 2))) (wS cI a (o2 + 9) (vs S) (vA S 7) (vA S 8) (vA S 9) (vA S 10) (vA S 11) (vA S 12) qt qp ++ (wS cI a (o + 9) (vs T) (vA T 7) (vA T 8) (vA T 9) (vA T 10) (vA T 11) (vA T 12) qt2 qp2)) (c_X0_copyFrom (o2 + 4) (o + 4) (vr S) (vA S 3) (vA S 4) (vA S 5) (vA S 6) (vr T) (vA T 3) (vA T 4) (vA T 5) (vA T 6)) rfl 5 rfl rfl gX2_copyFrom_X0_copyFrom rfl ⟨rfl, hd_X0_copyFrom⟩ ⟨rfl, rfl, (Nat.le_of_ble_eq_true rfl), (Nat.le_of_ble_eq_true rfl)⟩ ⟨(Nat.zero_le _), (Nat.zero_le _)⟩ rfl rfl (Nat.le_of_ble_eq_true rfl) dX2_copyFrom_57 (fun v w1 H locs hp HW => ?_)
  obtain ⟨rfl, rfl⟩ := hp
  have HW : Hw D A s (wVo cI a o2 (vh S) (vc S) (vA S 0) (vA S 1) (vA S 2) ++ (wVo cI a o (vh S) (vc S) (vA S 0) (vA S 1) (vA S 2) ++ (wR cI a (o2 + 4) (vr S) (vA S 3) (vA S 4) (vA S 5) (vA S 6) ++ (wR cI a (o + 4) (vr S) (vA S 3) (vA S 4) (vA S 5) (vA S 6) ++ (wS cI a (o2 + 9) (vs S) (vA S 7) (vA S 8) (vA S 9) (vA S 10) (vA S 11) (vA S 12) qt qp ++ (wS cI a (o + 9) (vs T) (vA T 7) (vA T 8) (vA T 9) (vA T 10) (vA T 11) (vA T 12) qt2 qp2)))))) H locs := HW
  refine W.eq (g2 := F0 m 60 ls []) rfl ?_
  refine lv_aload_n hx hb dX2_copyFrom_60 rfl (lv_at hl 0 rfl) ?_
  refine g_get CX HW in_X2_copyFrom_2 4 6 rfl rfl (Nat.le_of_ble_eq_true rfl) fl_X2_copyFrom_38 rfl dX2_copyFrom_61 ?_
  refine lv_aload_n hx hb dX2_copyFrom_64 rfl (lv_at hl 1 rfl) ?_
  refine g_get CX HW in_X2_copyFrom_2 0 6 rfl rfl (Nat.le_of_ble_eq_true rfl) fl_X2_copyFrom_38 rfl dX2_copyFrom_65 ?_
  refine g_callV CX HW hl.1 (wVo cI a o2 (vh S) (vc S) (vA S 0) (vA S 1) (vA S 2) ++ (wVo cI a o (vh S) (vc S) (vA S 0) (vA S 1) (vA S 2) ++ (wR cI a (o2 + 4) (vr S) (vA S 3) (vA S 4) (vA S 5) (vA S 6) ++ (wR cI a (o + 4) (vr S) (vA S 3) (vA S 4) (vA S 5) (vA S 6))))) ([]) (c_X1_copyFrom (o2 + 9) (o + 9) (vs S) (vA S 7) (vA S 8) (vA S 9) (vA S 10) (vA S 11) (vA S 12) qt qp (vs T) (vA T 7) (vA T 8) (vA T 9) (vA T 10) (vA T 11) (vA T 12) qt2 qp2) rfl 9 rfl rfl gX2_copyFrom_X1_copyFrom rfl ⟨rfl, hd_X1_copyFrom⟩ ⟨rfl, rfl, (Nat.le_of_ble_eq_true rfl), (Nat.le_of_ble_eq_true rfl)⟩ ⟨(Nat.zero_le _), (Nat.zero_le _)⟩ rfl rfl (Nat.le_of_ble_eq_true rfl) dX2_copyFrom_68 (fun v w1 H locs hp HW => ?_)
  obtain ⟨rfl, rfl⟩ := hp
  have HW : Hw D A s (wVo cI a o2 (vh S) (vc S) (vA S 0) (vA S 1) (vA S 2) ++ (wVo cI a o (vh S) (vc S) (vA S 0) (vA S 1) (vA S 2) ++ (wR cI a (o2 + 4) (vr S) (vA S 3) (vA S 4) (vA S 5) (vA S 6) ++ (wR cI a (o + 4) (vr S) (vA S 3) (vA S 4) (vA S 5) (vA S 6) ++ (wS cI a (o2 + 9) (vs S) (vA S 7) (vA S 8) (vA S 9) (vA S 10) (vA S 11) (vA S 12) qt qp ++ (wS cI a (o + 9) (vs S) (vA S 7) (vA S 8) (vA S 9) (vA S 10) (vA S 11) (vA S 12) qt qp)))))) H locs := HW
  refine W.eq (g2 := F0 m 71 ls []) rfl ?_
  exact g_vret CX HW rfl ⟨rfl, rfl⟩ dX2_copyFrom_71
