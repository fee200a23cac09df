section SndE
variable {p : Program} {l : Launch} {e : Env} {R : Room} {s : State} {m : MethodId} {args : Array Value} {below : List Frame} {meth : Method} {c : Code} {Q : State → Prop} {q : CN} {n0 u0 k d : Nat} {E : Nat × Nat} {CC : Nat → List Value → GT → IT → JT → KT → Prop} {K : KT} {pc len : Nat} {L st : List Value} {G : GT} {I : IT} {J : JT} {i : Instr} {H : Heap}
theorem w_gets {x : Nat} (hpl : Cond.fieldLink (cnm 6) 256 "TruthWalk" "PATTERNS" "[J" ∈ lw_good) (cx : Cx p R s m args meth c q k d E n0 u0) (hd : decode (byt k) pc = .ok (.getstatic x, 3)) (h : sP CC K (PW p l e R s m args below meth c Q q E n0 u0 k) G I J (if ocl k = 6 ∧ x = 256 then rN (pc + 3) L (.ref patC :: st) G I J else none)) : PW p l e R s m args below meth c Q q E n0 u0 k pc L st G I J := by
  obtain ⟨hx, hb, hml, hown, hts, hK, hN, hR, hE, hct⟩ := cx
  split at h
  · rename_i hh
    obtain ⟨ho, rfl⟩ := hh
    intro H locs ls hr hv hL hS h1 h2
    have kk := sP_n h H locs ls hr hv hL hS h1 h2
    rw [ho] at hown
    exact va_gets (ref := "TruthWalk") hx hb hK.2.2.1 hS hown (hts _ hpl) (fun y hy => hy) hd kk
  · exact sP_no h
theorem cs_eq {a b x y : Nat} {locs : List Loc} {g : JFrame} (h1 : a = x) (h2 : b = y) (h : W p l e R s m args below meth c H locs x y Q g) : W p l e R s m args below meth c H locs a b Q g := by subst h1; subst h2; exact h
set_option maxHeartbeats 4000000 in
theorem w_new {x : Nat} (cx : Cx p R s m args meth c q k d E n0 u0) (hd : decode (byt k) pc = .ok (.new x, 3)) (h : sP CC K (PW p l e R s m args below meth c Q q E n0 u0 k) G I J (doNew pc (newT (ocl k) x) L st G I J E)) : PW p l e R s m args below meth c Q q E n0 u0 k pc L st G I J := by
  obtain ⟨hx, hb, hml, hown, hts, hK, hN, ⟨hR1, hR2, hR3, hR4⟩, ⟨hE1, hE2⟩, hct⟩ := cx
  cases hf : newT (ocl k) x with
  | none => rw [hf] at h; exact sP_no h
  | some ci =>
    rw [hf] at h
    obtain ⟨hci, hcl, hinst, hini⟩ := new_ok hf
    obtain ⟨hc, hin, hnm, hpf⟩ := cls_all ci hci
    obtain ⟨⟨hg1, hg2⟩, h⟩ := sP_gte.mp h
    intro H locs ls hr hv hL hS h1 h2
    have hfs : ∀ j, j < nfs ci → defaultValue (FT ci j) = vp_V ((List.range (nfs ci)).map (fvE q.hb q.b q.t (newO G ci) (up1 I G.1 (fun _ => 0)) G.1 ci)) j := by
      intro j hj
      unfold vp_V
      rw [List.getD_eq_getElem?_getD, List.getElem?_map, List.getElem?_range hj]
      show _ = fvE q.hb q.b q.t (newO G ci) (up1 I G.1 (fun _ => 0)) G.1 ci j
      have hz1 : (newO G ci).2.2.2 G.1 j = none := by show up1 G.2.2.2 G.1 (fun _ => none) G.1 j = none; rw [up1_at]
      have hz2 : up1 I G.1 (fun _ => (0 : Int32)) G.1 j = 0 := by rw [up1_at]
      unfold fvE
      rw [hz1, hz2]
      rcases fty_cases hci hj with ⟨z1, z2⟩ | ⟨z1, z2⟩ | ⟨z1, ⟨w, z2⟩ | ⟨w, z2⟩⟩ <;> rw [z1, z2] <;> rfl
    refine va_new (fs := (List.range (nfs ci)).map (fvE q.hb q.b q.t (newO G ci) (up1 I G.1 (fun _ => 0)) G.1 ci)) hx hb hts hin (FT ci) hpf hown (hts _ hcl) (hts _ hinst) (hts _ hini) hK.1 hr.1 wl_D hS (fun y hy => by show q.hb ≤ y; omega) hc hfs (by omega) (by omega) hd (fun a H1 hP1 hD1 hS1 => W.sized (fun hz => ?_))
    have ha := new_at hP1 hD1 hz (by omega)
    subst ha
    refine cs_eq (x := (newO G ci).1 - n0) (y := (newO G ci).2.1 - u0) (by show _ = G.1 + 1 - n0; omega) (by show _ = G.2.1 + nfs ci - u0; omega) ?_
    have hR : Rel q (newO G ci) (up1 I G.1 (fun _ => 0)) J H1 := rel_new hr rfl (by omega) (by omega) (fun b hb => up1_off hb) (fun b hb => rfl) (cE_obj (by show up1 G.2.2.1 G.1 (0, ci) G.1 = _; rw [up1_at])) hP1
    have kk := sP_n h H1 locs ls hR hv hL hS1 ⟨by show n0 ≤ G.1 + 1; omega, hg1⟩ ⟨by show u0 ≤ G.2.1 + nfs ci; omega, hg2⟩
    refine W.eq (g2 := F0 m (pc + 3) ls ((Value.ref G.1 :: st).map (vmp q.hb q.b q.t))) ?_ kk
    show F0 m (pc + 3) ls (.ref (q.hb + G.1) :: st.map (vmp q.hb q.b q.t)) = F0 m (pc + 3) ls (.ref (adr q.hb q.b q.t G.1) :: st.map (vmp q.hb q.b q.t))
    rw [adr_own hR (show G.1 < (newO G ci).1 from Nat.lt_succ_self _)]
theorem arr_cls {ty : FieldType} {cA cB : ClassId} (hp : ∀ C, ty ≠ .object C) (h1 : va_RA s cA ty) (h2 : va_RA s cB ty) : cA = cB := by
  unfold va_RA at h1 h2
  split at h1
  · exact absurd rfl (hp _)
  · split at h2
    · exact absurd rfl (hp _)
    · exact Option.some.inj (h1.symm.trans h2)
set_option maxHeartbeats 4000000 in
theorem w_newa {ty : ArrayType} (har : Cond.arrayClass .int ∈ lw_good ∧ Cond.arrayClass .long ∈ lw_good ∧ Cond.arrayClass .boolean ∈ lw_good) (cx : Cx p R s m args meth c q k d E n0 u0) (hd : decode (byt k) pc = .ok (.newarray ty, 2)) (h : sP CC K (PW p l e R s m args below meth c Q q E n0 u0 k) G I J (doNewA pc ty L st G I J E)) : PW p l e R s m args below meth c Q q E n0 u0 k pc L st G I J := by
  obtain ⟨hx, hb, hml, hown, hts, hK, hN, ⟨hR1, hR2, hR3, hR4⟩, ⟨hE1, hE2⟩, hct⟩ := cx
  unfold doNewA at h
  split at h
  · rename_i x r
    obtain ⟨⟨h0, hN0, hg1, hg2⟩, h⟩ := sP_gte.mp h
    intro H locs ls hr hv hL hS h1 h2
    refine va_newa (atype := .int) (ty := .int) (a0 := (x.toNatClampNeg, .inl (fun _ => 0))) hx hb (hts _ har.1) rfl hK.1 hr.1 wl_D hS (fun y hy => by show q.hb ≤ y; omega) (fun cA => rfl) h0 rfl (by show x.toNatClampNeg * 4 ≤ _; omega) (by omega) (by omega) hd (fun a cA H1 hK1 hP1 hD1 hS1 => W.sized (fun hz => ?_))
    have ha := new_at hP1 hD1 hz (by omega)
    subst ha
    have hcA : cA = q.2.1.1 := arr_cls (ty := .int) (fun C h => by cases h) (hK1.2 4 (cA, .int) rfl).2 (hK.1.2 0 (q.2.1.1, .int) rfl).2
    subst hcA
    refine cs_eq (x := (newA G 1 x.toNatClampNeg).1 - n0) (y := (newA G 1 x.toNatClampNeg).2.1 - u0) (by show _ = G.1 + 1 - n0; omega) (by show _ = G.2.1 + _ - u0; omega) ?_
    have hs : (newA G 1 x.toNatClampNeg).2.2.1 G.1 = (1, x.toNatClampNeg) := by show up1 G.2.2.1 G.1 _ G.1 = _; rw [up1_at]
    have hR : Rel q (newA G 1 x.toNatClampNeg) (up1 I G.1 (fun _ => 0)) J H1 := rel_new hr rfl (by omega) (by omega) (fun b hb => up1_off hb) (fun b hb => rfl) (by rw [cE_1 (by rw [hs]), hs, up1_at]) hP1
    have kk := sP_n h H1 locs ls hR hv hL hS1 ⟨by show n0 ≤ G.1 + 1; omega, hg1⟩ ⟨by show u0 ≤ G.2.1 + _; omega, hg2⟩
    refine W.eq (g2 := F0 m (pc + 2) ls ((Value.ref G.1 :: r).map (vmp q.hb q.b q.t))) ?_ kk
    show F0 m (pc + 2) ls (.ref (q.hb + G.1) :: r.map (vmp q.hb q.b q.t)) = F0 m (pc + 2) ls (.ref (adr q.hb q.b q.t G.1) :: r.map (vmp q.hb q.b q.t))
    rw [adr_own hR (show G.1 < (newA G 1 x.toNatClampNeg).1 from Nat.lt_succ_self _)]
  · rename_i x r
    obtain ⟨⟨h0, hN0, hg1, hg2⟩, h⟩ := sP_gte.mp h
    intro H locs ls hr hv hL hS h1 h2
    refine va_newa (atype := .boolean) (ty := .boolean) (a0 := (x.toNatClampNeg, .inl (fun _ => 0))) hx hb (hts _ har.2.2) rfl hK.1 hr.1 wl_D hS (fun y hy => by show q.hb ≤ y; omega) (fun cA => rfl) h0 rfl (by show x.toNatClampNeg * 1 ≤ _; omega) (by omega) (by omega) hd (fun a cA H1 hK1 hP1 hD1 hS1 => W.sized (fun hz => ?_))
    have ha := new_at hP1 hD1 hz (by omega)
    subst ha
    have hcA : cA = q.2.1.2.2.1 := arr_cls (ty := .boolean) (fun C h => by cases h) (hK1.2 4 (cA, .boolean) rfl).2 (hK.1.2 2 (q.2.1.2.2.1, .boolean) rfl).2
    subst hcA
    refine cs_eq (x := (newA G 3 x.toNatClampNeg).1 - n0) (y := (newA G 3 x.toNatClampNeg).2.1 - u0) (by show _ = G.1 + 1 - n0; omega) (by show _ = G.2.1 + _ - u0; omega) ?_
    have hs : (newA G 3 x.toNatClampNeg).2.2.1 G.1 = (3, x.toNatClampNeg) := by show up1 G.2.2.1 G.1 _ G.1 = _; rw [up1_at]
    have hR : Rel q (newA G 3 x.toNatClampNeg) (up1 I G.1 (fun _ => 0)) J H1 := rel_new hr rfl (by omega) (by omega) (fun b hb => up1_off hb) (fun b hb => rfl) (by rw [cE_3 (by rw [hs]), hs, up1_at]) hP1
    have kk := sP_n h H1 locs ls hR hv hL hS1 ⟨by show n0 ≤ G.1 + 1; omega, hg1⟩ ⟨by show u0 ≤ G.2.1 + _; omega, hg2⟩
    refine W.eq (g2 := F0 m (pc + 2) ls ((Value.ref G.1 :: r).map (vmp q.hb q.b q.t))) ?_ kk
    show F0 m (pc + 2) ls (.ref (q.hb + G.1) :: r.map (vmp q.hb q.b q.t)) = F0 m (pc + 2) ls (.ref (adr q.hb q.b q.t G.1) :: r.map (vmp q.hb q.b q.t))
    rw [adr_own hR (show G.1 < (newA G 3 x.toNatClampNeg).1 from Nat.lt_succ_self _)]
  · rename_i x r
    obtain ⟨⟨h0, hN0, hg1, hg2⟩, h⟩ := sP_gte.mp h
    intro H locs ls hr hv hL hS h1 h2
    refine va_newa (atype := .long) (ty := .long) (a0 := (x.toNatClampNeg, .inr (.inl (fun _ => 0)))) hx hb (hts _ har.2.1) rfl hK.1 hr.1 wl_D hS (fun y hy => by show q.hb ≤ y; omega) (fun cA => rfl) h0 rfl (by show x.toNatClampNeg * 8 ≤ _; omega) (by omega) (by omega) hd (fun a cA H1 hK1 hP1 hD1 hS1 => W.sized (fun hz => ?_))
    have ha := new_at hP1 hD1 hz (by omega)
    subst ha
    have hcA : cA = q.2.1.2.1 := arr_cls (ty := .long) (fun C h => by cases h) (hK1.2 4 (cA, .long) rfl).2 (hK.1.2 1 (q.2.1.2.1, .long) rfl).2
    subst hcA
    refine cs_eq (x := (newA G 2 x.toNatClampNeg).1 - n0) (y := (newA G 2 x.toNatClampNeg).2.1 - u0) (by show _ = G.1 + 1 - n0; omega) (by show _ = G.2.1 + _ - u0; omega) ?_
    have hs : (newA G 2 x.toNatClampNeg).2.2.1 G.1 = (2, x.toNatClampNeg) := by show up1 G.2.2.1 G.1 _ G.1 = _; rw [up1_at]
    have hR : Rel q (newA G 2 x.toNatClampNeg) I (up1 J G.1 (fun _ => 0)) H1 := rel_new hr rfl (by omega) (by omega) (fun b hb => rfl) (fun b hb => up1_off hb) (by rw [cE_2 (by rw [hs]), hs, up1_at]) hP1
    have kk := sP_n h H1 locs ls hR hv hL hS1 ⟨by show n0 ≤ G.1 + 1; omega, hg1⟩ ⟨by show u0 ≤ G.2.1 + _; omega, hg2⟩
    refine W.eq (g2 := F0 m (pc + 2) ls ((Value.ref G.1 :: r).map (vmp q.hb q.b q.t))) ?_ kk
    show F0 m (pc + 2) ls (.ref (q.hb + G.1) :: r.map (vmp q.hb q.b q.t)) = F0 m (pc + 2) ls (.ref (adr q.hb q.b q.t G.1) :: r.map (vmp q.hb q.b q.t))
    rw [adr_own hR (show G.1 < (newA G 2 x.toNatClampNeg).1 from Nat.lt_succ_self _)]
  · exact sP_no h
set_option maxHeartbeats 4000000 in
theorem w_newq {y : Nat} (cx : Cx p R s m args meth c q k d E n0 u0) (hd : decode (byt k) pc = .ok (.anewarray y, 3)) (h : sP CC K (PW p l e R s m args below meth c Q q E n0 u0 k) G I J (doNewQ pc (newT (ocl k) y) L st G I J E)) : PW p l e R s m args below meth c Q q E n0 u0 k pc L st G I J := by
  obtain ⟨hx, hb, hml, hown, hts, hK, hN, ⟨hR1, hR2, hR3, hR4⟩, ⟨hE1, hE2⟩, hct⟩ := cx
  cases hf : newT (ocl k) y with
  | none => rw [hf] at h; exact sP_no h
  | some ci =>
    rw [hf] at h
    unfold doNewQ at h
    split at h
    · rename_i x r e1
      cases e1
      obtain ⟨-, hcl, -, -⟩ := new_ok hf
      obtain ⟨⟨h0, hN0, hg1, hg2⟩, h⟩ := sP_gte.mp h
      intro H locs ls hr hv hL hS h1 h2
      refine va_newq (C := "TruthWalk$Level") hx hb hown (hts _ hcl) hN.2 hK.1 hr.1 wl_D hS (fun y hy => by show q.hb ≤ y; omega) h0 rfl (by omega) (by omega) (by omega) hd (fun a cA H1 hK1 hP1 hD1 hS1 => W.sized (fun hz => ?_))
      have ha := new_at hP1 hD1 hz (by omega)
      subst ha
      have hcA : cA = q.2.1.2.2.2 := by
        obtain ⟨kA, comp, -, -, -, z1⟩ := (hK1.2 4 (cA, .object "TruthWalk$Level") rfl).2
        obtain ⟨kB, comq, -, -, -, z2⟩ := (hK.1.2 3 (q.2.1.2.2.2, .object "TruthWalk$Level") rfl).2
        exact Option.some.inj (z1.symm.trans z2)
      subst hcA
      refine cs_eq (x := (newA G 4 x.toNatClampNeg).1 - n0) (y := (newA G 4 x.toNatClampNeg).2.1 - u0) (by show _ = G.1 + 1 - n0; omega) (by show _ = G.2.1 + _ - u0; omega) ?_
      have hs : (newA G 4 x.toNatClampNeg).2.2.1 G.1 = (4, x.toNatClampNeg) := by show up1 G.2.2.1 G.1 _ G.1 = _; rw [up1_at]
      have hR : Rel q (newA G 4 x.toNatClampNeg) I J H1 := rel_new hr rfl (by omega) (by omega) (fun b hb => rfl) (fun b hb => rfl) (by
        rw [cE_4 (by rw [hs]), hs]
        have hz : (fun k => ((newA G 4 x.toNatClampNeg).2.2.2 G.1 k).map (adr q.hb q.b q.t)) = fun _ => none := by
          funext z
          show (up1 G.2.2.2 G.1 (fun _ => none) G.1 z).map _ = none
          rw [up1_at]
          rfl
        rw [hz]) hP1
      have kk := sP_n h H1 locs ls hR hv hL hS1 ⟨by show n0 ≤ G.1 + 1; omega, hg1⟩ ⟨by show u0 ≤ G.2.1 + _; omega, hg2⟩
      refine W.eq (g2 := F0 m (pc + 3) ls ((Value.ref G.1 :: r).map (vmp q.hb q.b q.t))) ?_ kk
      show F0 m (pc + 3) ls (.ref (q.hb + G.1) :: r.map (vmp q.hb q.b q.t)) = F0 m (pc + 3) ls (.ref (adr q.hb q.b q.t G.1) :: r.map (vmp q.hb q.b q.t))
      rw [adr_own hR (show G.1 < (newA G 4 x.toNatClampNeg).1 from Nat.lt_succ_self _)]
    · exact sP_no h
end SndE
