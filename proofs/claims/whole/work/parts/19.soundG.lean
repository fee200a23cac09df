section SndG
variable {p : Program} {l : Launch} {e : Env} {R : Room} {s : State} {m : MethodId} {args : Array Value} {below : List Frame} {meth : Method} {c : Code} {Q : State → Prop} {q : CN} {n0 u0 k d : Nat} {E : Nat × Nat} {CC : Nat → List Value → GT → IT → JT → KT → Prop} {K : KT} {pc len : Nat} {L st : List Value} {G : GT} {I : IT} {J : JT} {i : Instr} {H : Heap}
theorem nest_in {o : String} {x : Nat} {y : MethodName} {h : String} (hw : Cond.methodLinkNest o x y h ∈ lw_tbl) : Cond.methodLinkNest o x y h ∈ nestL := List.mem_filter.mpr ⟨hw, rfl⟩
set_option maxHeartbeats 4000000 in
theorem w_callS {x y kd : Nat} (hC : ∀ y as G I J K, y < 206 → CC y as G I J K → MetK l q d y as G I J K) (hkd : kd = 2 ∨ kd = 3) (hc : calT (ocl k) x = some (kd, y)) (cx : Cx p R s m args meth c q k d E n0 u0) (hd : decode (byt k) pc = .ok (.invokestatic x, 3)) (h : sP CC K (PW p l e R s m args below meth c Q q E n0 u0 k) G I J (doS y pc L st)) : PW p l e R s m args below meth c Q q E n0 u0 k pc L st G I J := by
  have cx0 := cx
  obtain ⟨hx, hb, hml, hown, hts, hK, hN, ⟨hR1, hR2, hR3, hR4⟩, ⟨hE1, hE2⟩, hct⟩ := cx
  obtain ⟨r0, z1, z2, z3, z4, hB, hWd⟩ := cal_ok hc
  unfold calB at hB
  simp only [Bool.and_eq_true, decide_eq_true_eq] at hB
  rw [z3, z4] at hB
  have hy : y < 206 := hB.1.1.2
  have hm0 : mcs y = (0, 0) := hB.2 (by omega)
  obtain ⟨-, hcn, hn1, hn2, hpd, hmx, -⟩ := met_ok hy
  obtain ⟨⟨hln, hcat⟩, h⟩ := sP_gte.mp h
  intro H locs ls hr hv hL hS h1 h2
  refine W.size hE2 h1.1 hr hS (fun hz => ?_)
  have hmt := hC y _ G I J _ hy h
  have hlen : (st.take (npr y)).length = npr y := by rw [List.length_take]; omega
  have hpre := PcM_at (as := (st.take (npr y)).reverse) (y := y) cx0 hS hr hz (by rw [hm0]; show G.1 + 0 ≤ _; omega)
  have hstk : (F0 m pc ls (st.map (vmp q.hb q.b q.t))).stack = (((st.take (npr y)).reverse).map (vmp q.hb q.b q.t)).reverse ++ (st.drop (npr y)).map (vmp q.hb q.b q.t) := by
    show st.map (vmp q.hb q.b q.t) = _
    rw [← List.map_reverse, List.reverse_reverse, ← List.map_append, List.take_append_drop]
  refine w_run (K' := fun v G' I' J' => PW p l e R s m args below meth c Q q E n0 u0 k (pc + 3) L (psh v (st.drop (npr y))) G' I' J') (mc := (mcs y).1) (ms := (mcs y).2) (y := y) (a := (((st.take (npr y)).reverse).map (vmp q.hb q.b q.t)).toArray) (rest := (st.drop (npr y)).map (vmp q.hb q.b q.t)) ?_ hS (fun v G' I' J' H1 locs1 hK' hR' e1 e2 hS1 => ?_)
  · rcases hkd with rfl | rfl
    · unfold calW at hWd
      rw [z3] at hWd
      simp only [List.mem_cons, List.not_mem_nil, or_false, forall_eq_or_imp, forall_eq, z1, z2, z4] at hWd
      obtain ⟨hw1, hw2, hw3⟩ := hWd
      exact va_runS (As := ((st.take (npr y)).reverse).map (vmp q.hb q.b q.t)) (bytes := byt y) (maxL := mxl y) (ret := rty y) (n := npr y) (nL := mxl k) (Ts := lw_good) ⟨hx, hb, hml, hown, hts⟩ hmt ⟨callB_of (rm := rmM d y) (ws' := lw_good) (npr y) hts (goodIn_lw (wsM_in hy)) rfl rfl rfl (hts _ (good_mem hw3 rfl)) (hts _ (good_mem hw1 rfl)) ⟨hn1, hn2, hpd⟩ ⟨hR1, by show 8 + (mxl y + 11) + (200 * d + 200) ≤ R.locals; omega⟩, hts _ (good_mem hw2 rfl)⟩ ⟨PcM_blind, hpre⟩ rfl (by rw [List.length_map, List.length_reverse]; exact hlen) (hv.1.trans hL) hstk (lv_room (by rw [catS_map]; exact hcat)) hd ⟨by rw [hm0]; show _ + 0 ≤ _; omega, by rw [hm0]; show _ + 0 ≤ _; omega⟩
    · unfold calW at hWd
      rw [z3] at hWd
      simp only [List.mem_cons, List.not_mem_nil, or_false, forall_eq_or_imp, forall_eq, z1, z2, z4] at hWd
      obtain ⟨hw1, hw2, hw3⟩ := hWd
      exact va_runSN (host := "TruthWalk") (As := ((st.take (npr y)).reverse).map (vmp q.hb q.b q.t)) (bytes := byt y) (maxL := mxl y) (ret := rty y) (n := npr y) (nL := mxl k) (Ts := lw_good) ⟨hx, hb, hml, hown, hts⟩ hmt ⟨va_cnB (rm := rmM d y) (ws' := lw_good) (npr y) hts (goodIn_lw (wsM_in hy)) rfl rfl rfl (hN.1 _ (nest_in hw1)) (hts _ (good_mem hw3 rfl)) ⟨hn1, hn2, hpd⟩ ⟨hR1, by show 8 + (mxl y + 11) + (200 * d + 200) ≤ R.locals; omega⟩, hts _ (good_mem hw2 rfl), trivial⟩ ⟨PcM_blind, hpre⟩ rfl (by rw [List.length_map, List.length_reverse]; exact hlen) (hv.1.trans hL) hstk (lv_room (by rw [catS_map]; exact hcat)) hd ⟨by rw [hm0]; show _ + 0 ≤ _; omega, by rw [hm0]; show _ + 0 ≤ _; omega⟩
  · rw [psh_map]
    refine cs_eq (x := G'.1 - n0) (y := G'.2.1 - u0) (by omega) (by omega) ?_
    rw [hm0] at e1 e2
    have e1 : G'.1 = G.1 := e1
    have e2 : G'.2.1 = G.2.1 := e2
    exact hK' H1 locs1 ls hR' hv hL hS1 (by omega) (by omega)
set_option maxHeartbeats 4000000 in
theorem w_callI {x y kd : Nat} (hC : ∀ y as G I J K, y < 206 → CC y as G I J K → MetK l q d y as G I J K) (hkd : kd = 4 ∨ kd = 5) (hc : calT (ocl k) x = some (kd, y)) (cx : Cx p R s m args meth c q k d E n0 u0) (hd : decode (byt k) pc = .ok (.invokespecial x, 3)) (h : sP CC K (PW p l e R s m args below meth c Q q E n0 u0 k) G I J (doI y pc L st G E)) : PW p l e R s m args below meth c Q q E n0 u0 k pc L st G I J := by
  have cx0 := cx
  obtain ⟨hx, hb, hml, hown, hts, hK, hN, ⟨hR1, hR2, hR3, hR4⟩, ⟨hE1, hE2⟩, hct⟩ := cx
  obtain ⟨r0, z1, z2, z3, z4, hB, hWd⟩ := cal_ok hc
  unfold calB at hB
  simp only [Bool.and_eq_true, decide_eq_true_eq] at hB
  rw [z3, z4] at hB
  have hy : y < 206 := hB.1.1.2
  obtain ⟨hini, hrt⟩ := hB.1.2 hkd
  obtain ⟨-, hcn, hn1, hn2, hpd, hmx, -⟩ := met_ok hy
  unfold doI at h
  split at h
  · rename_i a r hdr
    obtain ⟨hlen, hst⟩ := take_len hdr
    obtain ⟨⟨hcat, hb1, hb2⟩, h⟩ := sP_gte.mp h
    intro H locs ls hr hv hL hS h1 h2
    refine W.size hE2 h1.1 hr hS (fun hz => ?_)
    have hmt := hC y _ G I J _ hy h
    have hpre := PcM_at (as := Value.ref a :: (st.take (npr y)).reverse) (y := y) cx0 hS hr hz (by omega)
    have hstk : (F0 m pc ls (st.map (vmp q.hb q.b q.t))).stack = (((st.take (npr y)).reverse).map (vmp q.hb q.b q.t)).reverse ++ .ref (adr q.hb q.b q.t a) :: r.map (vmp q.hb q.b q.t) := by
      show st.map (vmp q.hb q.b q.t) = _
      rw [← List.map_reverse, List.reverse_reverse]
      conv => lhs; rw [hst]
      rw [List.map_append]
      rfl
    have hws : wsM y = Cond.code (mth y) (byt y) (mxl y) none :: lw_good := by unfold wsM; rw [hrt]
    refine w_run (K' := fun v G' I' J' => PW p l e R s m args below meth c Q q E n0 u0 k (pc + 3) L (psh v r) G' I' J') (mc := (mcs y).1) (ms := (mcs y).2) (y := y) (a := (Value.ref (adr q.hb q.b q.t a) :: ((st.take (npr y)).reverse).map (vmp q.hb q.b q.t)).toArray) (rest := r.map (vmp q.hb q.b q.t)) ?_ hS (fun v G' I' J' H1 locs1 hK' hR' e1 e2 hS1 => ?_)
    · rcases hkd with rfl | rfl
      · unfold calW at hWd
        rw [z3] at hWd
        simp only [List.mem_cons, List.not_mem_nil, or_false, forall_eq_or_imp, forall_eq, z1, z2, z4] at hWd
        obtain ⟨hw1, hw2, hw3⟩ := hWd
        exact va_runI (b := adr q.hb q.b q.t a) (As := ((st.take (npr y)).reverse).map (vmp q.hb q.b q.t)) (bytes := byt y) (maxL := mxl y) (n := npr y) (nL := mxl k) (Ts := lw_good) ⟨hx, hb, hml, hown, hts⟩ hmt ⟨callB_of (rm := rmM d y) (ws' := lw_good) (npr y) hts (goodIn_lw (wsM_in hy)) hws rfl rfl (hts _ (good_mem hw3 rfl)) (hts _ (good_mem hw1 rfl)) ⟨hn1, hn2, hpd⟩ ⟨hR1, by show 8 + (mxl y + 11) + (200 * d + 200) ≤ R.locals; omega⟩, hini, hts _ (good_mem hw2 rfl)⟩ ⟨PcM_blind, hpre⟩ rfl (by rw [List.length_map, List.length_reverse]; exact hlen) (hv.1.trans hL) hstk (lv_room (by rw [catS_map]; exact hcat)) hd ⟨by omega, by omega⟩
      · unfold calW at hWd
        rw [z3] at hWd
        simp only [List.mem_cons, List.not_mem_nil, or_false, forall_eq_or_imp, forall_eq, z1, z2, z4] at hWd
        obtain ⟨hw1, hw2, hw3⟩ := hWd
        exact va_runIN (host := "TruthWalk") (b := adr q.hb q.b q.t a) (As := ((st.take (npr y)).reverse).map (vmp q.hb q.b q.t)) (bytes := byt y) (maxL := mxl y) (n := npr y) (nL := mxl k) (Ts := lw_good) ⟨hx, hb, hml, hown, hts⟩ hmt ⟨va_cnB (rm := rmM d y) (ws' := lw_good) (npr y) hts (goodIn_lw (wsM_in hy)) hws rfl rfl (hN.1 _ (nest_in hw1)) (hts _ (good_mem hw3 rfl)) ⟨hn1, hn2, hpd⟩ ⟨hR1, by show 8 + (mxl y + 11) + (200 * d + 200) ≤ R.locals; omega⟩, hini, hts _ (good_mem hw2 rfl)⟩ ⟨PcM_blind, hpre⟩ rfl (by rw [List.length_map, List.length_reverse]; exact hlen) (hv.1.trans hL) hstk (lv_room (by rw [catS_map]; exact hcat)) hd ⟨by omega, by omega⟩
    · rw [psh_map]
      refine cs_eq (x := G'.1 - n0) (y := G'.2.1 - u0) (by omega) (by omega) ?_
      exact hK' H1 locs1 ls hR' hv hL hS1 (by omega) (by omega)
  · exact sP_no h
set_option maxHeartbeats 4000000 in
theorem w_inv {so x : Nat} {ii : Instr} (hii : (so = 0 ∧ ii = .invokevirtual x) ∨ (so = 1 ∧ ii = .invokestatic x) ∨ (so = 2 ∧ ii = .invokespecial x)) (hjw : (Cond.instanceMethod Lib.objectInit ∈ lw_good ∧ Cond.code Lib.objectInit ⟨#[0xb1]⟩ 1 none ∈ lw_good) ∧ (Cond.native arraycopyName ∈ lw_good ∧ Cond.static arraycopyName ∈ lw_good ∧ Cond.initialized "java/lang/System" ∈ lw_good) ∧ Cond.initialized "java/lang/Math" ∈ lw_good ∧ (Cond.static Lib.Math.max.name ∈ lw_good ∧ Cond.code Lib.Math.max.name Lib.Math.max.code 2 (some .int) ∈ lw_good) ∧ (Cond.static Lib.Math.min.name ∈ lw_good ∧ Cond.code Lib.Math.min.name Lib.Math.min.code 2 (some .int) ∈ lw_good) ∧ Cond.static Lib.Math.abs.name ∈ lw_good ∧ Cond.code Lib.Math.abs.name Lib.Math.abs.code 1 (some .int) ∈ lw_good)
    (hC : ∀ y as G I J K, y < 206 → CC y as G I J K → MetK l q d y as G I J K) (cx : Cx p R s m args meth c q k d E n0 u0) (hd : decode (byt k) pc = .ok (ii, 3)) (h : sP CC K (PW p l e R s m args below meth c Q q E n0 u0 k) G I J (doInv so pc (calT (ocl k) x) L st G I J E)) : PW p l e R s m args below meth c Q q E n0 u0 k pc L st G I J := by
  cases hc : calT (ocl k) x with
  | none => rw [hc] at h; exact sP_no h
  | some z =>
    obtain ⟨kd, y⟩ := z
    rw [hc] at h
    have cx0 := cx
    obtain ⟨hx, hb, hml, hown, hts, hK, hN, ⟨hR1, hR2, hR3, hR4⟩, ⟨hE1, hE2⟩, hct⟩ := cx
    obtain ⟨r0, z1, z2, z3, z4, hB, hWd⟩ := cal_ok hc
    obtain ⟨⟨o1, o2⟩, ⟨a1, a2, a3⟩, mi, ⟨x1, x2⟩, ⟨y1, y2⟩, w1, w2⟩ := hjw
    unfold doInv at h
    split at h
    · rename_i kd' y' e1
      cases e1
      split at h
      · rcases hii with ⟨-, rfl⟩ | ⟨z, -⟩ | ⟨z, -⟩
        · exact w_callV hC rfl hc cx0 hd h
        · omega
        · omega
      · unfold calB at hB
        simp only [Bool.and_eq_true, decide_eq_true_eq] at hB
        rw [z3] at hB
        have := hB.1.1.1
        omega
      · rcases hii with ⟨z, -⟩ | ⟨-, rfl⟩ | ⟨z, -⟩
        · omega
        · exact w_callS hC (Or.inl rfl) hc cx0 hd h
        · omega
      · rcases hii with ⟨z, -⟩ | ⟨-, rfl⟩ | ⟨z, -⟩
        · omega
        · exact w_callS hC (Or.inr rfl) hc cx0 hd h
        · omega
      · rcases hii with ⟨z, -⟩ | ⟨-, rfl⟩ | ⟨z, -⟩
        · omega
        · unfold calW at hWd
          rw [z3] at hWd
          simp only [List.mem_cons, List.not_mem_nil, or_false, forall_eq, z1, z2] at hWd
          unfold doCp at h
          split at h
          · rename_i n dp b sp a r
            obtain ⟨⟨g1, g2, g3, g4, g5, g6, g7, g8⟩, h⟩ := sP_gte.mp h
            intro H locs ls hr hv hL hS h1 h2
            obtain ⟨ha, he⟩ := shp_own hr (a := a) (by omega)
            obtain ⟨hbb, he2⟩ := shp_own hr (a := b) (by omega)
            rw [he] at g1 g6
            rw [he2] at g2 g7
            refine W.eq (g2 := F0 m pc ls (.int n :: .int dp :: .ref (q.hb + b) :: .int sp :: .ref (q.hb + a) :: r.map (vmp q.hb q.b q.t))) (by rw [← adr_own hr ha, ← adr_own hr hbb]; rfl) ?_
            refine va_copyi (ty := .int) hx hb (hml.trans (hL.symm.trans hv.1.symm)) hown (hts _ (good_mem hWd rfl)) (hts _ a1) (hts _ a2) (hts _ a3) hK.1 hr.1 wl_D hS a b 0 0 ((wl_get ha).trans (by rw [cE_1 g1])) ((wl_get hbb).trans (by rw [cE_1 g2])) rfl rfl rfl g3 g4 g5 g6 g7 (fun _ _ => rfl) (by omega) ?_ hd (fun H1 locs1 hP1 hD1 hS1 => ?_)
            · rw [catS_map]
              have : nativeFrameWords "java/lang/System" "arraycopy" 5 + 11 ≤ 100 := by decide
              omega
            · exact sP_n h H1 locs1 ls (rel_I hr hbb (fun z hz => up1_off hz) (by rw [cE_1 g2, up1_at]) hP1) hv hL hS1 h1 h2
          · exact sP_no h
        · omega
      · rcases hii with ⟨z, -⟩ | ⟨-, rfl⟩ | ⟨z, -⟩
        · omega
        · unfold calW at hWd
          rw [z3] at hWd
          simp only [List.mem_cons, List.not_mem_nil, or_false, forall_eq, z1, z2] at hWd
          unfold pop2 at h
          split at h
          · obtain ⟨g8, h⟩ := sP_gte.mp h
            intro H locs ls hr hv hL hS h1 h2
            exact va_mmax hx hb (hml.trans (hL.symm.trans hv.1.symm)) hown (hts _ (good_mem hWd rfl)) (hts _ x1) (hts _ mi) (hts _ x2) (by omega) (by rw [catS_map]; omega) (by omega) (by omega) hd (sP_n h H locs ls hr hv hL hS h1 h2)
          · exact sP_no h
        · omega
      · rcases hii with ⟨z, -⟩ | ⟨-, rfl⟩ | ⟨z, -⟩
        · omega
        · unfold calW at hWd
          rw [z3] at hWd
          simp only [List.mem_cons, List.not_mem_nil, or_false, forall_eq, z1, z2] at hWd
          unfold pop2 at h
          split at h
          · obtain ⟨g8, h⟩ := sP_gte.mp h
            intro H locs ls hr hv hL hS h1 h2
            exact va_mmin hx hb (hml.trans (hL.symm.trans hv.1.symm)) hown (hts _ (good_mem hWd rfl)) (hts _ y1) (hts _ mi) (hts _ y2) (by omega) (by rw [catS_map]; omega) (by omega) (by omega) hd (sP_n h H locs ls hr hv hL hS h1 h2)
          · exact sP_no h
        · omega
      · rcases hii with ⟨z, -⟩ | ⟨-, rfl⟩ | ⟨z, -⟩
        · omega
        · unfold calW at hWd
          rw [z3] at hWd
          simp only [List.mem_cons, List.not_mem_nil, or_false, forall_eq, z1, z2] at hWd
          unfold pop1 at h
          split at h
          · obtain ⟨g8, h⟩ := sP_gte.mp h
            intro H locs ls hr hv hL hS h1 h2
            exact va_mabs hx hb (hml.trans (hL.symm.trans hv.1.symm)) hown (hts _ (good_mem hWd rfl)) (hts _ w1) (hts _ mi) (hts _ w2) (by omega) (by rw [catS_map]; omega) (by omega) (by omega) hd (sP_n h H locs ls hr hv hL hS h1 h2)
          · exact sP_no h
        · omega
      · rcases hii with ⟨z, -⟩ | ⟨z, -⟩ | ⟨-, rfl⟩
        · omega
        · omega
        · exact w_callI hC (Or.inl rfl) hc cx0 hd h
      · rcases hii with ⟨z, -⟩ | ⟨z, -⟩ | ⟨-, rfl⟩
        · omega
        · omega
        · exact w_callI hC (Or.inr rfl) hc cx0 hd h
      · rcases hii with ⟨z, -⟩ | ⟨z, -⟩ | ⟨-, rfl⟩
        · omega
        · omega
        · unfold calW at hWd
          rw [z3] at hWd
          simp only [List.mem_cons, List.not_mem_nil, or_false, forall_eq, z1, z2] at hWd
          split at h
          · obtain ⟨g8, h⟩ := sP_gte.mp h
            intro H locs ls hr hv hL hS h1 h2
            exact W.objInit hx hb hown (hts _ (good_mem hWd rfl)) (hts _ o1) (hts _ o2) rfl ((hv.1.trans hL).trans hml.symm) rfl hd (by omega) (by show 2 * 0 + _ + 12 ≤ _; rw [catS_map]; omega) (sP_n h H locs ls hr hv hL hS h1 h2)
          · exact sP_no h
      · exact sP_no h
    · exact sP_no h
end SndG
