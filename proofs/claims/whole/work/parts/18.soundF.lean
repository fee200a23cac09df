theorem cal_ok {o x kd y : Nat} (h : calT o x = some (kd, y)) : ∃ r : Nat × Nat × Nat × Nat × Nat × Nat × Nat × Nat × Nat, r.1 = o ∧ r.2.1 = x ∧ r.2.2.1 = kd ∧ r.2.2.2.1 = y ∧ calB r = true ∧ ∀ w ∈ calW r, w.2 ∈ lw_tbl := by
  unfold calT at h
  cases hf : calL.find? (fun y => y.1 == o && y.2.1 == x) with
  | none => rw [hf] at h; cases h
  | some r =>
    rw [hf] at h
    have hm := List.mem_of_find?_eq_some hf
    have hp := List.find?_some hf
    simp only [Bool.and_eq_true, beq_iff_eq] at hp
    have h := Option.some.inj h
    obtain ⟨h1, h2⟩ := Prod.mk.inj h
    refine ⟨r, hp.1, hp.2, h1, h2, List.all_eq_true.mp cal_b r hm, fun w hw => ?_⟩
    exact List.mem_of_getElem? (of_decide_eq_true (List.all_eq_true.mp (List.all_eq_true.mp cal_w r hm) w hw))
def wsM (y : Nat) : List Cond := Cond.code (mth y) (byt y) (mxl y) (rty y) :: lw_good
def rmM (d y : Nat) : Room := { frames := d, cells := (mcs y).1, slots := (mcs y).2, locals := 200 * d + 200 }
def PcM (q : CN) (y : Nat) (as : List Value) (G : GT) (I : IT) (J : JT) : Array Value → State → Prop := va_Pc (as.map (vmp q.hb q.b q.t)) (fun U => U.heap.size = q.hb + G.1 ∧ Rel q G I J U.heap ∧ KnU q U ∧ NwU U ∧ G.1 + (mcs y).1 ≤ 600000)
def QcM (q : CN) (y : Nat) (G : GT) (K : KT) : Array Value → State → Outcome → State → Prop := fun _ st oc t => (∃ (r : Option Value) (G' : GT) (I' : IT) (J' : JT), oc = .returned (r.map (vmp q.hb q.b q.t)) ∧ K r G' I' J' ∧ Rel q G' I' J' t.heap ∧ G'.1 = G.1 + (mcs y).1 ∧ G'.2.1 = G.2.1 + (mcs y).2) ∧ va_F q.A st t
def MetK (l : Launch) (q : CN) (d y : Nat) (as : List Value) (G : GT) (I : IT) (J : JT) (K : KT) : Prop := Met l (mth y) (wsM y) (rmM d y) (PcM q y as G I J) (QcM q y G K) (mcs y).1 (mcs y).2 q.A
theorem met_ok {y : Nat} (hy : y < 206) : Jvm.plainName (mth y).cls = true ∧ (mth y).cls = cnm (ocl y) ∧ (mth y).cls ≠ "java/lang/invoke/MethodHandle" ∧ (mth y).cls ≠ "java/lang/invoke/VarHandle" ∧ (parseMethodDescriptor (mth y).desc).map (fun d => d.parameters.length) = some (npr y) ∧ mxl y ≤ 15 ∧ (isCt y = decide ((mth y).name = "<init>")) := by
  have h := List.all_eq_true.mp met_b y (List.mem_range.mpr hy)
  unfold metB at h
  simp only [Bool.and_eq_true, decide_eq_true_eq, beq_iff_eq] at h
  exact ⟨h.1.1.1.1.1.1, h.1.1.1.1.1.2, h.1.1.1.1.2, h.1.1.1.2, h.1.1.2, h.1.2, h.2⟩
theorem goodIn_lw {ws : List Cond} (h : ∀ w ∈ ws, w ∈ lw_good) : GoodIn lw_good ws := fun w hw => ⟨h w hw, good_of_word (List.mem_filter.mp (h w hw)).2⟩
theorem wsM_in {y : Nat} (hy : y < 206) : ∀ w ∈ wsM y, w ∈ lw_good := by
  intro w hw
  rcases List.mem_cons.mp hw with rfl | hw
  · exact good_mem (cw y hy) rfl
  · exact hw
theorem KnU.moved {q : CN} {s U : State} (hW : s.vm.Alike U.vm) (hh : ∀ a : Nat, a < s.heap.size → ¬ q.A a → U.heap[a]? = s.heap[a]?) (h : KnU q s) : KnU q U := ⟨va_K.moved hW h.1, (h.2.1.moved hW).kept hh, (h.2.2.1.moved hW).kept hh, (h.2.2.2.moved hW).kept hh⟩
theorem NwU.moved {s U : State} (hW : s.WarmedH U.vm) (h : NwU s) : NwU U := by
  refine ⟨fun w hw => ?_, va_AO.moved hW.alike h.2⟩
  have h1 := h.1 w hw
  have h2 := (List.mem_filter.mp hw).2
  cases w <;> simp at h2
  exact va_Nw.warmM hW h1
theorem NwU.same {s U : State} (hv : s.vm = U.vm) (h : NwU s) : NwU U := by
  refine ⟨fun w hw => ?_, va_AO.moved (by rw [hv]; exact Vm.Alike.refl _) h.2⟩
  have h1 := h.1 w hw
  have h2 := (List.mem_filter.mp hw).2
  cases w <;> simp at h2
  exact va_Nw.same rfl hv h1
theorem PcM_blind {q : CN} {y : Nat} {as : List Value} {G : GT} {I : IT} {J : JT} : FrameBlind (PcM q y as G I J) := by
  intro a U g mk h
  obtain ⟨h0, h1, h2, h3, h4, h5⟩ := h
  exact ⟨h0, h1, h2, KnU.moved (U := U.calling g mk a) (Vm.Alike.refl U.vm) (fun a _ _ => rfl) h3, NwU.same (s := U) (U := U.calling g mk a) rfl h4, h5⟩
section SndF
variable {p : Program} {l : Launch} {e : Env} {R : Room} {s : State} {m : MethodId} {args : Array Value} {below : List Frame} {meth : Method} {c : Code} {Q : State → Prop} {q : CN} {n0 u0 k d : Nat} {E : Nat × Nat} {CC : Nat → List Value → GT → IT → JT → KT → Prop} {K : KT} {pc len : Nat} {L st : List Value} {G : GT} {I : IT} {J : JT} {i : Instr} {H : Heap}
/-- the heap's size, out of the room's count -/
theorem W.size {locs : List Loc} {slots : Nat} {g : JFrame} (hs : s.heap.size = q.hb + n0) (hn : n0 ≤ G.1) (hr : Rel q G I J H) (hS : va_S q.A s.heap H locs) (h : H.size = q.hb + G.1 → W p l e R s m args below meth c H locs (G.1 - n0) slots Q g) : W p l e R s m args below meth c H locs (G.1 - n0) slots Q g := by
  refine W.sized (fun hz => h ?_)
  have hlow : q.hb + G.1 ≤ H.size := by
    rcases Nat.eq_zero_or_pos G.1 with h0 | h0
    · have := hS.1; omega
    · have := (hr.1 (G.1 - 1) _ (wl_get (by omega))).lt
      have : q.hb + (G.1 - 1) < H.size := this
      omega
  omega
theorem w_run {mc ms slots : Nat} {locs : List Loc} {ls : Array Slot} {st0 : List Value} {rest : List Value} {y : Nat} {a : Array Value} {K' : KT} (hr : va_Run p l e R s m args below meth c H locs (G.1 - n0) slots mc ms (F0 m pc ls st0) rest (QcM q y G K' a) q.A) (hS : va_S q.A s.heap H locs)
    (kk : ∀ (r : Option Value) (G' : GT) (I' : IT) (J' : JT) (H1 : Heap) (locs1 : List Loc), K' r G' I' J' → Rel q G' I' J' H1 → G'.1 = G.1 + (mcs y).1 → G'.2.1 = G.2.1 + (mcs y).2 → va_S q.A s.heap H1 locs1 → W p l e R s m args below meth c H1 locs1 (G.1 - n0 + mc) (slots + ms) Q (F0 m (pc + 3) ls ((r.map (vmp q.hb q.b q.t)).toList ++ rest))) : W p l e R s m args below meth c H locs (G.1 - n0) slots Q (F0 m pc ls st0) := by
  intro T hT X
  obtain ⟨v, st₀, t, T', L, h0, X', hL, e1, e2, ⟨⟨r, G', I', J', hv, hK, hR, hg1, hg2⟩, hz, hk⟩, sg⟩ := hr T hT X
  cases hv
  rw [h0] at hz hk
  obtain ⟨t2, a1, b1⟩ := kk r G' I' J' T'.heap (locs ++ L) hK (by rw [e1]; exact hR) hg1 hg2 ⟨Nat.le_trans hS.1 (by rw [e1]; exact hz), fun x h1 h2 => by rw [e1, hk x (Nat.lt_of_lt_of_le h1 hS.1) h2]; exact hS.2.1 x h1 h2, fun x hx => by
      rcases List.mem_append.mp hx with h | h
      · exact hS.2.2 x h
      · exact hL x h⟩ T' rfl X'
  exact ⟨t2, sg t2 a1, b1⟩
theorem PcM_at {y : Nat} {as : List Value} (cx : Cx p R s m args meth c q k d E n0 u0) {locs : List Loc} (hS : va_S q.A s.heap H locs) (hr : Rel q G I J H) (hz : H.size = q.hb + G.1) (hb : G.1 + (mcs y).1 ≤ 600000) : ∀ U : State, U.heap = H → s.WarmedH U.vm → PcM q y as G I J (as.map (vmp q.hb q.b q.t)).toArray U := by
  intro U hU hW
  obtain ⟨hx, hb', hml, hown, hts, hK, hN, hR, hE, hct⟩ := cx
  exact ⟨rfl, by rw [hU]; exact hz, by rw [hU]; exact hr, KnU.moved hW.alike (fun a h1 h2 => by rw [hU]; exact hS.2.1 a h1 h2) hK, NwU.moved hW hN, hb⟩
theorem psh_map {v : Option Value} : ((v.map (vmp q.hb q.b q.t)).toList ++ st.map (vmp q.hb q.b q.t)) = (psh v st).map (vmp q.hb q.b q.t) := by
  cases v <;> rfl
theorem take_len {n : Nat} {x : Value} {r : List Value} (h : st.drop n = x :: r) : (st.take n).length = n ∧ st = st.take n ++ x :: r := by
  refine ⟨?_, by rw [← h]; exact (List.take_append_drop n st).symm⟩
  have : (st.drop n).length = (x :: r).length := by rw [h]
  rw [List.length_drop] at this
  simp only [List.length_cons] at this
  rw [List.length_take]
  omega
set_option maxHeartbeats 4000000 in
theorem w_callV {x y kd : Nat} (hC : ∀ y as G I J K, y < 206 → CC y as G I J K → MetK l q d y as G I J K) (hkd : kd = 0) (hc : calT (ocl k) x = some (kd, y)) (cx : Cx p R s m args meth c q k d E n0 u0) (hd : decode (byt k) pc = .ok (.invokevirtual x, 3)) (h : sP CC K (PW p l e R s m args below meth c Q q E n0 u0 k) G I J (doV y pc L st G)) : PW p l e R s m args below meth c Q q E n0 u0 k pc L st G I J := by
  have cx0 := cx
  obtain ⟨hx, hb, hml, hown, hts, hK, hN, ⟨hR1, hR2, hR3, hR4⟩, ⟨hE1, hE2⟩, hct⟩ := cx
  obtain ⟨r0, z1, z2, z3, z4, hB, hWd⟩ := cal_ok hc
  subst hkd
  have hBB := hB
  unfold calB at hB
  simp only [Bool.and_eq_true, decide_eq_true_eq] at hB
  rw [z3, z4] at hB
  have hy : y < 206 := hB.1.1.2
  have hm0 : mcs y = (0, 0) := hB.2 (Or.inl rfl)
  unfold calW at hWd
  rw [z3] at hWd
  simp only [List.mem_cons, List.not_mem_nil, or_false, forall_eq_or_imp, forall_eq, z1, z2, z4] at hWd
  obtain ⟨hw1, hw2, hw3, hw4⟩ := hWd
  unfold doV at h
  split at h
  · rename_i a r hdr
    obtain ⟨hlen, hst⟩ := take_len hdr
    obtain ⟨⟨hg, hcat⟩, h⟩ := sP_gte.mp h
    intro H locs ls hr hv hL hS h1 h2
    obtain ⟨ha, he⟩ := shp_own hr (a := a) (by rw [hg]; exact Nat.zero_le _)
    rw [he] at hg
    refine W.size hE2 h1.1 hr hS (fun hz => ?_)
    have hmt := hC y _ G I J _ hy h
    obtain ⟨-, hcn, hn1, hn2, hpd, hmx, -⟩ := met_ok hy
    have hoc : ocl y < 8 := by
      rcases Nat.lt_or_ge (ocl y) 8 with z | z
      · exact z
      · exfalso
        have := (hr.1 a _ (wl_get ha))
        rw [cE_obj hg] at this
        obtain ⟨rr, hrr, -⟩ := this
        rw [List.getElem?_eq_none (by show 8 ≤ ocl y; exact z)] at hrr
        cases hrr
    obtain ⟨hcl, -, -, -⟩ := cls_all (ocl y) hoc
    refine w_run (K' := fun v G' I' J' => PW p l e R s m args below meth c Q q E n0 u0 k (pc + 3) L (psh v r) G' I' J') (mc := (mcs y).1) (ms := (mcs y).2) (y := y) (a := (Value.ref (q.hb + a) :: ((st.take (npr y)).reverse).map (vmp q.hb q.b q.t)).toArray) (rest := r.map (vmp q.hb q.b q.t)) ?_ hS (fun v G' I' J' H1 locs1 hK' hR' e1 e2 hS1 => ?_)
    · refine va_runV (C := (mth y).cls) (b := q.hb + a) (As := ((st.take (npr y)).reverse).map (vmp q.hb q.b q.t)) (bytes := byt y) (maxL := mxl y) (ret := rty y) (n := npr y) (nL := mxl k) (Ts := lw_good) ⟨hx, hb, hml, hown, hts⟩ hmt (cwV (rm := rmM d y) (ws' := lw_good) (npr y) hts (goodIn_lw ?_) rfl rfl rfl ⟨rfl, hn1, hn2, hpd⟩ ⟨hR1, by show 8 + (mxl y + 11) + (200 * d + 200) ≤ R.locals; omega⟩) ⟨PcM_blind, ?_, ?_⟩ rfl (by rw [List.length_map, List.length_reverse]; exact hlen) (hv.1.trans hL) ?_ (lv_room (by rw [catS_map]; exact hcat)) hd ⟨by rw [hm0]; show _ + 0 ≤ _; omega, by rw [hm0]; show _ + 0 ≤ _; omega⟩
      · intro w hw
        rcases List.mem_append.mp hw with hw | hw
        · simp only [List.mem_cons, List.not_mem_nil, or_false] at hw
          rcases hw with rfl | rfl | rfl | rfl
          · exact good_mem hw1 rfl
          · exact good_mem hw2 rfl
          · exact good_mem hw3 rfl
          · exact good_mem hw4 rfl
        · exact wsM_in hy w hw
      · rw [hcn]
        exact va_recv hK.1 hr.1 hcl ((wl_get ha).trans (by rw [cE_obj hg]))
      · intro U hU hW
        have := PcM_at (as := Value.ref a :: (st.take (npr y)).reverse) (y := y) cx0 hS hr hz (by rw [hm0]; show G.1 + 0 ≤ _; omega) U hU hW
        rw [List.map_cons, show vmp q.hb q.b q.t (Value.ref a) = .ref (q.hb + a) by rw [← adr_own hr ha]; rfl] at this
        exact this
      · show st.map (vmp q.hb q.b q.t) = _
        rw [← List.map_reverse, List.reverse_reverse, ← adr_own hr ha]
        conv => lhs; rw [hst]
        rw [List.map_append]
        rfl
    · rw [psh_map]
      refine cs_eq (x := G'.1 - n0) (y := G'.2.1 - u0) (by omega) (by omega) ?_
      rw [hm0] at e1 e2
      have e1 : G'.1 = G.1 := e1
      have e2 : G'.2.1 = G.2.1 := e2
      exact hK' H1 locs1 ls hR' hv hL hS1 (by omega) (by omega)
  · exact sP_no h
end SndF
