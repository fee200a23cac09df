/-! soundness of the small machine over W: instructions -/
theorem good_mem {w : Cond} (h : w ∈ lw_tbl) (hg : goodWord w = true) : w ∈ lw_good := List.mem_filter.mpr ⟨h, hg⟩
def nestL : List Cond := lw_tbl.filter (fun w => match w with
  | .methodLinkNest _ _ _ _ => true
  | _ => false)
def NwU (U : State) : Prop := (∀ w ∈ nestL, va_Nw w U) ∧ va_AO "TruthWalk$Level" U
/-- what holds all along one method's body -/
def Cx (p : Program) (R : Room) (s : State) (m : MethodId) (args : Array Value) (meth : Method) (c : Code) (q : CN) (k d : Nat) (E : Nat × Nat) (n0 u0 : Nat) : Prop :=
  p.tables.exec = Jvm.exec ∧ c.code = byt k ∧ c.maxLocals = mxl k ∧ s.vm.findClass (cnm (ocl k)) = some m.cls ∧ (∀ w ∈ lw_good, w.before args s = true) ∧ KnU q s ∧ NwU s ∧
  (d + 1 ≤ R.frames ∧ 200 * d + 400 ≤ R.locals ∧ E.1 ≤ n0 + R.cells ∧ E.2 ≤ u0 + R.slots) ∧ (E.1 ≤ 600000 ∧ s.heap.size = q.hb + n0) ∧ (isCt k = true → meth.name = "<init>")
def PW (p : Program) (l : Launch) (e : Env) (R : Room) (s : State) (m : MethodId) (args : Array Value) (below : List Frame) (meth : Method) (c : Code) (Q : State → Prop) (q : CN) (E : Nat × Nat) (n0 u0 k : Nat) (pc : Nat) (L st : List Value) (G : GT) (I : IT) (J : JT) : Prop :=
  ∀ (H : Heap) (locs : List Loc) (ls : Array Slot), Rel q G I J H → lv_has ls L.length (lvF q.hb q.b q.t 0 L) → L.length = mxl k → va_S q.A s.heap H locs → (n0 ≤ G.1 ∧ G.1 ≤ E.1) → (u0 ≤ G.2.1 ∧ G.2.1 ≤ E.2) → W p l e R s m args below meth c H locs (G.1 - n0) (G.2.1 - u0) Q (F0 m pc ls (st.map (vmp q.hb q.b q.t)))
section SndB
variable {p : Program} {l : Launch} {e : Env} {R : Room} {s : State} {m : MethodId} {args : Array Value} {below : List Frame} {meth : Method} {c : Code} {Q : State → Prop} {q : CN} {n0 u0 k d : Nat} {E : Nat × Nat} {CC : Nat → List Value → GT → IT → JT → KT → Prop} {K : KT} {pc len : Nat} {L st : List Value} {G : GT} {I : IT} {J : JT} {i : Instr}
theorem len_of {n : Nat} (h : lenOK i len = true) (hf : (fam i).2 = n + 1) : len = n + 1 := by
  unfold lenOK at h
  rw [hf] at h
  simp at h
  exact h.symm
theorem sP_n {L' st' : List Value} {pc' : Nat} {G' : GT} {I' : IT} {J' : JT} {P : Nat → List Value → List Value → GT → IT → JT → Prop} (h : sP CC K P G I J (rN pc' L' st' G' I' J')) : P pc' L' st' G' I' J' := h
theorem sP_no {P : Nat → List Value → List Value → GT → IT → JT → Prop} {X : Prop} (h : sP CC K P G I J none) : X := False.elim h
set_option maxHeartbeats 4000000 in
theorem w_ld (cx : Cx p R s m args meth c q k d E n0 u0) (hd : decode (byt k) pc = .ok (i, len)) (hl : lenOK i len = true) (h : sP CC K (PW p l e R s m args below meth c Q q E n0 u0 k) G I J (doLd i pc L st G I J)) : PW p l e R s m args below meth c Q q E n0 u0 k pc L st G I J := by
  obtain ⟨hx, hb, hml, hown, hts, hK, hN, hR, hE, hct⟩ := cx
  unfold doLd at h
  split at h
  · rename_i n
    cases len_of (n := 0) hl rfl
    unfold ldI at h
    split at h
    · rename_i x hn
      intro H locs ls hr hv hL hS h1 h2
      have hne : ∀ a, nth L n ≠ .retAddr a := by rw [hn]; intro a h; cases h
      have hg := lvF_at hv (nth_lt hne) hne
      rw [hn] at hg
      exact lv_iload_n hx hb hd rfl hg (sP_n h H locs ls hr hv hL hS h1 h2)
    · exact sP_no h
  · rename_i n
    cases len_of (n := 1) hl rfl
    unfold ldI at h
    split at h
    · rename_i x hn
      intro H locs ls hr hv hL hS h1 h2
      have hne : ∀ a, nth L n ≠ .retAddr a := by rw [hn]; intro a h; cases h
      have hg := lvF_at hv (nth_lt hne) hne
      rw [hn] at hg
      exact lv_iload hx hb hd hg (sP_n h H locs ls hr hv hL hS h1 h2)
    · exact sP_no h
  · rename_i n
    cases len_of (n := 0) hl rfl
    unfold ldJ at h
    split at h
    · rename_i x hn
      intro H locs ls hr hv hL hS h1 h2
      have hne : ∀ a, nth L n ≠ .retAddr a := by rw [hn]; intro a h; cases h
      have hg := lvF_at hv (nth_lt hne) hne
      rw [hn] at hg
      exact lv_lload_n hx hb hd rfl hg (sP_n h H locs ls hr hv hL hS h1 h2)
    · exact sP_no h
  · rename_i n
    cases len_of (n := 1) hl rfl
    unfold ldJ at h
    split at h
    · rename_i x hn
      intro H locs ls hr hv hL hS h1 h2
      have hne : ∀ a, nth L n ≠ .retAddr a := by rw [hn]; intro a h; cases h
      have hg := lvF_at hv (nth_lt hne) hne
      rw [hn] at hg
      exact lv_lload hx hb hd hg (sP_n h H locs ls hr hv hL hS h1 h2)
    · exact sP_no h
  · rename_i n
    cases len_of (n := 0) hl rfl
    unfold ldA at h
    split at h
    · rename_i x hn
      intro H locs ls hr hv hL hS h1 h2
      have hne : ∀ a, nth L n ≠ .retAddr a := by rw [hn]; intro a h; cases h
      have hg := lvF_at hv (nth_lt hne) hne
      rw [hn] at hg
      exact lv_aload_n hx hb hd rfl hg (sP_n h H locs ls hr hv hL hS h1 h2)
    · rename_i hn
      intro H locs ls hr hv hL hS h1 h2
      have hne : ∀ a, nth L n ≠ .retAddr a := by rw [hn]; intro a h; cases h
      have hg := lvF_at hv (nth_lt hne) hne
      rw [hn] at hg
      exact lv_aload_nN hx hb hd rfl hg (sP_n h H locs ls hr hv hL hS h1 h2)
    · exact sP_no h
  · rename_i n
    cases len_of (n := 1) hl rfl
    unfold ldA at h
    split at h
    · rename_i x hn
      intro H locs ls hr hv hL hS h1 h2
      have hne : ∀ a, nth L n ≠ .retAddr a := by rw [hn]; intro a h; cases h
      have hg := lvF_at hv (nth_lt hne) hne
      rw [hn] at hg
      exact lv_aload hx hb hd hg (sP_n h H locs ls hr hv hL hS h1 h2)
    · rename_i hn
      intro H locs ls hr hv hL hS h1 h2
      have hne : ∀ a, nth L n ≠ .retAddr a := by rw [hn]; intro a h; cases h
      have hg := lvF_at hv (nth_lt hne) hne
      rw [hn] at hg
      exact lv_aloadN hx hb hd hg (sP_n h H locs ls hr hv hL hS h1 h2)
    · exact sP_no h
  · rename_i n
    cases len_of (n := 0) hl rfl
    unfold pop1 at h
    split at h
    · obtain ⟨hn, h⟩ := sP_gte.mp h
      intro H locs ls hr hv hL hS h1 h2
      exact lv_istore_n hx hb hd rfl hv hn rfl (fun ls' hv' => sP_n h H locs ls' hr (lv_setL (v := .int _) hv' hn) (setL_len.trans hL) hS h1 h2)
    · exact sP_no h
  · rename_i n
    cases len_of (n := 1) hl rfl
    unfold pop1 at h
    split at h
    · obtain ⟨hn, h⟩ := sP_gte.mp h
      intro H locs ls hr hv hL hS h1 h2
      exact lv_istore hx hb hd hv hn rfl (fun ls' hv' => sP_n h H locs ls' hr (lv_setL (v := .int _) hv' hn) (setL_len.trans hL) hS h1 h2)
    · exact sP_no h
  · rename_i n
    cases len_of (n := 0) hl rfl
    unfold popJ at h
    split at h
    · obtain ⟨hn, h⟩ := sP_gte.mp h
      intro H locs ls hr hv hL hS h1 h2
      exact lv_lstore_n hx hb hd rfl hv hn rfl (fun ls' hv' => sP_n h H locs ls' hr (lv_setJ (v := .long _) hv' hn) ((setJ_len hn).trans hL) hS h1 h2)
    · exact sP_no h
  · rename_i n
    cases len_of (n := 1) hl rfl
    unfold popJ at h
    split at h
    · obtain ⟨hn, h⟩ := sP_gte.mp h
      intro H locs ls hr hv hL hS h1 h2
      exact lv_lstore hx hb hd hv hn rfl (fun ls' hv' => sP_n h H locs ls' hr (lv_setJ (v := .long _) hv' hn) ((setJ_len hn).trans hL) hS h1 h2)
    · exact sP_no h
  · rename_i n
    cases len_of (n := 0) hl rfl
    split at h
    · obtain ⟨hn, h⟩ := sP_gte.mp h
      intro H locs ls hr hv hL hS h1 h2
      exact lv_astore_n hx hb hd rfl hv hn rfl (fun ls' hv' => sP_n h H locs ls' hr (lv_setL (v := .ref _) hv' hn) (setL_len.trans hL) hS h1 h2)
    · obtain ⟨hn, h⟩ := sP_gte.mp h
      intro H locs ls hr hv hL hS h1 h2
      exact lv_astore_nN hx hb hd rfl hv hn rfl (fun ls' hv' => sP_n h H locs ls' hr (lv_setL (v := .null) hv' hn) (setL_len.trans hL) hS h1 h2)
    · exact sP_no h
  · rename_i n
    cases len_of (n := 1) hl rfl
    split at h
    · obtain ⟨hn, h⟩ := sP_gte.mp h
      intro H locs ls hr hv hL hS h1 h2
      exact lv_astore hx hb hd hv hn rfl (fun ls' hv' => sP_n h H locs ls' hr (lv_setL (v := .ref _) hv' hn) (setL_len.trans hL) hS h1 h2)
    · obtain ⟨hn, h⟩ := sP_gte.mp h
      intro H locs ls hr hv hL hS h1 h2
      exact lv_astoreN hx hb hd hv hn rfl (fun ls' hv' => sP_n h H locs ls' hr (lv_setL (v := .null) hv' hn) (setL_len.trans hL) hS h1 h2)
    · exact sP_no h
  · rename_i n z
    cases len_of (n := 2) hl rfl
    unfold ldI at h
    split at h
    · rename_i x hn
      obtain ⟨hlt, h⟩ := sP_gte.mp h
      intro H locs ls hr hv hL hS h1 h2
      have hne : ∀ a, nth L n ≠ .retAddr a := by rw [hn]; intro a h; cases h
      have hm : (n, Value.int x) ∈ lvF q.hb q.b q.t 0 L := lvF_mem.mpr ⟨n, hlt, by simp, by rw [hn]; rfl, hne⟩
      obtain ⟨kk, hkk⟩ := List.getElem?_of_mem hm
      exact lv_iinc hx hb hd hv hkk rfl hlt rfl (fun ls' hv' => sP_n h H locs ls' hr (lv_setL (v := .int _) hv' hlt) (setL_len.trans hL) hS h1 h2)
    · exact sP_no h
  · exact sP_no h
theorem ldc_in {o x : Nat} {v : Int32} (h : ldcT o x = some v) : Cond.constant (cnm o) x v ∈ lw_good := by
  unfold ldcT at h
  cases hf : ldcL.find? (fun y => y.1 == o && y.2.1 == x) with
  | none => rw [hf] at h; cases h
  | some y =>
    rw [hf] at h
    have hm := List.mem_of_find?_eq_some hf
    have hp := List.find?_some hf
    simp only [Bool.and_eq_true, beq_iff_eq] at hp
    have h := Option.some.inj h
    obtain ⟨rfl, rfl⟩ := hp
    subst h
    have := of_decide_eq_true (List.all_eq_true.mp ldc_w y hm)
    exact good_mem (List.mem_of_getElem? this) rfl
theorem ldl_in {o x : Nat} {v : Int64} (h : ldlT o x = some v) : Cond.constantLong (cnm o) x v ∈ lw_good := by
  unfold ldlT at h
  cases hf : ldlL.find? (fun y => y.1 == o && y.2.1 == x) with
  | none => rw [hf] at h; cases h
  | some y =>
    rw [hf] at h
    have hm := List.mem_of_find?_eq_some hf
    have hp := List.find?_some hf
    simp only [Bool.and_eq_true, beq_iff_eq] at hp
    have h := Option.some.inj h
    obtain ⟨rfl, rfl⟩ := hp
    subst h
    have := of_decide_eq_true (List.all_eq_true.mp ldl_w y hm)
    exact good_mem (List.mem_of_getElem? this) rfl
theorem goTo_in {P : Nat → List Value → List Value → GT → IT → JT → Prop} {t : Option Nat} {L' st' : List Value} (h : sP CC K P G I J (goTo t L' st' G I J)) : ∃ u, t = some u ∧ P u L' st' G I J := by
  match t, h with
  | some u, h => exact ⟨u, rfl, h⟩
theorem tgt_in {off : Int} {u : Nat} (h : tgtOf pc off = some u) : (pc : Int) + off = (u : Int) := by
  unfold tgtOf at h
  split at h
  · have := Option.some.inj h
    omega
  · cases h
theorem w_if {A : Prop} {D : Decidable A} {off : Int} {st' r : List Value} (row : ∀ (H : Heap) (locs : List Loc) (ls : Array Slot) (t : Nat), (pc : Int) + off = (t : Int) → (A → W p l e R s m args below meth c H locs (G.1 - n0) (G.2.1 - u0) Q (F0 m t ls (r.map (vmp q.hb q.b q.t)))) → (¬ A → W p l e R s m args below meth c H locs (G.1 - n0) (G.2.1 - u0) Q (F0 m (pc + 3) ls (r.map (vmp q.hb q.b q.t)))) → W p l e R s m args below meth c H locs (G.1 - n0) (G.2.1 - u0) Q (F0 m pc ls (st'.map (vmp q.hb q.b q.t))))
    (h : sP CC K (PW p l e R s m args below meth c Q q E n0 u0 k) G I J (brTo (tgtOf pc off) (decide A) (pc + 3) L r G I J)) : PW p l e R s m args below meth c Q q E n0 u0 k pc L st' G I J := by
  intro H locs ls hr hv hL hS h1 h2
  cases ht : tgtOf pc off with
  | none => rw [ht] at h; exact sP_no h
  | some t =>
    rw [ht] at h
    refine row H locs ls t (tgt_in ht) (fun z => ?_) (fun z => ?_)
    · have h : sP CC K (PW p l e R s m args below meth c Q q E n0 u0 k) G I J (rN (if decide A = true then t else pc + 3) L r G I J) := h
      rw [decide_eq_true z, if_pos rfl] at h
      exact sP_n h H locs ls hr hv hL hS h1 h2
    · have h : sP CC K (PW p l e R s m args below meth c Q q E n0 u0 k) G I J (rN (if decide A = true then t else pc + 3) L r G I J) := h
      rw [decide_eq_false z, if_neg (by decide)] at h
      exact sP_n h H locs ls hr hv hL hS h1 h2
set_option maxHeartbeats 4000000 in
theorem w_op (cx : Cx p R s m args meth c q k d E n0 u0) (hd : decode (byt k) pc = .ok (i, len)) (hl : lenOK i len = true) (h : sP CC K (PW p l e R s m args below meth c Q q E n0 u0 k) G I J (doOp i k pc L st G I J)) : PW p l e R s m args below meth c Q q E n0 u0 k pc L st G I J := by
  obtain ⟨hx, hb, hml, hown, hts, hK, hN, hR, hE, hct⟩ := cx
  unfold doOp at h
  split at h
  · cases len_of (n := 0) hl rfl
    intro H locs ls hr hv hL hS h1 h2
    exact lv_null hx hb hd (sP_n h H locs ls hr hv hL hS h1 h2)
  · cases len_of (n := 0) hl rfl
    intro H locs ls hr hv hL hS h1 h2
    exact lv_iconst hx hb hd rfl (sP_n h H locs ls hr hv hL hS h1 h2)
  · cases len_of (n := 1) hl rfl
    intro H locs ls hr hv hL hS h1 h2
    exact lv_bipush hx hb hd rfl (sP_n h H locs ls hr hv hL hS h1 h2)
  · cases len_of (n := 2) hl rfl
    intro H locs ls hr hv hL hS h1 h2
    exact lv_sipush hx hb hd rfl (sP_n h H locs ls hr hv hL hS h1 h2)
  · cases len_of (n := 0) hl rfl
    intro H locs ls hr hv hL hS h1 h2
    exact lv_lconst hx hb hd rfl (sP_n h H locs ls hr hv hL hS h1 h2)
  · cases len_of (n := 1) hl rfl
    split at h
    · rename_i v hv0
      intro H locs ls hr hv hL hS h1 h2
      exact lv_ldc hx hb hown (hts _ (ldc_in hv0)) hd (sP_n h H locs ls hr hv hL hS h1 h2)
    · exact sP_no h
  · cases len_of (n := 2) hl rfl
    split at h
    · rename_i v hv0
      intro H locs ls hr hv hL hS h1 h2
      exact lv_ldcw hx hb hown (hts _ (ldc_in hv0)) hd (sP_n h H locs ls hr hv hL hS h1 h2)
    · exact sP_no h
  · cases len_of (n := 2) hl rfl
    split at h
    · rename_i v hv0
      intro H locs ls hr hv hL hS h1 h2
      exact lv_ldc2 hx hb hown (hts _ (ldl_in hv0)) hd (sP_n h H locs ls hr hv hL hS h1 h2)
    · exact sP_no h
  · cases len_of (n := 0) hl rfl
    unfold pop2 at h
    split at h
    · intro H locs ls hr hv hL hS h1 h2
      exact lv_iadd hx hb hd (sP_n h H locs ls hr hv hL hS h1 h2)
    · exact sP_no h
  · cases len_of (n := 0) hl rfl
    unfold pop2 at h
    split at h
    · intro H locs ls hr hv hL hS h1 h2
      exact lv_isub hx hb hd (sP_n h H locs ls hr hv hL hS h1 h2)
    · exact sP_no h
  · cases len_of (n := 0) hl rfl
    unfold pop2 at h
    split at h
    · intro H locs ls hr hv hL hS h1 h2
      exact lv_imul hx hb hd (sP_n h H locs ls hr hv hL hS h1 h2)
    · exact sP_no h
  · cases len_of (n := 0) hl rfl
    unfold pop2 at h
    split at h
    · intro H locs ls hr hv hL hS h1 h2
      exact lv_iand hx hb hd (sP_n h H locs ls hr hv hL hS h1 h2)
    · exact sP_no h
  · cases len_of (n := 0) hl rfl
    unfold pop2 at h
    split at h
    · intro H locs ls hr hv hL hS h1 h2
      exact lv_ior hx hb hd (sP_n h H locs ls hr hv hL hS h1 h2)
    · exact sP_no h
  · cases len_of (n := 0) hl rfl
    unfold pop2 at h
    split at h
    · intro H locs ls hr hv hL hS h1 h2
      exact lv_ixor hx hb hd (sP_n h H locs ls hr hv hL hS h1 h2)
    · exact sP_no h
  · cases len_of (n := 0) hl rfl
    unfold pop2 at h
    split at h
    · obtain ⟨hg, h⟩ := sP_gte.mp h
      intro H locs ls hr hv hL hS h1 h2
      exact lv_idiv hx hb hd hg (sP_n h H locs ls hr hv hL hS h1 h2)
    · exact sP_no h
  · cases len_of (n := 0) hl rfl
    unfold pop2 at h
    split at h
    · obtain ⟨hg, h⟩ := sP_gte.mp h
      intro H locs ls hr hv hL hS h1 h2
      exact lv_irem hx hb hd hg (sP_n h H locs ls hr hv hL hS h1 h2)
    · exact sP_no h
  · cases len_of (n := 0) hl rfl
    unfold pop2 at h
    split at h
    · intro H locs ls hr hv hL hS h1 h2
      exact lv_ishl hx hb hd (sP_n h H locs ls hr hv hL hS h1 h2)
    · exact sP_no h
  · cases len_of (n := 0) hl rfl
    unfold pop2 at h
    split at h
    · intro H locs ls hr hv hL hS h1 h2
      exact lv_ishr hx hb hd (sP_n h H locs ls hr hv hL hS h1 h2)
    · exact sP_no h
  · cases len_of (n := 0) hl rfl
    unfold pop2 at h
    split at h
    · intro H locs ls hr hv hL hS h1 h2
      exact lv_iushr hx hb hd rfl (sP_n h H locs ls hr hv hL hS h1 h2)
    · exact sP_no h
  · cases len_of (n := 0) hl rfl
    unfold pop1 at h
    split at h
    · intro H locs ls hr hv hL hS h1 h2
      exact lv_ineg hx hb hd (sP_n h H locs ls hr hv hL hS h1 h2)
    · exact sP_no h
  · cases len_of (n := 0) hl rfl
    unfold pop1 at h
    split at h
    · intro H locs ls hr hv hL hS h1 h2
      exact lv_i2l hx hb hd rfl (sP_n h H locs ls hr hv hL hS h1 h2)
    · exact sP_no h
  · cases len_of (n := 0) hl rfl
    unfold popJ at h
    split at h
    · intro H locs ls hr hv hL hS h1 h2
      exact lv_l2i hx hb hd rfl (sP_n h H locs ls hr hv hL hS h1 h2)
    · exact sP_no h
  · cases len_of (n := 0) hl rfl
    unfold popJJ at h
    split at h
    · intro H locs ls hr hv hL hS h1 h2
      exact lv_ladd hx hb hd (sP_n h H locs ls hr hv hL hS h1 h2)
    · exact sP_no h
  · cases len_of (n := 0) hl rfl
    unfold popJJ at h
    split at h
    · intro H locs ls hr hv hL hS h1 h2
      exact lv_lsub hx hb hd (sP_n h H locs ls hr hv hL hS h1 h2)
    · exact sP_no h
  · cases len_of (n := 0) hl rfl
    unfold popJJ at h
    split at h
    · intro H locs ls hr hv hL hS h1 h2
      exact lv_lmul hx hb hd (sP_n h H locs ls hr hv hL hS h1 h2)
    · exact sP_no h
  · cases len_of (n := 0) hl rfl
    unfold popJJ at h
    split at h
    · intro H locs ls hr hv hL hS h1 h2
      exact lv_land hx hb hd (sP_n h H locs ls hr hv hL hS h1 h2)
    · exact sP_no h
  · cases len_of (n := 0) hl rfl
    unfold popJJ at h
    split at h
    · intro H locs ls hr hv hL hS h1 h2
      exact lv_lor hx hb hd (sP_n h H locs ls hr hv hL hS h1 h2)
    · exact sP_no h
  · cases len_of (n := 0) hl rfl
    unfold popJJ at h
    split at h
    · intro H locs ls hr hv hL hS h1 h2
      exact lv_lxor hx hb hd (sP_n h H locs ls hr hv hL hS h1 h2)
    · exact sP_no h
  · cases len_of (n := 0) hl rfl
    unfold popJJ at h
    split at h
    · obtain ⟨hg, h⟩ := sP_gte.mp h
      intro H locs ls hr hv hL hS h1 h2
      exact lv_ldiv hx hb hd hg (sP_n h H locs ls hr hv hL hS h1 h2)
    · exact sP_no h
  · cases len_of (n := 0) hl rfl
    unfold popJJ at h
    split at h
    · obtain ⟨hg, h⟩ := sP_gte.mp h
      intro H locs ls hr hv hL hS h1 h2
      exact lv_lrem hx hb hd hg (sP_n h H locs ls hr hv hL hS h1 h2)
    · exact sP_no h
  · cases len_of (n := 0) hl rfl
    unfold popJI at h
    split at h
    · intro H locs ls hr hv hL hS h1 h2
      exact lv_lshl hx hb hd rfl (sP_n h H locs ls hr hv hL hS h1 h2)
    · exact sP_no h
  · cases len_of (n := 0) hl rfl
    unfold popJI at h
    split at h
    · intro H locs ls hr hv hL hS h1 h2
      exact lv_lshr hx hb hd rfl (sP_n h H locs ls hr hv hL hS h1 h2)
    · exact sP_no h
  · cases len_of (n := 0) hl rfl
    unfold popJI at h
    split at h
    · intro H locs ls hr hv hL hS h1 h2
      exact lv_lushr hx hb hd rfl (sP_n h H locs ls hr hv hL hS h1 h2)
    · exact sP_no h
  · cases len_of (n := 0) hl rfl
    unfold popJJ at h
    split at h
    · intro H locs ls hr hv hL hS h1 h2
      exact W.lcmp hx hb hd (sP_n h H locs ls hr hv hL hS h1 h2)
    · exact sP_no h
  · exact sP_no h
set_option maxHeartbeats 4000000 in
theorem w_br (cx : Cx p R s m args meth c q k d E n0 u0) (hd : decode (byt k) pc = .ok (i, len)) (hl : lenOK i len = true) (h : sP CC K (PW p l e R s m args below meth c Q q E n0 u0 k) G I J (doBr i pc L st G I J)) : PW p l e R s m args below meth c Q q E n0 u0 k pc L st G I J := by
  obtain ⟨hx, hb, hml, hown, hts, hK, hN, hR, hE, hct⟩ := cx
  unfold doBr at h
  split at h
  · rename_i cd off
    cases len_of (n := 2) hl rfl
    unfold pop1 at h
    split at h
    · cases cd
      · exact w_if (fun H locs ls t ht kt kf => lv_if_eq hx hb hd ht kt kf) h
      · exact w_if (fun H locs ls t ht kt kf => lv_if_ne hx hb hd ht kt (fun z => kf (fun w => w z))) h
      · exact w_if (fun H locs ls t ht kt kf => lv_if_lt hx hb hd ht kt kf) h
      · exact w_if (fun H locs ls t ht kt kf => lv_if_ge hx hb hd ht kt kf) h
      · exact w_if (fun H locs ls t ht kt kf => lv_if_gt hx hb hd ht kt kf) h
      · exact w_if (fun H locs ls t ht kt kf => lv_if_le hx hb hd ht kt kf) h
    · exact sP_no h
  · rename_i cd off
    cases len_of (n := 2) hl rfl
    unfold pop2 at h
    split at h
    · cases cd
      · exact w_if (fun H locs ls t ht kt kf => lv_icmp_eq hx hb hd ht kt kf) h
      · exact w_if (fun H locs ls t ht kt kf => lv_icmp_ne hx hb hd ht kt (fun z => kf (fun w => w z))) h
      · exact w_if (fun H locs ls t ht kt kf => lv_icmp_lt hx hb hd ht kt kf) h
      · exact w_if (fun H locs ls t ht kt kf => lv_icmp_ge hx hb hd ht kt kf) h
      · exact w_if (fun H locs ls t ht kt kf => lv_icmp_gt hx hb hd ht kt kf) h
      · exact w_if (fun H locs ls t ht kt kf => lv_icmp_le hx hb hd ht kt kf) h
    · exact sP_no h
  · rename_i off
    cases len_of (n := 2) hl rfl
    split at h
    · obtain ⟨u, hu, h⟩ := goTo_in h
      intro H locs ls hr hv hL hS h1 h2
      exact lv_ifnullN hx hb hd (tgt_in hu) (h H locs ls hr hv hL hS h1 h2)
    · intro H locs ls hr hv hL hS h1 h2
      exact lv_ifnull hx hb hd (sP_n h H locs ls hr hv hL hS h1 h2)
    · exact sP_no h
  · rename_i off
    cases len_of (n := 2) hl rfl
    split at h
    · obtain ⟨u, hu, h⟩ := goTo_in h
      intro H locs ls hr hv hL hS h1 h2
      exact lv_ifnonnull hx hb hd (tgt_in hu) (h H locs ls hr hv hL hS h1 h2)
    · intro H locs ls hr hv hL hS h1 h2
      exact lv_ifnonnullN hx hb hd (sP_n h H locs ls hr hv hL hS h1 h2)
    · exact sP_no h
  · rename_i off
    cases len_of (n := 2) hl rfl
    obtain ⟨u, hu, h⟩ := goTo_in h
    intro H locs ls hr hv hL hS h1 h2
    exact lv_goto hx hb hd (tgt_in hu) (h H locs ls hr hv hL hS h1 h2)
  · rename_i dd lo hi offs
    unfold pop1 at h
    split at h
    · rename_i x r
      dsimp only at h
      by_cases hh : x.toInt < lo ∨ hi < x.toInt
      · rw [if_pos hh] at h
        obtain ⟨u, hu, h⟩ := goTo_in h
        intro H locs ls hr hv hL hS h1 h2
        exact lv_tableOut hx hb hd hh (tgt_in hu) (h H locs ls hr hv hL hS h1 h2)
      · rw [if_neg hh] at h
        obtain ⟨u, hu, h⟩ := goTo_in h
        split at hu
        · rename_i off ho
          intro H locs ls hr hv hL hS h1 h2
          exact lv_tableIn hx hb hd (fun z => hh (Or.inl z)) (fun z => hh (Or.inr z)) ho (tgt_in hu) (h H locs ls hr hv hL hS h1 h2)
        · cases hu
    · exact sP_no h
  · cases len_of (n := 0) hl rfl
    split at h
    · obtain ⟨hg, h⟩ := sP_gte.mp h
      intro H locs ls hr hv hL hS h1 h2
      exact lv_dup hx hb hd (vmp_cat.trans hg) (sP_n h H locs ls hr hv hL hS h1 h2)
    · exact sP_no h
  · cases len_of (n := 0) hl rfl
    split at h
    · obtain ⟨hg, h⟩ := sP_gte.mp h
      intro H locs ls hr hv hL hS h1 h2
      exact lv_dup2_11 hx hb hd (vmp_cat.trans hg.1) (vmp_cat.trans hg.2) (sP_n h H locs ls hr hv hL hS h1 h2)
    · exact sP_no h
  · cases len_of (n := 0) hl rfl
    split at h
    · obtain ⟨hg, h⟩ := sP_gte.mp h
      intro H locs ls hr hv hL hS h1 h2
      exact lv_pop hx hb hd (vmp_cat.trans hg) (sP_n h H locs ls hr hv hL hS h1 h2)
    · exact sP_no h
  · exact sP_no h
end SndB
