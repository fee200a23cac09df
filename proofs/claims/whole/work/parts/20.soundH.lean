def RI (k pc : Nat) (r : Option Value) : Prop := match r with
  | some (.int v) => decode (byt k) pc = .ok (.ireturn, 1) ∧ (rtc k = 1 ∨ (rtc k = 2 ∧ (v = 0 ∨ v = 1)))
  | some (.long _) => decode (byt k) pc = .ok (.lreturn, 1) ∧ rtc k = 3
  | some (.ref _) => decode (byt k) pc = .ok (.areturn, 1) ∧ rtc k = 4
  | some .null => decode (byt k) pc = .ok (.areturn, 1) ∧ rtc k = 4
  | none => decode (byt k) pc = .ok (.return_, 1) ∧ rtc k = 0
  | _ => False
def RetH (p : Program) (l : Launch) (e : Env) (R : Room) (s : State) (m : MethodId) (args : Array Value) (below : List Frame) (meth : Method) (c : Code) (Q : State → Prop) (q : CN) (E : Nat × Nat) (n0 u0 k : Nat) (K : KT) : Prop := ∀ (r : Option Value) (pc : Nat) (ls : Array Slot) (H : Heap) (locs : List Loc) (G : GT) (I : IT) (J : JT), K r G I J → Rel q G I J H → va_S q.A s.heap H locs → G.1 = E.1 → G.2.1 = E.2 → RI k pc r → W p l e R s m args below meth c H locs (G.1 - n0) (G.2.1 - u0) Q (F0 m pc ls ((r.map (vmp q.hb q.b q.t)).toList))
theorem jdk_words : (Cond.instanceMethod Lib.objectInit ∈ lw_good ∧ Cond.code Lib.objectInit ⟨#[0xb1]⟩ 1 none ∈ lw_good) ∧ (Cond.native arraycopyName ∈ lw_good ∧ Cond.static arraycopyName ∈ lw_good ∧ Cond.initialized "java/lang/System" ∈ lw_good) ∧ Cond.initialized "java/lang/Math" ∈ lw_good ∧ (Cond.static Lib.Math.max.name ∈ lw_good ∧ Cond.code Lib.Math.max.name Lib.Math.max.code 2 (some .int) ∈ lw_good) ∧ (Cond.static Lib.Math.min.name ∈ lw_good ∧ Cond.code Lib.Math.min.name Lib.Math.min.code 2 (some .int) ∈ lw_good) ∧ Cond.static Lib.Math.abs.name ∈ lw_good ∧ Cond.code Lib.Math.abs.name Lib.Math.abs.code 1 (some .int) ∈ lw_good := by
  refine ⟨⟨good_mem ?_ rfl, good_mem ?_ rfl⟩, ⟨good_mem ?_ rfl, good_mem ?_ rfl, good_mem ?_ rfl⟩, good_mem ?_ rfl, ⟨good_mem ?_ rfl, good_mem ?_ rfl⟩, ⟨good_mem ?_ rfl, good_mem ?_ rfl⟩, good_mem ?_ rfl, good_mem ?_ rfl⟩ <;> decide +kernel
theorem arr_words : Cond.arrayClass .int ∈ lw_good ∧ Cond.arrayClass .long ∈ lw_good ∧ Cond.arrayClass .boolean ∈ lw_good := by
  refine ⟨good_mem ?_ rfl, good_mem ?_ rfl, good_mem ?_ rfl⟩ <;> decide +kernel
theorem pat_word : Cond.fieldLink (cnm 6) 256 "TruthWalk" "PATTERNS" "[J" ∈ lw_good := good_mem (by decide +kernel) rfl
theorem rtc_is {k : Nat} : (rtc k = 0 → rty k = none) ∧ (rtc k = 1 → rty k = some .int) ∧ (rtc k = 2 → rty k = some .boolean) ∧ (rtc k = 3 → rty k = some .long) ∧ (rtc k = 4 → (∃ n, rty k = some (.object n)) ∨ ∃ t, rty k = some (.array t)) := by
  unfold rtc
  split <;> simp_all
section SndH
variable {p : Program} {l : Launch} {e : Env} {R : Room} {s : State} {m : MethodId} {args : Array Value} {below : List Frame} {meth : Method} {c : Code} {Q : State → Prop} {q : CN} {n0 u0 k d : Nat} {E : Nat × Nat} {CC : Nat → List Value → GT → IT → JT → KT → Prop} {K : KT} {pc len : Nat} {L st : List Value} {G : GT} {I : IT} {J : JT} {i : Instr} {H : Heap}
theorem w_ret (hQ : RetH p l e R s m args below meth c Q q E n0 u0 k K) (hd : decode (byt k) pc = .ok (i, len)) (hl : lenOK i len = true) (h : sP CC K (PW p l e R s m args below meth c Q q E n0 u0 k) G I J (doRet i k st G I J E)) : PW p l e R s m args below meth c Q q E n0 u0 k pc L st G I J := by
  unfold doRet at h
  split at h
  · rename_i v
    cases len_of (n := 0) hl rfl
    obtain ⟨⟨g1, g2, g3⟩, h⟩ := sP_gte.mp h
    intro H locs ls hr hv hL hS h1 h2
    exact hQ (some (.int v)) pc ls H locs G I J h hr hS g1 g2 ⟨hd, g3⟩
  · rename_i v
    cases len_of (n := 0) hl rfl
    obtain ⟨⟨g1, g2, g3⟩, h⟩ := sP_gte.mp h
    intro H locs ls hr hv hL hS h1 h2
    exact hQ (some (.long v)) pc ls H locs G I J h hr hS g1 g2 ⟨hd, g3⟩
  · rename_i v
    cases len_of (n := 0) hl rfl
    obtain ⟨⟨g1, g2, g3⟩, h⟩ := sP_gte.mp h
    intro H locs ls hr hv hL hS h1 h2
    exact hQ (some (.ref v)) pc ls H locs G I J h hr hS g1 g2 ⟨hd, g3⟩
  · cases len_of (n := 0) hl rfl
    obtain ⟨⟨g1, g2, g3⟩, h⟩ := sP_gte.mp h
    intro H locs ls hr hv hL hS h1 h2
    exact hQ (some .null) pc ls H locs G I J h hr hS g1 g2 ⟨hd, g3⟩
  · cases len_of (n := 0) hl rfl
    obtain ⟨⟨g1, g2, g3⟩, h⟩ := sP_gte.mp h
    intro H locs ls hr hv hL hS h1 h2
    exact hQ none pc ls H locs G I J h hr hS g1 g2 ⟨hd, g3⟩
  · exact sP_no h
theorem w_step (hQ : RetH p l e R s m args below meth c Q q E n0 u0 k K) (hC : ∀ y as G I J K, y < 206 → CC y as G I J K → MetK l q d y as G I J K) (cx : Cx p R s m args meth c q k d E n0 u0) (h : sP CC K (PW p l e R s m args below meth c Q q E n0 u0 k) G I J (stp k pc L st G I J E)) : PW p l e R s m args below meth c Q q E n0 u0 k pc L st G I J := by
  unfold stp at h
  split at h
  · rename_i i len hd
    split at h
    · rename_i hl
      unfold ins1 at h
      split at h
      · exact w_ld cx hd hl h
      · exact w_op cx hd hl h
      · exact w_br cx hd hl h
      · exact w_ar cx hd hl h
      · exact w_ret hQ hd hl h
      · split at h
        · cases len_of (n := 2) hl rfl; exact w_get cx hd h
        · cases len_of (n := 2) hl rfl; exact w_put cx hd h
        · cases len_of (n := 2) hl rfl; exact w_gets pat_word cx hd h
        · cases len_of (n := 2) hl rfl; exact w_new cx hd h
        · cases len_of (n := 1) hl rfl; exact w_newa arr_words cx hd h
        · cases len_of (n := 2) hl rfl; exact w_newq cx hd h
        · cases len_of (n := 2) hl rfl; exact w_inv (Or.inl ⟨rfl, rfl⟩) jdk_words hC cx hd h
        · cases len_of (n := 2) hl rfl; exact w_inv (Or.inr (Or.inl ⟨rfl, rfl⟩)) jdk_words hC cx hd h
        · cases len_of (n := 2) hl rfl; exact w_inv (Or.inr (Or.inr ⟨rfl, rfl⟩)) jdk_words hC cx hd h
        · exact sP_no h
    · exact sP_no h
  · exact sP_no h
/-- a body that goes through in the small machine goes through in the machine -/
theorem snd_body (hQ : RetH p l e R s m args below meth c Q q E n0 u0 k K) (hC : ∀ y as G I J K, y < 206 → CC y as G I J K → MetK l q d y as G I J K) (cx : Cx p R s m args meth c q k d E n0 u0) (h : AWF CC E K k pc L st G I J) : PW p l e R s m args below meth c Q q E n0 u0 k pc L st G I J :=
  h (PW p l e R s m args below meth c Q q E n0 u0 k) (fun _ _ _ _ _ _ z => w_step hQ hC cx z)
end SndH
theorem lg_cons {v : Value} {r : List Value} : lg_sl (v :: r) = (if v.category = 2 then [.val v, .second] else [.val v]) ++ lg_sl r := by simp [lg_sl]
theorem sl_len {hb b t : Nat} {as : List Value} (h : okA as = true) : (lg_sl (as.map (vmp hb b t))).length = (entA as).length ∧ ∀ v ∈ as, ∀ f, v ≠ .double f := by
  induction as with
  | nil => exact ⟨rfl, fun v hv => by simp at hv⟩
  | cons v r ih =>
    cases v with
    | int x =>
      obtain ⟨h1, h2⟩ := ih h
      refine ⟨?_, fun w hw f => by
        rcases List.mem_cons.mp hw with rfl | hw
        · intro z; cases z
        · exact h2 w hw f⟩
      rw [List.map_cons, lg_cons, List.length_append, h1]
      show 1 + (entA r).length = (entA r).length + 1
      omega
    | long x =>
      obtain ⟨h1, h2⟩ := ih h
      refine ⟨?_, fun w hw f => by
        rcases List.mem_cons.mp hw with rfl | hw
        · intro z; cases z
        · exact h2 w hw f⟩
      rw [List.map_cons, lg_cons, List.length_append, h1]
      show 2 + (entA r).length = (entA r).length + 1 + 1
      omega
    | ref x =>
      obtain ⟨h1, h2⟩ := ih h
      refine ⟨?_, fun w hw f => by
        rcases List.mem_cons.mp hw with rfl | hw
        · intro z; cases z
        · exact h2 w hw f⟩
      rw [List.map_cons, lg_cons, List.length_append, h1]
      show 1 + (entA r).length = (entA r).length + 1
      omega
    | null =>
      obtain ⟨h1, h2⟩ := ih h
      refine ⟨?_, fun w hw f => by
        rcases List.mem_cons.mp hw with rfl | hw
        · intro z; cases z
        · exact h2 w hw f⟩
      rw [List.map_cons, lg_cons, List.length_append, h1]
      show 1 + (entA r).length = (entA r).length + 1
      omega
    | float x => cases h
    | double x => cases h
    | retAddr x => cases h
theorem ent_lv {hb b t y : Nat} {as : List Value} (h : okA as = true) (hz : (entA as).length ≤ mxl y) : (entL y as).length = mxl y ∧ lv_has ((lg_sl (as.map (vmp hb b t)) ++ List.replicate (mxl y - (lg_sl (as.map (vmp hb b t))).length) Slot.unset).toArray) (entL y as).length (lvF hb b t 0 (entL y as)) := by
  obtain ⟨h1, h2⟩ := sl_len (hb := hb) (b := b) (t := t) h
  have hlen : (entL y as).length = mxl y := by
    unfold entL
    rw [List.length_append, List.length_replicate]
    omega
  have he := lv_entry (as.map (vmp hb b t)) (n := mxl y) (by rw [h1]; exact hz)
  refine ⟨hlen, ?_⟩
  rw [hlen]
  exact ⟨he.1, he.2.1, fun q hq => he.2.2 q (lv_entA h2 0 _ q hq)⟩
set_option maxHeartbeats 4000000 in
/-- SOUNDNESS: what a call does in the small machine it does in the machine -/
theorem snd_call (l : Launch) (q : CN) : ∀ (d y : Nat) (as : List Value) (G : GT) (I : IT) (J : JT) (K : KT), y < 206 → ACall d y as G I J K → MetK l q d y as G I J K := by
  intro d
  induction d with
  | zero => intro y as G I J K _ h; exact absurd h (by simp [ACall])
  | succ d ih =>
    intro y as G I J K hy h
    obtain ⟨⟨hok, hlz⟩, h⟩ := h
    obtain ⟨hpl, hcn, -, -, -, hmx, hcti⟩ := met_ok hy
    refine Met.ofW (cc := byt y) (maxL := mxl y) (ret := rty y) hpl rfl ?_
    intro p e s m args below meth c s₁ B hml hv
    obtain ⟨rfl, hsz, hR, hK, hN, hbd⟩ := hv
    have hts := atoms_spec (ws := wsM y) B.pre
    have hown : s.vm.findClass (mth y).cls = some m.cls := findClass_of_methodNamed B.named
    have hnm : meth.name = (mth y).name := (name_of_methodNamed B.named B.method).1
    obtain ⟨hlen, hlv⟩ := ent_lv (hb := q.hb) (b := q.b) (t := q.t) (y := y) hok hlz
    rw [lg_entry_eq]
    have cx : Cx p (rmM (d + 1) y) s m (as.map (vmp q.hb q.b q.t)).toArray meth c q y d (G.1 + (mcs y).1, G.2.1 + (mcs y).2) G.1 G.2.1 := by
      refine ⟨B.exec, B.bytes, hml, by rw [← hcn]; exact hown, fun w hw => hts w (List.mem_cons_of_mem _ hw), hK, hN, ⟨Nat.le_refl _, by show 200 * d + 400 ≤ 200 * (d + 1) + 200; omega, Nat.le_refl _, Nat.le_refl _⟩, ⟨hbd, hsz⟩, fun hct => ?_⟩
      rw [hcti] at hct
      rw [hnm]
      exact of_decide_eq_true hct
    have hQ : RetH p l e (rmM (d + 1) y) s m (as.map (vmp q.hb q.b q.t)).toArray below meth c (MQ below (QcM q y G K) (as.map (vmp q.hb q.b q.t)).toArray s (mcs y).1 (mcs y).2 q.A) q (G.1 + (mcs y).1, G.2.1 + (mcs y).2) G.1 G.2.1 y K := by
      intro r pc ls H locs G' I' J' hK' hR' hS g1 g2 hri
      have hr := B.returns
      have hlocks := B.notSynchronized
      refine cs_eq (x := (mcs y).1) (y := (mcs y).2) (by rw [g1]; omega) (by rw [g2]; omega) ?_
      have post : ∀ t : State, t.heap = H → s.WarmedH t.vm → QcM q y G K (as.map (vmp q.hb q.b q.t)).toArray s (.returned (r.map (vmp q.hb q.b q.t))) t := fun t ht _ => ⟨⟨r, G', I', J', rfl, hK', by rw [ht]; exact hR', g1, g2⟩, hS.F ht⟩
      unfold RI at hri
      split at hri
      · rename_i v
        rcases hri.2 with z | ⟨z, z2⟩
        · exact W.iret B.exec B.bytes (hr.trans (rtc_is.2.1 z)) post hS.2.2 hri.1
        · exact W.zret (ty := .boolean) B.exec B.bytes (hr.trans (rtc_is.2.2.1 z)) (nar_z z2).2.1 post hS.2.2 hri.1
      · exact W.lret B.exec B.bytes (hr.trans (rtc_is.2.2.2.1 hri.2)) post hS.2.2 hri.1
      · rcases rtc_is.2.2.2.2 hri.2 with ⟨n, z⟩ | ⟨n, z⟩
        · exact W.aret (rt := .object n) B.exec B.bytes (hr.trans z) (Or.inl ⟨n, rfl⟩) (Or.inr ⟨_, rfl⟩) post hS.2.2 hri.1
        · exact W.aret (rt := .array n) B.exec B.bytes (hr.trans z) (Or.inr ⟨n, rfl⟩) (Or.inr ⟨_, rfl⟩) post hS.2.2 hri.1
      · rcases rtc_is.2.2.2.2 hri.2 with ⟨n, z⟩ | ⟨n, z⟩
        · exact W.aret (rt := .object n) B.exec B.bytes (hr.trans z) (Or.inl ⟨n, rfl⟩) (Or.inl rfl) post hS.2.2 hri.1
        · exact W.aret (rt := .array n) B.exec B.bytes (hr.trans z) (Or.inr ⟨n, rfl⟩) (Or.inl rfl) post hS.2.2 hri.1
      · exact W.vret B.exec B.bytes (hr.trans (rtc_is.1 hri.2)) post hS.2.2 hri.1
      · exact absurd hri (by simp)
    have hpw := snd_body hQ (fun y as G I J K hy h => ih y as G I J K hy h) cx h
    exact cs_eq (Nat.sub_self _).symm (Nat.sub_self _).symm (hpw s.heap [] _ hR hlv hlen va_S.rf ⟨Nat.le_refl _, Nat.le_add_right _ _⟩ ⟨Nat.le_refl _, Nat.le_add_right _ _⟩)
