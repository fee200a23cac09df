def R_law : String := "TruthWalkLaw"
def lw_P (b : Addr) (xs : List Int32) (args : Array Value) (s : State) : Prop := args = #[.ref b] ∧ s.IntsAt b xs ∧ xs.length ≤ 3072 ∧ (Jvm.Cond.and given_1 narrow_1).before args s = true
def lw_Q (_ : Array Value) (s : State) (o : Outcome) (t : State) : Prop := o = .returned (some (.int 1)) ∧ Framed s o t [] 600000 7302250
def lw_Z (below : List Frame) (a : Array Value) (s : State) : State → Prop := fun t => ∃ o, t.status = .running ∧ Ended t below o ∧ lw_Q a s o t
/-- the law's own end, with 1 on the stack, nothing written that was there before, its room as the claim has it -/
theorem lw_ret {p : Program} {l : Launch} {e : Env} {s : State} {m : MethodId} {below : List Frame} {meth : Method} {c : Code} {b : Nat} (hx : p.tables.exec = Jvm.exec) (hb : c.code = code) (hr : meth.sig.returnType = ret) (hlocks : meth.locks = false) {pc : Nat} {H : Heap} {ls : Array Slot} (hdg : decode code pc = .ok (.ireturn, 1)) : W p l e room_1 s m #[Value.ref b] below meth c H [] 600000 7302250 (lw_Z below #[Value.ref b] s) (F0 m pc ls [.int 1]) := by
  intro T hT X
  obtain ⟨fs, hret, hrun, hended, hW, hframe⟩ := X.leave (v := some (.int 1)) (hlocks := hlocks) (fun h => by rw [hr] at h; cases h)
  have hmeth' : T.vm.method? m = some meth := X.method'
  refine ⟨T.setFrames fs, ?_, .returned (some (.int 1)), hrun, hended, rfl, ⟨_, rfl⟩, hW, hframe⟩
  jvm_step X.here [X.here.top, hx, hb, hdg, hmeth', hr, ret, narrow_b1]
  (try refine ⟨rfl, ?_⟩); (try refine ⟨rfl, ?_⟩)
  first | (intro acts; rw [hret _ acts rfl rfl rfl]) | rw [hret _ _ rfl rfl rfl]
  exact Steps.refl _
/-- what holds at the law's entry: the machine, the code, the tables' words (any of lw_tbl by 'hts w (by decide +kernel)'), the script of L ints xs at the cell b, what the Statement gives of the start (any of its parts by flat_of_before) -/
def lw_At (p : Program) (s : State) (m : MethodId) (meth : Method) (c : Code) (b L : Nat) (xs : Nat → Int32) : Prop :=
  p.tables.exec = Jvm.exec ∧ c.code = code ∧ meth.sig.returnType = ret ∧ c.maxLocals = 4 ∧ s.vm.findClass R_law = some m.cls ∧ (∀ w ∈ lw_tbl, w.before #[Value.ref b] s = true) ∧ va_X b L xs s s.heap ∧ b < s.heap.size ∧ meth.locks = false ∧ (Jvm.Cond.and given_1 narrow_1).before #[Value.ref b] s = true

def pat : Nat → Int64 := fun j => match j with
  | 0 => -6148914691236517206
  | 1 => -3689348814741910324
  | 2 => -1085102592571150096
  | 3 => -71777214294589696
  | 4 => -281470681808896
  | _ => -4294967296
def G00 (Ln : Nat) : GT := (0, 0, fun c => if c = scrC then (5, Ln) else if c = patC then (6, 6) else (9, 0), fun _ _ => none)
def I00 (xs : Nat → Int32) : IT := fun c j => if c = scrC then xs j else 0
def J00 : JT := fun c j => if c = patC then pat j else 0
def K1 : KT := fun r _ _ _ => r = some (.int 1)
/-- what is left to show: the law goes through in the small machine -/
def ABS : Prop := ∀ (Ln : Nat) (xs : Nat → Int32), Ln ≤ 3072 → AW 300 (165, 391146) K1 209 0 [.ref scrC, nv, nv, nv] [] (G00 Ln) (I00 xs) J00
theorem known_all {args : Array Value} {s : State} (hts : ∀ w ∈ lw_good, w.before args s = true) : ∃ D : va_G, ∀ (k : Nat) (x : vw_C), clss[k]? = some x → u_Kn s x.1 x.2.1 x.2.2 (D.1 k) (D.2 k) := by
  have key : ∀ k : Nat, ∃ (cC : ClassId) (iS : Nat → Nat), ∀ x : vw_C, clss[k]? = some x → u_Kn s x.1 x.2.1 x.2.2 cC iS := by
    intro k
    by_cases hk : k < 8
    · obtain ⟨h1, h2, -, -⟩ := cls_all k hk
      have hi : Cond.instantiable (cnm k) (nfs k) ∈ lw_good := by
        refine good_mem ?_ rfl
        match k, hk with
        | 0, _ => decide +kernel
        | 1, _ => decide +kernel
        | 2, _ => decide +kernel
        | 3, _ => decide +kernel
        | 4, _ => decide +kernel
        | 5, _ => decide +kernel
        | 6, _ => decide +kernel
        | 7, _ => decide +kernel
        | n + 8, h => omega
      obtain ⟨cC, iS, h⟩ := u_known hts h2 (hts _ hi)
      refine ⟨cC, iS, fun x hx => ?_⟩
      rw [h1] at hx
      cases hx
      exact h
    · refine ⟨0, fun _ => 0, fun x hx => ?_⟩
      rw [List.getElem?_eq_none (by show 8 ≤ k; omega)] at hx
      cases hx
  refine ⟨(fun k => Classical.choose (key k), fun k => Classical.choose (Classical.choose_spec (key k))), fun k x hx => ?_⟩
  exact Classical.choose_spec (Classical.choose_spec (key k)) x hx
set_option maxHeartbeats 4000000 in
theorem whole_of (hA : ABS) {p : Program} {e : Env} {s : State} {m : MethodId} {below : List Frame} {meth : Method} {c : Code} (l : Launch) {b L : Nat} {xs : Nat → Int32} (hL : L ≤ 3072) (C0 : lw_At p s m meth c b L xs) : W p l e room_1 s m #[Value.ref b] below meth c s.heap [] 0 0 (lw_Z below #[Value.ref b] s) (entryFrame m ([Value.ref b] : List Value).toArray 4) := by
  obtain ⟨hx, hb, hr, hml, hown, hts, hX, hbl, hlocks, hgv⟩ := id C0
  have htg : ∀ w ∈ lw_good, w.before #[Value.ref b] s = true := fun w hw => hts w (List.mem_filter.mp hw).1
  have hgs := flat_of_before _ hgv
  obtain ⟨D, hD⟩ := known_all htg
  obtain ⟨cI, kI, oI, i1, i2, i3⟩ := Cond.arrayClass_spec (htg _ arr_words.1)
  obtain ⟨cJ, kJ, oJ, j1, j2, j3⟩ := Cond.arrayClass_spec (htg _ arr_words.2.1)
  obtain ⟨cZ, kZ, oZ, z1, z2, z3⟩ := Cond.arrayClass_spec (htg _ arr_words.2.2)
  have hAO : va_AO "TruthWalk$Level" s := va_AO.of (hts (.arrayOver (.object "TruthWalk$Level")) (by decide +kernel))
  obtain ⟨comp, cL, kL, o1, -, o3, o4, o5⟩ := Cond.arrayOver_spec hAO
  have hAb : ∀ a : Nat, a < s.heap.size → ¬ (fun a => s.heap.size ≤ a) a := fun a h => Nat.not_le.mpr h
  obtain ⟨t, ht, hT⟩ := va_Tof (tm := .static "TruthWalk" "PATTERNS" "[J") (ty := .long) (N := 6) (f := fun j => .long (pat j)) (A := fun a => s.heap.size ≤ a) (by decide) (hgs _ (by decide +kernel)) (va_eqt (z := 6) (hgs _ (by decide +kernel))) (fun j hj => by
    match j, hj with
    | 0, _ => exact va_eqtl (hgs _ (by decide +kernel))
    | 1, _ => exact va_eqtl (hgs _ (by decide +kernel))
    | 2, _ => exact va_eqtl (hgs _ (by decide +kernel))
    | 3, _ => exact va_eqtl (hgs _ (by decide +kernel))
    | 4, _ => exact va_eqtl (hgs _ (by decide +kernel))
    | 5, _ => exact va_eqtl (hgs _ (by decide +kernel))
    | n + 6, h => exact absurd h (by omega)) hAb
  have hZ := va_Zref (A := fun a => s.heap.size ≤ a) (hts (.laysStatic "TruthWalk" "PATTERNS" "[J") (by decide +kernel)) (hts (.initialized "TruthWalk") (by decide +kernel)) ht hAb
  have hTs : va_T .int b L (fun j => .int (xs j)) (fun a => s.heap.size ≤ a) s s.heap := by
    obtain ⟨scr, h1, h2, h3, h4, h5⟩ := hX
    exact ⟨scr, h1, h2, h3, by omega, by rw [h4] <;> rfl, h5, hAb b hbl⟩
  let q : CN := (D, (cI, cJ, cZ, cL), s.heap.size, b, t, L, xs, pat)
  have hK : KnU q s := by
    refine ⟨⟨hD, fun k x hk => ?_⟩, hTs, hZ, hT⟩
    match k, hk with
    | 0, hk => cases hk; exact ⟨fun n z => ⟨fun k h => (by cases h), kI, i2, oI, i3⟩, i1⟩
    | 1, hk => cases hk; exact ⟨fun n z => ⟨fun k h => (by cases h), kJ, j2, oJ, j3⟩, j1⟩
    | 2, hk => cases hk; exact ⟨fun n z => ⟨fun k h => (by cases h), kZ, z2, oZ, z3⟩, z1⟩
    | 3, hk => cases hk; exact ⟨fun n z => ⟨fun k h => (by cases h), kL, o3, comp, o4⟩, kL, comp, o3, o4, o1, o5⟩
    | k + 4, hk => simp [tysQ] at hk
  have hN : NwU s := by
    refine ⟨fun w hw => ?_, hAO⟩
    have h1 := hts w (List.mem_filter.mp hw).1
    have h2 := (List.mem_filter.mp hw).2
    cases w <;> simp at h2
    exact va_Nw.of rfl h1
  have cx : Cx p room_1 s m #[Value.ref b] meth c q 209 300 (165, 391146) 0 0 := ⟨hx, hb, hml, hown, htg, hK, hN, ⟨by decide, by decide, by decide, by decide⟩, ⟨by decide, rfl⟩, fun h => by cases h⟩
  have hR : Rel q (G00 L) (I00 xs) J00 s.heap := by
    refine ⟨fun k x hk => ?_, Nat.zero_le _, fun c hc => absurd hc (Nat.not_lt_zero _), ⟨rfl, fun j => rfl⟩, ⟨rfl, fun j => rfl⟩⟩
    simp [wl, G00] at hk
  have hQ : RetH p l e room_1 s m #[Value.ref b] below meth c (lw_Z below #[Value.ref b] s) q (165, 391146) 0 0 209 K1 := by
    intro r pc ls H locs G' I' J' hK' hR' hS g1 g2 hri
    have hK' : r = some (.int 1) := hK'
    subst hK'
    refine va_forget (fun x hx => hS.2.2 x hx) ?_
    refine W.widen (k := 600000) (n := 7302250) (by rw [g1]; decide) (by rw [g2]; decide) ?_
    exact lw_ret hx hb hr hlocks hri.1
  have hpw := snd_body hQ (fun y as G I J K hy h => snd_call l q 300 y as G I J K hy h) cx (hA L xs hL)
  obtain ⟨hlen, hlv⟩ := ent_lv (hb := q.hb) (b := q.b) (t := q.t) (y := 209) (as := [.ref scrC]) rfl (by decide)
  rw [lg_entry_eq]
  exact hpw s.heap [] _ hR hlv hlen va_S.rf ⟨Nat.le_refl _, Nat.zero_le _⟩ ⟨Nat.le_refl _, Nat.zero_le _⟩
