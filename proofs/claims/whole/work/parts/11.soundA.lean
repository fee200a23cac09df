/-! soundness of the small machine over W: what a state is -/
def adr (hb b t c : Nat) : Nat := if c = scrC then b else if c = patC then t else hb + c
def vmp (hb b t : Nat) (v : Value) : Value := match v with
  | .ref c => .ref (adr hb b t c)
  | w => w
def fvE (hb b t : Nat) (G : GT) (I : IT) (c ci k : Nat) : Value := match fty ci k with
  | 2 => va_rf ((G.2.2.2 c k).map (adr hb b t))
  | _ => .int (I c k)
def cE (cs : ClassId × ClassId × ClassId × ClassId) (hb b t : Nat) (G : GT) (I : IT) (J : JT) (c : Nat) : va_E := match (G.2.2.1 c).1 with
  | 0 => .inr ((G.2.2.1 c).2, (List.range (nfs (G.2.2.1 c).2)).map (fvE hb b t G I c (G.2.2.1 c).2))
  | 1 => .inl (cs.1, (G.2.2.1 c).2, .inl (I c))
  | 2 => .inl (cs.2.1, (G.2.2.1 c).2, .inr (.inl (J c)))
  | 3 => .inl (cs.2.2.1, (G.2.2.1 c).2, .inl (I c))
  | 4 => .inl (cs.2.2.2, (G.2.2.1 c).2, .inr (.inr (.inr (.inr (fun k => (G.2.2.2 c k).map (adr hb b t))))))
  | _ => .inl (cs.1, 0, .inl (fun _ => 0))
def wl (cs : ClassId × ClassId × ClassId × ClassId) (hb b t : Nat) (G : GT) (I : IT) (J : JT) : va_W := (List.range G.1).map (fun c => (hb + c, cE cs hb b t G I J c))
/-- the constants of a run: array classes, base address, script's and table's address, the script -/
abbrev CN : Type := va_G × (ClassId × ClassId × ClassId × ClassId) × Nat × Nat × Nat × Nat × (Nat → Int32) × (Nat → Int64)
abbrev CN.hb (q : CN) : Nat := q.2.2.1
abbrev CN.b (q : CN) : Nat := q.2.2.2.1
abbrev CN.t (q : CN) : Nat := q.2.2.2.2.1
abbrev CN.Ln (q : CN) : Nat := q.2.2.2.2.2.1
abbrev CN.xs (q : CN) : Nat → Int32 := q.2.2.2.2.2.2.1
abbrev CN.pt (q : CN) : Nat → Int64 := q.2.2.2.2.2.2.2
abbrev CN.A (q : CN) : Nat → Prop := fun a => q.hb ≤ a
def tysQ (q : CN) : List (ClassId × FieldType) := [(q.2.1.1, .int), (q.2.1.2.1, .long), (q.2.1.2.2.1, .boolean), (q.2.1.2.2.2, .object "TruthWalk$Level")]
def Rel (q : CN) (G : GT) (I : IT) (J : JT) (H : Heap) : Prop := va_P q.1 clss (wl q.2.1 q.hb q.b q.t G I J) H ∧ G.1 ≤ 600000 ∧ (∀ c, c < G.1 → (G.2.2.1 c).1 ≤ 4) ∧ (G.2.2.1 scrC = (5, q.Ln) ∧ ∀ j, I scrC j = q.xs j) ∧ (G.2.2.1 patC = (6, 6) ∧ ∀ j, J patC j = q.pt j)
def KnU (q : CN) (U : State) : Prop := va_K q.1 clss (tysQ q) U ∧ va_T .int q.b q.Ln (fun j => .int (q.xs j)) q.A U U.heap ∧ va_Z "TruthWalk" "PATTERNS" "[J" (.ref q.t) q.A U U.heap ∧ va_T .long q.t 6 (fun j => .long (q.pt j)) q.A U U.heap
theorem wl_get {cs : ClassId × ClassId × ClassId × ClassId} {hb b t : Nat} {G : GT} {I : IT} {J : JT} {c : Nat} (h : c < G.1) : (wl cs hb b t G I J)[c]? = some (hb + c, cE cs hb b t G I J c) := by
  unfold wl
  rw [List.getElem?_map, List.getElem?_range h]
  rfl
theorem wl_len {cs : ClassId × ClassId × ClassId × ClassId} {hb b t : Nat} {G : GT} {I : IT} {J : JT} : (wl cs hb b t G I J).length = G.1 := by simp [wl]
theorem wl_inv {cs : ClassId × ClassId × ClassId × ClassId} {hb b t : Nat} {G : GT} {I : IT} {J : JT} {c : Nat} {x : Nat × va_E} (h : (wl cs hb b t G I J)[c]? = some x) : c < G.1 ∧ x = (hb + c, cE cs hb b t G I J c) := by
  have h1 : c < G.1 := by
    have := (List.getElem?_eq_some_iff.mp h).1
    rwa [wl_len] at this
  exact ⟨h1, Option.some.inj (h.symm.trans (wl_get h1))⟩
theorem wl_D {cs : ClassId × ClassId × ClassId × ClassId} {hb b t : Nat} {G : GT} {I : IT} {J : JT} : va_D (fun a => hb ≤ a) (wl cs hb b t G I J) := by
  refine ⟨fun i j p q hi hj e => ?_, fun k q hk => ?_⟩
  · obtain ⟨-, rfl⟩ := wl_inv hi
    obtain ⟨-, rfl⟩ := wl_inv hj
    have e : hb + i = hb + j := e
    omega
  · obtain ⟨-, rfl⟩ := wl_inv hk
    exact Nat.le_add_right _ _
/-- one cell of the list is set -/
theorem wl_set {cs : ClassId × ClassId × ClassId × ClassId} {hb b t : Nat} {G G' : GT} {I I' : IT} {J J' : JT} {c : Nat} {x : va_E} (hc : c < G.1) (hn : G'.1 = G.1) (hx : cE cs hb b t G' I' J' c = x) (ho : ∀ a, a < G.1 → a ≠ c → cE cs hb b t G' I' J' a = cE cs hb b t G I J a) : (wl cs hb b t G I J).set c (hb + c, x) = wl cs hb b t G' I' J' := by
  apply List.ext_getElem?
  intro i
  rw [List.getElem?_set]
  by_cases h : c = i
  · subst h
    rw [if_pos rfl, if_pos (by rw [wl_len]; exact hc), wl_get (by rw [hn]; exact hc), hx]
  · rw [if_neg h]
    by_cases hi : i < G.1
    · rw [wl_get hi, wl_get (by rw [hn]; exact hi), ho i hi (fun e => h e.symm)]
    · rw [List.getElem?_eq_none (by rw [wl_len]; omega), List.getElem?_eq_none (by rw [wl_len, hn]; omega)]
theorem wl_push {cs : ClassId × ClassId × ClassId × ClassId} {hb b t : Nat} {G G' : GT} {I I' : IT} {J J' : JT} {x : va_E} (hn : G'.1 = G.1 + 1) (hx : cE cs hb b t G' I' J' G.1 = x) (ho : ∀ a, a < G.1 → cE cs hb b t G' I' J' a = cE cs hb b t G I J a) : wl cs hb b t G I J ++ [(hb + G.1, x)] = wl cs hb b t G' I' J' := by
  unfold wl
  rw [hn, List.range_succ, List.map_append, ← hx]
  congr 1
  apply List.map_congr_left
  intro a ha
  rw [ho a (List.mem_range.mp ha)]
theorem vmp_cat {hb b t : Nat} {v : Value} : (vmp hb b t v).category = v.category := by cases v <;> rfl
theorem vmp_rf {hb b t : Nat} {r : Option Nat} : vmp hb b t (refV r) = va_rf (r.map (adr hb b t)) := by cases r <;> rfl
theorem catS_map {hb b t : Nat} {st : List Value} : ((st.map (vmp hb b t)).map fun v => v.category).sum = catS st := by
  unfold catS
  rw [List.map_map]
  congr 1
  apply List.map_congr_left
  intro v _
  exact vmp_cat
/-! locals -/
def lvF (hb b t : Nat) : Nat → List Value → List (Nat × Value)
  | _, [] => []
  | i, .retAddr _ :: l => lvF hb b t (i + 1) l
  | i, v :: l => (i, vmp hb b t v) :: lvF hb b t (i + 1) l
theorem lvF_mem {hb b t : Nat} {L : List Value} : ∀ {i : Nat} {q : Nat × Value}, q ∈ lvF hb b t i L ↔ ∃ j, j < L.length ∧ q.1 = i + j ∧ q.2 = vmp hb b t (nth L j) ∧ ∀ a, nth L j ≠ .retAddr a := by
  induction L with
  | nil => intro i q; simp [lvF]
  | cons v l ih =>
    intro i q
    have key : q ∈ lvF hb b t (i + 1) l ↔ ∃ j, j + 1 < (v :: l).length ∧ q.1 = i + (j + 1) ∧ q.2 = vmp hb b t (nth (v :: l) (j + 1)) ∧ ∀ a, nth (v :: l) (j + 1) ≠ .retAddr a := by
      rw [ih]
      constructor
      · rintro ⟨j, h1, h2, h3, h4⟩
        exact ⟨j, by simpa using h1, by omega, h3, h4⟩
      · rintro ⟨j, h1, h2, h3, h4⟩
        exact ⟨j, by simpa using h1, by omega, h3, h4⟩
    have split : (∃ j, j < (v :: l).length ∧ q.1 = i + j ∧ q.2 = vmp hb b t (nth (v :: l) j) ∧ ∀ a, nth (v :: l) j ≠ .retAddr a) ↔ ((q.1 = i ∧ q.2 = vmp hb b t v ∧ ∀ a, v ≠ .retAddr a) ∨ q ∈ lvF hb b t (i + 1) l) := by
      rw [key]
      constructor
      · rintro ⟨j, h1, h2, h3, h4⟩
        match j, h1, h2, h3, h4 with
        | 0, h1, h2, h3, h4 => exact Or.inl ⟨by omega, h3, h4⟩
        | j + 1, h1, h2, h3, h4 => exact Or.inr ⟨j, h1, h2, h3, h4⟩
      · rintro (⟨h2, h3, h4⟩ | ⟨j, h1, h2, h3, h4⟩)
        · exact ⟨0, by simp, by omega, h3, h4⟩
        · exact ⟨j + 1, h1, h2, h3, h4⟩
    rw [split]
    cases v with
    | retAddr a => simp [lvF]
    | _ =>
      simp only [lvF, List.mem_cons]
      constructor
      · rintro (rfl | h)
        · exact Or.inl ⟨rfl, rfl, fun a h => by cases h⟩
        · exact Or.inr h
      · rintro (⟨h2, h3, -⟩ | h)
        · exact Or.inl (Prod.ext h2 h3)
        · exact Or.inr h
theorem lvF_at {hb b t nL : Nat} {ls : Array Slot} {L : List Value} (h : lv_has ls nL (lvF hb b t 0 L)) {i : Nat} (hi : i < L.length) (hn : ∀ a, nth L i ≠ .retAddr a) : ls[i]? = some (.val (vmp hb b t (nth L i))) :=
  h.2.2 (i, vmp hb b t (nth L i)) (lvF_mem.mpr ⟨i, hi, by simp, rfl, hn⟩)
theorem nth_lt {L : List Value} {i : Nat} (h : ∀ a, nth L i ≠ .retAddr a) : i < L.length := by
  induction L generalizing i with
  | nil => exact absurd rfl (h 0)
  | cons v l ih =>
    match i, h with
    | 0, _ => simp
    | i + 1, h => simpa using ih h
theorem setL_len {L : List Value} {i : Nat} {v : Value} : (setL L i v).length = L.length := by
  induction L generalizing i with
  | nil => rfl
  | cons a l ih =>
    match i with
    | 0 => rfl
    | 1 => simp [setL, ih]
    | i + 2 => simp [setL, ih]
theorem nth_setL {L : List Value} {i j : Nat} {v : Value} (h : i < L.length) : nth (setL L i v) j = if j = i then v else if j + 1 = i then kil (nth L j) else nth L j := by
  induction L generalizing i j with
  | nil => simp at h
  | cons a l ih =>
    match i, j with
    | 0, 0 => rfl
    | 0, j + 1 => simp [setL, nth]
    | 1, 0 => simp [setL, nth]
    | 1, j + 1 =>
      have := ih (i := 0) (j := j) (by simpa using h)
      simp only [setL, nth, this]
      by_cases hj : j = 0
      · subst hj; simp
      · simp [hj]
    | i + 2, 0 => simp [setL, nth]
    | i + 2, j + 1 =>
      have := ih (i := i + 1) (j := j) (by simp only [List.length_cons] at h ⊢; omega)
      simp only [setL, nth, this]
      simp
theorem setJ_len {L : List Value} {i : Nat} {v : Value} (h : i + 1 < L.length) : (setJ L i v).length = L.length := by
  induction L generalizing i with
  | nil => simp at h
  | cons a l ih =>
    match l, i, h with
    | [], _, h => simp at h
    | b :: l, 0, _ => rfl
    | b :: l, 1, h => simp [setJ, ih (i := 0) (by simp only [List.length_cons] at h ⊢; omega)]
    | b :: l, i + 2, h => simp [setJ, ih (i := i + 1) (by simp only [List.length_cons] at h ⊢; omega)]
theorem nth_setJ {L : List Value} {i j : Nat} {v : Value} (h : i + 1 < L.length) : nth (setJ L i v) j = if j = i then v else if j = i + 1 then nv else if j + 1 = i then kil (nth L j) else nth L j := by
  induction L generalizing i j with
  | nil => simp at h
  | cons a l ih =>
    match l, i, j, h with
    | [], _, _, h => simp at h
    | b :: l, 0, 0, _ => rfl
    | b :: l, 0, 1, _ => rfl
    | b :: l, 0, j + 2, _ => simp [setJ, nth]
    | b :: l, 1, 0, _ => simp [setJ, nth]
    | b :: l, 1, j + 1, h =>
      have := ih (i := 0) (j := j) (by simpa using h)
      simp only [setJ, nth, this]
      by_cases h0 : j = 0
      · subst h0; simp
      · by_cases h1 : j = 1
        · subst h1; simp
        · simp [h0, h1]
    | b :: l, i + 2, 0, _ => simp [setJ, nth]
    | b :: l, i + 2, j + 1, h =>
      have := ih (i := i + 1) (j := j) (by simp only [List.length_cons] at h ⊢; omega)
      simp only [setJ, nth, this]
      simp
theorem kil_ra {v : Value} (h : ∀ a, kil v ≠ .retAddr a) : kil v = v ∧ v.category ≠ 2 := by
  cases v <;> simp_all [kil, Value.category]
theorem lv_setL {hb b t : Nat} {ls : Array Slot} {L : List Value} {i : Nat} {v : Value} (h : lv_has ls L.length ((i, vmp hb b t v) :: (lvF hb b t 0 L).filter (fun q => !(q.1 == i) && !(q.1 + 1 == i && q.2.category == 2)))) (hi : i < L.length) : lv_has ls (setL L i v).length (lvF hb b t 0 (setL L i v)) := by
  rw [setL_len]
  refine ⟨h.1, h.2.1, fun q hq => h.2.2 q ?_⟩
  obtain ⟨j, h1, h2, h3, h4⟩ := lvF_mem.mp hq
  rw [setL_len] at h1
  rw [nth_setL hi] at h3 h4
  by_cases e : j = i
  · rw [if_pos e] at h3
    exact List.mem_cons.mpr (Or.inl (Prod.ext (by omega) h3))
  · rw [if_neg e] at h3 h4
    refine List.mem_cons.mpr (Or.inr (List.mem_filter.mpr ?_))
    by_cases e2 : j + 1 = i
    · rw [if_pos e2] at h3 h4
      obtain ⟨z1, z2⟩ := kil_ra h4
      rw [z1] at h3 h4
      refine ⟨lvF_mem.mpr ⟨j, h1, h2, h3, h4⟩, ?_⟩
      rw [h3, vmp_cat]
      have : q.1 ≠ i := by omega
      simp [this, z2]
    · rw [if_neg e2] at h3 h4
      refine ⟨lvF_mem.mpr ⟨j, h1, h2, h3, h4⟩, ?_⟩
      have a1 : q.1 ≠ i := by omega
      have a2 : q.1 + 1 ≠ i := by omega
      simp [a1, a2]
theorem lv_setJ {hb b t : Nat} {ls : Array Slot} {L : List Value} {i : Nat} {v : Value} (h : lv_has ls L.length ((i, vmp hb b t v) :: (lvF hb b t 0 L).filter (fun q => !(q.1 == i) && (!(q.1 == i + 1) && !(q.1 + 1 == i && q.2.category == 2))))) (hi : i + 1 < L.length) : lv_has ls (setJ L i v).length (lvF hb b t 0 (setJ L i v)) := by
  rw [setJ_len hi]
  refine ⟨h.1, h.2.1, fun q hq => h.2.2 q ?_⟩
  obtain ⟨j, h1, h2, h3, h4⟩ := lvF_mem.mp hq
  rw [setJ_len hi] at h1
  rw [nth_setJ hi] at h3 h4
  by_cases e : j = i
  · rw [if_pos e] at h3
    exact List.mem_cons.mpr (Or.inl (Prod.ext (by omega) h3))
  · rw [if_neg e] at h3 h4
    by_cases e1 : j = i + 1
    · rw [if_pos e1] at h4
      exact absurd rfl (h4 0)
    · rw [if_neg e1] at h3 h4
      refine List.mem_cons.mpr (Or.inr (List.mem_filter.mpr ?_))
      by_cases e2 : j + 1 = i
      · rw [if_pos e2] at h3 h4
        obtain ⟨z1, z2⟩ := kil_ra h4
        rw [z1] at h3 h4
        refine ⟨lvF_mem.mpr ⟨j, h1, h2, h3, h4⟩, ?_⟩
        rw [h3, vmp_cat]
        have a1 : q.1 ≠ i := by omega
        have a3 : q.1 ≠ i + 1 := by omega
        simp [a1, a3, z2]
      · rw [if_neg e2] at h3 h4
        refine ⟨lvF_mem.mpr ⟨j, h1, h2, h3, h4⟩, ?_⟩
        have a1 : q.1 ≠ i := by omega
        have a2 : q.1 + 1 ≠ i := by omega
        have a3 : q.1 ≠ i + 1 := by omega
        simp [a1, a2, a3]
theorem lv_entA {hb b t : Nat} {as : List Value} (hra : ∀ v ∈ as, ∀ f, v ≠ .double f) : ∀ (i m : Nat) (q : Nat × Value), q ∈ lvF hb b t i (entA as ++ List.replicate m nv) → q ∈ lv_args i (as.map (vmp hb b t)) := by
  induction as with
  | nil =>
    intro i m q h
    obtain ⟨j, h1, h2, h3, h4⟩ := lvF_mem.mp h
    exfalso
    have : ∀ m j, ∃ a, nth (List.replicate m nv) j = .retAddr a := by
      intro m
      induction m with
      | zero => intro j; exact ⟨0, rfl⟩
      | succ m ih => intro j; match j with
        | 0 => exact ⟨0, rfl⟩
        | j + 1 => exact ih j
    obtain ⟨a, ha⟩ := this m j
    exact h4 a (by simpa [entA] using ha)
  | cons v as ih =>
    intro i m q h
    have ih := ih (fun w hw => hra w (List.mem_cons_of_mem _ hw))
    cases v with
    | long x =>
      simp only [entA, List.cons_append, lvF, List.mem_cons] at h
      simp only [List.map_cons, lv_args, vmp, Value.category, List.mem_cons]
      rcases h with h | h
      · exact Or.inl h
      · exact Or.inr (ih (i + 2) m q h)
    | double f => exact absurd rfl (hra _ List.mem_cons_self f)
    | retAddr a =>
      simp only [entA, List.cons_append, lvF] at h
      simp only [List.map_cons, lv_args, vmp, Value.category, List.mem_cons]
      exact Or.inr (ih (i + 1) m q h)
    | int x =>
      simp only [entA, List.cons_append, lvF, List.mem_cons] at h
      simp only [List.map_cons, lv_args, vmp, Value.category, List.mem_cons]
      rcases h with h | h
      · exact Or.inl h
      · exact Or.inr (ih (i + 1) m q h)
    | float x =>
      simp only [entA, List.cons_append, lvF, List.mem_cons] at h
      simp only [List.map_cons, lv_args, vmp, Value.category, List.mem_cons]
      rcases h with h | h
      · exact Or.inl h
      · exact Or.inr (ih (i + 1) m q h)
    | null =>
      simp only [entA, List.cons_append, lvF, List.mem_cons] at h
      simp only [List.map_cons, lv_args, vmp, Value.category, List.mem_cons]
      rcases h with h | h
      · exact Or.inl h
      · exact Or.inr (ih (i + 1) m q h)
    | ref x =>
      simp only [entA, List.cons_append, lvF, List.mem_cons] at h
      simp only [List.map_cons, lv_args, vmp, Value.category, List.mem_cons]
      rcases h with h | h
      · exact Or.inl h
      · exact Or.inr (ih (i + 1) m q h)
