theorem mem_ix {l : List Nat} {c : Nat} : c ∈ l ↔ ∃ i, i < l.length ∧ l.getD i 0 = c := by
  constructor
  · intro h
    obtain ⟨i, hi, e⟩ := List.mem_iff_getElem.mp h
    refine ⟨i, hi, ?_⟩
    rw [List.getD_eq_getElem?_getD, List.getElem?_eq_getElem hi]
    exact e
  · rintro ⟨i, hi, e⟩
    rw [← e]
    exact getD_mem hi
theorem find_at {p : Nat → Bool} : ∀ {l : List Nat} {i : Nat}, i < l.length → (∀ j, j < i → p (l.getD j 0) = false) → p (l.getD i 0) = true → l.find? p = some (l.getD i 0)
  | [], i, hi, _, _ => absurd hi (Nat.not_lt_zero _)
  | c :: l, 0, _, _, hp => by
    rw [List.find?_cons]
    have hp : p c = true := hp
    rw [hp]
    rfl
  | c :: l, i + 1, hi, h, hp => by
    have h0 : p c = false := h 0 (by omega)
    rw [List.find?_cons, h0]
    exact find_at (l := l) (i := i) (by simpa using hi) (fun j hj => h (j + 1) (by omega)) hp
theorem find_no {p : Nat → Bool} : ∀ {l : List Nat}, (∀ j, j < l.length → p (l.getD j 0) = false) → l.find? p = none
  | [], _ => rfl
  | c :: l, h => by
    have h0 : p c = false := h 0 (by simp)
    rw [List.find?_cons, h0]
    exact find_no (fun j hj => h (j + 1) (by simpa using hj))
theorem pc_one {c : Nat} (hc : c < 2 ^ 24) (h : pc24 c = 1) : ∃ p, p < 24 ∧ c = 2 ^ p := by
  have hp : 0 < fb_ct (fun k => c.testBit k) 24 := by show 0 < pc24 c; omega
  obtain ⟨k, hk, hb⟩ := fb_ct_pos.mp hp
  refine ⟨k, hk, ?_⟩
  have e := fb_ct_upd (fun k => c.testBit k) false hk
  have hb' : c.testBit k = true := hb
  rw [hb', if_pos rfl, if_neg (by decide)] at e
  have h1 : fb_ct (fun k => c.testBit k) 24 = 1 := h
  have z : fb_ct (fun j => if j = k then false else c.testBit j) 24 = 0 := by omega
  have z := fb_ct_zero.mp z
  apply Nat.eq_of_testBit_eq
  intro i
  rw [tb_pow]
  by_cases e : i = k
  · subst e
    rw [show c.testBit i = true from hb]
    simp
  · rw [decide_eq_false (fun q => e q.symm)]
    by_cases h24 : i < 24
    · have := z i h24
      simpa [e] using this
    · exact Nat.testBit_lt_two_pow (Nat.lt_of_lt_of_le hc (Nat.pow_le_pow_right (by decide) (by omega)))
theorem pc_pow : ∀ p, p < 24 → pc24 (2 ^ p) = 1 ∧ Nat.log2 (2 ^ p) = p ∧ ltN (2 ^ p) = 2 ^ (p % 12) ∧ denN (2 ^ p) = 2 ^ (if p < 12 then p + 12 else p - 12) ∧ pc24 0 = 0 := by decide
theorem lone_some {l : List Nat} {s : Nat} (hl : lsOK l) (h : lone l = some s) : s ∈ l ∧ ∃ p, p < 24 ∧ s = 2 ^ p := by
  have hm := List.mem_of_find?_eq_some h
  have hp := List.find?_some h
  exact ⟨hm, pc_one (hl.2 s hm).1 (by simpa using hp)⟩
theorem ltU_fold (i : Nat) : ∀ (l : List Nat) (a : Nat), (l.foldl (fun a c => a ||| ltN c) a).testBit i = true ↔ a.testBit i = true ∨ ∃ c, c ∈ l ∧ (ltN c).testBit i = true
  | [], a => by simp
  | c :: l, a => by
    rw [List.foldl_cons, ltU_fold i l, Nat.testBit_or, Bool.or_eq_true]
    constructor
    · rintro ((h | h) | ⟨d, h1, h2⟩)
      · exact Or.inl h
      · exact Or.inr ⟨c, List.mem_cons_self .., h⟩
      · exact Or.inr ⟨d, List.mem_cons_of_mem _ h1, h2⟩
    · rintro (h | ⟨d, h1, h2⟩)
      · exact Or.inl (Or.inl h)
      · rcases List.mem_cons.mp h1 with h1 | h1
        · subst h1; exact Or.inl (Or.inr h2)
        · exact Or.inr ⟨d, h1, h2⟩
theorem ltU_mem {l : List Nat} {i : Nat} : (ltU l).testBit i = true ↔ ∃ c, c ∈ l ∧ (ltN c).testBit i = true := by
  unfold ltU
  rw [ltU_fold, Nat.zero_testBit]
  simp
theorem ltN_12 {c i : Nat} (h : (ltN c).testBit i = true) : i < 12 := by
  by_cases hi : i < 12
  · exact hi
  · rw [Nat.testBit_lt_two_pow (Nat.lt_of_lt_of_le (show ltN c < 2 ^ 12 from ltN_lt c) (Nat.pow_le_pow_right (by decide) (by omega)))] at h
    cases h
theorem lt_nclr {c e i : Nat} (h : (ltN (nclr c e)).testBit i = true) : (ltN c).testBit i = true := by
  have hi := ltN_12 h
  rw [lt_bit hi] at h ⊢
  rw [nclr_bit, nclr_bit] at h
  cases h1 : c.testBit i
  · rw [h1] at h
    cases h2 : c.testBit (12 + i)
    · rw [h2] at h; simp at h
    · rfl
  · rfl
theorem tk_lt {p : Nat} {l : List Nat} {x i : Nat} (hp : p < 24) (hx : x ∈ tkS (2 ^ p) l) (hi : (ltN x).testBit i = true) : (ltU l).testBit i = true ∧ i ≠ p % 12 := by
  obtain ⟨c, h1, h2, h3⟩ := tk_mem.mp hx
  have h2 := (fb_bit_nat c p).mp h2
  have hi12 := ltN_12 hi
  refine ⟨ltU_mem.mpr ⟨c, h1, lt_nclr (h3 ▸ hi)⟩, fun e => ?_⟩
  rw [h3, (pc_pow p hp).2.2.2.1] at hi
  rw [lt_bit hi12, nclr_bit, nclr_bit, tb_pow, tb_pow, e] at hi
  by_cases q : p < 12
  · rw [if_pos q] at hi
    rw [show p % 12 = p by omega] at hi
    rw [h2] at hi
    simp at hi
    omega
  · rw [if_neg q] at hi
    rw [show 12 + p % 12 = p by omega] at hi
    rw [h2] at hi
    simp at hi
    omega
theorem ct_less {p q : Nat → Bool} {n k : Nat} (hk : k < n) (h : ∀ i, i < n → p i = true → q i = true) (hp : p k = false) (hq : q k = true) : fb_ct p n + 1 ≤ fb_ct q n := by
  have e := fb_ct_upd q false hk
  rw [hq, if_pos rfl, if_neg (by decide)] at e
  have s : fb_ct p n ≤ fb_ct (fun j => if j = k then false else q j) n := fb_ct_sub (fun i hi hpi => by
    by_cases e2 : i = k
    · rw [e2, hp] at hpi; cases hpi
    · simp [e2, h i hi hpi])
  omega
theorem lc_le {l : List Nat} : lc l ≤ 12 := fb_ct_le _ _
theorem lc_mono {l m : List Nat} (h : ∀ i, (ltU l).testBit i = true → (ltU m).testBit i = true) : lc l ≤ lc m := fb_ct_sub (fun i _ hi => h i hi)
theorem tk_lc {p : Nat} {l : List Nat} (hp : p < 24) (h : (ltU l).testBit (p % 12) = true) : lc (tkS (2 ^ p) l) + 1 ≤ lc l := by
  refine ct_less (k := p % 12) (by omega) (fun i _ hi => ?_) ?_ h
  · obtain ⟨x, hx, hb⟩ := ltU_mem.mp hi
    exact (tk_lt hp hx hb).1
  · cases e : (ltU (tkS (2 ^ p) l)).testBit (p % 12)
    · rfl
    · obtain ⟨x, hx, hb⟩ := ltU_mem.mp e
      exact absurd rfl (tk_lt hp hx hb).2
theorem lone_lt {l : List Nat} {p : Nat} (hp : p < 24) (h : 2 ^ p ∈ l) : (ltU l).testBit (p % 12) = true := ltU_mem.mpr ⟨_, h, by rw [(pc_pow p hp).2.2.1, tb_pow]; simp⟩
/-- what the taking of lone signs leaves -/
theorem sim_ok : ∀ (n : Nat) (l t : List Nat), lsOK l → lc l < n → (∀ s, s ∈ t → ∃ p, p < 24 ∧ s = 2 ^ p) → ∀ l' t', sim n l t = some (l', t') → lsOK l' ∧ (∀ c, c ∈ l' → 2 ≤ pc24 c) ∧ (∀ s, s ∈ t' → ∃ p, p < 24 ∧ s = 2 ^ p) ∧ t'.length + lc l' ≤ t.length + lc l ∧ (∀ i, (ltU l').testBit i = true → (ltU l).testBit i = true) ∧ l'.length ≤ l.length
  | 0, l, t, _, h, _, _, _, _ => absurd h (Nat.not_lt_zero _)
  | n + 1, l, t, hl, hlc, ht, l', t', h => by
    rw [sim] at h
    by_cases h0 : 0 ∈ l
    · rw [if_pos h0] at h; cases h
    · rw [if_neg h0] at h
      cases e : lone l with
      | none =>
        rw [e] at h
        cases h
        refine ⟨hl, fun c hc => ?_, ht, Nat.le_refl _, fun _ q => q, Nat.le_refl _⟩
        have hn := List.find?_eq_none.mp e c hc
        have h1 : pc24 c ≠ 1 := by simpa using hn
        have h2 : pc24 c ≠ 0 := by
          intro q
          have hz := fb_ct_zero.mp (show fb_ct (fun k => c.testBit k) 24 = 0 from q)
          have : c = 0 := zero_bits (fun i => by
            by_cases hi : i < 24
            · exact hz i hi
            · exact Nat.testBit_lt_two_pow (Nat.lt_of_lt_of_le (hl.2 c hc).1 (Nat.pow_le_pow_right (by decide) (by omega))))
          rw [this] at hc
          exact h0 hc
        omega
      | some s =>
        rw [e] at h
        obtain ⟨hm, p, hp, hs⟩ := lone_some hl e
        subst hs
        have hd := tk_lc hp (lone_lt hp hm)
        obtain ⟨a1, a2, a3, a4, a5, a6⟩ := sim_ok n _ _ (tk_ok hl) (by omega) (fun s hs => by
          rcases List.mem_append.mp hs with q | q
          · exact ht s q
          · rw [List.mem_singleton] at q; exact ⟨p, hp, q⟩) l' t' h
        refine ⟨a1, a2, a3, ?_, fun i hi => ?_, Nat.le_trans a6 (tk_len _ _)⟩
        · rw [List.length_append, List.length_singleton] at a4
          omega
        · obtain ⟨x, hx, hb⟩ := ltU_mem.mp (a5 i hi)
          exact (tk_lt hp hx hb).1
