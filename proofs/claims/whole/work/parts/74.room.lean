/-! how many clauses, and how much room -/
def enM (M : Nat) : Nat → List Nat
  | 0 => [0]
  | l + 1 => if M.testBit l then enM M l ++ (enM M l).map (fun c => c ||| 2 ^ l) ++ (enM M l).map (fun c => c ||| 2 ^ (12 + l)) else enM M l
def mkC (c : Nat) : Nat → Nat
  | 0 => 0
  | n + 1 => if c.testBit n then mkC c n ||| 2 ^ n else if c.testBit (12 + n) then mkC c n ||| 2 ^ (12 + n) else mkC c n
theorem mkC_mem {c M : Nat} (h : ∀ i, (ltN c).testBit i = true → M.testBit i = true) : ∀ n, n ≤ 12 → mkC c n ∈ enM M n
  | 0, _ => List.mem_singleton.mpr rfl
  | n + 1, hn => by
    have ih := mkC_mem h n (by omega)
    have hb := lt_bit (c := c) (show n < 12 by omega)
    unfold mkC enM
    by_cases hm : M.testBit n = true
    · rw [if_pos hm]
      split
      · exact List.mem_append_left _ (List.mem_append_right _ (List.mem_map.mpr ⟨_, ih, rfl⟩))
      · split
        · exact List.mem_append_right _ (List.mem_map.mpr ⟨_, ih, rfl⟩)
        · exact List.mem_append_left _ (List.mem_append_left _ ih)
    · rw [if_neg hm]
      have hf : (ltN c).testBit n ≠ true := fun q => hm (h n q)
      rw [hb] at hf
      rw [if_neg (fun q => hf (by rw [q]; rfl)), if_neg (fun q => hf (by rw [q, Bool.or_true]))]
      exact ih
theorem mkC_bit {c : Nat} (hc : lowN 12 c) (i : Nat) : ∀ n, n ≤ 12 → (mkC c n).testBit i = (decide (i < n ∨ 12 ≤ i ∧ i < 12 + n) && c.testBit i)
  | 0, _ => by
    unfold mkC
    rw [Nat.zero_testBit, show decide (i < 0 ∨ 12 ≤ i ∧ i < 12 + 0) = false from decide_eq_false (by omega), Bool.false_and]
  | n + 1, hn => by
    have ih := mkC_bit hc i n (by omega)
    have h3 := (hc.2 n (by omega)).2.2
    unfold mkC
    have hne : ∀ k, i ≠ k → (2 ^ k).testBit i = false := fun k hk => by rw [tb_pow]; exact decide_eq_false (by omega)
    have hlow : i ≠ n → i ≠ 12 + n → decide (i < n + 1 ∨ 12 ≤ i ∧ i < 12 + (n + 1)) = decide (i < n ∨ 12 ≤ i ∧ i < 12 + n) := fun a b => decide_eq_decide.mpr (by omega)
    by_cases ea : i = n
    · rw [show decide (i < n + 1 ∨ 12 ≤ i ∧ i < 12 + (n + 1)) = true from decide_eq_true (by omega), Bool.true_and]
      rw [show decide (i < n ∨ 12 ≤ i ∧ i < 12 + n) = false from decide_eq_false (by omega), Bool.false_and] at ih
      cases e1 : c.testBit n with
      | true => rw [if_pos rfl, Nat.testBit_or, ih, ea, tb_pow, e1]; simp
      | false =>
        rw [if_neg (by decide), ea, e1]
        rw [ea] at ih
        split
        · rw [Nat.testBit_or, ih, tb_pow]; simp
        · exact ih
    · by_cases eb : i = 12 + n
      · rw [show decide (i < n + 1 ∨ 12 ≤ i ∧ i < 12 + (n + 1)) = true from decide_eq_true (by omega), Bool.true_and]
        rw [show decide (i < n ∨ 12 ≤ i ∧ i < 12 + n) = false from decide_eq_false (by omega), Bool.false_and] at ih
        cases e1 : c.testBit n with
        | true =>
          rw [if_pos rfl, Nat.testBit_or, ih, hne n ea, eb]
          cases e2 : c.testBit (12 + n) with
          | true => exact absurd ⟨e1, e2⟩ h3
          | false => rfl
        | false =>
          rw [if_neg (by decide)]
          cases e2 : c.testBit (12 + n) with
          | true => rw [if_pos rfl, Nat.testBit_or, ih, eb, tb_pow, e2]; simp
          | false => rw [if_neg (by decide), ih, eb, e2]
      · rw [hlow ea eb]
        split
        · rw [Nat.testBit_or, ih, hne n ea, Bool.or_false]
        · split
          · rw [Nat.testBit_or, ih, hne _ eb, Bool.or_false]
          · exact ih
theorem mkC_id {c : Nat} (hc : lowN 12 c) : mkC c 12 = c := by
  refine Nat.eq_of_testBit_eq (fun i => ?_)
  rw [mkC_bit hc i 12 (Nat.le_refl _)]
  by_cases h : i < 24
  · rw [decide_eq_true (show i < 12 ∨ 12 ≤ i ∧ i < 12 + 12 by omega), Bool.true_and]
  · rw [Nat.testBit_lt_two_pow (Nat.lt_of_lt_of_le hc.1 (Nat.pow_le_pow_right (by decide) (by omega))), Bool.and_false]
def ccN (k : Nat) : Nat := if k = 2 then 4 else if k = 3 then 20 else 40
theorem en_len : ∀ a, a < 64 → ∀ b, b < 64 → (fb_ct (fun i => (64 * a + b).testBit i) 12 = 2 → ((enM (64 * a + b) 12).filter (fun c => decide (2 ≤ pc24 c))).length ≤ 4) ∧ (fb_ct (fun i => (64 * a + b).testBit i) 12 = 3 → ((enM (64 * a + b) 12).filter (fun c => decide (2 ≤ pc24 c))).length ≤ 20) := by decide +kernel
theorem nodup_len : ∀ {p q : List Nat}, p.Nodup → p ⊆ q → p.length ≤ q.length
  | [], _, _, _ => Nat.zero_le _
  | c :: p, q, h, hs => by
    obtain ⟨h1, h2⟩ := List.nodup_cons.mp h
    have hc : c ∈ q := hs (List.mem_cons_self ..)
    have ih := nodup_len (q := q.erase c) h2 (fun x hx => (List.mem_erase_of_ne (fun e : x = c => h1 (e ▸ hx))).mpr (hs (List.mem_cons_of_mem _ hx)))
    rw [List.length_erase_of_mem hc] at ih
    have := List.length_pos_of_mem hc
    rw [List.length_cons]
    omega
theorem ltU_lt2 (l : List Nat) : ltU l < 4096 := by
  refine Nat.lt_pow_two_of_testBit (n := 12) _ (fun i hi => ?_)
  cases e : (ltU l).testBit i with
  | false => rfl
  | true =>
    obtain ⟨c, _, hc⟩ := ltU_mem.mp e
    have := ltN_12 hc
    omega
theorem p_len {N : Nat} {p : List Nat} (hN : N ≤ 12) (h : lsI N p) (h2 : ∀ c, c ∈ p → 2 ≤ pc24 c) : p.length ≤ ccN (lc p) := by
  have hsub : p ⊆ (enM (ltU p) 12).filter (fun c => decide (2 ≤ pc24 c)) := fun c hc => by
    refine List.mem_filter.mpr ⟨?_, decide_eq_true (h2 c hc)⟩
    have := mkC_mem (c := c) (M := ltU p) (fun i hi => ltU_mem.mpr ⟨c, hc, hi⟩) 12 (Nat.le_refl _)
    rwa [mkC_id (lowN_wk hN (h.2.2 c hc))] at this
  have hle := nodup_len h.2.1 hsub
  have hlt := ltU_lt2 p
  have hen := en_len (ltU p / 64) (by omega) (ltU p % 64) (by omega)
  rw [Nat.div_add_mod] at hen
  have h40 := h.1
  unfold ccN
  split
  · rename_i e; exact Nat.le_trans hle (hen.1 e)
  · split
    · rename_i e; exact Nat.le_trans hle (hen.2 e)
    · exact h40
theorem pc_split (c : Nat) : ∀ n, fb_ct (fun k => c.testBit k) (12 + n) = fb_ct (fun k => c.testBit k) 12 + fb_ct (fun k => c.testBit (12 + k)) n
  | 0 => rfl
  | n + 1 => by
    have := pc_split c n
    show fb_ct (fun k => c.testBit k) (12 + n) + (if c.testBit (12 + n) = true then 1 else 0) = fb_ct (fun k => c.testBit k) 12 + (fb_ct (fun k => c.testBit (12 + k)) n + (if c.testBit (12 + n) = true then 1 else 0))
    rw [this, Nat.add_assoc]
theorem pc_lt {c : Nat} (hc : lowN 12 c) : pc24 c ≤ fb_ct (fun i => (ltN c).testBit i) 12 := by
  show fb_ct (fun k => c.testBit k) (12 + 12) ≤ _
  rw [pc_split]
  have key : ∀ n, n ≤ 12 → fb_ct (fun k => c.testBit k) n + fb_ct (fun k => c.testBit (12 + k)) n ≤ fb_ct (fun i => (ltN c).testBit i) n := by
    intro n
    induction n with
    | zero => intro _; exact Nat.le_refl _
    | succ n ih =>
      intro hn
      have ih := ih (by omega)
      have h3 := (hc.2 n (by omega)).2.2
      have hb := lt_bit (c := c) (show n < 12 by omega)
      unfold fb_ct
      simp only [hb]
      cases e1 : c.testBit n <;> cases e2 : c.testBit (12 + n) <;> simp_all <;> omega
  exact key 12 (Nat.le_refl _)
theorem p_lc {N : Nat} {p : List Nat} (hN : N ≤ 12) (h : lsI N p) (h2 : ∀ c, c ∈ p → 2 ≤ pc24 c) (hp : p ≠ []) : 2 ≤ lc p := by
  obtain ⟨c, r, e⟩ := List.exists_cons_of_ne_nil hp
  have hc : c ∈ p := by rw [e]; exact List.mem_cons_self ..
  have h1 := pc_lt (lowN_wk hN (h.2.2 c hc))
  have h3 := h2 c hc
  have h4 : fb_ct (fun i => (ltN c).testBit i) 12 ≤ lc p := fb_ct_sub (fun i _ hi => ltU_mem.mpr ⟨c, hc, hi⟩)
  omega
def roomA (k : Nat) : Nat := if k ≤ 1 then 0 else 2 ^ (k - 1) - 1
def roomZ : Nat → Nat
  | 0 => 0
  | 1 => 0
  | k + 2 => ccN (k + 2) + 2 * roomZ (k + 1)
theorem room_add : ∀ a, a < 13 → ∀ b, b < 13 → a + b ≤ 12 → roomA a + roomA b ≤ roomA (a + b) ∧ roomZ a + roomZ b ≤ roomZ (a + b) := by decide +kernel
theorem room_le : ∀ a, a < 13 → ∀ b, b < 13 → a ≤ b → roomA a ≤ roomA b ∧ roomZ a ≤ roomZ b := by decide +kernel
theorem room_st : ∀ a, a < 13 → ∀ b, b < 13 → 2 ≤ b → a + 1 ≤ b → 1 + 2 * roomA a ≤ roomA b ∧ ccN b + 2 * roomZ a ≤ roomZ b := by decide +kernel
theorem room_12 : roomA 12 = 2047 ∧ roomZ 12 = 34776 := by decide +kernel
