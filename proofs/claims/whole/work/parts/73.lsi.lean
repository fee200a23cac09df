/-! lists that come up -/
def lsI (N : Nat) (l : List Nat) : Prop := l.length ≤ 40 ∧ l.Nodup ∧ ∀ c, c ∈ l → lowN N c
theorem lowN_sub {N c e : Nat} (h : lowN N c) : lowN N (nclr c e) := by
  refine ⟨Nat.lt_of_lt_of_le ?_ (Nat.le_refl _), fun l hl => ?_⟩
  · refine Nat.lt_pow_two_of_testBit _ (fun i hi => ?_)
    rw [nclr_bit, Nat.testBit_lt_two_pow (Nat.lt_of_lt_of_le h.1 (Nat.pow_le_pow_right (by decide) hi)), Bool.false_and]
  · obtain ⟨h1, h2, h3⟩ := h.2 l hl
    rw [nclr_bit, nclr_bit]
    refine ⟨fun q => h1 ?_, fun q => h2 ?_, fun q => h3 ⟨?_, ?_⟩⟩
    · exact (Bool.and_eq_true_iff.mp q).1
    · exact (Bool.and_eq_true_iff.mp q).1
    · exact (Bool.and_eq_true_iff.mp q.1).1
    · exact (Bool.and_eq_true_iff.mp q.2).1
theorem lowN_wk {N M c : Nat} (hNM : N ≤ M) (h : lowN N c) : lowN M c := ⟨h.1, fun l hl => ⟨fun q => Nat.lt_of_lt_of_le ((h.2 l hl).1 q) hNM, fun q => Nat.lt_of_lt_of_le ((h.2 l hl).2.1 q) hNM, (h.2 l hl).2.2⟩⟩
theorem lsI_ok {N : Nat} {l : List Nat} (hN : N ≤ 12) (h : lsI N l) : lsOK l := ⟨h.1, fun c hc => lowN_wk hN (h.2.2 c hc)⟩
theorem addU_nodup {acc : List Nat} {c : Nat} (h : acc.Nodup) : (addU acc c).Nodup := by
  unfold addU
  split
  · exact h
  · rename_i hc
    rw [List.nodup_append]
    refine ⟨h, List.pairwise_singleton _ _, fun a ha b hb => ?_⟩
    rw [List.mem_singleton] at hb
    subst hb
    exact fun e => hc (e ▸ ha)
theorem tk_fold_nodup (s : Nat) : ∀ (l acc : List Nat), acc.Nodup → (l.foldl (tk1 s) acc).Nodup
  | [], _, h => h
  | c :: l, acc, h => by
    rw [List.foldl_cons]
    refine tk_fold_nodup s l _ ?_
    unfold tk1
    split
    · exact addU_nodup h
    · exact h
theorem tk_lsI' {N s : Nat} {l : List Nat} (h40 : l.length ≤ 40) (h : ∀ c, c ∈ l → lowN N c) : lsI N (tkS s l) := by
  refine ⟨Nat.le_trans (tk_len s l) h40, tk_fold_nodup s l [] List.nodup_nil, fun x hx => ?_⟩
  obtain ⟨c, h1, -, h3⟩ := tk_mem.mp hx
  rw [h3]
  exact lowN_sub (h c h1)
theorem tk_lsI {N s : Nat} {l : List Nat} (h : lsI N l) : lsI N (tkS s l) := tk_lsI' h.1 h.2.2
theorem lowN_pow {N p : Nat} (hp : p < 24) (h : lowN N (2 ^ p)) : p % 12 < N := by
  by_cases h12 : p < 12
  · have := (h.2 p h12).1 (by rw [tb_pow]; simp)
    omega
  · have := (h.2 (p - 12) (by omega)).2.1 (by rw [tb_pow]; simp; omega)
    omega
theorem sim_lsI {N : Nat} (hN : N ≤ 12) : ∀ (n : Nat) (l t : List Nat), lsI N l → sgs N t → ∀ l' t', sim n l t = some (l', t') → lsI N l' ∧ sgs N t'
  | 0, _, _, _, _, _, _, h => by cases h
  | n + 1, l, t, hl, ht, l', t', h => by
    unfold sim at h
    split at h
    · cases h
    · split at h
      · cases h
        exact ⟨hl, ht⟩
      · rename_i s hs
        obtain ⟨hm, p, hp, e⟩ := lone_some (lsI_ok hN hl) hs
        refine sim_lsI hN n _ _ (tk_lsI hl) (fun x hx => ?_) l' t' h
        rcases List.mem_append.mp hx with z | z
        · exact ht x z
        · rw [List.mem_singleton] at z
          subst z
          exact ⟨p, hp, lowN_pow hp (e ▸ hl.2.2 _ hm), e⟩
/-- pieces are lists, and their letters lie apart -/
theorem pcs_sub {N : Nat} : ∀ (n : Nat) (l : List Nat), lsI N l → ∀ p, p ∈ pcs n l → lsI N p ∧ ∀ c, c ∈ p → c ∈ l
  | 0, _, _, p, hp => by cases hp
  | n + 1, [], _, p, hp => by cases hp
  | n + 1, c :: r, h, p, hp => by
    unfold pcs at hp
    have fl : ∀ f : Nat → Bool, lsI N ((c :: r).filter f) := fun f => ⟨Nat.le_trans (List.length_filter_le _ _) h.1, h.2.1.filter _, fun x hx => h.2.2 x (List.mem_filter.mp hx).1⟩
    rcases List.mem_cons.mp hp with e | hp
    · subst e
      exact ⟨fl _, fun x hx => (List.mem_filter.mp hx).1⟩
    · obtain ⟨a, b⟩ := pcs_sub n _ (fl _) p hp
      exact ⟨a, fun x hx => (List.mem_filter.mp (b x hx)).1⟩
theorem pcs_ne {n : Nat} : ∀ {l : List Nat}, (∀ c, c ∈ l → ltN c ≠ 0) → ∀ p, p ∈ pcs n l → p ≠ [] := by
  induction n with
  | zero => intro l _ p hp; cases hp
  | succ n ih =>
    intro l hz p hp
    match l, hz, hp with
    | [], _, hp => cases hp
    | c :: r, hz, hp =>
      unfold pcs at hp
      rcases List.mem_cons.mp hp with e | hp
      · subst e
        intro e
        have : c ∈ (c :: r).filter (shr (c :: r) (ltN c)) := List.mem_filter.mpr ⟨List.mem_cons_self .., shr_self (hz c (List.mem_cons_self ..))⟩
        rw [e] at this
        cases this
      · exact ih (fun d hd => hz d (List.mem_filter.mp hd).1) p hp
theorem lc_add {p r l : List Nat} (hp : ∀ c, c ∈ p → c ∈ l) (hr : ∀ c, c ∈ r → c ∈ l) (hd : ∀ i, (ltU p).testBit i = true → (ltU r).testBit i = true → False) : lc p + lc r ≤ lc l := by
  unfold lc
  have key : ∀ n, fb_ct (fun i => (ltU p).testBit i) n + fb_ct (fun i => (ltU r).testBit i) n ≤ fb_ct (fun i => (ltU l).testBit i) n := by
    intro n
    induction n with
    | zero => exact Nat.le_refl _
    | succ n ih =>
      unfold fb_ct
      have h1 : (ltU p).testBit n = true → (ltU l).testBit n = true := fun q => by
        obtain ⟨c, a, b⟩ := ltU_mem.mp q
        exact ltU_mem.mpr ⟨c, hp c a, b⟩
      have h2 : (ltU r).testBit n = true → (ltU l).testBit n = true := fun q => by
        obtain ⟨c, a, b⟩ := ltU_mem.mp q
        exact ltU_mem.mpr ⟨c, hr c a, b⟩
      have h3 := hd n
      cases e1 : (ltU p).testBit n <;> cases e2 : (ltU r).testBit n <;> cases e3 : (ltU l).testBit n <;> simp_all <;> omega
  exact key 12
def sumF (f : List Nat → Nat) : List (List Nat) → Nat
  | [] => 0
  | p :: ps => f p + sumF f ps
theorem pcs_lc : ∀ (n : Nat) (l : List Nat), sumF lc (pcs n l) ≤ lc l
  | 0, _ => Nat.zero_le _
  | n + 1, [] => Nat.zero_le _
  | n + 1, c :: r => by
    unfold pcs sumF
    have h1 := pcs_lc n ((c :: r).filter (fun d => !shr (c :: r) (ltN c) d))
    have h2 := lc_add (p := (c :: r).filter (shr (c :: r) (ltN c))) (r := (c :: r).filter (fun d => !shr (c :: r) (ltN c) d)) (l := c :: r) (fun x hx => (List.mem_filter.mp hx).1) (fun x hx => (List.mem_filter.mp hx).1) (fun i a b => by
      obtain ⟨x, hx, hxi⟩ := ltU_mem.mp a
      obtain ⟨y, hy, hyi⟩ := ltU_mem.mp b
      obtain ⟨x1, x2⟩ := List.mem_filter.mp hx
      obtain ⟨y1, y2⟩ := List.mem_filter.mp hy
      have hc := cloP_step x1 (shr_iff.mp x2) hxi
      rw [shr_iff.mpr ⟨i, hyi, hc⟩] at y2
      cases y2)
    omega
