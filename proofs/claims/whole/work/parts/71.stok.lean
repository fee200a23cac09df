/-! what a state of making keeps -/
def stC (N : Nat) (S : ST) : Prop := S.1.length ≤ 1500 ∧ 2 ≤ S.1.length ∧ ndsOK N S.1 ∧ ∀ i n, i < 24 → S.2.2.1 i = some n → n < S.1.length
/-- from a state to a later one -/
def stT (N : Nat) (S S' : ST) : Prop := stC N S' ∧ S.1.length ≤ S'.1.length ∧ S'.2.1 = S.2.1 ∧ S'.2.2.2 = S.2.2.2
def sgs (N : Nat) (t : List Nat) : Prop := ∀ s, s ∈ t → ∃ p, p < 24 ∧ p % 12 < N ∧ s = 2 ^ p
theorem nds_snoc {N : Nat} {nds : List (Nat × Int × List Nat)} {x : Nat × Int × List Nat} (h : ndsOK N nds) (hx : ndOK N nds.length x) : ndsOK N (nds ++ [x]) := by
  intro i y hy
  by_cases e : i < nds.length
  · rw [List.getElem?_append_left e] at hy
    exact h i y hy
  · have hl : i < (nds ++ [x]).length := by
      have := (List.getElem?_eq_some_iff.mp hy).1
      exact this
    rw [List.length_append, List.length_singleton] at hl
    have e2 : i = nds.length := by omega
    subst e2
    rw [List.getElem?_append_right (Nat.le_refl _), Nat.sub_self] at hy
    cases hy
    exact hx
theorem comes_ok {N n : Nat} {x : Nat × Int × List Nat} {S S' : ST} (hS : stC N S) (hx : ndOK N S.1.length x) (h : comes x S = some (n, S')) : stT N S S' ∧ n = S.1.length ∧ S'.1 = S.1 ++ [x] ∧ S'.1.length = S.1.length + 1 ∧ S'.2 = S.2 := by
  unfold comes at h
  split at h
  · cases h
  · rename_i hn
    cases h
    obtain ⟨h1, h2, h3, h4⟩ := hS
    have hl : (S.1 ++ [x]).length = S.1.length + 1 := by rw [List.length_append, List.length_singleton]
    refine ⟨⟨⟨?_, ?_, nds_snoc h3 hx, fun i n hi hn2 => ?_⟩, ?_, rfl, rfl⟩, rfl, rfl, hl, rfl⟩
    · show (S.1 ++ [x]).length ≤ 1500; omega
    · show 2 ≤ (S.1 ++ [x]).length; omega
    · show n < (S.1 ++ [x]).length
      have := h4 i n hi hn2
      omega
    · show S.1.length ≤ (S.1 ++ [x]).length; omega
theorem stT.rf {N : Nat} {S : ST} (h : stC N S) : stT N S S := ⟨h, Nat.le_refl _, rfl, rfl⟩
theorem stT.tr {N : Nat} {S S' S'' : ST} (h : stT N S S') (g : stT N S' S'') : stT N S S'' := ⟨g.1, Nat.le_trans h.2.1 g.2.1, g.2.2.1.trans h.2.2.1, g.2.2.2.trans h.2.2.2⟩
theorem sg_nd {N i : Nat} : ∀ p, p < 24 → p % 12 < N → ndOK N i (2, sgOf p, []) := by
  intro p hp hN
  refine ⟨fun p hp => by (cases hp), Or.inr (Or.inl ⟨rfl, ?_, ?_, ?_, rfl⟩)⟩ <;> unfold sgOf <;> split <;> simp only <;> omega
theorem litP_ok {N n p : Nat} {S S' : ST} (hS : stC N S) (hp : p < 24) (hpN : p % 12 < N) (h : litP (2 ^ p) S = some (n, S')) : stT N S S' ∧ n < S'.1.length := by
  unfold litP at h
  rw [(pc_pow p hp).2.1] at h
  split at h
  · rename_i m hm
    cases h
    exact ⟨stT.rf hS, hS.2.2.2 p _ hp hm⟩
  · split at h
    · cases h
    · rename_i n1 S1 h1
      cases h
      obtain ⟨⟨g1, g2, g3, g4⟩, e1, e2, e3, e4⟩ := comes_ok hS (sg_nd p hp hpN) h1
      refine ⟨⟨⟨g1.1, g1.2.1, g1.2.2.1, fun i m hi hm => ?_⟩, g2, g3, g4⟩, ?_⟩
      · have hm : up1 S1.2.2.1 p (some n) i = some m := hm
        unfold up1 at hm
        split at hm
        · cases hm
          show n < S1.1.length
          omega
        · exact g1.2.2.2 i m hi hm
      · show n < S1.1.length
        omega
theorem litAll_ok {N : Nat} : ∀ {t ns : List Nat} {S S' : ST}, stC N S → sgs N t → litAll t S = some (ns, S') → stT N S S' ∧ ns.length = t.length ∧ ∀ x, x ∈ ns → x < S'.1.length
  | [], ns, S, S', hS, _, h => by
    cases h
    exact ⟨stT.rf hS, rfl, fun x hx => by cases hx⟩
  | s :: t, ns, S, S', hS, ht, h => by
    obtain ⟨p, hp, hpN, e⟩ := ht s (List.mem_cons_self ..)
    subst e
    unfold litAll at h
    split at h
    · cases h
    · rename_i n S1 h1
      obtain ⟨a1, a2⟩ := litP_ok hS hp hpN h1
      split at h
      · cases h
      · rename_i ns2 S2 h2
        cases h
        obtain ⟨b1, b2, b3⟩ := litAll_ok a1.1 (fun s hs => ht s (List.mem_cons_of_mem _ hs)) h2
        refine ⟨a1.tr b1, by rw [List.length_cons, List.length_cons, b2], fun x hx => ?_⟩
        rcases List.mem_cons.mp hx with hx | hx
        · subst hx
          exact Nat.lt_of_lt_of_le a2 b1.2.1
        · exact b3 x hx
theorem endL_ok {N n : Nat} {ps : List Nat} {S S' : ST} (hS : stC N S) (hp : ∀ x, x ∈ ps → x < S.1.length) (hl : ps.length ≤ 12) (h : endL ps S = some (n, S')) : stT N S S' ∧ n < S'.1.length := by
  unfold endL at h
  split at h
  · cases h
    exact ⟨stT.rf hS, by have := hS.2.1; omega⟩
  · cases h
    exact ⟨stT.rf hS, hp _ (List.mem_singleton.mpr rfl)⟩
  · rename_i x y r
    obtain ⟨a, b, -, c, -⟩ := comes_ok hS ⟨hp, Or.inr (Or.inr (Or.inl ⟨rfl, rfl, by show 2 ≤ (x :: y :: r).length; rw [List.length_cons, List.length_cons]; omega, hl⟩))⟩ h
    exact ⟨a, by omega⟩
theorem nodeL_ok {N n : Nat} {t nds : List Nat} {S S' : ST} (hS : stC N S) (ht : sgs N t) (hn : ∀ x, x ∈ nds → x < S.1.length) (hl : t.length + nds.length ≤ 12) (h : nodeL t nds S = some (n, S')) : stT N S S' ∧ n < S'.1.length := by
  unfold nodeL at h
  split at h
  · cases h
  · rename_i ls S1 h1
    obtain ⟨a, b, c⟩ := litAll_ok hS ht h1
    obtain ⟨e, f⟩ := endL_ok a.1 (fun x hx => by
      rcases List.mem_append.mp hx with z | z
      · exact c x z
      · exact Nat.lt_of_lt_of_le (hn x z) a.2.1) (by rw [List.length_append]; omega) h
    exact ⟨a.tr e, f⟩
