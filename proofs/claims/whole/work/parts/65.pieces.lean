/-! pieces -/
def selF (l : List Nat) (f : Nat → Bool) : Nat → Nat → List Nat
  | 0, _ => []
  | n + 1, k => if f k then l.getD k 0 :: selF l f n (k + 1) else selF l f n (k + 1)
def selL (l : List Nat) (f : Nat → Bool) : List Nat := selF l f l.length 0
theorem selF_filter (l : List Nat) (f : Nat → Bool) (g : Nat → Bool) : ∀ n k, selF l (fun i => f i && g (l.getD i 0)) n k = (selF l f n k).filter g
  | 0, _ => rfl
  | n + 1, k => by
    rw [selF, selF, selF_filter l f g n (k + 1)]
    cases f k
    · simp
    · rw [Bool.true_and, if_pos rfl, List.filter_cons]
theorem selF_congr {l : List Nat} {f g : Nat → Bool} : ∀ {n k : Nat}, (∀ i, k ≤ i → i < k + n → f i = g i) → selF l f n k = selF l g n k
  | 0, _, _ => rfl
  | n + 1, k, h => by
    rw [selF, selF, h k (Nat.le_refl _) (by omega), selF_congr (n := n) (fun i h1 h2 => h i (by omega) (by omega))]
theorem selF_mem {l : List Nat} {f : Nat → Bool} {c : Nat} : ∀ {n k : Nat}, c ∈ selF l f n k ↔ ∃ i, k ≤ i ∧ i < k + n ∧ f i = true ∧ l.getD i 0 = c
  | 0, k => by
    constructor
    · intro h; cases h
    · rintro ⟨i, h1, h2, -⟩; omega
  | n + 1, k => by
    rw [selF]
    have ih := selF_mem (l := l) (f := f) (c := c) (n := n) (k := k + 1)
    constructor
    · intro h
      split at h
      · rename_i hf
        rcases List.mem_cons.mp h with h | h
        · exact ⟨k, Nat.le_refl _, by omega, hf, h.symm⟩
        · obtain ⟨i, h1, h2, h3⟩ := ih.mp h
          exact ⟨i, by omega, by omega, h3⟩
      · obtain ⟨i, h1, h2, h3⟩ := ih.mp h
        exact ⟨i, by omega, by omega, h3⟩
    · rintro ⟨i, h1, h2, h3, h4⟩
      by_cases e : i = k
      · subst e
        rw [if_pos h3, ← h4]
        exact List.mem_cons_self ..
      · have hm := ih.mpr ⟨i, by omega, by omega, h3, h4⟩
        split
        · exact List.mem_cons_of_mem _ hm
        · exact hm
theorem selF_skip {l : List Nat} {f : Nat → Bool} : ∀ {a n k : Nat}, (∀ i, k ≤ i → i < k + a → f i = false) → selF l f (a + n) k = selF l f n (k + a)
  | 0, n, k, _ => by rw [Nat.zero_add, Nat.add_zero]
  | a + 1, n, k, h => by
    rw [show a + 1 + n = (a + n) + 1 by omega, selF, h k (Nat.le_refl _) (by omega), if_neg (by decide), selF_skip (a := a) (fun i h1 h2 => h i (by omega) (by omega)), show k + 1 + a = k + (a + 1) by omega]
theorem selF_all {l : List Nat} : ∀ {n k : Nat}, k + n = l.length → selF l (fun _ => true) n k = l.drop k
  | 0, k, h => by rw [List.drop_eq_nil_of_le (by omega)]; rfl
  | n + 1, k, h => by
    have hk : k < l.length := by omega
    rw [selF, if_pos rfl, selF_all (n := n) (by omega), List.drop_eq_getElem_cons hk, List.getD_eq_getElem?_getD, List.getElem?_eq_getElem hk]
    rfl
theorem selL_all (l : List Nat) : selL l (fun _ => true) = l := by
  have := selF_all (l := l) (n := l.length) (k := 0) (by omega)
  rwa [List.drop_zero] at this
theorem selL_len (l : List Nat) (f : Nat → Bool) : (selL l f).length ≤ l.length := by
  have := selF_filter l (fun _ => true) (fun _ => true) l.length 0
  have key : ∀ n k, (selF l f n k).length ≤ n := by
    intro n
    induction n with
    | zero => intro k; exact Nat.le_refl _
    | succ n ih =>
      intro k
      rw [selF]
      split
      · rw [List.length_cons]; have := ih (k + 1); omega
      · have := ih (k + 1); omega
  exact key _ _
theorem selL_mem {l : List Nat} {f : Nat → Bool} {c : Nat} : c ∈ selL l f ↔ ∃ i, i < l.length ∧ f i = true ∧ l.getD i 0 = c := by
  unfold selL
  rw [selF_mem]
  constructor
  · rintro ⟨i, -, h2, h3⟩; exact ⟨i, by omega, h3⟩
  · rintro ⟨i, h2, h3⟩; exact ⟨i, Nat.zero_le _, by omega, h3⟩
theorem selL_head {l : List Nat} {f : Nat → Bool} {k : Nat} (hk : k < l.length) (h : ∀ i, i < k → f i = false) (hf : f k = true) : ∃ r, selL l f = l.getD k 0 :: r := by
  unfold selL
  have e := selF_skip (l := l) (f := f) (a := k) (n := l.length - k) (k := 0) (fun i _ h2 => h i (by omega))
  rw [show k + (l.length - k) = l.length by omega, Nat.zero_add, show l.length - k = (l.length - k - 1) + 1 by omega, selF, if_pos hf] at e
  exact ⟨_, e⟩
theorem cloP_of {l : List Nat} {a i : Nat} (h : a.testBit i = true) : cloP l a i := fun _ _ hL => hL i h
theorem cloP_step {l : List Nat} {a c i : Nat} (hc : c ∈ l) (h : ∃ j, (ltN c).testBit j = true ∧ cloP l a j) (hi : (ltN c).testBit i = true) : cloP l a i := fun L hL ha => by
  obtain ⟨j, h1, h2⟩ := h
  exact hL c hc ⟨j, h1, h2 L hL ha⟩ i hi
theorem cloP_sub {l : List Nat} {a i : Nat} (ha : ∀ j, a.testBit j = true → (ltU l).testBit j = true) (h : cloP l a i) : (ltU l).testBit i = true := h (ltU l) (fun _ hc _ j hj => ltU_mem.mpr ⟨_, hc, hj⟩) ha
theorem shr_iff {l : List Nat} {a c : Nat} : shr l a c = true ↔ ∃ i, (ltN c).testBit i = true ∧ cloP l a i := by
  unfold shr
  exact @decide_eq_true_iff _ (Classical.propDecidable _)
theorem ne0_bit {a : Nat} (h : a ≠ 0) : ∃ i, a.testBit i = true := by
  by_cases q : ∃ i, a.testBit i = true
  · exact q
  · exact absurd (zero_bits (fun i => by
      cases e : a.testBit i
      · rfl
      · exact absurd ⟨i, e⟩ q)) h
theorem shr_self {l : List Nat} {c : Nat} (h : ltN c ≠ 0) : shr l (ltN c) c = true := by
  obtain ⟨i, hi⟩ := ne0_bit h
  exact shr_iff.mpr ⟨i, hi, cloP_of hi⟩
theorem pcs_fuel : ∀ {n m : Nat} {l : List Nat}, l.length ≤ n → l.length ≤ m → (∀ c, c ∈ l → ltN c ≠ 0) → pcs n l = pcs m l
  | n, m, [], _, _, _ => by cases n <;> cases m <;> rfl
  | 0, _, c :: r, h, _, _ => by simp at h
  | _ + 1, 0, c :: r, _, h, _ => by simp at h
  | n + 1, m + 1, c :: r, h1, h2, hz => by
    rw [List.length_cons] at h1 h2
    have hs : shr (c :: r) (ltN c) c = true := shr_self (hz c (List.mem_cons_self ..))
    have hlen : ((c :: r).filter (fun d => !shr (c :: r) (ltN c) d)).length ≤ r.length := by
      rw [List.filter_cons, hs]
      exact List.length_filter_le _ _
    rw [pcs, pcs, pcs_fuel (n := n) (m := m) (by omega) (by omega) (fun d hd => hz d (List.mem_filter.mp hd).1)]
/-- the marking of a list's pieces, as far as it has come -/
def mkI : Option Nat → Int32
  | none => -1
  | some j => nI j
def isN (o : Option Nat) : Bool := match o with
  | none => true
  | some _ => false
def isJ (o : Option Nat) (j : Nat) : Bool := decide (o = some j)
def mkOK (l : List Nat) (m : Nat → Option Nat) (n k : Nat) : Prop := (∀ i, i < k → i < l.length → m i ≠ none) ∧ pcs l.length l = (List.range n).map (fun j => selL l (fun i => isJ (m i) j)) ++ pcs l.length (selL l (fun i => isN (m i))) ∧ (∀ i j, i < l.length → j < l.length → m i ≠ none → m j = none → ∀ z, ¬ ((ltN (l.getD i 0)).testBit z = true ∧ (ltN (l.getD j 0)).testBit z = true)) ∧ (∀ i j, i < l.length → m i = some j → j < n)
theorem isN_iff {o : Option Nat} : isN o = true ↔ o = none := by cases o <;> simp [isN]
theorem mkOK_0 (l : List Nat) : mkOK l (fun _ => none) 0 0 := by
  refine ⟨fun i hi => absurd hi (Nat.not_lt_zero _), ?_, fun i j _ _ h => absurd rfl h, fun i j _ h => by cases h⟩
  have : selL l (fun i => isN ((fun _ => none : Nat → Option Nat) i)) = l := selL_all l
  rw [this]
  rfl
theorem mkOK_skip {l : List Nat} {m : Nat → Option Nat} {n k : Nat} (h : mkOK l m n k) (hk : m k ≠ none) : mkOK l m n (k + 1) := ⟨fun i hi hl => by
  by_cases e : i = k
  · rw [e]; exact hk
  · exact h.1 i (by omega) hl, h.2⟩
noncomputable def mkN (l : List Nat) (m : Nat → Option Nat) (n k : Nat) : Nat → Option Nat := fun i => if m i = none ∧ shr (selL l (fun i => isN (m i))) (ltN (l.getD k 0)) (l.getD i 0) = true then some n else m i
theorem mkOK_step {l : List Nat} {m : Nat → Option Nat} {n k : Nat} (hz : ∀ c, c ∈ l → ltN c ≠ 0) (h : mkOK l m n k) (hk : k < l.length) (hm : m k = none) : mkOK l (mkN l m n k) (n + 1) (k + 1) := by
  obtain ⟨h1, h2, h3, h4⟩ := h
  have hku : isN (m k) = true := isN_iff.mpr hm
  have hkz := hz _ (getD_mem hk)
  obtain ⟨r, hr⟩ := selL_head (f := fun i => isN (m i)) hk (fun i hi => by
    have := h1 i hi (by omega)
    cases e : m i with
    | none => exact absurd e this
    | some j => rfl) hku
  have hlt : ∀ i, i < l.length → m i ≠ some n := fun i hi q => by have := h4 i n hi q; omega
  have hkn : mkN l m n k k = some n := by
    unfold mkN
    rw [if_pos ⟨hm, shr_self hkz⟩]
  refine ⟨fun i hi hl => ?_, ?_, fun i j hi hj hni hnj z => ?_, fun i j hi e => ?_⟩
  · by_cases e : i = k
    · rw [e, hkn]; exact fun q => by cases q
    · unfold mkN
      split
      · exact fun q => by cases q
      · exact h1 i (by omega) hl
  · rw [h2, List.range_succ, List.map_append]
    have e1 : (List.range n).map (fun j => selL l (fun i => isJ (mkN l m n k i) j)) = (List.range n).map (fun j => selL l (fun i => isJ (m i) j)) := by
      refine List.map_congr_left (fun j hj => ?_)
      have hj := List.mem_range.mp hj
      refine selF_congr (fun i _ hi => ?_)
      show isJ (mkN l m n k i) j = isJ (m i) j
      unfold mkN
      split
      · rename_i q
        unfold isJ
        rw [q.1, decide_eq_false (fun z => by cases z; omega), decide_eq_false (fun z => by cases z)]
      · rfl
    rw [e1, List.append_assoc]
    congr 1
    have e2 : selL l (fun i => isJ (mkN l m n k i) n) = (selL l (fun i => isN (m i))).filter (shr (selL l (fun i => isN (m i))) (ltN (l.getD k 0))) := by
      unfold selL
      rw [← selF_filter]
      refine selF_congr (fun i _ hi => ?_)
      show isJ (mkN l m n k i) n = _
      unfold mkN
      by_cases q : m i = none ∧ shr (selL l (fun i => isN (m i))) (ltN (l.getD k 0)) (l.getD i 0) = true
      · rw [if_pos q, isN_iff.mpr q.1, Bool.true_and]
        have : isJ (some n) n = true := decide_eq_true rfl
        rw [this]
        exact q.2.symm
      · rw [if_neg q]
        have : isJ (m i) n = false := decide_eq_false (hlt i (by omega))
        rw [this]
        cases e : m i with
        | none =>
          have : ¬ shr (selL l (fun i => isN (m i))) (ltN (l.getD k 0)) (l.getD i 0) = true := fun z => q ⟨e, z⟩
          rw [Bool.not_eq_true] at this
          exact (by rw [show shr (selF l (fun i => isN (m i)) l.length 0) (ltN (l.getD k 0)) (l.getD i 0) = false from this]; rfl)
        | some j => rfl
    have e3 : selL l (fun i => isN (mkN l m n k i)) = (selL l (fun i => isN (m i))).filter (fun d => !shr (selL l (fun i => isN (m i))) (ltN (l.getD k 0)) d) := by
      unfold selL
      rw [← selF_filter]
      refine selF_congr (fun i _ hi => ?_)
      show isN (mkN l m n k i) = _
      unfold mkN
      by_cases q : m i = none ∧ shr (selL l (fun i => isN (m i))) (ltN (l.getD k 0)) (l.getD i 0) = true
      · rw [if_pos q]
        have : shr (selF l (fun i => isN (m i)) l.length 0) (ltN (l.getD k 0)) (l.getD i 0) = true := q.2
        rw [this]
        simp [isN]
      · rw [if_neg q]
        cases e : m i with
        | none =>
          have : ¬ shr (selL l (fun i => isN (m i))) (ltN (l.getD k 0)) (l.getD i 0) = true := fun z => q ⟨e, z⟩
          rw [Bool.not_eq_true] at this
          exact (by rw [show shr (selF l (fun i => isN (m i)) l.length 0) (ltN (l.getD k 0)) (l.getD i 0) = false from this]; rfl)
        | some j => rfl
    have hU : ∀ c, c ∈ selL l (fun i => isN (m i)) → ltN c ≠ 0 := fun c hc => by
      obtain ⟨i, hi, -, e⟩ := selL_mem.mp hc
      rw [← e]; exact hz _ (getD_mem hi)
    have hlen := selL_len l (fun i => isN (m i))
    have e4 : pcs l.length (selL l (fun i => isN (m i))) = (selL l (fun i => isN (m i))).filter (shr (selL l (fun i => isN (m i))) (ltN (l.getD k 0))) :: pcs l.length ((selL l (fun i => isN (m i))).filter (fun d => !shr (selL l (fun i => isN (m i))) (ltN (l.getD k 0)) d)) := by
      rw [hr] at hU hlen ⊢
      rw [List.length_cons] at hlen
      have hs : shr (l.getD k 0 :: r) (ltN (l.getD k 0)) (l.getD k 0) = true := shr_self hkz
      have hl2 : ((l.getD k 0 :: r).filter (fun d => !shr (l.getD k 0 :: r) (ltN (l.getD k 0)) d)).length ≤ r.length := by
        rw [List.filter_cons, hs]
        exact List.length_filter_le _ _
      obtain ⟨n', hn'⟩ : ∃ n', l.length = n' + 1 := ⟨l.length - 1, by omega⟩
      rw [hn'] at hlen ⊢
      rw [pcs, pcs_fuel (n := n') (m := n' + 1) (by omega) (by omega) (fun d hd => hU d (List.mem_filter.mp hd).1)]
    rw [e4, ← e2, ← e3]
    rfl
  · unfold mkN at hni hnj
    by_cases qj : m j = none ∧ shr (selL l (fun i => isN (m i))) (ltN (l.getD k 0)) (l.getD j 0) = true
    · rw [if_pos qj] at hnj; cases hnj
    · rw [if_neg qj] at hnj
      by_cases qi : m i = none ∧ shr (selL l (fun i => isN (m i))) (ltN (l.getD k 0)) (l.getD i 0) = true
      · rintro ⟨z1, z2⟩
        have hmi : l.getD i 0 ∈ selL l (fun i => isN (m i)) := selL_mem.mpr ⟨i, hi, isN_iff.mpr qi.1, rfl⟩
        exact qj ⟨hnj, shr_iff.mpr ⟨z, z2, cloP_step hmi (shr_iff.mp qi.2) z1⟩⟩
      · rw [if_neg qi] at hni
        exact h3 i j hi hj hni hnj z
  · unfold mkN at e
    split at e
    · cases e; omega
    · have := h4 i j hi e; omega
theorem and_ne0 {a b : Nat} : (a &&& b ≠ 0) ↔ ∃ i, a.testBit i = true ∧ b.testBit i = true := by
  constructor
  · intro h
    obtain ⟨i, hi⟩ := ne0_bit h
    rw [Nat.testBit_and] at hi
    exact ⟨i, Bool.and_eq_true_iff.mp hi⟩
  · rintro ⟨i, h1, h2⟩ h
    have := congrArg (fun z => z.testBit i) h
    simp only [Nat.testBit_and, h1, h2, Nat.zero_testBit] at this
    cases this
