/-! what making a list keeps -/
def mtV (N : Nat) (m : MT) : Prop := (∀ x, x ∈ m → lsI N x.1) ∧ ∀ i j, i < m.length → j < m.length → (mAt m i).1 = (mAt m j).1 → i = j
def stV (N : Nat) (S : ST) : Prop := stC N S ∧ mtV N S.2.2.2 ∧ ∀ x, x ∈ S.2.2.2 → x.2 < S.1.length
def mkQ (N b a z : Nat) (S S' : ST) : Prop := stV N S' ∧ S.1.length ≤ S'.1.length ∧ (∃ e, S'.2.2.2 = S.2.2.2 ++ e ∧ ∀ x, x ∈ e → lc x.1 ≤ b) ∧ S'.2.2.2.length ≤ S.2.2.2.length + a ∧ stM S'.2.2.2 S'.2.2.2.length ≤ stM S.2.2.2 S.2.2.2.length + z ∧ S'.2.1 ≤ S.2.1 + a
theorem mkQ.rf {N b : Nat} {S : ST} (h : stV N S) : mkQ N b 0 0 S S := ⟨h, Nat.le_refl _, ⟨[], (List.append_nil _).symm, fun x hx => by cases hx⟩, Nat.le_refl _, Nat.le_refl _, Nat.le_refl _⟩
theorem mkQ.tr {N b a z a' z' : Nat} {S S' S'' : ST} (h : mkQ N b a z S S') (g : mkQ N b a' z' S' S'') : mkQ N b (a + a') (z + z') S S'' := by
  obtain ⟨h1, h2, ⟨e, h3, h4⟩, h5, h6, h7⟩ := h
  obtain ⟨g1, g2, ⟨f, g3, g4⟩, g5, g6, g7⟩ := g
  refine ⟨g1, by omega, ⟨e ++ f, by rw [g3, h3, List.append_assoc], fun x hx => ?_⟩, by omega, by omega, by omega⟩
  rcases List.mem_append.mp hx with y | y
  · exact h4 x y
  · exact g4 x y
theorem mkQ.wk {N b a z b' a' z' : Nat} {S S' : ST} (h : mkQ N b a z S S') (hb : b ≤ b') (ha : a ≤ a') (hz : z ≤ z') : mkQ N b' a' z' S S' := by
  obtain ⟨h1, h2, ⟨e, h3, h4⟩, h5, h6, h7⟩ := h
  exact ⟨h1, h2, ⟨e, h3, fun x hx => Nat.le_trans (h4 x hx) hb⟩, by omega, by omega, by omega⟩
theorem mkQ.T {N b : Nat} {S S' : ST} (hS : stV N S) (h : stT N S S') : mkQ N b 0 0 S S' := by
  obtain ⟨h1, h2, h3, h4⟩ := h
  refine ⟨⟨h1, by rw [h4]; exact hS.2.1, fun x hx => ?_⟩, h2, ⟨[], by rw [h4, List.append_nil], fun x hx => by cases hx⟩, by rw [h4]; exact Nat.le_refl _, by rw [h4]; exact Nat.le_refl _, by rw [h3]; exact Nat.le_refl _⟩
  rw [h4] at hx
  exact Nat.lt_of_lt_of_le (hS.2.2 x hx) h2
theorem mAt_mem {m : MT} {i : Nat} (hi : i < m.length) : mAt m i ∈ m := by
  unfold mAt
  rw [List.getD_eq_getElem?_getD, List.getElem?_eq_getElem hi]
  exact List.getElem_mem hi
theorem mtV_app {N n : Nat} {m : MT} {p : List Nat} (h : mtV N m) (hp : lsI N p) (hx : ∀ x, x ∈ m → x.1 ≠ p) : mtV N (m ++ [(p, n)]) := by
  refine ⟨fun x hxx => ?_, fun i j hi hj e => ?_⟩
  · rcases List.mem_append.mp hxx with y | y
    · exact h.1 x y
    · rw [List.mem_singleton] at y; rw [y]; exact hp
  · rw [List.length_append, List.length_singleton] at hi hj
    rw [mAt_app hi, mAt_app hj] at e
    by_cases ei : i = m.length <;> by_cases ej : j = m.length
    · omega
    · rw [if_pos ei, if_neg ej] at e
      exact absurd e.symm (hx _ (mAt_mem (by omega)))
    · rw [if_neg ei, if_pos ej] at e
      exact absurd e (hx _ (mAt_mem (by omega)))
    · rw [if_neg ei, if_neg ej] at e
      exact h.2 i j (by omega) (by omega) e
theorem stM_snoc {m : MT} {p : List Nat} {n : Nat} : stM (m ++ [(p, n)]) (m ++ [(p, n)]).length = stM m m.length + p.length := by
  rw [List.length_append, List.length_singleton]
  show stM (m ++ [(p, n)]) m.length + (mAt (m ++ [(p, n)]) m.length).1.length = _
  rw [stM_app (Nat.le_refl _), mAt_app (by omega), if_pos rfl]
theorem metL_no {m : MT} {p : List Nat} (h : metL m p = none) : ∀ x, x ∈ m → x.1 ≠ p := by
  intro x hx e
  unfold metL at h
  split at h
  · rename_i hf
    have := List.find?_eq_none.mp hf x hx
    simp at this
    exact this e
  · cases h
theorem metL_yes {m : MT} {p : List Nat} {n : Nat} (h : metL m p = some n) : ∃ x, x ∈ m ∧ x.2 = n := by
  unfold metL at h
  split at h
  · cases h
  · rename_i x hf
    cases h
    exact ⟨x, List.mem_of_find?_eq_some hf, rfl⟩
theorem lt_N {N l : Nat} {p : List Nat} (hp : lsI N p) (h : (ltU p).testBit l = true) : l < N := by
  obtain ⟨c, hc, hl⟩ := ltU_mem.mp h
  have h12 := ltN_12 hl
  rw [lt_bit h12] at hl
  have hN := (hp.2.2 c hc).2 l h12
  rcases Bool.or_eq_true_iff.mp hl with z | z
  · exact hN.1 z
  · exact hN.2.1 z
theorem chs_pos (a : Nat) (p : List Nat) : ∀ n, 0 < (chs a p n).2 → (chs a p n).1 ≠ none
  | 0, h => absurd h (Nat.lt_irrefl _)
  | n + 1, h => by
    unfold chs at h ⊢
    split
    · simp
    · rename_i hc
      rw [if_neg hc] at h
      exact chs_pos a p n h
theorem chs_some (a : Nat) (p : List Nat) (l : Nat) (ha : a.testBit l = true) (hc : 0 < cntL p l) : ∀ n, l < n → 0 < (chs a p n).2
  | 0, h => absurd h (Nat.not_lt_zero _)
  | n + 1, h => by
    unfold chs
    split
    · rename_i hq
      show 0 < cntL p n
      omega
    · rename_i hq
      by_cases e : l = n
      · subst e
        have : ¬ (chs a p l).2 < cntL p l := fun q => hq ⟨ha, q⟩
        omega
      · exact chs_some a p l ha hc n (by omega)
theorem chL_ok {p : List Nat} (ak : Nat) (h : 1 ≤ lc p) : chL ak p < 12 ∧ (ltU p).testBit (chL ak p) = true ∧ (chs (chA ak p) p 12).1 = some (chL ak p) := by
  have hsub : ∀ i, (chA ak p).testBit i = true → (ltU p).testBit i = true := by
    intro i hi
    unfold chA at hi
    split at hi
    · exact hi
    · rw [Nat.testBit_and] at hi
      exact (Bool.and_eq_true_iff.mp hi).1
  have hne : chA ak p ≠ 0 := by
    unfold chA
    split
    · intro e
      have : lc p = 0 := by unfold lc; rw [e]; exact fb_ct_zero.mpr (fun i _ => Nat.zero_testBit i)
      omega
    · assumption
  obtain ⟨l, hl⟩ := ne0_bit hne
  obtain ⟨c, hc, hcl⟩ := ltU_mem.mp (hsub l hl)
  have hcnt : 0 < cntL p l := by
    obtain ⟨i, hi, e⟩ := mem_ix.mp hc
    exact fb_ct_pos.mpr ⟨i, hi, by show (ltN (p.getD i 0)).testBit l = true; rw [e]; exact hcl⟩
  have hs := chs_pos _ _ _ (chs_some (chA ak p) p l hl hcnt 12 (ltN_12 hcl))
  obtain ⟨m, hm⟩ := Option.ne_none_iff_exists'.mp hs
  have hb := (chs_bd (chA ak p) p 12).2 m hm
  unfold chL
  rw [hm]
  exact ⟨hb.1, hsub m hb.2, rfl⟩
theorem chc_ok {N l y z n : Nat} {S S' : ST} (hS : stC N S) (hl : l < N) (hy : y < S.1.length) (hz : z < S.1.length) (h : chc l y z S = some (n, S')) : stT N S S' ∧ n < S'.1.length := by
  unfold chc at h
  split at h
  · cases h
    exact ⟨stT.rf hS, by have := hS.2.1; omega⟩
  · obtain ⟨a, b, -, c, -⟩ := comes_ok hS ⟨fun p hp => by
      have hp : p ∈ [y, z] := hp
      rcases List.mem_cons.mp hp with e | e
      · omega
      · rw [List.mem_singleton] at e; omega, Or.inr (Or.inr (Or.inr ⟨rfl, by show (1 : Int) ≤ (l : Int) + 1; omega, by show (l : Int) + 1 ≤ N; omega, rfl⟩))⟩ h
    exact ⟨a, by omega⟩
def recOK (N : Nat) (k : Nat) (rec : List Nat → ST → Option (Nat × ST)) : Prop := ∀ l S n S', lsI N l → lc l + 1 ≤ k → stV N S → rec l S = some (n, S') → mkQ N (lc l) (roomA (lc l)) (roomZ (lc l)) S S' ∧ n < S'.1.length
theorem mkP_ok {N ak n : Nat} {rec : List Nat → ST → Option (Nat × ST)} {p : List Nat} {S S' : ST} (hN : N ≤ 12) (H : recOK N (lc p) rec) (hp : lsI N p) (h2 : 2 ≤ lc p) (hlen : p.length ≤ ccN (lc p)) (hS : stV N S) (h : mkP ak rec p S = some (n, S')) : mkQ N (lc p) (roomA (lc p)) (roomZ (lc p)) S S' ∧ n < S'.1.length := by
  have h12 : lc p ≤ 12 := lc_le
  obtain ⟨c1, c2, -⟩ := chL_ok (p := p) ak (by omega)
  have st := room_st 0 (by omega) (lc p) (by omega) h2 (by omega)
  unfold mkP at h
  split at h
  · rename_i m hm
    cases h
    obtain ⟨x, hx, e⟩ := metL_yes hm
    refine ⟨⟨hS, Nat.le_refl _, ⟨[], (List.append_nil _).symm, fun x hx => by cases hx⟩, ?_, ?_, ?_⟩, ?_⟩
    · show S.2.2.2.length ≤ _; omega
    · show stM S.2.2.2 S.2.2.2.length ≤ _; omega
    · show S.2.1 + 1 ≤ _; omega
    · show n < S.1.length
      rw [← e]; exact hS.2.2 x hx
  · rename_i hm
    split at h
    · cases h
    · rename_i y S1 h1
      split at h
      · cases h
      · rename_i z S2 h3
        split at h
        · cases h
        · rename_i n1 S3 h4
          cases h
          have k1 := tk_lc (p := chL ak p) (l := p) (by omega) (by rw [Nat.mod_eq_of_lt c1]; exact c2)
          have k2 := tk_lc (p := 12 + chL ak p) (l := p) (by omega) (by rw [show (12 + chL ak p) % 12 = chL ak p by omega]; exact c2)
          obtain ⟨a1, a2⟩ := H _ _ _ _ (tk_lsI hp) k1 hS h1
          obtain ⟨b1, b2⟩ := H _ _ _ _ (tk_lsI hp) k2 a1.1 h3
          obtain ⟨d1, d2⟩ := chc_ok b1.1.1 (lt_N hp c2) (Nat.lt_of_lt_of_le a2 b1.2.1) b2 h4
          have r1 := room_le (lc (tkS (2 ^ chL ak p) p)) (by omega) (lc p - 1) (by omega) (by omega)
          have r2 := room_le (lc (tkS (2 ^ (12 + chL ak p)) p)) (by omega) (lc p - 1) (by omega) (by omega)
          have r3 := room_st (lc p - 1) (by omega) (lc p) (by omega) h2 (by omega)
          have q1 := a1.wk (b' := lc p - 1) (by omega) r1.1 r1.2
          have q2 := b1.wk (b' := lc p - 1) (by omega) r2.1 r2.2
          have q := (q1.tr q2).tr (mkQ.T b1.1 d1)
          obtain ⟨⟨s1, s2, s3⟩, t2, ⟨e, t3, t4⟩, t5, t6, t7⟩ := q
          have hno : ∀ x, x ∈ S3.2.2.2 → x.1 ≠ p := by
            intro x hx
            rw [t3] at hx
            rcases List.mem_append.mp hx with w | w
            · exact metL_no hm x w
            · intro ex
              have := t4 x w
              rw [ex] at this
              omega
          refine ⟨⟨⟨s1, mtV_app s2 hp hno, fun x hx => ?_⟩, t2, ⟨e ++ [(p, n)], ?_, fun x hx => ?_⟩, ?_, ?_, ?_⟩, d2⟩
          · rcases List.mem_append.mp hx with w | w
            · exact s3 x w
            · rw [List.mem_singleton] at w; rw [w]; exact d2
          · show S3.2.2.2 ++ [(p, n)] = _
            rw [t3, List.append_assoc]
          · rcases List.mem_append.mp hx with w | w
            · have := t4 x w; omega
            · rw [List.mem_singleton] at w; rw [w]; exact Nat.le_refl _
          · show (S3.2.2.2 ++ [(p, n)]).length ≤ _
            rw [List.length_append, List.length_singleton]
            omega
          · show stM (S3.2.2.2 ++ [(p, n)]) (S3.2.2.2 ++ [(p, n)]).length ≤ _
            rw [stM_snoc]
            omega
          · show S3.2.1 ≤ _
            omega
theorem mkPs_ok {N b : Nat} {f : List Nat → ST → Option (Nat × ST)} : ∀ {ps : List (List Nat)} {a : List Nat} {S S' : ST} {o : Option (List Nat)}, (∀ p, p ∈ ps → lc p ≤ b ∧ ∀ S n S', stV N S → f p S = some (n, S') → mkQ N (lc p) (roomA (lc p)) (roomZ (lc p)) S S' ∧ n < S'.1.length) → stV N S → (∀ x, x ∈ a → x < S.1.length) → mkPs f ps a S = some (o, S') → mkQ N b (sumF (fun p => roomA (lc p)) ps) (sumF (fun p => roomZ (lc p)) ps) S S' ∧ ∀ nds, o = some nds → nds.length = a.length + ps.length ∧ ∀ x, x ∈ nds → x < S'.1.length
  | [], a, S, S', o, _, hS, ha, h => by
    cases h
    exact ⟨mkQ.rf hS, fun nds e => by cases e; exact ⟨rfl, ha⟩⟩
  | p :: ps, a, S, S', o, H, hS, ha, h => by
    unfold mkPs at h
    split at h
    · cases h
    · rename_i n S1 h1
      obtain ⟨hb, hp⟩ := H p (List.mem_cons_self ..)
      obtain ⟨q1, q2⟩ := hp S n S1 hS h1
      split at h
      · cases h
        exact ⟨q1.wk hb (Nat.le_add_right _ _) (Nat.le_add_right _ _), fun nds e => by cases e⟩
      · obtain ⟨r1, r2⟩ := mkPs_ok (fun p hp => H p (List.mem_cons_of_mem _ hp)) q1.1 (fun x hx => by
          rcases List.mem_append.mp hx with w | w
          · exact Nat.lt_of_lt_of_le (ha x w) q1.2.1
          · rw [List.mem_singleton] at w; rw [w]; exact q2) h
        refine ⟨(q1.wk hb (Nat.le_refl _) (Nat.le_refl _)).tr r1, fun nds e => ?_⟩
        obtain ⟨w1, w2⟩ := r2 nds e
        exact ⟨by rw [w1, List.length_append, List.length_singleton, List.length_cons]; omega, w2⟩
theorem sum_room : ∀ {ps : List (List Nat)}, sumF lc ps ≤ 12 → sumF (fun p => roomA (lc p)) ps ≤ roomA (sumF lc ps) ∧ sumF (fun p => roomZ (lc p)) ps ≤ roomZ (sumF lc ps)
  | [], _ => ⟨Nat.le_refl _, Nat.le_refl _⟩
  | p :: ps, h => by
    unfold sumF at h ⊢
    have ih := sum_room (ps := ps) (by omega)
    have := room_add (lc p) (by omega) (sumF lc ps) (by omega) h
    omega
theorem sum_len : ∀ {ps : List (List Nat)}, (∀ p, p ∈ ps → 2 ≤ lc p) → ps.length ≤ sumF lc ps
  | [], _ => Nat.le_refl _
  | p :: ps, h => by
    unfold sumF
    have ih := sum_len (ps := ps) (fun p hp => h p (List.mem_cons_of_mem _ hp))
    have := h p (List.mem_cons_self ..)
    rw [List.length_cons]
    omega
theorem sum_mem {p : List Nat} : ∀ {ps : List (List Nat)}, p ∈ ps → lc p ≤ sumF lc ps
  | [], h => by cases h
  | q :: ps, h => by
    unfold sumF
    rcases List.mem_cons.mp h with e | h
    · rw [e]; omega
    · have := sum_mem h; omega
/-- what a list's pieces are like -/
theorem pcs_all {N : Nat} {l l' t : List Nat} (hN : N ≤ 12) (h : lsI N l) (hs : sim 13 l [] = some (l', t)) : lsI N l' ∧ sgs N t ∧ (∀ c, c ∈ l' → 2 ≤ pc24 c) ∧ t.length + lc l' ≤ lc l ∧ (pcs l'.length l').length ≤ lc l' ∧ sumF lc (pcs l'.length l') ≤ lc l' ∧ ∀ p, p ∈ pcs l'.length l' → lsI N p ∧ 2 ≤ lc p ∧ p.length ≤ ccN (lc p) ∧ lc p ≤ lc l' := by
  have h12 : lc l ≤ 12 := lc_le
  obtain ⟨a1, a2⟩ := sim_lsI hN 13 l [] h (fun s hs => by cases hs) l' t hs
  obtain ⟨-, b2, -, b4, -, -⟩ := sim_ok 13 l [] (lsI_ok hN h) (by omega) (fun s hs => by cases hs) l' t hs
  rw [List.length_nil, Nat.zero_add] at b4
  have hz := nz_of (lsI_ok hN a1).2 b2
  have hp : ∀ p, p ∈ pcs l'.length l' → lsI N p ∧ 2 ≤ lc p ∧ p.length ≤ ccN (lc p) := fun p hp => by
    obtain ⟨c1, c2⟩ := pcs_sub _ _ a1 p hp
    have c3 : ∀ c, c ∈ p → 2 ≤ pc24 c := fun c hc => b2 c (c2 c hc)
    exact ⟨c1, p_lc hN c1 c3 (pcs_ne hz p hp), p_len hN c1 c3⟩
  have hsum := pcs_lc l'.length l'
  exact ⟨a1, a2, b2, b4, Nat.le_trans (sum_len (fun p q => (hp p q).2.1)) hsum, hsum, fun p q => ⟨(hp p q).1, (hp p q).2.1, (hp p q).2.2, Nat.le_trans (sum_mem q) hsum⟩⟩
theorem mkL_ok {N ak : Nat} (hN : N ≤ 12) : ∀ f, recOK N f (mkL ak f)
  | 0 => fun l S n S' _ h => absurd h (by omega)
  | f + 1 => fun l S n S' hl hf hS h => by
    have ih := mkL_ok (ak := ak) hN f
    have h12 : lc l ≤ 12 := lc_le
    unfold mkL at h
    split at h
    · cases h
      exact ⟨(mkQ.rf hS).wk (Nat.le_refl _) (Nat.zero_le _) (Nat.zero_le _), by have := hS.1.2.1; omega⟩
    · rename_i l' t hs
      obtain ⟨a1, a2, a3, a4, a5, a6, a7⟩ := pcs_all hN hl hs
      have hsr := sum_room (ps := pcs l'.length l') (by omega)
      have m1 := room_le (sumF lc (pcs l'.length l')) (by omega) (lc l) (by omega) (by omega)
      have H : ∀ p, p ∈ pcs l'.length l' → lc p ≤ lc l ∧ ∀ S n S', stV N S → mkP ak (mkL ak f) p S = some (n, S') → mkQ N (lc p) (roomA (lc p)) (roomZ (lc p)) S S' ∧ n < S'.1.length := fun p hp => by
        obtain ⟨b1, b2, b3, b4⟩ := a7 p hp
        exact ⟨by omega, fun S n S' hS h => mkP_ok hN (fun l2 S n S' q1 q2 => ih l2 S n S' q1 (by omega)) b1 b2 b3 hS h⟩
      split at h
      · cases h
      · rename_i S1 h1
        cases h
        obtain ⟨q1, -⟩ := mkPs_ok H hS (fun x hx => by cases hx) h1
        exact ⟨q1.wk (Nat.le_refl _) (by omega) (by omega), by have := q1.1.1.2.1; omega⟩
      · rename_i nds S1 h1
        obtain ⟨q1, q2⟩ := mkPs_ok H hS (fun x hx => by cases hx) h1
        obtain ⟨w1, w2⟩ := q2 nds rfl
        rw [List.length_nil, Nat.zero_add] at w1
        obtain ⟨r1, r2⟩ := nodeL_ok q1.1.1 a2 w2 (by omega) h
        exact ⟨(q1.tr (mkQ.T q1.1 r1)).wk (Nat.le_refl _) (by omega) (by omega), r2⟩
