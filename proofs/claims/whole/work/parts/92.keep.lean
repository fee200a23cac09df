/-! every call keeps what is known of the state -/
theorem sk_ref {σ : SG} {k : Nat} (h : sgOK σ) : sgOK (refS σ k) := h
theorem sk_G {σ : SG} {v : Int32} (h : sgOK σ) : sgOK (setG σ v) := h
theorem sk_B {σ : SG} {b : Nat} {k : BK} (h : sgOK σ) (hk : bkOK k) : sgOK (setB σ b k) := ⟨fun c hc => by
  show bkOK (up1 σ.1 b k c)
  unfold up1
  split
  · exact hk
  · exact h.1 c hc, h.2⟩
def lowW (N c : Nat) : Prop := c < 2 ^ 24 ∧ ∀ l, l < 12 → (c.testBit l = true → l < N) ∧ (c.testBit (12 + l) = true → l < N)
theorem lowW_or {N a b : Nat} (ha : lowW N a) (hb : lowW N b) : lowW N (a ||| b) := ⟨or_lt24 ha.1 hb.1, fun l hl => ⟨fun q => by
  rw [Nat.testBit_or, Bool.or_eq_true] at q
  exact q.elim (ha.2 l hl).1 (hb.2 l hl).1, fun q => by
  rw [Nat.testBit_or, Bool.or_eq_true] at q
  exact q.elim (ha.2 l hl).2 (hb.2 l hl).2⟩⟩
theorem lowW_0 {N : Nat} : lowW N 0 := ⟨by decide, fun l _ => ⟨fun q => by rw [Nat.zero_testBit] at q; (cases q), fun q => by rw [Nat.zero_testBit] at q; (cases q)⟩⟩
theorem lowW_pl {N : Nat} {s : Int} (hN : N ≤ 12) (h0 : s ≠ 0) (h1 : -(N : Int) ≤ s) (h2 : s ≤ N) : lowW N (2 ^ plN s) := by
  have hp : plN s < 24 := by unfold plN; split <;> omega
  refine ⟨Nat.pow_lt_pow_right (by decide) hp, fun l hl => ⟨fun q => ?_, fun q => ?_⟩⟩
  · rw [tb_pow] at q
    have q := of_decide_eq_true q
    unfold plN at q
    split at q <;> omega
  · rw [tb_pow] at q
    have q := of_decide_eq_true q
    unfold plN at q
    split at q <;> omega
theorem lowW_bs {N : Nat} {x : Int32} (hN : N ≤ 12) (h : alS N x) : lowW N (bs x) := by
  unfold bs
  by_cases h0 : x = 0
  · rw [if_pos h0]; exact lowW_0
  · rw [if_neg h0]
    obtain ⟨a, b, c⟩ := (okS_toInt hN).mp (show okS N x from ⟨h0, h⟩)
    exact lowW_pl hN a b c
theorem lowN_W {N m : Nat} (h : lowW N m) (hc : ¬ cfl m) : lowN N m := ⟨h.1, fun l hl => ⟨(h.2 l hl).1, (h.2 l hl).2, fun q => hc ⟨l, hl, q.1, q.2⟩⟩⟩
theorem ct_union {p q : Nat → Bool} : ∀ n, fb_ct (fun k => p k || q k) n ≤ fb_ct p n + fb_ct q n
  | 0 => Nat.le_refl _
  | n + 1 => by
    have ih := ct_union (p := p) (q := q) n
    rw [fb_ct_succ, fb_ct_succ, fb_ct_succ]
    cases p n <;> cases q n <;> simp <;> omega
theorem pc_union {a b : Nat} : pc24 (a ||| b) ≤ pc24 a + pc24 b := by
  have := ct_union (p := fun k => a.testBit k) (q := fun k => b.testBit k) 24
  unfold pc24
  refine Nat.le_trans (Nat.le_of_eq (fb_ct_cong (fun k _ => ?_))) this
  show (a ||| b).testBit k = (a.testBit k || b.testBit k)
  exact Nat.testBit_or ..
theorem pc_bs {N : Nat} {x : Int32} (hN : N ≤ 12) (h : alS N x) : pc24 (bs x) ≤ 1 := by
  unfold bs
  by_cases h0 : x = 0
  · rw [if_pos h0]; decide
  · rw [if_neg h0]
    have := (sgn hN (show okS N x from ⟨h0, h⟩)).2.1
    exact Nat.le_of_eq (pc_pow _ this).1
theorem sk_put {σ : SG} {b m : Nat} (hs : sgOK σ) (hb : b < 2) (hm : lowW (σ.1 b).N m) (h5 : pc24 m ≤ 5) : sgOK (oPut σ b m).2 := by
  obtain ⟨k1, k2, k3, k4, k5, k6, k7, k8⟩ := hs.1 b hb
  unfold oPut
  split
  · exact hs
  · rename_i hc
    split
    · exact hs
    · rename_i h40
      refine sk_B hs ⟨k1, k2, ?_, fun c hc2 => ?_, k5, k6, k7, fun g hg => by cases hg⟩
      · show ((σ.1 b).cl ++ [m]).length ≤ 40
        rw [List.length_append, List.length_singleton]; omega
      · rcases List.mem_append.mp hc2 with q | q
        · exact k4 c q
        · rw [List.mem_singleton] at q
          subst q
          exact ⟨lowN_W hm (fun q => hc (Or.inr q)), fun q => hc (Or.inl q), h5⟩
theorem sk_clause {σ : SG} {x s t u v : Int32} (hs : sgOK σ) : sgOK (oClause σ x s t u v).2 := by
  unfold oClause
  cases hx : bkOf x with
  | none => exact hs
  | some b =>
    obtain ⟨hb, -⟩ := bkOf_some hx
    have hN := (hs.1 b hb).2.1
    simp only
    split
    · rename_i h
      obtain ⟨h1, h2, h3, h4⟩ := h
      refine sk_put hs hb (lowW_or (lowW_or (lowW_or (lowW_bs hN h1) (lowW_bs hN h2)) (lowW_bs hN h3)) (lowW_bs hN h4)) ?_
      have p1 := pc_bs hN h1
      have p2 := pc_bs hN h2
      have p3 := pc_bs hN h3
      have p4 := pc_bs hN h4
      have q1 := pc_union (a := bs s) (b := bs t)
      have q2 := pc_union (a := bs s ||| bs t) (b := bs u)
      have q3 := pc_union (a := bs s ||| bs t ||| bs u) (b := bs v)
      omega
    · exact hs
theorem rowOr_W {N : Nat} {r : List Int} (hN : N ≤ 12) (h : ∀ i, i < r.length → r.getD i 0 ≠ 0 ∧ -(N : Int) ≤ r.getD i 0 ∧ r.getD i 0 ≤ N) : ∀ i, i ≤ r.length → lowW N (rowOr r i) ∧ pc24 (rowOr r i) ≤ i
  | 0, _ => ⟨lowW_0, (pc_pow 0 (by decide)).2.2.2.2 ▸ Nat.le_refl _⟩
  | i + 1, hi => by
    obtain ⟨a, b⟩ := rowOr_W hN h i (by omega)
    obtain ⟨c1, c2, c3⟩ := h i (by omega)
    refine ⟨lowW_or a (lowW_pl hN c1 c2 c3), ?_⟩
    have := pc_union (a := rowOr r i) (b := 2 ^ plN (r.getD i 0))
    have h1 := (pc_pow (plN (r.getD i 0)) (by unfold plN; split <;> omega)).1
    show pc24 (rowOr r i ||| 2 ^ plN (r.getD i 0)) ≤ i + 1
    omega
theorem sk_give {σ : SG} {x : Int32} (hs : sgOK σ) : sgOK (oGive σ x).2 := by
  unfold oGive
  cases hx : bkOf x with
  | none => exact hs
  | some b =>
    obtain ⟨hb, -⟩ := bkOf_some hx
    have hN := (hs.1 b hb).2.1
    cases hr : σ.2.1 with
    | none => exact hs
    | some r =>
      simp only
      split
      · rename_i h
        have h5 := (hs.2 r hr).1
        obtain ⟨a, c⟩ := rowOr_W (N := (σ.1 b).N) (r := r) hN (fun i hi => by
          have hm := row_mem hs hr hi
          have := (okS_toInt hN).mp (h i hi)
          rw [iI_toInt (by omega) (by omega)] at this
          exact this) r.length (Nat.le_refl _)
        exact sk_put hs hb a (by omega)
      · exact hs
theorem opp {s : Int} (h0 : s ≠ 0) (h1 : -12 ≤ s) (h2 : s ≤ 12) : (plN s < 12 → plN (-s) = 12 + plN s) ∧ (12 ≤ plN s → plN (-s) + 12 = plN s) := by
  unfold plN
  constructor
  · intro h
    split at h <;> split <;> omega
  · intro h
    split at h <;> split <;> omega
theorem lowN_add {N m : Nat} {s : Int} (hN : N ≤ 12) (h : lowN N m) (h0 : s ≠ 0) (h1 : -(N : Int) ≤ s) (h2 : s ≤ N) (hn : m.testBit (plN (-s)) = false) : lowN N (m ||| 2 ^ plN s) := by
  have hw := lowW_or (N := N) (a := m) ⟨h.1, fun l hl => ⟨(h.2 l hl).1, (h.2 l hl).2.1⟩⟩ (lowW_pl hN h0 h1 h2)
  refine lowN_W hw ?_
  rintro ⟨i, hi, e1, e2⟩
  obtain ⟨o1, o2⟩ := opp h0 (by omega) (by omega)
  rw [Nat.testBit_or, Bool.or_eq_true, tb_pow] at e1 e2
  have h3 := (h.2 i hi).2.2
  rcases e1 with e1 | e1
  · rcases e2 with e2 | e2
    · exact h3 ⟨e1, e2⟩
    · have e2 := of_decide_eq_true e2
      rw [show plN (-s) = i by omega, e1] at hn
      cases hn
  · have e1 := of_decide_eq_true e1
    rcases e2 with e2 | e2
    · rw [show plN (-s) = 12 + i by omega, e2] at hn
      cases hn
    · have e2 := of_decide_eq_true e2
      omega
theorem sk_more {σ : SG} {x s : Int32} (hs : sgOK σ) : sgOK (oMore σ x s).2 := by
  unfold oMore
  cases hx : bkOf x with
  | none => exact hs
  | some b =>
    obtain ⟨hb, -⟩ := bkOf_some hx
    obtain ⟨k1, k2, k3, k4, k5, k6, k7, k8⟩ := hs.1 b hb
    simp only
    split
    · rename_i ho
      split
      · exact hs
      · rename_i hne
        split
        · exact hs
        · rename_i hno
          split
          · exact hs
          · rename_i h5
            obtain ⟨n, hn⟩ := cl_len hne
            obtain ⟨-, l2, -⟩ := last_ok hs hb hn
            obtain ⟨a, c, d⟩ := (okS_toInt k2).mp ho
            have hno : ((lastC (σ.1 b)).testBit (plN s.toInt) || (lastC (σ.1 b)).testBit (plN (-s.toInt))) = false := by
              cases e : ((lastC (σ.1 b)).testBit (plN s.toInt) || (lastC (σ.1 b)).testBit (plN (-s.toInt)))
              · rfl
              · exact absurd e hno
            obtain ⟨n1, n2⟩ := Bool.or_eq_false_iff.mp hno
            refine sk_B hs ⟨k1, k2, ?_, fun c' hc2 => ?_, k5, k6, k7, fun g hg => by cases hg⟩
            · show ((σ.1 b).cl.set _ _).length ≤ 40
              rw [List.length_set]; exact k3
            · rcases List.mem_or_eq_of_mem_set hc2 with q | q
              · exact k4 c' q
              · subst q
                refine ⟨lowN_add k2 l2.1 a c d n2, fun q => ?_, ?_⟩
                · have := congrArg (fun z => z.testBit (plN s.toInt)) q
                  simp [tb_pow] at this
                · rw [pc_or (by unfold plN; split <;> omega) n1]
                  have := l2.2.2
                  omega
    · exact hs
theorem sk_letters {σ : SG} {x n : Int32} (hs : sgOK σ) : sgOK (oLetters σ x n).2 := by
  unfold oLetters
  cases hx : bkOf x with
  | none => exact hs
  | some b =>
    simp only
    split
    · rename_i h
      obtain ⟨h1, h2⟩ := h
      rw [fa_le] at h1 h2
      have e1 : (1 : Int32).toInt = 1 := by decide
      have e2 : (12 : Int32).toInt = 12 := by decide
      have e3 : n.toNatClampNeg = n.toInt.toNat := rfl
      refine sk_B hs ⟨?_, ?_, Nat.zero_le _, fun c hc => (by cases hc), Nat.two_pow_pos _, ⟨show (0 : Nat) < 2 ^ 24 by decide, fun l _ => ⟨fun q => ?_, fun q => ?_, fun q => ?_⟩⟩, fun _ => (show 1 ≤ 7 by decide), fun g hg => (by cases hg)⟩
      · show 1 ≤ n.toNatClampNeg; omega
      · show n.toNatClampNeg ≤ 12; omega
      · have q : (0 : Nat).testBit l = true := q
        rw [Nat.zero_testBit] at q; cases q
      · have q : (0 : Nat).testBit (12 + l) = true := q
        rw [Nat.zero_testBit] at q; cases q
      · have q : (0 : Nat).testBit l = true := q.1
        rw [Nat.zero_testBit] at q; cases q
    · exact hs
theorem sk_drop {σ : SG} {x : Int32} (hs : sgOK σ) : sgOK (oDrop σ x).2 := by
  unfold oDrop
  cases hx : bkOf x with
  | none => exact hs
  | some b =>
    obtain ⟨hb, -⟩ := bkOf_some hx
    obtain ⟨k1, k2, k3, k4, k5, k6, k7, k8⟩ := hs.1 b hb
    simp only
    split
    · exact hs
    · refine sk_B hs ⟨k1, k2, ?_, fun c hc => k4 c (List.dropLast_subset _ hc), k5, k6, k7, fun g hg => by cases hg⟩
      show (σ.1 b).cl.dropLast.length ≤ 40
      rw [List.length_dropLast]; omega
theorem sk_ask {σ : SG} {x l : Int32} {is : Bool} (hs : sgOK σ) : sgOK (oAsk σ x l is).2 := by
  unfold oAsk
  cases hx : bkOf x with
  | none => exact hs
  | some b =>
    obtain ⟨hb, -⟩ := bkOf_some hx
    obtain ⟨k1, k2, k3, k4, k5, k6, k7, k8⟩ := hs.1 b hb
    simp only
    split
    · rename_i h
      simp only
      split
      · exact hs
      · obtain ⟨-, l1, l2⟩ := letter_ok k2 h
        exact sk_B hs ⟨k1, k2, k3, k4, show (σ.1 b).ak ^^^ 2 ^ (l.toInt.toNat - 1) < 2 ^ (σ.1 b).N from Nat.xor_lt_two_pow k5 (Nat.pow_lt_pow_right (by decide) (by omega)), k6, k7, fun g hg => by cases hg⟩
    · exact hs
theorem sk_fix {σ : SG} {x s : Int32} (hs : sgOK σ) : sgOK (oFix σ x s).2 := by
  unfold oFix
  cases hx : bkOf x with
  | none => exact hs
  | some b =>
    obtain ⟨hb, -⟩ := bkOf_some hx
    obtain ⟨k1, k2, k3, k4, k5, k6, k7, k8⟩ := hs.1 b hb
    simp only
    split
    · rename_i ho
      split
      · exact hs
      · obtain ⟨a, c, d⟩ := (okS_toInt k2).mp ho
        refine sk_B hs ⟨k1, k2, k3, k4, k5, lowN_add k2 (lowN_sub k6) a c d ?_, k7, k8⟩
        rw [nclr_bit, tb_pow]
        simp
    · exact hs
theorem sk_loose {σ : SG} {x l : Int32} (hs : sgOK σ) : sgOK (oLoose σ x l).2 := by
  unfold oLoose
  cases hx : bkOf x with
  | none => exact hs
  | some b =>
    obtain ⟨hb, -⟩ := bkOf_some hx
    obtain ⟨k1, k2, k3, k4, k5, k6, k7, k8⟩ := hs.1 b hb
    simp only
    split
    · exact sk_B hs ⟨k1, k2, k3, k4, k5, lowN_sub k6, k7, k8⟩
    · exact hs
theorem sk_weight {σ : SG} {x s w : Int32} (hs : sgOK σ) : sgOK (oWeight σ x s w).2 := by
  unfold oWeight
  cases hx : bkOf x with
  | none => exact hs
  | some b =>
    obtain ⟨hb, -⟩ := bkOf_some hx
    obtain ⟨k1, k2, k3, k4, k5, k6, k7, k8⟩ := hs.1 b hb
    simp only
    split
    · split
      · rename_i hw
        obtain ⟨h1, h2⟩ := hw
        rw [fa_le] at h1 h2
        have e2 : (7 : Int32).toInt = 7 := by decide
        have e3 : w.toNatClampNeg = w.toInt.toNat := rfl
        refine sk_B hs ⟨k1, k2, k3, k4, k5, k6, fun p => ?_, k8⟩
        show up1 (σ.1 b).wt (plN s.toInt) w.toNatClampNeg p ≤ 7
        unfold up1
        split
        · omega
        · exact k7 p
      · exact hs
    · exact hs
theorem sk_tear {σ : SG} (hs : sgOK σ) : sgOK (oTear σ).2 := ⟨hs.1, fun r hr => by cases hr⟩
theorem sk_lay {σ : SG} {x c : Int32} (hs : sgOK σ) : sgOK (oLay σ x c).2 := by
  unfold oLay
  cases hx : bkOf x with
  | none => exact hs
  | some b =>
    obtain ⟨hb, -⟩ := bkOf_some hx
    obtain ⟨k1, k2, k3, k4, k5, k6, k7, k8⟩ := hs.1 b hb
    simp only
    split
    · rename_i h
      refine ⟨hs.1, fun r hr => ?_⟩
      cases hr
      obtain ⟨j, hj, rfl⟩ := ix_of (by omega) h
      rw [nI_clamp (by omega)]
      have hm := k4 _ (getD_mem (show j < (σ.1 b).cl.length by omega))
      exact ⟨lay_le hm.1 hm.2.2 (Nat.le_refl _), fun s hs2 => lay_mem (Nat.le_refl _) hs2⟩
    · exact hs
theorem sk_copy {σ : SG} {i j n : Int32} (hs : sgOK σ) : sgOK (oCopy σ i j n).2 := by
  unfold oCopy
  cases hr : σ.2.1 with
  | none => exact hs
  | some r =>
    simp only
    split
    · exact hs
    · rename_i hn
      split
      · exact hs
      · rename_i hc
        refine ⟨hs.1, fun r' hr' => ?_⟩
        cases hr'
        refine ⟨by rw [cpR_len]; exact (hs.2 r hr).1, fun s hs2 => ?_⟩
        unfold cpR at hs2
        obtain ⟨k, hk, e⟩ := List.mem_map.mp hs2
        have hk := List.mem_range.mp hk
        have z1 : ¬ i < 0 := fun q => hc (Or.inl q)
        have z2 : ¬ j < 0 := fun q => hc (Or.inr (Or.inl q))
        have z3 : ¬ (r.length : Int) < i.toInt + n.toInt := fun q => hc (Or.inr (Or.inr (Or.inl q)))
        rw [fa_lt] at z1 z2 hn
        have e0 : (0 : Int32).toInt = 0 := by decide
        have ei : i.toNatClampNeg = i.toInt.toNat := rfl
        have ej : j.toNatClampNeg = j.toInt.toNat := rfl
        have en : n.toNatClampNeg = n.toInt.toNat := rfl
        split at e
        · rename_i hjk
          rw [← e]
          exact row_mem hs hr (by omega)
        · rw [← e]
          exact row_mem hs hr hk
theorem sk_join {σ : SG} (hs : sgOK σ) : sgOK (oJoin σ).2 := by
  unfold oJoin
  obtain ⟨k1, k2, k3, k4, k5, k6, k7, k8⟩ := hs.1 0 (by decide)
  have h1 := hs.1 1 (by decide)
  split
  · rename_i hN
    split
    · exact hs
    · simp only
      split
      · exact hs
      · refine sk_B hs ⟨k1, k2, ?_, fun c hc => ?_, k5, k6, k7, fun g hg => by cases hg⟩
        · show ((σ.1 0).cl ++ (σ.1 1).cl).length ≤ 40
          rw [List.length_append]; omega
        · rcases List.mem_append.mp hc with q | q
          · exact k4 c q
          · show clOK (σ.1 0).N c
            rw [hN]
            exact h1.2.2.2.1 c q
  · exact hs
theorem sk_bend {σ : SG} {x k j o : Int32} (hs : sgOK σ) : sgOK (oBend σ x k j o).2 := by
  unfold oBend
  cases hx : bkOf x with
  | none => exact hs
  | some b =>
    obtain ⟨hb, -⟩ := bkOf_some hx
    obtain ⟨k1, k2, k3, k4, k5, k6, k7, k8⟩ := hs.1 b hb
    cases hg : (σ.1 b).g with
    | none => simp only [hg]; exact hs
    | some g =>
      simp only [hg]
      have hgo := k8 g hg
      have hl := hgo.2.1
      split
      · rename_i hk
        split
        · exact hs
        · split
          · rename_i hjo
            refine sk_B hs ⟨k1, k2, k3, k4, k5, k6, k7, fun g' hg' => ?_⟩
            cases hg'
            obtain ⟨h1, h2⟩ := hjo.2
            obtain ⟨i, hi, rfl⟩ := ix_of (by omega) hk
            rw [fa_le] at h1
            rw [fa_lt, nI_toInt (by omega)] at h2
            have e0 : (0 : Int32).toInt = 0 := by decide
            have eo : o.toNatClampNeg = o.toInt.toNat := rfl
            rw [nI_clamp (by omega)]
            exact set_ok hgo hi (by omega)
          · exact hs
      · exact hs
theorem sk_judge {σ : SG} {x : Int32} (hs : sgOK σ) : sgOK (oJudge σ x).2 := by
  unfold oJudge
  cases hx : bkOf x with
  | none => exact hs
  | some b =>
    cases hg : (σ.1 b).g with
    | none => simp only [hg]; exact hs
    | some g =>
      simp only [hg]
      split
      · split
        · split
          · exact hs
          · exact hs
        · exact hs
      · exact hs
theorem sk_compile {σ : SG} {x : Int32} (hs : sgOK σ) : sgOK (oCompile σ x).2 := by
  unfold oCompile
  cases hx : bkOf x with
  | none => exact hs
  | some b =>
    obtain ⟨hb, -⟩ := bkOf_some hx
    obtain ⟨k1, k2, k3, k4, k5, k6, k7, k8⟩ := hs.1 b hb
    simp only
    split
    · exact sk_B hs ⟨k1, k2, k3, k4, k5, k6, k7, fun g hg => by cases hg⟩
    · rename_i n S hm
      have h12 : lc (tkS 0 (σ.1 b).cl) ≤ 12 := lc_le
      obtain ⟨q, hn⟩ := mkL_ok k2 13 _ _ _ _ (clow_ls k3 k4) (by omega) (stC_0 _) hm
      have hr12 := room_le (lc (tkS 0 (σ.1 b).cl)) (by omega) 12 (by omega) (by omega)
      have h2 := q.2.2.2.2.2
      have h0 : ST0.2.1 = 0 := rfl
      refine sk_B hs ⟨k1, k2, k3, k4, k5, k6, k7, fun g hg => ?_⟩
      cases hg
      have hc := q.1.1
      refine ⟨hc.2.1, hc.1, hn, ?_, fun i y hy => hc.2.2.1 i y hy⟩
      show S.2.1 < 2 ^ 31
      have := room_12.1
      omega
