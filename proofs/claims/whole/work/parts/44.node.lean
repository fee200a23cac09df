/-! the graph's own calls -/
def oRoot (σ : SG) (x : Int32) : Value × SG := match bkOf x with
  | none => (.int (-3), refS σ 3)
  | some b => match (σ.1 b).g with
    | none => (.int (-2), refS σ 2)
    | some g => (.int (nI g.2.1), σ)
def ndV (g : GR) (i : Nat) : Nat → Int32
  | 0 => nI (nodeAt g i).1
  | 1 => iI (nodeAt g i).2.1
  | 2 => nI (nodeAt g i).2.2.length
  | _ => nI (lts g i)
def oNode (σ : SG) (x k w : Int32) : Value × SG := match bkOf x with
  | none => (.int (-3), refS σ 3)
  | some b => match (σ.1 b).g with
    | none => (.int (-2), refS σ 2)
    | some g => if 0 ≤ k ∧ k < nI g.1.length then (if 0 ≤ w ∧ w < 4 then (.int (ndV g k.toNatClampNeg w.toNatClampNeg), σ) else (.int (-7), refS σ 7)) else (.int (-3), refS σ 3)
def oPart (σ : SG) (x k j : Int32) : Value × SG := match bkOf x with
  | none => (.int (-3), refS σ 3)
  | some b => match (σ.1 b).g with
    | none => (.int (-2), refS σ 2)
    | some g => if 0 ≤ k ∧ k < nI g.1.length then (if (nodeAt g k.toNatClampNeg).2.2 = [] then (.int (-5), refS σ 5) else if 0 ≤ j ∧ j < nI (nodeAt g k.toNatClampNeg).2.2.length then (.int (nI ((nodeAt g k.toNatClampNeg).2.2.getD j.toNatClampNeg 0)), σ) else (.int (-3), refS σ 3)) else (.int (-3), refS σ 3)
theorem ltsTo_lt (g : GR) {i : Nat} : ∀ {n : Nat}, i < n → ltsTo g n i = lts g i
  | 0, h => absurd h (Nat.not_lt_zero _)
  | n + 1, h => by
    by_cases e : i = n
    · subst e; rfl
    · have : ltsTo g (n + 1) i = ltsTo g n i := by
        show (if i = n then _ else _) = _
        rw [if_neg e]
      rw [this]
      exact ltsTo_lt g (by omega)
def ownL (s : Int) : Nat := if s = 0 then 0 else ltN (2 ^ plN s)
theorem foldl_cong {α β : Type} {f g : α → β → α} : ∀ {l : List β} {a : α}, (∀ a, ∀ p ∈ l, f a p = g a p) → l.foldl f a = l.foldl g a
  | [], _, _ => rfl
  | p :: l, a, h => by
    rw [List.foldl_cons, List.foldl_cons, h a p (List.mem_cons_self ..)]
    exact foldl_cong (fun a q hq => h a q (List.mem_cons_of_mem _ hq))
theorem lts_step {g : GR} {i : Nat} (h : ∀ p ∈ (nodeAt g i).2.2, p < i) : lts g i = (nodeAt g i).2.2.foldl (fun a p => a ||| lts g p) (ownL (nodeAt g i).2.1) := by
  have e : lts g i = (nodeAt g i).2.2.foldl (fun a p => a ||| ltsTo g i p) (ownL (nodeAt g i).2.1) := by
    show (if i = i then _ else _) = _
    rw [if_pos rfl]
    rfl
  rw [e]
  exact foldl_cong (fun a p hp => by rw [ltsTo_lt g (h p hp)])
/-- letters of the first parts of a node -/
def ltP (L : Nat → Nat) (ps : List Nat) (a : Nat) : Nat → Nat
  | 0 => a
  | j + 1 => ltP L ps a j ||| L (ps.getD j 0)
theorem ltP_fold (L : Nat → Nat) (ps : List Nat) : ∀ a, ltP L ps a ps.length = ps.foldl (fun a p => a ||| L p) a := by
  have key : ∀ (n : Nat) (a : Nat), n ≤ ps.length → ltP L ps a n = (ps.take n).foldl (fun a p => a ||| L p) a := by
    intro n
    induction n with
    | zero => intro a _; rw [List.take_zero]; rfl
    | succ n ih =>
      intro a hn
      rw [ltP, ih a (by omega), List.take_succ, List.foldl_append, List.getElem?_eq_getElem (show n < ps.length by omega), List.getD_eq_getElem?_getD, List.getElem?_eq_getElem (show n < ps.length by omega)]
      rfl
  intro a
  rw [key _ a (Nat.le_refl _), List.take_length]
theorem sgn_own : ∀ n : Nat, n < 25 → letC (bitC (iI ((n : Int) - 12))) = nI (ownL ((n : Int) - 12)) ∧ (iI ((n : Int) - 12) = 0 ↔ ((n : Int) - 12) = 0) ∧ (n ≠ 12 → letC (bitM (iI ((n : Int) - 12))) = nI (ownL ((n : Int) - 12))) ∧ ownL ((n : Int) - 12) < 4096 := by decide
theorem own_ok {s : Int} (h1 : -12 ≤ s) (h2 : s ≤ 12) : letC (bitC (iI s)) = nI (ownL s) ∧ (iI s = 0 ↔ s = 0) ∧ (s ≠ 0 → letC (bitM (iI s)) = nI (ownL s)) ∧ ownL s < 4096 := by
  have h := sgn_own (s + 12).toNat (by omega)
  have e : (((s + 12).toNat : Nat) : Int) - 12 = s := by omega
  rw [e] at h
  exact ⟨h.1, h.2.1, fun q => h.2.2.1 (by omega), h.2.2.2⟩
theorem nd_name {N i : Nat} {x : Nat × Int × List Nat} (h : ndOK N i x) (hN : N ≤ 12) : -12 ≤ x.2.1 ∧ x.2.1 ≤ 12 := by
  rcases h.2 with h | h | h | h
  · omega
  · omega
  · omega
  · omega
theorem nd_part {N i : Nat} {x : Nat × Int × List Nat} (h : ndOK N i x) {j : Nat} (hj : j < x.2.2.length) : x.2.2.getD j 0 < i := by
  refine h.1 _ ?_
  rw [List.getD_eq_getElem?_getD, List.getElem?_eq_getElem hj]
  exact List.getElem_mem _
theorem nd_kind {N i : Nat} {x : Nat × Int × List Nat} (h : ndOK N i x) : (x.1 < 3 ↔ x.2.2 = []) ∧ x.1 ≤ 4 := by
  rcases h.2 with h | h | h | h
  · exact ⟨⟨fun _ => h.2.2, fun _ => by omega⟩, by omega⟩
  · exact ⟨⟨fun _ => h.2.2.2.2, fun _ => by omega⟩, by omega⟩
  · exact ⟨⟨fun _ => by omega, fun q => by have := h.2.2.1; rw [q] at this; simp at this⟩, by omega⟩
  · exact ⟨⟨fun _ => by omega, fun q => by have := h.2.2.2; rw [q] at this; simp at this⟩, by omega⟩
theorem gr_get {σ : SG} {b : Nat} {g : GR} (hs : sgOK σ) (hb : b < 2) (hg : (σ.1 b).g = some g) : grOK (σ.1 b).N g := (hs.1 b hb).2.2.2.2.2.2.2 g hg
theorem ix_of {c : Int32} {n : Nat} (hn : n < 2 ^ 31) (hc : 0 ≤ c ∧ c < nI n) : ∃ j, j < n ∧ c = nI j := by
  rcases pk_ix c (n := n) hn with z | z | z
  · have := hc.1; rw [fa_lt] at z; rw [fa_le] at this; omega
  · have := hc.2; rw [fa_le] at z; rw [fa_lt] at this; omega
  · exact z
theorem ix4 {w : Int32} : (∃ j, j < 4 ∧ w = nI j) ∨ (¬ (0 ≤ w ∧ w < 4) ∧ (w.toInt < 0 ∨ 3 < w.toInt)) := by
  have e0 : (0 : Int32).toInt = 0 := by decide
  have e6 : (4 : Int32).toInt = 4 := by decide
  rcases pk_ix w (n := 4) (by decide) with h | h | h
  · rw [fa_lt, e0] at h
    exact Or.inr ⟨fun q => by have := q.1; rw [fa_le, e0] at this; omega, Or.inl h⟩
  · rw [fa_le, nI_toInt (by decide)] at h
    exact Or.inr ⟨fun q => by have := q.2; rw [fa_lt, e6] at this; omega, Or.inr (by omega)⟩
  · exact Or.inl h
section Node
variable {d Ln B : Nat} {I : IT} {J : JT} {K : KT} {σ : SG}
theorem C_hasNode {k : Int32} {n : Nat} (hB : BF Ln B) (hn : I (B + 3) 8 = nI n) (h15 : n ≤ 1500) : ACall (d + 1) 21 [.ref (B + 3), .int k] (G0 Ln) I J K ↔ K (some (.int (if 0 ≤ k ∧ k < nI n then 1 else 0))) (G0 Ln) I J := by
  rw [ACall_0 (L0 := [.ref (B + 3), .int k]) (show mcs 21 = (0, 0) from rfl) (show entL 21 [.ref (B + 3), .int k] = _ from rfl) rfl (Nat.le_of_ble_eq_true rfl)]
  rcases pk_ix k (n := n) (by omega) with z | z | ⟨j, hj, rfl⟩
  · rw [if_neg (fun q => by have := q.1; rw [fa_lt] at z; rw [fa_le] at this; omega)]
    simp only [aw_iload_1 (pc2 := 1) D21_0 rfl, aw_if_lt (pc2 := 4) (t := 23) D21_1 (by decide) rfl, aw_iload_1 (pc2 := 5) D21_4 rfl, aw_aload_0 (pc2 := 6) D21_5 rfl, aw_getI (pc2 := 9) (ci := 1) (fk := 8) D21_6 rfl fT_1_42 rfl, aw_icmp_ge (pc2 := 12) (t := 23) D21_9 (by decide) rfl, aw_iload_1 (pc2 := 13) D21_12 rfl, aw_sipush (pc2 := 16) (y := 1500) D21_13 rfl (by decide), aw_icmp_ge (pc2 := 19) (t := 23) D21_16 (by decide) rfl, aw_iconst (pc2 := 20) (y := 1) D21_19 rfl (by decide), aw_goto (t := 24) D21_20 (by decide), aw_iconst (pc2 := 24) (y := 0) D21_23 rfl (by decide), aw_zret D21_24 rfl, lit_1500, refV_s, refV_n, psh_s, psh_n, kil_i, kil_r, kil_n, kil_l, cat_i, cat_r, iOK_1, iOK_5, jOK_2, jOK_6, wOK_e, lOK_1, lOK_2, lOK_3, lOK_4, catS_0, catS_1, catS_2, catS_3, catS_4, and_self, true_and, and_true, true_or, or_true, false_or, or_false, not_true_eq_false, not_false_eq_true, if_true, if_false, ite_int, ite_int0, au_10, eq_self, if_pos z]
  · have z2 : ¬ k < nI n := by rw [fa_le] at z; rw [fa_lt]; omega
    rw [if_neg (fun q => z2 q.2)]
    simp only [aw_iload_1 (pc2 := 1) D21_0 rfl, aw_if_lt (pc2 := 4) (t := 23) D21_1 (by decide) rfl, aw_iload_1 (pc2 := 5) D21_4 rfl, aw_aload_0 (pc2 := 6) D21_5 rfl, aw_getI (pc2 := 9) (ci := 1) (fk := 8) D21_6 rfl fT_1_42 rfl, aw_icmp_ge (pc2 := 12) (t := 23) D21_9 (by decide) rfl, aw_iload_1 (pc2 := 13) D21_12 rfl, aw_sipush (pc2 := 16) (y := 1500) D21_13 rfl (by decide), aw_icmp_ge (pc2 := 19) (t := 23) D21_16 (by decide) rfl, aw_iconst (pc2 := 20) (y := 1) D21_19 rfl (by decide), aw_goto (t := 24) D21_20 (by decide), aw_iconst (pc2 := 24) (y := 0) D21_23 rfl (by decide), aw_zret D21_24 rfl, lit_1500, refV_s, refV_n, psh_s, psh_n, kil_i, kil_r, kil_n, kil_l, cat_i, cat_r, iOK_1, iOK_5, jOK_2, jOK_6, wOK_e, lOK_1, lOK_2, lOK_3, lOK_4, catS_0, catS_1, catS_2, catS_3, catS_4, and_self, true_and, and_true, true_or, or_true, false_or, or_false, not_true_eq_false, not_false_eq_true, if_true, if_false, ite_int, ite_int0, au_10, eq_self, hB.1.2.2.2.1, hn, if_pos z, ite_self]
  · rw [if_pos ⟨nI_pos' (by omega), nI_lt hj (by omega)⟩]
    simp (disch := omega) only [aw_iload_1 (pc2 := 1) D21_0 rfl, aw_if_lt (pc2 := 4) (t := 23) D21_1 (by decide) rfl, aw_iload_1 (pc2 := 5) D21_4 rfl, aw_aload_0 (pc2 := 6) D21_5 rfl, aw_getI (pc2 := 9) (ci := 1) (fk := 8) D21_6 rfl fT_1_42 rfl, aw_icmp_ge (pc2 := 12) (t := 23) D21_9 (by decide) rfl, aw_iload_1 (pc2 := 13) D21_12 rfl, aw_sipush (pc2 := 16) (y := 1500) D21_13 rfl (by decide), aw_icmp_ge (pc2 := 19) (t := 23) D21_16 (by decide) rfl, aw_iconst (pc2 := 20) (y := 1) D21_19 rfl (by decide), aw_goto (t := 24) D21_20 (by decide), aw_iconst (pc2 := 24) (y := 0) D21_23 rfl (by decide), aw_zret D21_24 rfl, lit_1500, refV_s, refV_n, psh_s, psh_n, kil_i, kil_r, kil_n, kil_l, cat_i, cat_r, iOK_1, iOK_5, jOK_2, jOK_6, wOK_e, lOK_1, lOK_2, lOK_3, lOK_4, catS_0, catS_1, catS_2, catS_3, catS_4, and_self, true_and, and_true, true_or, or_true, false_or, or_false, not_true_eq_false, not_false_eq_true, if_true, if_false, ite_int, ite_int0, au_10, eq_self, au_in, au_le, au_lt, au_eq, au_lt0, au_ge0, au_le0, au_gt0, au_eq0, au_leT, au_leF, au_ltT, au_ltF, au_eqT, au_eqF, nI_clamp, nI_1, nI_add, pk_mul, au_sub1, au_subc, au_up2e, au_up2n, lit_of, hB.1.2.2.2.1, hn]
theorem C_partAt {i j n m : Nat} (hB : BF Ln B) (hn : I (B + 3) 8 = nI n) (h15 : n ≤ 1500) (hi : i < n) (hm : I (B + 6) i = nI m) (hj : j < m) (hm12 : m ≤ 12) : ACall (d + 2) 24 [.ref (B + 3), .int (nI i), .int (nI j)] (G0 Ln) I J K ↔ K (some (.int (I (B + 8) (12 * i + j)))) (G0 Ln) I J := by
  rw [ACall_0 (L0 := [.ref (B + 3), .int (nI i), .int (nI j)]) (show mcs 24 = (0, 0) from rfl) (show entL 24 [.ref (B + 3), .int (nI i), .int (nI j)] = _ from rfl) rfl (Nat.le_of_ble_eq_true rfl)]
  simp (disch := omega) only [aw_aload_0 (pc2 := 1) D24_0 rfl, aw_iload_1 (pc2 := 2) D24_1 rfl, aw_iv1_0 (pc2 := 5) (o := 1) D24_2 rfl cT_1_59 rfl rfl, aw_if_eq (pc2 := 8) (t := 22) D24_5 (by decide) rfl, aw_iload_2 (pc2 := 9) D24_8 rfl, aw_if_lt (pc2 := 12) (t := 22) D24_9 (by decide) rfl, aw_iload_2 (pc2 := 13) D24_12 rfl, aw_aload_0 (pc2 := 14) D24_13 rfl, aw_getR (pc2 := 17) (ci := 1) (fk := 2) D24_14 rfl fT_1_18 rfl, aw_iload_1 (pc2 := 18) D24_17 rfl, aw_iaload (pc2 := 19) D24_18 rfl, aw_icmp_lt (pc2 := 22) (t := 24) D24_19 (by decide) rfl, aw_iconst (pc2 := 23) (y := -1) D24_22 rfl (by decide), aw_iret D24_23 rfl, aw_aload_0 (pc2 := 25) D24_24 rfl, aw_getR (pc2 := 28) (ci := 1) (fk := 4) D24_25 rfl fT_1_24 rfl, aw_iload_1 (pc2 := 29) D24_28 rfl, aw_bipush (pc2 := 31) (y := 12) D24_29 rfl (by decide), aw_imul (pc2 := 32) D24_31 rfl, aw_iload_2 (pc2 := 33) D24_32 rfl, aw_iadd (pc2 := 34) D24_33 rfl, aw_iaload (pc2 := 35) D24_34 rfl, aw_iret D24_35 rfl, lit_12, refV_s, refV_n, psh_s, psh_n, kil_i, kil_r, kil_n, kil_l, cat_i, cat_r, iOK_1, iOK_5, jOK_2, jOK_6, wOK_e, lOK_1, lOK_2, lOK_3, lOK_4, catS_0, catS_1, catS_2, catS_3, catS_4, and_self, true_and, and_true, true_or, or_true, false_or, or_false, not_true_eq_false, not_false_eq_true, if_true, if_false, ite_int, ite_int0, au_10, eq_self, au_in, au_le, au_lt, au_eq, au_lt0, au_ge0, au_le0, au_gt0, au_eq0, au_leT, au_leF, au_ltT, au_ltF, au_eqT, au_eqF, nI_clamp, nI_1, nI_add, pk_mul, au_sub1, au_subc, au_up2e, au_up2n, lit_of, C_hasNode hB hn h15, hB.1.1, hB.1.2.1, hB.1.2.2.1, hB.1.2.2.2.1, hB.1.2.2.2.2.1, hB.1.2.2.2.2.2.1, hB.1.2.2.2.2.2.2.1, hB.1.2.2.2.2.2.2.2.1, hB.1.2.2.2.2.2.2.2.2.1, hB.1.2.2.2.2.2.2.2.2.2.1, hB.1.2.2.2.2.2.2.2.2.2.2.1, hB.1.2.2.2.2.2.2.2.2.2.2.2.1, hB.1.2.2.2.2.2.2.2.2.2.2.2.2.1, hB.1.2.2.2.2.2.2.2.2.2.2.2.2.2, hB.2.1, hB.2.2.1, hB.2.2.2.1, hB.2.2.2.2.1, hB.2.2.2.2.2.1, hB.2.2.2.2.2.2.1, hB.2.2.2.2.2.2.2.1, hB.2.2.2.2.2.2.2.2.1, hB.2.2.2.2.2.2.2.2.2.1, hB.2.2.2.2.2.2.2.2.2.2.1, hB.2.2.2.2.2.2.2.2.2.2.2.1, hB.2.2.2.2.2.2.2.2.2.2.2.2.1, hB.2.2.2.2.2.2.2.2.2.2.2.2.2, hm, show i * 12 + j = 12 * i + j by omega]
theorem CO_root {x : Int32} (h : CInv σ I J) (hk : CPost Ln I J K (oRoot σ x)) : ACall (d + 2) 85 [.ref 0, .int x] (G0 Ln) I J K := by
  rw [ACall_0 (L0 := [.ref 0, .int x, nv]) (show mcs 85 = (0, 0) from rfl) (show entL 85 [.ref 0, .int x] = _ from rfl) rfl (Nat.le_of_ble_eq_true rfl)]
  unfold oRoot at hk
  cases hx : bkOf x with
  | none =>
    simp only [hx] at hk
    obtain ⟨x0, x1⟩ := bkOf_none hx
    simp only [aw_aload_0 (pc2 := 1) D85_0 rfl, aw_aloadN_0 (pc2 := 1) D85_0 rfl, aw_iload_1 (pc2 := 2) D85_1 rfl, aw_iv1_0 (pc2 := 5) (o := 6) D85_2 rfl cT_6_55 rfl rfl, aw_astore_2 (pc2 := 6) D85_5 rfl, aw_astoreN_2 (pc2 := 6) D85_5 rfl, aw_aload_2 (pc2 := 7) D85_6 rfl, aw_aloadN_2 (pc2 := 7) D85_6 rfl, aw_ifnonnull (t := 17) D85_7 (by decide), aw_ifnonnullN (pc2 := 10) D85_7 rfl, aw_aload_0 (pc2 := 11) D85_10 rfl, aw_aloadN_0 (pc2 := 11) D85_10 rfl, aw_bipush (pc2 := 13) (y := -3) D85_11 rfl (by decide), aw_iv1_0 (pc2 := 16) (o := 6) D85_13 rfl cT_6_59 rfl rfl, aw_iret D85_16 rfl, aw_aload_2 (pc2 := 18) D85_17 rfl, aw_aloadN_2 (pc2 := 18) D85_17 rfl, aw_getI (pc2 := 21) (ci := 0) (fk := 8) D85_18 rfl fT_6_107 rfl, aw_if_ne (pc2 := 24) (t := 31) D85_21 (by decide) rfl, aw_aload_0 (pc2 := 25) D85_24 rfl, aw_aloadN_0 (pc2 := 25) D85_24 rfl, aw_bipush (pc2 := 27) (y := -2) D85_25 rfl (by decide), aw_iv1_0 (pc2 := 30) (o := 6) D85_27 rfl cT_6_59 rfl rfl, aw_iret D85_30 rfl, aw_aload_2 (pc2 := 32) D85_31 rfl, aw_aloadN_2 (pc2 := 32) D85_31 rfl, aw_getR (pc2 := 35) (ci := 0) (fk := 2) D85_32 rfl fT_6_120 rfl, aw_getI (pc2 := 38) (ci := 1) (fk := 9) D85_35 rfl fT_6_136 rfl, aw_iret D85_38 rfl, sh_0, refV_s, refV_n, psh_s, psh_n, kil_i, kil_r, kil_n, kil_l, cat_i, cat_r, iOK_1, iOK_5, jOK_2, jOK_6, wOK_e, lOK_1, lOK_2, lOK_3, lOK_4, catS_0, catS_1, catS_2, catS_3, catS_4, and_self, true_and, and_true, true_or, or_true, false_or, or_false, not_true_eq_false, not_false_eq_true, if_true, if_false, ite_int, ite_int0, au_10, eq_self, C_bookAtN x0 x1, C_ref3]
    exact hk.ref h (by omega) (by omega)
  | some b =>
    simp only [hx] at hk
    obtain ⟨hb, rfl⟩ := bkOf_some hx
    have hB := bf (Ln := Ln) hb
    have hg := (h.1 b hb).2.2.2.2.2.2
    unfold CGo at hg
    cases e : (σ.1 b).g with
    | none =>
      rw [e] at hg
      simp only [e] at hk
      simp only [aw_aload_0 (pc2 := 1) D85_0 rfl, aw_aloadN_0 (pc2 := 1) D85_0 rfl, aw_iload_1 (pc2 := 2) D85_1 rfl, aw_iv1_0 (pc2 := 5) (o := 6) D85_2 rfl cT_6_55 rfl rfl, aw_astore_2 (pc2 := 6) D85_5 rfl, aw_astoreN_2 (pc2 := 6) D85_5 rfl, aw_aload_2 (pc2 := 7) D85_6 rfl, aw_aloadN_2 (pc2 := 7) D85_6 rfl, aw_ifnonnull (t := 17) D85_7 (by decide), aw_ifnonnullN (pc2 := 10) D85_7 rfl, aw_aload_0 (pc2 := 11) D85_10 rfl, aw_aloadN_0 (pc2 := 11) D85_10 rfl, aw_bipush (pc2 := 13) (y := -3) D85_11 rfl (by decide), aw_iv1_0 (pc2 := 16) (o := 6) D85_13 rfl cT_6_59 rfl rfl, aw_iret D85_16 rfl, aw_aload_2 (pc2 := 18) D85_17 rfl, aw_aloadN_2 (pc2 := 18) D85_17 rfl, aw_getI (pc2 := 21) (ci := 0) (fk := 8) D85_18 rfl fT_6_107 rfl, aw_if_ne (pc2 := 24) (t := 31) D85_21 (by decide) rfl, aw_aload_0 (pc2 := 25) D85_24 rfl, aw_aloadN_0 (pc2 := 25) D85_24 rfl, aw_bipush (pc2 := 27) (y := -2) D85_25 rfl (by decide), aw_iv1_0 (pc2 := 30) (o := 6) D85_27 rfl cT_6_59 rfl rfl, aw_iret D85_30 rfl, aw_aload_2 (pc2 := 32) D85_31 rfl, aw_aloadN_2 (pc2 := 32) D85_31 rfl, aw_getR (pc2 := 35) (ci := 0) (fk := 2) D85_32 rfl fT_6_120 rfl, aw_getI (pc2 := 38) (ci := 1) (fk := 9) D85_35 rfl fT_6_136 rfl, aw_iret D85_38 rfl, sh_0, refV_s, refV_n, psh_s, psh_n, kil_i, kil_r, kil_n, kil_l, cat_i, cat_r, iOK_1, iOK_5, jOK_2, jOK_6, wOK_e, lOK_1, lOK_2, lOK_3, lOK_4, catS_0, catS_1, catS_2, catS_3, catS_4, and_self, true_and, and_true, true_or, or_true, false_or, or_false, not_true_eq_false, not_false_eq_true, if_true, if_false, ite_int, ite_int0, au_10, eq_self, C_bookAt hb, C_ref2, hB.1.1, hg]
      exact hk.ref h (by omega) (by omega)
    | some g =>
      rw [e] at hg
      simp only [e] at hk
      simp only [aw_aload_0 (pc2 := 1) D85_0 rfl, aw_aloadN_0 (pc2 := 1) D85_0 rfl, aw_iload_1 (pc2 := 2) D85_1 rfl, aw_iv1_0 (pc2 := 5) (o := 6) D85_2 rfl cT_6_55 rfl rfl, aw_astore_2 (pc2 := 6) D85_5 rfl, aw_astoreN_2 (pc2 := 6) D85_5 rfl, aw_aload_2 (pc2 := 7) D85_6 rfl, aw_aloadN_2 (pc2 := 7) D85_6 rfl, aw_ifnonnull (t := 17) D85_7 (by decide), aw_ifnonnullN (pc2 := 10) D85_7 rfl, aw_aload_0 (pc2 := 11) D85_10 rfl, aw_aloadN_0 (pc2 := 11) D85_10 rfl, aw_bipush (pc2 := 13) (y := -3) D85_11 rfl (by decide), aw_iv1_0 (pc2 := 16) (o := 6) D85_13 rfl cT_6_59 rfl rfl, aw_iret D85_16 rfl, aw_aload_2 (pc2 := 18) D85_17 rfl, aw_aloadN_2 (pc2 := 18) D85_17 rfl, aw_getI (pc2 := 21) (ci := 0) (fk := 8) D85_18 rfl fT_6_107 rfl, aw_if_ne (pc2 := 24) (t := 31) D85_21 (by decide) rfl, aw_aload_0 (pc2 := 25) D85_24 rfl, aw_aloadN_0 (pc2 := 25) D85_24 rfl, aw_bipush (pc2 := 27) (y := -2) D85_25 rfl (by decide), aw_iv1_0 (pc2 := 30) (o := 6) D85_27 rfl cT_6_59 rfl rfl, aw_iret D85_30 rfl, aw_aload_2 (pc2 := 32) D85_31 rfl, aw_aloadN_2 (pc2 := 32) D85_31 rfl, aw_getR (pc2 := 35) (ci := 0) (fk := 2) D85_32 rfl fT_6_120 rfl, aw_getI (pc2 := 38) (ci := 1) (fk := 9) D85_35 rfl fT_6_136 rfl, aw_iret D85_38 rfl, sh_0, refV_s, refV_n, psh_s, psh_n, kil_i, kil_r, kil_n, kil_l, cat_i, cat_r, iOK_1, iOK_5, jOK_2, jOK_6, wOK_e, lOK_1, lOK_2, lOK_3, lOK_4, catS_0, catS_1, catS_2, catS_3, catS_4, and_self, true_and, and_true, true_or, or_true, false_or, or_false, not_true_eq_false, not_false_eq_true, if_true, if_false, ite_int, ite_int0, au_10, eq_self, C_bookAt hb, C_ref2, hB.1.1, hB.1.2.1, hB.1.2.2.1, hB.1.2.2.2.1, hB.1.2.2.2.2.1, hB.1.2.2.2.2.2.1, hB.1.2.2.2.2.2.2.1, hB.1.2.2.2.2.2.2.2.1, hB.1.2.2.2.2.2.2.2.2.1, hB.1.2.2.2.2.2.2.2.2.2.1, hB.1.2.2.2.2.2.2.2.2.2.2.1, hB.1.2.2.2.2.2.2.2.2.2.2.2.1, hB.1.2.2.2.2.2.2.2.2.2.2.2.2.1, hB.1.2.2.2.2.2.2.2.2.2.2.2.2.2, hB.2.1, hB.2.2.1, hB.2.2.2.1, hB.2.2.2.2.1, hB.2.2.2.2.2.1, hB.2.2.2.2.2.2.1, hB.2.2.2.2.2.2.2.1, hB.2.2.2.2.2.2.2.2.1, hB.2.2.2.2.2.2.2.2.2.1, hB.2.2.2.2.2.2.2.2.2.2.1, hB.2.2.2.2.2.2.2.2.2.2.2.1, hB.2.2.2.2.2.2.2.2.2.2.2.2.1, hB.2.2.2.2.2.2.2.2.2.2.2.2.2, hg.1, hg.2.2.1]
      exact hk.same h
theorem CO_node {x k w : Int32} (hs : sgOK σ) (h : CInv σ I J) (hk : CPost Ln I J K (oNode σ x k w)) : ACall (d + 3) 86 [.ref 0, .int x, .int k, .int w] (G0 Ln) I J K := by
  rw [ACall_0 (L0 := [.ref 0, .int x, .int k, .int w, nv]) (show mcs 86 = (0, 0) from rfl) (show entL 86 [.ref 0, .int x, .int k, .int w] = _ from rfl) rfl (Nat.le_of_ble_eq_true rfl)]
  unfold oNode at hk
  cases hx : bkOf x with
  | none =>
    simp only [hx] at hk
    obtain ⟨x0, x1⟩ := bkOf_none hx
    simp only [aw_aload_0 (pc2 := 1) D86_0 rfl, aw_aloadN_0 (pc2 := 1) D86_0 rfl, aw_iload_1 (pc2 := 2) D86_1 rfl, aw_iv1_0 (pc2 := 5) (o := 6) D86_2 rfl cT_6_55 rfl rfl, aw_astore_4 (pc2 := 7) D86_5 rfl, aw_astoreN_4 (pc2 := 7) D86_5 rfl, aw_aload_4 (pc2 := 9) D86_7 rfl, aw_aloadN_4 (pc2 := 9) D86_7 rfl, aw_ifnonnull (t := 19) D86_9 (by decide), aw_ifnonnullN (pc2 := 12) D86_9 rfl, aw_aload_0 (pc2 := 13) D86_12 rfl, aw_aloadN_0 (pc2 := 13) D86_12 rfl, aw_bipush (pc2 := 15) (y := -3) D86_13 rfl (by decide), aw_iv1_0 (pc2 := 18) (o := 6) D86_15 rfl cT_6_59 rfl rfl, aw_iret D86_18 rfl, sh_0, refV_s, refV_n, psh_s, psh_n, kil_i, kil_r, kil_n, kil_l, cat_i, cat_r, iOK_1, iOK_5, jOK_2, jOK_6, wOK_e, lOK_1, lOK_2, lOK_3, lOK_4, catS_0, catS_1, catS_2, catS_3, catS_4, and_self, true_and, and_true, true_or, or_true, false_or, or_false, not_true_eq_false, not_false_eq_true, if_true, if_false, ite_int, ite_int0, au_10, eq_self, C_bookAtN x0 x1, C_ref3]
    exact hk.ref h (by omega) (by omega)
  | some b =>
    simp only [hx] at hk
    obtain ⟨hb, rfl⟩ := bkOf_some hx
    have hB := bf (Ln := Ln) hb
    have hg := (h.1 b hb).2.2.2.2.2.2
    unfold CGo at hg
    cases e : (σ.1 b).g with
    | none =>
      rw [e] at hg
      simp only [e] at hk
      simp only [aw_aload_0 (pc2 := 1) D86_0 rfl, aw_aloadN_0 (pc2 := 1) D86_0 rfl, aw_iload_1 (pc2 := 2) D86_1 rfl, aw_iv1_0 (pc2 := 5) (o := 6) D86_2 rfl cT_6_55 rfl rfl, aw_astore_4 (pc2 := 7) D86_5 rfl, aw_astoreN_4 (pc2 := 7) D86_5 rfl, aw_aload_4 (pc2 := 9) D86_7 rfl, aw_aloadN_4 (pc2 := 9) D86_7 rfl, aw_ifnonnull (t := 19) D86_9 (by decide), aw_ifnonnullN (pc2 := 12) D86_9 rfl, aw_aload_0 (pc2 := 13) D86_12 rfl, aw_aloadN_0 (pc2 := 13) D86_12 rfl, aw_bipush (pc2 := 15) (y := -3) D86_13 rfl (by decide), aw_iv1_0 (pc2 := 18) (o := 6) D86_15 rfl cT_6_59 rfl rfl, aw_iret D86_18 rfl, aw_aload_4 (pc2 := 21) D86_19 rfl, aw_aloadN_4 (pc2 := 21) D86_19 rfl, aw_getI (pc2 := 24) (ci := 0) (fk := 8) D86_21 rfl fT_6_107 rfl, aw_if_ne (pc2 := 27) (t := 34) D86_24 (by decide) rfl, aw_aload_0 (pc2 := 28) D86_27 rfl, aw_aloadN_0 (pc2 := 28) D86_27 rfl, aw_bipush (pc2 := 30) (y := -2) D86_28 rfl (by decide), aw_iv1_0 (pc2 := 33) (o := 6) D86_30 rfl cT_6_59 rfl rfl, aw_iret D86_33 rfl, sh_0, refV_s, refV_n, psh_s, psh_n, kil_i, kil_r, kil_n, kil_l, cat_i, cat_r, iOK_1, iOK_5, jOK_2, jOK_6, wOK_e, lOK_1, lOK_2, lOK_3, lOK_4, catS_0, catS_1, catS_2, catS_3, catS_4, and_self, true_and, and_true, true_or, or_true, false_or, or_false, not_true_eq_false, not_false_eq_true, if_true, if_false, ite_int, ite_int0, au_10, eq_self, C_bookAt hb, C_ref2, hB.1.1, hg]
      exact hk.ref h (by omega) (by omega)
    | some g =>
      rw [e] at hg
      simp only [e] at hk
      have hgo := gr_get hs hb e
      have h15 := hgo.2.1
      by_cases hc : 0 ≤ k ∧ k < nI g.1.length
      · rw [if_pos hc] at hk
        obtain ⟨i, hi, rfl⟩ := ix_of (by omega) hc
        obtain ⟨n1, n2, n3, n4, -⟩ := hg.2.2.2.2.1 i hi
        rw [nI_clamp (by omega)] at hk
        simp only [aw_aload_0 (pc2 := 1) D86_0 rfl, aw_aloadN_0 (pc2 := 1) D86_0 rfl, aw_iload_1 (pc2 := 2) D86_1 rfl, aw_iv1_0 (pc2 := 5) (o := 6) D86_2 rfl cT_6_55 rfl rfl, aw_astore_4 (pc2 := 7) D86_5 rfl, aw_astoreN_4 (pc2 := 7) D86_5 rfl, aw_aload_4 (pc2 := 9) D86_7 rfl, aw_aloadN_4 (pc2 := 9) D86_7 rfl, aw_ifnonnull (t := 19) D86_9 (by decide), aw_ifnonnullN (pc2 := 12) D86_9 rfl, aw_aload_0 (pc2 := 13) D86_12 rfl, aw_aloadN_0 (pc2 := 13) D86_12 rfl, aw_bipush (pc2 := 15) (y := -3) D86_13 rfl (by decide), aw_iv1_0 (pc2 := 18) (o := 6) D86_15 rfl cT_6_59 rfl rfl, aw_iret D86_18 rfl, aw_aload_4 (pc2 := 21) D86_19 rfl, aw_aloadN_4 (pc2 := 21) D86_19 rfl, aw_getI (pc2 := 24) (ci := 0) (fk := 8) D86_21 rfl fT_6_107 rfl, aw_if_ne (pc2 := 27) (t := 34) D86_24 (by decide) rfl, aw_aload_0 (pc2 := 28) D86_27 rfl, aw_aloadN_0 (pc2 := 28) D86_27 rfl, aw_bipush (pc2 := 30) (y := -2) D86_28 rfl (by decide), aw_iv1_0 (pc2 := 33) (o := 6) D86_30 rfl cT_6_59 rfl rfl, aw_iret D86_33 rfl, aw_aload_4 (pc2 := 36) D86_34 rfl, aw_aloadN_4 (pc2 := 36) D86_34 rfl, aw_getR (pc2 := 39) (ci := 0) (fk := 2) D86_36 rfl fT_6_120 rfl, aw_iload_2 (pc2 := 40) D86_39 rfl, aw_iv1_0 (pc2 := 43) (o := 1) D86_40 rfl cT_6_139 rfl rfl, aw_if_ne (pc2 := 46) (t := 53) D86_43 (by decide) rfl, aw_aload_0 (pc2 := 47) D86_46 rfl, aw_aloadN_0 (pc2 := 47) D86_46 rfl, aw_bipush (pc2 := 49) (y := -3) D86_47 rfl (by decide), aw_iv1_0 (pc2 := 52) (o := 6) D86_49 rfl cT_6_59 rfl rfl, aw_iret D86_52 rfl, aw_iload_3 (pc2 := 54) D86_53 rfl, sh_0, refV_s, refV_n, psh_s, psh_n, kil_i, kil_r, kil_n, kil_l, cat_i, cat_r, iOK_1, iOK_5, jOK_2, jOK_6, wOK_e, lOK_1, lOK_2, lOK_3, lOK_4, catS_0, catS_1, catS_2, catS_3, catS_4, and_self, true_and, and_true, true_or, or_true, false_or, or_false, not_true_eq_false, not_false_eq_true, if_true, if_false, ite_int, ite_int0, au_10, eq_self, C_bookAt hb, C_ref2, C_ref3, hB.1.1, hB.1.2.1, hB.1.2.2.1, hB.1.2.2.2.1, hB.1.2.2.2.2.1, hB.1.2.2.2.2.2.1, hB.1.2.2.2.2.2.2.1, hB.1.2.2.2.2.2.2.2.1, hB.1.2.2.2.2.2.2.2.2.1, hB.1.2.2.2.2.2.2.2.2.2.1, hB.1.2.2.2.2.2.2.2.2.2.2.1, hB.1.2.2.2.2.2.2.2.2.2.2.2.1, hB.1.2.2.2.2.2.2.2.2.2.2.2.2.1, hB.1.2.2.2.2.2.2.2.2.2.2.2.2.2, hB.2.1, hB.2.2.1, hB.2.2.2.1, hB.2.2.2.2.1, hB.2.2.2.2.2.1, hB.2.2.2.2.2.2.1, hB.2.2.2.2.2.2.2.1, hB.2.2.2.2.2.2.2.2.1, hB.2.2.2.2.2.2.2.2.2.1, hB.2.2.2.2.2.2.2.2.2.2.1, hB.2.2.2.2.2.2.2.2.2.2.2.1, hB.2.2.2.2.2.2.2.2.2.2.2.2.1, hB.2.2.2.2.2.2.2.2.2.2.2.2.2, hg.1, C_hasNode hB hg.2.1 h15, if_pos hc]
        rcases ix4 (w := w) with ⟨j, hj, rfl⟩ | ⟨hn, ho⟩
        · rw [if_pos ⟨nI_pos' (by omega), nI_lt hj (by decide)⟩, nI_clamp (by omega)] at hk
          have key := hk.same h
          have ej : (nI j).toInt = 0 + (j : Int) := by rw [nI_toInt (by omega)]; omega
          rcases (show j = 0 ∨ j = 1 ∨ j = 2 ∨ j = 3 by omega) with rfl | rfl | rfl | rfl
          · rw [aw_tsw_in D86_54 ej (by decide) rfl (t := 84) (by decide)]
            simp (disch := omega) only [aw_aload_4 (pc2 := 86) D86_84 rfl, aw_aloadN_4 (pc2 := 86) D86_84 rfl, aw_getR (pc2 := 89) (ci := 0) (fk := 2) D86_86 rfl fT_6_120 rfl, aw_getR (pc2 := 92) (ci := 1) (fk := 0) D86_89 rfl fT_6_142 rfl, aw_iload_2 (pc2 := 93) D86_92 rfl, aw_iaload (pc2 := 94) D86_93 rfl, aw_iret D86_94 rfl, sh_0, refV_s, refV_n, psh_s, psh_n, kil_i, kil_r, kil_n, kil_l, cat_i, cat_r, iOK_1, iOK_5, jOK_2, jOK_6, wOK_e, lOK_1, lOK_2, lOK_3, lOK_4, catS_0, catS_1, catS_2, catS_3, catS_4, and_self, true_and, and_true, true_or, or_true, false_or, or_false, not_true_eq_false, not_false_eq_true, if_true, if_false, ite_int, ite_int0, au_10, eq_self, hB.1.1, hB.1.2.1, hB.1.2.2.1, hB.1.2.2.2.1, hB.1.2.2.2.2.1, hB.1.2.2.2.2.2.1, hB.1.2.2.2.2.2.2.1, hB.1.2.2.2.2.2.2.2.1, hB.1.2.2.2.2.2.2.2.2.1, hB.1.2.2.2.2.2.2.2.2.2.1, hB.1.2.2.2.2.2.2.2.2.2.2.1, hB.1.2.2.2.2.2.2.2.2.2.2.2.1, hB.1.2.2.2.2.2.2.2.2.2.2.2.2.1, hB.1.2.2.2.2.2.2.2.2.2.2.2.2.2, hB.2.1, hB.2.2.1, hB.2.2.2.1, hB.2.2.2.2.1, hB.2.2.2.2.2.1, hB.2.2.2.2.2.2.1, hB.2.2.2.2.2.2.2.1, hB.2.2.2.2.2.2.2.2.1, hB.2.2.2.2.2.2.2.2.2.1, hB.2.2.2.2.2.2.2.2.2.2.1, hB.2.2.2.2.2.2.2.2.2.2.2.1, hB.2.2.2.2.2.2.2.2.2.2.2.2.1, hB.2.2.2.2.2.2.2.2.2.2.2.2.2, au_in, nI_clamp, n1]
            exact key
          · rw [aw_tsw_in D86_54 ej (by decide) rfl (t := 95) (by decide)]
            simp (disch := omega) only [aw_aload_4 (pc2 := 97) D86_95 rfl, aw_aloadN_4 (pc2 := 97) D86_95 rfl, aw_getR (pc2 := 100) (ci := 0) (fk := 2) D86_97 rfl fT_6_120 rfl, aw_getR (pc2 := 103) (ci := 1) (fk := 1) D86_100 rfl fT_6_145 rfl, aw_iload_2 (pc2 := 104) D86_103 rfl, aw_iaload (pc2 := 105) D86_104 rfl, aw_iret D86_105 rfl, sh_0, refV_s, refV_n, psh_s, psh_n, kil_i, kil_r, kil_n, kil_l, cat_i, cat_r, iOK_1, iOK_5, jOK_2, jOK_6, wOK_e, lOK_1, lOK_2, lOK_3, lOK_4, catS_0, catS_1, catS_2, catS_3, catS_4, and_self, true_and, and_true, true_or, or_true, false_or, or_false, not_true_eq_false, not_false_eq_true, if_true, if_false, ite_int, ite_int0, au_10, eq_self, hB.1.1, hB.1.2.1, hB.1.2.2.1, hB.1.2.2.2.1, hB.1.2.2.2.2.1, hB.1.2.2.2.2.2.1, hB.1.2.2.2.2.2.2.1, hB.1.2.2.2.2.2.2.2.1, hB.1.2.2.2.2.2.2.2.2.1, hB.1.2.2.2.2.2.2.2.2.2.1, hB.1.2.2.2.2.2.2.2.2.2.2.1, hB.1.2.2.2.2.2.2.2.2.2.2.2.1, hB.1.2.2.2.2.2.2.2.2.2.2.2.2.1, hB.1.2.2.2.2.2.2.2.2.2.2.2.2.2, hB.2.1, hB.2.2.1, hB.2.2.2.1, hB.2.2.2.2.1, hB.2.2.2.2.2.1, hB.2.2.2.2.2.2.1, hB.2.2.2.2.2.2.2.1, hB.2.2.2.2.2.2.2.2.1, hB.2.2.2.2.2.2.2.2.2.1, hB.2.2.2.2.2.2.2.2.2.2.1, hB.2.2.2.2.2.2.2.2.2.2.2.1, hB.2.2.2.2.2.2.2.2.2.2.2.2.1, hB.2.2.2.2.2.2.2.2.2.2.2.2.2, au_in, nI_clamp, n2]
            exact key
          · rw [aw_tsw_in D86_54 ej (by decide) rfl (t := 106) (by decide)]
            simp (disch := omega) only [aw_aload_4 (pc2 := 108) D86_106 rfl, aw_aloadN_4 (pc2 := 108) D86_106 rfl, aw_getR (pc2 := 111) (ci := 0) (fk := 2) D86_108 rfl fT_6_120 rfl, aw_getR (pc2 := 114) (ci := 1) (fk := 2) D86_111 rfl fT_6_148 rfl, aw_iload_2 (pc2 := 115) D86_114 rfl, aw_iaload (pc2 := 116) D86_115 rfl, aw_iret D86_116 rfl, sh_0, refV_s, refV_n, psh_s, psh_n, kil_i, kil_r, kil_n, kil_l, cat_i, cat_r, iOK_1, iOK_5, jOK_2, jOK_6, wOK_e, lOK_1, lOK_2, lOK_3, lOK_4, catS_0, catS_1, catS_2, catS_3, catS_4, and_self, true_and, and_true, true_or, or_true, false_or, or_false, not_true_eq_false, not_false_eq_true, if_true, if_false, ite_int, ite_int0, au_10, eq_self, hB.1.1, hB.1.2.1, hB.1.2.2.1, hB.1.2.2.2.1, hB.1.2.2.2.2.1, hB.1.2.2.2.2.2.1, hB.1.2.2.2.2.2.2.1, hB.1.2.2.2.2.2.2.2.1, hB.1.2.2.2.2.2.2.2.2.1, hB.1.2.2.2.2.2.2.2.2.2.1, hB.1.2.2.2.2.2.2.2.2.2.2.1, hB.1.2.2.2.2.2.2.2.2.2.2.2.1, hB.1.2.2.2.2.2.2.2.2.2.2.2.2.1, hB.1.2.2.2.2.2.2.2.2.2.2.2.2.2, hB.2.1, hB.2.2.1, hB.2.2.2.1, hB.2.2.2.2.1, hB.2.2.2.2.2.1, hB.2.2.2.2.2.2.1, hB.2.2.2.2.2.2.2.1, hB.2.2.2.2.2.2.2.2.1, hB.2.2.2.2.2.2.2.2.2.1, hB.2.2.2.2.2.2.2.2.2.2.1, hB.2.2.2.2.2.2.2.2.2.2.2.1, hB.2.2.2.2.2.2.2.2.2.2.2.2.1, hB.2.2.2.2.2.2.2.2.2.2.2.2.2, au_in, nI_clamp, n3]
            exact key
          · rw [aw_tsw_in D86_54 ej (by decide) rfl (t := 117) (by decide)]
            simp (disch := omega) only [aw_aload_4 (pc2 := 119) D86_117 rfl, aw_aloadN_4 (pc2 := 119) D86_117 rfl, aw_getR (pc2 := 122) (ci := 0) (fk := 2) D86_119 rfl fT_6_120 rfl, aw_getR (pc2 := 125) (ci := 1) (fk := 3) D86_122 rfl fT_6_151 rfl, aw_iload_2 (pc2 := 126) D86_125 rfl, aw_iaload (pc2 := 127) D86_126 rfl, aw_iret D86_127 rfl, sh_0, refV_s, refV_n, psh_s, psh_n, kil_i, kil_r, kil_n, kil_l, cat_i, cat_r, iOK_1, iOK_5, jOK_2, jOK_6, wOK_e, lOK_1, lOK_2, lOK_3, lOK_4, catS_0, catS_1, catS_2, catS_3, catS_4, and_self, true_and, and_true, true_or, or_true, false_or, or_false, not_true_eq_false, not_false_eq_true, if_true, if_false, ite_int, ite_int0, au_10, eq_self, hB.1.1, hB.1.2.1, hB.1.2.2.1, hB.1.2.2.2.1, hB.1.2.2.2.2.1, hB.1.2.2.2.2.2.1, hB.1.2.2.2.2.2.2.1, hB.1.2.2.2.2.2.2.2.1, hB.1.2.2.2.2.2.2.2.2.1, hB.1.2.2.2.2.2.2.2.2.2.1, hB.1.2.2.2.2.2.2.2.2.2.2.1, hB.1.2.2.2.2.2.2.2.2.2.2.2.1, hB.1.2.2.2.2.2.2.2.2.2.2.2.2.1, hB.1.2.2.2.2.2.2.2.2.2.2.2.2.2, hB.2.1, hB.2.2.1, hB.2.2.2.1, hB.2.2.2.2.1, hB.2.2.2.2.2.1, hB.2.2.2.2.2.2.1, hB.2.2.2.2.2.2.2.1, hB.2.2.2.2.2.2.2.2.1, hB.2.2.2.2.2.2.2.2.2.1, hB.2.2.2.2.2.2.2.2.2.2.1, hB.2.2.2.2.2.2.2.2.2.2.2.1, hB.2.2.2.2.2.2.2.2.2.2.2.2.1, hB.2.2.2.2.2.2.2.2.2.2.2.2.2, au_in, nI_clamp, n4]
            exact key
        · rw [if_neg hn] at hk
          rw [aw_tsw_out D86_54 ho (t := 128) (by decide)]
          simp only [aw_aload_0 (pc2 := 129) D86_128 rfl, aw_aloadN_0 (pc2 := 129) D86_128 rfl, aw_bipush (pc2 := 131) (y := -7) D86_129 rfl (by decide), aw_iv1_0 (pc2 := 134) (o := 6) D86_131 rfl cT_6_59 rfl rfl, aw_iret D86_134 rfl, sh_0, refV_s, refV_n, psh_s, psh_n, kil_i, kil_r, kil_n, kil_l, cat_i, cat_r, iOK_1, iOK_5, jOK_2, jOK_6, wOK_e, lOK_1, lOK_2, lOK_3, lOK_4, catS_0, catS_1, catS_2, catS_3, catS_4, and_self, true_and, and_true, true_or, or_true, false_or, or_false, not_true_eq_false, not_false_eq_true, if_true, if_false, ite_int, ite_int0, au_10, eq_self, C_ref7]
          exact hk.ref h (by omega) (by omega)
      · rw [if_neg hc] at hk
        simp only [aw_aload_0 (pc2 := 1) D86_0 rfl, aw_aloadN_0 (pc2 := 1) D86_0 rfl, aw_iload_1 (pc2 := 2) D86_1 rfl, aw_iv1_0 (pc2 := 5) (o := 6) D86_2 rfl cT_6_55 rfl rfl, aw_astore_4 (pc2 := 7) D86_5 rfl, aw_astoreN_4 (pc2 := 7) D86_5 rfl, aw_aload_4 (pc2 := 9) D86_7 rfl, aw_aloadN_4 (pc2 := 9) D86_7 rfl, aw_ifnonnull (t := 19) D86_9 (by decide), aw_ifnonnullN (pc2 := 12) D86_9 rfl, aw_aload_0 (pc2 := 13) D86_12 rfl, aw_aloadN_0 (pc2 := 13) D86_12 rfl, aw_bipush (pc2 := 15) (y := -3) D86_13 rfl (by decide), aw_iv1_0 (pc2 := 18) (o := 6) D86_15 rfl cT_6_59 rfl rfl, aw_iret D86_18 rfl, aw_aload_4 (pc2 := 21) D86_19 rfl, aw_aloadN_4 (pc2 := 21) D86_19 rfl, aw_getI (pc2 := 24) (ci := 0) (fk := 8) D86_21 rfl fT_6_107 rfl, aw_if_ne (pc2 := 27) (t := 34) D86_24 (by decide) rfl, aw_aload_0 (pc2 := 28) D86_27 rfl, aw_aloadN_0 (pc2 := 28) D86_27 rfl, aw_bipush (pc2 := 30) (y := -2) D86_28 rfl (by decide), aw_iv1_0 (pc2 := 33) (o := 6) D86_30 rfl cT_6_59 rfl rfl, aw_iret D86_33 rfl, aw_aload_4 (pc2 := 36) D86_34 rfl, aw_aloadN_4 (pc2 := 36) D86_34 rfl, aw_getR (pc2 := 39) (ci := 0) (fk := 2) D86_36 rfl fT_6_120 rfl, aw_iload_2 (pc2 := 40) D86_39 rfl, aw_iv1_0 (pc2 := 43) (o := 1) D86_40 rfl cT_6_139 rfl rfl, aw_if_ne (pc2 := 46) (t := 53) D86_43 (by decide) rfl, aw_aload_0 (pc2 := 47) D86_46 rfl, aw_aloadN_0 (pc2 := 47) D86_46 rfl, aw_bipush (pc2 := 49) (y := -3) D86_47 rfl (by decide), aw_iv1_0 (pc2 := 52) (o := 6) D86_49 rfl cT_6_59 rfl rfl, aw_iret D86_52 rfl, sh_0, refV_s, refV_n, psh_s, psh_n, kil_i, kil_r, kil_n, kil_l, cat_i, cat_r, iOK_1, iOK_5, jOK_2, jOK_6, wOK_e, lOK_1, lOK_2, lOK_3, lOK_4, catS_0, catS_1, catS_2, catS_3, catS_4, and_self, true_and, and_true, true_or, or_true, false_or, or_false, not_true_eq_false, not_false_eq_true, if_true, if_false, ite_int, ite_int0, au_10, eq_self, C_bookAt hb, C_ref2, C_ref3, hB.1.1, hB.1.2.1, hB.1.2.2.1, hB.1.2.2.2.1, hB.1.2.2.2.2.1, hB.1.2.2.2.2.2.1, hB.1.2.2.2.2.2.2.1, hB.1.2.2.2.2.2.2.2.1, hB.1.2.2.2.2.2.2.2.2.1, hB.1.2.2.2.2.2.2.2.2.2.1, hB.1.2.2.2.2.2.2.2.2.2.2.1, hB.1.2.2.2.2.2.2.2.2.2.2.2.1, hB.1.2.2.2.2.2.2.2.2.2.2.2.2.1, hB.1.2.2.2.2.2.2.2.2.2.2.2.2.2, hB.2.1, hB.2.2.1, hB.2.2.2.1, hB.2.2.2.2.1, hB.2.2.2.2.2.1, hB.2.2.2.2.2.2.1, hB.2.2.2.2.2.2.2.1, hB.2.2.2.2.2.2.2.2.1, hB.2.2.2.2.2.2.2.2.2.1, hB.2.2.2.2.2.2.2.2.2.2.1, hB.2.2.2.2.2.2.2.2.2.2.2.1, hB.2.2.2.2.2.2.2.2.2.2.2.2.1, hB.2.2.2.2.2.2.2.2.2.2.2.2.2, hg.1, C_hasNode hB hg.2.1 h15, if_neg hc]
        exact hk.ref h (by omega) (by omega)
theorem CO_part {x k w : Int32} (hs : sgOK σ) (h : CInv σ I J) (hk : CPost Ln I J K (oPart σ x k w)) : ACall (d + 3) 87 [.ref 0, .int x, .int k, .int w] (G0 Ln) I J K := by
  rw [ACall_0 (L0 := [.ref 0, .int x, .int k, .int w, nv]) (show mcs 87 = (0, 0) from rfl) (show entL 87 [.ref 0, .int x, .int k, .int w] = _ from rfl) rfl (Nat.le_of_ble_eq_true rfl)]
  unfold oPart at hk
  cases hx : bkOf x with
  | none =>
    simp only [hx] at hk
    obtain ⟨x0, x1⟩ := bkOf_none hx
    simp only [aw_aload_0 (pc2 := 1) D87_0 rfl, aw_aloadN_0 (pc2 := 1) D87_0 rfl, aw_iload_1 (pc2 := 2) D87_1 rfl, aw_iv1_0 (pc2 := 5) (o := 6) D87_2 rfl cT_6_55 rfl rfl, aw_astore_4 (pc2 := 7) D87_5 rfl, aw_astoreN_4 (pc2 := 7) D87_5 rfl, aw_aload_4 (pc2 := 9) D87_7 rfl, aw_aloadN_4 (pc2 := 9) D87_7 rfl, aw_ifnonnull (t := 19) D87_9 (by decide), aw_ifnonnullN (pc2 := 12) D87_9 rfl, aw_aload_0 (pc2 := 13) D87_12 rfl, aw_aloadN_0 (pc2 := 13) D87_12 rfl, aw_bipush (pc2 := 15) (y := -3) D87_13 rfl (by decide), aw_iv1_0 (pc2 := 18) (o := 6) D87_15 rfl cT_6_59 rfl rfl, aw_iret D87_18 rfl, sh_0, refV_s, refV_n, psh_s, psh_n, kil_i, kil_r, kil_n, kil_l, cat_i, cat_r, iOK_1, iOK_5, jOK_2, jOK_6, wOK_e, lOK_1, lOK_2, lOK_3, lOK_4, catS_0, catS_1, catS_2, catS_3, catS_4, and_self, true_and, and_true, true_or, or_true, false_or, or_false, not_true_eq_false, not_false_eq_true, if_true, if_false, ite_int, ite_int0, au_10, eq_self, C_bookAtN x0 x1, C_ref3]
    exact hk.ref h (by omega) (by omega)
  | some b =>
    simp only [hx] at hk
    obtain ⟨hb, rfl⟩ := bkOf_some hx
    have hB := bf (Ln := Ln) hb
    have hg := (h.1 b hb).2.2.2.2.2.2
    unfold CGo at hg
    cases e : (σ.1 b).g with
    | none =>
      rw [e] at hg
      simp only [e] at hk
      simp only [aw_aload_0 (pc2 := 1) D87_0 rfl, aw_aloadN_0 (pc2 := 1) D87_0 rfl, aw_iload_1 (pc2 := 2) D87_1 rfl, aw_iv1_0 (pc2 := 5) (o := 6) D87_2 rfl cT_6_55 rfl rfl, aw_astore_4 (pc2 := 7) D87_5 rfl, aw_astoreN_4 (pc2 := 7) D87_5 rfl, aw_aload_4 (pc2 := 9) D87_7 rfl, aw_aloadN_4 (pc2 := 9) D87_7 rfl, aw_ifnonnull (t := 19) D87_9 (by decide), aw_ifnonnullN (pc2 := 12) D87_9 rfl, aw_aload_0 (pc2 := 13) D87_12 rfl, aw_aloadN_0 (pc2 := 13) D87_12 rfl, aw_bipush (pc2 := 15) (y := -3) D87_13 rfl (by decide), aw_iv1_0 (pc2 := 18) (o := 6) D87_15 rfl cT_6_59 rfl rfl, aw_iret D87_18 rfl, aw_aload_4 (pc2 := 21) D87_19 rfl, aw_aloadN_4 (pc2 := 21) D87_19 rfl, aw_getI (pc2 := 24) (ci := 0) (fk := 8) D87_21 rfl fT_6_107 rfl, aw_if_ne (pc2 := 27) (t := 34) D87_24 (by decide) rfl, aw_aload_0 (pc2 := 28) D87_27 rfl, aw_aloadN_0 (pc2 := 28) D87_27 rfl, aw_bipush (pc2 := 30) (y := -2) D87_28 rfl (by decide), aw_iv1_0 (pc2 := 33) (o := 6) D87_30 rfl cT_6_59 rfl rfl, aw_iret D87_33 rfl, sh_0, refV_s, refV_n, psh_s, psh_n, kil_i, kil_r, kil_n, kil_l, cat_i, cat_r, iOK_1, iOK_5, jOK_2, jOK_6, wOK_e, lOK_1, lOK_2, lOK_3, lOK_4, catS_0, catS_1, catS_2, catS_3, catS_4, and_self, true_and, and_true, true_or, or_true, false_or, or_false, not_true_eq_false, not_false_eq_true, if_true, if_false, ite_int, ite_int0, au_10, eq_self, C_bookAt hb, C_ref2, hB.1.1, hg]
      exact hk.ref h (by omega) (by omega)
    | some g =>
      rw [e] at hg
      simp only [e] at hk
      have hgo := gr_get hs hb e
      have h15 := hgo.2.1
      by_cases hc : 0 ≤ k ∧ k < nI g.1.length
      · rw [if_pos hc] at hk
        obtain ⟨i, hi, rfl⟩ := ix_of (by omega) hc
        obtain ⟨n1, n2, n3, n4, n5⟩ := hg.2.2.2.2.1 i hi
        have hl12 := nd_len (node_ok hgo hi)
        rw [nI_clamp (by omega)] at hk
        simp (disch := omega) only [aw_aload_0 (pc2 := 1) D87_0 rfl, aw_aloadN_0 (pc2 := 1) D87_0 rfl, aw_iload_1 (pc2 := 2) D87_1 rfl, aw_iv1_0 (pc2 := 5) (o := 6) D87_2 rfl cT_6_55 rfl rfl, aw_astore_4 (pc2 := 7) D87_5 rfl, aw_astoreN_4 (pc2 := 7) D87_5 rfl, aw_aload_4 (pc2 := 9) D87_7 rfl, aw_aloadN_4 (pc2 := 9) D87_7 rfl, aw_ifnonnull (t := 19) D87_9 (by decide), aw_ifnonnullN (pc2 := 12) D87_9 rfl, aw_aload_0 (pc2 := 13) D87_12 rfl, aw_aloadN_0 (pc2 := 13) D87_12 rfl, aw_bipush (pc2 := 15) (y := -3) D87_13 rfl (by decide), aw_iv1_0 (pc2 := 18) (o := 6) D87_15 rfl cT_6_59 rfl rfl, aw_iret D87_18 rfl, aw_aload_4 (pc2 := 21) D87_19 rfl, aw_aloadN_4 (pc2 := 21) D87_19 rfl, aw_getI (pc2 := 24) (ci := 0) (fk := 8) D87_21 rfl fT_6_107 rfl, aw_if_ne (pc2 := 27) (t := 34) D87_24 (by decide) rfl, aw_aload_0 (pc2 := 28) D87_27 rfl, aw_aloadN_0 (pc2 := 28) D87_27 rfl, aw_bipush (pc2 := 30) (y := -2) D87_28 rfl (by decide), aw_iv1_0 (pc2 := 33) (o := 6) D87_30 rfl cT_6_59 rfl rfl, aw_iret D87_33 rfl, aw_aload_4 (pc2 := 36) D87_34 rfl, aw_aloadN_4 (pc2 := 36) D87_34 rfl, aw_getR (pc2 := 39) (ci := 0) (fk := 2) D87_36 rfl fT_6_120 rfl, aw_iload_2 (pc2 := 40) D87_39 rfl, aw_iv1_0 (pc2 := 43) (o := 1) D87_40 rfl cT_6_139 rfl rfl, aw_if_ne (pc2 := 46) (t := 53) D87_43 (by decide) rfl, aw_aload_0 (pc2 := 47) D87_46 rfl, aw_aloadN_0 (pc2 := 47) D87_46 rfl, aw_bipush (pc2 := 49) (y := -3) D87_47 rfl (by decide), aw_iv1_0 (pc2 := 52) (o := 6) D87_49 rfl cT_6_59 rfl rfl, aw_iret D87_52 rfl, aw_aload_4 (pc2 := 55) D87_53 rfl, aw_aloadN_4 (pc2 := 55) D87_53 rfl, aw_getR (pc2 := 58) (ci := 0) (fk := 2) D87_55 rfl fT_6_120 rfl, aw_getR (pc2 := 61) (ci := 1) (fk := 2) D87_58 rfl fT_6_148 rfl, aw_iload_2 (pc2 := 62) D87_61 rfl, aw_iaload (pc2 := 63) D87_62 rfl, aw_if_ne (pc2 := 66) (t := 73) D87_63 (by decide) rfl, sh_0, refV_s, refV_n, psh_s, psh_n, kil_i, kil_r, kil_n, kil_l, cat_i, cat_r, iOK_1, iOK_5, jOK_2, jOK_6, wOK_e, lOK_1, lOK_2, lOK_3, lOK_4, catS_0, catS_1, catS_2, catS_3, catS_4, and_self, true_and, and_true, true_or, or_true, false_or, or_false, not_true_eq_false, not_false_eq_true, if_true, if_false, ite_int, ite_int0, au_10, eq_self, C_bookAt hb, C_ref2, C_ref3, hB.1.1, hB.1.2.1, hB.1.2.2.1, hB.1.2.2.2.1, hB.1.2.2.2.2.1, hB.1.2.2.2.2.2.1, hB.1.2.2.2.2.2.2.1, hB.1.2.2.2.2.2.2.2.1, hB.1.2.2.2.2.2.2.2.2.1, hB.1.2.2.2.2.2.2.2.2.2.1, hB.1.2.2.2.2.2.2.2.2.2.2.1, hB.1.2.2.2.2.2.2.2.2.2.2.2.1, hB.1.2.2.2.2.2.2.2.2.2.2.2.2.1, hB.1.2.2.2.2.2.2.2.2.2.2.2.2.2, hB.2.1, hB.2.2.1, hB.2.2.2.1, hB.2.2.2.2.1, hB.2.2.2.2.2.1, hB.2.2.2.2.2.2.1, hB.2.2.2.2.2.2.2.1, hB.2.2.2.2.2.2.2.2.1, hB.2.2.2.2.2.2.2.2.2.1, hB.2.2.2.2.2.2.2.2.2.2.1, hB.2.2.2.2.2.2.2.2.2.2.2.1, hB.2.2.2.2.2.2.2.2.2.2.2.2.1, hB.2.2.2.2.2.2.2.2.2.2.2.2.2, hg.1, C_hasNode hB hg.2.1 h15, if_pos hc, au_in, nI_clamp, n3, au_eq0]
        by_cases hp : (nodeAt g i).2.2 = []
        · rw [if_pos hp] at hk
          simp only [aw_aload_0 (pc2 := 67) D87_66 rfl, aw_aloadN_0 (pc2 := 67) D87_66 rfl, aw_bipush (pc2 := 69) (y := -5) D87_67 rfl (by decide), aw_iv1_0 (pc2 := 72) (o := 6) D87_69 rfl cT_6_59 rfl rfl, aw_iret D87_72 rfl, sh_0, refV_s, refV_n, psh_s, psh_n, kil_i, kil_r, kil_n, kil_l, cat_i, cat_r, iOK_1, iOK_5, jOK_2, jOK_6, wOK_e, lOK_1, lOK_2, lOK_3, lOK_4, catS_0, catS_1, catS_2, catS_3, catS_4, and_self, true_and, and_true, true_or, or_true, false_or, or_false, not_true_eq_false, not_false_eq_true, if_true, if_false, ite_int, ite_int0, au_10, eq_self, C_ref5, hp, List.length_nil]
          exact hk.ref h (by omega) (by omega)
        · rw [if_neg hp] at hk
          have hpos := List.length_pos_iff.mpr hp
          rw [if_pos (by omega)]
          rcases pk_ix w (n := (nodeAt g i).2.2.length) (by omega) with z | z | ⟨j, hj, rfl⟩
          · rw [if_neg (fun q => by have := q.1; rw [fa_lt] at z; rw [fa_le] at this; omega)] at hk
            simp only [aw_iload_3 (pc2 := 74) D87_73 rfl, aw_if_lt (pc2 := 77) (t := 91) D87_74 (by decide) rfl, aw_iload_3 (pc2 := 78) D87_77 rfl, aw_aload_4 (pc2 := 80) D87_78 rfl, aw_aloadN_4 (pc2 := 80) D87_78 rfl, aw_getR (pc2 := 83) (ci := 0) (fk := 2) D87_80 rfl fT_6_120 rfl, aw_getR (pc2 := 86) (ci := 1) (fk := 2) D87_83 rfl fT_6_148 rfl, aw_iload_2 (pc2 := 87) D87_86 rfl, aw_iaload (pc2 := 88) D87_87 rfl, aw_icmp_lt (pc2 := 91) (t := 98) D87_88 (by decide) rfl, aw_aload_0 (pc2 := 92) D87_91 rfl, aw_aloadN_0 (pc2 := 92) D87_91 rfl, aw_bipush (pc2 := 94) (y := -3) D87_92 rfl (by decide), aw_iv1_0 (pc2 := 97) (o := 6) D87_94 rfl cT_6_59 rfl rfl, aw_iret D87_97 rfl, sh_0, refV_s, refV_n, psh_s, psh_n, kil_i, kil_r, kil_n, kil_l, cat_i, cat_r, iOK_1, iOK_5, jOK_2, jOK_6, wOK_e, lOK_1, lOK_2, lOK_3, lOK_4, catS_0, catS_1, catS_2, catS_3, catS_4, and_self, true_and, and_true, true_or, or_true, false_or, or_false, not_true_eq_false, not_false_eq_true, if_true, if_false, ite_int, ite_int0, au_10, eq_self, C_ref3, if_pos z]
            exact hk.ref h (by omega) (by omega)
          · have z2 : ¬ w < nI (nodeAt g i).2.2.length := by rw [fa_le] at z; rw [fa_lt]; omega
            rw [if_neg (fun q => z2 q.2)] at hk
            simp (disch := omega) only [aw_iload_3 (pc2 := 74) D87_73 rfl, aw_if_lt (pc2 := 77) (t := 91) D87_74 (by decide) rfl, aw_iload_3 (pc2 := 78) D87_77 rfl, aw_aload_4 (pc2 := 80) D87_78 rfl, aw_aloadN_4 (pc2 := 80) D87_78 rfl, aw_getR (pc2 := 83) (ci := 0) (fk := 2) D87_80 rfl fT_6_120 rfl, aw_getR (pc2 := 86) (ci := 1) (fk := 2) D87_83 rfl fT_6_148 rfl, aw_iload_2 (pc2 := 87) D87_86 rfl, aw_iaload (pc2 := 88) D87_87 rfl, aw_icmp_lt (pc2 := 91) (t := 98) D87_88 (by decide) rfl, aw_aload_0 (pc2 := 92) D87_91 rfl, aw_aloadN_0 (pc2 := 92) D87_91 rfl, aw_bipush (pc2 := 94) (y := -3) D87_92 rfl (by decide), aw_iv1_0 (pc2 := 97) (o := 6) D87_94 rfl cT_6_59 rfl rfl, aw_iret D87_97 rfl, sh_0, refV_s, refV_n, psh_s, psh_n, kil_i, kil_r, kil_n, kil_l, cat_i, cat_r, iOK_1, iOK_5, jOK_2, jOK_6, wOK_e, lOK_1, lOK_2, lOK_3, lOK_4, catS_0, catS_1, catS_2, catS_3, catS_4, and_self, true_and, and_true, true_or, or_true, false_or, or_false, not_true_eq_false, not_false_eq_true, if_true, if_false, ite_int, ite_int0, au_10, eq_self, C_ref3, hB.1.1, hB.1.2.1, hB.1.2.2.1, hB.1.2.2.2.1, hB.1.2.2.2.2.1, hB.1.2.2.2.2.2.1, hB.1.2.2.2.2.2.2.1, hB.1.2.2.2.2.2.2.2.1, hB.1.2.2.2.2.2.2.2.2.1, hB.1.2.2.2.2.2.2.2.2.2.1, hB.1.2.2.2.2.2.2.2.2.2.2.1, hB.1.2.2.2.2.2.2.2.2.2.2.2.1, hB.1.2.2.2.2.2.2.2.2.2.2.2.2.1, hB.1.2.2.2.2.2.2.2.2.2.2.2.2.2, hB.2.1, hB.2.2.1, hB.2.2.2.1, hB.2.2.2.2.1, hB.2.2.2.2.2.1, hB.2.2.2.2.2.2.1, hB.2.2.2.2.2.2.2.1, hB.2.2.2.2.2.2.2.2.1, hB.2.2.2.2.2.2.2.2.2.1, hB.2.2.2.2.2.2.2.2.2.2.1, hB.2.2.2.2.2.2.2.2.2.2.2.1, hB.2.2.2.2.2.2.2.2.2.2.2.2.1, hB.2.2.2.2.2.2.2.2.2.2.2.2.2, au_in, nI_clamp, n3, if_neg z2, ite_self]
            exact hk.ref h (by omega) (by omega)
          · rw [if_pos ⟨nI_pos' (by omega), nI_lt hj (by omega)⟩, nI_clamp (by omega)] at hk
            simp (disch := omega) only [aw_iload_3 (pc2 := 74) D87_73 rfl, aw_if_lt (pc2 := 77) (t := 91) D87_74 (by decide) rfl, aw_iload_3 (pc2 := 78) D87_77 rfl, aw_aload_4 (pc2 := 80) D87_78 rfl, aw_aloadN_4 (pc2 := 80) D87_78 rfl, aw_getR (pc2 := 83) (ci := 0) (fk := 2) D87_80 rfl fT_6_120 rfl, aw_getR (pc2 := 86) (ci := 1) (fk := 2) D87_83 rfl fT_6_148 rfl, aw_iload_2 (pc2 := 87) D87_86 rfl, aw_iaload (pc2 := 88) D87_87 rfl, aw_icmp_lt (pc2 := 91) (t := 98) D87_88 (by decide) rfl, aw_aload_0 (pc2 := 92) D87_91 rfl, aw_aloadN_0 (pc2 := 92) D87_91 rfl, aw_bipush (pc2 := 94) (y := -3) D87_92 rfl (by decide), aw_iv1_0 (pc2 := 97) (o := 6) D87_94 rfl cT_6_59 rfl rfl, aw_iret D87_97 rfl, aw_aload_4 (pc2 := 100) D87_98 rfl, aw_aloadN_4 (pc2 := 100) D87_98 rfl, aw_getR (pc2 := 103) (ci := 0) (fk := 2) D87_100 rfl fT_6_120 rfl, aw_iload_2 (pc2 := 104) D87_103 rfl, aw_iload_3 (pc2 := 105) D87_104 rfl, aw_iv2_0 (pc2 := 108) (o := 1) D87_105 rfl cT_6_154 rfl rfl, aw_iret D87_108 rfl, sh_0, refV_s, refV_n, psh_s, psh_n, kil_i, kil_r, kil_n, kil_l, cat_i, cat_r, iOK_1, iOK_5, jOK_2, jOK_6, wOK_e, lOK_1, lOK_2, lOK_3, lOK_4, catS_0, catS_1, catS_2, catS_3, catS_4, and_self, true_and, and_true, true_or, or_true, false_or, or_false, not_true_eq_false, not_false_eq_true, if_true, if_false, ite_int, ite_int0, au_10, eq_self, au_in, au_le, au_lt, au_eq, au_lt0, au_ge0, au_le0, au_gt0, au_eq0, au_leT, au_leF, au_ltT, au_ltF, au_eqT, au_eqF, nI_clamp, nI_1, nI_add, pk_mul, au_sub1, au_subc, au_up2e, au_up2n, lit_of, C_ref3, hB.1.1, hB.1.2.1, hB.1.2.2.1, hB.1.2.2.2.1, hB.1.2.2.2.2.1, hB.1.2.2.2.2.2.1, hB.1.2.2.2.2.2.2.1, hB.1.2.2.2.2.2.2.2.1, hB.1.2.2.2.2.2.2.2.2.1, hB.1.2.2.2.2.2.2.2.2.2.1, hB.1.2.2.2.2.2.2.2.2.2.2.1, hB.1.2.2.2.2.2.2.2.2.2.2.2.1, hB.1.2.2.2.2.2.2.2.2.2.2.2.2.1, hB.1.2.2.2.2.2.2.2.2.2.2.2.2.2, hB.2.1, hB.2.2.1, hB.2.2.2.1, hB.2.2.2.2.1, hB.2.2.2.2.2.1, hB.2.2.2.2.2.2.1, hB.2.2.2.2.2.2.2.1, hB.2.2.2.2.2.2.2.2.1, hB.2.2.2.2.2.2.2.2.2.1, hB.2.2.2.2.2.2.2.2.2.2.1, hB.2.2.2.2.2.2.2.2.2.2.2.1, hB.2.2.2.2.2.2.2.2.2.2.2.2.1, hB.2.2.2.2.2.2.2.2.2.2.2.2.2, n3, C_partAt hB hg.2.1 h15 hi n3 hj hl12, n5 j hj]
            exact hk.same h
      · rw [if_neg hc] at hk
        simp only [aw_aload_0 (pc2 := 1) D87_0 rfl, aw_aloadN_0 (pc2 := 1) D87_0 rfl, aw_iload_1 (pc2 := 2) D87_1 rfl, aw_iv1_0 (pc2 := 5) (o := 6) D87_2 rfl cT_6_55 rfl rfl, aw_astore_4 (pc2 := 7) D87_5 rfl, aw_astoreN_4 (pc2 := 7) D87_5 rfl, aw_aload_4 (pc2 := 9) D87_7 rfl, aw_aloadN_4 (pc2 := 9) D87_7 rfl, aw_ifnonnull (t := 19) D87_9 (by decide), aw_ifnonnullN (pc2 := 12) D87_9 rfl, aw_aload_0 (pc2 := 13) D87_12 rfl, aw_aloadN_0 (pc2 := 13) D87_12 rfl, aw_bipush (pc2 := 15) (y := -3) D87_13 rfl (by decide), aw_iv1_0 (pc2 := 18) (o := 6) D87_15 rfl cT_6_59 rfl rfl, aw_iret D87_18 rfl, aw_aload_4 (pc2 := 21) D87_19 rfl, aw_aloadN_4 (pc2 := 21) D87_19 rfl, aw_getI (pc2 := 24) (ci := 0) (fk := 8) D87_21 rfl fT_6_107 rfl, aw_if_ne (pc2 := 27) (t := 34) D87_24 (by decide) rfl, aw_aload_0 (pc2 := 28) D87_27 rfl, aw_aloadN_0 (pc2 := 28) D87_27 rfl, aw_bipush (pc2 := 30) (y := -2) D87_28 rfl (by decide), aw_iv1_0 (pc2 := 33) (o := 6) D87_30 rfl cT_6_59 rfl rfl, aw_iret D87_33 rfl, aw_aload_4 (pc2 := 36) D87_34 rfl, aw_aloadN_4 (pc2 := 36) D87_34 rfl, aw_getR (pc2 := 39) (ci := 0) (fk := 2) D87_36 rfl fT_6_120 rfl, aw_iload_2 (pc2 := 40) D87_39 rfl, aw_iv1_0 (pc2 := 43) (o := 1) D87_40 rfl cT_6_139 rfl rfl, aw_if_ne (pc2 := 46) (t := 53) D87_43 (by decide) rfl, aw_aload_0 (pc2 := 47) D87_46 rfl, aw_aloadN_0 (pc2 := 47) D87_46 rfl, aw_bipush (pc2 := 49) (y := -3) D87_47 rfl (by decide), aw_iv1_0 (pc2 := 52) (o := 6) D87_49 rfl cT_6_59 rfl rfl, aw_iret D87_52 rfl, sh_0, refV_s, refV_n, psh_s, psh_n, kil_i, kil_r, kil_n, kil_l, cat_i, cat_r, iOK_1, iOK_5, jOK_2, jOK_6, wOK_e, lOK_1, lOK_2, lOK_3, lOK_4, catS_0, catS_1, catS_2, catS_3, catS_4, and_self, true_and, and_true, true_or, or_true, false_or, or_false, not_true_eq_false, not_false_eq_true, if_true, if_false, ite_int, ite_int0, au_10, eq_self, C_bookAt hb, C_ref2, C_ref3, hB.1.1, hB.1.2.1, hB.1.2.2.1, hB.1.2.2.2.1, hB.1.2.2.2.2.1, hB.1.2.2.2.2.2.1, hB.1.2.2.2.2.2.2.1, hB.1.2.2.2.2.2.2.2.1, hB.1.2.2.2.2.2.2.2.2.1, hB.1.2.2.2.2.2.2.2.2.2.1, hB.1.2.2.2.2.2.2.2.2.2.2.1, hB.1.2.2.2.2.2.2.2.2.2.2.2.1, hB.1.2.2.2.2.2.2.2.2.2.2.2.2.1, hB.1.2.2.2.2.2.2.2.2.2.2.2.2.2, hB.2.1, hB.2.2.1, hB.2.2.2.1, hB.2.2.2.2.1, hB.2.2.2.2.2.1, hB.2.2.2.2.2.2.1, hB.2.2.2.2.2.2.2.1, hB.2.2.2.2.2.2.2.2.1, hB.2.2.2.2.2.2.2.2.2.1, hB.2.2.2.2.2.2.2.2.2.2.1, hB.2.2.2.2.2.2.2.2.2.2.2.1, hB.2.2.2.2.2.2.2.2.2.2.2.2.1, hB.2.2.2.2.2.2.2.2.2.2.2.2.2, hg.1, C_hasNode hB hg.2.1 h15, if_neg hc]
        exact hk.ref h (by omega) (by omega)
end Node
