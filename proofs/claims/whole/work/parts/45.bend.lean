def setPart (g : GR) (i j v : Nat) : GR := (g.1.set i ((nodeAt g i).1, (nodeAt g i).2.1, (nodeAt g i).2.2.set j v), g.2.1, g.2.2)
def oBend (σ : SG) (x k j o : Int32) : Value × SG := match bkOf x with
  | none => (.int (-3), refS σ 3)
  | some b => match (σ.1 b).g with
    | none => (.int (-2), refS σ 2)
    | some g => if 0 ≤ k ∧ k < nI g.1.length then (if (nodeAt g k.toNatClampNeg).2.2 = [] then (.int (-5), refS σ 5) else if (0 ≤ j ∧ j < nI (nodeAt g k.toNatClampNeg).2.2.length) ∧ (0 ≤ o ∧ o < k) then (.int (nI ((nodeAt g k.toNatClampNeg).2.2.getD j.toNatClampNeg 0)), setB σ b ((σ.1 b).N, (σ.1 b).cl, (σ.1 b).ak, (σ.1 b).fx, (σ.1 b).wt, some (setPart g k.toNatClampNeg j.toNatClampNeg o.toNatClampNeg))) else (.int (-3), refS σ 3)) else (.int (-3), refS σ 3)
theorem set_node {g : GR} {i j v k : Nat} (hi : i < g.1.length) : nodeAt (setPart g i j v) k = if k = i then ((nodeAt g i).1, (nodeAt g i).2.1, (nodeAt g i).2.2.set j v) else nodeAt g k := by
  show (g.1.set i _).getD k _ = _
  rw [List.getD_eq_getElem?_getD, List.getElem?_set]
  by_cases e : i = k
  · subst e; simp [hi]
  · rw [if_neg e, if_neg (fun q => e q.symm)]
    unfold nodeAt
    rw [List.getD_eq_getElem?_getD]
theorem ltsTo_cong {g g' : GR} : ∀ {n : Nat}, (∀ k, k < n → nodeAt g k = nodeAt g' k) → ∀ i, ltsTo g n i = ltsTo g' n i
  | 0, _, _ => rfl
  | n + 1, h, i => by
    have ih := ltsTo_cong (n := n) (fun k hk => h k (by omega))
    show (if i = n then _ else _) = (if i = n then _ else _)
    rw [h n (by omega), ih i]
    have : ltsTo g n = ltsTo g' n := funext ih
    rw [this]
theorem lts_cong {g g' : GR} {i : Nat} (h : ∀ k, k ≤ i → nodeAt g k = nodeAt g' k) : lts g i = lts g' i := ltsTo_cong (fun k hk => h k (by omega)) i
theorem set_ok {N : Nat} {g : GR} {i j v : Nat} (h : grOK N g) (hi : i < g.1.length) (hv : v < i) : grOK N (setPart g i j v) := by
  have hl : (setPart g i j v).1.length = g.1.length := List.length_set
  have hr : (setPart g i j v).2 = g.2 := rfl
  refine ⟨by rw [hl]; exact h.1, by rw [hl]; exact h.2.1, by rw [hl, hr]; exact h.2.2.1, by rw [hr]; exact h.2.2.2.1, fun k x hx => ?_⟩
  have hk : k < g.1.length := by
    have := (List.getElem?_eq_some_iff.mp hx).1
    rw [hl] at this; exact this
  have ex : nodeAt (setPart g i j v) k = x := by
    unfold nodeAt
    rw [List.getD_eq_getElem?_getD, hx]; rfl
  rw [← ex, set_node hi]
  have ho := node_ok h hk
  by_cases e : k = i
  · subst e
    rw [if_pos rfl]
    refine ⟨fun p hp => ?_, ?_⟩
    · rcases List.mem_or_eq_of_mem_set hp with q | q
      · exact ho.1 p q
      · rw [q]; exact hv
    · rcases ho.2 with q | q | q | q
      · exact Or.inl ⟨q.1, q.2.1, by show (nodeAt g k).2.2.set j v = []; rw [q.2.2]; rfl⟩
      · exact Or.inr (Or.inl ⟨q.1, q.2.1, q.2.2.1, q.2.2.2.1, by show (nodeAt g k).2.2.set j v = []; rw [q.2.2.2.2]; rfl⟩)
      · exact Or.inr (Or.inr (Or.inl ⟨q.1, q.2.1, by show 2 ≤ ((nodeAt g k).2.2.set j v).length; rw [List.length_set]; exact q.2.2.1, by show ((nodeAt g k).2.2.set j v).length ≤ 12; rw [List.length_set]; exact q.2.2.2⟩))
      · exact Or.inr (Or.inr (Or.inr ⟨q.1, q.2.1, q.2.2.1, by show ((nodeAt g k).2.2.set j v).length = 2; rw [List.length_set]; exact q.2.2.2⟩))
  · rw [if_neg e]; exact ho
section Bend
variable {d Ln B : Nat} {I : IT} {J : JT} {K : KT} {σ : SG}
theorem C_lettersOfPart {n i j m p : Nat} {w : Int32} (hB : BF Ln B) (hn : I (B + 3) 8 = nI n) (h15 : n ≤ 1500) (hi : i < n) (hm : I (B + 6) i = nI m) (hj : j < m) (hm12 : m ≤ 12) (h8 : I (B + 8) (12 * i + j) = nI p) (hp : p < n) (h7 : I (B + 7) p = w) : ACall (d + 3) 205 [.ref (B + 3), .int (nI i), .int (nI j)] (G0 Ln) I J K ↔ K (some (.int w)) (G0 Ln) I J := by
  rw [ACall_0 (L0 := [.ref (B + 3), .int (nI i), .int (nI j), nv]) (show mcs 205 = (0, 0) from rfl) (show entL 205 [.ref (B + 3), .int (nI i), .int (nI j)] = _ from rfl) rfl (Nat.le_of_ble_eq_true rfl)]
  simp (disch := omega) only [aw_aload_0 (pc2 := 1) D205_0 rfl, aw_iload_1 (pc2 := 2) D205_1 rfl, aw_iload_2 (pc2 := 3) D205_2 rfl, aw_iv2_0 (pc2 := 6) (o := 1) D205_3 rfl cT_1_78 rfl rfl, aw_istore_3 (pc2 := 7) D205_6 rfl, aw_aload_0 (pc2 := 8) D205_7 rfl, aw_iload_3 (pc2 := 9) D205_8 rfl, aw_iv1_0 (pc2 := 12) (o := 1) D205_9 rfl cT_1_59 rfl rfl, aw_if_eq (pc2 := 15) (t := 24) D205_12 (by decide) rfl, aw_aload_0 (pc2 := 16) D205_15 rfl, aw_getR (pc2 := 19) (ci := 1) (fk := 3) D205_16 rfl fT_1_21 rfl, aw_iload_3 (pc2 := 20) D205_19 rfl, aw_iaload (pc2 := 21) D205_20 rfl, aw_goto (t := 25) D205_21 (by decide), aw_iconst (pc2 := 25) (y := 0) D205_24 rfl (by decide), aw_iret D205_25 rfl, refV_s, refV_n, psh_s, psh_n, kil_i, kil_r, kil_n, kil_l, cat_i, cat_r, iOK_1, iOK_5, jOK_2, jOK_6, wOK_e, lOK_1, lOK_2, lOK_3, lOK_4, lOK_5, lOK_6, catS_0, catS_1, catS_2, catS_3, catS_4, and_self, true_and, and_true, true_or, or_true, false_or, or_false, not_true_eq_false, not_false_eq_true, if_true, if_false, ite_int, ite_int0, au_10, eq_self, decide_true, decide_false, Bool.true_and, Bool.false_and, au_in, au_le, au_lt, au_eq, au_lt0, au_ge0, au_le0, au_gt0, au_eq0, au_leT, au_leF, au_ltT, au_ltF, au_eqT, au_eqF, nI_clamp, nI_1, nI_add, pk_mul, au_sub1, au_subc, au_up2e, au_up2n, lit_of, hB.1.1, hB.1.2.1, hB.1.2.2.1, hB.1.2.2.2.1, hB.1.2.2.2.2.1, hB.1.2.2.2.2.2.1, hB.1.2.2.2.2.2.2.1, hB.1.2.2.2.2.2.2.2.1, hB.1.2.2.2.2.2.2.2.2.1, hB.1.2.2.2.2.2.2.2.2.2.1, hB.1.2.2.2.2.2.2.2.2.2.2.1, hB.1.2.2.2.2.2.2.2.2.2.2.2.1, hB.1.2.2.2.2.2.2.2.2.2.2.2.2.1, hB.1.2.2.2.2.2.2.2.2.2.2.2.2.2, hB.2.1, hB.2.2.1, hB.2.2.2.1, hB.2.2.2.2.1, hB.2.2.2.2.2.1, hB.2.2.2.2.2.2.1, hB.2.2.2.2.2.2.2.1, hB.2.2.2.2.2.2.2.2.1, hB.2.2.2.2.2.2.2.2.2.1, hB.2.2.2.2.2.2.2.2.2.2.1, hB.2.2.2.2.2.2.2.2.2.2.2.1, hB.2.2.2.2.2.2.2.2.2.2.2.2.1, hB.2.2.2.2.2.2.2.2.2.2.2.2.2, C_partAt hB hn h15 hi hm hj hm12, h8, C_hasNode hB hn h15, if_pos (show 0 ≤ nI p ∧ nI p < nI n from ⟨nI_pos' (by omega), nI_lt hp (by omega)⟩), h7]
theorem C_gather {n i : Nat} {s : Int} {ps : List Nat} {L : Nat → Nat} (hB : BF Ln B) (hn : I (B + 3) 8 = nI n) (h15 : n ≤ 1500) (hi : i < n) (h5 : I (B + 5) i = iI s) (hs1 : -12 ≤ s) (hs2 : s ≤ 12) (h6 : I (B + 6) i = nI ps.length) (hl : ps.length ≤ 12) (h8 : ∀ j, j < ps.length → I (B + 8) (12 * i + j) = nI (ps.getD j 0) ∧ ps.getD j 0 < n ∧ I (B + 7) (ps.getD j 0) = nI (L (ps.getD j 0))) : ACall (d + 4) 26 [.ref (B + 3), .int (nI i)] (G0 Ln) I J K ↔ K none (G0 Ln) (up2 I (B + 7) i (nI (ltP L ps (ownL s) ps.length))) J := by
  rw [ACall_0 (L0 := [.ref (B + 3), .int (nI i), nv, nv]) (show mcs 26 = (0, 0) from rfl) (show entL 26 [.ref (B + 3), .int (nI i)] = _ from rfl) rfl (Nat.le_of_ble_eq_true rfl)]
  obtain ⟨o1, -, -, o4⟩ := own_ok hs1 hs2
  simp (disch := omega) only [aw_aload_0 (pc2 := 1) D26_0 rfl, aw_getR (pc2 := 4) (ci := 1) (fk := 1) D26_1 rfl fT_1_15 rfl, aw_iload_1 (pc2 := 5) D26_4 rfl, aw_iaload (pc2 := 6) D26_5 rfl, aw_is1_3 (pc2 := 9) D26_6 rfl cT_1_67 rfl, aw_is1_3 (pc2 := 12) D26_9 rfl cT_1_71 rfl, aw_istore_2 (pc2 := 13) D26_12 rfl, aw_iconst (pc2 := 14) (y := 0) D26_13 rfl (by decide), aw_istore_3 (pc2 := 15) D26_14 rfl, refV_s, refV_n, psh_s, psh_n, kil_i, kil_r, kil_n, kil_l, cat_i, cat_r, iOK_1, iOK_5, jOK_2, jOK_6, wOK_e, lOK_1, lOK_2, lOK_3, lOK_4, lOK_5, lOK_6, catS_0, catS_1, catS_2, catS_3, catS_4, and_self, true_and, and_true, true_or, or_true, false_or, or_false, not_true_eq_false, not_false_eq_true, if_true, if_false, ite_int, ite_int0, au_10, eq_self, decide_true, decide_false, Bool.true_and, Bool.false_and, au_in, au_le, au_lt, au_eq, au_lt0, au_ge0, au_le0, au_gt0, au_eq0, au_leT, au_leF, au_ltT, au_ltF, au_eqT, au_eqF, nI_clamp, nI_1, nI_add, pk_mul, au_sub1, au_subc, au_up2e, au_up2n, lit_of, hB.1.1, hB.1.2.1, hB.1.2.2.1, hB.1.2.2.2.1, hB.1.2.2.2.2.1, hB.1.2.2.2.2.2.1, hB.1.2.2.2.2.2.2.1, hB.1.2.2.2.2.2.2.2.1, hB.1.2.2.2.2.2.2.2.2.1, hB.1.2.2.2.2.2.2.2.2.2.1, hB.1.2.2.2.2.2.2.2.2.2.2.1, hB.1.2.2.2.2.2.2.2.2.2.2.2.1, hB.1.2.2.2.2.2.2.2.2.2.2.2.2.1, hB.1.2.2.2.2.2.2.2.2.2.2.2.2.2, hB.2.1, hB.2.2.1, hB.2.2.2.1, hB.2.2.2.2.1, hB.2.2.2.2.2.1, hB.2.2.2.2.2.2.1, hB.2.2.2.2.2.2.2.1, hB.2.2.2.2.2.2.2.2.1, hB.2.2.2.2.2.2.2.2.2.1, hB.2.2.2.2.2.2.2.2.2.2.1, hB.2.2.2.2.2.2.2.2.2.2.2.1, hB.2.2.2.2.2.2.2.2.2.2.2.2.1, hB.2.2.2.2.2.2.2.2.2.2.2.2.2, h5, C_bitOf, C_lettersOf, o1]
  have key : ∀ m j, j + m = ps.length → (AW (d + 3) ((G0 Ln).1, (G0 Ln).2.1) K 26 15 [.ref (B + 3), .int (nI i), .int (nI (ltP L ps (ownL s) j)), .int (nI j)] [] (G0 Ln) I J ↔ K none (G0 Ln) (up2 I (B + 7) i (nI (ltP L ps (ownL s) ps.length))) J) := by
    intro m
    induction m with
    | zero =>
      intro j hj
      have e : j = ps.length := by omega
      subst e
      simp (disch := omega) only [aw_iload_3 (pc2 := 16) D26_15 rfl, aw_aload_0 (pc2 := 17) D26_16 rfl, aw_getR (pc2 := 20) (ci := 1) (fk := 2) D26_17 rfl fT_1_18 rfl, aw_iload_1 (pc2 := 21) D26_20 rfl, aw_iaload (pc2 := 22) D26_21 rfl, aw_icmp_ge (pc2 := 25) (t := 40) D26_22 (by decide) rfl, aw_aload_0 (pc2 := 41) D26_40 rfl, aw_getR (pc2 := 44) (ci := 1) (fk := 3) D26_41 rfl fT_1_21 rfl, aw_iload_1 (pc2 := 45) D26_44 rfl, aw_iload_2 (pc2 := 46) D26_45 rfl, aw_iastore (pc2 := 47) D26_46 rfl, aw_vret D26_47 rfl, refV_s, refV_n, psh_s, psh_n, kil_i, kil_r, kil_n, kil_l, cat_i, cat_r, iOK_1, iOK_5, jOK_2, jOK_6, wOK_e, lOK_1, lOK_2, lOK_3, lOK_4, lOK_5, lOK_6, catS_0, catS_1, catS_2, catS_3, catS_4, and_self, true_and, and_true, true_or, or_true, false_or, or_false, not_true_eq_false, not_false_eq_true, if_true, if_false, ite_int, ite_int0, au_10, eq_self, decide_true, decide_false, Bool.true_and, Bool.false_and, au_in, au_le, au_lt, au_eq, au_lt0, au_ge0, au_le0, au_gt0, au_eq0, au_leT, au_leF, au_ltT, au_ltF, au_eqT, au_eqF, nI_clamp, nI_1, nI_add, pk_mul, au_sub1, au_subc, au_up2e, au_up2n, lit_of, hB.1.1, hB.1.2.1, hB.1.2.2.1, hB.1.2.2.2.1, hB.1.2.2.2.2.1, hB.1.2.2.2.2.2.1, hB.1.2.2.2.2.2.2.1, hB.1.2.2.2.2.2.2.2.1, hB.1.2.2.2.2.2.2.2.2.1, hB.1.2.2.2.2.2.2.2.2.2.1, hB.1.2.2.2.2.2.2.2.2.2.2.1, hB.1.2.2.2.2.2.2.2.2.2.2.2.1, hB.1.2.2.2.2.2.2.2.2.2.2.2.2.1, hB.1.2.2.2.2.2.2.2.2.2.2.2.2.2, hB.2.1, hB.2.2.1, hB.2.2.2.1, hB.2.2.2.2.1, hB.2.2.2.2.2.1, hB.2.2.2.2.2.2.1, hB.2.2.2.2.2.2.2.1, hB.2.2.2.2.2.2.2.2.1, hB.2.2.2.2.2.2.2.2.2.1, hB.2.2.2.2.2.2.2.2.2.2.1, hB.2.2.2.2.2.2.2.2.2.2.2.1, hB.2.2.2.2.2.2.2.2.2.2.2.2.1, hB.2.2.2.2.2.2.2.2.2.2.2.2.2, h6]
    | succ m ih =>
      intro j hj
      obtain ⟨q1, q2, q3⟩ := h8 j (by omega)
      have ihj := ih (j + 1) (by omega)
      rw [ltP] at ihj
      rw [aw_iload_3 (pc2 := 16) D26_15 rfl]
      simp (disch := omega) only [aw_aload_0 (pc2 := 17) D26_16 rfl, aw_getR (pc2 := 20) (ci := 1) (fk := 2) D26_17 rfl fT_1_18 rfl, aw_iload_1 (pc2 := 21) D26_20 rfl, aw_iaload (pc2 := 22) D26_21 rfl, aw_icmp_ge (pc2 := 25) (t := 40) D26_22 (by decide) rfl, aw_iload_2 (pc2 := 26) D26_25 rfl, aw_aload_0 (pc2 := 27) D26_26 rfl, aw_iload_1 (pc2 := 28) D26_27 rfl, aw_iload_3 (pc2 := 29) D26_28 rfl, aw_iv2_0 (pc2 := 32) (o := 1) D26_29 rfl cT_1_74 rfl rfl, aw_ior (pc2 := 33) D26_32 rfl, aw_istore_2 (pc2 := 34) D26_33 rfl, aw_iinc_3 (pc2 := 37) (y := 1) D26_34 rfl (by decide), aw_goto (t := 15) D26_37 (by decide), refV_s, refV_n, psh_s, psh_n, kil_i, kil_r, kil_n, kil_l, cat_i, cat_r, iOK_1, iOK_5, jOK_2, jOK_6, wOK_e, lOK_1, lOK_2, lOK_3, lOK_4, lOK_5, lOK_6, catS_0, catS_1, catS_2, catS_3, catS_4, and_self, true_and, and_true, true_or, or_true, false_or, or_false, not_true_eq_false, not_false_eq_true, if_true, if_false, ite_int, ite_int0, au_10, eq_self, decide_true, decide_false, Bool.true_and, Bool.false_and, au_in, au_le, au_lt, au_eq, au_lt0, au_ge0, au_le0, au_gt0, au_eq0, au_leT, au_leF, au_ltT, au_ltF, au_eqT, au_eqF, nI_clamp, nI_1, nI_add, pk_mul, au_sub1, au_subc, au_up2e, au_up2n, lit_of, hB.1.1, hB.1.2.1, hB.1.2.2.1, hB.1.2.2.2.1, hB.1.2.2.2.2.1, hB.1.2.2.2.2.2.1, hB.1.2.2.2.2.2.2.1, hB.1.2.2.2.2.2.2.2.1, hB.1.2.2.2.2.2.2.2.2.1, hB.1.2.2.2.2.2.2.2.2.2.1, hB.1.2.2.2.2.2.2.2.2.2.2.1, hB.1.2.2.2.2.2.2.2.2.2.2.2.1, hB.1.2.2.2.2.2.2.2.2.2.2.2.2.1, hB.1.2.2.2.2.2.2.2.2.2.2.2.2.2, hB.2.1, hB.2.2.1, hB.2.2.2.1, hB.2.2.2.2.1, hB.2.2.2.2.2.1, hB.2.2.2.2.2.2.1, hB.2.2.2.2.2.2.2.1, hB.2.2.2.2.2.2.2.2.1, hB.2.2.2.2.2.2.2.2.2.1, hB.2.2.2.2.2.2.2.2.2.2.1, hB.2.2.2.2.2.2.2.2.2.2.2.1, hB.2.2.2.2.2.2.2.2.2.2.2.2.1, hB.2.2.2.2.2.2.2.2.2.2.2.2.2, h6, C_lettersOfPart hB hn h15 hi h6 (show j < ps.length by omega) hl q1 q2 q3, fa_or]
      exact ihj
  exact key ps.length 0 (by omega)
theorem C_bendPart {N i j v : Nat} {g : GR} (hB : BF Ln B) (hN : N ≤ 12) (hgo : grOK N g) (hg : CG B N g I J) (hi : i < g.1.length) (hj : j < (nodeAt g i).2.2.length) (hv : v < i) (hk : ∀ I', (∀ c, c ≠ B + 3 → c ≠ B + 7 → c ≠ B + 8 → I' c = I c) → CG B N (setPart g i j v) I' J → K none (G0 Ln) I' J) : ACall (d + 5) 25 [.ref (B + 3), .int (nI i), .int (nI j), .int (nI v)] (G0 Ln) I J K := by
  rw [ACall_0 (L0 := [.ref (B + 3), .int (nI i), .int (nI j), .int (nI v), nv]) (show mcs 25 = (0, 0) from rfl) (show entL 25 [.ref (B + 3), .int (nI i), .int (nI j), .int (nI v)] = _ from rfl) rfl (Nat.le_of_ble_eq_true rfl)]
  obtain ⟨g1, g2, g3, g4, -⟩ := id hg
  have h15 := hgo.2.1
  obtain ⟨n1, n2, n3, n4, n5⟩ := g4 i hi
  have hl12 := nd_len (node_ok hgo hi)
  simp (disch := omega) only [aw_aload_0 (pc2 := 1) D25_0 rfl, aw_iload_1 (pc2 := 2) D25_1 rfl, aw_iv1_0 (pc2 := 5) (o := 1) D25_2 rfl cT_1_59 rfl rfl, aw_if_eq (pc2 := 8) (t := 31) D25_5 (by decide) rfl, aw_iload_2 (pc2 := 9) D25_8 rfl, aw_if_lt (pc2 := 12) (t := 31) D25_9 (by decide) rfl, aw_iload_2 (pc2 := 13) D25_12 rfl, aw_aload_0 (pc2 := 14) D25_13 rfl, aw_getR (pc2 := 17) (ci := 1) (fk := 2) D25_14 rfl fT_1_18 rfl, aw_iload_1 (pc2 := 18) D25_17 rfl, aw_iaload (pc2 := 19) D25_18 rfl, aw_icmp_ge (pc2 := 22) (t := 31) D25_19 (by decide) rfl, aw_iload_3 (pc2 := 23) D25_22 rfl, aw_if_lt (pc2 := 26) (t := 31) D25_23 (by decide) rfl, aw_iload_3 (pc2 := 27) D25_26 rfl, aw_iload_1 (pc2 := 28) D25_27 rfl, aw_icmp_lt (pc2 := 31) (t := 32) D25_28 (by decide) rfl, aw_vret D25_31 rfl, aw_aload_0 (pc2 := 33) D25_32 rfl, aw_getR (pc2 := 36) (ci := 1) (fk := 4) D25_33 rfl fT_1_24 rfl, aw_iload_1 (pc2 := 37) D25_36 rfl, aw_bipush (pc2 := 39) (y := 12) D25_37 rfl (by decide), aw_imul (pc2 := 40) D25_39 rfl, aw_iload_2 (pc2 := 41) D25_40 rfl, aw_iadd (pc2 := 42) D25_41 rfl, aw_iload_3 (pc2 := 43) D25_42 rfl, aw_iastore (pc2 := 44) D25_43 rfl, aw_aload_0 (pc2 := 45) D25_44 rfl, aw_iconst (pc2 := 46) (y := 1) D25_45 rfl (by decide), aw_putZ (pc2 := 49) (ci := 1) (fk := 7) D25_46 rfl fT_1_38 rfl, aw_iload_1 (pc2 := 50) D25_49 rfl, aw_istore_4 (pc2 := 52) D25_50 rfl, lit_12, refV_s, refV_n, psh_s, psh_n, kil_i, kil_r, kil_n, kil_l, cat_i, cat_r, iOK_1, iOK_5, jOK_2, jOK_6, wOK_e, lOK_1, lOK_2, lOK_3, lOK_4, lOK_5, lOK_6, catS_0, catS_1, catS_2, catS_3, catS_4, and_self, true_and, and_true, true_or, or_true, false_or, or_false, not_true_eq_false, not_false_eq_true, if_true, if_false, ite_int, ite_int0, au_10, eq_self, decide_true, decide_false, Bool.true_and, Bool.false_and, au_in, au_le, au_lt, au_eq, au_lt0, au_ge0, au_le0, au_gt0, au_eq0, au_leT, au_leF, au_ltT, au_ltF, au_eqT, au_eqF, nI_clamp, nI_1, nI_add, pk_mul, au_sub1, au_subc, au_up2e, au_up2n, lit_of, C_hasNode hB g1 h15, hB.1.1, hB.1.2.1, hB.1.2.2.1, hB.1.2.2.2.1, hB.1.2.2.2.2.1, hB.1.2.2.2.2.2.1, hB.1.2.2.2.2.2.2.1, hB.1.2.2.2.2.2.2.2.1, hB.1.2.2.2.2.2.2.2.2.1, hB.1.2.2.2.2.2.2.2.2.2.1, hB.1.2.2.2.2.2.2.2.2.2.2.1, hB.1.2.2.2.2.2.2.2.2.2.2.2.1, hB.1.2.2.2.2.2.2.2.2.2.2.2.2.1, hB.1.2.2.2.2.2.2.2.2.2.2.2.2.2, hB.2.1, hB.2.2.1, hB.2.2.2.1, hB.2.2.2.2.1, hB.2.2.2.2.2.1, hB.2.2.2.2.2.2.1, hB.2.2.2.2.2.2.2.1, hB.2.2.2.2.2.2.2.2.1, hB.2.2.2.2.2.2.2.2.2.1, hB.2.2.2.2.2.2.2.2.2.2.1, hB.2.2.2.2.2.2.2.2.2.2.2.1, hB.2.2.2.2.2.2.2.2.2.2.2.2.1, hB.2.2.2.2.2.2.2.2.2.2.2.2.2, n3, show i * 12 + j = 12 * i + j by omega]
  have hgo' := set_ok (j := j) hgo hi hv
  have hnode := fun k => set_node (g := g) (i := i) (j := j) (v := v) (k := k) hi
  have key : ∀ m k I', k + m = g.1.length → i ≤ k → (∀ c, c ≠ B + 3 → c ≠ B + 7 → c ≠ B + 8 → I' c = I c) → (∀ z, z ≠ 7 → I' (B + 3) z = I (B + 3) z) → I' (B + 3) 7 = 1 → (∀ z, I' (B + 8) z = if z = 12 * i + j then nI v else I (B + 8) z) → (∀ z, z < k → I' (B + 7) z = nI (lts (setPart g i j v) z)) → AW (d + 4) ((G0 Ln).1, (G0 Ln).2.1) K 25 52 [.ref (B + 3), .int (nI i), .int (nI j), .int (nI v), .int (nI k)] [] (G0 Ln) I' J := by
    intro m
    induction m with
    | zero =>
      intro k I' hk2 hik ho o3 o37 o8 o7
      have e : k = g.1.length := by omega
      subst e
      simp (disch := omega) only [aw_iload_4 (pc2 := 54) D25_52 rfl, aw_aload_0 (pc2 := 55) D25_54 rfl, aw_getI (pc2 := 58) (ci := 1) (fk := 8) D25_55 rfl fT_1_42 rfl, aw_icmp_ge (pc2 := 61) (t := 73) D25_58 (by decide) rfl, aw_vret D25_73 rfl, lit_12, refV_s, refV_n, psh_s, psh_n, kil_i, kil_r, kil_n, kil_l, cat_i, cat_r, iOK_1, iOK_5, jOK_2, jOK_6, wOK_e, lOK_1, lOK_2, lOK_3, lOK_4, lOK_5, lOK_6, catS_0, catS_1, catS_2, catS_3, catS_4, and_self, true_and, and_true, true_or, or_true, false_or, or_false, not_true_eq_false, not_false_eq_true, if_true, if_false, ite_int, ite_int0, au_10, eq_self, decide_true, decide_false, Bool.true_and, Bool.false_and, au_in, au_le, au_lt, au_eq, au_lt0, au_ge0, au_le0, au_gt0, au_eq0, au_leT, au_leF, au_ltT, au_ltF, au_eqT, au_eqF, nI_clamp, nI_1, nI_add, pk_mul, au_sub1, au_subc, au_up2e, au_up2n, lit_of, hB.1.1, hB.1.2.1, hB.1.2.2.1, hB.1.2.2.2.1, hB.1.2.2.2.2.1, hB.1.2.2.2.2.2.1, hB.1.2.2.2.2.2.2.1, hB.1.2.2.2.2.2.2.2.1, hB.1.2.2.2.2.2.2.2.2.1, hB.1.2.2.2.2.2.2.2.2.2.1, hB.1.2.2.2.2.2.2.2.2.2.2.1, hB.1.2.2.2.2.2.2.2.2.2.2.2.1, hB.1.2.2.2.2.2.2.2.2.2.2.2.2.1, hB.1.2.2.2.2.2.2.2.2.2.2.2.2.2, hB.2.1, hB.2.2.1, hB.2.2.2.1, hB.2.2.2.2.1, hB.2.2.2.2.2.1, hB.2.2.2.2.2.2.1, hB.2.2.2.2.2.2.2.1, hB.2.2.2.2.2.2.2.2.1, hB.2.2.2.2.2.2.2.2.2.1, hB.2.2.2.2.2.2.2.2.2.2.1, hB.2.2.2.2.2.2.2.2.2.2.2.1, hB.2.2.2.2.2.2.2.2.2.2.2.2.1, hB.2.2.2.2.2.2.2.2.2.2.2.2.2, o3 8 (by omega), g1]
      refine hk I' ho ⟨?_, ?_, ?_, fun z hz => ?_, Or.inl o37⟩
      · rw [o3 8 (by omega), g1]
        exact congrArg nI List.length_set.symm
      · rw [o3 9 (by omega)]; exact g2
      · rw [o3 10 (by omega)]; exact g3
      · have hz : z < g.1.length := by
          have : (setPart g i j v).1.length = g.1.length := List.length_set
          omega
        obtain ⟨w1, w2, w3, w4, w5⟩ := g4 z hz
        rw [ho (B + 4) (by omega) (by omega) (by omega), ho (B + 5) (by omega) (by omega) (by omega), ho (B + 6) (by omega) (by omega) (by omega), o7 z hz, hnode z]
        by_cases e : z = i
        · subst e
          rw [if_pos rfl]
          refine ⟨w1, w2, ?_, rfl, fun q hq => ?_⟩
          · show _ = nI ((nodeAt g z).2.2.set j v).length
            rw [List.length_set]; exact w3
          · have hq : q < ((nodeAt g z).2.2.set j v).length := hq
            rw [List.length_set] at hq
            show _ = nI (((nodeAt g z).2.2.set j v).getD q 0)
            rw [o8, get_set hj]
            by_cases e2 : q = j
            · rw [if_pos (by omega), if_pos e2]
            · rw [if_neg (by omega), if_neg e2]; exact w5 q hq
        · rw [if_neg e]
          refine ⟨w1, w2, w3, rfl, fun q hq => ?_⟩
          have := nd_len (node_ok hgo hz)
          rw [o8, if_neg (by omega)]
          exact w5 q hq
    | succ m ih =>
      intro k I' hk2 hik ho o3 o37 o8 o7
      have hkl : k < g.1.length := by omega
      have hko : ndOK N k (nodeAt (setPart g i j v) k) := node_ok hgo' (by show k < (g.1.set i _).length; rw [List.length_set]; exact hkl)
      obtain ⟨w1, w2, w3, w4, w5⟩ := g4 k hkl
      have hkl12 := nd_len (node_ok hgo hkl)
      have hnm := nd_name hko hN
      have e5 : I' (B + 5) k = iI (nodeAt (setPart g i j v) k).2.1 := by
        rw [ho (B + 5) (by omega) (by omega) (by omega), w2, hnode k]
        by_cases e : k = i
        · subst e; rw [if_pos rfl]
        · rw [if_neg e]
      have e6 : I' (B + 6) k = nI (nodeAt (setPart g i j v) k).2.2.length := by
        rw [ho (B + 6) (by omega) (by omega) (by omega), w3, hnode k]
        by_cases e : k = i
        · subst e; rw [if_pos rfl]; exact congrArg nI List.length_set.symm
        · rw [if_neg e]
      have e8 : ∀ q, q < (nodeAt (setPart g i j v) k).2.2.length → I' (B + 8) (12 * k + q) = nI ((nodeAt (setPart g i j v) k).2.2.getD q 0) ∧ (nodeAt (setPart g i j v) k).2.2.getD q 0 < g.1.length ∧ I' (B + 7) ((nodeAt (setPart g i j v) k).2.2.getD q 0) = nI (lts (setPart g i j v) ((nodeAt (setPart g i j v) k).2.2.getD q 0)) := by
        intro q hq
        have hlt := nd_part hko hq
        refine ⟨?_, by omega, o7 _ hlt⟩
        rw [o8]
        rw [hnode k] at hq ⊢
        by_cases e : k = i
        · subst e
          rw [if_pos rfl] at hq ⊢
          have hq : q < ((nodeAt g k).2.2.set j v).length := hq
          rw [List.length_set] at hq
          show _ = nI (((nodeAt g k).2.2.set j v).getD q 0)
          rw [get_set hj]
          by_cases e2 : q = j
          · rw [if_pos (by omega), if_pos e2]
          · rw [if_neg (by omega), if_neg e2]; exact w5 q hq
        · rw [if_neg e] at hq ⊢
          rw [if_neg (by omega)]
          exact w5 q hq
      have ihn := ih (k + 1)
      have hl2 := nd_len hko
      rw [aw_iload_4 (pc2 := 54) D25_52 rfl]
      simp (disch := omega) only [aw_aload_0 (pc2 := 55) D25_54 rfl, aw_getI (pc2 := 58) (ci := 1) (fk := 8) D25_55 rfl fT_1_42 rfl, aw_icmp_ge (pc2 := 61) (t := 73) D25_58 (by decide) rfl, aw_aload_0 (pc2 := 62) D25_61 rfl, aw_iload_4 (pc2 := 64) D25_62 rfl, aw_iv1_0 (pc2 := 67) (o := 1) D25_64 rfl cT_1_63 rfl rfl, aw_iinc_4 (pc2 := 70) (y := 1) D25_67 rfl (by decide), aw_goto (t := 52) D25_70 (by decide), lit_12, refV_s, refV_n, psh_s, psh_n, kil_i, kil_r, kil_n, kil_l, cat_i, cat_r, iOK_1, iOK_5, jOK_2, jOK_6, wOK_e, lOK_1, lOK_2, lOK_3, lOK_4, lOK_5, lOK_6, catS_0, catS_1, catS_2, catS_3, catS_4, and_self, true_and, and_true, true_or, or_true, false_or, or_false, not_true_eq_false, not_false_eq_true, if_true, if_false, ite_int, ite_int0, au_10, eq_self, decide_true, decide_false, Bool.true_and, Bool.false_and, au_in, au_le, au_lt, au_eq, au_lt0, au_ge0, au_le0, au_gt0, au_eq0, au_leT, au_leF, au_ltT, au_ltF, au_eqT, au_eqF, nI_clamp, nI_1, nI_add, pk_mul, au_sub1, au_subc, au_up2e, au_up2n, lit_of, hB.1.1, hB.1.2.1, hB.1.2.2.1, hB.1.2.2.2.1, hB.1.2.2.2.2.1, hB.1.2.2.2.2.2.1, hB.1.2.2.2.2.2.2.1, hB.1.2.2.2.2.2.2.2.1, hB.1.2.2.2.2.2.2.2.2.1, hB.1.2.2.2.2.2.2.2.2.2.1, hB.1.2.2.2.2.2.2.2.2.2.2.1, hB.1.2.2.2.2.2.2.2.2.2.2.2.1, hB.1.2.2.2.2.2.2.2.2.2.2.2.2.1, hB.1.2.2.2.2.2.2.2.2.2.2.2.2.2, hB.2.1, hB.2.2.1, hB.2.2.2.1, hB.2.2.2.2.1, hB.2.2.2.2.2.1, hB.2.2.2.2.2.2.1, hB.2.2.2.2.2.2.2.1, hB.2.2.2.2.2.2.2.2.1, hB.2.2.2.2.2.2.2.2.2.1, hB.2.2.2.2.2.2.2.2.2.2.1, hB.2.2.2.2.2.2.2.2.2.2.2.1, hB.2.2.2.2.2.2.2.2.2.2.2.2.1, hB.2.2.2.2.2.2.2.2.2.2.2.2.2, o3 8 (by omega), g1, C_gather hB (show I' (B + 3) 8 = nI g.1.length by rw [o3 8 (by omega)]; exact g1) h15 hkl e5 hnm.1 hnm.2 e6 hl2 e8]
      refine ihn _ (by omega) (by omega) (fun c c1 c2 c3 => ?_) (fun z hz => ?_) ?_ (fun z => ?_) (fun z hz => ?_)
      · rw [au_up2c c2]; exact ho c c1 c2 c3
      · simp (disch := omega) only [au_up2n]; exact o3 z hz
      · simp (disch := omega) only [au_up2n]; exact o37
      · simp (disch := omega) only [au_up2n]; exact o8 z
      · by_cases e : z = k
        · simp (disch := omega) only [e, au_up2e]
          rw [ltP_fold, ← lts_step hko.1]
        · simp (disch := omega) only [au_up2n]; exact o7 z (by omega)
  refine key (g.1.length - i) i _ (by omega) (Nat.le_refl _) (fun c c1 c2 c3 => ?_) (fun z hz => ?_) ?_ (fun z => ?_) (fun z hz => ?_)
  · rw [au_up2c c1, au_up2c c3]
  · simp (disch := omega) only [au_up2n]
  · simp (disch := omega) only [au_up2e]
  · by_cases e : z = 12 * i + j
    · simp (disch := omega) only [e, au_up2e, au_up2n, if_true]
    · simp (disch := omega) only [au_up2n, e, if_false]
  · simp (disch := omega) only [au_up2n]
    rw [(g4 z (by omega)).2.2.2.1]
    exact congrArg nI (lts_cong (fun q hq => by rw [hnode q, if_neg (by omega)]))
theorem CO_bend {x k j o : Int32} (hs : sgOK σ) (h : CInv σ I J) (hk : CPost Ln I J K (oBend σ x k j o)) : ACall (d + 6) 88 [.ref 0, .int x, .int k, .int j, .int o] (G0 Ln) I J K := by
  rw [ACall_0 (L0 := [.ref 0, .int x, .int k, .int j, .int o, nv, nv]) (show mcs 88 = (0, 0) from rfl) (show entL 88 [.ref 0, .int x, .int k, .int j, .int o] = _ from rfl) rfl (Nat.le_of_ble_eq_true rfl)]
  unfold oBend at hk
  cases hx : bkOf x with
  | none =>
    simp only [hx] at hk
    obtain ⟨x0, x1⟩ := bkOf_none hx
    simp only [aw_aload_0 (pc2 := 1) D88_0 rfl, aw_aloadN_0 (pc2 := 1) D88_0 rfl, aw_iload_1 (pc2 := 2) D88_1 rfl, aw_iv1_0 (pc2 := 5) (o := 6) D88_2 rfl cT_6_55 rfl rfl, aw_astore_5 (pc2 := 7) D88_5 rfl, aw_astoreN_5 (pc2 := 7) D88_5 rfl, aw_aload_5 (pc2 := 9) D88_7 rfl, aw_aloadN_5 (pc2 := 9) D88_7 rfl, aw_ifnonnull (t := 19) D88_9 (by decide), aw_ifnonnullN (pc2 := 12) D88_9 rfl, aw_aload_0 (pc2 := 13) D88_12 rfl, aw_aloadN_0 (pc2 := 13) D88_12 rfl, aw_bipush (pc2 := 15) (y := -3) D88_13 rfl (by decide), aw_iv1_0 (pc2 := 18) (o := 6) D88_15 rfl cT_6_59 rfl rfl, aw_iret D88_18 rfl, sh_0, refV_s, refV_n, psh_s, psh_n, kil_i, kil_r, kil_n, kil_l, cat_i, cat_r, iOK_1, iOK_5, jOK_2, jOK_6, wOK_e, lOK_1, lOK_2, lOK_3, lOK_4, lOK_5, lOK_6, catS_0, catS_1, catS_2, catS_3, catS_4, and_self, true_and, and_true, true_or, or_true, false_or, or_false, not_true_eq_false, not_false_eq_true, if_true, if_false, ite_int, ite_int0, au_10, eq_self, decide_true, decide_false, Bool.true_and, Bool.false_and, C_bookAtN x0 x1, C_ref3]
    exact hk.ref h (by omega) (by omega)
  | some b =>
    simp only [hx] at hk
    obtain ⟨hb, rfl⟩ := bkOf_some hx
    have hB := bf (Ln := Ln) hb
    have hh := h.1 b hb
    have hN := (hs.1 b hb).2.1
    have hg := hh.2.2.2.2.2.2
    unfold CGo at hg
    cases e : (σ.1 b).g with
    | none =>
      rw [e] at hg
      simp only [e] at hk
      simp only [aw_aload_0 (pc2 := 1) D88_0 rfl, aw_aloadN_0 (pc2 := 1) D88_0 rfl, aw_iload_1 (pc2 := 2) D88_1 rfl, aw_iv1_0 (pc2 := 5) (o := 6) D88_2 rfl cT_6_55 rfl rfl, aw_astore_5 (pc2 := 7) D88_5 rfl, aw_astoreN_5 (pc2 := 7) D88_5 rfl, aw_aload_5 (pc2 := 9) D88_7 rfl, aw_aloadN_5 (pc2 := 9) D88_7 rfl, aw_ifnonnull (t := 19) D88_9 (by decide), aw_ifnonnullN (pc2 := 12) D88_9 rfl, aw_aload_0 (pc2 := 13) D88_12 rfl, aw_aloadN_0 (pc2 := 13) D88_12 rfl, aw_bipush (pc2 := 15) (y := -3) D88_13 rfl (by decide), aw_iv1_0 (pc2 := 18) (o := 6) D88_15 rfl cT_6_59 rfl rfl, aw_iret D88_18 rfl, aw_aload_5 (pc2 := 21) D88_19 rfl, aw_aloadN_5 (pc2 := 21) D88_19 rfl, aw_getI (pc2 := 24) (ci := 0) (fk := 8) D88_21 rfl fT_6_107 rfl, aw_if_ne (pc2 := 27) (t := 34) D88_24 (by decide) rfl, aw_aload_0 (pc2 := 28) D88_27 rfl, aw_aloadN_0 (pc2 := 28) D88_27 rfl, aw_bipush (pc2 := 30) (y := -2) D88_28 rfl (by decide), aw_iv1_0 (pc2 := 33) (o := 6) D88_30 rfl cT_6_59 rfl rfl, aw_iret D88_33 rfl, sh_0, refV_s, refV_n, psh_s, psh_n, kil_i, kil_r, kil_n, kil_l, cat_i, cat_r, iOK_1, iOK_5, jOK_2, jOK_6, wOK_e, lOK_1, lOK_2, lOK_3, lOK_4, lOK_5, lOK_6, catS_0, catS_1, catS_2, catS_3, catS_4, and_self, true_and, and_true, true_or, or_true, false_or, or_false, not_true_eq_false, not_false_eq_true, if_true, if_false, ite_int, ite_int0, au_10, eq_self, decide_true, decide_false, Bool.true_and, Bool.false_and, C_bookAt hb, C_ref2, hB.1.1, hg]
      exact hk.ref h (by omega) (by omega)
    | some g =>
      rw [e] at hg
      simp only [e] at hk
      have hgo := gr_get hs hb e
      have h15 := hgo.2.1
      by_cases hc : 0 ≤ k ∧ k < nI g.1.length
      · rw [if_pos hc] at hk
        obtain ⟨i, hi, rfl⟩ := ix_of (by omega) hc
        obtain ⟨n1, n2, n3, n4, n5⟩ := hg.2.2.2.2.1 i hi
        have hl12 := nd_len (node_ok hgo hi)
        rw [nI_clamp (by omega)] at hk
        simp (disch := omega) only [aw_aload_0 (pc2 := 1) D88_0 rfl, aw_aloadN_0 (pc2 := 1) D88_0 rfl, aw_iload_1 (pc2 := 2) D88_1 rfl, aw_iv1_0 (pc2 := 5) (o := 6) D88_2 rfl cT_6_55 rfl rfl, aw_astore_5 (pc2 := 7) D88_5 rfl, aw_astoreN_5 (pc2 := 7) D88_5 rfl, aw_aload_5 (pc2 := 9) D88_7 rfl, aw_aloadN_5 (pc2 := 9) D88_7 rfl, aw_ifnonnull (t := 19) D88_9 (by decide), aw_ifnonnullN (pc2 := 12) D88_9 rfl, aw_aload_0 (pc2 := 13) D88_12 rfl, aw_aloadN_0 (pc2 := 13) D88_12 rfl, aw_bipush (pc2 := 15) (y := -3) D88_13 rfl (by decide), aw_iv1_0 (pc2 := 18) (o := 6) D88_15 rfl cT_6_59 rfl rfl, aw_iret D88_18 rfl, aw_aload_5 (pc2 := 21) D88_19 rfl, aw_aloadN_5 (pc2 := 21) D88_19 rfl, aw_getI (pc2 := 24) (ci := 0) (fk := 8) D88_21 rfl fT_6_107 rfl, aw_if_ne (pc2 := 27) (t := 34) D88_24 (by decide) rfl, aw_aload_0 (pc2 := 28) D88_27 rfl, aw_aloadN_0 (pc2 := 28) D88_27 rfl, aw_bipush (pc2 := 30) (y := -2) D88_28 rfl (by decide), aw_iv1_0 (pc2 := 33) (o := 6) D88_30 rfl cT_6_59 rfl rfl, aw_iret D88_33 rfl, aw_aload_5 (pc2 := 36) D88_34 rfl, aw_aloadN_5 (pc2 := 36) D88_34 rfl, aw_getR (pc2 := 39) (ci := 0) (fk := 2) D88_36 rfl fT_6_120 rfl, aw_iload_2 (pc2 := 40) D88_39 rfl, aw_iv1_0 (pc2 := 43) (o := 1) D88_40 rfl cT_6_139 rfl rfl, aw_if_ne (pc2 := 46) (t := 53) D88_43 (by decide) rfl, aw_aload_0 (pc2 := 47) D88_46 rfl, aw_aloadN_0 (pc2 := 47) D88_46 rfl, aw_bipush (pc2 := 49) (y := -3) D88_47 rfl (by decide), aw_iv1_0 (pc2 := 52) (o := 6) D88_49 rfl cT_6_59 rfl rfl, aw_iret D88_52 rfl, aw_aload_5 (pc2 := 55) D88_53 rfl, aw_aloadN_5 (pc2 := 55) D88_53 rfl, aw_getR (pc2 := 58) (ci := 0) (fk := 2) D88_55 rfl fT_6_120 rfl, aw_getR (pc2 := 61) (ci := 1) (fk := 2) D88_58 rfl fT_6_148 rfl, aw_iload_2 (pc2 := 62) D88_61 rfl, aw_iaload (pc2 := 63) D88_62 rfl, aw_if_ne (pc2 := 66) (t := 73) D88_63 (by decide) rfl, sh_0, refV_s, refV_n, psh_s, psh_n, kil_i, kil_r, kil_n, kil_l, cat_i, cat_r, iOK_1, iOK_5, jOK_2, jOK_6, wOK_e, lOK_1, lOK_2, lOK_3, lOK_4, lOK_5, lOK_6, catS_0, catS_1, catS_2, catS_3, catS_4, and_self, true_and, and_true, true_or, or_true, false_or, or_false, not_true_eq_false, not_false_eq_true, if_true, if_false, ite_int, ite_int0, au_10, eq_self, decide_true, decide_false, Bool.true_and, Bool.false_and, C_bookAt hb, C_ref2, C_ref3, hB.1.1, hB.1.2.1, hB.1.2.2.1, hB.1.2.2.2.1, hB.1.2.2.2.2.1, hB.1.2.2.2.2.2.1, hB.1.2.2.2.2.2.2.1, hB.1.2.2.2.2.2.2.2.1, hB.1.2.2.2.2.2.2.2.2.1, hB.1.2.2.2.2.2.2.2.2.2.1, hB.1.2.2.2.2.2.2.2.2.2.2.1, hB.1.2.2.2.2.2.2.2.2.2.2.2.1, hB.1.2.2.2.2.2.2.2.2.2.2.2.2.1, hB.1.2.2.2.2.2.2.2.2.2.2.2.2.2, hB.2.1, hB.2.2.1, hB.2.2.2.1, hB.2.2.2.2.1, hB.2.2.2.2.2.1, hB.2.2.2.2.2.2.1, hB.2.2.2.2.2.2.2.1, hB.2.2.2.2.2.2.2.2.1, hB.2.2.2.2.2.2.2.2.2.1, hB.2.2.2.2.2.2.2.2.2.2.1, hB.2.2.2.2.2.2.2.2.2.2.2.1, hB.2.2.2.2.2.2.2.2.2.2.2.2.1, hB.2.2.2.2.2.2.2.2.2.2.2.2.2, hg.1, C_hasNode hB hg.2.1 h15, if_pos hc, au_in, nI_clamp, n3, au_eq0]
        by_cases hp : (nodeAt g i).2.2 = []
        · rw [if_pos hp] at hk
          simp only [aw_aload_0 (pc2 := 67) D88_66 rfl, aw_aloadN_0 (pc2 := 67) D88_66 rfl, aw_bipush (pc2 := 69) (y := -5) D88_67 rfl (by decide), aw_iv1_0 (pc2 := 72) (o := 6) D88_69 rfl cT_6_59 rfl rfl, aw_iret D88_72 rfl, sh_0, refV_s, refV_n, psh_s, psh_n, kil_i, kil_r, kil_n, kil_l, cat_i, cat_r, iOK_1, iOK_5, jOK_2, jOK_6, wOK_e, lOK_1, lOK_2, lOK_3, lOK_4, lOK_5, lOK_6, catS_0, catS_1, catS_2, catS_3, catS_4, and_self, true_and, and_true, true_or, or_true, false_or, or_false, not_true_eq_false, not_false_eq_true, if_true, if_false, ite_int, ite_int0, au_10, eq_self, decide_true, decide_false, Bool.true_and, Bool.false_and, C_ref5, hp, List.length_nil]
          exact hk.ref h (by omega) (by omega)
        · rw [if_neg hp] at hk
          have hpos := List.length_pos_iff.mpr hp
          rw [if_pos (by omega)]
          have rfs : ¬ ((0 ≤ j ∧ j < nI (nodeAt g i).2.2.length) ∧ (0 ≤ o ∧ o < nI i)) → K (some (.int (-3))) (G0 Ln) (up2 I 121 3 (I 121 3 + 1)) J := fun q => by
            rw [if_neg q] at hk
            exact hk.ref h (by omega) (by omega)
          rcases pk_ix j (n := (nodeAt g i).2.2.length) (by omega) with z | z | ⟨j, hj, rfl⟩
          · simp only [aw_iload_3 (pc2 := 74) D88_73 rfl, aw_if_lt (pc2 := 77) (t := 102) D88_74 (by decide) rfl, aw_iload_3 (pc2 := 78) D88_77 rfl, aw_aload_5 (pc2 := 80) D88_78 rfl, aw_aloadN_5 (pc2 := 80) D88_78 rfl, aw_getR (pc2 := 83) (ci := 0) (fk := 2) D88_80 rfl fT_6_120 rfl, aw_getR (pc2 := 86) (ci := 1) (fk := 2) D88_83 rfl fT_6_148 rfl, aw_iload_2 (pc2 := 87) D88_86 rfl, aw_iaload (pc2 := 88) D88_87 rfl, aw_icmp_ge (pc2 := 91) (t := 102) D88_88 (by decide) rfl, aw_iload_4 (pc2 := 93) D88_91 rfl, aw_if_lt (pc2 := 96) (t := 102) D88_93 (by decide) rfl, aw_iload_4 (pc2 := 98) D88_96 rfl, aw_iload_2 (pc2 := 99) D88_98 rfl, aw_icmp_lt (pc2 := 102) (t := 109) D88_99 (by decide) rfl, aw_aload_0 (pc2 := 103) D88_102 rfl, aw_aloadN_0 (pc2 := 103) D88_102 rfl, aw_bipush (pc2 := 105) (y := -3) D88_103 rfl (by decide), aw_iv1_0 (pc2 := 108) (o := 6) D88_105 rfl cT_6_59 rfl rfl, aw_iret D88_108 rfl, sh_0, refV_s, refV_n, psh_s, psh_n, kil_i, kil_r, kil_n, kil_l, cat_i, cat_r, iOK_1, iOK_5, jOK_2, jOK_6, wOK_e, lOK_1, lOK_2, lOK_3, lOK_4, lOK_5, lOK_6, catS_0, catS_1, catS_2, catS_3, catS_4, and_self, true_and, and_true, true_or, or_true, false_or, or_false, not_true_eq_false, not_false_eq_true, if_true, if_false, ite_int, ite_int0, au_10, eq_self, decide_true, decide_false, Bool.true_and, Bool.false_and, C_ref3, if_pos z]
            exact rfs (fun q => by have := q.1.1; rw [fa_lt] at z; rw [fa_le] at this; omega)
          · have z2 : ¬ j < nI (nodeAt g i).2.2.length := by rw [fa_le] at z; rw [fa_lt]; omega
            simp (disch := omega) only [aw_iload_3 (pc2 := 74) D88_73 rfl, aw_if_lt (pc2 := 77) (t := 102) D88_74 (by decide) rfl, aw_iload_3 (pc2 := 78) D88_77 rfl, aw_aload_5 (pc2 := 80) D88_78 rfl, aw_aloadN_5 (pc2 := 80) D88_78 rfl, aw_getR (pc2 := 83) (ci := 0) (fk := 2) D88_80 rfl fT_6_120 rfl, aw_getR (pc2 := 86) (ci := 1) (fk := 2) D88_83 rfl fT_6_148 rfl, aw_iload_2 (pc2 := 87) D88_86 rfl, aw_iaload (pc2 := 88) D88_87 rfl, aw_icmp_ge (pc2 := 91) (t := 102) D88_88 (by decide) rfl, aw_iload_4 (pc2 := 93) D88_91 rfl, aw_if_lt (pc2 := 96) (t := 102) D88_93 (by decide) rfl, aw_iload_4 (pc2 := 98) D88_96 rfl, aw_iload_2 (pc2 := 99) D88_98 rfl, aw_icmp_lt (pc2 := 102) (t := 109) D88_99 (by decide) rfl, aw_aload_0 (pc2 := 103) D88_102 rfl, aw_aloadN_0 (pc2 := 103) D88_102 rfl, aw_bipush (pc2 := 105) (y := -3) D88_103 rfl (by decide), aw_iv1_0 (pc2 := 108) (o := 6) D88_105 rfl cT_6_59 rfl rfl, aw_iret D88_108 rfl, sh_0, refV_s, refV_n, psh_s, psh_n, kil_i, kil_r, kil_n, kil_l, cat_i, cat_r, iOK_1, iOK_5, jOK_2, jOK_6, wOK_e, lOK_1, lOK_2, lOK_3, lOK_4, lOK_5, lOK_6, catS_0, catS_1, catS_2, catS_3, catS_4, and_self, true_and, and_true, true_or, or_true, false_or, or_false, not_true_eq_false, not_false_eq_true, if_true, if_false, ite_int, ite_int0, au_10, eq_self, decide_true, decide_false, Bool.true_and, Bool.false_and, C_ref3, hB.1.1, hB.1.2.1, hB.1.2.2.1, hB.1.2.2.2.1, hB.1.2.2.2.2.1, hB.1.2.2.2.2.2.1, hB.1.2.2.2.2.2.2.1, hB.1.2.2.2.2.2.2.2.1, hB.1.2.2.2.2.2.2.2.2.1, hB.1.2.2.2.2.2.2.2.2.2.1, hB.1.2.2.2.2.2.2.2.2.2.2.1, hB.1.2.2.2.2.2.2.2.2.2.2.2.1, hB.1.2.2.2.2.2.2.2.2.2.2.2.2.1, hB.1.2.2.2.2.2.2.2.2.2.2.2.2.2, hB.2.1, hB.2.2.1, hB.2.2.2.1, hB.2.2.2.2.1, hB.2.2.2.2.2.1, hB.2.2.2.2.2.2.1, hB.2.2.2.2.2.2.2.1, hB.2.2.2.2.2.2.2.2.1, hB.2.2.2.2.2.2.2.2.2.1, hB.2.2.2.2.2.2.2.2.2.2.1, hB.2.2.2.2.2.2.2.2.2.2.2.1, hB.2.2.2.2.2.2.2.2.2.2.2.2.1, hB.2.2.2.2.2.2.2.2.2.2.2.2.2, au_in, nI_clamp, n3, if_pos z, ite_self]
            exact rfs (fun q => z2 q.1.2)
          · have hj' : 0 ≤ nI j ∧ nI j < nI (nodeAt g i).2.2.length := ⟨nI_pos' (by omega), nI_lt hj (by omega)⟩
            simp (disch := omega) only [aw_iload_3 (pc2 := 74) D88_73 rfl, aw_if_lt (pc2 := 77) (t := 102) D88_74 (by decide) rfl, aw_iload_3 (pc2 := 78) D88_77 rfl, aw_aload_5 (pc2 := 80) D88_78 rfl, aw_aloadN_5 (pc2 := 80) D88_78 rfl, aw_getR (pc2 := 83) (ci := 0) (fk := 2) D88_80 rfl fT_6_120 rfl, aw_getR (pc2 := 86) (ci := 1) (fk := 2) D88_83 rfl fT_6_148 rfl, aw_iload_2 (pc2 := 87) D88_86 rfl, aw_iaload (pc2 := 88) D88_87 rfl, aw_icmp_ge (pc2 := 91) (t := 102) D88_88 (by decide) rfl, aw_iload_4 (pc2 := 93) D88_91 rfl, aw_if_lt (pc2 := 96) (t := 102) D88_93 (by decide) rfl, aw_iload_4 (pc2 := 98) D88_96 rfl, aw_iload_2 (pc2 := 99) D88_98 rfl, aw_icmp_lt (pc2 := 102) (t := 109) D88_99 (by decide) rfl, aw_aload_0 (pc2 := 103) D88_102 rfl, aw_aloadN_0 (pc2 := 103) D88_102 rfl, aw_bipush (pc2 := 105) (y := -3) D88_103 rfl (by decide), aw_iv1_0 (pc2 := 108) (o := 6) D88_105 rfl cT_6_59 rfl rfl, aw_iret D88_108 rfl, sh_0, refV_s, refV_n, psh_s, psh_n, kil_i, kil_r, kil_n, kil_l, cat_i, cat_r, iOK_1, iOK_5, jOK_2, jOK_6, wOK_e, lOK_1, lOK_2, lOK_3, lOK_4, lOK_5, lOK_6, catS_0, catS_1, catS_2, catS_3, catS_4, and_self, true_and, and_true, true_or, or_true, false_or, or_false, not_true_eq_false, not_false_eq_true, if_true, if_false, ite_int, ite_int0, au_10, eq_self, decide_true, decide_false, Bool.true_and, Bool.false_and, au_in, au_le, au_lt, au_eq, au_lt0, au_ge0, au_le0, au_gt0, au_eq0, au_leT, au_leF, au_ltT, au_ltF, au_eqT, au_eqF, nI_clamp, nI_1, nI_add, pk_mul, au_sub1, au_subc, au_up2e, au_up2n, lit_of, C_ref3, hB.1.1, hB.1.2.1, hB.1.2.2.1, hB.1.2.2.2.1, hB.1.2.2.2.2.1, hB.1.2.2.2.2.2.1, hB.1.2.2.2.2.2.2.1, hB.1.2.2.2.2.2.2.2.1, hB.1.2.2.2.2.2.2.2.2.1, hB.1.2.2.2.2.2.2.2.2.2.1, hB.1.2.2.2.2.2.2.2.2.2.2.1, hB.1.2.2.2.2.2.2.2.2.2.2.2.1, hB.1.2.2.2.2.2.2.2.2.2.2.2.2.1, hB.1.2.2.2.2.2.2.2.2.2.2.2.2.2, hB.2.1, hB.2.2.1, hB.2.2.2.1, hB.2.2.2.2.1, hB.2.2.2.2.2.1, hB.2.2.2.2.2.2.1, hB.2.2.2.2.2.2.2.1, hB.2.2.2.2.2.2.2.2.1, hB.2.2.2.2.2.2.2.2.2.1, hB.2.2.2.2.2.2.2.2.2.2.1, hB.2.2.2.2.2.2.2.2.2.2.2.1, hB.2.2.2.2.2.2.2.2.2.2.2.2.1, hB.2.2.2.2.2.2.2.2.2.2.2.2.2, n3]
            rcases pk_ix o (n := i) (by omega) with z | z | ⟨v, hv, rfl⟩
            · rw [if_pos z]
              exact rfs (fun q => by have := q.2.1; rw [fa_lt] at z; rw [fa_le] at this; omega)
            · have z2 : ¬ o < nI i := by rw [fa_le] at z; rw [fa_lt]; omega
              rw [if_neg z2, ite_self]
              exact rfs (fun q => z2 q.2.2)
            · rw [if_pos ⟨hj', nI_pos' (by omega), nI_lt hv (by omega)⟩, nI_clamp (by omega), nI_clamp (by omega)] at hk
              rw [if_neg (nI_pos (by omega)), if_pos (nI_lt hv (by omega))]
              simp (disch := omega) only [aw_aload_5 (pc2 := 111) D88_109 rfl, aw_aloadN_5 (pc2 := 111) D88_109 rfl, aw_getR (pc2 := 114) (ci := 0) (fk := 2) D88_111 rfl fT_6_120 rfl, aw_iload_2 (pc2 := 115) D88_114 rfl, aw_iload_3 (pc2 := 116) D88_115 rfl, aw_iv2_0 (pc2 := 119) (o := 1) D88_116 rfl cT_6_154 rfl rfl, aw_istore_6 (pc2 := 121) D88_119 rfl, aw_aload_5 (pc2 := 123) D88_121 rfl, aw_aloadN_5 (pc2 := 123) D88_121 rfl, aw_getR (pc2 := 126) (ci := 0) (fk := 2) D88_123 rfl fT_6_120 rfl, aw_iload_2 (pc2 := 127) D88_126 rfl, aw_iload_3 (pc2 := 128) D88_127 rfl, aw_iload_4 (pc2 := 130) D88_128 rfl, aw_iv3_0 (pc2 := 133) (o := 1) D88_130 rfl cT_6_158 rfl rfl, sh_0, refV_s, refV_n, psh_s, psh_n, kil_i, kil_r, kil_n, kil_l, cat_i, cat_r, iOK_1, iOK_5, jOK_2, jOK_6, wOK_e, lOK_1, lOK_2, lOK_3, lOK_4, lOK_5, lOK_6, catS_0, catS_1, catS_2, catS_3, catS_4, and_self, true_and, and_true, true_or, or_true, false_or, or_false, not_true_eq_false, not_false_eq_true, if_true, if_false, ite_int, ite_int0, au_10, eq_self, decide_true, decide_false, Bool.true_and, Bool.false_and, au_in, au_le, au_lt, au_eq, au_lt0, au_ge0, au_le0, au_gt0, au_eq0, au_leT, au_leF, au_ltT, au_ltF, au_eqT, au_eqF, nI_clamp, nI_1, nI_add, pk_mul, au_sub1, au_subc, au_up2e, au_up2n, lit_of, hB.1.1, hB.1.2.1, hB.1.2.2.1, hB.1.2.2.2.1, hB.1.2.2.2.2.1, hB.1.2.2.2.2.2.1, hB.1.2.2.2.2.2.2.1, hB.1.2.2.2.2.2.2.2.1, hB.1.2.2.2.2.2.2.2.2.1, hB.1.2.2.2.2.2.2.2.2.2.1, hB.1.2.2.2.2.2.2.2.2.2.2.1, hB.1.2.2.2.2.2.2.2.2.2.2.2.1, hB.1.2.2.2.2.2.2.2.2.2.2.2.2.1, hB.1.2.2.2.2.2.2.2.2.2.2.2.2.2, hB.2.1, hB.2.2.1, hB.2.2.2.1, hB.2.2.2.2.1, hB.2.2.2.2.2.1, hB.2.2.2.2.2.2.1, hB.2.2.2.2.2.2.2.1, hB.2.2.2.2.2.2.2.2.1, hB.2.2.2.2.2.2.2.2.2.1, hB.2.2.2.2.2.2.2.2.2.2.1, hB.2.2.2.2.2.2.2.2.2.2.2.1, hB.2.2.2.2.2.2.2.2.2.2.2.2.1, hB.2.2.2.2.2.2.2.2.2.2.2.2.2, n3, C_partAt hB hg.2.1 h15 hi n3 hj hl12, n5 j hj]
              refine C_bendPart hB hN hgo hg.2 hi hj hv (fun I' ho hcg => ?_)
              simp only [aw_iload_6 (pc2 := 135) D88_133 rfl, aw_iret D88_135 rfl, sh_0, refV_s, refV_n, psh_s, psh_n, kil_i, kil_r, kil_n, kil_l, cat_i, cat_r, iOK_1, iOK_5, jOK_2, jOK_6, wOK_e, lOK_1, lOK_2, lOK_3, lOK_4, lOK_5, lOK_6, catS_0, catS_1, catS_2, catS_3, catS_4, and_self, true_and, and_true, true_or, or_true, false_or, or_false, not_true_eq_false, not_false_eq_true, if_true, if_false, ite_int, ite_int0, au_10, eq_self, decide_true, decide_false, Bool.true_and, Bool.false_and]
              refine hk _ _ (h.setB hb ⟨?_, ?_, fun q hq => ?_, ?_, ?_, fun p hp => ?_, ?_⟩ (fun c hc2 => ho c (by omega) (by omega) (by omega))) (fun c hc2 => ?_) FrC.rf
              · rw [ho _ (by omega) (by omega) (by omega)]; exact hh.1
              · rw [ho _ (by omega) (by omega) (by omega)]; exact hh.2.1
              · rw [ho _ (by omega) (by omega) (by omega)]; exact hh.2.2.1 q hq
              · rw [ho _ (by omega) (by omega) (by omega)]; exact hh.2.2.2.1
              · rw [ho _ (by omega) (by omega) (by omega)]; exact hh.2.2.2.2.1
              · rw [ho _ (by omega) (by omega) (by omega)]; exact hh.2.2.2.2.2.1 p hp
              · exact ⟨by rw [ho _ (by omega) (by omega) (by omega)]; exact hg.1, hcg⟩
              · have : bkc b < 108 := by unfold bkc; omega
                exact ho c (by omega) (by omega) (by omega)
      · rw [if_neg hc] at hk
        simp only [aw_aload_0 (pc2 := 1) D88_0 rfl, aw_aloadN_0 (pc2 := 1) D88_0 rfl, aw_iload_1 (pc2 := 2) D88_1 rfl, aw_iv1_0 (pc2 := 5) (o := 6) D88_2 rfl cT_6_55 rfl rfl, aw_astore_5 (pc2 := 7) D88_5 rfl, aw_astoreN_5 (pc2 := 7) D88_5 rfl, aw_aload_5 (pc2 := 9) D88_7 rfl, aw_aloadN_5 (pc2 := 9) D88_7 rfl, aw_ifnonnull (t := 19) D88_9 (by decide), aw_ifnonnullN (pc2 := 12) D88_9 rfl, aw_aload_0 (pc2 := 13) D88_12 rfl, aw_aloadN_0 (pc2 := 13) D88_12 rfl, aw_bipush (pc2 := 15) (y := -3) D88_13 rfl (by decide), aw_iv1_0 (pc2 := 18) (o := 6) D88_15 rfl cT_6_59 rfl rfl, aw_iret D88_18 rfl, aw_aload_5 (pc2 := 21) D88_19 rfl, aw_aloadN_5 (pc2 := 21) D88_19 rfl, aw_getI (pc2 := 24) (ci := 0) (fk := 8) D88_21 rfl fT_6_107 rfl, aw_if_ne (pc2 := 27) (t := 34) D88_24 (by decide) rfl, aw_aload_0 (pc2 := 28) D88_27 rfl, aw_aloadN_0 (pc2 := 28) D88_27 rfl, aw_bipush (pc2 := 30) (y := -2) D88_28 rfl (by decide), aw_iv1_0 (pc2 := 33) (o := 6) D88_30 rfl cT_6_59 rfl rfl, aw_iret D88_33 rfl, aw_aload_5 (pc2 := 36) D88_34 rfl, aw_aloadN_5 (pc2 := 36) D88_34 rfl, aw_getR (pc2 := 39) (ci := 0) (fk := 2) D88_36 rfl fT_6_120 rfl, aw_iload_2 (pc2 := 40) D88_39 rfl, aw_iv1_0 (pc2 := 43) (o := 1) D88_40 rfl cT_6_139 rfl rfl, aw_if_ne (pc2 := 46) (t := 53) D88_43 (by decide) rfl, aw_aload_0 (pc2 := 47) D88_46 rfl, aw_aloadN_0 (pc2 := 47) D88_46 rfl, aw_bipush (pc2 := 49) (y := -3) D88_47 rfl (by decide), aw_iv1_0 (pc2 := 52) (o := 6) D88_49 rfl cT_6_59 rfl rfl, aw_iret D88_52 rfl, sh_0, refV_s, refV_n, psh_s, psh_n, kil_i, kil_r, kil_n, kil_l, cat_i, cat_r, iOK_1, iOK_5, jOK_2, jOK_6, wOK_e, lOK_1, lOK_2, lOK_3, lOK_4, lOK_5, lOK_6, catS_0, catS_1, catS_2, catS_3, catS_4, and_self, true_and, and_true, true_or, or_true, false_or, or_false, not_true_eq_false, not_false_eq_true, if_true, if_false, ite_int, ite_int0, au_10, eq_self, decide_true, decide_false, Bool.true_and, Bool.false_and, C_bookAt hb, C_ref2, C_ref3, hB.1.1, hB.1.2.1, hB.1.2.2.1, hB.1.2.2.2.1, hB.1.2.2.2.2.1, hB.1.2.2.2.2.2.1, hB.1.2.2.2.2.2.2.1, hB.1.2.2.2.2.2.2.2.1, hB.1.2.2.2.2.2.2.2.2.1, hB.1.2.2.2.2.2.2.2.2.2.1, hB.1.2.2.2.2.2.2.2.2.2.2.1, hB.1.2.2.2.2.2.2.2.2.2.2.2.1, hB.1.2.2.2.2.2.2.2.2.2.2.2.2.1, hB.1.2.2.2.2.2.2.2.2.2.2.2.2.2, hB.2.1, hB.2.2.1, hB.2.2.2.1, hB.2.2.2.2.1, hB.2.2.2.2.2.1, hB.2.2.2.2.2.2.1, hB.2.2.2.2.2.2.2.1, hB.2.2.2.2.2.2.2.2.1, hB.2.2.2.2.2.2.2.2.2.1, hB.2.2.2.2.2.2.2.2.2.2.1, hB.2.2.2.2.2.2.2.2.2.2.2.1, hB.2.2.2.2.2.2.2.2.2.2.2.2.1, hB.2.2.2.2.2.2.2.2.2.2.2.2.2, hg.1, C_hasNode hB hg.2.1 h15, if_neg hc]
        exact hk.ref h (by omega) (by omega)
end Bend
