/-! a list's node, in the class -/
theorem nds_12 {N : Nat} {nds : List (Nat × Int × List Nat)} (h : ndsOK N nds) : ∀ i, i < nds.length → (nodeAt (gN nds) i).2.2.length ≤ 12 := by
  intro i hi
  have e : nodeAt (gN nds) i = nds[i] := by
    show nds.getD i (0, 0, []) = nds[i]
    rw [List.getD_eq_getElem?_getD, List.getElem?_eq_getElem hi]
    rfl
  rw [e]
  obtain ⟨-, h | h | h | h⟩ := h i nds[i] (List.getElem?_eq_getElem hi)
  · rw [h.2.2]; simp
  · rw [h.2.2.2.2]; simp
  · exact h.2.2.2
  · rw [h.2.2.2]; omega
def frN (B q : Nat) (I I' : IT) : Prop := (∀ a, a ≠ 38 → a ≠ q + 4 → (a < B + 3 ∨ B + 8 < a) → I' a = I a) ∧ ∀ k, k ≠ 8 → k ≠ 11 → I' (B + 3) k = I (B + 3) k
theorem frN.rf {B q : Nat} {I : IT} : frN B q I I := ⟨fun _ _ _ _ => rfl, fun _ _ _ => rfl⟩
theorem frN.tr {B q : Nat} {I I' I'' : IT} (h : frN B q I I') (g : frN B q I' I'') : frN B q I I'' := ⟨fun a a1 a2 a3 => (g.1 a a1 a2 a3).trans (h.1 a a1 a2 a3), fun k k1 k2 => (g.2 k k1 k2).trans (h.2 k k1 k2)⟩
theorem frN.gr {B q : Nat} {I I' : IT} (h : frG B I I') : frN B q I I' := ⟨fun a _ _ a3 => h.1 a (by omega) (by omega) (by omega) (by omega) (by omega) (by omega), fun k k1 k3 => h.2 k k1 k3⟩
theorem au_eq1 {a : Nat} (ha : a < 2 ^ 31) : (nI a = 1) = (a = 1) := by
  exact au_eq (b := 1) ha (by decide)
theorem vp_0 {m : Nat} (h : 0 < m) (h2 : m < 2 ^ 31) : vp_in 0 m ↔ True := au_in (n := 0) h h2
theorem nc_0 : Int32.toNatClampNeg 0 = 0 := rfl
section NodeL
variable {d Ln B q : Nat} {I : IT} {J : JT} {K : KT}
theorem C_nodeRestS {T M : Nat} {v3 v4 : Value} (hq : LF Ln q) (hB : BF Ln B) (hBl : B + 13 < 29) (hT : T ≤ 12) (hM : M ≤ 12) (h7 : I q 7 = nI T) (h8 : I q 8 = nI M) (h : spt B I) (hK : ∀ v I', frN B q I I' → spt B I' → K (some (.int v)) (G0 Ln) I' J) : AW (d + 2) ((G0 Ln).1, (G0 Ln).2.1) K 53 91 [.ref 29, .ref (B + 3), .ref q, v3, v4] [.int (-1)] (G0 Ln) I J := by
  have hq1 := hq.1.1
  have hq2 := hq.1.2
  simp (disch := omega) only [aw_istore_3 (pc2 := 92) D53_91 rfl, aw_iconst (pc2 := 93) (y := 0) D53_92 rfl (by decide), aw_istore_4 (pc2 := 95) D53_93 rfl, refV_s, refV_n, psh_s, psh_n, kil_i, kil_r, kil_n, kil_l, cat_i, cat_r, iOK_1, iOK_5, jOK_2, jOK_6, wOK_e, lOK_1, lOK_2, lOK_3, lOK_4, lOK_5, lOK_6, catS_0, catS_1, catS_2, catS_3, catS_4, and_self, true_and, and_true, true_or, or_true, false_or, or_false, not_true_eq_false, not_false_eq_true, if_true, if_false, ite_int, ite_int0, au_10, eq_self, decide_true, decide_false, Bool.true_and, Bool.false_and, au_in, au_le, au_lt, au_eq, au_lt0, au_ge0, au_le0, au_gt0, au_eq0, au_leT, au_leF, au_ltT, au_ltF, au_eqT, au_eqF, nI_clamp, nI_1, nI_add, pk_mul, au_sub1, au_subc, au_up2e, au_up2n, lit_of, psh]
  have h8s : I (B + 3) 8 = nI 1500 := h.2
  have key2 : ∀ n i, i + n = M → AW (d + 2) ((G0 Ln).1, (G0 Ln).2.1) K 53 125 [.ref 29, .ref (B + 3), .ref q, .int (-1), .int (nI i)] [] (G0 Ln) I J := by
    intro n
    induction n with
    | zero =>
      intro i hi
      have e : i = M := by omega
      subst e
      simp (disch := omega) only [aw_iload_4 (pc2 := 127) D53_125 rfl, aw_aload_2 (pc2 := 128) D53_127 rfl, aw_getI (pc2 := 131) (ci := 2) (fk := 8) D53_128 rfl fT_3_136 rfl, aw_icmp_ge (pc2 := 134) (t := 152) D53_131 (by decide) rfl, aw_iload_3 (pc2 := 153) D53_152 rfl, aw_iret D53_153 rfl, refV_s, refV_n, psh_s, psh_n, kil_i, kil_r, kil_n, kil_l, cat_i, cat_r, iOK_1, iOK_5, jOK_2, jOK_6, wOK_e, lOK_1, lOK_2, lOK_3, lOK_4, lOK_5, lOK_6, catS_0, catS_1, catS_2, catS_3, catS_4, and_self, true_and, and_true, true_or, or_true, false_or, or_false, not_true_eq_false, not_false_eq_true, if_true, if_false, ite_int, ite_int0, au_10, eq_self, decide_true, decide_false, Bool.true_and, Bool.false_and, au_in, au_le, au_lt, au_eq, au_lt0, au_ge0, au_le0, au_gt0, au_eq0, au_leT, au_leF, au_ltT, au_ltF, au_eqT, au_eqF, nI_clamp, nI_1, nI_add, pk_mul, au_sub1, au_subc, au_up2e, au_up2n, lit_of, hq.2.1.1, hq.2.1.2.1, hq.2.1.2.2.1, hq.2.1.2.2.2.1, hq.2.1.2.2.2.2.1, hq.2.1.2.2.2.2.2, hq.2.2.1, hq.2.2.2.1, hq.2.2.2.2.1, hq.2.2.2.2.2.1, hq.2.2.2.2.2.2, h8]
      exact hK _ I frN.rf h
    | succ n ih =>
      intro i hi
      have ihn := ih (i + 1)
      rw [aw_iload_4 (pc2 := 127) D53_125 rfl]
      simp (disch := omega) only [aw_aload_2 (pc2 := 128) D53_127 rfl, aw_getI (pc2 := 131) (ci := 2) (fk := 8) D53_128 rfl fT_3_136 rfl, aw_icmp_ge (pc2 := 134) (t := 152) D53_131 (by decide) rfl, aw_aload_1 (pc2 := 135) D53_134 rfl, aw_iload_3 (pc2 := 136) D53_135 rfl, aw_aload_2 (pc2 := 137) D53_136 rfl, aw_getR (pc2 := 140) (ci := 2) (fk := 4) D53_137 rfl fT_3_139 rfl, aw_iload_4 (pc2 := 142) D53_140 rfl, aw_iaload (pc2 := 143) D53_142 rfl, aw_iv2_0 (pc2 := 146) (o := 1) D53_143 rfl cT_3_119 rfl rfl, aw_iinc_4 (pc2 := 149) (y := 1) D53_146 rfl (by decide), aw_goto (t := 125) D53_149 (by decide), refV_s, refV_n, psh_s, psh_n, kil_i, kil_r, kil_n, kil_l, cat_i, cat_r, iOK_1, iOK_5, jOK_2, jOK_6, wOK_e, lOK_1, lOK_2, lOK_3, lOK_4, lOK_5, lOK_6, catS_0, catS_1, catS_2, catS_3, catS_4, and_self, true_and, and_true, true_or, or_true, false_or, or_false, not_true_eq_false, not_false_eq_true, if_true, if_false, ite_int, ite_int0, au_10, eq_self, decide_true, decide_false, Bool.true_and, Bool.false_and, au_in, au_le, au_lt, au_eq, au_lt0, au_ge0, au_le0, au_gt0, au_eq0, au_leT, au_leF, au_ltT, au_ltF, au_eqT, au_eqF, nI_clamp, nI_1, nI_add, pk_mul, au_sub1, au_subc, au_up2e, au_up2n, lit_of, au_eq1, vp_0, nc_0, hq.2.1.1, hq.2.1.2.1, hq.2.1.2.2.1, hq.2.1.2.2.2.1, hq.2.1.2.2.2.2.1, hq.2.1.2.2.2.2.2, hq.2.2.1, hq.2.2.2.1, hq.2.2.2.2.1, hq.2.2.2.2.2.1, hq.2.2.2.2.2.2, hB.1.1, hB.1.2.1, hB.1.2.2.1, hB.1.2.2.2.1, hB.1.2.2.2.2.1, hB.1.2.2.2.2.2.1, hB.1.2.2.2.2.2.2.1, hB.1.2.2.2.2.2.2.2.1, hB.1.2.2.2.2.2.2.2.2.1, hB.1.2.2.2.2.2.2.2.2.2.1, hB.1.2.2.2.2.2.2.2.2.2.2.1, hB.1.2.2.2.2.2.2.2.2.2.2.2.1, hB.1.2.2.2.2.2.2.2.2.2.2.2.2.1, hB.1.2.2.2.2.2.2.2.2.2.2.2.2.2, hB.2.1, hB.2.2.1, hB.2.2.2.1, hB.2.2.2.2.1, hB.2.2.2.2.2.1, hB.2.2.2.2.2.2.1, hB.2.2.2.2.2.2.2.1, hB.2.2.2.2.2.2.2.2.1, hB.2.2.2.2.2.2.2.2.2.1, hB.2.2.2.2.2.2.2.2.2.2.1, hB.2.2.2.2.2.2.2.2.2.2.2.1, hB.2.2.2.2.2.2.2.2.2.2.2.2.1, hB.2.2.2.2.2.2.2.2.2.2.2.2.2, h8]
      rw [C_addPartN hB h8s (Nat.le_refl _)]
      simp (disch := omega) only [psh]
      exact ihn (by omega)
  have key1 : ∀ n i, i + n = T → AW (d + 2) ((G0 Ln).1, (G0 Ln).2.1) K 53 95 [.ref 29, .ref (B + 3), .ref q, .int (-1), .int (nI i)] [] (G0 Ln) I J := by
    intro n
    induction n with
    | zero =>
      intro i hi
      have e : i = T := by omega
      subst e
      simp (disch := omega) only [aw_iload_4 (pc2 := 97) D53_95 rfl, aw_aload_2 (pc2 := 98) D53_97 rfl, aw_getI (pc2 := 101) (ci := 2) (fk := 7) D53_98 rfl fT_3_127 rfl, aw_icmp_ge (pc2 := 104) (t := 122) D53_101 (by decide) rfl, aw_iconst (pc2 := 123) (y := 0) D53_122 rfl (by decide), aw_istore_4 (pc2 := 125) D53_123 rfl, refV_s, refV_n, psh_s, psh_n, kil_i, kil_r, kil_n, kil_l, cat_i, cat_r, iOK_1, iOK_5, jOK_2, jOK_6, wOK_e, lOK_1, lOK_2, lOK_3, lOK_4, lOK_5, lOK_6, catS_0, catS_1, catS_2, catS_3, catS_4, and_self, true_and, and_true, true_or, or_true, false_or, or_false, not_true_eq_false, not_false_eq_true, if_true, if_false, ite_int, ite_int0, au_10, eq_self, decide_true, decide_false, Bool.true_and, Bool.false_and, au_in, au_le, au_lt, au_eq, au_lt0, au_ge0, au_le0, au_gt0, au_eq0, au_leT, au_leF, au_ltT, au_ltF, au_eqT, au_eqF, nI_clamp, nI_1, nI_add, pk_mul, au_sub1, au_subc, au_up2e, au_up2n, lit_of, hq.2.1.1, hq.2.1.2.1, hq.2.1.2.2.1, hq.2.1.2.2.2.1, hq.2.1.2.2.2.2.1, hq.2.1.2.2.2.2.2, hq.2.2.1, hq.2.2.2.1, hq.2.2.2.2.1, hq.2.2.2.2.2.1, hq.2.2.2.2.2.2, h7]
      exact key2 M 0 (by omega)
    | succ n ih =>
      intro i hi
      have ihn := ih (i + 1)
      rw [aw_iload_4 (pc2 := 97) D53_95 rfl]
      simp (disch := omega) only [aw_aload_2 (pc2 := 98) D53_97 rfl, aw_getI (pc2 := 101) (ci := 2) (fk := 7) D53_98 rfl fT_3_127 rfl, aw_icmp_ge (pc2 := 104) (t := 122) D53_101 (by decide) rfl, aw_aload_1 (pc2 := 105) D53_104 rfl, aw_iload_3 (pc2 := 106) D53_105 rfl, aw_aload_2 (pc2 := 107) D53_106 rfl, aw_getR (pc2 := 110) (ci := 2) (fk := 3) D53_107 rfl fT_3_130 rfl, aw_iload_4 (pc2 := 112) D53_110 rfl, aw_iaload (pc2 := 113) D53_112 rfl, aw_iv2_0 (pc2 := 116) (o := 1) D53_113 rfl cT_3_119 rfl rfl, aw_iinc_4 (pc2 := 119) (y := 1) D53_116 rfl (by decide), aw_goto (t := 95) D53_119 (by decide), refV_s, refV_n, psh_s, psh_n, kil_i, kil_r, kil_n, kil_l, cat_i, cat_r, iOK_1, iOK_5, jOK_2, jOK_6, wOK_e, lOK_1, lOK_2, lOK_3, lOK_4, lOK_5, lOK_6, catS_0, catS_1, catS_2, catS_3, catS_4, and_self, true_and, and_true, true_or, or_true, false_or, or_false, not_true_eq_false, not_false_eq_true, if_true, if_false, ite_int, ite_int0, au_10, eq_self, decide_true, decide_false, Bool.true_and, Bool.false_and, au_in, au_le, au_lt, au_eq, au_lt0, au_ge0, au_le0, au_gt0, au_eq0, au_leT, au_leF, au_ltT, au_ltF, au_eqT, au_eqF, nI_clamp, nI_1, nI_add, pk_mul, au_sub1, au_subc, au_up2e, au_up2n, lit_of, au_eq1, vp_0, nc_0, hq.2.1.1, hq.2.1.2.1, hq.2.1.2.2.1, hq.2.1.2.2.2.1, hq.2.1.2.2.2.2.1, hq.2.1.2.2.2.2.2, hq.2.2.1, hq.2.2.2.1, hq.2.2.2.2.1, hq.2.2.2.2.2.1, hq.2.2.2.2.2.2, hB.1.1, hB.1.2.1, hB.1.2.2.1, hB.1.2.2.2.1, hB.1.2.2.2.2.1, hB.1.2.2.2.2.2.1, hB.1.2.2.2.2.2.2.1, hB.1.2.2.2.2.2.2.2.1, hB.1.2.2.2.2.2.2.2.2.1, hB.1.2.2.2.2.2.2.2.2.2.1, hB.1.2.2.2.2.2.2.2.2.2.2.1, hB.1.2.2.2.2.2.2.2.2.2.2.2.1, hB.1.2.2.2.2.2.2.2.2.2.2.2.2.1, hB.1.2.2.2.2.2.2.2.2.2.2.2.2.2, hB.2.1, hB.2.2.1, hB.2.2.2.1, hB.2.2.2.2.1, hB.2.2.2.2.2.1, hB.2.2.2.2.2.2.1, hB.2.2.2.2.2.2.2.1, hB.2.2.2.2.2.2.2.2.1, hB.2.2.2.2.2.2.2.2.2.1, hB.2.2.2.2.2.2.2.2.2.2.1, hB.2.2.2.2.2.2.2.2.2.2.2.1, hB.2.2.2.2.2.2.2.2.2.2.2.2.1, hB.2.2.2.2.2.2.2.2.2.2.2.2.2, h7]
      rw [C_addPartN hB h8s (Nat.le_refl _)]
      simp (disch := omega) only [psh]
      exact ihn (by omega)
  exact key1 T 0 (by omega)
theorem C_nodeTailS {T M : Nat} {v3 v4 : Value} (hq : LF Ln q) (hB : BF Ln B) (hBl : B + 13 < 29) (hT : T ≤ 12) (hM : M ≤ 12) (h7 : I q 7 = nI T) (h8 : I q 8 = nI M) (h : spt B I) (hK : ∀ v I', frN B q I I' → spt B I' → K (some (.int v)) (G0 Ln) I' J) : AW (d + 2) ((G0 Ln).1, (G0 Ln).2.1) K 53 33 [.ref 29, .ref (B + 3), .ref q, v3, v4] [] (G0 Ln) I J := by
  have hq1 := hq.1.1
  have hq2 := hq.1.2
  simp (disch := omega) only [aw_aload_2 (pc2 := 34) D53_33 rfl, aw_getI (pc2 := 37) (ci := 2) (fk := 7) D53_34 rfl fT_3_127 rfl, aw_aload_2 (pc2 := 38) D53_37 rfl, aw_getI (pc2 := 41) (ci := 2) (fk := 8) D53_38 rfl fT_3_136 rfl, aw_iadd (pc2 := 42) D53_41 rfl, aw_if_ne (pc2 := 45) (t := 47) D53_42 (by decide) rfl, refV_s, refV_n, psh_s, psh_n, kil_i, kil_r, kil_n, kil_l, cat_i, cat_r, iOK_1, iOK_5, jOK_2, jOK_6, wOK_e, lOK_1, lOK_2, lOK_3, lOK_4, lOK_5, lOK_6, catS_0, catS_1, catS_2, catS_3, catS_4, and_self, true_and, and_true, true_or, or_true, false_or, or_false, not_true_eq_false, not_false_eq_true, if_true, if_false, ite_int, ite_int0, au_10, eq_self, decide_true, decide_false, Bool.true_and, Bool.false_and, au_in, au_le, au_lt, au_eq, au_lt0, au_ge0, au_le0, au_gt0, au_eq0, au_leT, au_leF, au_ltT, au_ltF, au_eqT, au_eqF, nI_clamp, nI_1, nI_add, pk_mul, au_sub1, au_subc, au_up2e, au_up2n, lit_of, hq.2.1.1, hq.2.1.2.1, hq.2.1.2.2.1, hq.2.1.2.2.2.1, hq.2.1.2.2.2.2.1, hq.2.1.2.2.2.2.2, hq.2.2.1, hq.2.2.2.1, hq.2.2.2.2.1, hq.2.2.2.2.2.1, hq.2.2.2.2.2.2, h7, h8]
  by_cases e0 : T + M = 0
  · rw [if_neg (fun q => q e0)]
    simp (disch := omega) only [aw_iconst (pc2 := 46) (y := 0) D53_45 rfl (by decide), aw_iret D53_46 rfl, refV_s, refV_n, psh_s, psh_n, kil_i, kil_r, kil_n, kil_l, cat_i, cat_r, iOK_1, iOK_5, jOK_2, jOK_6, wOK_e, lOK_1, lOK_2, lOK_3, lOK_4, lOK_5, lOK_6, catS_0, catS_1, catS_2, catS_3, catS_4, and_self, true_and, and_true, true_or, or_true, false_or, or_false, not_true_eq_false, not_false_eq_true, if_true, if_false, ite_int, ite_int0, au_10, eq_self, decide_true, decide_false, Bool.true_and, Bool.false_and, au_in, au_le, au_lt, au_eq, au_lt0, au_ge0, au_le0, au_gt0, au_eq0, au_leT, au_leF, au_ltT, au_ltF, au_eqT, au_eqF, nI_clamp, nI_1, nI_add, pk_mul, au_sub1, au_subc, au_up2e, au_up2n, lit_of]
    exact hK _ I frN.rf h
  rw [if_pos e0]
  simp (disch := omega) only [aw_aload_2 (pc2 := 48) D53_47 rfl, aw_getI (pc2 := 51) (ci := 2) (fk := 7) D53_48 rfl fT_3_127 rfl, aw_aload_2 (pc2 := 52) D53_51 rfl, aw_getI (pc2 := 55) (ci := 2) (fk := 8) D53_52 rfl fT_3_136 rfl, aw_iadd (pc2 := 56) D53_55 rfl, aw_iconst (pc2 := 57) (y := 1) D53_56 rfl (by decide), aw_icmp_ne (pc2 := 60) (t := 84) D53_57 (by decide) rfl, refV_s, refV_n, psh_s, psh_n, kil_i, kil_r, kil_n, kil_l, cat_i, cat_r, iOK_1, iOK_5, jOK_2, jOK_6, wOK_e, lOK_1, lOK_2, lOK_3, lOK_4, lOK_5, lOK_6, catS_0, catS_1, catS_2, catS_3, catS_4, and_self, true_and, and_true, true_or, or_true, false_or, or_false, not_true_eq_false, not_false_eq_true, if_true, if_false, ite_int, ite_int0, au_10, eq_self, decide_true, decide_false, Bool.true_and, Bool.false_and, au_in, au_le, au_lt, au_eq, au_lt0, au_ge0, au_le0, au_gt0, au_eq0, au_leT, au_leF, au_ltT, au_ltF, au_eqT, au_eqF, nI_clamp, nI_1, nI_add, pk_mul, au_sub1, au_subc, au_up2e, au_up2n, lit_of, au_eq1, vp_0, nc_0, hq.2.1.1, hq.2.1.2.1, hq.2.1.2.2.1, hq.2.1.2.2.2.1, hq.2.1.2.2.2.2.1, hq.2.1.2.2.2.2.2, hq.2.2.1, hq.2.2.2.1, hq.2.2.2.2.1, hq.2.2.2.2.2.1, hq.2.2.2.2.2.2, h7, h8]
  by_cases e1 : T + M = 1
  · rw [if_neg (fun q => q e1)]
    by_cases eT : T = 1
    · subst eT
      simp (disch := omega) only [aw_aload_2 (pc2 := 61) D53_60 rfl, aw_getI (pc2 := 64) (ci := 2) (fk := 7) D53_61 rfl fT_3_127 rfl, aw_iconst (pc2 := 65) (y := 1) D53_64 rfl (by decide), aw_icmp_ne (pc2 := 68) (t := 77) D53_65 (by decide) rfl, aw_aload_2 (pc2 := 69) D53_68 rfl, aw_getR (pc2 := 72) (ci := 2) (fk := 3) D53_69 rfl fT_3_130 rfl, aw_iconst (pc2 := 73) (y := 0) D53_72 rfl (by decide), aw_iaload (pc2 := 74) D53_73 rfl, aw_goto (t := 83) D53_74 (by decide), aw_aload_2 (pc2 := 78) D53_77 rfl, aw_getR (pc2 := 81) (ci := 2) (fk := 4) D53_78 rfl fT_3_139 rfl, aw_iconst (pc2 := 82) (y := 0) D53_81 rfl (by decide), aw_iaload (pc2 := 83) D53_82 rfl, aw_iret D53_83 rfl, refV_s, refV_n, psh_s, psh_n, kil_i, kil_r, kil_n, kil_l, cat_i, cat_r, iOK_1, iOK_5, jOK_2, jOK_6, wOK_e, lOK_1, lOK_2, lOK_3, lOK_4, lOK_5, lOK_6, catS_0, catS_1, catS_2, catS_3, catS_4, and_self, true_and, and_true, true_or, or_true, false_or, or_false, not_true_eq_false, not_false_eq_true, if_true, if_false, ite_int, ite_int0, au_10, eq_self, decide_true, decide_false, Bool.true_and, Bool.false_and, au_in, au_le, au_lt, au_eq, au_lt0, au_ge0, au_le0, au_gt0, au_eq0, au_leT, au_leF, au_ltT, au_ltF, au_eqT, au_eqF, nI_clamp, nI_1, nI_add, pk_mul, au_sub1, au_subc, au_up2e, au_up2n, lit_of, au_eq1, vp_0, nc_0, hq.2.1.1, hq.2.1.2.1, hq.2.1.2.2.1, hq.2.1.2.2.2.1, hq.2.1.2.2.2.2.1, hq.2.1.2.2.2.2.2, hq.2.2.1, hq.2.2.2.1, hq.2.2.2.2.1, hq.2.2.2.2.2.1, hq.2.2.2.2.2.2, h7, h8]
      exact hK _ I frN.rf h
    · simp (disch := omega) only [aw_aload_2 (pc2 := 61) D53_60 rfl, aw_getI (pc2 := 64) (ci := 2) (fk := 7) D53_61 rfl fT_3_127 rfl, aw_iconst (pc2 := 65) (y := 1) D53_64 rfl (by decide), aw_icmp_ne (pc2 := 68) (t := 77) D53_65 (by decide) rfl, aw_aload_2 (pc2 := 78) D53_77 rfl, aw_getR (pc2 := 81) (ci := 2) (fk := 4) D53_78 rfl fT_3_139 rfl, aw_iconst (pc2 := 82) (y := 0) D53_81 rfl (by decide), aw_iaload (pc2 := 83) D53_82 rfl, aw_iret D53_83 rfl, refV_s, refV_n, psh_s, psh_n, kil_i, kil_r, kil_n, kil_l, cat_i, cat_r, iOK_1, iOK_5, jOK_2, jOK_6, wOK_e, lOK_1, lOK_2, lOK_3, lOK_4, lOK_5, lOK_6, catS_0, catS_1, catS_2, catS_3, catS_4, and_self, true_and, and_true, true_or, or_true, false_or, or_false, not_true_eq_false, not_false_eq_true, if_true, if_false, ite_int, ite_int0, au_10, eq_self, decide_true, decide_false, Bool.true_and, Bool.false_and, au_in, au_le, au_lt, au_eq, au_lt0, au_ge0, au_le0, au_gt0, au_eq0, au_leT, au_leF, au_ltT, au_ltF, au_eqT, au_eqF, nI_clamp, nI_1, nI_add, pk_mul, au_sub1, au_subc, au_up2e, au_up2n, lit_of, au_eq1, vp_0, nc_0, hq.2.1.1, hq.2.1.2.1, hq.2.1.2.2.1, hq.2.1.2.2.2.1, hq.2.1.2.2.2.2.1, hq.2.1.2.2.2.2.2, hq.2.2.1, hq.2.2.2.1, hq.2.2.2.2.1, hq.2.2.2.2.2.1, hq.2.2.2.2.2.2, h7, h8, if_pos eT]
      exact hK _ I frN.rf h
  rw [if_pos e1]
  simp (disch := omega) only [aw_aload_1 (pc2 := 85) D53_84 rfl, aw_iconst (pc2 := 86) (y := 3) D53_85 rfl (by decide), aw_iconst (pc2 := 87) (y := 0) D53_86 rfl (by decide), aw_iconst (pc2 := 88) (y := 0) D53_87 rfl (by decide), aw_iv3_0 (pc2 := 91) (o := 1) D53_88 rfl cT_3_115 rfl rfl, refV_s, refV_n, psh_s, psh_n, kil_i, kil_r, kil_n, kil_l, cat_i, cat_r, iOK_1, iOK_5, jOK_2, jOK_6, wOK_e, lOK_1, lOK_2, lOK_3, lOK_4, lOK_5, lOK_6, catS_0, catS_1, catS_2, catS_3, catS_4, and_self, true_and, and_true, true_or, or_true, false_or, or_false, not_true_eq_false, not_false_eq_true, if_true, if_false, ite_int, ite_int0, au_10, eq_self, decide_true, decide_false, Bool.true_and, Bool.false_and, au_in, au_le, au_lt, au_eq, au_lt0, au_ge0, au_le0, au_gt0, au_eq0, au_leT, au_leF, au_ltT, au_ltF, au_eqT, au_eqF, nI_clamp, nI_1, nI_add, pk_mul, au_sub1, au_subc, au_up2e, au_up2n, lit_of, hq.2.1.1, hq.2.1.2.1, hq.2.1.2.2.1, hq.2.1.2.2.2.1, hq.2.1.2.2.2.2.1, hq.2.1.2.2.2.2.2, hq.2.2.1, hq.2.2.2.1, hq.2.2.2.2.1, hq.2.2.2.2.2.1, hq.2.2.2.2.2.2, hB.1.1, hB.1.2.1, hB.1.2.2.1, hB.1.2.2.2.1, hB.1.2.2.2.2.1, hB.1.2.2.2.2.2.1, hB.1.2.2.2.2.2.2.1, hB.1.2.2.2.2.2.2.2.1, hB.1.2.2.2.2.2.2.2.2.1, hB.1.2.2.2.2.2.2.2.2.2.1, hB.1.2.2.2.2.2.2.2.2.2.2.1, hB.1.2.2.2.2.2.2.2.2.2.2.2.1, hB.1.2.2.2.2.2.2.2.2.2.2.2.2.1, hB.1.2.2.2.2.2.2.2.2.2.2.2.2.2, hB.2.1, hB.2.2.1, hB.2.2.2.1, hB.2.2.2.2.1, hB.2.2.2.2.2.1, hB.2.2.2.2.2.2.1, hB.2.2.2.2.2.2.2.1, hB.2.2.2.2.2.2.2.2.1, hB.2.2.2.2.2.2.2.2.2.1, hB.2.2.2.2.2.2.2.2.2.2.1, hB.2.2.2.2.2.2.2.2.2.2.2.1, hB.2.2.2.2.2.2.2.2.2.2.2.2.1, hB.2.2.2.2.2.2.2.2.2.2.2.2.2]
  rw [C_addNodeF hB rfl h.2]
  exact C_nodeRestS hq hB hBl hT hM (by rw [au_up2c (by omega)]; exact h7) (by rw [au_up2c (by omega)]; exact h8) ⟨au_up2e ⟨rfl, rfl⟩, by rw [au_up2n (by omega)]; exact h.2⟩ (fun v I' f g => hK v I' (frN.tr ⟨fun a _ _ a3 => up2_off (by omega), fun k _ k2 => au_up2n (Or.inr k2)⟩ f) g)
theorem C_nodeTail {N : Nat} {S : ST} {ls nds : List Nat} {v3 v4 : Value} (hq : LF Ln q) (hB : BF Ln B) (hBl : B + 13 < 29) (hl : ls.length + nds.length ≤ 12) (hS : stC N S) (hls : ∀ x, x ∈ ls → x < S.1.length) (hnd : ∀ x, x ∈ nds → x < S.1.length) (h7 : I q 7 = nI ls.length) (h8 : I q 8 = nI nds.length) (h4 : lsA (q + 4) 0 ls I) (h5 : lsA (q + 5) 0 nds I) (h : cst B S I) (hs : ∀ n S' I', endL (ls ++ nds) S = some (n, S') → frN B q I I' → cst B S' I' → K (some (.int (nI n))) (G0 Ln) I' J) (hK : ∀ v I', endL (ls ++ nds) S = none → frN B q I I' → spt B I' → K (some (.int v)) (G0 Ln) I' J) : AW (d + 2) ((G0 Ln).1, (G0 Ln).2.1) K 53 33 [.ref 29, .ref (B + 3), .ref q, v3, v4] [] (G0 Ln) I J := by
  have hq1 := hq.1.1
  have hq2 := hq.1.2
  have hla : (ls ++ nds).length = ls.length + nds.length := List.length_append
  obtain ⟨c1, c2, c3, c4, c5⟩ := h
  simp (disch := omega) only [aw_aload_2 (pc2 := 34) D53_33 rfl, aw_getI (pc2 := 37) (ci := 2) (fk := 7) D53_34 rfl fT_3_127 rfl, aw_aload_2 (pc2 := 38) D53_37 rfl, aw_getI (pc2 := 41) (ci := 2) (fk := 8) D53_38 rfl fT_3_136 rfl, aw_iadd (pc2 := 42) D53_41 rfl, aw_if_ne (pc2 := 45) (t := 47) D53_42 (by decide) rfl, refV_s, refV_n, psh_s, psh_n, kil_i, kil_r, kil_n, kil_l, cat_i, cat_r, iOK_1, iOK_5, jOK_2, jOK_6, wOK_e, lOK_1, lOK_2, lOK_3, lOK_4, lOK_5, lOK_6, catS_0, catS_1, catS_2, catS_3, catS_4, and_self, true_and, and_true, true_or, or_true, false_or, or_false, not_true_eq_false, not_false_eq_true, if_true, if_false, ite_int, ite_int0, au_10, eq_self, decide_true, decide_false, Bool.true_and, Bool.false_and, au_in, au_le, au_lt, au_eq, au_lt0, au_ge0, au_le0, au_gt0, au_eq0, au_leT, au_leF, au_ltT, au_ltF, au_eqT, au_eqF, nI_clamp, nI_1, nI_add, pk_mul, au_sub1, au_subc, au_up2e, au_up2n, lit_of, hq.2.1.1, hq.2.1.2.1, hq.2.1.2.2.1, hq.2.1.2.2.2.1, hq.2.1.2.2.2.2.1, hq.2.1.2.2.2.2.2, hq.2.2.1, hq.2.2.2.1, hq.2.2.2.2.1, hq.2.2.2.2.2.1, hq.2.2.2.2.2.2, h7, h8]
  by_cases e0 : ls.length + nds.length = 0
  · rw [if_neg (fun q => q e0)]
    simp (disch := omega) only [aw_iconst (pc2 := 46) (y := 0) D53_45 rfl (by decide), aw_iret D53_46 rfl, refV_s, refV_n, psh_s, psh_n, kil_i, kil_r, kil_n, kil_l, cat_i, cat_r, iOK_1, iOK_5, jOK_2, jOK_6, wOK_e, lOK_1, lOK_2, lOK_3, lOK_4, lOK_5, lOK_6, catS_0, catS_1, catS_2, catS_3, catS_4, and_self, true_and, and_true, true_or, or_true, false_or, or_false, not_true_eq_false, not_false_eq_true, if_true, if_false, ite_int, ite_int0, au_10, eq_self, decide_true, decide_false, Bool.true_and, Bool.false_and, au_in, au_le, au_lt, au_eq, au_lt0, au_ge0, au_le0, au_gt0, au_eq0, au_leT, au_leF, au_ltT, au_ltF, au_eqT, au_eqF, nI_clamp, nI_1, nI_add, pk_mul, au_sub1, au_subc, au_up2e, au_up2n, lit_of]
    refine hs 0 S I ?_ frN.rf ⟨c1, c2, c3, c4, c5⟩
    rw [List.eq_nil_of_length_eq_zero (hla.trans e0)]
    rfl
  rw [if_pos e0]
  simp (disch := omega) only [aw_aload_2 (pc2 := 48) D53_47 rfl, aw_getI (pc2 := 51) (ci := 2) (fk := 7) D53_48 rfl fT_3_127 rfl, aw_aload_2 (pc2 := 52) D53_51 rfl, aw_getI (pc2 := 55) (ci := 2) (fk := 8) D53_52 rfl fT_3_136 rfl, aw_iadd (pc2 := 56) D53_55 rfl, aw_iconst (pc2 := 57) (y := 1) D53_56 rfl (by decide), aw_icmp_ne (pc2 := 60) (t := 84) D53_57 (by decide) rfl, refV_s, refV_n, psh_s, psh_n, kil_i, kil_r, kil_n, kil_l, cat_i, cat_r, iOK_1, iOK_5, jOK_2, jOK_6, wOK_e, lOK_1, lOK_2, lOK_3, lOK_4, lOK_5, lOK_6, catS_0, catS_1, catS_2, catS_3, catS_4, and_self, true_and, and_true, true_or, or_true, false_or, or_false, not_true_eq_false, not_false_eq_true, if_true, if_false, ite_int, ite_int0, au_10, eq_self, decide_true, decide_false, Bool.true_and, Bool.false_and, au_in, au_le, au_lt, au_eq, au_lt0, au_ge0, au_le0, au_gt0, au_eq0, au_leT, au_leF, au_ltT, au_ltF, au_eqT, au_eqF, nI_clamp, nI_1, nI_add, pk_mul, au_sub1, au_subc, au_up2e, au_up2n, lit_of, au_eq1, vp_0, nc_0, hq.2.1.1, hq.2.1.2.1, hq.2.1.2.2.1, hq.2.1.2.2.2.1, hq.2.1.2.2.2.2.1, hq.2.1.2.2.2.2.2, hq.2.2.1, hq.2.2.2.1, hq.2.2.2.2.1, hq.2.2.2.2.2.1, hq.2.2.2.2.2.2, h7, h8]
  by_cases e1 : ls.length + nds.length = 1
  · rw [if_neg (fun q => q e1)]
    by_cases eT : ls.length = 1
    · have e4 := h4 0 (by omega)
      simp (disch := omega) only [aw_aload_2 (pc2 := 61) D53_60 rfl, aw_getI (pc2 := 64) (ci := 2) (fk := 7) D53_61 rfl fT_3_127 rfl, aw_iconst (pc2 := 65) (y := 1) D53_64 rfl (by decide), aw_icmp_ne (pc2 := 68) (t := 77) D53_65 (by decide) rfl, aw_aload_2 (pc2 := 69) D53_68 rfl, aw_getR (pc2 := 72) (ci := 2) (fk := 3) D53_69 rfl fT_3_130 rfl, aw_iconst (pc2 := 73) (y := 0) D53_72 rfl (by decide), aw_iaload (pc2 := 74) D53_73 rfl, aw_goto (t := 83) D53_74 (by decide), aw_aload_2 (pc2 := 78) D53_77 rfl, aw_getR (pc2 := 81) (ci := 2) (fk := 4) D53_78 rfl fT_3_139 rfl, aw_iconst (pc2 := 82) (y := 0) D53_81 rfl (by decide), aw_iaload (pc2 := 83) D53_82 rfl, aw_iret D53_83 rfl, refV_s, refV_n, psh_s, psh_n, kil_i, kil_r, kil_n, kil_l, cat_i, cat_r, iOK_1, iOK_5, jOK_2, jOK_6, wOK_e, lOK_1, lOK_2, lOK_3, lOK_4, lOK_5, lOK_6, catS_0, catS_1, catS_2, catS_3, catS_4, and_self, true_and, and_true, true_or, or_true, false_or, or_false, not_true_eq_false, not_false_eq_true, if_true, if_false, ite_int, ite_int0, au_10, eq_self, decide_true, decide_false, Bool.true_and, Bool.false_and, au_in, au_le, au_lt, au_eq, au_lt0, au_ge0, au_le0, au_gt0, au_eq0, au_leT, au_leF, au_ltT, au_ltF, au_eqT, au_eqF, nI_clamp, nI_1, nI_add, pk_mul, au_sub1, au_subc, au_up2e, au_up2n, lit_of, au_eq1, vp_0, nc_0, hq.2.1.1, hq.2.1.2.1, hq.2.1.2.2.1, hq.2.1.2.2.2.1, hq.2.1.2.2.2.2.1, hq.2.1.2.2.2.2.2, hq.2.2.1, hq.2.2.2.1, hq.2.2.2.2.1, hq.2.2.2.2.2.1, hq.2.2.2.2.2.2, h7, h8, eT, show (q + 4) = q + 4 from rfl]
      obtain ⟨a, ea⟩ := List.length_eq_one_iff.mp eT
      have en : nds = [] := List.eq_nil_of_length_eq_zero (by omega)
      subst ea; subst en
      rw [show I (q + 4) 0 = nI a from e4]
      exact hs a S I rfl frN.rf ⟨c1, c2, c3, c4, c5⟩
    · have e5 := h5 0 (by omega)
      simp (disch := omega) only [aw_aload_2 (pc2 := 61) D53_60 rfl, aw_getI (pc2 := 64) (ci := 2) (fk := 7) D53_61 rfl fT_3_127 rfl, aw_iconst (pc2 := 65) (y := 1) D53_64 rfl (by decide), aw_icmp_ne (pc2 := 68) (t := 77) D53_65 (by decide) rfl, aw_aload_2 (pc2 := 78) D53_77 rfl, aw_getR (pc2 := 81) (ci := 2) (fk := 4) D53_78 rfl fT_3_139 rfl, aw_iconst (pc2 := 82) (y := 0) D53_81 rfl (by decide), aw_iaload (pc2 := 83) D53_82 rfl, aw_iret D53_83 rfl, refV_s, refV_n, psh_s, psh_n, kil_i, kil_r, kil_n, kil_l, cat_i, cat_r, iOK_1, iOK_5, jOK_2, jOK_6, wOK_e, lOK_1, lOK_2, lOK_3, lOK_4, lOK_5, lOK_6, catS_0, catS_1, catS_2, catS_3, catS_4, and_self, true_and, and_true, true_or, or_true, false_or, or_false, not_true_eq_false, not_false_eq_true, if_true, if_false, ite_int, ite_int0, au_10, eq_self, decide_true, decide_false, Bool.true_and, Bool.false_and, au_in, au_le, au_lt, au_eq, au_lt0, au_ge0, au_le0, au_gt0, au_eq0, au_leT, au_leF, au_ltT, au_ltF, au_eqT, au_eqF, nI_clamp, nI_1, nI_add, pk_mul, au_sub1, au_subc, au_up2e, au_up2n, lit_of, au_eq1, vp_0, nc_0, hq.2.1.1, hq.2.1.2.1, hq.2.1.2.2.1, hq.2.1.2.2.2.1, hq.2.1.2.2.2.2.1, hq.2.1.2.2.2.2.2, hq.2.2.1, hq.2.2.2.1, hq.2.2.2.2.1, hq.2.2.2.2.2.1, hq.2.2.2.2.2.2, h7, h8, if_pos eT]
      obtain ⟨a, ea⟩ := List.length_eq_one_iff.mp (show nds.length = 1 by omega)
      have en : ls = [] := List.eq_nil_of_length_eq_zero (by omega)
      subst ea; subst en
      rw [show I (q + 5) 0 = nI a from e5]
      exact hs a S I rfl frN.rf ⟨c1, c2, c3, c4, c5⟩
  rw [if_pos e1]
  have hend : endL (ls ++ nds) S = comes (3, 0, ls ++ nds) S := by
    match hm : ls ++ nds with
    | [] => rw [hm] at hla; exact absurd hla.symm e0
    | [x] => rw [hm] at hla; exact absurd hla.symm e1
    | x :: y :: r => rfl
  simp (disch := omega) only [aw_aload_1 (pc2 := 85) D53_84 rfl, aw_iconst (pc2 := 86) (y := 3) D53_85 rfl (by decide), aw_iconst (pc2 := 87) (y := 0) D53_86 rfl (by decide), aw_iconst (pc2 := 88) (y := 0) D53_87 rfl (by decide), aw_iv3_0 (pc2 := 91) (o := 1) D53_88 rfl cT_3_115 rfl rfl, refV_s, refV_n, psh_s, psh_n, kil_i, kil_r, kil_n, kil_l, cat_i, cat_r, iOK_1, iOK_5, jOK_2, jOK_6, wOK_e, lOK_1, lOK_2, lOK_3, lOK_4, lOK_5, lOK_6, catS_0, catS_1, catS_2, catS_3, catS_4, and_self, true_and, and_true, true_or, or_true, false_or, or_false, not_true_eq_false, not_false_eq_true, if_true, if_false, ite_int, ite_int0, au_10, eq_self, decide_true, decide_false, Bool.true_and, Bool.false_and, au_in, au_le, au_lt, au_eq, au_lt0, au_ge0, au_le0, au_gt0, au_eq0, au_leT, au_leF, au_ltT, au_ltF, au_eqT, au_eqF, nI_clamp, nI_1, nI_add, pk_mul, au_sub1, au_subc, au_up2e, au_up2n, lit_of, hq.2.1.1, hq.2.1.2.1, hq.2.1.2.2.1, hq.2.1.2.2.2.1, hq.2.1.2.2.2.2.1, hq.2.1.2.2.2.2.2, hq.2.2.1, hq.2.2.2.1, hq.2.2.2.2.1, hq.2.2.2.2.2.1, hq.2.2.2.2.2.2, hB.1.1, hB.1.2.1, hB.1.2.2.1, hB.1.2.2.2.1, hB.1.2.2.2.2.1, hB.1.2.2.2.2.2.1, hB.1.2.2.2.2.2.2.1, hB.1.2.2.2.2.2.2.2.1, hB.1.2.2.2.2.2.2.2.2.1, hB.1.2.2.2.2.2.2.2.2.2.1, hB.1.2.2.2.2.2.2.2.2.2.2.1, hB.1.2.2.2.2.2.2.2.2.2.2.2.1, hB.1.2.2.2.2.2.2.2.2.2.2.2.2.1, hB.1.2.2.2.2.2.2.2.2.2.2.2.2.2, hB.2.1, hB.2.2.1, hB.2.2.2.1, hB.2.2.2.2.1, hB.2.2.2.2.2.1, hB.2.2.2.2.2.2.1, hB.2.2.2.2.2.2.2.1, hB.2.2.2.2.2.2.2.2.1, hB.2.2.2.2.2.2.2.2.2.1, hB.2.2.2.2.2.2.2.2.2.2.1, hB.2.2.2.2.2.2.2.2.2.2.2.1, hB.2.2.2.2.2.2.2.2.2.2.2.2.1, hB.2.2.2.2.2.2.2.2.2.2.2.2.2]
  by_cases h15 : S.1.length = 1500
  · rw [C_addNodeF hB h15 c1.1]
    refine C_nodeRestS (T := ls.length) (M := nds.length) hq hB hBl (by omega) (by omega) (by rw [au_up2c (by omega)]; exact h7) (by rw [au_up2c (by omega)]; exact h8) ⟨au_up2e ⟨rfl, rfl⟩, by rw [au_up2n (by omega), c1.1, h15]⟩ (fun v I' f g => hK v I' ?_ (frN.tr ⟨fun a _ _ a3 => up2_off (by omega), fun k _ k2 => au_up2n (Or.inr k2)⟩ f) g)
    rw [hend]; unfold comes; rw [if_pos h15]
  have hc15 : comes (3, 0, ls ++ nds) S = some (S.1.length, (S.1 ++ [(3, 0, ls ++ nds)], S.2)) := by unfold comes; rw [if_neg h15]
  have hlt : S.1.length < 1500 := by have := hS.1; omega
  have h12 := nds_12 hS.2.2.1
  refine C_addNode (k := 3) (s := 0) hB hlt (by decide) rfl c1 (fun I1 f1 f2 f3 => ?_)
  simp (disch := omega) only [aw_istore_3 (pc2 := 92) D53_91 rfl, aw_iconst (pc2 := 93) (y := 0) D53_92 rfl (by decide), aw_istore_4 (pc2 := 95) D53_93 rfl, refV_s, refV_n, psh_s, psh_n, kil_i, kil_r, kil_n, kil_l, cat_i, cat_r, iOK_1, iOK_5, jOK_2, jOK_6, wOK_e, lOK_1, lOK_2, lOK_3, lOK_4, lOK_5, lOK_6, catS_0, catS_1, catS_2, catS_3, catS_4, and_self, true_and, and_true, true_or, or_true, false_or, or_false, not_true_eq_false, not_false_eq_true, if_true, if_false, ite_int, ite_int0, au_10, eq_self, decide_true, decide_false, Bool.true_and, Bool.false_and, au_in, au_le, au_lt, au_eq, au_lt0, au_ge0, au_le0, au_gt0, au_eq0, au_leT, au_leF, au_ltT, au_ltF, au_eqT, au_eqF, nI_clamp, nI_1, nI_add, pk_mul, au_sub1, au_subc, au_up2e, au_up2n, lit_of, psh]
  have fin : ∀ I', frG B I I' → I' (B + 3) 11 = I (B + 3) 11 → grC B (S.1 ++ [(3, 0, ls ++ nds)]) I' → K (some (.int (nI S.1.length))) (G0 Ln) I' J := by
    intro I' f g z
    refine hs _ _ I' (hend.trans hc15) (frN.gr f) ⟨z, ?_, g.trans c3, fun i hi => ?_, mtC_cong (fun a _ _ => f.1 a (by omega) (by omega) (by omega) (by omega) (by omega) (by omega)) c5⟩
    · rw [f.2 10 (by decide) (by decide)]; exact c2
    · rw [f.1 38 (by omega) (by omega) (by omega) (by omega) (by omega) (by omega)]; exact c4 i hi
  have key2 : ∀ r a I', a ++ r = nds → frG B I I' → I' (B + 3) 11 = I (B + 3) 11 → grC B (S.1 ++ [(3, 0, ls ++ a)]) I' → AW (d + 2) ((G0 Ln).1, (G0 Ln).2.1) K 53 125 [.ref 29, .ref (B + 3), .ref q, .int (nI S.1.length), .int (nI a.length)] [] (G0 Ln) I' J := by
    intro r
    induction r with
    | nil =>
      intro a I' ha f g z
      rw [List.append_nil] at ha
      subst ha
      have g8 : I' q 8 = nI a.length := by rw [f.1 q (by omega) (by omega) (by omega) (by omega) (by omega) (by omega)]; exact h8
      simp (disch := omega) only [aw_iload_4 (pc2 := 127) D53_125 rfl, aw_aload_2 (pc2 := 128) D53_127 rfl, aw_getI (pc2 := 131) (ci := 2) (fk := 8) D53_128 rfl fT_3_136 rfl, aw_icmp_ge (pc2 := 134) (t := 152) D53_131 (by decide) rfl, aw_iload_3 (pc2 := 153) D53_152 rfl, aw_iret D53_153 rfl, refV_s, refV_n, psh_s, psh_n, kil_i, kil_r, kil_n, kil_l, cat_i, cat_r, iOK_1, iOK_5, jOK_2, jOK_6, wOK_e, lOK_1, lOK_2, lOK_3, lOK_4, lOK_5, lOK_6, catS_0, catS_1, catS_2, catS_3, catS_4, and_self, true_and, and_true, true_or, or_true, false_or, or_false, not_true_eq_false, not_false_eq_true, if_true, if_false, ite_int, ite_int0, au_10, eq_self, decide_true, decide_false, Bool.true_and, Bool.false_and, au_in, au_le, au_lt, au_eq, au_lt0, au_ge0, au_le0, au_gt0, au_eq0, au_leT, au_leF, au_ltT, au_ltF, au_eqT, au_eqF, nI_clamp, nI_1, nI_add, pk_mul, au_sub1, au_subc, au_up2e, au_up2n, lit_of, hq.2.1.1, hq.2.1.2.1, hq.2.1.2.2.1, hq.2.1.2.2.2.1, hq.2.1.2.2.2.2.1, hq.2.1.2.2.2.2.2, hq.2.2.1, hq.2.2.2.1, hq.2.2.2.2.1, hq.2.2.2.2.2.1, hq.2.2.2.2.2.2, g8]
      exact fin I' f g z
    | cons x r ih =>
      intro a I' ha f g z
      have hal : a.length + (r.length + 1) = nds.length := by rw [← ha, List.length_append, List.length_cons]
      have g8 : I' q 8 = nI nds.length := by rw [f.1 q (by omega) (by omega) (by omega) (by omega) (by omega) (by omega)]; exact h8
      have gx : I' (q + 5) a.length = nI x := by
        rw [f.1 (q + 5) (by omega) (by omega) (by omega) (by omega) (by omega) (by omega)]
        have := h5 a.length (by omega)
        rw [Nat.zero_add] at this
        rw [this, ← ha, List.getD_eq_getElem?_getD, List.getElem?_append_right (Nat.le_refl _), Nat.sub_self]
        rfl
      rw [aw_iload_4 (pc2 := 127) D53_125 rfl]
      simp (disch := omega) only [aw_aload_2 (pc2 := 128) D53_127 rfl, aw_getI (pc2 := 131) (ci := 2) (fk := 8) D53_128 rfl fT_3_136 rfl, aw_icmp_ge (pc2 := 134) (t := 152) D53_131 (by decide) rfl, aw_aload_1 (pc2 := 135) D53_134 rfl, aw_iload_3 (pc2 := 136) D53_135 rfl, aw_aload_2 (pc2 := 137) D53_136 rfl, aw_getR (pc2 := 140) (ci := 2) (fk := 4) D53_137 rfl fT_3_139 rfl, aw_iload_4 (pc2 := 142) D53_140 rfl, aw_iaload (pc2 := 143) D53_142 rfl, aw_iv2_0 (pc2 := 146) (o := 1) D53_143 rfl cT_3_119 rfl rfl, aw_iinc_4 (pc2 := 149) (y := 1) D53_146 rfl (by decide), aw_goto (t := 125) D53_149 (by decide), refV_s, refV_n, psh_s, psh_n, kil_i, kil_r, kil_n, kil_l, cat_i, cat_r, iOK_1, iOK_5, jOK_2, jOK_6, wOK_e, lOK_1, lOK_2, lOK_3, lOK_4, lOK_5, lOK_6, catS_0, catS_1, catS_2, catS_3, catS_4, and_self, true_and, and_true, true_or, or_true, false_or, or_false, not_true_eq_false, not_false_eq_true, if_true, if_false, ite_int, ite_int0, au_10, eq_self, decide_true, decide_false, Bool.true_and, Bool.false_and, au_in, au_le, au_lt, au_eq, au_lt0, au_ge0, au_le0, au_gt0, au_eq0, au_leT, au_leF, au_ltT, au_ltF, au_eqT, au_eqF, nI_clamp, nI_1, nI_add, pk_mul, au_sub1, au_subc, au_up2e, au_up2n, lit_of, hq.2.1.1, hq.2.1.2.1, hq.2.1.2.2.1, hq.2.1.2.2.2.1, hq.2.1.2.2.2.2.1, hq.2.1.2.2.2.2.2, hq.2.2.1, hq.2.2.2.1, hq.2.2.2.2.1, hq.2.2.2.2.2.1, hq.2.2.2.2.2.2, hB.1.1, hB.1.2.1, hB.1.2.2.1, hB.1.2.2.2.1, hB.1.2.2.2.2.1, hB.1.2.2.2.2.2.1, hB.1.2.2.2.2.2.2.1, hB.1.2.2.2.2.2.2.2.1, hB.1.2.2.2.2.2.2.2.2.1, hB.1.2.2.2.2.2.2.2.2.2.1, hB.1.2.2.2.2.2.2.2.2.2.2.1, hB.1.2.2.2.2.2.2.2.2.2.2.2.1, hB.1.2.2.2.2.2.2.2.2.2.2.2.2.1, hB.1.2.2.2.2.2.2.2.2.2.2.2.2.2, hB.2.1, hB.2.2.1, hB.2.2.2.1, hB.2.2.2.2.1, hB.2.2.2.2.2.1, hB.2.2.2.2.2.2.1, hB.2.2.2.2.2.2.2.1, hB.2.2.2.2.2.2.2.2.1, hB.2.2.2.2.2.2.2.2.2.1, hB.2.2.2.2.2.2.2.2.2.2.1, hB.2.2.2.2.2.2.2.2.2.2.2.1, hB.2.2.2.2.2.2.2.2.2.2.2.2.1, hB.2.2.2.2.2.2.2.2.2.2.2.2.2, g8, gx]
      refine C_addPart hB hlt h12 (fun p hp => ?_) (hnd x (by rw [← ha]; simp)) (by rw [List.length_append]; omega) z (fun I2 w1 w2 w3 => ?_)
      · rcases List.mem_append.mp hp with y | y
        · exact hls p y
        · exact hnd p (by rw [← ha]; exact List.mem_append_left _ y)
      simp (disch := omega) only [psh]
      have := ih (a ++ [x]) I2 (by rw [List.append_assoc]; exact ha) (f.tr w1) (w2.trans g) (by rw [← List.append_assoc]; exact w3)
      rw [List.length_append] at this
      exact this
  have key1 : ∀ r a I', a ++ r = ls → frG B I I' → I' (B + 3) 11 = I (B + 3) 11 → grC B (S.1 ++ [(3, 0, a)]) I' → AW (d + 2) ((G0 Ln).1, (G0 Ln).2.1) K 53 95 [.ref 29, .ref (B + 3), .ref q, .int (nI S.1.length), .int (nI a.length)] [] (G0 Ln) I' J := by
    intro r
    induction r with
    | nil =>
      intro a I' ha f g z
      rw [List.append_nil] at ha
      subst ha
      have g7 : I' q 7 = nI a.length := by rw [f.1 q (by omega) (by omega) (by omega) (by omega) (by omega) (by omega)]; exact h7
      simp (disch := omega) only [aw_iload_4 (pc2 := 97) D53_95 rfl, aw_aload_2 (pc2 := 98) D53_97 rfl, aw_getI (pc2 := 101) (ci := 2) (fk := 7) D53_98 rfl fT_3_127 rfl, aw_icmp_ge (pc2 := 104) (t := 122) D53_101 (by decide) rfl, aw_iconst (pc2 := 123) (y := 0) D53_122 rfl (by decide), aw_istore_4 (pc2 := 125) D53_123 rfl, refV_s, refV_n, psh_s, psh_n, kil_i, kil_r, kil_n, kil_l, cat_i, cat_r, iOK_1, iOK_5, jOK_2, jOK_6, wOK_e, lOK_1, lOK_2, lOK_3, lOK_4, lOK_5, lOK_6, catS_0, catS_1, catS_2, catS_3, catS_4, and_self, true_and, and_true, true_or, or_true, false_or, or_false, not_true_eq_false, not_false_eq_true, if_true, if_false, ite_int, ite_int0, au_10, eq_self, decide_true, decide_false, Bool.true_and, Bool.false_and, au_in, au_le, au_lt, au_eq, au_lt0, au_ge0, au_le0, au_gt0, au_eq0, au_leT, au_leF, au_ltT, au_ltF, au_eqT, au_eqF, nI_clamp, nI_1, nI_add, pk_mul, au_sub1, au_subc, au_up2e, au_up2n, lit_of, hq.2.1.1, hq.2.1.2.1, hq.2.1.2.2.1, hq.2.1.2.2.2.1, hq.2.1.2.2.2.2.1, hq.2.1.2.2.2.2.2, hq.2.2.1, hq.2.2.2.1, hq.2.2.2.2.1, hq.2.2.2.2.2.1, hq.2.2.2.2.2.2, g7]
      exact key2 nds [] I' rfl f g (by rw [List.append_nil]; exact z)
    | cons x r ih =>
      intro a I' ha f g z
      have hal : a.length + (r.length + 1) = ls.length := by rw [← ha, List.length_append, List.length_cons]
      have g7 : I' q 7 = nI ls.length := by rw [f.1 q (by omega) (by omega) (by omega) (by omega) (by omega) (by omega)]; exact h7
      have gx : I' (q + 4) a.length = nI x := by
        rw [f.1 (q + 4) (by omega) (by omega) (by omega) (by omega) (by omega) (by omega)]
        have := h4 a.length (by omega)
        rw [Nat.zero_add] at this
        rw [this, ← ha, List.getD_eq_getElem?_getD, List.getElem?_append_right (Nat.le_refl _), Nat.sub_self]
        rfl
      rw [aw_iload_4 (pc2 := 97) D53_95 rfl]
      simp (disch := omega) only [aw_aload_2 (pc2 := 98) D53_97 rfl, aw_getI (pc2 := 101) (ci := 2) (fk := 7) D53_98 rfl fT_3_127 rfl, aw_icmp_ge (pc2 := 104) (t := 122) D53_101 (by decide) rfl, aw_aload_1 (pc2 := 105) D53_104 rfl, aw_iload_3 (pc2 := 106) D53_105 rfl, aw_aload_2 (pc2 := 107) D53_106 rfl, aw_getR (pc2 := 110) (ci := 2) (fk := 3) D53_107 rfl fT_3_130 rfl, aw_iload_4 (pc2 := 112) D53_110 rfl, aw_iaload (pc2 := 113) D53_112 rfl, aw_iv2_0 (pc2 := 116) (o := 1) D53_113 rfl cT_3_119 rfl rfl, aw_iinc_4 (pc2 := 119) (y := 1) D53_116 rfl (by decide), aw_goto (t := 95) D53_119 (by decide), refV_s, refV_n, psh_s, psh_n, kil_i, kil_r, kil_n, kil_l, cat_i, cat_r, iOK_1, iOK_5, jOK_2, jOK_6, wOK_e, lOK_1, lOK_2, lOK_3, lOK_4, lOK_5, lOK_6, catS_0, catS_1, catS_2, catS_3, catS_4, and_self, true_and, and_true, true_or, or_true, false_or, or_false, not_true_eq_false, not_false_eq_true, if_true, if_false, ite_int, ite_int0, au_10, eq_self, decide_true, decide_false, Bool.true_and, Bool.false_and, au_in, au_le, au_lt, au_eq, au_lt0, au_ge0, au_le0, au_gt0, au_eq0, au_leT, au_leF, au_ltT, au_ltF, au_eqT, au_eqF, nI_clamp, nI_1, nI_add, pk_mul, au_sub1, au_subc, au_up2e, au_up2n, lit_of, hq.2.1.1, hq.2.1.2.1, hq.2.1.2.2.1, hq.2.1.2.2.2.1, hq.2.1.2.2.2.2.1, hq.2.1.2.2.2.2.2, hq.2.2.1, hq.2.2.2.1, hq.2.2.2.2.1, hq.2.2.2.2.2.1, hq.2.2.2.2.2.2, hB.1.1, hB.1.2.1, hB.1.2.2.1, hB.1.2.2.2.1, hB.1.2.2.2.2.1, hB.1.2.2.2.2.2.1, hB.1.2.2.2.2.2.2.1, hB.1.2.2.2.2.2.2.2.1, hB.1.2.2.2.2.2.2.2.2.1, hB.1.2.2.2.2.2.2.2.2.2.1, hB.1.2.2.2.2.2.2.2.2.2.2.1, hB.1.2.2.2.2.2.2.2.2.2.2.2.1, hB.1.2.2.2.2.2.2.2.2.2.2.2.2.1, hB.1.2.2.2.2.2.2.2.2.2.2.2.2.2, hB.2.1, hB.2.2.1, hB.2.2.2.1, hB.2.2.2.2.1, hB.2.2.2.2.2.1, hB.2.2.2.2.2.2.1, hB.2.2.2.2.2.2.2.1, hB.2.2.2.2.2.2.2.2.1, hB.2.2.2.2.2.2.2.2.2.1, hB.2.2.2.2.2.2.2.2.2.2.1, hB.2.2.2.2.2.2.2.2.2.2.2.1, hB.2.2.2.2.2.2.2.2.2.2.2.2.1, hB.2.2.2.2.2.2.2.2.2.2.2.2.2, g7, gx]
      refine C_addPart hB hlt h12 (fun p hp => hls p (by rw [← ha]; exact List.mem_append_left _ hp)) (hls x (by rw [← ha]; simp)) (by omega) z (fun I2 w1 w2 w3 => ?_)
      simp (disch := omega) only [psh]
      have := ih (a ++ [x]) I2 (by rw [List.append_assoc]; exact ha) (f.tr w1) (w2.trans g) w3
      rw [List.length_append] at this
      exact this
  exact key1 ls [] I1 rfl f1 f2 f3
theorem C_litLoopS {T : Nat} {v4 : Value} (hq : LF Ln q) (hB : BF Ln B) (hBl : B + 13 < 29) (hT : T ≤ 12) (hK : ∀ v3 I', frN B q I I' → spt B I' → AW (d + 2) ((G0 Ln).1, (G0 Ln).2.1) K 53 33 [.ref 29, .ref (B + 3), .ref q, v3, v4] [] (G0 Ln) I' J) (h7 : I q 7 = nI T) : ∀ (t : List Nat) (i : Nat) (I1 : IT), i + t.length = T → sgs 12 t → lsA (q + 4) i t I1 → frN B q I I1 → spt B I1 → AW (d + 2) ((G0 Ln).1, (G0 Ln).2.1) K 53 2 [.ref 29, .ref (B + 3), .ref q, .int (nI i), v4] [] (G0 Ln) I1 J := by
  have hq1 := hq.1.1
  have hq2 := hq.1.2
  intro t
  induction t with
  | nil =>
    intro i I1 hi hs hl f g
    have e : i = T := hi
    subst e
    have g7 : I1 q 7 = nI i := by rw [f.1 q (by omega) (by omega) (by omega)]; exact h7
    simp (disch := omega) only [aw_iload_3 (pc2 := 3) D53_2 rfl, aw_aload_2 (pc2 := 4) D53_3 rfl, aw_getI (pc2 := 7) (ci := 2) (fk := 7) D53_4 rfl fT_3_127 rfl, aw_icmp_ge (pc2 := 10) (t := 33) D53_7 (by decide) rfl, refV_s, refV_n, psh_s, psh_n, kil_i, kil_r, kil_n, kil_l, cat_i, cat_r, iOK_1, iOK_5, jOK_2, jOK_6, wOK_e, lOK_1, lOK_2, lOK_3, lOK_4, lOK_5, lOK_6, catS_0, catS_1, catS_2, catS_3, catS_4, and_self, true_and, and_true, true_or, or_true, false_or, or_false, not_true_eq_false, not_false_eq_true, if_true, if_false, ite_int, ite_int0, au_10, eq_self, decide_true, decide_false, Bool.true_and, Bool.false_and, au_in, au_le, au_lt, au_eq, au_lt0, au_ge0, au_le0, au_gt0, au_eq0, au_leT, au_leF, au_ltT, au_ltF, au_eqT, au_eqF, nI_clamp, nI_1, nI_add, pk_mul, au_sub1, au_subc, au_up2e, au_up2n, lit_of, hq.2.1.1, hq.2.1.2.1, hq.2.1.2.2.1, hq.2.1.2.2.2.1, hq.2.1.2.2.2.2.1, hq.2.1.2.2.2.2.2, hq.2.2.1, hq.2.2.2.1, hq.2.2.2.2.1, hq.2.2.2.2.2.1, hq.2.2.2.2.2.2, g7]
    exact hK _ I1 f g
  | cons s t ih =>
    intro i I1 hi hs hl f g
    rw [List.length_cons] at hi
    obtain ⟨p, hp, hpN, e⟩ := hs s (List.mem_cons_self ..)
    have g7 : I1 q 7 = nI T := by rw [f.1 q (by omega) (by omega) (by omega)]; exact h7
    have gs : I1 (q + 4) i = nI (2 ^ p) := by
      have := hl 0 (by rw [List.length_cons]; omega)
      rw [← e]; exact this
    rw [aw_iload_3 (pc2 := 3) D53_2 rfl]
    simp (disch := omega) only [aw_aload_2 (pc2 := 4) D53_3 rfl, aw_getI (pc2 := 7) (ci := 2) (fk := 7) D53_4 rfl fT_3_127 rfl, aw_icmp_ge (pc2 := 10) (t := 33) D53_7 (by decide) rfl, aw_aload_2 (pc2 := 11) D53_10 rfl, aw_getR (pc2 := 14) (ci := 2) (fk := 3) D53_11 rfl fT_3_130 rfl, aw_iload_3 (pc2 := 15) D53_14 rfl, aw_aload_0 (pc2 := 16) D53_15 rfl, aw_aload_1 (pc2 := 17) D53_16 rfl, aw_aload_2 (pc2 := 18) D53_17 rfl, aw_getR (pc2 := 21) (ci := 2) (fk := 3) D53_18 rfl fT_3_130 rfl, aw_iload_3 (pc2 := 22) D53_21 rfl, aw_iaload (pc2 := 23) D53_22 rfl, aw_iv2_0 (pc2 := 26) (o := 3) D53_23 rfl cT_3_133 rfl rfl, refV_s, refV_n, psh_s, psh_n, kil_i, kil_r, kil_n, kil_l, cat_i, cat_r, iOK_1, iOK_5, jOK_2, jOK_6, wOK_e, lOK_1, lOK_2, lOK_3, lOK_4, lOK_5, lOK_6, catS_0, catS_1, catS_2, catS_3, catS_4, and_self, true_and, and_true, true_or, or_true, false_or, or_false, not_true_eq_false, not_false_eq_true, if_true, if_false, ite_int, ite_int0, au_10, eq_self, decide_true, decide_false, Bool.true_and, Bool.false_and, au_in, au_le, au_lt, au_eq, au_lt0, au_ge0, au_le0, au_gt0, au_eq0, au_leT, au_leF, au_ltT, au_ltF, au_eqT, au_eqF, nI_clamp, nI_1, nI_add, pk_mul, au_sub1, au_subc, au_up2e, au_up2n, lit_of, hq.2.1.1, hq.2.1.2.1, hq.2.1.2.2.1, hq.2.1.2.2.2.1, hq.2.1.2.2.2.2.1, hq.2.1.2.2.2.2.2, hq.2.2.1, hq.2.2.2.1, hq.2.2.2.2.1, hq.2.2.2.2.2.1, hq.2.2.2.2.2.2, hB.1.1, hB.1.2.1, hB.1.2.2.1, hB.1.2.2.2.1, hB.1.2.2.2.2.1, hB.1.2.2.2.2.2.1, hB.1.2.2.2.2.2.2.1, hB.1.2.2.2.2.2.2.2.1, hB.1.2.2.2.2.2.2.2.2.1, hB.1.2.2.2.2.2.2.2.2.2.1, hB.1.2.2.2.2.2.2.2.2.2.2.1, hB.1.2.2.2.2.2.2.2.2.2.2.2.1, hB.1.2.2.2.2.2.2.2.2.2.2.2.2.1, hB.1.2.2.2.2.2.2.2.2.2.2.2.2.2, hB.2.1, hB.2.2.1, hB.2.2.2.1, hB.2.2.2.2.1, hB.2.2.2.2.2.1, hB.2.2.2.2.2.2.1, hB.2.2.2.2.2.2.2.1, hB.2.2.2.2.2.2.2.2.1, hB.2.2.2.2.2.2.2.2.2.1, hB.2.2.2.2.2.2.2.2.2.2.1, hB.2.2.2.2.2.2.2.2.2.2.2.1, hB.2.2.2.2.2.2.2.2.2.2.2.2.1, hB.2.2.2.2.2.2.2.2.2.2.2.2.2, sh_29, g7, gs]
    refine C_litOfS hB hBl hp g (fun v I2 w1 w2 w3 => ?_)
    simp (disch := omega) only [aw_iastore (pc2 := 27) D53_26 rfl, aw_iinc_3 (pc2 := 30) (y := 1) D53_27 rfl (by decide), aw_goto (t := 2) D53_30 (by decide), refV_s, refV_n, psh_s, psh_n, kil_i, kil_r, kil_n, kil_l, cat_i, cat_r, iOK_1, iOK_5, jOK_2, jOK_6, wOK_e, lOK_1, lOK_2, lOK_3, lOK_4, lOK_5, lOK_6, catS_0, catS_1, catS_2, catS_3, catS_4, and_self, true_and, and_true, true_or, or_true, false_or, or_false, not_true_eq_false, not_false_eq_true, if_true, if_false, ite_int, ite_int0, au_10, eq_self, decide_true, decide_false, Bool.true_and, Bool.false_and, au_in, au_le, au_lt, au_eq, au_lt0, au_ge0, au_le0, au_gt0, au_eq0, au_leT, au_leF, au_ltT, au_ltF, au_eqT, au_eqF, nI_clamp, nI_1, nI_add, pk_mul, au_sub1, au_subc, au_up2e, au_up2n, lit_of, hq.2.1.1, hq.2.1.2.1, hq.2.1.2.2.1, hq.2.1.2.2.2.1, hq.2.1.2.2.2.2.1, hq.2.1.2.2.2.2.2, hq.2.2.1, hq.2.2.2.1, hq.2.2.2.2.1, hq.2.2.2.2.2.1, hq.2.2.2.2.2.2, psh]
    refine ih (i + 1) _ (by omega) (fun s hs2 => hs s (List.mem_cons_of_mem _ hs2)) (fun j hj => ?_) (f.tr ⟨fun a a1 a2 a3 => ?_, fun k k1 k2 => ?_⟩) ⟨?_, ?_⟩
    · rw [au_up2n (by omega), w1 (q + 4) (by omega) (by omega)]
      have := hl (j + 1) (by rw [List.length_cons]; omega)
      rw [show i + 1 + j = i + (j + 1) by omega, this]
      rfl
    · rw [au_up2c a2]; exact w1 a a1 a3
    · rw [au_up2c (by omega)]; exact w2 k k2
    · rw [au_up2c (by omega)]; exact w3.1
    · rw [au_up2c (by omega)]; exact w3.2
theorem C_litLoop {N T : Nat} {S : ST} {ts : List Nat} {v4 : Value} (hN : N ≤ 12) (hq : LF Ln q) (hB : BF Ln B) (hBl : B + 13 < 29) (hT : T ≤ 12) (hK0 : ∀ v3 I', litAll ts S = none → frN B q I I' → spt B I' → AW (d + 2) ((G0 Ln).1, (G0 Ln).2.1) K 53 33 [.ref 29, .ref (B + 3), .ref q, v3, v4] [] (G0 Ln) I' J) (hK1 : ∀ v3 ns S' I', litAll ts S = some (ns, S') → frN B q I I' → lsA (q + 4) 0 ns I' → cst B S' I' → AW (d + 2) ((G0 Ln).1, (G0 Ln).2.1) K 53 33 [.ref 29, .ref (B + 3), .ref q, v3, v4] [] (G0 Ln) I' J) (h7 : I q 7 = nI T) : ∀ (t ls : List Nat) (S1 : ST) (I1 : IT), ls.length + t.length = T → (litAll t S1 = none → litAll ts S = none) → (∀ ns S', litAll t S1 = some (ns, S') → litAll ts S = some (ls ++ ns, S')) → stC N S1 → sgs N t → lsA (q + 4) 0 ls I1 → lsA (q + 4) ls.length t I1 → frN B q I I1 → cst B S1 I1 → AW (d + 2) ((G0 Ln).1, (G0 Ln).2.1) K 53 2 [.ref 29, .ref (B + 3), .ref q, .int (nI ls.length), v4] [] (G0 Ln) I1 J := by
  have hq1 := hq.1.1
  have hq2 := hq.1.2
  intro t
  induction t with
  | nil =>
    intro ls S1 I1 hi e0 e1 hS hs hls hl f g
    have e : ls.length = T := hi
    subst e
    have g7 : I1 q 7 = nI ls.length := by rw [f.1 q (by omega) (by omega) (by omega)]; exact h7
    simp (disch := omega) only [aw_iload_3 (pc2 := 3) D53_2 rfl, aw_aload_2 (pc2 := 4) D53_3 rfl, aw_getI (pc2 := 7) (ci := 2) (fk := 7) D53_4 rfl fT_3_127 rfl, aw_icmp_ge (pc2 := 10) (t := 33) D53_7 (by decide) rfl, refV_s, refV_n, psh_s, psh_n, kil_i, kil_r, kil_n, kil_l, cat_i, cat_r, iOK_1, iOK_5, jOK_2, jOK_6, wOK_e, lOK_1, lOK_2, lOK_3, lOK_4, lOK_5, lOK_6, catS_0, catS_1, catS_2, catS_3, catS_4, and_self, true_and, and_true, true_or, or_true, false_or, or_false, not_true_eq_false, not_false_eq_true, if_true, if_false, ite_int, ite_int0, au_10, eq_self, decide_true, decide_false, Bool.true_and, Bool.false_and, au_in, au_le, au_lt, au_eq, au_lt0, au_ge0, au_le0, au_gt0, au_eq0, au_leT, au_leF, au_ltT, au_ltF, au_eqT, au_eqF, nI_clamp, nI_1, nI_add, pk_mul, au_sub1, au_subc, au_up2e, au_up2n, lit_of, hq.2.1.1, hq.2.1.2.1, hq.2.1.2.2.1, hq.2.1.2.2.2.1, hq.2.1.2.2.2.2.1, hq.2.1.2.2.2.2.2, hq.2.2.1, hq.2.2.2.1, hq.2.2.2.2.1, hq.2.2.2.2.2.1, hq.2.2.2.2.2.2, g7]
    refine hK1 _ ls S1 I1 ?_ f hls g
    have := e1 [] S1 rfl
    rwa [List.append_nil] at this
  | cons s t ih =>
    intro ls S1 I1 hi e0 e1 hS hs hls hl f g
    rw [List.length_cons] at hi
    obtain ⟨p, hp, hpN, e⟩ := hs s (List.mem_cons_self ..)
    have g7 : I1 q 7 = nI T := by rw [f.1 q (by omega) (by omega) (by omega)]; exact h7
    have gs : I1 (q + 4) ls.length = nI (2 ^ p) := by
      have := hl 0 (by rw [List.length_cons]; omega)
      rw [← e]; exact this
    have hs2 : sgs N t := fun s hs2 => hs s (List.mem_cons_of_mem _ hs2)
    have hrest : ∀ v I2, I2 = I2 → (∀ a, a ≠ 38 → (a < B + 3 ∨ B + 8 < a) → I2 a = I1 a) → lsA (q + 4) (ls.length + 1) t (up2 I2 (q + 4) ls.length v) := by
      intro v I2 _ w1 j hj
      rw [au_up2n (by omega), w1 (q + 4) (by omega) (by omega)]
      have := hl (j + 1) (by rw [List.length_cons]; omega)
      rw [show ls.length + 1 + j = ls.length + (j + 1) by omega, this]
      rfl
    rw [aw_iload_3 (pc2 := 3) D53_2 rfl]
    simp (disch := omega) only [aw_aload_2 (pc2 := 4) D53_3 rfl, aw_getI (pc2 := 7) (ci := 2) (fk := 7) D53_4 rfl fT_3_127 rfl, aw_icmp_ge (pc2 := 10) (t := 33) D53_7 (by decide) rfl, aw_aload_2 (pc2 := 11) D53_10 rfl, aw_getR (pc2 := 14) (ci := 2) (fk := 3) D53_11 rfl fT_3_130 rfl, aw_iload_3 (pc2 := 15) D53_14 rfl, aw_aload_0 (pc2 := 16) D53_15 rfl, aw_aload_1 (pc2 := 17) D53_16 rfl, aw_aload_2 (pc2 := 18) D53_17 rfl, aw_getR (pc2 := 21) (ci := 2) (fk := 3) D53_18 rfl fT_3_130 rfl, aw_iload_3 (pc2 := 22) D53_21 rfl, aw_iaload (pc2 := 23) D53_22 rfl, aw_iv2_0 (pc2 := 26) (o := 3) D53_23 rfl cT_3_133 rfl rfl, refV_s, refV_n, psh_s, psh_n, kil_i, kil_r, kil_n, kil_l, cat_i, cat_r, iOK_1, iOK_5, jOK_2, jOK_6, wOK_e, lOK_1, lOK_2, lOK_3, lOK_4, lOK_5, lOK_6, catS_0, catS_1, catS_2, catS_3, catS_4, and_self, true_and, and_true, true_or, or_true, false_or, or_false, not_true_eq_false, not_false_eq_true, if_true, if_false, ite_int, ite_int0, au_10, eq_self, decide_true, decide_false, Bool.true_and, Bool.false_and, au_in, au_le, au_lt, au_eq, au_lt0, au_ge0, au_le0, au_gt0, au_eq0, au_leT, au_leF, au_ltT, au_ltF, au_eqT, au_eqF, nI_clamp, nI_1, nI_add, pk_mul, au_sub1, au_subc, au_up2e, au_up2n, lit_of, hq.2.1.1, hq.2.1.2.1, hq.2.1.2.2.1, hq.2.1.2.2.2.1, hq.2.1.2.2.2.2.1, hq.2.1.2.2.2.2.2, hq.2.2.1, hq.2.2.2.1, hq.2.2.2.2.1, hq.2.2.2.2.2.1, hq.2.2.2.2.2.2, hB.1.1, hB.1.2.1, hB.1.2.2.1, hB.1.2.2.2.1, hB.1.2.2.2.2.1, hB.1.2.2.2.2.2.1, hB.1.2.2.2.2.2.2.1, hB.1.2.2.2.2.2.2.2.1, hB.1.2.2.2.2.2.2.2.2.1, hB.1.2.2.2.2.2.2.2.2.2.1, hB.1.2.2.2.2.2.2.2.2.2.2.1, hB.1.2.2.2.2.2.2.2.2.2.2.2.1, hB.1.2.2.2.2.2.2.2.2.2.2.2.2.1, hB.1.2.2.2.2.2.2.2.2.2.2.2.2.2, hB.2.1, hB.2.2.1, hB.2.2.2.1, hB.2.2.2.2.1, hB.2.2.2.2.2.1, hB.2.2.2.2.2.2.1, hB.2.2.2.2.2.2.2.1, hB.2.2.2.2.2.2.2.2.1, hB.2.2.2.2.2.2.2.2.2.1, hB.2.2.2.2.2.2.2.2.2.2.1, hB.2.2.2.2.2.2.2.2.2.2.2.1, hB.2.2.2.2.2.2.2.2.2.2.2.2.1, hB.2.2.2.2.2.2.2.2.2.2.2.2.2, sh_29, g7, gs]
    refine C_litOf (S := S1) hB hBl hp hS.1 (fun i n hi hn => Nat.lt_of_lt_of_le (hS.2.2.2 i n hi hn) hS.1) g (fun n S2 I2 hlp w1 w2 w3 => ?_) (fun v I2 hlp w1 w2 w3 => ?_)
    · have hlo := litP_ok hS hp hpN hlp
      simp (disch := omega) only [aw_iastore (pc2 := 27) D53_26 rfl, aw_iinc_3 (pc2 := 30) (y := 1) D53_27 rfl (by decide), aw_goto (t := 2) D53_30 (by decide), refV_s, refV_n, psh_s, psh_n, kil_i, kil_r, kil_n, kil_l, cat_i, cat_r, iOK_1, iOK_5, jOK_2, jOK_6, wOK_e, lOK_1, lOK_2, lOK_3, lOK_4, lOK_5, lOK_6, catS_0, catS_1, catS_2, catS_3, catS_4, and_self, true_and, and_true, true_or, or_true, false_or, or_false, not_true_eq_false, not_false_eq_true, if_true, if_false, ite_int, ite_int0, au_10, eq_self, decide_true, decide_false, Bool.true_and, Bool.false_and, au_in, au_le, au_lt, au_eq, au_lt0, au_ge0, au_le0, au_gt0, au_eq0, au_leT, au_leF, au_ltT, au_ltF, au_eqT, au_eqF, nI_clamp, nI_1, nI_add, pk_mul, au_sub1, au_subc, au_up2e, au_up2n, lit_of, hq.2.1.1, hq.2.1.2.1, hq.2.1.2.2.1, hq.2.1.2.2.2.1, hq.2.1.2.2.2.2.1, hq.2.1.2.2.2.2.2, hq.2.2.1, hq.2.2.2.1, hq.2.2.2.2.1, hq.2.2.2.2.2.1, hq.2.2.2.2.2.2, psh]
      have := ih (ls ++ [n]) S2 (up2 I2 (q + 4) ls.length (nI n)) (by rw [List.length_append, List.length_singleton]; omega) (fun z => e0 (by rw [e]; unfold litAll; rw [hlp]; simp only [z])) (fun ns S' z => by
        rw [List.append_assoc]
        exact e1 (n :: ns) S' (by rw [e]; unfold litAll; rw [hlp]; simp only [z])) hlo.1.1 hs2 (fun j hj => ?_) (by rw [List.length_append]; exact hrest _ I2 rfl w1) (f.tr ⟨fun a a1 a2 a3 => ?_, fun k k1 k2 => ?_⟩) ?_
      · rw [List.length_append] at this
        exact this
      · rw [List.length_append, List.length_singleton] at hj
        rw [get_snoc hj, Nat.zero_add]
        by_cases ej : j = ls.length
        · rw [if_pos ej]; exact au_up2e ⟨rfl, ej⟩
        · rw [if_neg ej, au_up2n (Or.inr ej), w1 (q + 4) (by omega) (by omega)]
          have := hls j (by omega)
          rw [Nat.zero_add] at this
          exact this
      · rw [au_up2c a2]; exact w1 a a1 a3
      · rw [au_up2c (by omega)]; exact w2 k k1
      · obtain ⟨c1, c2, c3, c4, c5⟩ := w3
        exact ⟨grC_cong (fun a _ _ => au_up2c (by omega)) (by rw [au_up2c (by omega)]) c1, by rw [au_up2c (by omega)]; exact c2, by rw [au_up2c (by omega)]; exact c3, fun i hi => by rw [au_up2c (by omega)]; exact c4 i hi, mtC_cong (fun a _ _ => au_up2c (by omega)) c5⟩
    · simp (disch := omega) only [aw_iastore (pc2 := 27) D53_26 rfl, aw_iinc_3 (pc2 := 30) (y := 1) D53_27 rfl (by decide), aw_goto (t := 2) D53_30 (by decide), refV_s, refV_n, psh_s, psh_n, kil_i, kil_r, kil_n, kil_l, cat_i, cat_r, iOK_1, iOK_5, jOK_2, jOK_6, wOK_e, lOK_1, lOK_2, lOK_3, lOK_4, lOK_5, lOK_6, catS_0, catS_1, catS_2, catS_3, catS_4, and_self, true_and, and_true, true_or, or_true, false_or, or_false, not_true_eq_false, not_false_eq_true, if_true, if_false, ite_int, ite_int0, au_10, eq_self, decide_true, decide_false, Bool.true_and, Bool.false_and, au_in, au_le, au_lt, au_eq, au_lt0, au_ge0, au_le0, au_gt0, au_eq0, au_leT, au_leF, au_ltT, au_ltF, au_eqT, au_eqF, nI_clamp, nI_1, nI_add, pk_mul, au_sub1, au_subc, au_up2e, au_up2n, lit_of, hq.2.1.1, hq.2.1.2.1, hq.2.1.2.2.1, hq.2.1.2.2.2.1, hq.2.1.2.2.2.2.1, hq.2.1.2.2.2.2.2, hq.2.2.1, hq.2.2.2.1, hq.2.2.2.2.1, hq.2.2.2.2.2.1, hq.2.2.2.2.2.2, psh]
      exact C_litLoopS hq hB hBl hT (fun v3 I' f' g' => hK0 v3 I' (e0 (by rw [e]; unfold litAll; rw [hlp])) f' g') h7 t (ls.length + 1) _ (by omega) (fun s h2 => by obtain ⟨p, a, b, c⟩ := hs2 s h2; exact ⟨p, a, by omega, c⟩) (hrest _ I2 rfl w1) (f.tr ⟨fun a a1 a2 a3 => by rw [au_up2c a2]; exact w1 a a1 a3, fun k k1 k2 => by rw [au_up2c (by omega)]; exact w2 k k2⟩) ⟨by rw [au_up2c (by omega)]; exact w3.1, by rw [au_up2c (by omega)]; exact w3.2⟩
theorem C_nodeOfList {N : Nat} {S : ST} {t nds : List Nat} (hN : N ≤ 12) (hq : LF Ln q) (hB : BF Ln B) (hBl : B + 13 < 29) (hl : t.length + nds.length ≤ 12) (hS : stC N S) (ht : sgs N t) (hnd : ∀ x, x ∈ nds → x < S.1.length) (h7 : I q 7 = nI t.length) (h8 : I q 8 = nI nds.length) (h4 : lsA (q + 4) 0 t I) (h5 : lsA (q + 5) 0 nds I) (h : cst B S I) (hs : ∀ n S' I', nodeL t nds S = some (n, S') → frN B q I I' → cst B S' I' → K (some (.int (nI n))) (G0 Ln) I' J) (hK : ∀ v I', nodeL t nds S = none → frN B q I I' → spt B I' → K (some (.int v)) (G0 Ln) I' J) : ACall (d + 3) 53 [.ref 29, .ref (B + 3), .ref q] (G0 Ln) I J K := by
  have hq1 := hq.1.1
  have hq2 := hq.1.2
  rw [ACall_0 (L0 := [.ref 29, .ref (B + 3), .ref q, nv, nv]) (show mcs 53 = (0, 0) from rfl) (show entL 53 [.ref 29, .ref (B + 3), .ref q] = _ from rfl) rfl (Nat.le_of_ble_eq_true rfl)]
  simp (disch := omega) only [aw_iconst (pc2 := 1) (y := 0) D53_0 rfl (by decide), aw_istore_3 (pc2 := 2) D53_1 rfl, refV_s, refV_n, psh_s, psh_n, kil_i, kil_r, kil_n, kil_l, cat_i, cat_r, iOK_1, iOK_5, jOK_2, jOK_6, wOK_e, lOK_1, lOK_2, lOK_3, lOK_4, lOK_5, lOK_6, catS_0, catS_1, catS_2, catS_3, catS_4, and_self, true_and, and_true, true_or, or_true, false_or, or_false, not_true_eq_false, not_false_eq_true, if_true, if_false, ite_int, ite_int0, au_10, eq_self, decide_true, decide_false, Bool.true_and, Bool.false_and, au_in, au_le, au_lt, au_eq, au_lt0, au_ge0, au_le0, au_gt0, au_eq0, au_leT, au_leF, au_ltT, au_ltF, au_eqT, au_eqF, nI_clamp, nI_1, nI_add, pk_mul, au_sub1, au_subc, au_up2e, au_up2n, lit_of]
  refine C_litLoop (ts := t) (S := S) hN hq hB hBl (show t.length ≤ 12 by omega) (fun v3 I' e f g => ?_) (fun v3 ns S' I' e f hl2 g => ?_) h7 t [] S I (Nat.zero_add _) id (fun ns S' e => e) hS ht (fun j hj => absurd hj (Nat.not_lt_zero _)) h4 frN.rf h
  · exact C_nodeTailS hq hB hBl (show t.length ≤ 12 by omega) (show nds.length ≤ 12 by omega) (by rw [f.1 q (by omega) (by omega) (by omega)]; exact h7) (by rw [f.1 q (by omega) (by omega) (by omega)]; exact h8) g (fun v I2 f2 g2 => hK v I2 (by unfold nodeL; rw [e]) (f.tr f2) g2)
  · obtain ⟨a, b, c⟩ := litAll_ok hS ht e
    have en : ∀ r, endL (ns ++ nds) S' = r → nodeL t nds S = r := fun r z => by unfold nodeL; rw [e]; exact z
    exact C_nodeTail (ls := ns) (nds := nds) hq hB hBl (by omega) a.1 c (fun x hx => Nat.lt_of_lt_of_le (hnd x hx) a.2.1) (by rw [f.1 q (by omega) (by omega) (by omega), b]; exact h7) (by rw [f.1 q (by omega) (by omega) (by omega)]; exact h8) hl2 (fun j hj => by rw [f.1 (q + 5) (by omega) (by omega) (by omega)]; exact h5 j hj) g (fun n S2 I2 z f2 g2 => hs n S2 I2 (en _ z) (f.tr f2) g2) (fun v I2 z f2 g2 => hK v I2 (en _ z) (f.tr f2) g2)
end NodeL
