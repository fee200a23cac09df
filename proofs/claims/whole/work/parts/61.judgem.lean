section JudgeM
variable {d Ln b : Nat} {I : IT} {J : JT} {K : KT} {σ : SG}
theorem bI_inj {p q : Bool} : (bI p = bI q) ↔ p = q := by cases p <;> cases q <;> decide
theorem ltP_lt {L : Nat → Nat} {ps : List Nat} (h : ∀ j, j < ps.length → L (ps.getD j 0) < 4096) : ∀ j, j ≤ ps.length → ltP L ps 0 j < 2 ^ 12
  | 0, _ => (show 0 < 2 ^ 12 by decide)
  | j + 1, hj => Nat.or_lt_two_pow (ltP_lt h j (by omega)) (h j (by omega))
theorem shB_up {L : Nat → Nat} {ps : List Nat} {j : Nat} (h : shB L ps j = true) : ∀ m, j ≤ m → shB L ps m = true
  | 0, hm => by
    have : j = 0 := by omega
    rw [this] at h; exact h
  | m + 1, hm => by
    by_cases e : j = m + 1
    · rw [← e]; exact h
    · rw [shB, shB_up h m (by omega), Bool.true_or]
theorem M_sharesLetters {i N : Nat} {g : GR} {I0 : IT} (hb : b < 2) (hN : N ≤ 12) (hgo : grOK N g) (hg : MG b N g I0) (ho : ∀ c, (c = 134 ∨ c = 135 ∨ c = 136 ∨ c = 137 ∨ c = 138) → I c = I0 c) (h158 : ∀ i, i < g.1.length → I 158 i = nI (lts g i)) (hi : i < g.1.length) : ACall (d + 1) 175 [.ref 122, .int (nI b), .int (nI i)] (G0 Ln) I J K ↔ K (some (.int (bI (shB (lts g) (nodeAt g i).2.2 (nodeAt g i).2.2.length)))) (G0 Ln) I J := by
  rw [ACall_0 (L0 := [.ref 122, .int (nI b), .int (nI i), nv, nv, nv, nv]) (show mcs 175 = (0, 0) from rfl) (show entL 175 [.ref 122, .int (nI b), .int (nI i)] = _ from rfl) rfl (Nat.le_of_ble_eq_true rfl)]
  obtain ⟨n1, n2, n3, n4, n5⟩ := hg.2.2.1 i hi
  have hno := node_ok hgo hi
  have h15 := hgo.2.1
  have hl12 := nd_len hno
  have hpo := po_le hgo (show i ≤ g.1.length by omega)
  have hlp := ltP_lt (L := lts g) (ps := (nodeAt g i).2.2) (fun j hj => lts_lt hN hgo _ (by have := nd_part hno hj; omega))
  simp (disch := omega) only [aw_sipush (pc2 := 3) (y := 1500) D175_0 rfl (by decide), aw_iload_1 (pc2 := 4) D175_3 rfl, aw_imul (pc2 := 5) D175_4 rfl, aw_iload_2 (pc2 := 6) D175_5 rfl, aw_iadd (pc2 := 7) D175_6 rfl, aw_istore_3 (pc2 := 8) D175_7 rfl, aw_iconst (pc2 := 9) (y := 0) D175_8 rfl (by decide), aw_istore_4 (pc2 := 11) D175_9 rfl, aw_iconst (pc2 := 12) (y := 0) D175_11 rfl (by decide), aw_istore_5 (pc2 := 14) D175_12 rfl, sh_122, lit_1500, rf_122_14, sh_137, rf_122_40, sh_158, rf_122_15, sh_138, rf_122_13, sh_136, refV_s, refV_n, psh_s, psh_n, kil_i, kil_r, kil_n, kil_l, cat_i, cat_r, iOK_1, iOK_5, jOK_2, jOK_6, wOK_e, lOK_1, lOK_2, lOK_3, lOK_4, lOK_5, lOK_6, catS_0, catS_1, catS_2, catS_3, catS_4, and_self, true_and, and_true, true_or, or_true, false_or, or_false, not_true_eq_false, not_false_eq_true, if_true, if_false, ite_int, ite_int0, au_10, eq_self, decide_true, decide_false, Bool.true_and, Bool.false_and, au_in, au_le, au_lt, au_eq, au_lt0, au_ge0, au_le0, au_gt0, au_eq0, au_leT, au_leF, au_ltT, au_ltF, au_eqT, au_eqF, nI_clamp, nI_1, nI_add, pk_mul, au_sub1, au_subc, au_up2e, au_up2n, lit_of, lit_1500]
  have key : ∀ n j v, j + n = (nodeAt g i).2.2.length → kil v = v → shB (lts g) (nodeAt g i).2.2 j = false → (AW d ((G0 Ln).1, (G0 Ln).2.1) K 175 14 [.ref 122, .int (nI b), .int (nI i), .int (nI (1500 * b + i)), .int (nI (ltP (lts g) (nodeAt g i).2.2 0 j)), .int (nI j), v] [] (G0 Ln) I J ↔ K (some (.int (bI (shB (lts g) (nodeAt g i).2.2 (nodeAt g i).2.2.length)))) (G0 Ln) I J) := by
    intro n
    induction n with
    | zero =>
      intro j v hj hv hsh
      have e : j = (nodeAt g i).2.2.length := by omega
      subst e
      simp (disch := omega) only [aw_iload_5 (pc2 := 16) D175_14 rfl, aw_aload_0 (pc2 := 17) D175_16 rfl, aw_getR (pc2 := 20) (ci := 7) (fk := 14) D175_17 rfl fT_7_52 rfl, aw_iload_3 (pc2 := 21) D175_20 rfl, aw_iaload (pc2 := 22) D175_21 rfl, aw_icmp_ge (pc2 := 25) (t := 69) D175_22 (by decide) rfl, aw_iconst (pc2 := 70) (y := 0) D175_69 rfl (by decide), aw_zret D175_70 rfl, sh_122, lit_1500, rf_122_14, sh_137, rf_122_40, sh_158, rf_122_15, sh_138, rf_122_13, sh_136, refV_s, refV_n, psh_s, psh_n, kil_i, kil_r, kil_n, kil_l, cat_i, cat_r, iOK_1, iOK_5, jOK_2, jOK_6, wOK_e, lOK_1, lOK_2, lOK_3, lOK_4, lOK_5, lOK_6, catS_0, catS_1, catS_2, catS_3, catS_4, and_self, true_and, and_true, true_or, or_true, false_or, or_false, not_true_eq_false, not_false_eq_true, if_true, if_false, ite_int, ite_int0, au_10, eq_self, decide_true, decide_false, Bool.true_and, Bool.false_and, au_in, au_le, au_lt, au_eq, au_lt0, au_ge0, au_le0, au_gt0, au_eq0, au_leT, au_leF, au_ltT, au_ltF, au_eqT, au_eqF, nI_clamp, nI_1, nI_add, pk_mul, au_sub1, au_subc, au_up2e, au_up2n, lit_of, ho 137 (by omega), n3, hsh]
      exact Iff.rfl
    | succ n ih =>
      intro j v hj hv hsh
      have hjl : j < (nodeAt g i).2.2.length := by omega
      have hlt := nd_part hno hjl
      have hp1 := hlp j (by omega)
      have hand : ltP (lts g) (nodeAt g i).2.2 0 j &&& lts g ((nodeAt g i).2.2.getD j 0) < 2 ^ 31 := Nat.lt_of_le_of_lt Nat.and_le_left (by omega)
      have ihn := ih (j + 1)
      rw [aw_iload_5 (pc2 := 16) D175_14 rfl]
      simp (disch := omega) only [aw_aload_0 (pc2 := 17) D175_16 rfl, aw_getR (pc2 := 20) (ci := 7) (fk := 14) D175_17 rfl fT_7_52 rfl, aw_iload_3 (pc2 := 21) D175_20 rfl, aw_iaload (pc2 := 22) D175_21 rfl, aw_icmp_ge (pc2 := 25) (t := 69) D175_22 (by decide) rfl, aw_aload_0 (pc2 := 26) D175_25 rfl, aw_getR (pc2 := 29) (ci := 7) (fk := 40) D175_26 rfl fT_7_117 rfl, aw_aload_0 (pc2 := 30) D175_29 rfl, aw_getR (pc2 := 33) (ci := 7) (fk := 15) D175_30 rfl fT_7_56 rfl, aw_aload_0 (pc2 := 34) D175_33 rfl, aw_getR (pc2 := 37) (ci := 7) (fk := 13) D175_34 rfl fT_7_49 rfl, aw_iload_3 (pc2 := 38) D175_37 rfl, aw_iaload (pc2 := 39) D175_38 rfl, aw_iload_5 (pc2 := 41) D175_39 rfl, aw_iadd (pc2 := 42) D175_41 rfl, aw_iaload (pc2 := 43) D175_42 rfl, aw_iaload (pc2 := 44) D175_43 rfl, aw_istore_6 (pc2 := 46) D175_44 rfl, aw_iload_4 (pc2 := 48) D175_46 rfl, aw_iload_6 (pc2 := 50) D175_48 rfl, aw_iand (pc2 := 51) D175_50 rfl, aw_if_eq (pc2 := 54) (t := 56) D175_51 (by decide) rfl, sh_122, lit_1500, rf_122_14, sh_137, rf_122_40, sh_158, rf_122_15, sh_138, rf_122_13, sh_136, refV_s, refV_n, psh_s, psh_n, kil_i, kil_r, kil_n, kil_l, cat_i, cat_r, iOK_1, iOK_5, jOK_2, jOK_6, wOK_e, lOK_1, lOK_2, lOK_3, lOK_4, lOK_5, lOK_6, catS_0, catS_1, catS_2, catS_3, catS_4, and_self, true_and, and_true, true_or, or_true, false_or, or_false, not_true_eq_false, not_false_eq_true, if_true, if_false, ite_int, ite_int0, au_10, eq_self, decide_true, decide_false, Bool.true_and, Bool.false_and, au_in, au_le, au_lt, au_eq, au_lt0, au_ge0, au_le0, au_gt0, au_eq0, au_leT, au_leF, au_ltT, au_ltF, au_eqT, au_eqF, nI_clamp, nI_1, nI_add, pk_mul, au_sub1, au_subc, au_up2e, au_up2n, lit_of, ho 137 (by omega), ho 136 (by omega), ho 138 (by omega), n3, n4, n5 j hjl, h158 _ (show (nodeAt g i).2.2.getD j 0 < g.1.length by omega), hv, fa_and]
      by_cases hz : ltP (lts g) (nodeAt g i).2.2 0 j &&& lts g ((nodeAt g i).2.2.getD j 0) = 0
      · rw [if_pos hz]
        simp (disch := omega) only [aw_iload_4 (pc2 := 58) D175_56 rfl, aw_iload_6 (pc2 := 60) D175_58 rfl, aw_ior (pc2 := 61) D175_60 rfl, aw_istore_4 (pc2 := 63) D175_61 rfl, aw_iinc_5 (pc2 := 66) (y := 1) D175_63 rfl (by decide), aw_goto (t := 14) D175_66 (by decide), sh_122, lit_1500, rf_122_14, sh_137, rf_122_40, sh_158, rf_122_15, sh_138, rf_122_13, sh_136, refV_s, refV_n, psh_s, psh_n, kil_i, kil_r, kil_n, kil_l, cat_i, cat_r, iOK_1, iOK_5, jOK_2, jOK_6, wOK_e, lOK_1, lOK_2, lOK_3, lOK_4, lOK_5, lOK_6, catS_0, catS_1, catS_2, catS_3, catS_4, and_self, true_and, and_true, true_or, or_true, false_or, or_false, not_true_eq_false, not_false_eq_true, if_true, if_false, ite_int, ite_int0, au_10, eq_self, decide_true, decide_false, Bool.true_and, Bool.false_and, au_in, au_le, au_lt, au_eq, au_lt0, au_ge0, au_le0, au_gt0, au_eq0, au_leT, au_leF, au_ltT, au_ltF, au_eqT, au_eqF, nI_clamp, nI_1, nI_add, pk_mul, au_sub1, au_subc, au_up2e, au_up2n, lit_of, fa_or]
        exact ihn _ (by omega) rfl (by rw [shB, hsh, decide_eq_false (fun q => q hz)]; rfl)
      · rw [if_neg hz]
        have h1 : shB (lts g) (nodeAt g i).2.2 (j + 1) = true := by rw [shB, decide_eq_true hz, Bool.or_true]
        rw [shB_up h1 _ (by omega)]
        simp (disch := omega) only [aw_iconst (pc2 := 55) (y := 1) D175_54 rfl (by decide), aw_zret D175_55 rfl, sh_122, lit_1500, rf_122_14, sh_137, rf_122_40, sh_158, rf_122_15, sh_138, rf_122_13, sh_136, refV_s, refV_n, psh_s, psh_n, kil_i, kil_r, kil_n, kil_l, cat_i, cat_r, iOK_1, iOK_5, jOK_2, jOK_6, wOK_e, lOK_1, lOK_2, lOK_3, lOK_4, lOK_5, lOK_6, catS_0, catS_1, catS_2, catS_3, catS_4, and_self, true_and, and_true, true_or, or_true, false_or, or_false, not_true_eq_false, not_false_eq_true, if_true, if_false, ite_int, ite_int0, au_10, eq_self, decide_true, decide_false, Bool.true_and, Bool.false_and, au_in, au_le, au_lt, au_eq, au_lt0, au_ge0, au_le0, au_gt0, au_eq0, au_leT, au_leF, au_ltT, au_ltF, au_eqT, au_eqF, nI_clamp, nI_1, nI_add, pk_mul, au_sub1, au_subc, au_up2e, au_up2n, lit_of]
        exact Iff.rfl
  exact key (nodeAt g i).2.2.length 0 nv (by omega) rfl rfl
theorem M_hasOwnLetter {i N : Nat} {g : GR} {I0 : IT} (hb : b < 2) (hN : N ≤ 12) (hgo : grOK N g) (hg : MG b N g I0) (ho : ∀ c, (c = 134 ∨ c = 135 ∨ c = 136 ∨ c = 137 ∨ c = 138) → I c = I0 c) (h158 : ∀ i, i < g.1.length → I 158 i = nI (lts g i)) (hi : i < g.1.length) (h4 : (nodeAt g i).1 = 4) : ACall (d + 1) 176 [.ref 122, .int (nI b), .int (nI i)] (G0 Ln) I J K ↔ K (some (.int (bI (J2 g i)))) (G0 Ln) I J := by
  rw [ACall_0 (L0 := [.ref 122, .int (nI b), .int (nI i), nv, nv, nv]) (show mcs 176 = (0, 0) from rfl) (show entL 176 [.ref 122, .int (nI b), .int (nI i)] = _ from rfl) rfl (Nat.le_of_ble_eq_true rfl)]
  obtain ⟨n1, n2, n3, n4, n5⟩ := hg.2.2.1 i hi
  have hno := node_ok hgo hi
  have h15 := hgo.2.1
  have hl12 := nd_len hno
  have hpo := po_le hgo (show i ≤ g.1.length by omega)
  have hlp := ltP_lt (L := lts g) (ps := (nodeAt g i).2.2) (fun j hj => lts_lt hN hgo _ (by have := nd_part hno hj; omega))
  have hs : 1 ≤ (nodeAt g i).2.1 ∧ (nodeAt g i).2.1 ≤ N ∧ (nodeAt g i).2.2.length = 2 := by
    rcases hno.2 with z | z | z | z
    · omega
    · omega
    · omega
    · exact ⟨z.2.1, z.2.2.1, z.2.2.2⟩
  obtain ⟨t, ht⟩ : ∃ t : Nat, (nodeAt g i).2.1 = (t : Int) + 1 := ⟨((nodeAt g i).2.1 - 1).toNat, by omega⟩
  have ht12 : t < 12 := by omega
  have ei : iI ((t : Int) + 1) = nI (t + 1) := (lt_bits t ht12).2.2.2.2.1.symm
  simp (disch := omega) only [aw_sipush (pc2 := 3) (y := 1500) D176_0 rfl (by decide), aw_iload_1 (pc2 := 4) D176_3 rfl, aw_imul (pc2 := 5) D176_4 rfl, aw_iload_2 (pc2 := 6) D176_5 rfl, aw_iadd (pc2 := 7) D176_6 rfl, aw_istore_3 (pc2 := 8) D176_7 rfl, aw_iconst (pc2 := 9) (y := 0) D176_8 rfl (by decide), aw_istore_4 (pc2 := 11) D176_9 rfl, aw_iconst (pc2 := 12) (y := 0) D176_11 rfl (by decide), aw_istore_5 (pc2 := 14) D176_12 rfl, sh_122, lit_1500, rf_122_14, sh_137, rf_122_40, sh_158, rf_122_15, sh_138, rf_122_13, sh_136, rf_122_12, sh_135, refV_s, refV_n, psh_s, psh_n, kil_i, kil_r, kil_n, kil_l, cat_i, cat_r, iOK_1, iOK_5, jOK_2, jOK_6, wOK_e, lOK_1, lOK_2, lOK_3, lOK_4, lOK_5, lOK_6, catS_0, catS_1, catS_2, catS_3, catS_4, and_self, true_and, and_true, true_or, or_true, false_or, or_false, not_true_eq_false, not_false_eq_true, if_true, if_false, ite_int, ite_int0, au_10, eq_self, decide_true, decide_false, Bool.true_and, Bool.false_and, au_in, au_le, au_lt, au_eq, au_lt0, au_ge0, au_le0, au_gt0, au_eq0, au_leT, au_leF, au_ltT, au_ltF, au_eqT, au_eqF, nI_clamp, nI_1, nI_add, pk_mul, au_sub1, au_subc, au_up2e, au_up2n, lit_of, lit_1500]
  have key : ∀ n j, j + n = (nodeAt g i).2.2.length → (AW d ((G0 Ln).1, (G0 Ln).2.1) K 176 14 [.ref 122, .int (nI b), .int (nI i), .int (nI (1500 * b + i)), .int (nI (ltP (lts g) (nodeAt g i).2.2 0 j)), .int (nI j)] [] (G0 Ln) I J ↔ K (some (.int (bI (J2 g i)))) (G0 Ln) I J) := by
    intro n
    induction n with
    | zero =>
      intro j hj
      have e : j = (nodeAt g i).2.2.length := by omega
      subst e
      have hl := hlp (nodeAt g i).2.2.length (Nat.le_refl _)
      have ej : J2 g i = (ltP (lts g) (nodeAt g i).2.2 0 (nodeAt g i).2.2.length).testBit t := by
        unfold J2
        rw [decide_eq_true h4, Bool.true_and, hs.2.2, show (nodeAt g i).2.1.toNat - 1 = t by omega]
      simp (disch := omega) only [aw_iload_5 (pc2 := 16) D176_14 rfl, aw_aload_0 (pc2 := 17) D176_16 rfl, aw_getR (pc2 := 20) (ci := 7) (fk := 14) D176_17 rfl fT_7_52 rfl, aw_iload_3 (pc2 := 21) D176_20 rfl, aw_iaload (pc2 := 22) D176_21 rfl, aw_icmp_ge (pc2 := 25) (t := 55) D176_22 (by decide) rfl, aw_iload_4 (pc2 := 57) D176_55 rfl, aw_aload_0 (pc2 := 58) D176_57 rfl, aw_getR (pc2 := 61) (ci := 7) (fk := 12) D176_58 rfl fT_7_46 rfl, aw_iload_3 (pc2 := 62) D176_61 rfl, aw_iaload (pc2 := 63) D176_62 rfl, aw_iconst (pc2 := 64) (y := 1) D176_63 rfl (by decide), aw_isub (pc2 := 65) D176_64 rfl, aw_ishr (pc2 := 66) D176_65 rfl, aw_iconst (pc2 := 67) (y := 1) D176_66 rfl (by decide), aw_iand (pc2 := 68) D176_67 rfl, aw_iconst (pc2 := 69) (y := 1) D176_68 rfl (by decide), aw_icmp_ne (pc2 := 72) (t := 76) D176_69 (by decide) rfl, aw_iconst (pc2 := 73) (y := 1) D176_72 rfl (by decide), aw_goto (t := 77) D176_73 (by decide), aw_iconst (pc2 := 77) (y := 0) D176_76 rfl (by decide), aw_zret D176_77 rfl, sh_122, lit_1500, rf_122_14, sh_137, rf_122_40, sh_158, rf_122_15, sh_138, rf_122_13, sh_136, rf_122_12, sh_135, refV_s, refV_n, psh_s, psh_n, kil_i, kil_r, kil_n, kil_l, cat_i, cat_r, iOK_1, iOK_5, jOK_2, jOK_6, wOK_e, lOK_1, lOK_2, lOK_3, lOK_4, lOK_5, lOK_6, catS_0, catS_1, catS_2, catS_3, catS_4, and_self, true_and, and_true, true_or, or_true, false_or, or_false, not_true_eq_false, not_false_eq_true, if_true, if_false, ite_int, ite_int0, au_10, eq_self, decide_true, decide_false, Bool.true_and, Bool.false_and, au_in, au_le, au_lt, au_eq, au_lt0, au_ge0, au_le0, au_gt0, au_eq0, au_leT, au_leF, au_ltT, au_ltF, au_eqT, au_eqF, nI_clamp, nI_1, nI_add, pk_mul, au_sub1, au_subc, au_up2e, au_up2n, lit_of, ho 137 (by omega), ho 135 (by omega), n3, n2, ht, ei, shr_bit, nI_bit1, Nat.add_sub_cancel]
      rw [ej]
      cases (ltP (lts g) (nodeAt g i).2.2 0 (nodeAt g i).2.2.length).testBit t <;> simp [bI]
    | succ n ih =>
      intro j hj
      have hjl : j < (nodeAt g i).2.2.length := by omega
      have hlt := nd_part hno hjl
      have ihn := ih (j + 1) (by omega)
      rw [ltP] at ihn
      rw [aw_iload_5 (pc2 := 16) D176_14 rfl]
      simp (disch := omega) only [aw_aload_0 (pc2 := 17) D176_16 rfl, aw_getR (pc2 := 20) (ci := 7) (fk := 14) D176_17 rfl fT_7_52 rfl, aw_iload_3 (pc2 := 21) D176_20 rfl, aw_iaload (pc2 := 22) D176_21 rfl, aw_icmp_ge (pc2 := 25) (t := 55) D176_22 (by decide) rfl, aw_iload_4 (pc2 := 27) D176_25 rfl, aw_aload_0 (pc2 := 28) D176_27 rfl, aw_getR (pc2 := 31) (ci := 7) (fk := 40) D176_28 rfl fT_7_117 rfl, aw_aload_0 (pc2 := 32) D176_31 rfl, aw_getR (pc2 := 35) (ci := 7) (fk := 15) D176_32 rfl fT_7_56 rfl, aw_aload_0 (pc2 := 36) D176_35 rfl, aw_getR (pc2 := 39) (ci := 7) (fk := 13) D176_36 rfl fT_7_49 rfl, aw_iload_3 (pc2 := 40) D176_39 rfl, aw_iaload (pc2 := 41) D176_40 rfl, aw_iload_5 (pc2 := 43) D176_41 rfl, aw_iadd (pc2 := 44) D176_43 rfl, aw_iaload (pc2 := 45) D176_44 rfl, aw_iaload (pc2 := 46) D176_45 rfl, aw_ior (pc2 := 47) D176_46 rfl, aw_istore_4 (pc2 := 49) D176_47 rfl, aw_iinc_5 (pc2 := 52) (y := 1) D176_49 rfl (by decide), aw_goto (t := 14) D176_52 (by decide), sh_122, lit_1500, rf_122_14, sh_137, rf_122_40, sh_158, rf_122_15, sh_138, rf_122_13, sh_136, rf_122_12, sh_135, refV_s, refV_n, psh_s, psh_n, kil_i, kil_r, kil_n, kil_l, cat_i, cat_r, iOK_1, iOK_5, jOK_2, jOK_6, wOK_e, lOK_1, lOK_2, lOK_3, lOK_4, lOK_5, lOK_6, catS_0, catS_1, catS_2, catS_3, catS_4, and_self, true_and, and_true, true_or, or_true, false_or, or_false, not_true_eq_false, not_false_eq_true, if_true, if_false, ite_int, ite_int0, au_10, eq_self, decide_true, decide_false, Bool.true_and, Bool.false_and, au_in, au_le, au_lt, au_eq, au_lt0, au_ge0, au_le0, au_gt0, au_eq0, au_leT, au_leF, au_ltT, au_ltF, au_eqT, au_eqF, nI_clamp, nI_1, nI_add, pk_mul, au_sub1, au_subc, au_up2e, au_up2n, lit_of, ho 137 (by omega), ho 136 (by omega), ho 138 (by omega), n3, n4, n5 j hjl, h158 _ (show (nodeAt g i).2.2.getD j 0 < g.1.length by omega), fa_or]
      exact ihn
  exact key (nodeAt g i).2.2.length 0 (by omega)
theorem M_isWhole {r : Nat} {k : BK} (hb : b < 2) (hbk : bkOK k) (h : MB b k I) (hr : r < 2 ^ 31) : ACall (d + 2) 174 [.ref 122, .int (nI b), .int (nI r)] (G0 Ln) I J K ↔ K (some (.int (bI (whB k r)))) (G0 Ln) I J := by
  rw [ACall_0 (L0 := [.ref 122, .int (nI b), .int (nI r), nv, nv, nv, nv]) (show mcs 174 = (0, 0) from rfl) (show entL 174 [.ref 122, .int (nI b), .int (nI r)] = _ from rfl) rfl (Nat.le_of_ble_eq_true rfl)]
  have hN := hbk.2.1
  have hl40 := hbk.2.2.1
  simp only [aw_iconst (pc2 := 1) (y := 0) D174_0 rfl (by decide), aw_istore_3 (pc2 := 2) D174_1 rfl, sh_122, rf_122_2, sh_125, rf_122_0, sh_123, rf_122_1, sh_124, lit_40, refV_s, refV_n, psh_s, psh_n, kil_i, kil_r, kil_n, kil_l, cat_i, cat_r, iOK_1, iOK_5, jOK_2, jOK_6, wOK_e, lOK_1, lOK_2, lOK_3, lOK_4, lOK_5, lOK_6, catS_0, catS_1, catS_2, catS_3, catS_4, and_self, true_and, and_true, true_or, or_true, false_or, or_false, not_true_eq_false, not_false_eq_true, if_true, if_false, ite_int, ite_int0, au_10, eq_self, decide_true, decide_false, Bool.true_and, Bool.false_and]
  have key : ∀ n c v4 v5 v6, c + n = k.cl.length → kil v4 = v4 → kil v5 = v5 → kil v6 = v6 → (k.cl.take c).all (fun c => clH k.N c r k.N) = true → (AW (d + 1) ((G0 Ln).1, (G0 Ln).2.1) K 174 2 [.ref 122, .int (nI b), .int (nI r), .int (nI c), v4, v5, v6] [] (G0 Ln) I J ↔ K (some (.int (bI (whB k r)))) (G0 Ln) I J) := by
    intro n
    induction n with
    | zero =>
      intro c v4 v5 v6 hc k4 k5 k6 hall
      have e : c = k.cl.length := by omega
      subst e
      rw [List.take_length] at hall
      have ew : whB k r = true := hall
      simp (disch := omega) only [aw_iload_3 (pc2 := 3) D174_2 rfl, aw_aload_0 (pc2 := 4) D174_3 rfl, aw_getR (pc2 := 7) (ci := 7) (fk := 2) D174_4 rfl fT_7_16 rfl, aw_iload_1 (pc2 := 8) D174_7 rfl, aw_iaload (pc2 := 9) D174_8 rfl, aw_icmp_ge (pc2 := 12) (t := 119) D174_9 (by decide) rfl, aw_iconst (pc2 := 120) (y := 1) D174_119 rfl (by decide), aw_zret D174_120 rfl, sh_122, rf_122_2, sh_125, rf_122_0, sh_123, rf_122_1, sh_124, lit_40, refV_s, refV_n, psh_s, psh_n, kil_i, kil_r, kil_n, kil_l, cat_i, cat_r, iOK_1, iOK_5, jOK_2, jOK_6, wOK_e, lOK_1, lOK_2, lOK_3, lOK_4, lOK_5, lOK_6, catS_0, catS_1, catS_2, catS_3, catS_4, and_self, true_and, and_true, true_or, or_true, false_or, or_false, not_true_eq_false, not_false_eq_true, if_true, if_false, ite_int, ite_int0, au_10, eq_self, decide_true, decide_false, Bool.true_and, Bool.false_and, au_in, au_le, au_lt, au_eq, au_lt0, au_ge0, au_le0, au_gt0, au_eq0, au_leT, au_leF, au_ltT, au_ltF, au_eqT, au_eqF, nI_clamp, nI_1, nI_add, pk_mul, au_sub1, au_subc, au_up2e, au_up2n, lit_of, h.2.1]
      rw [ew]
      exact Iff.rfl
    | succ n ih =>
      intro c v4 v5 v6 hc k4 k5 k6 hall
      have hcl : c < k.cl.length := by omega
      have hcc := h.2.2.1 c hcl
      have hok := (hbk.2.2.2.1 _ (getD_mem hcl)).1
      generalize hcv : k.cl.getD c 0 = cv at hcc hok
      have hc24 := hok.1
      have hw : whB k r = (clH k.N cv r k.N && (k.cl.drop (c + 1)).all (fun c => clH k.N c r k.N)) := by
        have e1 : k.cl = k.cl.take c ++ (cv :: k.cl.drop (c + 1)) := by
          have e2 := List.take_append_drop c k.cl
          have e3 : k.cl.drop c = cv :: k.cl.drop (c + 1) := by
            rw [List.drop_eq_getElem_cons hcl, ← hcv, List.getD_eq_getElem?_getD, List.getElem?_eq_getElem hcl]
            rfl
          rw [e3] at e2
          exact e2.symm
        unfold whB
        conv => lhs; rw [e1]
        rw [List.all_append, hall, List.all_cons, Bool.true_and]
      have inner : ∀ m l v6, l + m = k.N → kil v6 = v6 → (AW (d + 1) ((G0 Ln).1, (G0 Ln).2.1) K 174 18 [.ref 122, .int (nI b), .int (nI r), .int (nI c), .int (bI (clH k.N cv r l)), .int (nI (l + 1)), v6] [] (G0 Ln) I J ↔ K (some (.int (bI (whB k r)))) (G0 Ln) I J) := by
        intro m
        induction m with
        | zero =>
          intro l v6 hl k6
          have e : l = k.N := by omega
          subst e
          simp (disch := omega) only [aw_iload_5 (pc2 := 20) D174_18 rfl, aw_aload_0 (pc2 := 21) D174_20 rfl, aw_getR (pc2 := 24) (ci := 7) (fk := 0) D174_21 rfl fT_7_7 rfl, aw_iload_1 (pc2 := 25) D174_24 rfl, aw_iaload (pc2 := 26) D174_25 rfl, aw_icmp_gt (pc2 := 29) (t := 106) D174_26 (by decide) rfl, aw_iload_4 (pc2 := 108) D174_106 rfl, aw_if_ne (pc2 := 111) (t := 113) D174_108 (by decide) rfl, sh_122, rf_122_2, sh_125, rf_122_0, sh_123, rf_122_1, sh_124, lit_40, refV_s, refV_n, psh_s, psh_n, kil_i, kil_r, kil_n, kil_l, cat_i, cat_r, iOK_1, iOK_5, jOK_2, jOK_6, wOK_e, lOK_1, lOK_2, lOK_3, lOK_4, lOK_5, lOK_6, catS_0, catS_1, catS_2, catS_3, catS_4, and_self, true_and, and_true, true_or, or_true, false_or, or_false, not_true_eq_false, not_false_eq_true, if_true, if_false, ite_int, ite_int0, au_10, eq_self, decide_true, decide_false, Bool.true_and, Bool.false_and, au_in, au_le, au_lt, au_eq, au_lt0, au_ge0, au_le0, au_gt0, au_eq0, au_leT, au_leF, au_ltT, au_ltF, au_eqT, au_eqF, nI_clamp, nI_1, nI_add, pk_mul, au_sub1, au_subc, au_up2e, au_up2n, lit_of, h.1, bI_0]
          cases t : clH k.N cv r k.N
          · rw [if_neg (by decide)]
            have ew : whB k r = false := by rw [hw, t, Bool.false_and]
            simp (disch := omega) only [aw_iconst (pc2 := 112) (y := 0) D174_111 rfl (by decide), aw_zret D174_112 rfl, sh_122, rf_122_2, sh_125, rf_122_0, sh_123, rf_122_1, sh_124, lit_40, refV_s, refV_n, psh_s, psh_n, kil_i, kil_r, kil_n, kil_l, cat_i, cat_r, iOK_1, iOK_5, jOK_2, jOK_6, wOK_e, lOK_1, lOK_2, lOK_3, lOK_4, lOK_5, lOK_6, catS_0, catS_1, catS_2, catS_3, catS_4, and_self, true_and, and_true, true_or, or_true, false_or, or_false, not_true_eq_false, not_false_eq_true, if_true, if_false, ite_int, ite_int0, au_10, eq_self, decide_true, decide_false, Bool.true_and, Bool.false_and, au_in, au_le, au_lt, au_eq, au_lt0, au_ge0, au_le0, au_gt0, au_eq0, au_leT, au_leF, au_ltT, au_ltF, au_eqT, au_eqF, nI_clamp, nI_1, nI_add, pk_mul, au_sub1, au_subc, au_up2e, au_up2n, lit_of]
            rw [ew]
            exact Iff.rfl
          · rw [if_pos (by decide)]
            simp (disch := omega) only [aw_iinc_3 (pc2 := 116) (y := 1) D174_113 rfl (by decide), aw_goto (t := 2) D174_116 (by decide), sh_122, rf_122_2, sh_125, rf_122_0, sh_123, rf_122_1, sh_124, lit_40, refV_s, refV_n, psh_s, psh_n, kil_i, kil_r, kil_n, kil_l, cat_i, cat_r, iOK_1, iOK_5, jOK_2, jOK_6, wOK_e, lOK_1, lOK_2, lOK_3, lOK_4, lOK_5, lOK_6, catS_0, catS_1, catS_2, catS_3, catS_4, and_self, true_and, and_true, true_or, or_true, false_or, or_false, not_true_eq_false, not_false_eq_true, if_true, if_false, ite_int, ite_int0, au_10, eq_self, decide_true, decide_false, Bool.true_and, Bool.false_and, au_in, au_le, au_lt, au_eq, au_lt0, au_ge0, au_le0, au_gt0, au_eq0, au_leT, au_leF, au_ltT, au_ltF, au_eqT, au_eqF, nI_clamp, nI_1, nI_add, pk_mul, au_sub1, au_subc, au_up2e, au_up2n, lit_of]
            refine ih (c + 1) _ _ _ (by omega) rfl rfl k6 ?_
            rw [List.take_succ, List.getElem?_eq_getElem hcl, List.all_append, hall]
            have : k.cl[c] = cv := by rw [← hcv, List.getD_eq_getElem?_getD, List.getElem?_eq_getElem hcl]; rfl
            rw [this]
            simp [t]
        | succ m ihm =>
          intro l v6 hl k6
          have hlN : l < k.N := by omega
          obtain ⟨-, -, b3, b4, -, -⟩ := lt_bits l (by omega)
          have ihl := ihm (l + 1) (.int (nI cv)) (by omega) rfl
          rw [clH] at ihl
          have at98 : ∀ w : Bool, w = (clH k.N cv r l || ((cv.testBit l && hld k.N ((l : Int) + 1) r) || (cv.testBit (12 + l) && hld k.N (-((l : Int) + 1)) r))) → (AW (d + 1) ((G0 Ln).1, (G0 Ln).2.1) K 174 98 [.ref 122, .int (nI b), .int (nI r), .int (nI c), .int (bI (clH k.N cv r l)), .int (nI (l + 1)), .int (nI cv)] [.int (bI w)] (G0 Ln) I J ↔ K (some (.int (bI (whB k r)))) (G0 Ln) I J) := by
            intro w hw
            rw [← hw] at ihl
            simp (disch := omega) only [aw_istore_4 (pc2 := 100) D174_98 rfl, aw_iinc_5 (pc2 := 103) (y := 1) D174_100 rfl (by decide), aw_goto (t := 18) D174_103 (by decide), sh_122, rf_122_2, sh_125, rf_122_0, sh_123, rf_122_1, sh_124, lit_40, refV_s, refV_n, psh_s, psh_n, kil_i, kil_r, kil_n, kil_l, cat_i, cat_r, iOK_1, iOK_5, jOK_2, jOK_6, wOK_e, lOK_1, lOK_2, lOK_3, lOK_4, lOK_5, lOK_6, catS_0, catS_1, catS_2, catS_3, catS_4, and_self, true_and, and_true, true_or, or_true, false_or, or_false, not_true_eq_false, not_false_eq_true, if_true, if_false, ite_int, ite_int0, au_10, eq_self, decide_true, decide_false, Bool.true_and, Bool.false_and, au_in, au_le, au_lt, au_eq, au_lt0, au_ge0, au_le0, au_gt0, au_eq0, au_leT, au_leF, au_ltT, au_ltF, au_eqT, au_eqF, nI_clamp, nI_1, nI_add, pk_mul, au_sub1, au_subc, au_up2e, au_up2n, lit_of]
            exact ihl
          rw [aw_iload_5 (pc2 := 20) D174_18 rfl]
          simp (disch := omega) only [aw_aload_0 (pc2 := 21) D174_20 rfl, aw_getR (pc2 := 24) (ci := 7) (fk := 0) D174_21 rfl fT_7_7 rfl, aw_iload_1 (pc2 := 25) D174_24 rfl, aw_iaload (pc2 := 26) D174_25 rfl, aw_icmp_gt (pc2 := 29) (t := 106) D174_26 (by decide) rfl, aw_aload_0 (pc2 := 30) D174_29 rfl, aw_getR (pc2 := 33) (ci := 7) (fk := 1) D174_30 rfl fT_7_13 rfl, aw_bipush (pc2 := 35) (y := 40) D174_33 rfl (by decide), aw_iload_1 (pc2 := 36) D174_35 rfl, aw_imul (pc2 := 37) D174_36 rfl, aw_iload_3 (pc2 := 38) D174_37 rfl, aw_iadd (pc2 := 39) D174_38 rfl, aw_iaload (pc2 := 40) D174_39 rfl, aw_istore_6 (pc2 := 42) D174_40 rfl, aw_iload_4 (pc2 := 44) D174_42 rfl, aw_if_ne (pc2 := 47) (t := 93) D174_44 (by decide) rfl, sh_122, rf_122_2, sh_125, rf_122_0, sh_123, rf_122_1, sh_124, lit_40, refV_s, refV_n, psh_s, psh_n, kil_i, kil_r, kil_n, kil_l, cat_i, cat_r, iOK_1, iOK_5, jOK_2, jOK_6, wOK_e, lOK_1, lOK_2, lOK_3, lOK_4, lOK_5, lOK_6, catS_0, catS_1, catS_2, catS_3, catS_4, and_self, true_and, and_true, true_or, or_true, false_or, or_false, not_true_eq_false, not_false_eq_true, if_true, if_false, ite_int, ite_int0, au_10, eq_self, decide_true, decide_false, Bool.true_and, Bool.false_and, au_in, au_le, au_lt, au_eq, au_lt0, au_ge0, au_le0, au_gt0, au_eq0, au_leT, au_leF, au_ltT, au_ltF, au_eqT, au_eqF, nI_clamp, nI_1, nI_add, pk_mul, au_sub1, au_subc, au_up2e, au_up2n, lit_of, h.1, hcc, k6, bI_0]
          cases t0 : clH k.N cv r l
          · rw [if_neg (by decide)]
            rw [t0] at at98
            simp (disch := omega) only [aw_iload_6 (pc2 := 49) D174_47 rfl, aw_iload_5 (pc2 := 51) D174_49 rfl, aw_is1_2 (pc2 := 54) D174_51 rfl cT_7_170 rfl, aw_iand (pc2 := 55) D174_54 rfl, aw_if_eq (pc2 := 58) (t := 69) D174_55 (by decide) rfl, sh_122, rf_122_2, sh_125, rf_122_0, sh_123, rf_122_1, sh_124, lit_40, refV_s, refV_n, psh_s, psh_n, kil_i, kil_r, kil_n, kil_l, cat_i, cat_r, iOK_1, iOK_5, jOK_2, jOK_6, wOK_e, lOK_1, lOK_2, lOK_3, lOK_4, lOK_5, lOK_6, catS_0, catS_1, catS_2, catS_3, catS_4, and_self, true_and, and_true, true_or, or_true, false_or, or_false, not_true_eq_false, not_false_eq_true, if_true, if_false, ite_int, ite_int0, au_10, eq_self, decide_true, decide_false, Bool.true_and, Bool.false_and, au_in, au_le, au_lt, au_eq, au_lt0, au_ge0, au_le0, au_gt0, au_eq0, au_leT, au_leF, au_ltT, au_ltF, au_eqT, au_eqF, nI_clamp, nI_1, nI_add, pk_mul, au_sub1, au_subc, au_up2e, au_up2n, lit_of, M_bitOf, b3, bit_test (show l < 31 by omega)]
            have at69 : (cv.testBit l && hld k.N ((l : Int) + 1) r) = false → (AW (d + 1) ((G0 Ln).1, (G0 Ln).2.1) K 174 69 [.ref 122, .int (nI b), .int (nI r), .int (nI c), .int (bI false), .int (nI (l + 1)), .int (nI cv)] [] (G0 Ln) I J ↔ K (some (.int (bI (whB k r)))) (G0 Ln) I J) := by
              intro hf
              simp (disch := omega) only [aw_iload_6 (pc2 := 71) D174_69 rfl, aw_iload_5 (pc2 := 73) D174_71 rfl, aw_ineg (pc2 := 74) D174_73 rfl, aw_is1_2 (pc2 := 77) D174_74 rfl cT_7_170 rfl, aw_iand (pc2 := 78) D174_77 rfl, aw_if_eq (pc2 := 81) (t := 97) D174_78 (by decide) rfl, sh_122, rf_122_2, sh_125, rf_122_0, sh_123, rf_122_1, sh_124, lit_40, refV_s, refV_n, psh_s, psh_n, kil_i, kil_r, kil_n, kil_l, cat_i, cat_r, iOK_1, iOK_5, jOK_2, jOK_6, wOK_e, lOK_1, lOK_2, lOK_3, lOK_4, lOK_5, lOK_6, catS_0, catS_1, catS_2, catS_3, catS_4, and_self, true_and, and_true, true_or, or_true, false_or, or_false, not_true_eq_false, not_false_eq_true, if_true, if_false, ite_int, ite_int0, au_10, eq_self, decide_true, decide_false, Bool.true_and, Bool.false_and, au_in, au_le, au_lt, au_eq, au_lt0, au_ge0, au_le0, au_gt0, au_eq0, au_leT, au_leF, au_ltT, au_ltF, au_eqT, au_eqF, nI_clamp, nI_1, nI_add, pk_mul, au_sub1, au_subc, au_up2e, au_up2n, lit_of, M_bitOf, b4, bit_test (show 12 + l < 31 by omega)]
              cases t3 : cv.testBit (12 + l)
              · rw [if_pos rfl]
                simp (disch := omega) only [aw_iconst (pc2 := 98) (y := 0) D174_97 rfl (by decide), sh_122, rf_122_2, sh_125, rf_122_0, sh_123, rf_122_1, sh_124, lit_40, refV_s, refV_n, psh_s, psh_n, kil_i, kil_r, kil_n, kil_l, cat_i, cat_r, iOK_1, iOK_5, jOK_2, jOK_6, wOK_e, lOK_1, lOK_2, lOK_3, lOK_4, lOK_5, lOK_6, catS_0, catS_1, catS_2, catS_3, catS_4, and_self, true_and, and_true, true_or, or_true, false_or, or_false, not_true_eq_false, not_false_eq_true, if_true, if_false, ite_int, ite_int0, au_10, eq_self, decide_true, decide_false, Bool.true_and, Bool.false_and, au_in, au_le, au_lt, au_eq, au_lt0, au_ge0, au_le0, au_gt0, au_eq0, au_leT, au_leF, au_ltT, au_ltF, au_eqT, au_eqF, nI_clamp, nI_1, nI_add, pk_mul, au_sub1, au_subc, au_up2e, au_up2n, lit_of]
                exact at98 false (by rw [hf, t3]; rfl)
              · rw [if_neg (by decide)]
                simp (disch := omega) only [aw_aload_0 (pc2 := 82) D174_81 rfl, aw_iload_1 (pc2 := 83) D174_82 rfl, aw_iload_5 (pc2 := 85) D174_83 rfl, aw_ineg (pc2 := 86) D174_85 rfl, aw_iload_2 (pc2 := 87) D174_86 rfl, aw_iv3_0 (pc2 := 90) (o := 7) D174_87 rfl cT_7_275 rfl rfl, aw_if_eq (pc2 := 93) (t := 97) D174_90 (by decide) rfl, sh_122, rf_122_2, sh_125, rf_122_0, sh_123, rf_122_1, sh_124, lit_40, refV_s, refV_n, psh_s, psh_n, kil_i, kil_r, kil_n, kil_l, cat_i, cat_r, iOK_1, iOK_5, jOK_2, jOK_6, wOK_e, lOK_1, lOK_2, lOK_3, lOK_4, lOK_5, lOK_6, catS_0, catS_1, catS_2, catS_3, catS_4, and_self, true_and, and_true, true_or, or_true, false_or, or_false, not_true_eq_false, not_false_eq_true, if_true, if_false, ite_int, ite_int0, au_10, eq_self, decide_true, decide_false, Bool.true_and, Bool.false_and, au_in, au_le, au_lt, au_eq, au_lt0, au_ge0, au_le0, au_gt0, au_eq0, au_leT, au_leF, au_ltT, au_ltF, au_eqT, au_eqF, nI_clamp, nI_1, nI_add, pk_mul, au_sub1, au_subc, au_up2e, au_up2n, lit_of, M_holdsN hb h.1 hN hlN hr, bI_0]
                cases t4 : hld k.N (-((l : Int) + 1)) r
                · rw [if_pos rfl]
                  simp (disch := omega) only [aw_iconst (pc2 := 98) (y := 0) D174_97 rfl (by decide), sh_122, rf_122_2, sh_125, rf_122_0, sh_123, rf_122_1, sh_124, lit_40, refV_s, refV_n, psh_s, psh_n, kil_i, kil_r, kil_n, kil_l, cat_i, cat_r, iOK_1, iOK_5, jOK_2, jOK_6, wOK_e, lOK_1, lOK_2, lOK_3, lOK_4, lOK_5, lOK_6, catS_0, catS_1, catS_2, catS_3, catS_4, and_self, true_and, and_true, true_or, or_true, false_or, or_false, not_true_eq_false, not_false_eq_true, if_true, if_false, ite_int, ite_int0, au_10, eq_self, decide_true, decide_false, Bool.true_and, Bool.false_and, au_in, au_le, au_lt, au_eq, au_lt0, au_ge0, au_le0, au_gt0, au_eq0, au_leT, au_leF, au_ltT, au_ltF, au_eqT, au_eqF, nI_clamp, nI_1, nI_add, pk_mul, au_sub1, au_subc, au_up2e, au_up2n, lit_of]
                  exact at98 false (by rw [hf, t3, t4]; rfl)
                · rw [if_neg (by decide)]
                  simp (disch := omega) only [aw_iconst (pc2 := 94) (y := 1) D174_93 rfl (by decide), aw_goto (t := 98) D174_94 (by decide), sh_122, rf_122_2, sh_125, rf_122_0, sh_123, rf_122_1, sh_124, lit_40, refV_s, refV_n, psh_s, psh_n, kil_i, kil_r, kil_n, kil_l, cat_i, cat_r, iOK_1, iOK_5, jOK_2, jOK_6, wOK_e, lOK_1, lOK_2, lOK_3, lOK_4, lOK_5, lOK_6, catS_0, catS_1, catS_2, catS_3, catS_4, and_self, true_and, and_true, true_or, or_true, false_or, or_false, not_true_eq_false, not_false_eq_true, if_true, if_false, ite_int, ite_int0, au_10, eq_self, decide_true, decide_false, Bool.true_and, Bool.false_and, au_in, au_le, au_lt, au_eq, au_lt0, au_ge0, au_le0, au_gt0, au_eq0, au_leT, au_leF, au_ltT, au_ltF, au_eqT, au_eqF, nI_clamp, nI_1, nI_add, pk_mul, au_sub1, au_subc, au_up2e, au_up2n, lit_of]
                  exact at98 true (by rw [hf, t3, t4]; rfl)
            cases t1 : cv.testBit l
            · rw [if_pos rfl]
              exact at69 (by rw [t1]; rfl)
            · rw [if_neg (by decide)]
              simp (disch := omega) only [aw_aload_0 (pc2 := 59) D174_58 rfl, aw_iload_1 (pc2 := 60) D174_59 rfl, aw_iload_5 (pc2 := 62) D174_60 rfl, aw_iload_2 (pc2 := 63) D174_62 rfl, aw_iv3_0 (pc2 := 66) (o := 7) D174_63 rfl cT_7_275 rfl rfl, aw_if_ne (pc2 := 69) (t := 93) D174_66 (by decide) rfl, sh_122, rf_122_2, sh_125, rf_122_0, sh_123, rf_122_1, sh_124, lit_40, refV_s, refV_n, psh_s, psh_n, kil_i, kil_r, kil_n, kil_l, cat_i, cat_r, iOK_1, iOK_5, jOK_2, jOK_6, wOK_e, lOK_1, lOK_2, lOK_3, lOK_4, lOK_5, lOK_6, catS_0, catS_1, catS_2, catS_3, catS_4, and_self, true_and, and_true, true_or, or_true, false_or, or_false, not_true_eq_false, not_false_eq_true, if_true, if_false, ite_int, ite_int0, au_10, eq_self, decide_true, decide_false, Bool.true_and, Bool.false_and, au_in, au_le, au_lt, au_eq, au_lt0, au_ge0, au_le0, au_gt0, au_eq0, au_leT, au_leF, au_ltT, au_ltF, au_eqT, au_eqF, nI_clamp, nI_1, nI_add, pk_mul, au_sub1, au_subc, au_up2e, au_up2n, lit_of, M_holdsP hb h.1 hN hlN hr, bI_0]
              cases t2 : hld k.N ((l : Int) + 1) r
              · rw [if_neg (by decide)]
                exact at69 (by rw [t1, t2]; rfl)
              · rw [if_pos (by decide)]
                simp (disch := omega) only [aw_iconst (pc2 := 94) (y := 1) D174_93 rfl (by decide), aw_goto (t := 98) D174_94 (by decide), sh_122, rf_122_2, sh_125, rf_122_0, sh_123, rf_122_1, sh_124, lit_40, refV_s, refV_n, psh_s, psh_n, kil_i, kil_r, kil_n, kil_l, cat_i, cat_r, iOK_1, iOK_5, jOK_2, jOK_6, wOK_e, lOK_1, lOK_2, lOK_3, lOK_4, lOK_5, lOK_6, catS_0, catS_1, catS_2, catS_3, catS_4, and_self, true_and, and_true, true_or, or_true, false_or, or_false, not_true_eq_false, not_false_eq_true, if_true, if_false, ite_int, ite_int0, au_10, eq_self, decide_true, decide_false, Bool.true_and, Bool.false_and, au_in, au_le, au_lt, au_eq, au_lt0, au_ge0, au_le0, au_gt0, au_eq0, au_leT, au_leF, au_ltT, au_ltF, au_eqT, au_eqF, nI_clamp, nI_1, nI_add, pk_mul, au_sub1, au_subc, au_up2e, au_up2n, lit_of]
                exact at98 true (by rw [t1, t2]; simp)
          · rw [if_pos (by decide)]
            rw [t0] at at98
            simp (disch := omega) only [aw_iconst (pc2 := 94) (y := 1) D174_93 rfl (by decide), aw_goto (t := 98) D174_94 (by decide), sh_122, rf_122_2, sh_125, rf_122_0, sh_123, rf_122_1, sh_124, lit_40, refV_s, refV_n, psh_s, psh_n, kil_i, kil_r, kil_n, kil_l, cat_i, cat_r, iOK_1, iOK_5, jOK_2, jOK_6, wOK_e, lOK_1, lOK_2, lOK_3, lOK_4, lOK_5, lOK_6, catS_0, catS_1, catS_2, catS_3, catS_4, and_self, true_and, and_true, true_or, or_true, false_or, or_false, not_true_eq_false, not_false_eq_true, if_true, if_false, ite_int, ite_int0, au_10, eq_self, decide_true, decide_false, Bool.true_and, Bool.false_and, au_in, au_le, au_lt, au_eq, au_lt0, au_ge0, au_le0, au_gt0, au_eq0, au_leT, au_leF, au_ltT, au_ltF, au_eqT, au_eqF, nI_clamp, nI_1, nI_add, pk_mul, au_sub1, au_subc, au_up2e, au_up2n, lit_of]
            exact at98 true (by simp)
      rw [aw_iload_3 (pc2 := 3) D174_2 rfl]
      simp (disch := omega) only [aw_aload_0 (pc2 := 4) D174_3 rfl, aw_getR (pc2 := 7) (ci := 7) (fk := 2) D174_4 rfl fT_7_16 rfl, aw_iload_1 (pc2 := 8) D174_7 rfl, aw_iaload (pc2 := 9) D174_8 rfl, aw_icmp_ge (pc2 := 12) (t := 119) D174_9 (by decide) rfl, aw_iconst (pc2 := 13) (y := 0) D174_12 rfl (by decide), aw_istore_4 (pc2 := 15) D174_13 rfl, aw_iconst (pc2 := 16) (y := 1) D174_15 rfl (by decide), aw_istore_5 (pc2 := 18) D174_16 rfl, sh_122, rf_122_2, sh_125, rf_122_0, sh_123, rf_122_1, sh_124, lit_40, refV_s, refV_n, psh_s, psh_n, kil_i, kil_r, kil_n, kil_l, cat_i, cat_r, iOK_1, iOK_5, jOK_2, jOK_6, wOK_e, lOK_1, lOK_2, lOK_3, lOK_4, lOK_5, lOK_6, catS_0, catS_1, catS_2, catS_3, catS_4, and_self, true_and, and_true, true_or, or_true, false_or, or_false, not_true_eq_false, not_false_eq_true, if_true, if_false, ite_int, ite_int0, au_10, eq_self, decide_true, decide_false, Bool.true_and, Bool.false_and, au_in, au_le, au_lt, au_eq, au_lt0, au_ge0, au_le0, au_gt0, au_eq0, au_leT, au_leF, au_ltT, au_ltF, au_eqT, au_eqF, nI_clamp, nI_1, nI_add, pk_mul, au_sub1, au_subc, au_up2e, au_up2n, lit_of, h.2.1, k4, k5]
      exact inner k.N 0 v6 (by omega) k6
  exact key k.cl.length 0 nv nv nv (by omega) rfl rfl rfl (by rw [List.take_zero]; rfl)
theorem MInv.gu {I' : IT} {v : Int32} (h : MInv σ I) (ho : ∀ c, c ≠ 122 → I' c = I c) (h2 : ∀ k, k ≠ 44 → I' 122 k = I 122 k) (hv : I' 122 44 = v) : MInv (setG σ v) I' := by
  obtain ⟨h1, h3, h4, h5⟩ := h
  refine ⟨fun b hb => ?_, ?_, fun k a b => by rw [ho 130 (by omega)]; exact h4 k a b, hv⟩
  · have := h1 b hb
    unfold MB MGo MG at this
    show MB b (σ.1 b) I'
    unfold MB MGo MG
    simp only [ho 123 (by omega), ho 124 (by omega), ho 125 (by omega), ho 126 (by omega), ho 127 (by omega), ho 128 (by omega), ho 129 (by omega), ho 131 (by omega), ho 132 (by omega), ho 133 (by omega), ho 134 (by omega), ho 135 (by omega), ho 136 (by omega), ho 137 (by omega), ho 138 (by omega), ho 159 (by omega), ho 161 (by omega)]
    exact this
  · show (match σ.2.1 with
      | none => I' 122 48 = -1
      | some r => I' 122 48 = nI r.length ∧ ∀ i, i < r.length → I' 163 i = iI (r.getD i 0))
    cases e : σ.2.1 with
    | none => rw [e] at h3; show I' 122 48 = -1; rw [h2 48 (by omega)]; exact h3
    | some r =>
      rw [e] at h3
      exact ⟨by rw [h2 48 (by omega)]; exact h3.1, fun i hi => by rw [ho 163 (by omega)]; exact h3.2 i hi⟩
theorem MO_judge {x : Int32} (hs : sgOK σ) (h : MInv σ I) (hk : MPost Ln I J K (oJudge σ x)) : ACall (d + 6) 177 [.ref 122, .int x] (G0 Ln) I J K := by
  rw [ACall_0 (L0 := [.ref 122, .int x, nv]) (show mcs 177 = (0, 0) from rfl) (show entL 177 [.ref 122, .int x] = _ from rfl) rfl (Nat.le_of_ble_eq_true rfl)]
  unfold oJudge at hk
  cases hx : bkOf x with
  | none =>
    simp only [hx] at hk
    obtain ⟨x0, x1⟩ := bkOf_none hx
    simp only [aw_iload_1 (pc2 := 1) D177_0 rfl, aw_is1_2 (pc2 := 4) D177_1 rfl cT_7_150 rfl, aw_if_ne (pc2 := 7) (t := 14) D177_4 (by decide) rfl, aw_aload_0 (pc2 := 8) D177_7 rfl, aw_bipush (pc2 := 10) (y := -3) D177_8 rfl (by decide), aw_iv1_0 (pc2 := 13) (o := 7) D177_10 rfl cT_7_154 rfl rfl, aw_iret D177_13 rfl, sh_122, rf_122_8, sh_131, rf_122_11, sh_134, rf_122_0, sh_123, rf_122_41, sh_159, refV_s, refV_n, psh_s, psh_n, kil_i, kil_r, kil_n, kil_l, cat_i, cat_r, iOK_1, iOK_5, jOK_2, jOK_6, wOK_e, lOK_1, lOK_2, lOK_3, lOK_4, lOK_5, lOK_6, catS_0, catS_1, catS_2, catS_3, catS_4, and_self, true_and, and_true, true_or, or_true, false_or, or_false, not_true_eq_false, not_false_eq_true, if_true, if_false, ite_int, ite_int0, au_10, eq_self, decide_true, decide_false, Bool.true_and, Bool.false_and, M_isBook, M_no3, x0, x1, or_self]
    exact hk.ref h (by omega) (by omega)
  | some b =>
    simp only [hx] at hk
    obtain ⟨hb, rfl⟩ := bkOf_some hx
    have hbk := hs.1 b hb
    have hN := hbk.2.1
    obtain ⟨-, -, -, -, -, w6, w7, -⟩ := wN_all (σ.1 b).N (by omega)
    have hg := (h.1 b hb).2.2.2.2.2.2.2
    unfold MGo at hg
    cases e : (σ.1 b).g with
    | none =>
      rw [e] at hg
      simp only [e] at hk
      simp (disch := omega) only [aw_iload_1 (pc2 := 1) D177_0 rfl, aw_is1_2 (pc2 := 4) D177_1 rfl cT_7_150 rfl, aw_if_ne (pc2 := 7) (t := 14) D177_4 (by decide) rfl, aw_aload_0 (pc2 := 8) D177_7 rfl, aw_bipush (pc2 := 10) (y := -3) D177_8 rfl (by decide), aw_iv1_0 (pc2 := 13) (o := 7) D177_10 rfl cT_7_154 rfl rfl, aw_iret D177_13 rfl, aw_aload_0 (pc2 := 15) D177_14 rfl, aw_getR (pc2 := 18) (ci := 7) (fk := 8) D177_15 rfl fT_7_34 rfl, aw_iload_1 (pc2 := 19) D177_18 rfl, aw_iaload (pc2 := 20) D177_19 rfl, aw_if_ne (pc2 := 23) (t := 30) D177_20 (by decide) rfl, aw_aload_0 (pc2 := 24) D177_23 rfl, aw_bipush (pc2 := 26) (y := -2) D177_24 rfl (by decide), aw_iv1_0 (pc2 := 29) (o := 7) D177_26 rfl cT_7_154 rfl rfl, aw_iret D177_29 rfl, sh_122, rf_122_8, sh_131, rf_122_11, sh_134, rf_122_0, sh_123, rf_122_41, sh_159, refV_s, refV_n, psh_s, psh_n, kil_i, kil_r, kil_n, kil_l, cat_i, cat_r, iOK_1, iOK_5, jOK_2, jOK_6, wOK_e, lOK_1, lOK_2, lOK_3, lOK_4, lOK_5, lOK_6, catS_0, catS_1, catS_2, catS_3, catS_4, and_self, true_and, and_true, true_or, or_true, false_or, or_false, not_true_eq_false, not_false_eq_true, if_true, if_false, ite_int, ite_int0, au_10, eq_self, decide_true, decide_false, Bool.true_and, Bool.false_and, M_isBk hb, M_no2, au_in, nI_clamp, hg]
      exact hk.ref h (by omega) (by omega)
    | some g =>
      rw [e] at hg
      simp only [e] at hk
      have hgo := gr_get hs hb e
      have hg2 := hgo.1
      have h15 := hgo.2.1
      simp (disch := omega) only [aw_iload_1 (pc2 := 1) D177_0 rfl, aw_is1_2 (pc2 := 4) D177_1 rfl cT_7_150 rfl, aw_if_ne (pc2 := 7) (t := 14) D177_4 (by decide) rfl, aw_aload_0 (pc2 := 8) D177_7 rfl, aw_bipush (pc2 := 10) (y := -3) D177_8 rfl (by decide), aw_iv1_0 (pc2 := 13) (o := 7) D177_10 rfl cT_7_154 rfl rfl, aw_iret D177_13 rfl, aw_aload_0 (pc2 := 15) D177_14 rfl, aw_getR (pc2 := 18) (ci := 7) (fk := 8) D177_15 rfl fT_7_34 rfl, aw_iload_1 (pc2 := 19) D177_18 rfl, aw_iaload (pc2 := 20) D177_19 rfl, aw_if_ne (pc2 := 23) (t := 30) D177_20 (by decide) rfl, aw_aload_0 (pc2 := 24) D177_23 rfl, aw_bipush (pc2 := 26) (y := -2) D177_24 rfl (by decide), aw_iv1_0 (pc2 := 29) (o := 7) D177_26 rfl cT_7_154 rfl rfl, aw_iret D177_29 rfl, aw_aload_0 (pc2 := 31) D177_30 rfl, aw_iload_1 (pc2 := 32) D177_31 rfl, aw_iv1_0 (pc2 := 35) (o := 7) D177_32 rfl cT_7_269 rfl rfl, sh_122, rf_122_8, sh_131, rf_122_11, sh_134, rf_122_0, sh_123, rf_122_41, sh_159, refV_s, refV_n, psh_s, psh_n, kil_i, kil_r, kil_n, kil_l, cat_i, cat_r, iOK_1, iOK_5, jOK_2, jOK_6, wOK_e, lOK_1, lOK_2, lOK_3, lOK_4, lOK_5, lOK_6, catS_0, catS_1, catS_2, catS_3, catS_4, and_self, true_and, and_true, true_or, or_true, false_or, or_false, not_true_eq_false, not_false_eq_true, if_true, if_false, ite_int, ite_int0, au_10, eq_self, decide_true, decide_false, Bool.true_and, Bool.false_and, au_in, au_le, au_lt, au_eq, au_lt0, au_ge0, au_le0, au_gt0, au_eq0, au_leT, au_leF, au_ltT, au_ltF, au_eqT, au_eqF, nI_clamp, nI_1, nI_add, pk_mul, au_sub1, au_subc, au_up2e, au_up2n, lit_of, M_isBk hb, hg.1]
      refine M_findLetters hb hN hgo hg.1 hg.2 (fun I1 f1 f2 => ?_)
      simp only [aw_aload_0 (pc2 := 36) D177_35 rfl, aw_iload_1 (pc2 := 37) D177_36 rfl, aw_iv1_0 (pc2 := 40) (o := 7) D177_37 rfl cT_7_282 rfl rfl, sh_122, rf_122_8, sh_131, rf_122_11, sh_134, rf_122_0, sh_123, rf_122_41, sh_159, refV_s, refV_n, psh_s, psh_n, kil_i, kil_r, kil_n, kil_l, cat_i, cat_r, iOK_1, iOK_5, jOK_2, jOK_6, wOK_e, lOK_1, lOK_2, lOK_3, lOK_4, lOK_5, lOK_6, catS_0, catS_1, catS_2, catS_3, catS_4, and_self, true_and, and_true, true_or, or_true, false_or, or_false, not_true_eq_false, not_false_eq_true, if_true, if_false, ite_int, ite_int0, au_10, eq_self, decide_true, decide_false, Bool.true_and, Bool.false_and]
      refine M_lays hb hs (h.tmp f1) e (fun I2 c1 c2 c3 _ _ => ?_)
      simp only [aw_iconst (pc2 := 41) (y := 0) D177_40 rfl (by decide), aw_istore_2 (pc2 := 42) D177_41 rfl, sh_122, rf_122_8, sh_131, rf_122_11, sh_134, rf_122_0, sh_123, rf_122_41, sh_159, refV_s, refV_n, psh_s, psh_n, kil_i, kil_r, kil_n, kil_l, cat_i, cat_r, iOK_1, iOK_5, jOK_2, jOK_6, wOK_e, lOK_1, lOK_2, lOK_3, lOK_4, lOK_5, lOK_6, catS_0, catS_1, catS_2, catS_3, catS_4, and_self, true_and, and_true, true_or, or_true, false_or, or_false, not_true_eq_false, not_false_eq_true, if_true, if_false, ite_int, ite_int0, au_10, eq_self, decide_true, decide_false, Bool.true_and, Bool.false_and]
      have hf : FrM I I2 := fun c hc => by rw [c2 c (by omega) (by omega) (by omega), f1 c (by omega)]
      have hh := c1.1 b hb
      have hG := hh.2.2.2.2.2.2.2
      unfold MGo at hG
      rw [e] at hG
      have hb158 : ∀ i, i < g.1.length → I2 158 i = nI (lts g i) := fun i hi => by rw [c2 158 (by omega) (by omega) (by omega)]; exact f2 i hi
      have hfin : ∀ (I3 : IT) (v : Int32), (∀ c, c ≠ 122 → I3 c = I2 c) → (∀ k, k ≠ 44 → I3 122 k = I2 122 k) → I3 122 44 = v → MInv (setG σ v) I3 ∧ FrM I I3 := fun I3 v o1 o2 o3 => ⟨c1.gu o1 o2 o3, fun c hc => by rw [o1 c (by omega)]; exact hf c hc⟩
      have l3 : ∀ n i I3, i + n = 2 ^ (σ.1 b).N → (∀ c, c ≠ 122 → I3 c = I2 c) → (∀ k, k ≠ 44 → I3 122 k = I2 122 k) → scan (J1 g) g.1.length 0 = -1 → scan (J2 g) g.1.length 0 = -1 → scan (J3 (σ.1 b) g) (2 ^ (σ.1 b).N) 0 = scan (J3 (σ.1 b) g) n i → AW (d + 5) ((G0 Ln).1, (G0 Ln).2.1) K 177 142 [.ref 122, .int (nI b), .int (nI i)] [] (G0 Ln) I3 J := by
        intro n
        induction n with
        | zero =>
          intro i I3 hi o1 o2 e1 e2 e3
          have ei : i = 2 ^ (σ.1 b).N := by omega
          rw [if_pos e1, if_pos e2, if_pos (show scan (J3 (σ.1 b) g) (2 ^ (σ.1 b).N) 0 = -1 by rw [e3]; rfl)] at hk
          rw [ei]
          simp (disch := omega) only [aw_iload_2 (pc2 := 143) D177_142 rfl, aw_iconst (pc2 := 144) (y := 1) D177_143 rfl (by decide), aw_aload_0 (pc2 := 145) D177_144 rfl, aw_getR (pc2 := 148) (ci := 7) (fk := 0) D177_145 rfl fT_7_7 rfl, aw_iload_1 (pc2 := 149) D177_148 rfl, aw_iaload (pc2 := 150) D177_149 rfl, aw_ishl (pc2 := 151) D177_150 rfl, aw_icmp_ge (pc2 := 154) (t := 188) D177_151 (by decide) rfl, aw_aload_0 (pc2 := 189) D177_188 rfl, aw_iconst (pc2 := 190) (y := -1) D177_189 rfl (by decide), aw_putI (pc2 := 193) (ci := 7) (fk := 44) D177_190 rfl fT_7_130 rfl, aw_iconst (pc2 := 194) (y := 0) D177_193 rfl (by decide), aw_iret D177_194 rfl, sh_122, rf_122_8, sh_131, rf_122_11, sh_134, rf_122_0, sh_123, rf_122_41, sh_159, refV_s, refV_n, psh_s, psh_n, kil_i, kil_r, kil_n, kil_l, cat_i, cat_r, iOK_1, iOK_5, jOK_2, jOK_6, wOK_e, lOK_1, lOK_2, lOK_3, lOK_4, lOK_5, lOK_6, catS_0, catS_1, catS_2, catS_3, catS_4, and_self, true_and, and_true, true_or, or_true, false_or, or_false, not_true_eq_false, not_false_eq_true, if_true, if_false, ite_int, ite_int0, au_10, eq_self, decide_true, decide_false, Bool.true_and, Bool.false_and, au_in, au_le, au_lt, au_eq, au_lt0, au_ge0, au_le0, au_gt0, au_eq0, au_leT, au_leF, au_ltT, au_ltF, au_eqT, au_eqF, nI_clamp, nI_1, nI_add, pk_mul, au_sub1, au_subc, au_up2e, au_up2n, lit_of, o1 123 (by omega), hh.1, shl1]
          have := hfin (up2 I3 122 44 (-1)) (-1) (fun c hc => by rw [up2_off hc]; exact o1 c hc) (fun k hk2 => by rw [au_up2k hk2]; exact o2 k hk2) au_up2
          exact hk _ J this.1 this.2 FrM.rf
        | succ n ih =>
          intro i I3 hi o1 o2 e1 e2 e3
          have hi2 : i < 2 ^ (σ.1 b).N := by omega
          rw [scan] at e3
          have hm := hfin (up2 I3 122 44 (nI i)) (nI i) (fun c hc => by rw [up2_off hc]; exact o1 c hc) (fun k hk2 => by rw [au_up2k hk2]; exact o2 k hk2) au_up2
          have hsay : I3 159 (4096 * b + i) = bI (sayR (σ.1 b).N g i) := by rw [o1 159 (by omega)]; exact c3 i hi2
          have hMB : MB b (σ.1 b) (up2 I3 122 44 (nI i)) := hm.1.1 b hb
          rw [aw_iload_2 (pc2 := 143) D177_142 rfl]
          simp (disch := omega) only [aw_iconst (pc2 := 144) (y := 1) D177_143 rfl (by decide), aw_aload_0 (pc2 := 145) D177_144 rfl, aw_getR (pc2 := 148) (ci := 7) (fk := 0) D177_145 rfl fT_7_7 rfl, aw_iload_1 (pc2 := 149) D177_148 rfl, aw_iaload (pc2 := 150) D177_149 rfl, aw_ishl (pc2 := 151) D177_150 rfl, aw_icmp_ge (pc2 := 154) (t := 188) D177_151 (by decide) rfl, aw_aload_0 (pc2 := 155) D177_154 rfl, aw_iload_2 (pc2 := 156) D177_155 rfl, aw_putI (pc2 := 159) (ci := 7) (fk := 44) D177_156 rfl fT_7_130 rfl, sh_122, rf_122_8, sh_131, rf_122_11, sh_134, rf_122_0, sh_123, rf_122_41, sh_159, refV_s, refV_n, psh_s, psh_n, kil_i, kil_r, kil_n, kil_l, cat_i, cat_r, iOK_1, iOK_5, jOK_2, jOK_6, wOK_e, lOK_1, lOK_2, lOK_3, lOK_4, lOK_5, lOK_6, catS_0, catS_1, catS_2, catS_3, catS_4, and_self, true_and, and_true, true_or, or_true, false_or, or_false, not_true_eq_false, not_false_eq_true, if_true, if_false, ite_int, ite_int0, au_10, eq_self, decide_true, decide_false, Bool.true_and, Bool.false_and, au_in, au_le, au_lt, au_eq, au_lt0, au_ge0, au_le0, au_gt0, au_eq0, au_leT, au_leF, au_ltT, au_ltF, au_eqT, au_eqF, nI_clamp, nI_1, nI_add, pk_mul, au_sub1, au_subc, au_up2e, au_up2n, lit_of, o1 123 (by omega), hh.1, shl1]
          simp (disch := omega) only [aw_aload_0 (pc2 := 160) D177_159 rfl, aw_getR (pc2 := 163) (ci := 7) (fk := 41) D177_160 rfl fT_7_120 rfl, aw_sipush (pc2 := 166) (y := 4096) D177_163 rfl (by decide), aw_iload_1 (pc2 := 167) D177_166 rfl, aw_imul (pc2 := 168) D177_167 rfl, aw_iload_2 (pc2 := 169) D177_168 rfl, aw_iadd (pc2 := 170) D177_169 rfl, aw_baload (pc2 := 171) D177_170 rfl, aw_aload_0 (pc2 := 172) D177_171 rfl, aw_iload_1 (pc2 := 173) D177_172 rfl, aw_iload_2 (pc2 := 174) D177_173 rfl, aw_iv2_0 (pc2 := 177) (o := 7) D177_174 rfl cT_7_291 rfl rfl, aw_icmp_eq (pc2 := 180) (t := 182) D177_177 (by decide) rfl, sh_122, rf_122_8, sh_131, rf_122_11, sh_134, rf_122_0, sh_123, rf_122_41, sh_159, lit_4096, refV_s, refV_n, psh_s, psh_n, kil_i, kil_r, kil_n, kil_l, cat_i, cat_r, iOK_1, iOK_5, jOK_2, jOK_6, wOK_e, lOK_1, lOK_2, lOK_3, lOK_4, lOK_5, lOK_6, catS_0, catS_1, catS_2, catS_3, catS_4, and_self, true_and, and_true, true_or, or_true, false_or, or_false, not_true_eq_false, not_false_eq_true, if_true, if_false, ite_int, ite_int0, au_10, eq_self, decide_true, decide_false, Bool.true_and, Bool.false_and, au_in, au_le, au_lt, au_eq, au_lt0, au_ge0, au_le0, au_gt0, au_eq0, au_leT, au_leF, au_ltT, au_ltF, au_eqT, au_eqF, nI_clamp, nI_1, nI_add, pk_mul, au_sub1, au_subc, au_up2e, au_up2n, lit_of, lit_4096, hsay, M_isWhole hb hbk hMB (show i < 2 ^ 31 by omega), bI_inj, bI_ok]
          by_cases t : sayR (σ.1 b).N g i = whB (σ.1 b) i
          · have et : J3 (σ.1 b) g i = false := by unfold J3; rw [t]; simp
            rw [et, if_neg (by decide)] at e3
            rw [if_pos t]
            simp (disch := omega) only [aw_iinc_2 (pc2 := 185) (y := 1) D177_182 rfl (by decide), aw_goto (t := 142) D177_185 (by decide), sh_122, rf_122_8, sh_131, rf_122_11, sh_134, rf_122_0, sh_123, rf_122_41, sh_159, refV_s, refV_n, psh_s, psh_n, kil_i, kil_r, kil_n, kil_l, cat_i, cat_r, iOK_1, iOK_5, jOK_2, jOK_6, wOK_e, lOK_1, lOK_2, lOK_3, lOK_4, lOK_5, lOK_6, catS_0, catS_1, catS_2, catS_3, catS_4, and_self, true_and, and_true, true_or, or_true, false_or, or_false, not_true_eq_false, not_false_eq_true, if_true, if_false, ite_int, ite_int0, au_10, eq_self, decide_true, decide_false, Bool.true_and, Bool.false_and, au_in, au_le, au_lt, au_eq, au_lt0, au_ge0, au_le0, au_gt0, au_eq0, au_leT, au_leF, au_ltT, au_ltF, au_eqT, au_eqF, nI_clamp, nI_1, nI_add, pk_mul, au_sub1, au_subc, au_up2e, au_up2n, lit_of]
            exact ih (i + 1) _ (by omega) (fun c hc => by rw [up2_off hc]; exact o1 c hc) (fun k hk2 => by rw [au_up2k hk2]; exact o2 k hk2) e1 e2 e3
          · have et : J3 (σ.1 b) g i = true := by unfold J3; simp [t]
            rw [et, if_pos rfl] at e3
            rw [if_pos e1, if_pos e2, if_neg (by rw [e3, au_m1 (show i < 2 ^ 31 by omega)]; exact not_false), e3] at hk
            rw [if_neg t]
            simp (disch := omega) only [aw_iconst (pc2 := 181) (y := 3) D177_180 rfl (by decide), aw_iret D177_181 rfl, sh_122, rf_122_8, sh_131, rf_122_11, sh_134, rf_122_0, sh_123, rf_122_41, sh_159, lit_3, refV_s, refV_n, psh_s, psh_n, kil_i, kil_r, kil_n, kil_l, cat_i, cat_r, iOK_1, iOK_5, jOK_2, jOK_6, wOK_e, lOK_1, lOK_2, lOK_3, lOK_4, lOK_5, lOK_6, catS_0, catS_1, catS_2, catS_3, catS_4, and_self, true_and, and_true, true_or, or_true, false_or, or_false, not_true_eq_false, not_false_eq_true, if_true, if_false, ite_int, ite_int0, au_10, eq_self, decide_true, decide_false, Bool.true_and, Bool.false_and, au_in, au_le, au_lt, au_eq, au_lt0, au_ge0, au_le0, au_gt0, au_eq0, au_leT, au_leF, au_ltT, au_ltF, au_eqT, au_eqF, nI_clamp, nI_1, nI_add, pk_mul, au_sub1, au_subc, au_up2e, au_up2n, lit_of]
            exact hk _ J hm.1 hm.2 FrM.rf
      have l2 : ∀ n i I3, i + n = g.1.length → (∀ c, c ≠ 122 → I3 c = I2 c) → (∀ k, k ≠ 44 → I3 122 k = I2 122 k) → scan (J1 g) g.1.length 0 = -1 → scan (J2 g) g.1.length 0 = scan (J2 g) n i → AW (d + 5) ((G0 Ln).1, (G0 Ln).2.1) K 177 92 [.ref 122, .int (nI b), .int (nI i)] [] (G0 Ln) I3 J := by
        intro n
        induction n with
        | zero =>
          intro i I3 hi o1 o2 e1 e2
          have ei : i = g.1.length := by omega
          rw [ei]
          simp (disch := omega) only [aw_iload_2 (pc2 := 93) D177_92 rfl, aw_aload_0 (pc2 := 94) D177_93 rfl, aw_getR (pc2 := 97) (ci := 7) (fk := 8) D177_94 rfl fT_7_34 rfl, aw_iload_1 (pc2 := 98) D177_97 rfl, aw_iaload (pc2 := 99) D177_98 rfl, aw_icmp_ge (pc2 := 102) (t := 140) D177_99 (by decide) rfl, aw_iconst (pc2 := 141) (y := 0) D177_140 rfl (by decide), aw_istore_2 (pc2 := 142) D177_141 rfl, sh_122, rf_122_8, sh_131, rf_122_11, sh_134, rf_122_0, sh_123, rf_122_41, sh_159, refV_s, refV_n, psh_s, psh_n, kil_i, kil_r, kil_n, kil_l, cat_i, cat_r, iOK_1, iOK_5, jOK_2, jOK_6, wOK_e, lOK_1, lOK_2, lOK_3, lOK_4, lOK_5, lOK_6, catS_0, catS_1, catS_2, catS_3, catS_4, and_self, true_and, and_true, true_or, or_true, false_or, or_false, not_true_eq_false, not_false_eq_true, if_true, if_false, ite_int, ite_int0, au_10, eq_self, decide_true, decide_false, Bool.true_and, Bool.false_and, au_in, au_le, au_lt, au_eq, au_lt0, au_ge0, au_le0, au_gt0, au_eq0, au_leT, au_leF, au_ltT, au_ltF, au_eqT, au_eqF, nI_clamp, nI_1, nI_add, pk_mul, au_sub1, au_subc, au_up2e, au_up2n, lit_of, o1 131 (by omega), hG.1]
          exact l3 (2 ^ (σ.1 b).N) 0 I3 (by omega) o1 o2 e1 (by rw [e2]; rfl) rfl
        | succ n ih =>
          intro i I3 hi o1 o2 e1 e2
          have hil : i < g.1.length := by omega
          obtain ⟨n1, -⟩ := hG.2.2.2.1 i hil
          have hkd := (nd_kind (node_ok hgo hil)).2
          rw [scan] at e2
          have hm := hfin (up2 I3 122 44 (nI i)) (nI i) (fun c hc => by rw [up2_off hc]; exact o1 c hc) (fun k hk2 => by rw [au_up2k hk2]; exact o2 k hk2) au_up2
          have oo : ∀ c, (c = 134 ∨ c = 135 ∨ c = 136 ∨ c = 137 ∨ c = 138) → up2 I3 122 44 (nI i) c = I2 c := fun c hc => by rw [up2_off (by omega), o1 c (by omega)]
          have o158 : ∀ i', i' < g.1.length → up2 I3 122 44 (nI i) 158 i' = nI (lts g i') := fun i' hi' => by rw [up2_off (by omega), o1 158 (by omega)]; exact hb158 i' hi'
          have ihn := ih (i + 1) (up2 I3 122 44 (nI i)) (by omega) (fun c hc => by rw [up2_off hc]; exact o1 c hc) (fun k hk2 => by rw [au_up2k hk2]; exact o2 k hk2) e1
          rw [aw_iload_2 (pc2 := 93) D177_92 rfl]
          simp (disch := omega) only [aw_aload_0 (pc2 := 94) D177_93 rfl, aw_getR (pc2 := 97) (ci := 7) (fk := 8) D177_94 rfl fT_7_34 rfl, aw_iload_1 (pc2 := 98) D177_97 rfl, aw_iaload (pc2 := 99) D177_98 rfl, aw_icmp_ge (pc2 := 102) (t := 140) D177_99 (by decide) rfl, aw_aload_0 (pc2 := 103) D177_102 rfl, aw_iload_2 (pc2 := 104) D177_103 rfl, aw_putI (pc2 := 107) (ci := 7) (fk := 44) D177_104 rfl fT_7_130 rfl, sh_122, rf_122_8, sh_131, rf_122_11, sh_134, rf_122_0, sh_123, rf_122_41, sh_159, refV_s, refV_n, psh_s, psh_n, kil_i, kil_r, kil_n, kil_l, cat_i, cat_r, iOK_1, iOK_5, jOK_2, jOK_6, wOK_e, lOK_1, lOK_2, lOK_3, lOK_4, lOK_5, lOK_6, catS_0, catS_1, catS_2, catS_3, catS_4, and_self, true_and, and_true, true_or, or_true, false_or, or_false, not_true_eq_false, not_false_eq_true, if_true, if_false, ite_int, ite_int0, au_10, eq_self, decide_true, decide_false, Bool.true_and, Bool.false_and, au_in, au_le, au_lt, au_eq, au_lt0, au_ge0, au_le0, au_gt0, au_eq0, au_leT, au_leF, au_ltT, au_ltF, au_eqT, au_eqF, nI_clamp, nI_1, nI_add, pk_mul, au_sub1, au_subc, au_up2e, au_up2n, lit_of, o1 131 (by omega), hG.1]
          simp (disch := omega) only [aw_aload_0 (pc2 := 108) D177_107 rfl, aw_getR (pc2 := 111) (ci := 7) (fk := 11) D177_108 rfl fT_7_43 rfl, aw_sipush (pc2 := 114) (y := 1500) D177_111 rfl (by decide), aw_iload_1 (pc2 := 115) D177_114 rfl, aw_imul (pc2 := 116) D177_115 rfl, aw_iload_2 (pc2 := 117) D177_116 rfl, aw_iadd (pc2 := 118) D177_117 rfl, aw_iaload (pc2 := 119) D177_118 rfl, aw_iconst (pc2 := 120) (y := 4) D177_119 rfl (by decide), aw_icmp_ne (pc2 := 123) (t := 134) D177_120 (by decide) rfl, sh_122, rf_122_8, sh_131, rf_122_11, sh_134, lit_1500, lit_4, rf_122_0, sh_123, rf_122_41, sh_159, refV_s, refV_n, psh_s, psh_n, kil_i, kil_r, kil_n, kil_l, cat_i, cat_r, iOK_1, iOK_5, jOK_2, jOK_6, wOK_e, lOK_1, lOK_2, lOK_3, lOK_4, lOK_5, lOK_6, catS_0, catS_1, catS_2, catS_3, catS_4, and_self, true_and, and_true, true_or, or_true, false_or, or_false, not_true_eq_false, not_false_eq_true, if_true, if_false, ite_int, ite_int0, au_10, eq_self, decide_true, decide_false, Bool.true_and, Bool.false_and, au_in, au_le, au_lt, au_eq, au_lt0, au_ge0, au_le0, au_gt0, au_eq0, au_leT, au_leF, au_ltT, au_ltF, au_eqT, au_eqF, nI_clamp, nI_1, nI_add, pk_mul, au_sub1, au_subc, au_up2e, au_up2n, lit_of, lit_1500, o1 134 (by omega), n1]
          by_cases h4 : (nodeAt g i).1 = 4
          · rw [if_neg (fun q => q h4)]
            simp (disch := omega) only [aw_aload_0 (pc2 := 124) D177_123 rfl, aw_iload_1 (pc2 := 125) D177_124 rfl, aw_iload_2 (pc2 := 126) D177_125 rfl, aw_iv2_0 (pc2 := 129) (o := 7) D177_126 rfl cT_7_288 rfl rfl, aw_if_eq (pc2 := 132) (t := 134) D177_129 (by decide) rfl, sh_122, rf_122_8, sh_131, rf_122_11, sh_134, rf_122_0, sh_123, rf_122_41, sh_159, refV_s, refV_n, psh_s, psh_n, kil_i, kil_r, kil_n, kil_l, cat_i, cat_r, iOK_1, iOK_5, jOK_2, jOK_6, wOK_e, lOK_1, lOK_2, lOK_3, lOK_4, lOK_5, lOK_6, catS_0, catS_1, catS_2, catS_3, catS_4, and_self, true_and, and_true, true_or, or_true, false_or, or_false, not_true_eq_false, not_false_eq_true, if_true, if_false, ite_int, ite_int0, au_10, eq_self, decide_true, decide_false, Bool.true_and, Bool.false_and, au_in, au_le, au_lt, au_eq, au_lt0, au_ge0, au_le0, au_gt0, au_eq0, au_leT, au_leF, au_ltT, au_ltF, au_eqT, au_eqF, nI_clamp, nI_1, nI_add, pk_mul, au_sub1, au_subc, au_up2e, au_up2n, lit_of, M_hasOwnLetter hb hN hgo hG.2 oo o158 hil h4, bI_0]
            cases t : J2 g i
            · rw [t, if_neg (by decide)] at e2
              rw [if_pos rfl]
              simp (disch := omega) only [aw_iinc_2 (pc2 := 137) (y := 1) D177_134 rfl (by decide), aw_goto (t := 92) D177_137 (by decide), sh_122, rf_122_8, sh_131, rf_122_11, sh_134, rf_122_0, sh_123, rf_122_41, sh_159, refV_s, refV_n, psh_s, psh_n, kil_i, kil_r, kil_n, kil_l, cat_i, cat_r, iOK_1, iOK_5, jOK_2, jOK_6, wOK_e, lOK_1, lOK_2, lOK_3, lOK_4, lOK_5, lOK_6, catS_0, catS_1, catS_2, catS_3, catS_4, and_self, true_and, and_true, true_or, or_true, false_or, or_false, not_true_eq_false, not_false_eq_true, if_true, if_false, ite_int, ite_int0, au_10, eq_self, decide_true, decide_false, Bool.true_and, Bool.false_and, au_in, au_le, au_lt, au_eq, au_lt0, au_ge0, au_le0, au_gt0, au_eq0, au_leT, au_leF, au_ltT, au_ltF, au_eqT, au_eqF, nI_clamp, nI_1, nI_add, pk_mul, au_sub1, au_subc, au_up2e, au_up2n, lit_of]
              exact ihn e2
            · rw [t, if_pos rfl] at e2
              rw [if_pos e1, if_neg (by rw [e2, au_m1 (show i < 2 ^ 31 by omega)]; exact not_false), e2] at hk
              rw [if_neg (by decide)]
              simp (disch := omega) only [aw_iconst (pc2 := 133) (y := 2) D177_132 rfl (by decide), aw_iret D177_133 rfl, refV_s, refV_n, psh_s, psh_n, kil_i, kil_r, kil_n, kil_l, cat_i, cat_r, iOK_1, iOK_5, jOK_2, jOK_6, wOK_e, lOK_1, lOK_2, lOK_3, lOK_4, lOK_5, lOK_6, catS_0, catS_1, catS_2, catS_3, catS_4, and_self, true_and, and_true, true_or, or_true, false_or, or_false, not_true_eq_false, not_false_eq_true, if_true, if_false, ite_int, ite_int0, au_10, eq_self, decide_true, decide_false, Bool.true_and, Bool.false_and]
              exact hk _ J hm.1 hm.2 FrM.rf
          · rw [show J2 g i = false by unfold J2; rw [decide_eq_false h4]; rfl, if_neg (by decide)] at e2
            rw [if_pos h4]
            simp (disch := omega) only [aw_iinc_2 (pc2 := 137) (y := 1) D177_134 rfl (by decide), aw_goto (t := 92) D177_137 (by decide), sh_122, rf_122_8, sh_131, rf_122_11, sh_134, rf_122_0, sh_123, rf_122_41, sh_159, refV_s, refV_n, psh_s, psh_n, kil_i, kil_r, kil_n, kil_l, cat_i, cat_r, iOK_1, iOK_5, jOK_2, jOK_6, wOK_e, lOK_1, lOK_2, lOK_3, lOK_4, lOK_5, lOK_6, catS_0, catS_1, catS_2, catS_3, catS_4, and_self, true_and, and_true, true_or, or_true, false_or, or_false, not_true_eq_false, not_false_eq_true, if_true, if_false, ite_int, ite_int0, au_10, eq_self, decide_true, decide_false, Bool.true_and, Bool.false_and, au_in, au_le, au_lt, au_eq, au_lt0, au_ge0, au_le0, au_gt0, au_eq0, au_leT, au_leF, au_ltT, au_ltF, au_eqT, au_eqF, nI_clamp, nI_1, nI_add, pk_mul, au_sub1, au_subc, au_up2e, au_up2n, lit_of]
            exact ihn e2
      have l1 : ∀ n i I3, i + n = g.1.length → (∀ c, c ≠ 122 → I3 c = I2 c) → (∀ k, k ≠ 44 → I3 122 k = I2 122 k) → scan (J1 g) g.1.length 0 = scan (J1 g) n i → AW (d + 5) ((G0 Ln).1, (G0 Ln).2.1) K 177 42 [.ref 122, .int (nI b), .int (nI i)] [] (G0 Ln) I3 J := by
        intro n
        induction n with
        | zero =>
          intro i I3 hi o1 o2 e1
          have ei : i = g.1.length := by omega
          rw [ei]
          simp (disch := omega) only [aw_iload_2 (pc2 := 43) D177_42 rfl, aw_aload_0 (pc2 := 44) D177_43 rfl, aw_getR (pc2 := 47) (ci := 7) (fk := 8) D177_44 rfl fT_7_34 rfl, aw_iload_1 (pc2 := 48) D177_47 rfl, aw_iaload (pc2 := 49) D177_48 rfl, aw_icmp_ge (pc2 := 52) (t := 90) D177_49 (by decide) rfl, aw_iconst (pc2 := 91) (y := 0) D177_90 rfl (by decide), aw_istore_2 (pc2 := 92) D177_91 rfl, sh_122, rf_122_8, sh_131, rf_122_11, sh_134, rf_122_0, sh_123, rf_122_41, sh_159, refV_s, refV_n, psh_s, psh_n, kil_i, kil_r, kil_n, kil_l, cat_i, cat_r, iOK_1, iOK_5, jOK_2, jOK_6, wOK_e, lOK_1, lOK_2, lOK_3, lOK_4, lOK_5, lOK_6, catS_0, catS_1, catS_2, catS_3, catS_4, and_self, true_and, and_true, true_or, or_true, false_or, or_false, not_true_eq_false, not_false_eq_true, if_true, if_false, ite_int, ite_int0, au_10, eq_self, decide_true, decide_false, Bool.true_and, Bool.false_and, au_in, au_le, au_lt, au_eq, au_lt0, au_ge0, au_le0, au_gt0, au_eq0, au_leT, au_leF, au_ltT, au_ltF, au_eqT, au_eqF, nI_clamp, nI_1, nI_add, pk_mul, au_sub1, au_subc, au_up2e, au_up2n, lit_of, o1 131 (by omega), hG.1]
          exact l2 g.1.length 0 I3 (by omega) o1 o2 (by rw [e1]; rfl) rfl
        | succ n ih =>
          intro i I3 hi o1 o2 e1
          have hil : i < g.1.length := by omega
          obtain ⟨n1, -⟩ := hG.2.2.2.1 i hil
          have hkd := (nd_kind (node_ok hgo hil)).2
          rw [scan] at e1
          have hm := hfin (up2 I3 122 44 (nI i)) (nI i) (fun c hc => by rw [up2_off hc]; exact o1 c hc) (fun k hk2 => by rw [au_up2k hk2]; exact o2 k hk2) au_up2
          have oo : ∀ c, (c = 134 ∨ c = 135 ∨ c = 136 ∨ c = 137 ∨ c = 138) → up2 I3 122 44 (nI i) c = I2 c := fun c hc => by rw [up2_off (by omega), o1 c (by omega)]
          have o158 : ∀ i', i' < g.1.length → up2 I3 122 44 (nI i) 158 i' = nI (lts g i') := fun i' hi' => by rw [up2_off (by omega), o1 158 (by omega)]; exact hb158 i' hi'
          have ihn := ih (i + 1) (up2 I3 122 44 (nI i)) (by omega) (fun c hc => by rw [up2_off hc]; exact o1 c hc) (fun k hk2 => by rw [au_up2k hk2]; exact o2 k hk2)
          rw [aw_iload_2 (pc2 := 43) D177_42 rfl]
          simp (disch := omega) only [aw_aload_0 (pc2 := 44) D177_43 rfl, aw_getR (pc2 := 47) (ci := 7) (fk := 8) D177_44 rfl fT_7_34 rfl, aw_iload_1 (pc2 := 48) D177_47 rfl, aw_iaload (pc2 := 49) D177_48 rfl, aw_icmp_ge (pc2 := 52) (t := 90) D177_49 (by decide) rfl, aw_aload_0 (pc2 := 53) D177_52 rfl, aw_iload_2 (pc2 := 54) D177_53 rfl, aw_putI (pc2 := 57) (ci := 7) (fk := 44) D177_54 rfl fT_7_130 rfl, sh_122, rf_122_8, sh_131, rf_122_11, sh_134, rf_122_0, sh_123, rf_122_41, sh_159, refV_s, refV_n, psh_s, psh_n, kil_i, kil_r, kil_n, kil_l, cat_i, cat_r, iOK_1, iOK_5, jOK_2, jOK_6, wOK_e, lOK_1, lOK_2, lOK_3, lOK_4, lOK_5, lOK_6, catS_0, catS_1, catS_2, catS_3, catS_4, and_self, true_and, and_true, true_or, or_true, false_or, or_false, not_true_eq_false, not_false_eq_true, if_true, if_false, ite_int, ite_int0, au_10, eq_self, decide_true, decide_false, Bool.true_and, Bool.false_and, au_in, au_le, au_lt, au_eq, au_lt0, au_ge0, au_le0, au_gt0, au_eq0, au_leT, au_leF, au_ltT, au_ltF, au_eqT, au_eqF, nI_clamp, nI_1, nI_add, pk_mul, au_sub1, au_subc, au_up2e, au_up2n, lit_of, o1 131 (by omega), hG.1]
          simp (disch := omega) only [aw_aload_0 (pc2 := 58) D177_57 rfl, aw_getR (pc2 := 61) (ci := 7) (fk := 11) D177_58 rfl fT_7_43 rfl, aw_sipush (pc2 := 64) (y := 1500) D177_61 rfl (by decide), aw_iload_1 (pc2 := 65) D177_64 rfl, aw_imul (pc2 := 66) D177_65 rfl, aw_iload_2 (pc2 := 67) D177_66 rfl, aw_iadd (pc2 := 68) D177_67 rfl, aw_iaload (pc2 := 69) D177_68 rfl, aw_iconst (pc2 := 70) (y := 3) D177_69 rfl (by decide), aw_icmp_ne (pc2 := 73) (t := 84) D177_70 (by decide) rfl, sh_122, rf_122_8, sh_131, rf_122_11, sh_134, lit_1500, lit_3, rf_122_0, sh_123, rf_122_41, sh_159, refV_s, refV_n, psh_s, psh_n, kil_i, kil_r, kil_n, kil_l, cat_i, cat_r, iOK_1, iOK_5, jOK_2, jOK_6, wOK_e, lOK_1, lOK_2, lOK_3, lOK_4, lOK_5, lOK_6, catS_0, catS_1, catS_2, catS_3, catS_4, and_self, true_and, and_true, true_or, or_true, false_or, or_false, not_true_eq_false, not_false_eq_true, if_true, if_false, ite_int, ite_int0, au_10, eq_self, decide_true, decide_false, Bool.true_and, Bool.false_and, au_in, au_le, au_lt, au_eq, au_lt0, au_ge0, au_le0, au_gt0, au_eq0, au_leT, au_leF, au_ltT, au_ltF, au_eqT, au_eqF, nI_clamp, nI_1, nI_add, pk_mul, au_sub1, au_subc, au_up2e, au_up2n, lit_of, lit_1500, o1 134 (by omega), n1]
          by_cases h3 : (nodeAt g i).1 = 3
          · rw [if_neg (fun q => q h3)]
            simp (disch := omega) only [aw_aload_0 (pc2 := 74) D177_73 rfl, aw_iload_1 (pc2 := 75) D177_74 rfl, aw_iload_2 (pc2 := 76) D177_75 rfl, aw_iv2_0 (pc2 := 79) (o := 7) D177_76 rfl cT_7_285 rfl rfl, aw_if_eq (pc2 := 82) (t := 84) D177_79 (by decide) rfl, sh_122, rf_122_8, sh_131, rf_122_11, sh_134, rf_122_0, sh_123, rf_122_41, sh_159, refV_s, refV_n, psh_s, psh_n, kil_i, kil_r, kil_n, kil_l, cat_i, cat_r, iOK_1, iOK_5, jOK_2, jOK_6, wOK_e, lOK_1, lOK_2, lOK_3, lOK_4, lOK_5, lOK_6, catS_0, catS_1, catS_2, catS_3, catS_4, and_self, true_and, and_true, true_or, or_true, false_or, or_false, not_true_eq_false, not_false_eq_true, if_true, if_false, ite_int, ite_int0, au_10, eq_self, decide_true, decide_false, Bool.true_and, Bool.false_and, au_in, au_le, au_lt, au_eq, au_lt0, au_ge0, au_le0, au_gt0, au_eq0, au_leT, au_leF, au_ltT, au_ltF, au_eqT, au_eqF, nI_clamp, nI_1, nI_add, pk_mul, au_sub1, au_subc, au_up2e, au_up2n, lit_of, M_sharesLetters hb hN hgo hG.2 oo o158 hil, bI_0]
            have ej : J1 g i = shB (lts g) (nodeAt g i).2.2 (nodeAt g i).2.2.length := by unfold J1; rw [decide_eq_true h3, Bool.true_and]
            rw [ej] at e1
            cases t : shB (lts g) (nodeAt g i).2.2 (nodeAt g i).2.2.length
            · rw [t, if_neg (by decide)] at e1
              rw [if_pos rfl]
              simp (disch := omega) only [aw_iinc_2 (pc2 := 87) (y := 1) D177_84 rfl (by decide), aw_goto (t := 42) D177_87 (by decide), sh_122, rf_122_8, sh_131, rf_122_11, sh_134, rf_122_0, sh_123, rf_122_41, sh_159, refV_s, refV_n, psh_s, psh_n, kil_i, kil_r, kil_n, kil_l, cat_i, cat_r, iOK_1, iOK_5, jOK_2, jOK_6, wOK_e, lOK_1, lOK_2, lOK_3, lOK_4, lOK_5, lOK_6, catS_0, catS_1, catS_2, catS_3, catS_4, and_self, true_and, and_true, true_or, or_true, false_or, or_false, not_true_eq_false, not_false_eq_true, if_true, if_false, ite_int, ite_int0, au_10, eq_self, decide_true, decide_false, Bool.true_and, Bool.false_and, au_in, au_le, au_lt, au_eq, au_lt0, au_ge0, au_le0, au_gt0, au_eq0, au_leT, au_leF, au_ltT, au_ltF, au_eqT, au_eqF, nI_clamp, nI_1, nI_add, pk_mul, au_sub1, au_subc, au_up2e, au_up2n, lit_of]
              exact ihn e1
            · rw [t, if_pos rfl] at e1
              rw [if_neg (by rw [e1, au_m1 (show i < 2 ^ 31 by omega)]; exact not_false), e1] at hk
              rw [if_neg (by decide)]
              simp (disch := omega) only [aw_iconst (pc2 := 83) (y := 1) D177_82 rfl (by decide), aw_iret D177_83 rfl, refV_s, refV_n, psh_s, psh_n, kil_i, kil_r, kil_n, kil_l, cat_i, cat_r, iOK_1, iOK_5, jOK_2, jOK_6, wOK_e, lOK_1, lOK_2, lOK_3, lOK_4, lOK_5, lOK_6, catS_0, catS_1, catS_2, catS_3, catS_4, and_self, true_and, and_true, true_or, or_true, false_or, or_false, not_true_eq_false, not_false_eq_true, if_true, if_false, ite_int, ite_int0, au_10, eq_self, decide_true, decide_false, Bool.true_and, Bool.false_and]
              exact hk _ J hm.1 hm.2 FrM.rf
          · rw [show J1 g i = false by unfold J1; rw [decide_eq_false h3]; rfl, if_neg (by decide)] at e1
            rw [if_pos h3]
            simp (disch := omega) only [aw_iinc_2 (pc2 := 87) (y := 1) D177_84 rfl (by decide), aw_goto (t := 42) D177_87 (by decide), sh_122, rf_122_8, sh_131, rf_122_11, sh_134, rf_122_0, sh_123, rf_122_41, sh_159, refV_s, refV_n, psh_s, psh_n, kil_i, kil_r, kil_n, kil_l, cat_i, cat_r, iOK_1, iOK_5, jOK_2, jOK_6, wOK_e, lOK_1, lOK_2, lOK_3, lOK_4, lOK_5, lOK_6, catS_0, catS_1, catS_2, catS_3, catS_4, and_self, true_and, and_true, true_or, or_true, false_or, or_false, not_true_eq_false, not_false_eq_true, if_true, if_false, ite_int, ite_int0, au_10, eq_self, decide_true, decide_false, Bool.true_and, Bool.false_and, au_in, au_le, au_lt, au_eq, au_lt0, au_ge0, au_le0, au_gt0, au_eq0, au_leT, au_leF, au_ltT, au_ltF, au_eqT, au_eqF, nI_clamp, nI_1, nI_add, pk_mul, au_sub1, au_subc, au_up2e, au_up2n, lit_of]
            exact ihn e1
      exact l1 g.1.length 0 I2 (by omega) (fun _ _ => rfl) (fun _ _ => rfl) rfl
end JudgeM
