/-! the model: a list is closed -/
def chC0 (b f a k : Nat) : Prop := chLi b a k ∨ (a = 143 ∧ 12 * f ≤ k ∧ k < 12 * f + 12)
section MClos
variable {d Ln b f : Nat} {I : IT} {J : JT} {K : KT}
theorem M_closeTailS {T M : Nat} {v3 v4 : Value} (hb : b < 2) (hf : f < 13) (hT : T ≤ 12) (hM : M ≤ 12) (k3 : kil v3 = v3) (k4 : kil v4 = v4) (h7 : I 144 f = nI T) (h8 : I 146 f = nI M) (hd : I 122 38 = nI (f + 1)) (h : sptM b I) (hK : ∀ I', fS (chC b f) I I' → sptM b I' → K none (G0 Ln) I' J) : AW (d + 1) ((G0 Ln).1, (G0 Ln).2.1) K 158 45 [.ref 122, .int (nI b), .int (nI f), v3, v4] [] (G0 Ln) I J := by
  obtain ⟨g1, g2⟩ := h
  simp (disch := omega) only [aw_aload_0 (pc2 := 46) D158_45 rfl, aw_getR (pc2 := 49) (ci := 7) (fk := 22) D158_46 rfl fT_7_74 rfl, aw_iload_2 (pc2 := 50) D158_49 rfl, aw_iaload (pc2 := 51) D158_50 rfl, aw_aload_0 (pc2 := 52) D158_51 rfl, aw_getR (pc2 := 55) (ci := 7) (fk := 24) D158_52 rfl fT_7_80 rfl, aw_iload_2 (pc2 := 56) D158_55 rfl, aw_iaload (pc2 := 57) D158_56 rfl, aw_iadd (pc2 := 58) D158_57 rfl, aw_istore_3 (pc2 := 59) D158_58 rfl, aw_aload_0 (pc2 := 60) D158_59 rfl, aw_dup (pc2 := 61) D158_60 rfl, aw_getI (pc2 := 64) (ci := 7) (fk := 38) D158_61 rfl fT_7_206 rfl, aw_iconst (pc2 := 65) (y := 1) D158_64 rfl (by decide), aw_isub (pc2 := 66) D158_65 rfl, aw_putI (pc2 := 69) (ci := 7) (fk := 38) D158_66 rfl fT_7_206 rfl, aw_iload_3 (pc2 := 70) D158_69 rfl, aw_if_ne (pc2 := 73) (t := 81) D158_70 (by decide) rfl, sh_122, rf_122_22, sh_144, rf_122_21, sh_143, lit_12, rf_122_24, sh_146, rf_122_26, sh_148, lit_3, refV_s, refV_n, psh_s, psh_n, kil_i, kil_r, kil_n, kil_l, cat_i, cat_r, iOK_1, iOK_5, jOK_2, jOK_6, wOK_e, lOK_1, lOK_2, lOK_3, lOK_4, lOK_5, lOK_6, catS_0, catS_1, catS_2, catS_3, catS_4, and_self, true_and, and_true, true_or, or_true, false_or, or_false, not_true_eq_false, not_false_eq_true, if_true, if_false, ite_int, ite_int0, au_10, eq_self, decide_true, decide_false, Bool.true_and, Bool.false_and, au_in, au_le, au_lt, au_eq, au_lt0, au_ge0, au_le0, au_gt0, au_eq0, au_leT, au_leF, au_ltT, au_ltF, au_eqT, au_eqF, nI_clamp, nI_1, nI_add, pk_mul, au_sub1, au_subc, au_up2e, au_up2n, lit_of, h7, h8, hd, k3, k4]
  by_cases e0 : T + M = 0
  · rw [if_neg (fun q => q e0)]
    simp (disch := omega) only [aw_aload_0 (pc2 := 74) D158_73 rfl, aw_iconst (pc2 := 75) (y := 0) D158_74 rfl (by decide), aw_putI (pc2 := 78) (ci := 7) (fk := 39) D158_75 rfl fT_7_212 rfl, aw_goto (t := 225) D158_78 (by decide), aw_vret D158_225 rfl, sh_122, rf_122_22, sh_144, rf_122_21, sh_143, lit_12, rf_122_24, sh_146, rf_122_26, sh_148, lit_3, refV_s, refV_n, psh_s, psh_n, kil_i, kil_r, kil_n, kil_l, cat_i, cat_r, iOK_1, iOK_5, jOK_2, jOK_6, wOK_e, lOK_1, lOK_2, lOK_3, lOK_4, lOK_5, lOK_6, catS_0, catS_1, catS_2, catS_3, catS_4, and_self, true_and, and_true, true_or, or_true, false_or, or_false, not_true_eq_false, not_false_eq_true, if_true, if_false, ite_int, ite_int0, au_10, eq_self, decide_true, decide_false, Bool.true_and, Bool.false_and, au_in, au_le, au_lt, au_eq, au_lt0, au_ge0, au_le0, au_gt0, au_eq0, au_leT, au_leF, au_ltT, au_ltF, au_eqT, au_eqF, nI_clamp, nI_1, nI_add, pk_mul, au_sub1, au_subc, au_up2e, au_up2n, lit_of]
    refine hK _ ((fS.up (by unfold chC; omega)).tr (fS.up (by unfold chC; omega))) ⟨?_, ?_⟩
    · simp (disch := omega) only [au_up2n]; exact g1
    · simp (disch := omega) only [au_up2n]; exact g2
  rw [if_pos e0]
  simp (disch := omega) only [aw_iload_3 (pc2 := 82) D158_81 rfl, aw_iconst (pc2 := 83) (y := 1) D158_82 rfl (by decide), aw_icmp_ne (pc2 := 86) (t := 124) D158_83 (by decide) rfl, sh_122, rf_122_22, sh_144, rf_122_21, sh_143, lit_12, rf_122_24, sh_146, rf_122_26, sh_148, lit_3, refV_s, refV_n, psh_s, psh_n, kil_i, kil_r, kil_n, kil_l, cat_i, cat_r, iOK_1, iOK_5, jOK_2, jOK_6, wOK_e, lOK_1, lOK_2, lOK_3, lOK_4, lOK_5, lOK_6, catS_0, catS_1, catS_2, catS_3, catS_4, and_self, true_and, and_true, true_or, or_true, false_or, or_false, not_true_eq_false, not_false_eq_true, if_true, if_false, ite_int, ite_int0, au_10, eq_self, decide_true, decide_false, Bool.true_and, Bool.false_and, au_in, au_le, au_lt, au_eq, au_lt0, au_ge0, au_le0, au_gt0, au_eq0, au_leT, au_leF, au_ltT, au_ltF, au_eqT, au_eqF, nI_clamp, nI_1, nI_add, pk_mul, au_sub1, au_subc, au_up2e, au_up2n, lit_of, au_eq1]
  by_cases e1 : T + M = 1
  · rw [if_neg (fun q => q e1)]
    simp (disch := omega) only [aw_aload_0 (pc2 := 87) D158_86 rfl, aw_aload_0 (pc2 := 88) D158_87 rfl, aw_getR (pc2 := 91) (ci := 7) (fk := 22) D158_88 rfl fT_7_74 rfl, aw_iload_2 (pc2 := 92) D158_91 rfl, aw_iaload (pc2 := 93) D158_92 rfl, aw_iconst (pc2 := 94) (y := 1) D158_93 rfl (by decide), aw_icmp_ne (pc2 := 97) (t := 109) D158_94 (by decide) rfl, sh_122, rf_122_22, sh_144, rf_122_21, sh_143, lit_12, rf_122_24, sh_146, rf_122_26, sh_148, lit_3, refV_s, refV_n, psh_s, psh_n, kil_i, kil_r, kil_n, kil_l, cat_i, cat_r, iOK_1, iOK_5, jOK_2, jOK_6, wOK_e, lOK_1, lOK_2, lOK_3, lOK_4, lOK_5, lOK_6, catS_0, catS_1, catS_2, catS_3, catS_4, and_self, true_and, and_true, true_or, or_true, false_or, or_false, not_true_eq_false, not_false_eq_true, if_true, if_false, ite_int, ite_int0, au_10, eq_self, decide_true, decide_false, Bool.true_and, Bool.false_and, au_in, au_le, au_lt, au_eq, au_lt0, au_ge0, au_le0, au_gt0, au_eq0, au_leT, au_leF, au_ltT, au_ltF, au_eqT, au_eqF, nI_clamp, nI_1, nI_add, pk_mul, au_sub1, au_subc, au_up2e, au_up2n, lit_of, h7, au_eq1]
    by_cases eT : T = 1
    · rw [if_neg (fun q => q eT)]
      simp (disch := omega) only [aw_aload_0 (pc2 := 98) D158_97 rfl, aw_getR (pc2 := 101) (ci := 7) (fk := 21) D158_98 rfl fT_7_71 rfl, aw_bipush (pc2 := 103) (y := 12) D158_101 rfl (by decide), aw_iload_2 (pc2 := 104) D158_103 rfl, aw_imul (pc2 := 105) D158_104 rfl, aw_iaload (pc2 := 106) D158_105 rfl, aw_goto (t := 118) D158_106 (by decide), aw_putI (pc2 := 121) (ci := 7) (fk := 39) D158_118 rfl fT_7_212 rfl, aw_goto (t := 225) D158_121 (by decide), aw_vret D158_225 rfl, sh_122, rf_122_22, sh_144, rf_122_21, sh_143, lit_12, rf_122_24, sh_146, rf_122_26, sh_148, lit_3, refV_s, refV_n, psh_s, psh_n, kil_i, kil_r, kil_n, kil_l, cat_i, cat_r, iOK_1, iOK_5, jOK_2, jOK_6, wOK_e, lOK_1, lOK_2, lOK_3, lOK_4, lOK_5, lOK_6, catS_0, catS_1, catS_2, catS_3, catS_4, and_self, true_and, and_true, true_or, or_true, false_or, or_false, not_true_eq_false, not_false_eq_true, if_true, if_false, ite_int, ite_int0, au_10, eq_self, decide_true, decide_false, Bool.true_and, Bool.false_and, au_in, au_le, au_lt, au_eq, au_lt0, au_ge0, au_le0, au_gt0, au_eq0, au_leT, au_leF, au_ltT, au_ltF, au_eqT, au_eqF, nI_clamp, nI_1, nI_add, pk_mul, au_sub1, au_subc, au_up2e, au_up2n, lit_of]
      refine hK _ ((fS.up (by unfold chC; omega)).tr (fS.up (by unfold chC; omega))) ⟨?_, ?_⟩
      · simp (disch := omega) only [au_up2n]; exact g1
      · simp (disch := omega) only [au_up2n]; exact g2
    · rw [if_pos eT]
      simp (disch := omega) only [aw_aload_0 (pc2 := 110) D158_109 rfl, aw_getR (pc2 := 113) (ci := 7) (fk := 26) D158_110 rfl fT_7_86 rfl, aw_bipush (pc2 := 115) (y := 12) D158_113 rfl (by decide), aw_iload_2 (pc2 := 116) D158_115 rfl, aw_imul (pc2 := 117) D158_116 rfl, aw_iaload (pc2 := 118) D158_117 rfl, aw_putI (pc2 := 121) (ci := 7) (fk := 39) D158_118 rfl fT_7_212 rfl, aw_goto (t := 225) D158_121 (by decide), aw_vret D158_225 rfl, sh_122, rf_122_22, sh_144, rf_122_21, sh_143, lit_12, rf_122_24, sh_146, rf_122_26, sh_148, lit_3, refV_s, refV_n, psh_s, psh_n, kil_i, kil_r, kil_n, kil_l, cat_i, cat_r, iOK_1, iOK_5, jOK_2, jOK_6, wOK_e, lOK_1, lOK_2, lOK_3, lOK_4, lOK_5, lOK_6, catS_0, catS_1, catS_2, catS_3, catS_4, and_self, true_and, and_true, true_or, or_true, false_or, or_false, not_true_eq_false, not_false_eq_true, if_true, if_false, ite_int, ite_int0, au_10, eq_self, decide_true, decide_false, Bool.true_and, Bool.false_and, au_in, au_le, au_lt, au_eq, au_lt0, au_ge0, au_le0, au_gt0, au_eq0, au_leT, au_leF, au_ltT, au_ltF, au_eqT, au_eqF, nI_clamp, nI_1, nI_add, pk_mul, au_sub1, au_subc, au_up2e, au_up2n, lit_of]
      refine hK _ ((fS.up (by unfold chC; omega)).tr (fS.up (by unfold chC; omega))) ⟨?_, ?_⟩
      · simp (disch := omega) only [au_up2n]; exact g1
      · simp (disch := omega) only [au_up2n]; exact g2
  rw [if_pos e1]
  simp (disch := omega) only [aw_aload_0 (pc2 := 125) D158_124 rfl, aw_aload_0 (pc2 := 126) D158_125 rfl, aw_iload_1 (pc2 := 127) D158_126 rfl, aw_iconst (pc2 := 128) (y := 3) D158_127 rfl (by decide), aw_iconst (pc2 := 129) (y := 0) D158_128 rfl (by decide), aw_iv3_0 (pc2 := 132) (o := 7) D158_129 rfl cT_7_228 rfl rfl, sh_122, rf_122_22, sh_144, rf_122_21, sh_143, lit_12, rf_122_24, sh_146, rf_122_26, sh_148, lit_3, refV_s, refV_n, psh_s, psh_n, kil_i, kil_r, kil_n, kil_l, cat_i, cat_r, iOK_1, iOK_5, jOK_2, jOK_6, wOK_e, lOK_1, lOK_2, lOK_3, lOK_4, lOK_5, lOK_6, catS_0, catS_1, catS_2, catS_3, catS_4, and_self, true_and, and_true, true_or, or_true, false_or, or_false, not_true_eq_false, not_false_eq_true, if_true, if_false, ite_int, ite_int0, au_10, eq_self, decide_true, decide_false, Bool.true_and, Bool.false_and, au_in, au_le, au_lt, au_eq, au_lt0, au_ge0, au_le0, au_gt0, au_eq0, au_leT, au_leF, au_ltT, au_ltF, au_eqT, au_eqF, nI_clamp, nI_1, nI_add, pk_mul, au_sub1, au_subc, au_up2e, au_up2n, lit_of]
  have g2' : up2 I 122 38 (nI (f + 1 - 1)) 131 b = nI 1500 := by rw [au_up2c (by omega)]; exact g2
  rw [show (0 : Int32) = nI 0 from rfl]
  rw [M_comesF (d := d) hb rfl g2']
  simp (disch := omega) only [aw_putI (pc2 := 135) (ci := 7) (fk := 39) D158_132 rfl fT_7_212 rfl, aw_aload_0 (pc2 := 136) D158_135 rfl, aw_getI (pc2 := 139) (ci := 7) (fk := 18) D158_136 rfl fT_7_191 rfl, aw_if_eq (pc2 := 142) (t := 143) D158_139 (by decide) rfl, aw_vret D158_142 rfl, sh_122, rf_122_22, sh_144, rf_122_21, sh_143, lit_12, rf_122_24, sh_146, rf_122_26, sh_148, lit_3, refV_s, refV_n, psh_s, psh_n, kil_i, kil_r, kil_n, kil_l, cat_i, cat_r, iOK_1, iOK_5, jOK_2, jOK_6, wOK_e, lOK_1, lOK_2, lOK_3, lOK_4, lOK_5, lOK_6, catS_0, catS_1, catS_2, catS_3, catS_4, and_self, true_and, and_true, true_or, or_true, false_or, or_false, not_true_eq_false, not_false_eq_true, if_true, if_false, ite_int, ite_int0, au_10, eq_self, decide_true, decide_false, Bool.true_and, Bool.false_and, au_in, au_le, au_lt, au_eq, au_lt0, au_ge0, au_le0, au_gt0, au_eq0, au_leT, au_leF, au_ltT, au_ltF, au_eqT, au_eqF, nI_clamp, nI_1, nI_add, pk_mul, au_sub1, au_subc, au_up2e, au_up2n, lit_of, psh, au_up2n, au_up2e]
  refine hK _ (((fS.up (by unfold chC; omega)).tr (fS.up (by unfold chC chLi; omega))).tr (fS.up (by unfold chC; omega))) ⟨?_, ?_⟩
  · simp (disch := omega) only [au_up2n, au_up2e]
  · simp (disch := omega) only [au_up2n]; exact g2
theorem M_closeTail {N : Nat} {S : ST} {ls nds : List Nat} {v3 v4 : Value} (hb : b < 2) (hf : f < 13) (hl : ls.length + nds.length ≤ 12) (hS : stC N S) (hls : ∀ x, x ∈ ls → x < S.1.length) (hnd : ∀ x, x ∈ nds → x < S.1.length) (k3 : kil v3 = v3) (k4 : kil v4 = v4) (h7 : I 144 f = nI ls.length) (h8 : I 146 f = nI nds.length) (h4 : lsA 143 (12 * f) ls I) (h5 : lsA 148 (12 * f) nds I) (hd : I 122 38 = nI (f + 1)) (h : cstM b S I) (hs : ∀ n S' I', endL (ls ++ nds) S = some (n, S') → fS (chC b f) I I' → cstM b S' I' → I' 122 38 = nI f → I' 122 39 = nI n → K none (G0 Ln) I' J) (hK : ∀ I', endL (ls ++ nds) S = none → fS (chC b f) I I' → sptM b I' → K none (G0 Ln) I' J) : AW (d + 1) ((G0 Ln).1, (G0 Ln).2.1) K 158 45 [.ref 122, .int (nI b), .int (nI f), v3, v4] [] (G0 Ln) I J := by
  have hla : (ls ++ nds).length = ls.length + nds.length := List.length_append
  obtain ⟨c1, c2, c3, c4, c5⟩ := id h
  simp (disch := omega) only [aw_aload_0 (pc2 := 46) D158_45 rfl, aw_getR (pc2 := 49) (ci := 7) (fk := 22) D158_46 rfl fT_7_74 rfl, aw_iload_2 (pc2 := 50) D158_49 rfl, aw_iaload (pc2 := 51) D158_50 rfl, aw_aload_0 (pc2 := 52) D158_51 rfl, aw_getR (pc2 := 55) (ci := 7) (fk := 24) D158_52 rfl fT_7_80 rfl, aw_iload_2 (pc2 := 56) D158_55 rfl, aw_iaload (pc2 := 57) D158_56 rfl, aw_iadd (pc2 := 58) D158_57 rfl, aw_istore_3 (pc2 := 59) D158_58 rfl, aw_aload_0 (pc2 := 60) D158_59 rfl, aw_dup (pc2 := 61) D158_60 rfl, aw_getI (pc2 := 64) (ci := 7) (fk := 38) D158_61 rfl fT_7_206 rfl, aw_iconst (pc2 := 65) (y := 1) D158_64 rfl (by decide), aw_isub (pc2 := 66) D158_65 rfl, aw_putI (pc2 := 69) (ci := 7) (fk := 38) D158_66 rfl fT_7_206 rfl, aw_iload_3 (pc2 := 70) D158_69 rfl, aw_if_ne (pc2 := 73) (t := 81) D158_70 (by decide) rfl, sh_122, rf_122_22, sh_144, rf_122_21, sh_143, lit_12, rf_122_24, sh_146, rf_122_26, sh_148, lit_3, refV_s, refV_n, psh_s, psh_n, kil_i, kil_r, kil_n, kil_l, cat_i, cat_r, iOK_1, iOK_5, jOK_2, jOK_6, wOK_e, lOK_1, lOK_2, lOK_3, lOK_4, lOK_5, lOK_6, catS_0, catS_1, catS_2, catS_3, catS_4, and_self, true_and, and_true, true_or, or_true, false_or, or_false, not_true_eq_false, not_false_eq_true, if_true, if_false, ite_int, ite_int0, au_10, eq_self, decide_true, decide_false, Bool.true_and, Bool.false_and, au_in, au_le, au_lt, au_eq, au_lt0, au_ge0, au_le0, au_gt0, au_eq0, au_leT, au_leF, au_ltT, au_ltF, au_eqT, au_eqF, nI_clamp, nI_1, nI_add, pk_mul, au_sub1, au_subc, au_up2e, au_up2n, lit_of, h7, h8, hd, k3, k4]
  by_cases e0 : ls.length + nds.length = 0
  · rw [if_neg (fun q => q e0)]
    simp (disch := omega) only [aw_aload_0 (pc2 := 74) D158_73 rfl, aw_iconst (pc2 := 75) (y := 0) D158_74 rfl (by decide), aw_putI (pc2 := 78) (ci := 7) (fk := 39) D158_75 rfl fT_7_212 rfl, aw_goto (t := 225) D158_78 (by decide), aw_vret D158_225 rfl, sh_122, rf_122_22, sh_144, rf_122_21, sh_143, lit_12, rf_122_24, sh_146, rf_122_26, sh_148, lit_3, refV_s, refV_n, psh_s, psh_n, kil_i, kil_r, kil_n, kil_l, cat_i, cat_r, iOK_1, iOK_5, jOK_2, jOK_6, wOK_e, lOK_1, lOK_2, lOK_3, lOK_4, lOK_5, lOK_6, catS_0, catS_1, catS_2, catS_3, catS_4, and_self, true_and, and_true, true_or, or_true, false_or, or_false, not_true_eq_false, not_false_eq_true, if_true, if_false, ite_int, ite_int0, au_10, eq_self, decide_true, decide_false, Bool.true_and, Bool.false_and, au_in, au_le, au_lt, au_eq, au_lt0, au_ge0, au_le0, au_gt0, au_eq0, au_leT, au_leF, au_ltT, au_ltF, au_eqT, au_eqF, nI_clamp, nI_1, nI_add, pk_mul, au_sub1, au_subc, au_up2e, au_up2n, lit_of]
    refine hs 0 S _ ?_ ((fS.up (by unfold chC; omega)).tr (fS.up (by unfold chC; omega))) (cstM_cong hS (fun a k q => ?_) h) ?_ ?_
    · rw [List.eq_nil_of_length_eq_zero (hla.trans e0)]
      rfl
    · unfold chS chG at q
      simp (disch := omega) only [au_up2n]
    · simp (disch := omega) only [au_up2n, au_up2e, Nat.add_sub_cancel]
    · simp (disch := omega) only [au_up2e]; rfl
  rw [if_pos e0]
  simp (disch := omega) only [aw_iload_3 (pc2 := 82) D158_81 rfl, aw_iconst (pc2 := 83) (y := 1) D158_82 rfl (by decide), aw_icmp_ne (pc2 := 86) (t := 124) D158_83 (by decide) rfl, sh_122, rf_122_22, sh_144, rf_122_21, sh_143, lit_12, rf_122_24, sh_146, rf_122_26, sh_148, lit_3, refV_s, refV_n, psh_s, psh_n, kil_i, kil_r, kil_n, kil_l, cat_i, cat_r, iOK_1, iOK_5, jOK_2, jOK_6, wOK_e, lOK_1, lOK_2, lOK_3, lOK_4, lOK_5, lOK_6, catS_0, catS_1, catS_2, catS_3, catS_4, and_self, true_and, and_true, true_or, or_true, false_or, or_false, not_true_eq_false, not_false_eq_true, if_true, if_false, ite_int, ite_int0, au_10, eq_self, decide_true, decide_false, Bool.true_and, Bool.false_and, au_in, au_le, au_lt, au_eq, au_lt0, au_ge0, au_le0, au_gt0, au_eq0, au_leT, au_leF, au_ltT, au_ltF, au_eqT, au_eqF, nI_clamp, nI_1, nI_add, pk_mul, au_sub1, au_subc, au_up2e, au_up2n, lit_of, au_eq1]
  by_cases e1 : ls.length + nds.length = 1
  · rw [if_neg (fun q => q e1)]
    simp (disch := omega) only [aw_aload_0 (pc2 := 87) D158_86 rfl, aw_aload_0 (pc2 := 88) D158_87 rfl, aw_getR (pc2 := 91) (ci := 7) (fk := 22) D158_88 rfl fT_7_74 rfl, aw_iload_2 (pc2 := 92) D158_91 rfl, aw_iaload (pc2 := 93) D158_92 rfl, aw_iconst (pc2 := 94) (y := 1) D158_93 rfl (by decide), aw_icmp_ne (pc2 := 97) (t := 109) D158_94 (by decide) rfl, sh_122, rf_122_22, sh_144, rf_122_21, sh_143, lit_12, rf_122_24, sh_146, rf_122_26, sh_148, lit_3, refV_s, refV_n, psh_s, psh_n, kil_i, kil_r, kil_n, kil_l, cat_i, cat_r, iOK_1, iOK_5, jOK_2, jOK_6, wOK_e, lOK_1, lOK_2, lOK_3, lOK_4, lOK_5, lOK_6, catS_0, catS_1, catS_2, catS_3, catS_4, and_self, true_and, and_true, true_or, or_true, false_or, or_false, not_true_eq_false, not_false_eq_true, if_true, if_false, ite_int, ite_int0, au_10, eq_self, decide_true, decide_false, Bool.true_and, Bool.false_and, au_in, au_le, au_lt, au_eq, au_lt0, au_ge0, au_le0, au_gt0, au_eq0, au_leT, au_leF, au_ltT, au_ltF, au_eqT, au_eqF, nI_clamp, nI_1, nI_add, pk_mul, au_sub1, au_subc, au_up2e, au_up2n, lit_of, h7, au_eq1]
    by_cases eT : ls.length = 1
    · rw [if_neg (fun q => q eT)]
      have e4 := h4 0 (by omega)
      rw [Nat.add_zero] at e4
      simp (disch := omega) only [aw_aload_0 (pc2 := 98) D158_97 rfl, aw_getR (pc2 := 101) (ci := 7) (fk := 21) D158_98 rfl fT_7_71 rfl, aw_bipush (pc2 := 103) (y := 12) D158_101 rfl (by decide), aw_iload_2 (pc2 := 104) D158_103 rfl, aw_imul (pc2 := 105) D158_104 rfl, aw_iaload (pc2 := 106) D158_105 rfl, aw_goto (t := 118) D158_106 (by decide), aw_putI (pc2 := 121) (ci := 7) (fk := 39) D158_118 rfl fT_7_212 rfl, aw_goto (t := 225) D158_121 (by decide), aw_vret D158_225 rfl, sh_122, rf_122_22, sh_144, rf_122_21, sh_143, lit_12, rf_122_24, sh_146, rf_122_26, sh_148, lit_3, refV_s, refV_n, psh_s, psh_n, kil_i, kil_r, kil_n, kil_l, cat_i, cat_r, iOK_1, iOK_5, jOK_2, jOK_6, wOK_e, lOK_1, lOK_2, lOK_3, lOK_4, lOK_5, lOK_6, catS_0, catS_1, catS_2, catS_3, catS_4, and_self, true_and, and_true, true_or, or_true, false_or, or_false, not_true_eq_false, not_false_eq_true, if_true, if_false, ite_int, ite_int0, au_10, eq_self, decide_true, decide_false, Bool.true_and, Bool.false_and, au_in, au_le, au_lt, au_eq, au_lt0, au_ge0, au_le0, au_gt0, au_eq0, au_leT, au_leF, au_ltT, au_ltF, au_eqT, au_eqF, nI_clamp, nI_1, nI_add, pk_mul, au_sub1, au_subc, au_up2e, au_up2n, lit_of]
      obtain ⟨a, ea⟩ := List.length_eq_one_iff.mp eT
      have en : nds = [] := List.eq_nil_of_length_eq_zero (by omega)
      subst ea; subst en
      refine hs a S _ rfl ((fS.up (by unfold chC; omega)).tr (fS.up (by unfold chC; omega))) (cstM_cong hS (fun a k q => ?_) h) ?_ ?_
      · unfold chS chG at q
        simp (disch := omega) only [au_up2n]
      · simp (disch := omega) only [au_up2n, au_up2e, Nat.add_sub_cancel]
      · simp (disch := omega) only [au_up2e, au_up2n]; exact e4
    · rw [if_pos eT]
      have e5 := h5 0 (by omega)
      rw [Nat.add_zero] at e5
      simp (disch := omega) only [aw_aload_0 (pc2 := 110) D158_109 rfl, aw_getR (pc2 := 113) (ci := 7) (fk := 26) D158_110 rfl fT_7_86 rfl, aw_bipush (pc2 := 115) (y := 12) D158_113 rfl (by decide), aw_iload_2 (pc2 := 116) D158_115 rfl, aw_imul (pc2 := 117) D158_116 rfl, aw_iaload (pc2 := 118) D158_117 rfl, aw_putI (pc2 := 121) (ci := 7) (fk := 39) D158_118 rfl fT_7_212 rfl, aw_goto (t := 225) D158_121 (by decide), aw_vret D158_225 rfl, sh_122, rf_122_22, sh_144, rf_122_21, sh_143, lit_12, rf_122_24, sh_146, rf_122_26, sh_148, lit_3, refV_s, refV_n, psh_s, psh_n, kil_i, kil_r, kil_n, kil_l, cat_i, cat_r, iOK_1, iOK_5, jOK_2, jOK_6, wOK_e, lOK_1, lOK_2, lOK_3, lOK_4, lOK_5, lOK_6, catS_0, catS_1, catS_2, catS_3, catS_4, and_self, true_and, and_true, true_or, or_true, false_or, or_false, not_true_eq_false, not_false_eq_true, if_true, if_false, ite_int, ite_int0, au_10, eq_self, decide_true, decide_false, Bool.true_and, Bool.false_and, au_in, au_le, au_lt, au_eq, au_lt0, au_ge0, au_le0, au_gt0, au_eq0, au_leT, au_leF, au_ltT, au_ltF, au_eqT, au_eqF, nI_clamp, nI_1, nI_add, pk_mul, au_sub1, au_subc, au_up2e, au_up2n, lit_of]
      obtain ⟨a, ea⟩ := List.length_eq_one_iff.mp (show nds.length = 1 by omega)
      have en : ls = [] := List.eq_nil_of_length_eq_zero (by omega)
      subst ea; subst en
      refine hs a S _ rfl ((fS.up (by unfold chC; omega)).tr (fS.up (by unfold chC; omega))) (cstM_cong hS (fun a k q => ?_) h) ?_ ?_
      · unfold chS chG at q
        simp (disch := omega) only [au_up2n]
      · simp (disch := omega) only [au_up2n, au_up2e, Nat.add_sub_cancel]
      · simp (disch := omega) only [au_up2e, au_up2n]; exact e5
  rw [if_pos e1]
  have hend : endL (ls ++ nds) S = comes (3, 0, ls ++ nds) S := by
    match hm : ls ++ nds with
    | [] => rw [hm] at hla; exact absurd hla.symm e0
    | [x] => rw [hm] at hla; exact absurd hla.symm e1
    | x :: y :: r => rfl
  simp (disch := omega) only [aw_aload_0 (pc2 := 125) D158_124 rfl, aw_aload_0 (pc2 := 126) D158_125 rfl, aw_iload_1 (pc2 := 127) D158_126 rfl, aw_iconst (pc2 := 128) (y := 3) D158_127 rfl (by decide), aw_iconst (pc2 := 129) (y := 0) D158_128 rfl (by decide), aw_iv3_0 (pc2 := 132) (o := 7) D158_129 rfl cT_7_228 rfl rfl, sh_122, rf_122_22, sh_144, rf_122_21, sh_143, lit_12, rf_122_24, sh_146, rf_122_26, sh_148, lit_3, refV_s, refV_n, psh_s, psh_n, kil_i, kil_r, kil_n, kil_l, cat_i, cat_r, iOK_1, iOK_5, jOK_2, jOK_6, wOK_e, lOK_1, lOK_2, lOK_3, lOK_4, lOK_5, lOK_6, catS_0, catS_1, catS_2, catS_3, catS_4, and_self, true_and, and_true, true_or, or_true, false_or, or_false, not_true_eq_false, not_false_eq_true, if_true, if_false, ite_int, ite_int0, au_10, eq_self, decide_true, decide_false, Bool.true_and, Bool.false_and, au_in, au_le, au_lt, au_eq, au_lt0, au_ge0, au_le0, au_gt0, au_eq0, au_leT, au_leF, au_ltT, au_ltF, au_eqT, au_eqF, nI_clamp, nI_1, nI_add, pk_mul, au_sub1, au_subc, au_up2e, au_up2n, lit_of]
  have hd2 : cstM b S (up2 I 122 38 (nI (f + 1 - 1))) := cstM_cong hS (fun a k q => by
    unfold chS chG at q
    simp (disch := omega) only [au_up2n]) h
  by_cases h15 : S.1.length = 1500
  · rw [M_comesF (d := d) (n := S.1.length) hb h15 hd2.1.1]
    simp (disch := omega) only [aw_putI (pc2 := 135) (ci := 7) (fk := 39) D158_132 rfl fT_7_212 rfl, aw_aload_0 (pc2 := 136) D158_135 rfl, aw_getI (pc2 := 139) (ci := 7) (fk := 18) D158_136 rfl fT_7_191 rfl, aw_if_eq (pc2 := 142) (t := 143) D158_139 (by decide) rfl, aw_vret D158_142 rfl, sh_122, rf_122_22, sh_144, rf_122_21, sh_143, lit_12, rf_122_24, sh_146, rf_122_26, sh_148, lit_3, refV_s, refV_n, psh_s, psh_n, kil_i, kil_r, kil_n, kil_l, cat_i, cat_r, iOK_1, iOK_5, jOK_2, jOK_6, wOK_e, lOK_1, lOK_2, lOK_3, lOK_4, lOK_5, lOK_6, catS_0, catS_1, catS_2, catS_3, catS_4, and_self, true_and, and_true, true_or, or_true, false_or, or_false, not_true_eq_false, not_false_eq_true, if_true, if_false, ite_int, ite_int0, au_10, eq_self, decide_true, decide_false, Bool.true_and, Bool.false_and, au_in, au_le, au_lt, au_eq, au_lt0, au_ge0, au_le0, au_gt0, au_eq0, au_leT, au_leF, au_ltT, au_ltF, au_eqT, au_eqF, nI_clamp, nI_1, nI_add, pk_mul, au_sub1, au_subc, au_up2e, au_up2n, lit_of, psh, au_up2n, au_up2e]
    refine hK _ ?_ (((fS.up (by unfold chC; omega)).tr (fS.up (by unfold chC chLi; omega))).tr (fS.up (by unfold chC; omega))) ⟨?_, ?_⟩
    · rw [hend]; unfold comes; rw [if_pos h15]
    · simp (disch := omega) only [au_up2n, au_up2e]
    · simp (disch := omega) only [au_up2n]; rw [c1.1, h15]
  have hc15 : comes (3, 0, ls ++ nds) S = some (S.1.length, (S.1 ++ [(3, 0, ls ++ nds)], S.2)) := by unfold comes; rw [if_neg h15]
  have hlt : S.1.length < 1500 := by have := hS.1; omega
  have h12 := nds_12 hS.2.2.1
  refine M_comes (d := d) (k := 3) (s := 0) hb hlt h12 (by decide) rfl hd2.1 (fun I1 f1 f3 => ?_)
  have c31 : I1 122 18 = 0 := by rw [f1 122 18 (by unfold chG; omega), au_up2n (by omega)]; exact c3
  simp (disch := omega) only [aw_putI (pc2 := 135) (ci := 7) (fk := 39) D158_132 rfl fT_7_212 rfl, aw_aload_0 (pc2 := 136) D158_135 rfl, aw_getI (pc2 := 139) (ci := 7) (fk := 18) D158_136 rfl fT_7_191 rfl, aw_if_eq (pc2 := 142) (t := 143) D158_139 (by decide) rfl, aw_vret D158_142 rfl, aw_iconst (pc2 := 144) (y := 0) D158_143 rfl (by decide), aw_istore_4 (pc2 := 146) D158_144 rfl, sh_122, rf_122_22, sh_144, rf_122_21, sh_143, lit_12, rf_122_24, sh_146, rf_122_26, sh_148, lit_3, refV_s, refV_n, psh_s, psh_n, kil_i, kil_r, kil_n, kil_l, cat_i, cat_r, iOK_1, iOK_5, jOK_2, jOK_6, wOK_e, lOK_1, lOK_2, lOK_3, lOK_4, lOK_5, lOK_6, catS_0, catS_1, catS_2, catS_3, catS_4, and_self, true_and, and_true, true_or, or_true, false_or, or_false, not_true_eq_false, not_false_eq_true, if_true, if_false, ite_int, ite_int0, au_10, eq_self, decide_true, decide_false, Bool.true_and, Bool.false_and, au_in, au_le, au_lt, au_eq, au_lt0, au_ge0, au_le0, au_gt0, au_eq0, au_leT, au_leF, au_ltT, au_ltF, au_eqT, au_eqF, nI_clamp, nI_1, nI_add, pk_mul, au_sub1, au_subc, au_up2e, au_up2n, lit_of, psh, au_up2n, c31, k4]
  have fr1 : fS (chC b f) I (up2 I1 122 39 (nI S.1.length)) := ((fS.up (Or.inr (Or.inr ⟨rfl, Or.inl rfl⟩))).tr (f1.wk (fun a k q => Or.inl (Or.inl q)))).tr (fS.up (Or.inr (Or.inr ⟨rfl, Or.inr rfl⟩)))
  have d1 : up2 I1 122 39 (nI S.1.length) 122 38 = nI f := by rw [au_up2n (by omega), f1 122 38 (by unfold chG; omega), au_up2e ⟨rfl, rfl⟩, Nat.add_sub_cancel]
  have r1 : up2 I1 122 39 (nI S.1.length) 122 39 = nI S.1.length := au_up2e ⟨rfl, rfl⟩
  have g31 : grM b (S.1 ++ [(3, 0, ([] : List Nat))]) (up2 I1 122 39 (nI S.1.length)) := by
    obtain ⟨q1, q2, q3⟩ := f3
    exact ⟨by rw [au_up2c (by omega)]; exact q1, by rw [au_up2c (by omega)]; exact q2, fun i hi => by
      rw [au_up2c (by omega), au_up2c (by omega), au_up2c (by omega), au_up2c (by omega), au_up2c (by omega)]
      exact q3 i hi⟩
  have o1 : ∀ a k, (a = 133 ∧ k = b) ∨ (a = 122 ∧ (k = 18 ∨ k = 36 ∨ k = 37)) ∨ a = 140 ∨ (154 ≤ a ∧ a ≤ 157) ∨ a = 143 ∨ a = 144 ∨ a = 146 ∨ a = 148 → up2 I1 122 39 (nI S.1.length) a k = I a k := fun a k q => by
    rw [au_up2n (by omega), f1 a k (by unfold chG; omega), au_up2n (by omega)]
  generalize up2 I1 122 39 (nI S.1.length) = I2 at fr1 d1 r1 g31 o1 ⊢
  have fin : ∀ I', fS (chG b) I2 I' → grM b (S.1 ++ [(3, 0, ls ++ nds)]) I' → K none (G0 Ln) I' J := by
    intro I' w z
    have ow : ∀ a k, (a = 133 ∧ k = b) ∨ (a = 122 ∧ (k = 18 ∨ k = 36 ∨ k = 37)) ∨ a = 140 ∨ (154 ≤ a ∧ a ≤ 157) → I' a k = I a k := fun a k q => by
      rw [w a k (by unfold chG; omega), o1 a k (by omega)]
    refine hs _ _ I' (hend.trans hc15) (fr1.tr (w.wk (fun a k q => Or.inl (Or.inl q)))) ⟨z, ?_, ?_, fun i hi => ?_, ?_⟩ ?_ ?_
    · rw [ow 133 b (by omega)]; exact c2
    · rw [ow 122 18 (by omega)]; exact c3
    · rw [ow 140 i (by omega)]; exact c4 i hi
    · exact mtM_cong (ow 122 36 (by omega)) (ow 122 37 (by omega)) (fun a a1 a2 => funext (fun k => ow a k (by omega))) c5
    · rw [w 122 38 (by unfold chG; omega)]; exact d1
    · rw [w 122 39 (by unfold chG; omega)]; exact r1
  have key2 : ∀ r a I', a ++ r = nds → fS (chG b) I2 I' → grM b (S.1 ++ [(3, 0, ls ++ a)]) I' → AW (d + 1) ((G0 Ln).1, (G0 Ln).2.1) K 158 187 [.ref 122, .int (nI b), .int (nI f), .int (nI (ls.length + nds.length)), .int (nI a.length)] [] (G0 Ln) I' J := by
    intro r
    induction r with
    | nil =>
      intro a I' ha w z
      rw [List.append_nil] at ha
      subst ha
      have g8 : I' 146 f = nI a.length := by rw [w 146 f (by unfold chG; omega), o1 146 f (by omega)]; exact h8
      simp (disch := omega) only [aw_iload_4 (pc2 := 189) D158_187 rfl, aw_aload_0 (pc2 := 190) D158_189 rfl, aw_getR (pc2 := 193) (ci := 7) (fk := 24) D158_190 rfl fT_7_80 rfl, aw_iload_2 (pc2 := 194) D158_193 rfl, aw_iaload (pc2 := 195) D158_194 rfl, aw_icmp_ge (pc2 := 198) (t := 225) D158_195 (by decide) rfl, aw_vret D158_225 rfl, sh_122, rf_122_22, sh_144, rf_122_21, sh_143, lit_12, rf_122_24, sh_146, rf_122_26, sh_148, lit_3, refV_s, refV_n, psh_s, psh_n, kil_i, kil_r, kil_n, kil_l, cat_i, cat_r, iOK_1, iOK_5, jOK_2, jOK_6, wOK_e, lOK_1, lOK_2, lOK_3, lOK_4, lOK_5, lOK_6, catS_0, catS_1, catS_2, catS_3, catS_4, and_self, true_and, and_true, true_or, or_true, false_or, or_false, not_true_eq_false, not_false_eq_true, if_true, if_false, ite_int, ite_int0, au_10, eq_self, decide_true, decide_false, Bool.true_and, Bool.false_and, au_in, au_le, au_lt, au_eq, au_lt0, au_ge0, au_le0, au_gt0, au_eq0, au_leT, au_leF, au_ltT, au_ltF, au_eqT, au_eqF, nI_clamp, nI_1, nI_add, pk_mul, au_sub1, au_subc, au_up2e, au_up2n, lit_of, g8]
      exact fin I' w z
    | cons x r ih =>
      intro a I' ha w z
      have hal : a.length + (r.length + 1) = nds.length := by rw [← ha, List.length_append, List.length_cons]
      have g8 : I' 146 f = nI nds.length := by rw [w 146 f (by unfold chG; omega), o1 146 f (by omega)]; exact h8
      have gr : I' 122 39 = nI S.1.length := by rw [w 122 39 (by unfold chG; omega)]; exact r1
      have gx : I' 148 (12 * f + a.length) = nI x := by
        rw [w 148 _ (by unfold chG; omega), o1 148 _ (by omega)]
        have := h5 a.length (by omega)
        rw [this, ← ha, List.getD_eq_getElem?_getD, List.getElem?_append_right (Nat.le_refl _), Nat.sub_self]
        rfl
      have ihn := fun I3 => ih (a ++ [x]) I3
      rw [aw_iload_4 (pc2 := 189) D158_187 rfl]
      simp (disch := omega) only [aw_aload_0 (pc2 := 190) D158_189 rfl, aw_getR (pc2 := 193) (ci := 7) (fk := 24) D158_190 rfl fT_7_80 rfl, aw_iload_2 (pc2 := 194) D158_193 rfl, aw_iaload (pc2 := 195) D158_194 rfl, aw_icmp_ge (pc2 := 198) (t := 225) D158_195 (by decide) rfl, aw_aload_0 (pc2 := 199) D158_198 rfl, aw_iload_1 (pc2 := 200) D158_199 rfl, aw_aload_0 (pc2 := 201) D158_200 rfl, aw_getI (pc2 := 204) (ci := 7) (fk := 39) D158_201 rfl fT_7_212 rfl, aw_aload_0 (pc2 := 205) D158_204 rfl, aw_getR (pc2 := 208) (ci := 7) (fk := 26) D158_205 rfl fT_7_86 rfl, aw_bipush (pc2 := 210) (y := 12) D158_208 rfl (by decide), aw_iload_2 (pc2 := 211) D158_210 rfl, aw_imul (pc2 := 212) D158_211 rfl, aw_iload_4 (pc2 := 214) D158_212 rfl, aw_iadd (pc2 := 215) D158_214 rfl, aw_iaload (pc2 := 216) D158_215 rfl, aw_iv3_0 (pc2 := 219) (o := 7) D158_216 rfl cT_7_235 rfl rfl, sh_122, rf_122_22, sh_144, rf_122_21, sh_143, lit_12, rf_122_24, sh_146, rf_122_26, sh_148, lit_3, refV_s, refV_n, psh_s, psh_n, kil_i, kil_r, kil_n, kil_l, cat_i, cat_r, iOK_1, iOK_5, jOK_2, jOK_6, wOK_e, lOK_1, lOK_2, lOK_3, lOK_4, lOK_5, lOK_6, catS_0, catS_1, catS_2, catS_3, catS_4, and_self, true_and, and_true, true_or, or_true, false_or, or_false, not_true_eq_false, not_false_eq_true, if_true, if_false, ite_int, ite_int0, au_10, eq_self, decide_true, decide_false, Bool.true_and, Bool.false_and, au_in, au_le, au_lt, au_eq, au_lt0, au_ge0, au_le0, au_gt0, au_eq0, au_leT, au_leF, au_ltT, au_ltF, au_eqT, au_eqF, nI_clamp, nI_1, nI_add, pk_mul, au_sub1, au_subc, au_up2e, au_up2n, lit_of, g8, gx, gr]
      refine M_addPart (d := d) hb hlt h12 (by rw [List.length_append]; omega) z (fun I3 w1 w3 => ?_)
      simp (disch := omega) only [aw_iinc_4 (pc2 := 222) (y := 1) D158_219 rfl (by decide), aw_goto (t := 187) D158_222 (by decide), sh_122, rf_122_22, sh_144, rf_122_21, sh_143, lit_12, rf_122_24, sh_146, rf_122_26, sh_148, lit_3, refV_s, refV_n, psh_s, psh_n, kil_i, kil_r, kil_n, kil_l, cat_i, cat_r, iOK_1, iOK_5, jOK_2, jOK_6, wOK_e, lOK_1, lOK_2, lOK_3, lOK_4, lOK_5, lOK_6, catS_0, catS_1, catS_2, catS_3, catS_4, and_self, true_and, and_true, true_or, or_true, false_or, or_false, not_true_eq_false, not_false_eq_true, if_true, if_false, ite_int, ite_int0, au_10, eq_self, decide_true, decide_false, Bool.true_and, Bool.false_and, au_in, au_le, au_lt, au_eq, au_lt0, au_ge0, au_le0, au_gt0, au_eq0, au_leT, au_leF, au_ltT, au_ltF, au_eqT, au_eqF, nI_clamp, nI_1, nI_add, pk_mul, au_sub1, au_subc, au_up2e, au_up2n, lit_of, psh]
      have := ihn I3 (by rw [List.append_assoc]; exact ha) (w.tr w1) (by rw [← List.append_assoc]; exact w3)
      rw [List.length_append] at this
      exact this
  have key1 : ∀ r a I', a ++ r = ls → fS (chG b) I2 I' → grM b (S.1 ++ [(3, 0, a)]) I' → AW (d + 1) ((G0 Ln).1, (G0 Ln).2.1) K 158 146 [.ref 122, .int (nI b), .int (nI f), .int (nI (ls.length + nds.length)), .int (nI a.length)] [] (G0 Ln) I' J := by
    intro r
    induction r with
    | nil =>
      intro a I' ha w z
      rw [List.append_nil] at ha
      subst ha
      have g7 : I' 144 f = nI a.length := by rw [w 144 f (by unfold chG; omega), o1 144 f (by omega)]; exact h7
      have k2 := key2 nds [] I' rfl w (by rw [List.append_nil]; exact z)
      simp (disch := omega) only [aw_iload_4 (pc2 := 148) D158_146 rfl, aw_aload_0 (pc2 := 149) D158_148 rfl, aw_getR (pc2 := 152) (ci := 7) (fk := 22) D158_149 rfl fT_7_74 rfl, aw_iload_2 (pc2 := 153) D158_152 rfl, aw_iaload (pc2 := 154) D158_153 rfl, aw_icmp_ge (pc2 := 157) (t := 184) D158_154 (by decide) rfl, aw_iconst (pc2 := 185) (y := 0) D158_184 rfl (by decide), aw_istore_4 (pc2 := 187) D158_185 rfl, sh_122, rf_122_22, sh_144, rf_122_21, sh_143, lit_12, rf_122_24, sh_146, rf_122_26, sh_148, lit_3, refV_s, refV_n, psh_s, psh_n, kil_i, kil_r, kil_n, kil_l, cat_i, cat_r, iOK_1, iOK_5, jOK_2, jOK_6, wOK_e, lOK_1, lOK_2, lOK_3, lOK_4, lOK_5, lOK_6, catS_0, catS_1, catS_2, catS_3, catS_4, and_self, true_and, and_true, true_or, or_true, false_or, or_false, not_true_eq_false, not_false_eq_true, if_true, if_false, ite_int, ite_int0, au_10, eq_self, decide_true, decide_false, Bool.true_and, Bool.false_and, au_in, au_le, au_lt, au_eq, au_lt0, au_ge0, au_le0, au_gt0, au_eq0, au_leT, au_leF, au_ltT, au_ltF, au_eqT, au_eqF, nI_clamp, nI_1, nI_add, pk_mul, au_sub1, au_subc, au_up2e, au_up2n, lit_of, g7]
      exact k2
    | cons x r ih =>
      intro a I' ha w z
      have hal : a.length + (r.length + 1) = ls.length := by rw [← ha, List.length_append, List.length_cons]
      have g7 : I' 144 f = nI ls.length := by rw [w 144 f (by unfold chG; omega), o1 144 f (by omega)]; exact h7
      have gr : I' 122 39 = nI S.1.length := by rw [w 122 39 (by unfold chG; omega)]; exact r1
      have gx : I' 143 (12 * f + a.length) = nI x := by
        rw [w 143 _ (by unfold chG; omega), o1 143 _ (by omega)]
        have := h4 a.length (by omega)
        rw [this, ← ha, List.getD_eq_getElem?_getD, List.getElem?_append_right (Nat.le_refl _), Nat.sub_self]
        rfl
      have ihn := fun I3 => ih (a ++ [x]) I3
      rw [aw_iload_4 (pc2 := 148) D158_146 rfl]
      simp (disch := omega) only [aw_aload_0 (pc2 := 149) D158_148 rfl, aw_getR (pc2 := 152) (ci := 7) (fk := 22) D158_149 rfl fT_7_74 rfl, aw_iload_2 (pc2 := 153) D158_152 rfl, aw_iaload (pc2 := 154) D158_153 rfl, aw_icmp_ge (pc2 := 157) (t := 184) D158_154 (by decide) rfl, aw_aload_0 (pc2 := 158) D158_157 rfl, aw_iload_1 (pc2 := 159) D158_158 rfl, aw_aload_0 (pc2 := 160) D158_159 rfl, aw_getI (pc2 := 163) (ci := 7) (fk := 39) D158_160 rfl fT_7_212 rfl, aw_aload_0 (pc2 := 164) D158_163 rfl, aw_getR (pc2 := 167) (ci := 7) (fk := 21) D158_164 rfl fT_7_71 rfl, aw_bipush (pc2 := 169) (y := 12) D158_167 rfl (by decide), aw_iload_2 (pc2 := 170) D158_169 rfl, aw_imul (pc2 := 171) D158_170 rfl, aw_iload_4 (pc2 := 173) D158_171 rfl, aw_iadd (pc2 := 174) D158_173 rfl, aw_iaload (pc2 := 175) D158_174 rfl, aw_iv3_0 (pc2 := 178) (o := 7) D158_175 rfl cT_7_235 rfl rfl, sh_122, rf_122_22, sh_144, rf_122_21, sh_143, lit_12, rf_122_24, sh_146, rf_122_26, sh_148, lit_3, refV_s, refV_n, psh_s, psh_n, kil_i, kil_r, kil_n, kil_l, cat_i, cat_r, iOK_1, iOK_5, jOK_2, jOK_6, wOK_e, lOK_1, lOK_2, lOK_3, lOK_4, lOK_5, lOK_6, catS_0, catS_1, catS_2, catS_3, catS_4, and_self, true_and, and_true, true_or, or_true, false_or, or_false, not_true_eq_false, not_false_eq_true, if_true, if_false, ite_int, ite_int0, au_10, eq_self, decide_true, decide_false, Bool.true_and, Bool.false_and, au_in, au_le, au_lt, au_eq, au_lt0, au_ge0, au_le0, au_gt0, au_eq0, au_leT, au_leF, au_ltT, au_ltF, au_eqT, au_eqF, nI_clamp, nI_1, nI_add, pk_mul, au_sub1, au_subc, au_up2e, au_up2n, lit_of, g7, gx, gr]
      refine M_addPart (d := d) hb hlt h12 (by omega) z (fun I3 w1 w3 => ?_)
      simp (disch := omega) only [aw_iinc_4 (pc2 := 181) (y := 1) D158_178 rfl (by decide), aw_goto (t := 146) D158_181 (by decide), sh_122, rf_122_22, sh_144, rf_122_21, sh_143, lit_12, rf_122_24, sh_146, rf_122_26, sh_148, lit_3, refV_s, refV_n, psh_s, psh_n, kil_i, kil_r, kil_n, kil_l, cat_i, cat_r, iOK_1, iOK_5, jOK_2, jOK_6, wOK_e, lOK_1, lOK_2, lOK_3, lOK_4, lOK_5, lOK_6, catS_0, catS_1, catS_2, catS_3, catS_4, and_self, true_and, and_true, true_or, or_true, false_or, or_false, not_true_eq_false, not_false_eq_true, if_true, if_false, ite_int, ite_int0, au_10, eq_self, decide_true, decide_false, Bool.true_and, Bool.false_and, au_in, au_le, au_lt, au_eq, au_lt0, au_ge0, au_le0, au_gt0, au_eq0, au_leT, au_leF, au_ltT, au_ltF, au_eqT, au_eqF, nI_clamp, nI_1, nI_add, pk_mul, au_sub1, au_subc, au_up2e, au_up2n, lit_of, psh]
      have := ihn I3 (by rw [List.append_assoc]; exact ha) (w.tr w1) w3
      rw [List.length_append] at this
      exact this
  exact key1 ls [] I2 rfl fS.rf g31
theorem M_litLoopS {T : Nat} {v4 : Value} (hb : b < 2) (hf : f < 13) (hT : T ≤ 12) (hK : ∀ v3 I', kil v3 = v3 → fS (chC0 b f) I I' → sptM b I' → AW (d + 2) ((G0 Ln).1, (G0 Ln).2.1) K 158 45 [.ref 122, .int (nI b), .int (nI f), v3, v4] [] (G0 Ln) I' J) (h7 : I 144 f = nI T) : ∀ (t : List Nat) (i : Nat) (I1 : IT), i + t.length = T → sgs 12 t → lsA 143 (12 * f + i) t I1 → fS (chC0 b f) I I1 → sptM b I1 → AW (d + 2) ((G0 Ln).1, (G0 Ln).2.1) K 158 2 [.ref 122, .int (nI b), .int (nI f), .int (nI i), v4] [] (G0 Ln) I1 J := by
  intro t
  induction t with
  | nil =>
    intro i I1 hi hs hl w g
    have e : i = T := hi
    subst e
    have g7 : I1 144 f = nI i := by rw [w 144 f (by unfold chC0 chLi chG; omega)]; exact h7
    simp (disch := omega) only [aw_iload_3 (pc2 := 3) D158_2 rfl, aw_aload_0 (pc2 := 4) D158_3 rfl, aw_getR (pc2 := 7) (ci := 7) (fk := 22) D158_4 rfl fT_7_74 rfl, aw_iload_2 (pc2 := 8) D158_7 rfl, aw_iaload (pc2 := 9) D158_8 rfl, aw_icmp_ge (pc2 := 12) (t := 45) D158_9 (by decide) rfl, sh_122, rf_122_22, sh_144, rf_122_21, sh_143, lit_12, rf_122_24, sh_146, rf_122_26, sh_148, lit_3, refV_s, refV_n, psh_s, psh_n, kil_i, kil_r, kil_n, kil_l, cat_i, cat_r, iOK_1, iOK_5, jOK_2, jOK_6, wOK_e, lOK_1, lOK_2, lOK_3, lOK_4, lOK_5, lOK_6, catS_0, catS_1, catS_2, catS_3, catS_4, and_self, true_and, and_true, true_or, or_true, false_or, or_false, not_true_eq_false, not_false_eq_true, if_true, if_false, ite_int, ite_int0, au_10, eq_self, decide_true, decide_false, Bool.true_and, Bool.false_and, au_in, au_le, au_lt, au_eq, au_lt0, au_ge0, au_le0, au_gt0, au_eq0, au_leT, au_leF, au_ltT, au_ltF, au_eqT, au_eqF, nI_clamp, nI_1, nI_add, pk_mul, au_sub1, au_subc, au_up2e, au_up2n, lit_of, g7]
    exact hK _ I1 rfl w g
  | cons s t ih =>
    intro i I1 hi hs hl w g
    rw [List.length_cons] at hi
    obtain ⟨p, hp, hpN, e⟩ := hs s (List.mem_cons_self ..)
    have g7 : I1 144 f = nI T := by rw [w 144 f (by unfold chC0 chLi chG; omega)]; exact h7
    have gs : I1 143 (12 * f + i) = nI (2 ^ p) := by
      have := hl 0 (by rw [List.length_cons]; omega)
      rw [← e]; exact this
    have ihn := ih (i + 1)
    rw [aw_iload_3 (pc2 := 3) D158_2 rfl]
    simp (disch := omega) only [aw_aload_0 (pc2 := 4) D158_3 rfl, aw_getR (pc2 := 7) (ci := 7) (fk := 22) D158_4 rfl fT_7_74 rfl, aw_iload_2 (pc2 := 8) D158_7 rfl, aw_iaload (pc2 := 9) D158_8 rfl, aw_icmp_ge (pc2 := 12) (t := 45) D158_9 (by decide) rfl, aw_aload_0 (pc2 := 13) D158_12 rfl, aw_getR (pc2 := 16) (ci := 7) (fk := 21) D158_13 rfl fT_7_71 rfl, aw_bipush (pc2 := 18) (y := 12) D158_16 rfl (by decide), aw_iload_2 (pc2 := 19) D158_18 rfl, aw_imul (pc2 := 20) D158_19 rfl, aw_iload_3 (pc2 := 21) D158_20 rfl, aw_iadd (pc2 := 22) D158_21 rfl, aw_aload_0 (pc2 := 23) D158_22 rfl, aw_iload_1 (pc2 := 24) D158_23 rfl, aw_aload_0 (pc2 := 25) D158_24 rfl, aw_getR (pc2 := 28) (ci := 7) (fk := 21) D158_25 rfl fT_7_71 rfl, aw_bipush (pc2 := 30) (y := 12) D158_28 rfl (by decide), aw_iload_2 (pc2 := 31) D158_30 rfl, aw_imul (pc2 := 32) D158_31 rfl, aw_iload_3 (pc2 := 33) D158_32 rfl, aw_iadd (pc2 := 34) D158_33 rfl, aw_iaload (pc2 := 35) D158_34 rfl, aw_iv2_0 (pc2 := 38) (o := 7) D158_35 rfl cT_7_232 rfl rfl, sh_122, rf_122_22, sh_144, rf_122_21, sh_143, lit_12, rf_122_24, sh_146, rf_122_26, sh_148, lit_3, refV_s, refV_n, psh_s, psh_n, kil_i, kil_r, kil_n, kil_l, cat_i, cat_r, iOK_1, iOK_5, jOK_2, jOK_6, wOK_e, lOK_1, lOK_2, lOK_3, lOK_4, lOK_5, lOK_6, catS_0, catS_1, catS_2, catS_3, catS_4, and_self, true_and, and_true, true_or, or_true, false_or, or_false, not_true_eq_false, not_false_eq_true, if_true, if_false, ite_int, ite_int0, au_10, eq_self, decide_true, decide_false, Bool.true_and, Bool.false_and, au_in, au_le, au_lt, au_eq, au_lt0, au_ge0, au_le0, au_gt0, au_eq0, au_leT, au_leF, au_ltT, au_ltF, au_eqT, au_eqF, nI_clamp, nI_1, nI_add, pk_mul, au_sub1, au_subc, au_up2e, au_up2n, lit_of, g7, gs]
    refine M_litOfS (d := d) hb hp g (fun v I2 w1 w3 => ?_)
    simp (disch := omega) only [aw_iastore (pc2 := 39) D158_38 rfl, aw_iinc_3 (pc2 := 42) (y := 1) D158_39 rfl (by decide), aw_goto (t := 2) D158_42 (by decide), sh_122, rf_122_22, sh_144, rf_122_21, sh_143, lit_12, rf_122_24, sh_146, rf_122_26, sh_148, lit_3, refV_s, refV_n, psh_s, psh_n, kil_i, kil_r, kil_n, kil_l, cat_i, cat_r, iOK_1, iOK_5, jOK_2, jOK_6, wOK_e, lOK_1, lOK_2, lOK_3, lOK_4, lOK_5, lOK_6, catS_0, catS_1, catS_2, catS_3, catS_4, and_self, true_and, and_true, true_or, or_true, false_or, or_false, not_true_eq_false, not_false_eq_true, if_true, if_false, ite_int, ite_int0, au_10, eq_self, decide_true, decide_false, Bool.true_and, Bool.false_and, au_in, au_le, au_lt, au_eq, au_lt0, au_ge0, au_le0, au_gt0, au_eq0, au_leT, au_leF, au_ltT, au_ltF, au_eqT, au_eqF, nI_clamp, nI_1, nI_add, pk_mul, au_sub1, au_subc, au_up2e, au_up2n, lit_of, psh]
    refine ihn _ (by omega) (fun s hs2 => hs s (List.mem_cons_of_mem _ hs2)) (fun j hj => ?_) (w.tr ((w1.wk (fun a k q => Or.inl q)).tr (fS.up (Or.inr ⟨rfl, by omega, by omega⟩)))) ⟨?_, ?_⟩
    · rw [au_up2n (by omega), w1 143 _ (by unfold chLi chG; omega)]
      have := hl (j + 1) (by rw [List.length_cons]; omega)
      rw [show 12 * f + (i + 1) + j = 12 * f + i + (j + 1) by omega, this]
      rfl
    · rw [au_up2c (by omega)]; exact w3.1
    · rw [au_up2c (by omega)]; exact w3.2
theorem M_litLoop {N T : Nat} {S : ST} {ts : List Nat} {v4 : Value} (hN : N ≤ 12) (hb : b < 2) (hf : f < 13) (hT : T ≤ 12) (hK0 : ∀ v3 I', kil v3 = v3 → litAll ts S = none → fS (chC0 b f) I I' → sptM b I' → AW (d + 2) ((G0 Ln).1, (G0 Ln).2.1) K 158 45 [.ref 122, .int (nI b), .int (nI f), v3, v4] [] (G0 Ln) I' J) (hK1 : ∀ v3 ns S' I', kil v3 = v3 → litAll ts S = some (ns, S') → fS (chC0 b f) I I' → lsA 143 (12 * f) ns I' → cstM b S' I' → AW (d + 2) ((G0 Ln).1, (G0 Ln).2.1) K 158 45 [.ref 122, .int (nI b), .int (nI f), v3, v4] [] (G0 Ln) I' J) (h7 : I 144 f = nI T) : ∀ (t ls : List Nat) (S1 : ST) (I1 : IT), ls.length + t.length = T → (litAll t S1 = none → litAll ts S = none) → (∀ ns S', litAll t S1 = some (ns, S') → litAll ts S = some (ls ++ ns, S')) → stC N S1 → sgs N t → lsA 143 (12 * f) ls I1 → lsA 143 (12 * f + ls.length) t I1 → fS (chC0 b f) I I1 → cstM b S1 I1 → AW (d + 2) ((G0 Ln).1, (G0 Ln).2.1) K 158 2 [.ref 122, .int (nI b), .int (nI f), .int (nI ls.length), v4] [] (G0 Ln) I1 J := by
  intro t
  induction t with
  | nil =>
    intro ls S1 I1 hi e0 e1 hS hs hls hl w g
    have e : ls.length = T := hi
    subst e
    have g7 : I1 144 f = nI ls.length := by rw [w 144 f (by unfold chC0 chLi chG; omega)]; exact h7
    simp (disch := omega) only [aw_iload_3 (pc2 := 3) D158_2 rfl, aw_aload_0 (pc2 := 4) D158_3 rfl, aw_getR (pc2 := 7) (ci := 7) (fk := 22) D158_4 rfl fT_7_74 rfl, aw_iload_2 (pc2 := 8) D158_7 rfl, aw_iaload (pc2 := 9) D158_8 rfl, aw_icmp_ge (pc2 := 12) (t := 45) D158_9 (by decide) rfl, sh_122, rf_122_22, sh_144, rf_122_21, sh_143, lit_12, rf_122_24, sh_146, rf_122_26, sh_148, lit_3, refV_s, refV_n, psh_s, psh_n, kil_i, kil_r, kil_n, kil_l, cat_i, cat_r, iOK_1, iOK_5, jOK_2, jOK_6, wOK_e, lOK_1, lOK_2, lOK_3, lOK_4, lOK_5, lOK_6, catS_0, catS_1, catS_2, catS_3, catS_4, and_self, true_and, and_true, true_or, or_true, false_or, or_false, not_true_eq_false, not_false_eq_true, if_true, if_false, ite_int, ite_int0, au_10, eq_self, decide_true, decide_false, Bool.true_and, Bool.false_and, au_in, au_le, au_lt, au_eq, au_lt0, au_ge0, au_le0, au_gt0, au_eq0, au_leT, au_leF, au_ltT, au_ltF, au_eqT, au_eqF, nI_clamp, nI_1, nI_add, pk_mul, au_sub1, au_subc, au_up2e, au_up2n, lit_of, g7]
    refine hK1 _ ls S1 I1 rfl ?_ w hls g
    have := e1 [] S1 rfl
    rwa [List.append_nil] at this
  | cons s t ih =>
    intro ls S1 I1 hi e0 e1 hS hs hls hl w g
    rw [List.length_cons] at hi
    obtain ⟨p, hp, hpN, e⟩ := hs s (List.mem_cons_self ..)
    have g7 : I1 144 f = nI T := by rw [w 144 f (by unfold chC0 chLi chG; omega)]; exact h7
    have gs : I1 143 (12 * f + ls.length) = nI (2 ^ p) := by
      have := hl 0 (by rw [List.length_cons]; omega)
      rw [← e]; exact this
    have hs2 : sgs N t := fun s hs2 => hs s (List.mem_cons_of_mem _ hs2)
    have hrest : ∀ v I2, fS (chLi b) I1 I2 → lsA 143 (12 * f + (ls.length + 1)) t (up2 I2 143 (12 * f + ls.length) v) := by
      intro v I2 w1 j hj
      rw [au_up2n (by omega), w1 143 _ (by unfold chLi chG; omega)]
      have := hl (j + 1) (by rw [List.length_cons]; omega)
      rw [show 12 * f + (ls.length + 1) + j = 12 * f + ls.length + (j + 1) by omega, this]
      rfl
    have ihn := fun n => ih (ls ++ [n])
    rw [aw_iload_3 (pc2 := 3) D158_2 rfl]
    simp (disch := omega) only [aw_aload_0 (pc2 := 4) D158_3 rfl, aw_getR (pc2 := 7) (ci := 7) (fk := 22) D158_4 rfl fT_7_74 rfl, aw_iload_2 (pc2 := 8) D158_7 rfl, aw_iaload (pc2 := 9) D158_8 rfl, aw_icmp_ge (pc2 := 12) (t := 45) D158_9 (by decide) rfl, aw_aload_0 (pc2 := 13) D158_12 rfl, aw_getR (pc2 := 16) (ci := 7) (fk := 21) D158_13 rfl fT_7_71 rfl, aw_bipush (pc2 := 18) (y := 12) D158_16 rfl (by decide), aw_iload_2 (pc2 := 19) D158_18 rfl, aw_imul (pc2 := 20) D158_19 rfl, aw_iload_3 (pc2 := 21) D158_20 rfl, aw_iadd (pc2 := 22) D158_21 rfl, aw_aload_0 (pc2 := 23) D158_22 rfl, aw_iload_1 (pc2 := 24) D158_23 rfl, aw_aload_0 (pc2 := 25) D158_24 rfl, aw_getR (pc2 := 28) (ci := 7) (fk := 21) D158_25 rfl fT_7_71 rfl, aw_bipush (pc2 := 30) (y := 12) D158_28 rfl (by decide), aw_iload_2 (pc2 := 31) D158_30 rfl, aw_imul (pc2 := 32) D158_31 rfl, aw_iload_3 (pc2 := 33) D158_32 rfl, aw_iadd (pc2 := 34) D158_33 rfl, aw_iaload (pc2 := 35) D158_34 rfl, aw_iv2_0 (pc2 := 38) (o := 7) D158_35 rfl cT_7_232 rfl rfl, sh_122, rf_122_22, sh_144, rf_122_21, sh_143, lit_12, rf_122_24, sh_146, rf_122_26, sh_148, lit_3, refV_s, refV_n, psh_s, psh_n, kil_i, kil_r, kil_n, kil_l, cat_i, cat_r, iOK_1, iOK_5, jOK_2, jOK_6, wOK_e, lOK_1, lOK_2, lOK_3, lOK_4, lOK_5, lOK_6, catS_0, catS_1, catS_2, catS_3, catS_4, and_self, true_and, and_true, true_or, or_true, false_or, or_false, not_true_eq_false, not_false_eq_true, if_true, if_false, ite_int, ite_int0, au_10, eq_self, decide_true, decide_false, Bool.true_and, Bool.false_and, au_in, au_le, au_lt, au_eq, au_lt0, au_ge0, au_le0, au_gt0, au_eq0, au_leT, au_leF, au_ltT, au_ltF, au_eqT, au_eqF, nI_clamp, nI_1, nI_add, pk_mul, au_sub1, au_subc, au_up2e, au_up2n, lit_of, g7, gs]
    refine M_litOf (d := d) hb hp hS g (fun n S2 I2 hlp w1 w3 => ?_) (fun v I2 hlp w1 w3 => ?_)
    · have hlo := litP_ok hS hp hpN hlp
      simp (disch := omega) only [aw_iastore (pc2 := 39) D158_38 rfl, aw_iinc_3 (pc2 := 42) (y := 1) D158_39 rfl (by decide), aw_goto (t := 2) D158_42 (by decide), sh_122, rf_122_22, sh_144, rf_122_21, sh_143, lit_12, rf_122_24, sh_146, rf_122_26, sh_148, lit_3, refV_s, refV_n, psh_s, psh_n, kil_i, kil_r, kil_n, kil_l, cat_i, cat_r, iOK_1, iOK_5, jOK_2, jOK_6, wOK_e, lOK_1, lOK_2, lOK_3, lOK_4, lOK_5, lOK_6, catS_0, catS_1, catS_2, catS_3, catS_4, and_self, true_and, and_true, true_or, or_true, false_or, or_false, not_true_eq_false, not_false_eq_true, if_true, if_false, ite_int, ite_int0, au_10, eq_self, decide_true, decide_false, Bool.true_and, Bool.false_and, au_in, au_le, au_lt, au_eq, au_lt0, au_ge0, au_le0, au_gt0, au_eq0, au_leT, au_leF, au_ltT, au_ltF, au_eqT, au_eqF, nI_clamp, nI_1, nI_add, pk_mul, au_sub1, au_subc, au_up2e, au_up2n, lit_of, psh]
      have := ihn n S2 (up2 I2 143 (12 * f + ls.length) (nI n)) (by rw [List.length_append, List.length_singleton]; omega) (fun z => e0 (by rw [e]; unfold litAll; rw [hlp]; simp only [z])) (fun ns S' z => by
        rw [List.append_assoc]
        exact e1 (n :: ns) S' (by rw [e]; unfold litAll; rw [hlp]; simp only [z])) hlo.1.1 hs2 (fun j hj => ?_) (by rw [List.length_append]; exact hrest _ I2 w1) (w.tr ((w1.wk (fun a k q => Or.inl q)).tr (fS.up (Or.inr ⟨rfl, by omega, by omega⟩)))) (cstM_cong hlo.1.1 (fun a k q => by
        unfold chS chG at q
        rw [au_up2n (by omega)]) w3)
      · rw [List.length_append] at this
        exact this
      · rw [List.length_append, List.length_singleton] at hj
        rw [get_snoc hj]
        by_cases ej : j = ls.length
        · rw [if_pos ej]; exact au_up2e ⟨rfl, by rw [ej]⟩
        · rw [if_neg ej, au_up2n (by omega), w1 143 _ (by unfold chLi chG; omega)]
          exact hls j (by omega)
    · simp (disch := omega) only [aw_iastore (pc2 := 39) D158_38 rfl, aw_iinc_3 (pc2 := 42) (y := 1) D158_39 rfl (by decide), aw_goto (t := 2) D158_42 (by decide), sh_122, rf_122_22, sh_144, rf_122_21, sh_143, lit_12, rf_122_24, sh_146, rf_122_26, sh_148, lit_3, refV_s, refV_n, psh_s, psh_n, kil_i, kil_r, kil_n, kil_l, cat_i, cat_r, iOK_1, iOK_5, jOK_2, jOK_6, wOK_e, lOK_1, lOK_2, lOK_3, lOK_4, lOK_5, lOK_6, catS_0, catS_1, catS_2, catS_3, catS_4, and_self, true_and, and_true, true_or, or_true, false_or, or_false, not_true_eq_false, not_false_eq_true, if_true, if_false, ite_int, ite_int0, au_10, eq_self, decide_true, decide_false, Bool.true_and, Bool.false_and, au_in, au_le, au_lt, au_eq, au_lt0, au_ge0, au_le0, au_gt0, au_eq0, au_leT, au_leF, au_ltT, au_ltF, au_eqT, au_eqF, nI_clamp, nI_1, nI_add, pk_mul, au_sub1, au_subc, au_up2e, au_up2n, lit_of, psh]
      exact M_litLoopS hb hf hT (fun v3 I' k3 f' g' => hK0 v3 I' k3 (e0 (by rw [e]; unfold litAll; rw [hlp])) f' g') h7 t (ls.length + 1) _ (by omega) (fun s h2 => by obtain ⟨p, a, b, c⟩ := hs2 s h2; exact ⟨p, a, by omega, c⟩) (hrest _ I2 w1) (w.tr ((w1.wk (fun a k q => Or.inl q)).tr (fS.up (Or.inr ⟨rfl, by omega, by omega⟩)))) ⟨by rw [au_up2c (by omega)]; exact w3.1, by rw [au_up2c (by omega)]; exact w3.2⟩
theorem M_closes {N : Nat} {S : ST} {t nds : List Nat} (hN : N ≤ 12) (hb : b < 2) (hf : f < 13) (hl : t.length + nds.length ≤ 12) (hS : stC N S) (ht : sgs N t) (hnd : ∀ x, x ∈ nds → x < S.1.length) (h7 : I 144 f = nI t.length) (h8 : I 146 f = nI nds.length) (h4 : lsA 143 (12 * f) t I) (h5 : lsA 148 (12 * f) nds I) (hd : I 122 38 = nI (f + 1)) (h : cstM b S I) (hs : ∀ n S' I', nodeL t nds S = some (n, S') → fS (chC b f) I I' → cstM b S' I' → I' 122 38 = nI f → I' 122 39 = nI n → K none (G0 Ln) I' J) (hK : ∀ I', nodeL t nds S = none → fS (chC b f) I I' → sptM b I' → K none (G0 Ln) I' J) : ACall (d + 3) 158 [.ref 122, .int (nI b), .int (nI f)] (G0 Ln) I J K := by
  rw [ACall_0 (L0 := [.ref 122, .int (nI b), .int (nI f), nv, nv]) (show mcs 158 = (0, 0) from rfl) (show entL 158 [.ref 122, .int (nI b), .int (nI f)] = _ from rfl) rfl (Nat.le_of_ble_eq_true rfl)]
  simp (disch := omega) only [aw_iconst (pc2 := 1) (y := 0) D158_0 rfl (by decide), aw_istore_3 (pc2 := 2) D158_1 rfl, sh_122, rf_122_22, sh_144, rf_122_21, sh_143, lit_12, rf_122_24, sh_146, rf_122_26, sh_148, lit_3, refV_s, refV_n, psh_s, psh_n, kil_i, kil_r, kil_n, kil_l, cat_i, cat_r, iOK_1, iOK_5, jOK_2, jOK_6, wOK_e, lOK_1, lOK_2, lOK_3, lOK_4, lOK_5, lOK_6, catS_0, catS_1, catS_2, catS_3, catS_4, and_self, true_and, and_true, true_or, or_true, false_or, or_false, not_true_eq_false, not_false_eq_true, if_true, if_false, ite_int, ite_int0, au_10, eq_self, decide_true, decide_false, Bool.true_and, Bool.false_and, au_in, au_le, au_lt, au_eq, au_lt0, au_ge0, au_le0, au_gt0, au_eq0, au_leT, au_leF, au_ltT, au_ltF, au_eqT, au_eqF, nI_clamp, nI_1, nI_add, pk_mul, au_sub1, au_subc, au_up2e, au_up2n, lit_of]
  refine M_litLoop (ts := t) (S := S) hN hb hf (show t.length ≤ 12 by omega) (fun v3 I' k3 e w g => ?_) (fun v3 ns S' I' k3 e w hl2 g => ?_) h7 t [] S I (Nat.zero_add _) id (fun ns S' e => e) hS ht (fun j hj => absurd hj (Nat.not_lt_zero _)) h4 fS.rf h
  · have w0 : fS (chC b f) I I' := w.wk (fun a k q => q.elim Or.inl (fun q => Or.inr (Or.inl q)))
    exact M_closeTailS (d := d + 1) hb hf (show t.length ≤ 12 by omega) (show nds.length ≤ 12 by omega) k3 rfl (by rw [w 144 f (by unfold chC0 chLi chG; omega)]; exact h7) (by rw [w 146 f (by unfold chC0 chLi chG; omega)]; exact h8) (by rw [w 122 38 (by unfold chC0 chLi chG; omega)]; exact hd) g (fun I2 f2 g2 => hK I2 (by unfold nodeL; rw [e]) (w0.tr f2) g2)
  · have w0 : fS (chC b f) I I' := w.wk (fun a k q => q.elim Or.inl (fun q => Or.inr (Or.inl q)))
    obtain ⟨a, b1, c⟩ := litAll_ok hS ht e
    have en : ∀ r, endL (ns ++ nds) S' = r → nodeL t nds S = r := fun r z => by unfold nodeL; rw [e]; exact z
    exact M_closeTail (d := d + 1) (ls := ns) (nds := nds) hb hf (by omega) a.1 c (fun x hx => Nat.lt_of_lt_of_le (hnd x hx) a.2.1) k3 rfl (by rw [w 144 f (by unfold chC0 chLi chG; omega), b1]; exact h7) (by rw [w 146 f (by unfold chC0 chLi chG; omega)]; exact h8) hl2 (fun j hj => by rw [w 148 _ (by unfold chC0 chLi chG; omega)]; exact h5 j hj) (by rw [w 122 38 (by unfold chC0 chLi chG; omega)]; exact hd) g (fun n S2 I2 z f2 g2 d2 r2 => hs n S2 I2 (en _ z) (w0.tr f2) g2 d2 r2) (fun I2 z f2 g2 => hK I2 (en _ z) (w0.tr f2) g2)
end MClos
