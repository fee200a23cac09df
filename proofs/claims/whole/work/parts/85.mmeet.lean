/-! the model: a piece is met, its letter, and on into a side -/
def chMt (a k : Nat) : Prop := (154 ≤ a ∧ a ≤ 157) ∨ (a = 122 ∧ (k = 36 ∨ k = 37))
def bestM : Option Nat → Int32
  | none => -1
  | some l => nI l
def chI (f a k : Nat) : Prop := chLs (f + 1) a k ∨ (a = 122 ∧ k = 38)
section MMeet
variable {d Ln f : Nat} {I : IT} {J : JT} {K : KT}
theorem M_meets {m : MT} {p : List Nat} {nd : Nat} (hf : f < 13) (hp : lsOK p) (hpc : pcM f p I) (hm : mtM m I) (hr1 : m.length < 2047) (hr2 : stM m m.length + p.length ≤ 34776) (hK : ∀ I', fS chMt I I' → mtM (m ++ [(p, nd)]) I' → K none (G0 Ln) I' J) : ACall (d + 1) 154 [.ref 122, .int (nI f), .int (nI nd)] (G0 Ln) I J K := by
  rw [ACall_0 (L0 := [.ref 122, .int (nI f), .int (nI nd), nv]) (show mcs 154 = (0, 0) from rfl) (show entL 154 [.ref 122, .int (nI f), .int (nI nd)] = _ from rfl) rfl (Nat.le_of_ble_eq_true rfl)]
  obtain ⟨g1, g2, g3⟩ := id hm
  obtain ⟨h5, h1⟩ := hpc
  have hp40 := hp.1
  simp (disch := omega) only [aw_aload_0 (pc2 := 1) D154_0 rfl, aw_getR (pc2 := 4) (ci := 7) (fk := 32) D154_1 rfl fT_7_104 rfl, aw_aload_0 (pc2 := 5) D154_4 rfl, aw_getI (pc2 := 8) (ci := 7) (fk := 36) D154_5 rfl fT_7_219 rfl, aw_aload_0 (pc2 := 9) D154_8 rfl, aw_getI (pc2 := 12) (ci := 7) (fk := 37) D154_9 rfl fT_7_222 rfl, aw_iastore (pc2 := 13) D154_12 rfl, aw_aload_0 (pc2 := 14) D154_13 rfl, aw_getR (pc2 := 17) (ci := 7) (fk := 33) D154_14 rfl fT_7_107 rfl, aw_aload_0 (pc2 := 18) D154_17 rfl, aw_getI (pc2 := 21) (ci := 7) (fk := 36) D154_18 rfl fT_7_219 rfl, aw_aload_0 (pc2 := 22) D154_21 rfl, aw_getR (pc2 := 25) (ci := 7) (fk := 28) D154_22 rfl fT_7_92 rfl, aw_iload_1 (pc2 := 26) D154_25 rfl, aw_iaload (pc2 := 27) D154_26 rfl, aw_iastore (pc2 := 28) D154_27 rfl, aw_aload_0 (pc2 := 29) D154_28 rfl, aw_getR (pc2 := 32) (ci := 7) (fk := 34) D154_29 rfl fT_7_110 rfl, aw_aload_0 (pc2 := 33) D154_32 rfl, aw_getI (pc2 := 36) (ci := 7) (fk := 36) D154_33 rfl fT_7_219 rfl, aw_iload_2 (pc2 := 37) D154_36 rfl, aw_iastore (pc2 := 38) D154_37 rfl, aw_aload_0 (pc2 := 39) D154_38 rfl, aw_dup (pc2 := 40) D154_39 rfl, aw_getI (pc2 := 43) (ci := 7) (fk := 36) D154_40 rfl fT_7_219 rfl, aw_iconst (pc2 := 44) (y := 1) D154_43 rfl (by decide), aw_iadd (pc2 := 45) D154_44 rfl, aw_putI (pc2 := 48) (ci := 7) (fk := 36) D154_45 rfl fT_7_219 rfl, aw_iconst (pc2 := 49) (y := 0) D154_48 rfl (by decide), aw_istore_3 (pc2 := 50) D154_49 rfl, sh_122, rf_122_32, sh_154, rf_122_33, sh_155, rf_122_28, sh_150, rf_122_34, sh_156, rf_122_35, sh_157, rf_122_27, sh_149, lit_40, refV_s, refV_n, psh_s, psh_n, kil_i, kil_r, kil_n, kil_l, cat_i, cat_r, iOK_1, iOK_5, jOK_2, jOK_6, wOK_e, lOK_1, lOK_2, lOK_3, lOK_4, lOK_5, lOK_6, catS_0, catS_1, catS_2, catS_3, catS_4, and_self, true_and, and_true, true_or, or_true, false_or, or_false, not_true_eq_false, not_false_eq_true, if_true, if_false, ite_int, ite_int0, au_10, eq_self, decide_true, decide_false, Bool.true_and, Bool.false_and, au_in, au_le, au_lt, au_eq, au_lt0, au_ge0, au_le0, au_gt0, au_eq0, au_leT, au_leF, au_ltT, au_ltF, au_eqT, au_eqF, nI_clamp, nI_1, nI_add, pk_mul, au_sub1, au_subc, au_up2e, au_up2n, lit_of, g1, g2, h5]
  have key : ∀ n k I', k + n = p.length → fS chMt I I' → I' 122 36 = nI (m.length + 1) → I' 122 37 = nI (stM m m.length + k) → (∀ i, I' 154 i = if i = m.length then nI (stM m m.length) else I 154 i) → (∀ i, I' 155 i = if i = m.length then nI p.length else I 155 i) → (∀ i, I' 156 i = if i = m.length then nI nd else I 156 i) → (∀ j, I' 157 j = if stM m m.length ≤ j ∧ j < stM m m.length + k then nI (p.getD (j - stM m m.length) 0) else I 157 j) → AW d ((G0 Ln).1, (G0 Ln).2.1) K 154 50 [.ref 122, .int (nI f), .int (nI nd), .int (nI k)] [] (G0 Ln) I' J := by
    intro n
    induction n with
    | zero =>
      intro k I' hk ha hb hc h33 h34 h35 h32
      have e : k = p.length := by omega
      subst e
      simp (disch := omega) only [aw_iload_3 (pc2 := 51) D154_50 rfl, aw_aload_0 (pc2 := 52) D154_51 rfl, aw_getR (pc2 := 55) (ci := 7) (fk := 28) D154_52 rfl fT_7_92 rfl, aw_iload_1 (pc2 := 56) D154_55 rfl, aw_iaload (pc2 := 57) D154_56 rfl, aw_icmp_ge (pc2 := 60) (t := 96) D154_57 (by decide) rfl, aw_vret D154_96 rfl, sh_122, rf_122_32, sh_154, rf_122_33, sh_155, rf_122_28, sh_150, rf_122_34, sh_156, rf_122_35, sh_157, rf_122_27, sh_149, lit_40, refV_s, refV_n, psh_s, psh_n, kil_i, kil_r, kil_n, kil_l, cat_i, cat_r, iOK_1, iOK_5, jOK_2, jOK_6, wOK_e, lOK_1, lOK_2, lOK_3, lOK_4, lOK_5, lOK_6, catS_0, catS_1, catS_2, catS_3, catS_4, and_self, true_and, and_true, true_or, or_true, false_or, or_false, not_true_eq_false, not_false_eq_true, if_true, if_false, ite_int, ite_int0, au_10, eq_self, decide_true, decide_false, Bool.true_and, Bool.false_and, au_in, au_le, au_lt, au_eq, au_lt0, au_ge0, au_le0, au_gt0, au_eq0, au_leT, au_leF, au_ltT, au_ltF, au_eqT, au_eqF, nI_clamp, nI_1, nI_add, pk_mul, au_sub1, au_subc, au_up2e, au_up2n, lit_of, ha 150 f (by unfold chMt; omega), h5]
      have hlen : (m ++ [(p, nd)]).length = m.length + 1 := by rw [List.length_append]; rfl
      have hstl : stM (m ++ [(p, nd)]) (m.length + 1) = stM m m.length + p.length := by
        show stM (m ++ [(p, nd)]) m.length + (mAt (m ++ [(p, nd)]) m.length).1.length = _
        rw [stM_app (Nat.le_refl _), mAt_app (by omega), if_pos rfl]
      refine hK I' ha ⟨?_, ?_, fun i hi => ?_⟩
      · rw [hlen]; exact hb
      · rw [hlen, hstl]; exact hc
      · rw [hlen] at hi
        rw [mAt_app hi, stM_app (by omega), h33 i, h34 i, h35 i]
        by_cases ei : i = m.length
        · subst ei
          rw [if_pos rfl, if_pos rfl, if_pos rfl, if_pos rfl]
          refine ⟨rfl, rfl, rfl, fun j hj => ?_⟩
          rw [h32, if_pos (by have hj : j < p.length := hj; omega), show stM m m.length + j - stM m m.length = j by omega]
        · rw [if_neg ei, if_neg ei, if_neg ei, if_neg ei]
          obtain ⟨s1, s2, s3, s5⟩ := g3 i (by omega)
          refine ⟨s1, s2, s3, fun j hj => ?_⟩
          have hst : stM m i + (mAt m i).1.length ≤ stM m m.length := fb_sm_part (fun k => (mAt m k).1.length) (show i < m.length by omega)
          rw [h32, if_neg (by omega)]
          exact s5 j hj
    | succ n ih =>
      intro k I' hk ha hb hc h33 h34 h35 h32
      have hkl : k < p.length := by omega
      have hfk : I' 149 (40 * f + k) = nI (p.getD k 0) := by rw [ha 149 _ (by unfold chMt; omega)]; exact h1 k hkl
      have ihn := ih (k + 1)
      rw [aw_iload_3 (pc2 := 51) D154_50 rfl]
      simp (disch := omega) only [aw_aload_0 (pc2 := 52) D154_51 rfl, aw_getR (pc2 := 55) (ci := 7) (fk := 28) D154_52 rfl fT_7_92 rfl, aw_iload_1 (pc2 := 56) D154_55 rfl, aw_iaload (pc2 := 57) D154_56 rfl, aw_icmp_ge (pc2 := 60) (t := 96) D154_57 (by decide) rfl, aw_aload_0 (pc2 := 61) D154_60 rfl, aw_getR (pc2 := 64) (ci := 7) (fk := 35) D154_61 rfl fT_7_114 rfl, aw_aload_0 (pc2 := 65) D154_64 rfl, aw_getI (pc2 := 68) (ci := 7) (fk := 37) D154_65 rfl fT_7_222 rfl, aw_aload_0 (pc2 := 69) D154_68 rfl, aw_getR (pc2 := 72) (ci := 7) (fk := 27) D154_69 rfl fT_7_89 rfl, aw_bipush (pc2 := 74) (y := 40) D154_72 rfl (by decide), aw_iload_1 (pc2 := 75) D154_74 rfl, aw_imul (pc2 := 76) D154_75 rfl, aw_iload_3 (pc2 := 77) D154_76 rfl, aw_iadd (pc2 := 78) D154_77 rfl, aw_iaload (pc2 := 79) D154_78 rfl, aw_iastore (pc2 := 80) D154_79 rfl, aw_aload_0 (pc2 := 81) D154_80 rfl, aw_dup (pc2 := 82) D154_81 rfl, aw_getI (pc2 := 85) (ci := 7) (fk := 37) D154_82 rfl fT_7_222 rfl, aw_iconst (pc2 := 86) (y := 1) D154_85 rfl (by decide), aw_iadd (pc2 := 87) D154_86 rfl, aw_putI (pc2 := 90) (ci := 7) (fk := 37) D154_87 rfl fT_7_222 rfl, aw_iinc_3 (pc2 := 93) (y := 1) D154_90 rfl (by decide), aw_goto (t := 50) D154_93 (by decide), sh_122, rf_122_32, sh_154, rf_122_33, sh_155, rf_122_28, sh_150, rf_122_34, sh_156, rf_122_35, sh_157, rf_122_27, sh_149, lit_40, refV_s, refV_n, psh_s, psh_n, kil_i, kil_r, kil_n, kil_l, cat_i, cat_r, iOK_1, iOK_5, jOK_2, jOK_6, wOK_e, lOK_1, lOK_2, lOK_3, lOK_4, lOK_5, lOK_6, catS_0, catS_1, catS_2, catS_3, catS_4, and_self, true_and, and_true, true_or, or_true, false_or, or_false, not_true_eq_false, not_false_eq_true, if_true, if_false, ite_int, ite_int0, au_10, eq_self, decide_true, decide_false, Bool.true_and, Bool.false_and, au_in, au_le, au_lt, au_eq, au_lt0, au_ge0, au_le0, au_gt0, au_eq0, au_leT, au_leF, au_ltT, au_ltF, au_eqT, au_eqF, nI_clamp, nI_1, nI_add, pk_mul, au_sub1, au_subc, au_up2e, au_up2n, lit_of, ha 150 f (by unfold chMt; omega), h5, hc, hfk]
      refine ihn _ (by omega) ((ha.tr (fS.up (by unfold chMt; omega))).tr (fS.up (by unfold chMt; omega))) ?_ ?_ (fun i => ?_) (fun i => ?_) (fun i => ?_) (fun j => ?_)
      · simp (disch := omega) only [au_up2n]; exact hb
      · simp (disch := omega) only [au_up2e]; rfl
      · rw [up2_off (by omega), up2_off (by omega)]; exact h33 i
      · rw [up2_off (by omega), up2_off (by omega)]; exact h34 i
      · rw [up2_off (by omega), up2_off (by omega)]; exact h35 i
      · rw [up2_off (by omega), up2_f]
        by_cases ej : j = stM m m.length + k
        · rw [if_pos ej, if_pos (by omega), show j - stM m m.length = k by omega]
        · rw [if_neg ej, h32]
          by_cases e2 : stM m m.length ≤ j ∧ j < stM m m.length + k
          · rw [if_pos e2, if_pos (by omega)]
          · rw [if_neg e2, if_neg (by omega)]
  refine key p.length 0 _ (by omega) (fun a k q => ?_) ?_ ?_ (fun i => ?_) (fun i => ?_) (fun i => ?_) (fun j => ?_)
  · unfold chMt at q
    simp (disch := omega) only [au_up2n]
  · simp (disch := omega) only [au_up2n, au_up2e]
  · simp (disch := omega) only [au_up2n]; exact g2
  · by_cases ei : i = m.length
    · simp (disch := omega) only [ei, au_up2n, au_up2e, if_true]
    · simp (disch := omega) only [ei, au_up2n, if_false]
  · by_cases ei : i = m.length
    · simp (disch := omega) only [ei, au_up2n, au_up2e, if_true]
    · simp (disch := omega) only [ei, au_up2n, if_false]
  · by_cases ei : i = m.length
    · simp (disch := omega) only [ei, au_up2n, au_up2e, if_true]
    · simp (disch := omega) only [ei, au_up2n, if_false]
  · rw [if_neg (by omega)]
    simp (disch := omega) only [au_up2n]
theorem M_letterOf {b ak : Nat} {p : List Nat} (hb : b < 2) (hf : f < 13) (hp : lsOK p) (hak : ak < 4096) (ha : I 126 b = nI ak) (hpc : pcM f p I) : ACall (d + 2) 155 [.ref 122, .int (nI b), .int (nI f)] (G0 Ln) I J K ↔ K (some (.int (bestM (chs (chA ak p) p 12).1))) (G0 Ln) I J := by
  rw [ACall_0 (L0 := [.ref 122, .int (nI b), .int (nI f), nv, nv, nv, nv, nv, nv]) (show mcs 155 = (0, 0) from rfl) (show entL 155 [.ref 122, .int (nI b), .int (nI f)] = _ from rfl) rfl (Nat.le_of_ble_eq_true rfl)]
  obtain ⟨h5, h1⟩ := hpc
  have h40 := hp.1
  simp (disch := omega) only [aw_iconst (pc2 := 1) (y := 0) D155_0 rfl (by decide), aw_istore_3 (pc2 := 2) D155_1 rfl, aw_iconst (pc2 := 3) (y := 0) D155_2 rfl (by decide), aw_istore_4 (pc2 := 5) D155_3 rfl, sh_122, rf_122_28, sh_150, rf_122_27, sh_149, lit_40, rf_122_3, sh_126, lit_12, refV_s, refV_n, psh_s, psh_n, kil_i, kil_r, kil_n, kil_l, cat_i, cat_r, iOK_1, iOK_5, jOK_2, jOK_6, wOK_e, lOK_1, lOK_2, lOK_3, lOK_4, lOK_5, lOK_6, catS_0, catS_1, catS_2, catS_3, catS_4, and_self, true_and, and_true, true_or, or_true, false_or, or_false, not_true_eq_false, not_false_eq_true, if_true, if_false, ite_int, ite_int0, au_10, eq_self, decide_true, decide_false, Bool.true_and, Bool.false_and, au_in, au_le, au_lt, au_eq, au_lt0, au_ge0, au_le0, au_gt0, au_eq0, au_leT, au_leF, au_ltT, au_ltF, au_eqT, au_eqF, nI_clamp, nI_1, nI_add, pk_mul, au_sub1, au_subc, au_up2e, au_up2n, lit_of]
  have hU := ltU_lt p
  have hA : chA ak p < 4096 := by
    unfold chA
    split
    · exact hU
    · exact Nat.lt_of_le_of_lt Nat.and_le_left hU
  have k2 : ∀ g l v7 v8, l + g = 12 → kil v7 = v7 → kil v8 = v8 → (AW (d + 1) ((G0 Ln).1, (G0 Ln).2.1) K 155 69 [.ref 122, .int (nI b), .int (nI f), .int (nI (chA ak p)), .int (bestM (chs (chA ak p) p l).1), .int (nI (chs (chA ak p) p l).2), .int (nI l), v7, v8] [] (G0 Ln) I J ↔ K (some (.int (bestM (chs (chA ak p) p 12).1))) (G0 Ln) I J) := by
    intro g
    induction g with
    | zero =>
      intro l v7 v8 hl hv7 hv8
      have e : l = 12 := by omega
      subst e
      simp (disch := omega) only [aw_iload_6 (pc2 := 71) D155_69 rfl, aw_bipush (pc2 := 73) (y := 12) D155_71 rfl (by decide), aw_icmp_ge (pc2 := 76) (t := 157) D155_73 (by decide) rfl, aw_iload_4 (pc2 := 159) D155_157 rfl, aw_iret D155_159 rfl, sh_122, rf_122_28, sh_150, rf_122_27, sh_149, lit_40, rf_122_3, sh_126, lit_12, refV_s, refV_n, psh_s, psh_n, kil_i, kil_r, kil_n, kil_l, cat_i, cat_r, iOK_1, iOK_5, jOK_2, jOK_6, wOK_e, lOK_1, lOK_2, lOK_3, lOK_4, lOK_5, lOK_6, catS_0, catS_1, catS_2, catS_3, catS_4, and_self, true_and, and_true, true_or, or_true, false_or, or_false, not_true_eq_false, not_false_eq_true, if_true, if_false, ite_int, ite_int0, au_10, eq_self, decide_true, decide_false, Bool.true_and, Bool.false_and, au_in, au_le, au_lt, au_eq, au_lt0, au_ge0, au_le0, au_gt0, au_eq0, au_leT, au_leF, au_ltT, au_ltF, au_eqT, au_eqF, nI_clamp, nI_1, nI_add, pk_mul, au_sub1, au_subc, au_up2e, au_up2n, lit_of]
    | succ g ih =>
      intro l v7 v8 hl hv7 hv8
      have hl12 : l < 12 := by omega
      have ihn := ih (l + 1)
      have hbd := (chs_bd (chA ak p) p l).1
      have hcn : cntL p l ≤ p.length := fb_ct_le _ _
      rw [aw_iload_6 (pc2 := 71) D155_69 rfl]
      simp (disch := omega) only [aw_bipush (pc2 := 73) (y := 12) D155_71 rfl (by decide), aw_icmp_ge (pc2 := 76) (t := 157) D155_73 (by decide) rfl, aw_iconst (pc2 := 77) (y := 0) D155_76 rfl (by decide), aw_istore_7 (pc2 := 79) D155_77 rfl, aw_iconst (pc2 := 80) (y := 0) D155_79 rfl (by decide), aw_istore_8 (pc2 := 82) D155_80 rfl, sh_122, rf_122_28, sh_150, rf_122_27, sh_149, lit_40, rf_122_3, sh_126, lit_12, refV_s, refV_n, psh_s, psh_n, kil_i, kil_r, kil_n, kil_l, cat_i, cat_r, iOK_1, iOK_5, jOK_2, jOK_6, wOK_e, lOK_1, lOK_2, lOK_3, lOK_4, lOK_5, lOK_6, catS_0, catS_1, catS_2, catS_3, catS_4, and_self, true_and, and_true, true_or, or_true, false_or, or_false, not_true_eq_false, not_false_eq_true, if_true, if_false, ite_int, ite_int0, au_10, eq_self, decide_true, decide_false, Bool.true_and, Bool.false_and, au_in, au_le, au_lt, au_eq, au_lt0, au_ge0, au_le0, au_gt0, au_eq0, au_leT, au_leF, au_ltT, au_ltF, au_eqT, au_eqF, nI_clamp, nI_1, nI_add, pk_mul, au_sub1, au_subc, au_up2e, au_up2n, lit_of, hv8]
      have inn : ∀ n j, j + n = p.length → (AW (d + 1) ((G0 Ln).1, (G0 Ln).2.1) K 155 82 [.ref 122, .int (nI b), .int (nI f), .int (nI (chA ak p)), .int (bestM (chs (chA ak p) p l).1), .int (nI (chs (chA ak p) p l).2), .int (nI l), .int (nI (fb_ct (fun j => (ltN (p.getD j 0)).testBit l) j)), .int (nI j)] [] (G0 Ln) I J ↔ K (some (.int (bestM (chs (chA ak p) p 12).1))) (G0 Ln) I J) := by
        intro n
        induction n with
        | zero =>
          intro j hj
          have e : j = p.length := by omega
          subst e
          have hcn2 : fb_ct (fun j => (ltN (p.getD j 0)).testBit l) p.length = cntL p l := rfl
          rw [hcn2]
          simp (disch := omega) only [aw_iload_8 (pc2 := 84) D155_82 rfl, aw_aload_0 (pc2 := 85) D155_84 rfl, aw_getR (pc2 := 88) (ci := 7) (fk := 28) D155_85 rfl fT_7_92 rfl, aw_iload_2 (pc2 := 89) D155_88 rfl, aw_iaload (pc2 := 90) D155_89 rfl, aw_icmp_ge (pc2 := 93) (t := 124) D155_90 (by decide) rfl, aw_iload_3 (pc2 := 125) D155_124 rfl, aw_iload_6 (pc2 := 127) D155_125 rfl, aw_ishr (pc2 := 128) D155_127 rfl, aw_iconst (pc2 := 129) (y := 1) D155_128 rfl (by decide), aw_iand (pc2 := 130) D155_129 rfl, aw_if_eq (pc2 := 133) (t := 151) D155_130 (by decide) rfl, sh_122, rf_122_28, sh_150, rf_122_27, sh_149, lit_40, rf_122_3, sh_126, lit_12, refV_s, refV_n, psh_s, psh_n, kil_i, kil_r, kil_n, kil_l, cat_i, cat_r, iOK_1, iOK_5, jOK_2, jOK_6, wOK_e, lOK_1, lOK_2, lOK_3, lOK_4, lOK_5, lOK_6, catS_0, catS_1, catS_2, catS_3, catS_4, and_self, true_and, and_true, true_or, or_true, false_or, or_false, not_true_eq_false, not_false_eq_true, if_true, if_false, ite_int, ite_int0, au_10, eq_self, decide_true, decide_false, Bool.true_and, Bool.false_and, au_in, au_le, au_lt, au_eq, au_lt0, au_ge0, au_le0, au_gt0, au_eq0, au_leT, au_leF, au_ltT, au_ltF, au_eqT, au_eqF, nI_clamp, nI_1, nI_add, pk_mul, au_sub1, au_subc, au_up2e, au_up2n, lit_of, h5, shr_bit]
          cases t : (chA ak p).testBit l
          · rw [if_pos (by decide)]
            have e : chs (chA ak p) p (l + 1) = chs (chA ak p) p l := by
              rw [chs, if_neg (fun z => by rw [t] at z; cases z.1)]
            rw [e] at ihn
            simp (disch := omega) only [aw_iinc_6 (pc2 := 154) (y := 1) D155_151 rfl (by decide), aw_goto (t := 69) D155_154 (by decide), sh_122, rf_122_28, sh_150, rf_122_27, sh_149, lit_40, rf_122_3, sh_126, lit_12, refV_s, refV_n, psh_s, psh_n, kil_i, kil_r, kil_n, kil_l, cat_i, cat_r, iOK_1, iOK_5, jOK_2, jOK_6, wOK_e, lOK_1, lOK_2, lOK_3, lOK_4, lOK_5, lOK_6, catS_0, catS_1, catS_2, catS_3, catS_4, and_self, true_and, and_true, true_or, or_true, false_or, or_false, not_true_eq_false, not_false_eq_true, if_true, if_false, ite_int, ite_int0, au_10, eq_self, decide_true, decide_false, Bool.true_and, Bool.false_and, au_in, au_le, au_lt, au_eq, au_lt0, au_ge0, au_le0, au_gt0, au_eq0, au_leT, au_leF, au_ltT, au_ltF, au_eqT, au_eqF, nI_clamp, nI_1, nI_add, pk_mul, au_sub1, au_subc, au_up2e, au_up2n, lit_of]
            exact ihn _ _ (by omega) rfl rfl
          · rw [if_neg (by decide)]
            simp (disch := omega) only [aw_iload_7 (pc2 := 135) D155_133 rfl, aw_iload_5 (pc2 := 137) D155_135 rfl, aw_icmp_gt (pc2 := 140) (t := 143) D155_137 (by decide) rfl, sh_122, rf_122_28, sh_150, rf_122_27, sh_149, lit_40, rf_122_3, sh_126, lit_12, refV_s, refV_n, psh_s, psh_n, kil_i, kil_r, kil_n, kil_l, cat_i, cat_r, iOK_1, iOK_5, jOK_2, jOK_6, wOK_e, lOK_1, lOK_2, lOK_3, lOK_4, lOK_5, lOK_6, catS_0, catS_1, catS_2, catS_3, catS_4, and_self, true_and, and_true, true_or, or_true, false_or, or_false, not_true_eq_false, not_false_eq_true, if_true, if_false, ite_int, ite_int0, au_10, eq_self, decide_true, decide_false, Bool.true_and, Bool.false_and, au_in, au_le, au_lt, au_eq, au_lt0, au_ge0, au_le0, au_gt0, au_eq0, au_leT, au_leF, au_ltT, au_ltF, au_eqT, au_eqF, nI_clamp, nI_1, nI_add, pk_mul, au_sub1, au_subc, au_up2e, au_up2n, lit_of]
            by_cases hc : (chs (chA ak p) p l).2 < cntL p l
            · have e : chs (chA ak p) p (l + 1) = (some l, cntL p l) := by
                rw [chs, if_pos ⟨t, by omega⟩]
              rw [e] at ihn
              rw [if_pos hc]
              simp (disch := omega) only [aw_iload_7 (pc2 := 145) D155_143 rfl, aw_istore_5 (pc2 := 147) D155_145 rfl, aw_iload_6 (pc2 := 149) D155_147 rfl, aw_istore_4 (pc2 := 151) D155_149 rfl, aw_iinc_6 (pc2 := 154) (y := 1) D155_151 rfl (by decide), aw_goto (t := 69) D155_154 (by decide), sh_122, rf_122_28, sh_150, rf_122_27, sh_149, lit_40, rf_122_3, sh_126, lit_12, refV_s, refV_n, psh_s, psh_n, kil_i, kil_r, kil_n, kil_l, cat_i, cat_r, iOK_1, iOK_5, jOK_2, jOK_6, wOK_e, lOK_1, lOK_2, lOK_3, lOK_4, lOK_5, lOK_6, catS_0, catS_1, catS_2, catS_3, catS_4, and_self, true_and, and_true, true_or, or_true, false_or, or_false, not_true_eq_false, not_false_eq_true, if_true, if_false, ite_int, ite_int0, au_10, eq_self, decide_true, decide_false, Bool.true_and, Bool.false_and, au_in, au_le, au_lt, au_eq, au_lt0, au_ge0, au_le0, au_gt0, au_eq0, au_leT, au_leF, au_ltT, au_ltF, au_eqT, au_eqF, nI_clamp, nI_1, nI_add, pk_mul, au_sub1, au_subc, au_up2e, au_up2n, lit_of]
              exact ihn _ _ (by omega) rfl rfl
            · have e : chs (chA ak p) p (l + 1) = chs (chA ak p) p l := by
                rw [chs, if_neg (fun z => by have := z.2; omega)]
              rw [e] at ihn
              rw [if_neg hc]
              simp (disch := omega) only [aw_goto (t := 151) D155_140 (by decide), aw_iinc_6 (pc2 := 154) (y := 1) D155_151 rfl (by decide), aw_goto (t := 69) D155_154 (by decide), sh_122, rf_122_28, sh_150, rf_122_27, sh_149, lit_40, rf_122_3, sh_126, lit_12, refV_s, refV_n, psh_s, psh_n, kil_i, kil_r, kil_n, kil_l, cat_i, cat_r, iOK_1, iOK_5, jOK_2, jOK_6, wOK_e, lOK_1, lOK_2, lOK_3, lOK_4, lOK_5, lOK_6, catS_0, catS_1, catS_2, catS_3, catS_4, and_self, true_and, and_true, true_or, or_true, false_or, or_false, not_true_eq_false, not_false_eq_true, if_true, if_false, ite_int, ite_int0, au_10, eq_self, decide_true, decide_false, Bool.true_and, Bool.false_and, au_in, au_le, au_lt, au_eq, au_lt0, au_ge0, au_le0, au_gt0, au_eq0, au_leT, au_leF, au_ltT, au_ltF, au_eqT, au_eqF, nI_clamp, nI_1, nI_add, pk_mul, au_sub1, au_subc, au_up2e, au_up2n, lit_of]
              exact ihn _ _ (by omega) rfl rfl
        | succ n ih2 =>
          intro j hj
          have hjl : j < p.length := by omega
          have hh := h1 j hjl
          have ih2n := ih2 (j + 1) (by omega)
          rw [fb_ct_succ] at ih2n
          have hle := fb_ct_le (fun j => (ltN (p.getD j 0)).testBit l) j
          have hlt := ltN_lt (p.getD j 0)
          rw [aw_iload_8 (pc2 := 84) D155_82 rfl]
          simp (disch := omega) only [aw_aload_0 (pc2 := 85) D155_84 rfl, aw_getR (pc2 := 88) (ci := 7) (fk := 28) D155_85 rfl fT_7_92 rfl, aw_iload_2 (pc2 := 89) D155_88 rfl, aw_iaload (pc2 := 90) D155_89 rfl, aw_icmp_ge (pc2 := 93) (t := 124) D155_90 (by decide) rfl, aw_iload_7 (pc2 := 95) D155_93 rfl, aw_aload_0 (pc2 := 96) D155_95 rfl, aw_getR (pc2 := 99) (ci := 7) (fk := 27) D155_96 rfl fT_7_89 rfl, aw_bipush (pc2 := 101) (y := 40) D155_99 rfl (by decide), aw_iload_2 (pc2 := 102) D155_101 rfl, aw_imul (pc2 := 103) D155_102 rfl, aw_iload_8 (pc2 := 105) D155_103 rfl, aw_iadd (pc2 := 106) D155_105 rfl, aw_iaload (pc2 := 107) D155_106 rfl, aw_is1_2 (pc2 := 110) D155_107 rfl cT_7_183 rfl, aw_iload_6 (pc2 := 112) D155_110 rfl, aw_ishr (pc2 := 113) D155_112 rfl, aw_iconst (pc2 := 114) (y := 1) D155_113 rfl (by decide), aw_iand (pc2 := 115) D155_114 rfl, aw_iadd (pc2 := 116) D155_115 rfl, aw_istore_7 (pc2 := 118) D155_116 rfl, aw_iinc_8 (pc2 := 121) (y := 1) D155_118 rfl (by decide), aw_goto (t := 82) D155_121 (by decide), sh_122, rf_122_28, sh_150, rf_122_27, sh_149, lit_40, rf_122_3, sh_126, lit_12, refV_s, refV_n, psh_s, psh_n, kil_i, kil_r, kil_n, kil_l, cat_i, cat_r, iOK_1, iOK_5, jOK_2, jOK_6, wOK_e, lOK_1, lOK_2, lOK_3, lOK_4, lOK_5, lOK_6, catS_0, catS_1, catS_2, catS_3, catS_4, and_self, true_and, and_true, true_or, or_true, false_or, or_false, not_true_eq_false, not_false_eq_true, if_true, if_false, ite_int, ite_int0, au_10, eq_self, decide_true, decide_false, Bool.true_and, Bool.false_and, au_in, au_le, au_lt, au_eq, au_lt0, au_ge0, au_le0, au_gt0, au_eq0, au_leT, au_leF, au_ltT, au_ltF, au_eqT, au_eqF, nI_clamp, nI_1, nI_add, pk_mul, au_sub1, au_subc, au_up2e, au_up2n, lit_of, h5, hh, M_lettersOf, letC_nI (hp.2 _ (getD_mem hjl)).1, shr_bit, psh]
          exact ih2n
      exact inn p.length 0 (by omega)
  have k1 : ∀ g i, i + g = p.length → (AW (d + 1) ((G0 Ln).1, (G0 Ln).2.1) K 155 5 [.ref 122, .int (nI b), .int (nI f), .int (nI (ltU (p.take i))), .int (nI i), nv, nv, nv, nv] [] (G0 Ln) I J ↔ K (some (.int (bestM (chs (chA ak p) p 12).1))) (G0 Ln) I J) := by
    intro g
    induction g with
    | zero =>
      intro i hi
      have e : i = p.length := by omega
      subst e
      rw [List.take_length]
      have hand : ltU p &&& ak < 2 ^ 31 := Nat.lt_of_le_of_lt Nat.and_le_left (by omega)
      simp (disch := omega) only [aw_iload_4 (pc2 := 7) D155_5 rfl, aw_aload_0 (pc2 := 8) D155_7 rfl, aw_getR (pc2 := 11) (ci := 7) (fk := 28) D155_8 rfl fT_7_92 rfl, aw_iload_2 (pc2 := 12) D155_11 rfl, aw_iaload (pc2 := 13) D155_12 rfl, aw_icmp_ge (pc2 := 16) (t := 40) D155_13 (by decide) rfl, aw_iload_3 (pc2 := 41) D155_40 rfl, aw_aload_0 (pc2 := 42) D155_41 rfl, aw_getR (pc2 := 45) (ci := 7) (fk := 3) D155_42 rfl fT_7_19 rfl, aw_iload_1 (pc2 := 46) D155_45 rfl, aw_iaload (pc2 := 47) D155_46 rfl, aw_iand (pc2 := 48) D155_47 rfl, aw_if_eq (pc2 := 51) (t := 60) D155_48 (by decide) rfl, sh_122, rf_122_28, sh_150, rf_122_27, sh_149, lit_40, rf_122_3, sh_126, lit_12, refV_s, refV_n, psh_s, psh_n, kil_i, kil_r, kil_n, kil_l, cat_i, cat_r, iOK_1, iOK_5, jOK_2, jOK_6, wOK_e, lOK_1, lOK_2, lOK_3, lOK_4, lOK_5, lOK_6, catS_0, catS_1, catS_2, catS_3, catS_4, and_self, true_and, and_true, true_or, or_true, false_or, or_false, not_true_eq_false, not_false_eq_true, if_true, if_false, ite_int, ite_int0, au_10, eq_self, decide_true, decide_false, Bool.true_and, Bool.false_and, au_in, au_le, au_lt, au_eq, au_lt0, au_ge0, au_le0, au_gt0, au_eq0, au_leT, au_leF, au_ltT, au_ltF, au_eqT, au_eqF, nI_clamp, nI_1, nI_add, pk_mul, au_sub1, au_subc, au_up2e, au_up2n, lit_of, h5, ha, fa_and]
      have k20 := k2 12 0 nv nv (by omega) rfl rfl
      by_cases hz : ltU p &&& ak = 0
      · rw [if_pos hz]
        have e : chA ak p = ltU p := by unfold chA; rw [if_pos hz]
        rw [e] at k20 ⊢
        simp (disch := omega) only [aw_iconst (pc2 := 61) (y := -1) D155_60 rfl (by decide), aw_istore_4 (pc2 := 63) D155_61 rfl, aw_iconst (pc2 := 64) (y := 0) D155_63 rfl (by decide), aw_istore_5 (pc2 := 66) D155_64 rfl, aw_iconst (pc2 := 67) (y := 0) D155_66 rfl (by decide), aw_istore_6 (pc2 := 69) D155_67 rfl, sh_122, rf_122_28, sh_150, rf_122_27, sh_149, lit_40, rf_122_3, sh_126, lit_12, refV_s, refV_n, psh_s, psh_n, kil_i, kil_r, kil_n, kil_l, cat_i, cat_r, iOK_1, iOK_5, jOK_2, jOK_6, wOK_e, lOK_1, lOK_2, lOK_3, lOK_4, lOK_5, lOK_6, catS_0, catS_1, catS_2, catS_3, catS_4, and_self, true_and, and_true, true_or, or_true, false_or, or_false, not_true_eq_false, not_false_eq_true, if_true, if_false, ite_int, ite_int0, au_10, eq_self, decide_true, decide_false, Bool.true_and, Bool.false_and, au_in, au_le, au_lt, au_eq, au_lt0, au_ge0, au_le0, au_gt0, au_eq0, au_leT, au_leF, au_ltT, au_ltF, au_eqT, au_eqF, nI_clamp, nI_1, nI_add, pk_mul, au_sub1, au_subc, au_up2e, au_up2n, lit_of]
        exact k20
      · rw [if_neg hz]
        have e : chA ak p = ltU p &&& ak := by unfold chA; rw [if_neg hz]
        rw [e] at k20 ⊢
        simp (disch := omega) only [aw_iload_3 (pc2 := 52) D155_51 rfl, aw_aload_0 (pc2 := 53) D155_52 rfl, aw_getR (pc2 := 56) (ci := 7) (fk := 3) D155_53 rfl fT_7_19 rfl, aw_iload_1 (pc2 := 57) D155_56 rfl, aw_iaload (pc2 := 58) D155_57 rfl, aw_iand (pc2 := 59) D155_58 rfl, aw_istore_3 (pc2 := 60) D155_59 rfl, aw_iconst (pc2 := 61) (y := -1) D155_60 rfl (by decide), aw_istore_4 (pc2 := 63) D155_61 rfl, aw_iconst (pc2 := 64) (y := 0) D155_63 rfl (by decide), aw_istore_5 (pc2 := 66) D155_64 rfl, aw_iconst (pc2 := 67) (y := 0) D155_66 rfl (by decide), aw_istore_6 (pc2 := 69) D155_67 rfl, sh_122, rf_122_28, sh_150, rf_122_27, sh_149, lit_40, rf_122_3, sh_126, lit_12, refV_s, refV_n, psh_s, psh_n, kil_i, kil_r, kil_n, kil_l, cat_i, cat_r, iOK_1, iOK_5, jOK_2, jOK_6, wOK_e, lOK_1, lOK_2, lOK_3, lOK_4, lOK_5, lOK_6, catS_0, catS_1, catS_2, catS_3, catS_4, and_self, true_and, and_true, true_or, or_true, false_or, or_false, not_true_eq_false, not_false_eq_true, if_true, if_false, ite_int, ite_int0, au_10, eq_self, decide_true, decide_false, Bool.true_and, Bool.false_and, au_in, au_le, au_lt, au_eq, au_lt0, au_ge0, au_le0, au_gt0, au_eq0, au_leT, au_leF, au_ltT, au_ltF, au_eqT, au_eqF, nI_clamp, nI_1, nI_add, pk_mul, au_sub1, au_subc, au_up2e, au_up2n, lit_of, ha, fa_and]
        exact k20
    | succ g ih =>
      intro i hi
      have hil : i < p.length := by omega
      have hh := h1 i hil
      have ihn := ih (i + 1) (by omega)
      rw [ltU_snoc hil] at ihn
      rw [aw_iload_4 (pc2 := 7) D155_5 rfl]
      simp (disch := omega) only [aw_aload_0 (pc2 := 8) D155_7 rfl, aw_getR (pc2 := 11) (ci := 7) (fk := 28) D155_8 rfl fT_7_92 rfl, aw_iload_2 (pc2 := 12) D155_11 rfl, aw_iaload (pc2 := 13) D155_12 rfl, aw_icmp_ge (pc2 := 16) (t := 40) D155_13 (by decide) rfl, aw_iload_3 (pc2 := 17) D155_16 rfl, aw_aload_0 (pc2 := 18) D155_17 rfl, aw_getR (pc2 := 21) (ci := 7) (fk := 27) D155_18 rfl fT_7_89 rfl, aw_bipush (pc2 := 23) (y := 40) D155_21 rfl (by decide), aw_iload_2 (pc2 := 24) D155_23 rfl, aw_imul (pc2 := 25) D155_24 rfl, aw_iload_4 (pc2 := 27) D155_25 rfl, aw_iadd (pc2 := 28) D155_27 rfl, aw_iaload (pc2 := 29) D155_28 rfl, aw_is1_2 (pc2 := 32) D155_29 rfl cT_7_183 rfl, aw_ior (pc2 := 33) D155_32 rfl, aw_istore_3 (pc2 := 34) D155_33 rfl, aw_iinc_4 (pc2 := 37) (y := 1) D155_34 rfl (by decide), aw_goto (t := 5) D155_37 (by decide), sh_122, rf_122_28, sh_150, rf_122_27, sh_149, lit_40, rf_122_3, sh_126, lit_12, refV_s, refV_n, psh_s, psh_n, kil_i, kil_r, kil_n, kil_l, cat_i, cat_r, iOK_1, iOK_5, jOK_2, jOK_6, wOK_e, lOK_1, lOK_2, lOK_3, lOK_4, lOK_5, lOK_6, catS_0, catS_1, catS_2, catS_3, catS_4, and_self, true_and, and_true, true_or, or_true, false_or, or_false, not_true_eq_false, not_false_eq_true, if_true, if_false, ite_int, ite_int0, au_10, eq_self, decide_true, decide_false, Bool.true_and, Bool.false_and, au_in, au_le, au_lt, au_eq, au_lt0, au_ge0, au_le0, au_gt0, au_eq0, au_leT, au_leF, au_ltT, au_ltF, au_eqT, au_eqF, nI_clamp, nI_1, nI_add, pk_mul, au_sub1, au_subc, au_up2e, au_up2n, lit_of, h5, hh, M_lettersOf, letC_nI (hp.2 _ (getD_mem hil)).1, fa_or, psh]
      exact ihn
  exact k1 p.length 0 (by omega)
theorem M_goesInto {p : List Nat} {s : Nat} (hf : f + 1 < 13) (hs : s < 24) (hp : lsOK p) (hpc : pcM f p I) (hd : I 122 38 = nI (f + 1)) (hk : ∀ K' I', (∀ I'', K none (G0 Ln) I'' J → K' none (G0 Ln) I'' J) → fS (chI f) I I' → I' 142 (f + 1) = nI (tkS (2 ^ s) p).length → lsA 141 (40 * (f + 1)) (tkS (2 ^ s) p) I' → I' 122 38 = nI (f + 2) → ACall (d + 4) 152 [.ref 122] (G0 Ln) I' J K') : ACall (d + 5) 156 [.ref 122, .int (nI f), .int (nI (2 ^ s))] (G0 Ln) I J K := by
  rw [ACall_0 (L0 := [.ref 122, .int (nI f), .int (nI (2 ^ s)), nv, nv]) (show mcs 156 = (0, 0) from rfl) (show entL 156 [.ref 122, .int (nI f), .int (nI (2 ^ s))] = _ from rfl) rfl (Nat.le_of_ble_eq_true rfl)]
  have s24 : 2 ^ s < 2 ^ 24 := Nat.pow_lt_pow_right (by decide) hs
  have hden := denM_ok s hs
  obtain ⟨h5, h1⟩ := hpc
  have h40 := hp.1
  simp (disch := omega) only [aw_aload_0 (pc2 := 1) D156_0 rfl, aw_getR (pc2 := 4) (ci := 7) (fk := 20) D156_1 rfl fT_7_68 rfl, aw_iload_1 (pc2 := 5) D156_4 rfl, aw_iconst (pc2 := 6) (y := 1) D156_5 rfl (by decide), aw_iadd (pc2 := 7) D156_6 rfl, aw_iconst (pc2 := 8) (y := 0) D156_7 rfl (by decide), aw_iastore (pc2 := 9) D156_8 rfl, aw_iconst (pc2 := 10) (y := 0) D156_9 rfl (by decide), aw_istore_3 (pc2 := 11) D156_10 rfl, sh_122, rf_122_20, sh_142, rf_122_28, sh_150, rf_122_27, sh_149, lit_40, refV_s, refV_n, psh_s, psh_n, kil_i, kil_r, kil_n, kil_l, cat_i, cat_r, iOK_1, iOK_5, jOK_2, jOK_6, wOK_e, lOK_1, lOK_2, lOK_3, lOK_4, lOK_5, lOK_6, catS_0, catS_1, catS_2, catS_3, catS_4, and_self, true_and, and_true, true_or, or_true, false_or, or_false, not_true_eq_false, not_false_eq_true, if_true, if_false, ite_int, ite_int0, au_10, eq_self, decide_true, decide_false, Bool.true_and, Bool.false_and, au_in, au_le, au_lt, au_eq, au_lt0, au_ge0, au_le0, au_gt0, au_eq0, au_leT, au_leF, au_ltT, au_ltF, au_eqT, au_eqF, nI_clamp, nI_1, nI_add, pk_mul, au_sub1, au_subc, au_up2e, au_up2n, lit_of]
  have key : ∀ n i I' v4, kil v4 = v4 → i + n = p.length → fS (chLs (f + 1)) I I' → I' 142 (f + 1) = nI ((p.take i).foldl (tk1 (2 ^ s)) []).length → lsA 141 (40 * (f + 1)) ((p.take i).foldl (tk1 (2 ^ s)) []) I' → AW (d + 4) ((G0 Ln).1, (G0 Ln).2.1) K 156 11 [.ref 122, .int (nI f), .int (nI (2 ^ s)), .int (nI i), v4] [] (G0 Ln) I' J := by
    intro n
    induction n with
    | zero =>
      intro i I' v4 k4 hi ho o55 ol
      have e : i = p.length := by omega
      subst e
      rw [List.take_length] at o55 ol
      have hd1 : I' 122 38 = nI (f + 1) := by rw [ho 122 38 (by unfold chLs; omega)]; exact hd
      have h51 : I' 150 f = nI p.length := by rw [ho 150 f (by unfold chLs; omega)]; exact h5
      simp (disch := omega) only [aw_iload_3 (pc2 := 12) D156_11 rfl, aw_aload_0 (pc2 := 13) D156_12 rfl, aw_getR (pc2 := 16) (ci := 7) (fk := 28) D156_13 rfl fT_7_92 rfl, aw_iload_1 (pc2 := 17) D156_16 rfl, aw_iaload (pc2 := 18) D156_17 rfl, aw_icmp_ge (pc2 := 21) (t := 63) D156_18 (by decide) rfl, aw_aload_0 (pc2 := 64) D156_63 rfl, aw_dup (pc2 := 65) D156_64 rfl, aw_getI (pc2 := 68) (ci := 7) (fk := 38) D156_65 rfl fT_7_206 rfl, aw_iconst (pc2 := 69) (y := 1) D156_68 rfl (by decide), aw_iadd (pc2 := 70) D156_69 rfl, aw_putI (pc2 := 73) (ci := 7) (fk := 38) D156_70 rfl fT_7_206 rfl, aw_aload_0 (pc2 := 74) D156_73 rfl, aw_iv0_0 (pc2 := 77) (o := 7) D156_74 rfl cT_7_225 rfl rfl, sh_122, rf_122_20, sh_142, rf_122_28, sh_150, rf_122_27, sh_149, lit_40, refV_s, refV_n, psh_s, psh_n, kil_i, kil_r, kil_n, kil_l, cat_i, cat_r, iOK_1, iOK_5, jOK_2, jOK_6, wOK_e, lOK_1, lOK_2, lOK_3, lOK_4, lOK_5, lOK_6, catS_0, catS_1, catS_2, catS_3, catS_4, and_self, true_and, and_true, true_or, or_true, false_or, or_false, not_true_eq_false, not_false_eq_true, if_true, if_false, ite_int, ite_int0, au_10, eq_self, decide_true, decide_false, Bool.true_and, Bool.false_and, au_in, au_le, au_lt, au_eq, au_lt0, au_ge0, au_le0, au_gt0, au_eq0, au_leT, au_leF, au_ltT, au_ltF, au_eqT, au_eqF, nI_clamp, nI_1, nI_add, pk_mul, au_sub1, au_subc, au_up2e, au_up2n, lit_of, h51, hd1]
      refine hk _ _ (fun I'' hk' => ?_) ((ho.wk (fun a k q => Or.inl q)).tr (fS.up (Or.inr ⟨rfl, rfl⟩))) (by rw [au_up2c (by omega)]; exact o55) (fun j hj => by rw [au_up2c (by omega)]; exact ol j hj) (au_up2e ⟨rfl, rfl⟩)
      simp (disch := omega) only [aw_vret D156_77 rfl, sh_122, rf_122_20, sh_142, rf_122_28, sh_150, rf_122_27, sh_149, lit_40, refV_s, refV_n, psh_s, psh_n, kil_i, kil_r, kil_n, kil_l, cat_i, cat_r, iOK_1, iOK_5, jOK_2, jOK_6, wOK_e, lOK_1, lOK_2, lOK_3, lOK_4, lOK_5, lOK_6, catS_0, catS_1, catS_2, catS_3, catS_4, and_self, true_and, and_true, true_or, or_true, false_or, or_false, not_true_eq_false, not_false_eq_true, if_true, if_false, ite_int, ite_int0, au_10, eq_self, decide_true, decide_false, Bool.true_and, Bool.false_and, au_in, au_le, au_lt, au_eq, au_lt0, au_ge0, au_le0, au_gt0, au_eq0, au_leT, au_leF, au_ltT, au_ltF, au_eqT, au_eqF, nI_clamp, nI_1, nI_add, pk_mul, au_sub1, au_subc, au_up2e, au_up2n, lit_of, psh]
      exact hk'
    | succ n ih =>
      intro i I' v4 k4 hi ho o55 ol
      have hil : i < p.length := by omega
      have hc := (hp.2 _ (getD_mem hil))
      have hfi : I' 149 (40 * f + i) = nI (p.getD i 0) := by rw [ho 149 _ (by unfold chLs; omega)]; exact h1 i hil
      have h51 : I' 150 f = nI p.length := by rw [ho 150 f (by unfold chLs; omega)]; exact h5
      have ihn := ih (i + 1)
      rw [fold_take_succ _ hil] at ihn
      have hal : ((p.take i).foldl (tk1 (2 ^ s)) []).length ≤ i := by
        have := tk_fold_len (2 ^ s) (p.take i) []
        rw [List.length_nil, List.length_take] at this
        omega
      have hax : ∀ x, x ∈ (p.take i).foldl (tk1 (2 ^ s)) [] → x < 2 ^ 24 := fun x hx => by
        rcases (tk_fold_mem (2 ^ s) x (p.take i) []).mp hx with h | ⟨c, h1, -, h3⟩
        · cases h
        · rw [h3]; exact (clC_sub (hp.2 c (List.mem_of_mem_take h1))).1
      have hn24 := (clC_sub (e := denN (2 ^ s)) hc).1
      have hand : p.getD i 0 &&& 2 ^ s < 2 ^ 31 := Nat.lt_of_le_of_lt Nat.and_le_left (by have := hc.1; omega)
      rw [aw_iload_3 (pc2 := 12) D156_11 rfl]
      simp (disch := omega) only [aw_aload_0 (pc2 := 13) D156_12 rfl, aw_getR (pc2 := 16) (ci := 7) (fk := 28) D156_13 rfl fT_7_92 rfl, aw_iload_1 (pc2 := 17) D156_16 rfl, aw_iaload (pc2 := 18) D156_17 rfl, aw_icmp_ge (pc2 := 21) (t := 63) D156_18 (by decide) rfl, aw_aload_0 (pc2 := 22) D156_21 rfl, aw_getR (pc2 := 25) (ci := 7) (fk := 27) D156_22 rfl fT_7_89 rfl, aw_bipush (pc2 := 27) (y := 40) D156_25 rfl (by decide), aw_iload_1 (pc2 := 28) D156_27 rfl, aw_imul (pc2 := 29) D156_28 rfl, aw_iload_3 (pc2 := 30) D156_29 rfl, aw_iadd (pc2 := 31) D156_30 rfl, aw_iaload (pc2 := 32) D156_31 rfl, aw_istore_4 (pc2 := 34) D156_32 rfl, aw_iload_4 (pc2 := 36) D156_34 rfl, aw_iload_2 (pc2 := 37) D156_36 rfl, aw_iand (pc2 := 38) D156_37 rfl, aw_if_ne (pc2 := 41) (t := 57) D156_38 (by decide) rfl, sh_122, rf_122_20, sh_142, rf_122_28, sh_150, rf_122_27, sh_149, lit_40, refV_s, refV_n, psh_s, psh_n, kil_i, kil_r, kil_n, kil_l, cat_i, cat_r, iOK_1, iOK_5, jOK_2, jOK_6, wOK_e, lOK_1, lOK_2, lOK_3, lOK_4, lOK_5, lOK_6, catS_0, catS_1, catS_2, catS_3, catS_4, and_self, true_and, and_true, true_or, or_true, false_or, or_false, not_true_eq_false, not_false_eq_true, if_true, if_false, ite_int, ite_int0, au_10, eq_self, decide_true, decide_false, Bool.true_and, Bool.false_and, au_in, au_le, au_lt, au_eq, au_lt0, au_ge0, au_le0, au_gt0, au_eq0, au_leT, au_leF, au_ltT, au_ltF, au_eqT, au_eqF, nI_clamp, nI_1, nI_add, pk_mul, au_sub1, au_subc, au_up2e, au_up2n, lit_of, hfi, h51, fa_and]
      by_cases hz : p.getD i 0 &&& 2 ^ s = 0
      · rw [if_neg (fun z => z hz)]
        have ht1 : tk1 (2 ^ s) ((p.take i).foldl (tk1 (2 ^ s)) []) (p.getD i 0) = addU ((p.take i).foldl (tk1 (2 ^ s)) []) (nclr (p.getD i 0) (denN (2 ^ s))) := by unfold tk1; rw [if_pos hz]
        rw [ht1] at ihn
        simp (disch := omega) only [aw_aload_0 (pc2 := 42) D156_41 rfl, aw_iload_1 (pc2 := 43) D156_42 rfl, aw_iconst (pc2 := 44) (y := 1) D156_43 rfl (by decide), aw_iadd (pc2 := 45) D156_44 rfl, aw_iload_4 (pc2 := 47) D156_45 rfl, aw_iload_2 (pc2 := 48) D156_47 rfl, aw_is1_2 (pc2 := 51) D156_48 rfl cT_7_160 rfl, aw_iconst (pc2 := 52) (y := -1) D156_51 rfl (by decide), aw_ixor (pc2 := 53) D156_52 rfl, aw_iand (pc2 := 54) D156_53 rfl, aw_iv2_0 (pc2 := 57) (o := 7) D156_54 rfl cT_7_196 rfl rfl, sh_122, rf_122_20, sh_142, rf_122_28, sh_150, rf_122_27, sh_149, lit_40, refV_s, refV_n, psh_s, psh_n, kil_i, kil_r, kil_n, kil_l, cat_i, cat_r, iOK_1, iOK_5, jOK_2, jOK_6, wOK_e, lOK_1, lOK_2, lOK_3, lOK_4, lOK_5, lOK_6, catS_0, catS_1, catS_2, catS_3, catS_4, and_self, true_and, and_true, true_or, or_true, false_or, or_false, not_true_eq_false, not_false_eq_true, if_true, if_false, ite_int, ite_int0, au_10, eq_self, decide_true, decide_false, Bool.true_and, Bool.false_and, au_in, au_le, au_lt, au_eq, au_lt0, au_ge0, au_le0, au_gt0, au_eq0, au_leT, au_leF, au_ltT, au_ltF, au_eqT, au_eqF, nI_clamp, nI_1, nI_add, pk_mul, au_sub1, au_subc, au_up2e, au_up2n, lit_of, M_denied, hden, nI_nclr]
        refine M_addsTo (d := d + 3) (by omega) hax hn24 (by omega) o55 ol (fun I'' p1 p3 p4 => ?_)
        simp (disch := omega) only [aw_iinc_3 (pc2 := 60) (y := 1) D156_57 rfl (by decide), aw_goto (t := 11) D156_60 (by decide), sh_122, rf_122_20, sh_142, rf_122_28, sh_150, rf_122_27, sh_149, lit_40, refV_s, refV_n, psh_s, psh_n, kil_i, kil_r, kil_n, kil_l, cat_i, cat_r, iOK_1, iOK_5, jOK_2, jOK_6, wOK_e, lOK_1, lOK_2, lOK_3, lOK_4, lOK_5, lOK_6, catS_0, catS_1, catS_2, catS_3, catS_4, and_self, true_and, and_true, true_or, or_true, false_or, or_false, not_true_eq_false, not_false_eq_true, if_true, if_false, ite_int, ite_int0, au_10, eq_self, decide_true, decide_false, Bool.true_and, Bool.false_and, au_in, au_le, au_lt, au_eq, au_lt0, au_ge0, au_le0, au_gt0, au_eq0, au_leT, au_leF, au_ltT, au_ltF, au_eqT, au_eqF, nI_clamp, nI_1, nI_add, pk_mul, au_sub1, au_subc, au_up2e, au_up2n, lit_of]
        exact ihn I'' _ rfl (by omega) (ho.tr (p1.wk (fun a k q => by unfold chA1 at q; unfold chLs; omega))) p3 p4
      · rw [if_pos hz]
        have ht1 : tk1 (2 ^ s) ((p.take i).foldl (tk1 (2 ^ s)) []) (p.getD i 0) = (p.take i).foldl (tk1 (2 ^ s)) [] := by unfold tk1; rw [if_neg hz]
        rw [ht1] at ihn
        simp (disch := omega) only [aw_iinc_3 (pc2 := 60) (y := 1) D156_57 rfl (by decide), aw_goto (t := 11) D156_60 (by decide), sh_122, rf_122_20, sh_142, rf_122_28, sh_150, rf_122_27, sh_149, lit_40, refV_s, refV_n, psh_s, psh_n, kil_i, kil_r, kil_n, kil_l, cat_i, cat_r, iOK_1, iOK_5, jOK_2, jOK_6, wOK_e, lOK_1, lOK_2, lOK_3, lOK_4, lOK_5, lOK_6, catS_0, catS_1, catS_2, catS_3, catS_4, and_self, true_and, and_true, true_or, or_true, false_or, or_false, not_true_eq_false, not_false_eq_true, if_true, if_false, ite_int, ite_int0, au_10, eq_self, decide_true, decide_false, Bool.true_and, Bool.false_and, au_in, au_le, au_lt, au_eq, au_lt0, au_ge0, au_le0, au_gt0, au_eq0, au_leT, au_leF, au_ltT, au_ltF, au_eqT, au_eqF, nI_clamp, nI_1, nI_add, pk_mul, au_sub1, au_subc, au_up2e, au_up2n, lit_of]
        exact ihn I' _ rfl (by omega) ho o55 ol
  refine key p.length 0 _ nv rfl (by omega) (fS.up (by unfold chLs; omega)) ?_ (fun i hi => absurd hi (Nat.not_lt_zero _))
  rw [au_up2]; rfl
end MMeet
