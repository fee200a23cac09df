/-! the model: lists -/
theorem denM_ok : ∀ p, p < 24 → denM (nI (2 ^ p)) = nI (denN (2 ^ p)) := by decide
def chA1 (f n a k : Nat) : Prop := (a = 141 ∧ k = 40 * f + n) ∨ (a = 142 ∧ k = f)
def chLs (f a k : Nat) : Prop := (a = 141 ∧ 40 * f ≤ k ∧ k < 40 * f + 40) ∨ (a = 142 ∧ k = f)
section MList
variable {d Ln f : Nat} {I : IT} {J : JT} {K : KT}
theorem M_addsTo {acc : List Nat} {c : Nat} (hf : f < 14) (hacc : ∀ x, x ∈ acc → x < 2 ^ 24) (hc : c < 2 ^ 24) (hlen : acc.length < 40) (h5 : I 142 f = nI acc.length) (h1 : lsA 141 (40 * f) acc I) (hk : ∀ I', fS (chA1 f acc.length) I I' → I' 142 f = nI (addU acc c).length → lsA 141 (40 * f) (addU acc c) I' → K none (G0 Ln) I' J) : ACall (d + 1) 147 [.ref 122, .int (nI f), .int (nI c)] (G0 Ln) I J K := by
  rw [ACall_0 (L0 := [.ref 122, .int (nI f), .int (nI c), nv]) (show mcs 147 = (0, 0) from rfl) (show entL 147 [.ref 122, .int (nI f), .int (nI c)] = _ from rfl) rfl (Nat.le_of_ble_eq_true rfl)]
  simp (disch := omega) only [aw_bipush (pc2 := 2) (y := 40) D147_0 rfl (by decide), aw_iload_1 (pc2 := 3) D147_2 rfl, aw_imul (pc2 := 4) D147_3 rfl, aw_istore_3 (pc2 := 5) D147_4 rfl, sh_122, lit_40, rf_122_20, sh_142, rf_122_19, sh_141, refV_s, refV_n, psh_s, psh_n, kil_i, kil_r, kil_n, kil_l, cat_i, cat_r, iOK_1, iOK_5, jOK_2, jOK_6, wOK_e, lOK_1, lOK_2, lOK_3, lOK_4, lOK_5, lOK_6, catS_0, catS_1, catS_2, catS_3, catS_4, and_self, true_and, and_true, true_or, or_true, false_or, or_false, not_true_eq_false, not_false_eq_true, if_true, if_false, ite_int, ite_int0, au_10, eq_self, decide_true, decide_false, Bool.true_and, Bool.false_and, au_in, au_le, au_lt, au_eq, au_lt0, au_ge0, au_le0, au_gt0, au_eq0, au_leT, au_leF, au_ltT, au_ltF, au_eqT, au_eqF, nI_clamp, nI_1, nI_add, pk_mul, au_sub1, au_subc, au_up2e, au_up2n, lit_of]
  have key : ∀ n i, i + n = acc.length → (∀ j, j < i → acc.getD j 0 ≠ c) → AW d ((G0 Ln).1, (G0 Ln).2.1) K 147 5 [.ref 122, .int (nI f), .int (nI c), .int (nI (40 * f + i))] [] (G0 Ln) I J := by
    intro n
    induction n with
    | zero =>
      intro i hi hj
      have e : i = acc.length := by omega
      subst e
      have hn : ¬ c ∈ acc := fun h => by
        obtain ⟨k, hk, e⟩ := mem_ix.mp h
        exact hj k hk e
      have ha : addU acc c = acc ++ [c] := by unfold addU; rw [if_neg hn]
      rw [ha] at hk
      simp (disch := omega) only [aw_iload_3 (pc2 := 6) D147_5 rfl, aw_bipush (pc2 := 8) (y := 40) D147_6 rfl (by decide), aw_iload_1 (pc2 := 9) D147_8 rfl, aw_imul (pc2 := 10) D147_9 rfl, aw_aload_0 (pc2 := 11) D147_10 rfl, aw_getR (pc2 := 14) (ci := 7) (fk := 20) D147_11 rfl fT_7_68 rfl, aw_iload_1 (pc2 := 15) D147_14 rfl, aw_iaload (pc2 := 16) D147_15 rfl, aw_iadd (pc2 := 17) D147_16 rfl, aw_icmp_ge (pc2 := 20) (t := 37) D147_17 (by decide) rfl, aw_aload_0 (pc2 := 38) D147_37 rfl, aw_getR (pc2 := 41) (ci := 7) (fk := 19) D147_38 rfl fT_7_65 rfl, aw_bipush (pc2 := 43) (y := 40) D147_41 rfl (by decide), aw_iload_1 (pc2 := 44) D147_43 rfl, aw_imul (pc2 := 45) D147_44 rfl, aw_aload_0 (pc2 := 46) D147_45 rfl, aw_getR (pc2 := 49) (ci := 7) (fk := 20) D147_46 rfl fT_7_68 rfl, aw_iload_1 (pc2 := 50) D147_49 rfl, aw_iaload (pc2 := 51) D147_50 rfl, aw_iadd (pc2 := 52) D147_51 rfl, aw_iload_2 (pc2 := 53) D147_52 rfl, aw_iastore (pc2 := 54) D147_53 rfl, aw_aload_0 (pc2 := 55) D147_54 rfl, aw_getR (pc2 := 58) (ci := 7) (fk := 20) D147_55 rfl fT_7_68 rfl, aw_iload_1 (pc2 := 59) D147_58 rfl, aw_dup2 (pc2 := 60) D147_59 rfl, aw_iaload (pc2 := 61) D147_60 rfl, aw_iconst (pc2 := 62) (y := 1) D147_61 rfl (by decide), aw_iadd (pc2 := 63) D147_62 rfl, aw_iastore (pc2 := 64) D147_63 rfl, aw_vret D147_64 rfl, sh_122, lit_40, rf_122_20, sh_142, rf_122_19, sh_141, refV_s, refV_n, psh_s, psh_n, kil_i, kil_r, kil_n, kil_l, cat_i, cat_r, iOK_1, iOK_5, jOK_2, jOK_6, wOK_e, lOK_1, lOK_2, lOK_3, lOK_4, lOK_5, lOK_6, catS_0, catS_1, catS_2, catS_3, catS_4, and_self, true_and, and_true, true_or, or_true, false_or, or_false, not_true_eq_false, not_false_eq_true, if_true, if_false, ite_int, ite_int0, au_10, eq_self, decide_true, decide_false, Bool.true_and, Bool.false_and, au_in, au_le, au_lt, au_eq, au_lt0, au_ge0, au_le0, au_gt0, au_eq0, au_leT, au_leF, au_ltT, au_ltF, au_eqT, au_eqF, nI_clamp, nI_1, nI_add, pk_mul, au_sub1, au_subc, au_up2e, au_up2n, lit_of, h5]
      refine hk _ (fun a j q => ?_) ?_ (fun i hi2 => ?_)
      · unfold chA1 at q
        simp (disch := omega) only [au_up2n]
      · rw [List.length_append]
        simp (disch := omega) only [au_up2e]
        rfl
      · rw [List.length_append] at hi2
        simp at hi2
        rw [get_snoc hi2]
        by_cases e : i = acc.length
        · simp (disch := omega) only [e, au_up2e, au_up2n, if_true]
        · simp (disch := omega) only [e, au_up2n, if_false]
          exact h1 i (by omega)
    | succ n ih =>
      intro i hi hj
      have hil : i < acc.length := by omega
      have hx := hacc _ (getD_mem hil)
      have hxi := h1 i hil
      have ihn := ih (i + 1)
      rw [aw_iload_3 (pc2 := 6) D147_5 rfl]
      simp (disch := omega) only [aw_bipush (pc2 := 8) (y := 40) D147_6 rfl (by decide), aw_iload_1 (pc2 := 9) D147_8 rfl, aw_imul (pc2 := 10) D147_9 rfl, aw_aload_0 (pc2 := 11) D147_10 rfl, aw_getR (pc2 := 14) (ci := 7) (fk := 20) D147_11 rfl fT_7_68 rfl, aw_iload_1 (pc2 := 15) D147_14 rfl, aw_iaload (pc2 := 16) D147_15 rfl, aw_iadd (pc2 := 17) D147_16 rfl, aw_icmp_ge (pc2 := 20) (t := 37) D147_17 (by decide) rfl, aw_aload_0 (pc2 := 21) D147_20 rfl, aw_getR (pc2 := 24) (ci := 7) (fk := 19) D147_21 rfl fT_7_65 rfl, aw_iload_3 (pc2 := 25) D147_24 rfl, aw_iaload (pc2 := 26) D147_25 rfl, aw_iload_2 (pc2 := 27) D147_26 rfl, aw_icmp_ne (pc2 := 30) (t := 31) D147_27 (by decide) rfl, sh_122, lit_40, rf_122_20, sh_142, rf_122_19, sh_141, refV_s, refV_n, psh_s, psh_n, kil_i, kil_r, kil_n, kil_l, cat_i, cat_r, iOK_1, iOK_5, jOK_2, jOK_6, wOK_e, lOK_1, lOK_2, lOK_3, lOK_4, lOK_5, lOK_6, catS_0, catS_1, catS_2, catS_3, catS_4, and_self, true_and, and_true, true_or, or_true, false_or, or_false, not_true_eq_false, not_false_eq_true, if_true, if_false, ite_int, ite_int0, au_10, eq_self, decide_true, decide_false, Bool.true_and, Bool.false_and, au_in, au_le, au_lt, au_eq, au_lt0, au_ge0, au_le0, au_gt0, au_eq0, au_leT, au_leF, au_ltT, au_ltF, au_eqT, au_eqF, nI_clamp, nI_1, nI_add, pk_mul, au_sub1, au_subc, au_up2e, au_up2n, lit_of, h5, hxi]
      by_cases hz : acc.getD i 0 = c
      · rw [if_neg (fun z => z hz)]
        have hm : c ∈ acc := mem_ix.mpr ⟨i, hil, hz⟩
        have ha : addU acc c = acc := by unfold addU; rw [if_pos hm]
        rw [ha] at hk
        simp (disch := omega) only [aw_vret D147_30 rfl, sh_122, lit_40, rf_122_20, sh_142, rf_122_19, sh_141, refV_s, refV_n, psh_s, psh_n, kil_i, kil_r, kil_n, kil_l, cat_i, cat_r, iOK_1, iOK_5, jOK_2, jOK_6, wOK_e, lOK_1, lOK_2, lOK_3, lOK_4, lOK_5, lOK_6, catS_0, catS_1, catS_2, catS_3, catS_4, and_self, true_and, and_true, true_or, or_true, false_or, or_false, not_true_eq_false, not_false_eq_true, if_true, if_false, ite_int, ite_int0, au_10, eq_self, decide_true, decide_false, Bool.true_and, Bool.false_and, au_in, au_le, au_lt, au_eq, au_lt0, au_ge0, au_le0, au_gt0, au_eq0, au_leT, au_leF, au_ltT, au_ltF, au_eqT, au_eqF, nI_clamp, nI_1, nI_add, pk_mul, au_sub1, au_subc, au_up2e, au_up2n, lit_of]
        exact hk I fS.rf h5 h1
      · rw [if_pos hz]
        simp (disch := omega) only [aw_iinc_3 (pc2 := 34) (y := 1) D147_31 rfl (by decide), aw_goto (t := 5) D147_34 (by decide), sh_122, lit_40, rf_122_20, sh_142, rf_122_19, sh_141, refV_s, refV_n, psh_s, psh_n, kil_i, kil_r, kil_n, kil_l, cat_i, cat_r, iOK_1, iOK_5, jOK_2, jOK_6, wOK_e, lOK_1, lOK_2, lOK_3, lOK_4, lOK_5, lOK_6, catS_0, catS_1, catS_2, catS_3, catS_4, and_self, true_and, and_true, true_or, or_true, false_or, or_false, not_true_eq_false, not_false_eq_true, if_true, if_false, ite_int, ite_int0, au_10, eq_self, decide_true, decide_false, Bool.true_and, Bool.false_and, au_in, au_le, au_lt, au_eq, au_lt0, au_ge0, au_le0, au_gt0, au_eq0, au_leT, au_leF, au_ltT, au_ltF, au_eqT, au_eqF, nI_clamp, nI_1, nI_add, pk_mul, au_sub1, au_subc, au_up2e, au_up2n, lit_of]
        exact ihn (by omega) (fun j hj2 => by
          by_cases e : j = i
          · rw [e]; exact hz
          · exact hj j (by omega))
  exact key acc.length 0 (by omega) (fun j hj => absurd hj (Nat.not_lt_zero _))
theorem M_takes {p : Nat} {l : List Nat} (hf : f < 14) (hp : p < 24) (hl : lsOK l) (h5 : I 142 f = nI l.length) (h1 : lsA 141 (40 * f) l I) (hk : ∀ I', fS (chLs f) I I' → I' 142 f = nI (tkS (2 ^ p) l).length → lsA 141 (40 * f) (tkS (2 ^ p) l) I' → K none (G0 Ln) I' J) : ACall (d + 2) 148 [.ref 122, .int (nI f), .int (nI (2 ^ p))] (G0 Ln) I J K := by
  rw [ACall_0 (L0 := [.ref 122, .int (nI f), .int (nI (2 ^ p)), nv, nv, nv]) (show mcs 148 = (0, 0) from rfl) (show entL 148 [.ref 122, .int (nI f), .int (nI (2 ^ p))] = _ from rfl) rfl (Nat.le_of_ble_eq_true rfl)]
  have s24 : 2 ^ p < 2 ^ 24 := Nat.pow_lt_pow_right (by decide) hp
  have hden := denM_ok p hp
  have h40 := hl.1
  simp (disch := omega) only [aw_aload_0 (pc2 := 1) D148_0 rfl, aw_getR (pc2 := 4) (ci := 7) (fk := 20) D148_1 rfl fT_7_68 rfl, aw_iload_1 (pc2 := 5) D148_4 rfl, aw_iaload (pc2 := 6) D148_5 rfl, aw_istore_3 (pc2 := 7) D148_6 rfl, aw_aload_0 (pc2 := 8) D148_7 rfl, aw_getR (pc2 := 11) (ci := 7) (fk := 20) D148_8 rfl fT_7_68 rfl, aw_iload_1 (pc2 := 12) D148_11 rfl, aw_iconst (pc2 := 13) (y := 0) D148_12 rfl (by decide), aw_iastore (pc2 := 14) D148_13 rfl, aw_bipush (pc2 := 16) (y := 40) D148_14 rfl (by decide), aw_iload_1 (pc2 := 17) D148_16 rfl, aw_imul (pc2 := 18) D148_17 rfl, aw_istore_4 (pc2 := 20) D148_18 rfl, sh_122, rf_122_20, sh_142, lit_40, rf_122_19, sh_141, refV_s, refV_n, psh_s, psh_n, kil_i, kil_r, kil_n, kil_l, cat_i, cat_r, iOK_1, iOK_5, jOK_2, jOK_6, wOK_e, lOK_1, lOK_2, lOK_3, lOK_4, lOK_5, lOK_6, catS_0, catS_1, catS_2, catS_3, catS_4, and_self, true_and, and_true, true_or, or_true, false_or, or_false, not_true_eq_false, not_false_eq_true, if_true, if_false, ite_int, ite_int0, au_10, eq_self, decide_true, decide_false, Bool.true_and, Bool.false_and, au_in, au_le, au_lt, au_eq, au_lt0, au_ge0, au_le0, au_gt0, au_eq0, au_leT, au_leF, au_ltT, au_ltF, au_eqT, au_eqF, nI_clamp, nI_1, nI_add, pk_mul, au_sub1, au_subc, au_up2e, au_up2n, lit_of, h5]
  have key : ∀ n i I' v5, kil v5 = v5 → i + n = l.length → fS (chLs f) I I' → I' 142 f = nI ((l.take i).foldl (tk1 (2 ^ p)) []).length → lsA 141 (40 * f) ((l.take i).foldl (tk1 (2 ^ p)) []) I' → (∀ j, i ≤ j → j < l.length → I' 141 (40 * f + j) = nI (l.getD j 0)) → AW (d + 1) ((G0 Ln).1, (G0 Ln).2.1) K 148 20 [.ref 122, .int (nI f), .int (nI (2 ^ p)), .int (nI l.length), .int (nI (40 * f + i)), v5] [] (G0 Ln) I' J := by
    intro n
    induction n with
    | zero =>
      intro i I' v5 hv5 hi ho o55 ol of
      have e : i = l.length := by omega
      subst e
      rw [List.take_length] at o55 ol
      simp (disch := omega) only [aw_iload_4 (pc2 := 22) D148_20 rfl, aw_bipush (pc2 := 24) (y := 40) D148_22 rfl (by decide), aw_iload_1 (pc2 := 25) D148_24 rfl, aw_imul (pc2 := 26) D148_25 rfl, aw_iload_3 (pc2 := 27) D148_26 rfl, aw_iadd (pc2 := 28) D148_27 rfl, aw_icmp_ge (pc2 := 31) (t := 67) D148_28 (by decide) rfl, aw_vret D148_67 rfl, sh_122, rf_122_20, sh_142, lit_40, rf_122_19, sh_141, refV_s, refV_n, psh_s, psh_n, kil_i, kil_r, kil_n, kil_l, cat_i, cat_r, iOK_1, iOK_5, jOK_2, jOK_6, wOK_e, lOK_1, lOK_2, lOK_3, lOK_4, lOK_5, lOK_6, catS_0, catS_1, catS_2, catS_3, catS_4, and_self, true_and, and_true, true_or, or_true, false_or, or_false, not_true_eq_false, not_false_eq_true, if_true, if_false, ite_int, ite_int0, au_10, eq_self, decide_true, decide_false, Bool.true_and, Bool.false_and, au_in, au_le, au_lt, au_eq, au_lt0, au_ge0, au_le0, au_gt0, au_eq0, au_leT, au_leF, au_ltT, au_ltF, au_eqT, au_eqF, nI_clamp, nI_1, nI_add, pk_mul, au_sub1, au_subc, au_up2e, au_up2n, lit_of]
      exact hk I' ho o55 ol
    | succ n ih =>
      intro i I' v5 hv5 hi ho o55 ol of
      have hil : i < l.length := by omega
      have hc := (hl.2 _ (getD_mem hil))
      have hfi := of i (Nat.le_refl _) hil
      have ihn := ih (i + 1)
      rw [fold_take_succ _ hil] at ihn
      have hal : ((l.take i).foldl (tk1 (2 ^ p)) []).length ≤ i := by
        have := tk_fold_len (2 ^ p) (l.take i) []
        rw [List.length_nil, List.length_take] at this
        omega
      have hax : ∀ x, x ∈ (l.take i).foldl (tk1 (2 ^ p)) [] → x < 2 ^ 24 := fun x hx => by
        rcases (tk_fold_mem (2 ^ p) x (l.take i) []).mp hx with h | ⟨c, h1, -, h3⟩
        · cases h
        · rw [h3]; exact (clC_sub (hl.2 c (List.mem_of_mem_take h1))).1
      have hn24 := (clC_sub (e := denN (2 ^ p)) hc).1
      have hand : l.getD i 0 &&& 2 ^ p < 2 ^ 31 := Nat.lt_of_le_of_lt Nat.and_le_left (by have := hc.1; omega)
      rw [aw_iload_4 (pc2 := 22) D148_20 rfl]
      simp (disch := omega) only [aw_bipush (pc2 := 24) (y := 40) D148_22 rfl (by decide), aw_iload_1 (pc2 := 25) D148_24 rfl, aw_imul (pc2 := 26) D148_25 rfl, aw_iload_3 (pc2 := 27) D148_26 rfl, aw_iadd (pc2 := 28) D148_27 rfl, aw_icmp_ge (pc2 := 31) (t := 67) D148_28 (by decide) rfl, aw_aload_0 (pc2 := 32) D148_31 rfl, aw_getR (pc2 := 35) (ci := 7) (fk := 19) D148_32 rfl fT_7_65 rfl, aw_iload_4 (pc2 := 37) D148_35 rfl, aw_iaload (pc2 := 38) D148_37 rfl, aw_istore_5 (pc2 := 40) D148_38 rfl, aw_iload_5 (pc2 := 42) D148_40 rfl, aw_iload_2 (pc2 := 43) D148_42 rfl, aw_iand (pc2 := 44) D148_43 rfl, aw_if_ne (pc2 := 47) (t := 61) D148_44 (by decide) rfl, sh_122, rf_122_20, sh_142, lit_40, rf_122_19, sh_141, refV_s, refV_n, psh_s, psh_n, kil_i, kil_r, kil_n, kil_l, cat_i, cat_r, iOK_1, iOK_5, jOK_2, jOK_6, wOK_e, lOK_1, lOK_2, lOK_3, lOK_4, lOK_5, lOK_6, catS_0, catS_1, catS_2, catS_3, catS_4, and_self, true_and, and_true, true_or, or_true, false_or, or_false, not_true_eq_false, not_false_eq_true, if_true, if_false, ite_int, ite_int0, au_10, eq_self, decide_true, decide_false, Bool.true_and, Bool.false_and, au_in, au_le, au_lt, au_eq, au_lt0, au_ge0, au_le0, au_gt0, au_eq0, au_leT, au_leF, au_ltT, au_ltF, au_eqT, au_eqF, nI_clamp, nI_1, nI_add, pk_mul, au_sub1, au_subc, au_up2e, au_up2n, lit_of, hfi, fa_and]
      by_cases hz : l.getD i 0 &&& 2 ^ p = 0
      · rw [if_neg (fun z => z hz)]
        have ht1 : tk1 (2 ^ p) ((l.take i).foldl (tk1 (2 ^ p)) []) (l.getD i 0) = addU ((l.take i).foldl (tk1 (2 ^ p)) []) (nclr (l.getD i 0) (denN (2 ^ p))) := by unfold tk1; rw [if_pos hz]
        rw [ht1] at ihn
        simp (disch := omega) only [aw_aload_0 (pc2 := 48) D148_47 rfl, aw_iload_1 (pc2 := 49) D148_48 rfl, aw_iload_5 (pc2 := 51) D148_49 rfl, aw_iload_2 (pc2 := 52) D148_51 rfl, aw_is1_2 (pc2 := 55) D148_52 rfl cT_7_160 rfl, aw_iconst (pc2 := 56) (y := -1) D148_55 rfl (by decide), aw_ixor (pc2 := 57) D148_56 rfl, aw_iand (pc2 := 58) D148_57 rfl, aw_iv2_0 (pc2 := 61) (o := 7) D148_58 rfl cT_7_196 rfl rfl, sh_122, rf_122_20, sh_142, lit_40, rf_122_19, sh_141, refV_s, refV_n, psh_s, psh_n, kil_i, kil_r, kil_n, kil_l, cat_i, cat_r, iOK_1, iOK_5, jOK_2, jOK_6, wOK_e, lOK_1, lOK_2, lOK_3, lOK_4, lOK_5, lOK_6, catS_0, catS_1, catS_2, catS_3, catS_4, and_self, true_and, and_true, true_or, or_true, false_or, or_false, not_true_eq_false, not_false_eq_true, if_true, if_false, ite_int, ite_int0, au_10, eq_self, decide_true, decide_false, Bool.true_and, Bool.false_and, au_in, au_le, au_lt, au_eq, au_lt0, au_ge0, au_le0, au_gt0, au_eq0, au_leT, au_leF, au_ltT, au_ltF, au_eqT, au_eqF, nI_clamp, nI_1, nI_add, pk_mul, au_sub1, au_subc, au_up2e, au_up2n, lit_of, M_denied, hden, nI_nclr]
        refine M_addsTo hf hax hn24 (by omega) o55 ol (fun I'' p1 p3 p4 => ?_)
        simp (disch := omega) only [aw_iinc_4 (pc2 := 64) (y := 1) D148_61 rfl (by decide), aw_goto (t := 20) D148_64 (by decide), sh_122, rf_122_20, sh_142, lit_40, rf_122_19, sh_141, refV_s, refV_n, psh_s, psh_n, kil_i, kil_r, kil_n, kil_l, cat_i, cat_r, iOK_1, iOK_5, jOK_2, jOK_6, wOK_e, lOK_1, lOK_2, lOK_3, lOK_4, lOK_5, lOK_6, catS_0, catS_1, catS_2, catS_3, catS_4, and_self, true_and, and_true, true_or, or_true, false_or, or_false, not_true_eq_false, not_false_eq_true, if_true, if_false, ite_int, ite_int0, au_10, eq_self, decide_true, decide_false, Bool.true_and, Bool.false_and, au_in, au_le, au_lt, au_eq, au_lt0, au_ge0, au_le0, au_gt0, au_eq0, au_leT, au_leF, au_ltT, au_ltF, au_eqT, au_eqF, nI_clamp, nI_1, nI_add, pk_mul, au_sub1, au_subc, au_up2e, au_up2n, lit_of]
        refine ihn I'' _ rfl (by omega) (ho.tr (p1.wk (fun a k q => by unfold chA1 at q; unfold chLs; omega))) p3 p4 (fun j hj hjl => ?_)
        rw [p1 141 _ (by unfold chA1; omega)]; exact of j (by omega) hjl
      · rw [if_pos hz]
        have ht1 : tk1 (2 ^ p) ((l.take i).foldl (tk1 (2 ^ p)) []) (l.getD i 0) = (l.take i).foldl (tk1 (2 ^ p)) [] := by unfold tk1; rw [if_neg hz]
        rw [ht1] at ihn
        simp (disch := omega) only [aw_iinc_4 (pc2 := 64) (y := 1) D148_61 rfl (by decide), aw_goto (t := 20) D148_64 (by decide), sh_122, rf_122_20, sh_142, lit_40, rf_122_19, sh_141, refV_s, refV_n, psh_s, psh_n, kil_i, kil_r, kil_n, kil_l, cat_i, cat_r, iOK_1, iOK_5, jOK_2, jOK_6, wOK_e, lOK_1, lOK_2, lOK_3, lOK_4, lOK_5, lOK_6, catS_0, catS_1, catS_2, catS_3, catS_4, and_self, true_and, and_true, true_or, or_true, false_or, or_false, not_true_eq_false, not_false_eq_true, if_true, if_false, ite_int, ite_int0, au_10, eq_self, decide_true, decide_false, Bool.true_and, Bool.false_and, au_in, au_le, au_lt, au_eq, au_lt0, au_ge0, au_le0, au_gt0, au_eq0, au_leT, au_leF, au_ltT, au_ltF, au_eqT, au_eqF, nI_clamp, nI_1, nI_add, pk_mul, au_sub1, au_subc, au_up2e, au_up2n, lit_of]
        exact ihn I' _ rfl (by omega) ho o55 ol (fun j hj hjl => of j (by omega) hjl)
  refine key l.length 0 _ nv rfl (by omega) (fS.up (by unfold chLs; omega)) ?_ (fun i hi => absurd hi (Nat.not_lt_zero _)) (fun j _ hj => ?_)
  · rw [au_up2]; rfl
  · rw [au_up2c (by omega)]; exact h1 j hj
def wsI (l : List Nat) (n : Nat) : Int32 := match l.find? (fun c => decide (pc24 c = n)) with
  | none => -1
  | some s => nI s
theorem M_withSigns {l : List Nat} {m : Nat} (hf : f < 14) (hm : m < 32) (hl : lsOK l) (h5 : I 142 f = nI l.length) (h1 : lsA 141 (40 * f) l I) : ACall (d + 2) 149 [.ref 122, .int (nI f), .int (nI m)] (G0 Ln) I J K ↔ K (some (.int (wsI l m))) (G0 Ln) I J := by
  rw [ACall_0 (L0 := [.ref 122, .int (nI f), .int (nI m), nv]) (show mcs 149 = (0, 0) from rfl) (show entL 149 [.ref 122, .int (nI f), .int (nI m)] = _ from rfl) rfl (Nat.le_of_ble_eq_true rfl)]
  have h40 := hl.1
  simp (disch := omega) only [aw_bipush (pc2 := 2) (y := 40) D149_0 rfl (by decide), aw_iload_1 (pc2 := 3) D149_2 rfl, aw_imul (pc2 := 4) D149_3 rfl, aw_istore_3 (pc2 := 5) D149_4 rfl, sh_122, lit_40, rf_122_20, sh_142, rf_122_19, sh_141, refV_s, refV_n, psh_s, psh_n, kil_i, kil_r, kil_n, kil_l, cat_i, cat_r, iOK_1, iOK_5, jOK_2, jOK_6, wOK_e, lOK_1, lOK_2, lOK_3, lOK_4, lOK_5, lOK_6, catS_0, catS_1, catS_2, catS_3, catS_4, and_self, true_and, and_true, true_or, or_true, false_or, or_false, not_true_eq_false, not_false_eq_true, if_true, if_false, ite_int, ite_int0, au_10, eq_self, decide_true, decide_false, Bool.true_and, Bool.false_and, au_in, au_le, au_lt, au_eq, au_lt0, au_ge0, au_le0, au_gt0, au_eq0, au_leT, au_leF, au_ltT, au_ltF, au_eqT, au_eqF, nI_clamp, nI_1, nI_add, pk_mul, au_sub1, au_subc, au_up2e, au_up2n, lit_of]
  have key : ∀ n i, i + n = l.length → (∀ j, j < i → (fun c => decide (pc24 c = m)) (l.getD j 0) = false) → (AW (d + 1) ((G0 Ln).1, (G0 Ln).2.1) K 149 5 [.ref 122, .int (nI f), .int (nI m), .int (nI (40 * f + i))] [] (G0 Ln) I J ↔ K (some (.int (wsI l m))) (G0 Ln) I J) := by
    intro n
    induction n with
    | zero =>
      intro i hi hj
      have e : i = l.length := by omega
      subst e
      have : l.find? (fun c => decide (pc24 c = m)) = none := find_no hj
      simp (disch := omega) only [aw_iload_3 (pc2 := 6) D149_5 rfl, aw_bipush (pc2 := 8) (y := 40) D149_6 rfl (by decide), aw_iload_1 (pc2 := 9) D149_8 rfl, aw_imul (pc2 := 10) D149_9 rfl, aw_aload_0 (pc2 := 11) D149_10 rfl, aw_getR (pc2 := 14) (ci := 7) (fk := 20) D149_11 rfl fT_7_68 rfl, aw_iload_1 (pc2 := 15) D149_14 rfl, aw_iaload (pc2 := 16) D149_15 rfl, aw_iadd (pc2 := 17) D149_16 rfl, aw_icmp_ge (pc2 := 20) (t := 46) D149_17 (by decide) rfl, aw_iconst (pc2 := 47) (y := -1) D149_46 rfl (by decide), aw_iret D149_47 rfl, sh_122, lit_40, rf_122_20, sh_142, rf_122_19, sh_141, refV_s, refV_n, psh_s, psh_n, kil_i, kil_r, kil_n, kil_l, cat_i, cat_r, iOK_1, iOK_5, jOK_2, jOK_6, wOK_e, lOK_1, lOK_2, lOK_3, lOK_4, lOK_5, lOK_6, catS_0, catS_1, catS_2, catS_3, catS_4, and_self, true_and, and_true, true_or, or_true, false_or, or_false, not_true_eq_false, not_false_eq_true, if_true, if_false, ite_int, ite_int0, au_10, eq_self, decide_true, decide_false, Bool.true_and, Bool.false_and, au_in, au_le, au_lt, au_eq, au_lt0, au_ge0, au_le0, au_gt0, au_eq0, au_leT, au_leF, au_ltT, au_ltF, au_eqT, au_eqF, nI_clamp, nI_1, nI_add, pk_mul, au_sub1, au_subc, au_up2e, au_up2n, lit_of, h5]
      unfold wsI
      rw [this]
    | succ n ih =>
      intro i hi hj
      have hil : i < l.length := by omega
      have hc := (hl.2 _ (getD_mem hil)).1
      have hpc := pc_le (m := l.getD i 0)
      have ihn := ih (i + 1)
      have hxi := h1 i hil
      rw [aw_iload_3 (pc2 := 6) D149_5 rfl]
      simp (disch := omega) only [aw_bipush (pc2 := 8) (y := 40) D149_6 rfl (by decide), aw_iload_1 (pc2 := 9) D149_8 rfl, aw_imul (pc2 := 10) D149_9 rfl, aw_aload_0 (pc2 := 11) D149_10 rfl, aw_getR (pc2 := 14) (ci := 7) (fk := 20) D149_11 rfl fT_7_68 rfl, aw_iload_1 (pc2 := 15) D149_14 rfl, aw_iaload (pc2 := 16) D149_15 rfl, aw_iadd (pc2 := 17) D149_16 rfl, aw_icmp_ge (pc2 := 20) (t := 46) D149_17 (by decide) rfl, aw_aload_0 (pc2 := 21) D149_20 rfl, aw_getR (pc2 := 24) (ci := 7) (fk := 19) D149_21 rfl fT_7_65 rfl, aw_iload_3 (pc2 := 25) D149_24 rfl, aw_iaload (pc2 := 26) D149_25 rfl, aw_is1_2 (pc2 := 29) D149_26 rfl cT_7_177 rfl, aw_iload_2 (pc2 := 30) D149_29 rfl, aw_icmp_ne (pc2 := 33) (t := 40) D149_30 (by decide) rfl, sh_122, lit_40, rf_122_20, sh_142, rf_122_19, sh_141, refV_s, refV_n, psh_s, psh_n, kil_i, kil_r, kil_n, kil_l, cat_i, cat_r, iOK_1, iOK_5, jOK_2, jOK_6, wOK_e, lOK_1, lOK_2, lOK_3, lOK_4, lOK_5, lOK_6, catS_0, catS_1, catS_2, catS_3, catS_4, and_self, true_and, and_true, true_or, or_true, false_or, or_false, not_true_eq_false, not_false_eq_true, if_true, if_false, ite_int, ite_int0, au_10, eq_self, decide_true, decide_false, Bool.true_and, Bool.false_and, au_in, au_le, au_lt, au_eq, au_lt0, au_ge0, au_le0, au_gt0, au_eq0, au_leT, au_leF, au_ltT, au_ltF, au_eqT, au_eqF, nI_clamp, nI_1, nI_add, pk_mul, au_sub1, au_subc, au_up2e, au_up2n, lit_of, h5, hxi, M_many (show l.getD i 0 < 2 ^ 31 by omega), psh]
      by_cases hz : pc24 (l.getD i 0) = m
      · rw [if_neg (fun z => z hz)]
        have : l.find? (fun c => decide (pc24 c = m)) = some (l.getD i 0) := find_at hil hj (decide_eq_true hz)
        simp (disch := omega) only [aw_aload_0 (pc2 := 34) D149_33 rfl, aw_getR (pc2 := 37) (ci := 7) (fk := 19) D149_34 rfl fT_7_65 rfl, aw_iload_3 (pc2 := 38) D149_37 rfl, aw_iaload (pc2 := 39) D149_38 rfl, aw_iret D149_39 rfl, sh_122, lit_40, rf_122_20, sh_142, rf_122_19, sh_141, refV_s, refV_n, psh_s, psh_n, kil_i, kil_r, kil_n, kil_l, cat_i, cat_r, iOK_1, iOK_5, jOK_2, jOK_6, wOK_e, lOK_1, lOK_2, lOK_3, lOK_4, lOK_5, lOK_6, catS_0, catS_1, catS_2, catS_3, catS_4, and_self, true_and, and_true, true_or, or_true, false_or, or_false, not_true_eq_false, not_false_eq_true, if_true, if_false, ite_int, ite_int0, au_10, eq_self, decide_true, decide_false, Bool.true_and, Bool.false_and, au_in, au_le, au_lt, au_eq, au_lt0, au_ge0, au_le0, au_gt0, au_eq0, au_leT, au_leF, au_ltT, au_ltF, au_eqT, au_eqF, nI_clamp, nI_1, nI_add, pk_mul, au_sub1, au_subc, au_up2e, au_up2n, lit_of, h5, hxi]
        unfold wsI
        rw [this]
      · rw [if_pos hz]
        simp (disch := omega) only [aw_iinc_3 (pc2 := 43) (y := 1) D149_40 rfl (by decide), aw_goto (t := 5) D149_43 (by decide), sh_122, lit_40, rf_122_20, sh_142, rf_122_19, sh_141, refV_s, refV_n, psh_s, psh_n, kil_i, kil_r, kil_n, kil_l, cat_i, cat_r, iOK_1, iOK_5, jOK_2, jOK_6, wOK_e, lOK_1, lOK_2, lOK_3, lOK_4, lOK_5, lOK_6, catS_0, catS_1, catS_2, catS_3, catS_4, and_self, true_and, and_true, true_or, or_true, false_or, or_false, not_true_eq_false, not_false_eq_true, if_true, if_false, ite_int, ite_int0, au_10, eq_self, decide_true, decide_false, Bool.true_and, Bool.false_and, au_in, au_le, au_lt, au_eq, au_lt0, au_ge0, au_le0, au_gt0, au_eq0, au_leT, au_leF, au_ltT, au_ltF, au_eqT, au_eqF, nI_clamp, nI_1, nI_add, pk_mul, au_sub1, au_subc, au_up2e, au_up2n, lit_of]
        exact ihn (by omega) (fun j hj2 => by
          by_cases e : j = i
          · rw [e]; exact decide_eq_false hz
          · exact hj j (by omega))
  exact key l.length 0 (by omega) (fun j hj => absurd hj (Nat.not_lt_zero _))
end MList
