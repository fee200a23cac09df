theorem au_n3 : ((-3 : Int32) = 0) = False := eq_false (by decide)
theorem au_n2 : ((-2 : Int32) = 0) = False := eq_false (by decide)
theorem au_n4 : ((-4 : Int32) = 0) = False := eq_false (by decide)
theorem au_n7 : ((-7 : Int32) = 0) = False := eq_false (by decide)
theorem in_rows {c : Int32} {n : Nat} (hn : n < 2 ^ 30) : (0 ≤ c ∧ c ≤ nI n - 1) ↔ (0 ≤ c ∧ c < nI n) := in_count hn
section OpsME
variable {d Ln : Nat} {I : IT} {J : JT} {K : KT} {σ : SG}
theorem MO_rows {x : Int32} (hs : sgOK σ) (h : MInv σ I) (hk : MPost Ln I J K (oRows σ x)) : ACall (d + 7) 182 [.ref 122, .int x] (G0 Ln) I J K := by
  rw [ACall_0 (L0 := [.ref 122, .int x, nv]) (show mcs 182 = (0, 0) from rfl) (show entL 182 [.ref 122, .int x] = _ from rfl) rfl (Nat.le_of_ble_eq_true rfl)]
  unfold oRows at hk
  cases hx : bkOf x with
  | none =>
    simp only [hx] at hk
    obtain ⟨x0, x1⟩ := bkOf_none hx
    simp only [aw_aload_0 (pc2 := 1) D182_0 rfl, aw_iload_1 (pc2 := 2) D182_1 rfl, aw_iv1_0 (pc2 := 5) (o := 7) D182_2 rfl cT_7_297 rfl rfl, aw_istore_2 (pc2 := 6) D182_5 rfl, aw_iload_2 (pc2 := 7) D182_6 rfl, aw_if_eq (pc2 := 10) (t := 18) D182_7 (by decide) rfl, aw_aload_0 (pc2 := 11) D182_10 rfl, aw_iload_2 (pc2 := 12) D182_11 rfl, aw_iv1_0 (pc2 := 15) (o := 7) D182_12 rfl cT_7_154 rfl rfl, aw_goto (t := 31) D182_15 (by decide), aw_iret D182_31 rfl, sh_122, rf_122_0, sh_123, refV_s, refV_n, psh_s, psh_n, kil_i, kil_r, kil_n, kil_l, cat_i, cat_r, iOK_1, iOK_5, jOK_2, jOK_6, wOK_e, lOK_1, lOK_2, lOK_3, lOK_4, lOK_5, lOK_6, catS_0, catS_1, catS_2, catS_3, catS_4, and_self, true_and, and_true, true_or, or_true, false_or, or_false, not_true_eq_false, not_false_eq_true, if_true, if_false, ite_int, ite_int0, au_10, eq_self, decide_true, decide_false, Bool.true_and, Bool.false_and, M_whyG3 x0 x1, M_no3, au_n3, au_n2]
    exact hk.ref h (by omega) (by omega)
  | some b =>
    simp only [hx] at hk
    obtain ⟨hb, rfl⟩ := bkOf_some hx
    have hh := h.1 b hb
    have hbk := hs.1 b hb
    have hN := hbk.2.1
    obtain ⟨-, -, -, -, -, w6, w7, -⟩ := wN_all (σ.1 b).N (by omega)
    have hg := hh.2.2.2.2.2.2.2
    unfold MGo at hg
    cases e : (σ.1 b).g with
    | none =>
      rw [e] at hg
      simp only [e] at hk
      simp only [aw_aload_0 (pc2 := 1) D182_0 rfl, aw_iload_1 (pc2 := 2) D182_1 rfl, aw_iv1_0 (pc2 := 5) (o := 7) D182_2 rfl cT_7_297 rfl rfl, aw_istore_2 (pc2 := 6) D182_5 rfl, aw_iload_2 (pc2 := 7) D182_6 rfl, aw_if_eq (pc2 := 10) (t := 18) D182_7 (by decide) rfl, aw_aload_0 (pc2 := 11) D182_10 rfl, aw_iload_2 (pc2 := 12) D182_11 rfl, aw_iv1_0 (pc2 := 15) (o := 7) D182_12 rfl cT_7_154 rfl rfl, aw_goto (t := 31) D182_15 (by decide), aw_iret D182_31 rfl, sh_122, rf_122_0, sh_123, refV_s, refV_n, psh_s, psh_n, kil_i, kil_r, kil_n, kil_l, cat_i, cat_r, iOK_1, iOK_5, jOK_2, jOK_6, wOK_e, lOK_1, lOK_2, lOK_3, lOK_4, lOK_5, lOK_6, catS_0, catS_1, catS_2, catS_3, catS_4, and_self, true_and, and_true, true_or, or_true, false_or, or_false, not_true_eq_false, not_false_eq_true, if_true, if_false, ite_int, ite_int0, au_10, eq_self, decide_true, decide_false, Bool.true_and, Bool.false_and, M_whyG2 hb hg, M_no2, au_n3, au_n2]
      exact hk.ref h (by omega) (by omega)
    | some g =>
      rw [e] at hg
      simp only [e] at hk
      have hgo := gr_get hs hb e
      simp only [aw_aload_0 (pc2 := 1) D182_0 rfl, aw_iload_1 (pc2 := 2) D182_1 rfl, aw_iv1_0 (pc2 := 5) (o := 7) D182_2 rfl cT_7_297 rfl rfl, sh_122, rf_122_0, sh_123, refV_s, refV_n, psh_s, psh_n, kil_i, kil_r, kil_n, kil_l, cat_i, cat_r, iOK_1, iOK_5, jOK_2, jOK_6, wOK_e, lOK_1, lOK_2, lOK_3, lOK_4, lOK_5, lOK_6, catS_0, catS_1, catS_2, catS_3, catS_4, and_self, true_and, and_true, true_or, or_true, false_or, or_false, not_true_eq_false, not_false_eq_true, if_true, if_false, ite_int, ite_int0, au_10, eq_self, decide_true, decide_false, Bool.true_and, Bool.false_and]
      refine M_whyG hb hs h e (fun I' c1 f1 hl => ?_)
      have hf : FrM I I' := fun c hc => f1 c (by omega) (by omega) (by omega)
      have hh' := c1.1 b hb
      simp (disch := omega) only [aw_istore_2 (pc2 := 6) D182_5 rfl, aw_iload_2 (pc2 := 7) D182_6 rfl, aw_if_eq (pc2 := 10) (t := 18) D182_7 (by decide) rfl, aw_aload_0 (pc2 := 19) D182_18 rfl, aw_iload_1 (pc2 := 20) D182_19 rfl, aw_iconst (pc2 := 21) (y := 1) D182_20 rfl (by decide), aw_aload_0 (pc2 := 22) D182_21 rfl, aw_getR (pc2 := 25) (ci := 7) (fk := 0) D182_22 rfl fT_7_7 rfl, aw_iload_1 (pc2 := 26) D182_25 rfl, aw_iaload (pc2 := 27) D182_26 rfl, aw_ishl (pc2 := 28) D182_27 rfl, aw_iv2_0 (pc2 := 31) (o := 7) D182_28 rfl cT_7_300 rfl rfl, aw_iret D182_31 rfl, sh_122, rf_122_0, sh_123, refV_s, refV_n, psh_s, psh_n, kil_i, kil_r, kil_n, kil_l, cat_i, cat_r, iOK_1, iOK_5, jOK_2, jOK_6, wOK_e, lOK_1, lOK_2, lOK_3, lOK_4, lOK_5, lOK_6, catS_0, catS_1, catS_2, catS_3, catS_4, and_self, true_and, and_true, true_or, or_true, false_or, or_false, not_true_eq_false, not_false_eq_true, if_true, if_false, ite_int, ite_int0, au_10, eq_self, decide_true, decide_false, Bool.true_and, Bool.false_and, au_in, au_le, au_lt, au_eq, au_lt0, au_ge0, au_le0, au_gt0, au_eq0, au_leT, au_leF, au_ltT, au_ltF, au_eqT, au_eqF, nI_clamp, nI_1, nI_add, pk_mul, au_sub1, au_subc, au_up2e, au_up2n, lit_of, hh'.1, shl1, M_rowsBefore hb hs c1 hl (Nat.le_refl _)]
      exact hk I' J c1 hf FrM.rf
theorem MO_says {x r : Int32} (hs : sgOK σ) (h : MInv σ I) (hk : MPost Ln I J K (oSays σ x r)) : ACall (d + 7) 183 [.ref 122, .int x, .int r] (G0 Ln) I J K := by
  rw [ACall_0 (L0 := [.ref 122, .int x, .int r, nv]) (show mcs 183 = (0, 0) from rfl) (show entL 183 [.ref 122, .int x, .int r] = _ from rfl) rfl (Nat.le_of_ble_eq_true rfl)]
  unfold oSays at hk
  cases hx : bkOf x with
  | none =>
    simp only [hx] at hk
    obtain ⟨x0, x1⟩ := bkOf_none hx
    simp only [aw_aload_0 (pc2 := 1) D183_0 rfl, aw_iload_1 (pc2 := 2) D183_1 rfl, aw_iv1_0 (pc2 := 5) (o := 7) D183_2 rfl cT_7_297 rfl rfl, aw_istore_3 (pc2 := 6) D183_5 rfl, aw_iload_3 (pc2 := 7) D183_6 rfl, aw_if_ne (pc2 := 10) (t := 33) D183_7 (by decide) rfl, aw_iload_3 (pc2 := 34) D183_33 rfl, aw_if_eq (pc2 := 37) (t := 45) D183_34 (by decide) rfl, aw_aload_0 (pc2 := 38) D183_37 rfl, aw_iload_3 (pc2 := 39) D183_38 rfl, aw_iv1_0 (pc2 := 42) (o := 7) D183_39 rfl cT_7_154 rfl rfl, aw_goto (t := 59) D183_42 (by decide), aw_iret D183_59 rfl, sh_122, rf_122_0, sh_123, refV_s, refV_n, psh_s, psh_n, kil_i, kil_r, kil_n, kil_l, cat_i, cat_r, iOK_1, iOK_5, jOK_2, jOK_6, wOK_e, lOK_1, lOK_2, lOK_3, lOK_4, lOK_5, lOK_6, catS_0, catS_1, catS_2, catS_3, catS_4, and_self, true_and, and_true, true_or, or_true, false_or, or_false, not_true_eq_false, not_false_eq_true, if_true, if_false, ite_int, ite_int0, au_10, eq_self, decide_true, decide_false, Bool.true_and, Bool.false_and, M_whyG3 x0 x1, M_no3, au_n3, au_n2]
    exact hk.ref h (by omega) (by omega)
  | some b =>
    simp only [hx] at hk
    obtain ⟨hb, rfl⟩ := bkOf_some hx
    have hh := h.1 b hb
    have hbk := hs.1 b hb
    have hN := hbk.2.1
    obtain ⟨-, -, -, -, -, w6, w7, -⟩ := wN_all (σ.1 b).N (by omega)
    have hg := hh.2.2.2.2.2.2.2
    unfold MGo at hg
    cases e : (σ.1 b).g with
    | none =>
      rw [e] at hg
      simp only [e] at hk
      simp only [aw_aload_0 (pc2 := 1) D183_0 rfl, aw_iload_1 (pc2 := 2) D183_1 rfl, aw_iv1_0 (pc2 := 5) (o := 7) D183_2 rfl cT_7_297 rfl rfl, aw_istore_3 (pc2 := 6) D183_5 rfl, aw_iload_3 (pc2 := 7) D183_6 rfl, aw_if_ne (pc2 := 10) (t := 33) D183_7 (by decide) rfl, aw_iload_3 (pc2 := 34) D183_33 rfl, aw_if_eq (pc2 := 37) (t := 45) D183_34 (by decide) rfl, aw_aload_0 (pc2 := 38) D183_37 rfl, aw_iload_3 (pc2 := 39) D183_38 rfl, aw_iv1_0 (pc2 := 42) (o := 7) D183_39 rfl cT_7_154 rfl rfl, aw_goto (t := 59) D183_42 (by decide), aw_iret D183_59 rfl, sh_122, rf_122_0, sh_123, refV_s, refV_n, psh_s, psh_n, kil_i, kil_r, kil_n, kil_l, cat_i, cat_r, iOK_1, iOK_5, jOK_2, jOK_6, wOK_e, lOK_1, lOK_2, lOK_3, lOK_4, lOK_5, lOK_6, catS_0, catS_1, catS_2, catS_3, catS_4, and_self, true_and, and_true, true_or, or_true, false_or, or_false, not_true_eq_false, not_false_eq_true, if_true, if_false, ite_int, ite_int0, au_10, eq_self, decide_true, decide_false, Bool.true_and, Bool.false_and, M_whyG2 hb hg, M_no2, au_n3, au_n2]
      exact hk.ref h (by omega) (by omega)
    | some g =>
      rw [e] at hg
      simp only [e] at hk
      have hgo := gr_get hs hb e
      simp only [aw_aload_0 (pc2 := 1) D183_0 rfl, aw_iload_1 (pc2 := 2) D183_1 rfl, aw_iv1_0 (pc2 := 5) (o := 7) D183_2 rfl cT_7_297 rfl rfl, sh_122, rf_122_0, sh_123, refV_s, refV_n, psh_s, psh_n, kil_i, kil_r, kil_n, kil_l, cat_i, cat_r, iOK_1, iOK_5, jOK_2, jOK_6, wOK_e, lOK_1, lOK_2, lOK_3, lOK_4, lOK_5, lOK_6, catS_0, catS_1, catS_2, catS_3, catS_4, and_self, true_and, and_true, true_or, or_true, false_or, or_false, not_true_eq_false, not_false_eq_true, if_true, if_false, ite_int, ite_int0, au_10, eq_self, decide_true, decide_false, Bool.true_and, Bool.false_and]
      refine M_whyG hb hs h e (fun I' c1 f1 hl => ?_)
      have hf : FrM I I' := fun c hc => f1 c (by omega) (by omega) (by omega)
      have hh' := c1.1 b hb
      by_cases hr : 0 ≤ r ∧ r < nI (2 ^ (σ.1 b).N)
      · rw [if_pos hr] at hk
        simp (disch := omega) only [aw_istore_3 (pc2 := 6) D183_5 rfl, aw_iload_3 (pc2 := 7) D183_6 rfl, aw_if_ne (pc2 := 10) (t := 33) D183_7 (by decide) rfl, aw_iload_2 (pc2 := 11) D183_10 rfl, aw_i2l (pc2 := 12) D183_11 rfl, aw_lconst (pc2 := 13) (y := 0) D183_12 rfl (by decide), aw_iconst (pc2 := 14) (y := 1) D183_13 rfl (by decide), aw_aload_0 (pc2 := 15) D183_14 rfl, aw_getR (pc2 := 18) (ci := 7) (fk := 0) D183_15 rfl fT_7_7 rfl, aw_iload_1 (pc2 := 19) D183_18 rfl, aw_iaload (pc2 := 20) D183_19 rfl, aw_ishl (pc2 := 21) D183_20 rfl, aw_iconst (pc2 := 22) (y := 1) D183_21 rfl (by decide), aw_isub (pc2 := 23) D183_22 rfl, aw_i2l (pc2 := 24) D183_23 rfl, aw_is3_2 (pc2 := 27) D183_24 rfl cT_7_146 rfl, aw_if_ne (pc2 := 30) (t := 33) D183_27 (by decide) rfl, aw_bipush (pc2 := 32) (y := -3) D183_30 rfl (by decide), aw_istore_3 (pc2 := 33) D183_32 rfl, aw_iload_3 (pc2 := 34) D183_33 rfl, aw_if_eq (pc2 := 37) (t := 45) D183_34 (by decide) rfl, sh_122, rf_122_0, sh_123, refV_s, refV_n, psh_s, psh_n, kil_i, kil_r, kil_n, kil_l, cat_i, cat_r, iOK_1, iOK_5, jOK_2, jOK_6, wOK_e, lOK_1, lOK_2, lOK_3, lOK_4, lOK_5, lOK_6, catS_0, catS_1, catS_2, catS_3, catS_4, and_self, true_and, and_true, true_or, or_true, false_or, or_false, not_true_eq_false, not_false_eq_true, if_true, if_false, ite_int, ite_int0, au_10, eq_self, decide_true, decide_false, Bool.true_and, Bool.false_and, hh'.1, shl1, M_isIn, e0L, fa_wide_le, in_rows, ifT hr, au_in, nI_clamp]
        obtain ⟨j, hj, rfl⟩ := ix_of (by omega) hr
        rw [nI_clamp (by omega)] at hk
        simp (disch := omega) only [aw_aload_0 (pc2 := 46) D183_45 rfl, aw_iload_1 (pc2 := 47) D183_46 rfl, aw_iload_2 (pc2 := 48) D183_47 rfl, aw_iv2_0 (pc2 := 51) (o := 7) D183_48 rfl cT_7_294 rfl rfl, aw_if_eq (pc2 := 54) (t := 58) D183_51 (by decide) rfl, sh_122, rf_122_0, sh_123, refV_s, refV_n, psh_s, psh_n, kil_i, kil_r, kil_n, kil_l, cat_i, cat_r, iOK_1, iOK_5, jOK_2, jOK_6, wOK_e, lOK_1, lOK_2, lOK_3, lOK_4, lOK_5, lOK_6, catS_0, catS_1, catS_2, catS_3, catS_4, and_self, true_and, and_true, true_or, or_true, false_or, or_false, not_true_eq_false, not_false_eq_true, if_true, if_false, ite_int, ite_int0, au_10, eq_self, decide_true, decide_false, Bool.true_and, Bool.false_and, M_isRow hb hs c1 hl hj, bI_0]
        have key : K (some (.int (bI (rowT (σ.1 b) g j)))) (G0 Ln) I' J := hk I' J c1 hf FrM.rf
        cases t : rowT (σ.1 b) g j
        · rw [t] at key
          rw [if_pos rfl]
          simp (disch := omega) only [aw_iconst (pc2 := 59) (y := 0) D183_58 rfl (by decide), aw_iret D183_59 rfl, sh_122, rf_122_0, sh_123, refV_s, refV_n, psh_s, psh_n, kil_i, kil_r, kil_n, kil_l, cat_i, cat_r, iOK_1, iOK_5, jOK_2, jOK_6, wOK_e, lOK_1, lOK_2, lOK_3, lOK_4, lOK_5, lOK_6, catS_0, catS_1, catS_2, catS_3, catS_4, and_self, true_and, and_true, true_or, or_true, false_or, or_false, not_true_eq_false, not_false_eq_true, if_true, if_false, ite_int, ite_int0, au_10, eq_self, decide_true, decide_false, Bool.true_and, Bool.false_and]
          exact key
        · rw [t] at key
          rw [if_neg (by decide)]
          simp (disch := omega) only [aw_iconst (pc2 := 55) (y := 1) D183_54 rfl (by decide), aw_goto (t := 59) D183_55 (by decide), aw_iconst (pc2 := 59) (y := 0) D183_58 rfl (by decide), aw_iret D183_59 rfl, sh_122, rf_122_0, sh_123, refV_s, refV_n, psh_s, psh_n, kil_i, kil_r, kil_n, kil_l, cat_i, cat_r, iOK_1, iOK_5, jOK_2, jOK_6, wOK_e, lOK_1, lOK_2, lOK_3, lOK_4, lOK_5, lOK_6, catS_0, catS_1, catS_2, catS_3, catS_4, and_self, true_and, and_true, true_or, or_true, false_or, or_false, not_true_eq_false, not_false_eq_true, if_true, if_false, ite_int, ite_int0, au_10, eq_self, decide_true, decide_false, Bool.true_and, Bool.false_and]
          exact key
      · rw [if_neg hr] at hk
        simp (disch := omega) only [aw_istore_3 (pc2 := 6) D183_5 rfl, aw_iload_3 (pc2 := 7) D183_6 rfl, aw_if_ne (pc2 := 10) (t := 33) D183_7 (by decide) rfl, aw_iload_2 (pc2 := 11) D183_10 rfl, aw_i2l (pc2 := 12) D183_11 rfl, aw_lconst (pc2 := 13) (y := 0) D183_12 rfl (by decide), aw_iconst (pc2 := 14) (y := 1) D183_13 rfl (by decide), aw_aload_0 (pc2 := 15) D183_14 rfl, aw_getR (pc2 := 18) (ci := 7) (fk := 0) D183_15 rfl fT_7_7 rfl, aw_iload_1 (pc2 := 19) D183_18 rfl, aw_iaload (pc2 := 20) D183_19 rfl, aw_ishl (pc2 := 21) D183_20 rfl, aw_iconst (pc2 := 22) (y := 1) D183_21 rfl (by decide), aw_isub (pc2 := 23) D183_22 rfl, aw_i2l (pc2 := 24) D183_23 rfl, aw_is3_2 (pc2 := 27) D183_24 rfl cT_7_146 rfl, aw_if_ne (pc2 := 30) (t := 33) D183_27 (by decide) rfl, aw_bipush (pc2 := 32) (y := -3) D183_30 rfl (by decide), aw_istore_3 (pc2 := 33) D183_32 rfl, aw_iload_3 (pc2 := 34) D183_33 rfl, aw_if_eq (pc2 := 37) (t := 45) D183_34 (by decide) rfl, aw_aload_0 (pc2 := 38) D183_37 rfl, aw_iload_3 (pc2 := 39) D183_38 rfl, aw_iv1_0 (pc2 := 42) (o := 7) D183_39 rfl cT_7_154 rfl rfl, aw_goto (t := 59) D183_42 (by decide), aw_iret D183_59 rfl, sh_122, rf_122_0, sh_123, refV_s, refV_n, psh_s, psh_n, kil_i, kil_r, kil_n, kil_l, cat_i, cat_r, iOK_1, iOK_5, jOK_2, jOK_6, wOK_e, lOK_1, lOK_2, lOK_3, lOK_4, lOK_5, lOK_6, catS_0, catS_1, catS_2, catS_3, catS_4, and_self, true_and, and_true, true_or, or_true, false_or, or_false, not_true_eq_false, not_false_eq_true, if_true, if_false, ite_int, ite_int0, au_10, eq_self, decide_true, decide_false, Bool.true_and, Bool.false_and, hh'.1, shl1, M_isIn, M_no3, e0L, fa_wide_le, in_rows, if_neg hr, au_in, nI_clamp, au_n3]
        exact hk _ J (c1.ref (by omega) (by omega)) (FrM.tr hf (FrM.up (by omega))) FrM.rf
theorem MO_rank {x r : Int32} (hs : sgOK σ) (h : MInv σ I) (hk : MPost Ln I J K (oRank σ x r)) : ACall (d + 7) 190 [.ref 122, .int x, .int r] (G0 Ln) I J K := by
  rw [ACall_0 (L0 := [.ref 122, .int x, .int r, nv]) (show mcs 190 = (0, 0) from rfl) (show entL 190 [.ref 122, .int x, .int r] = _ from rfl) rfl (Nat.le_of_ble_eq_true rfl)]
  unfold oRank at hk
  cases hx : bkOf x with
  | none =>
    simp only [hx] at hk
    obtain ⟨x0, x1⟩ := bkOf_none hx
    simp only [aw_aload_0 (pc2 := 1) D190_0 rfl, aw_iload_1 (pc2 := 2) D190_1 rfl, aw_iv1_0 (pc2 := 5) (o := 7) D190_2 rfl cT_7_297 rfl rfl, aw_istore_3 (pc2 := 6) D190_5 rfl, aw_iload_3 (pc2 := 7) D190_6 rfl, aw_if_ne (pc2 := 10) (t := 31) D190_7 (by decide) rfl, aw_iload_3 (pc2 := 32) D190_31 rfl, aw_if_eq (pc2 := 35) (t := 43) D190_32 (by decide) rfl, aw_aload_0 (pc2 := 36) D190_35 rfl, aw_iload_3 (pc2 := 37) D190_36 rfl, aw_iv1_0 (pc2 := 40) (o := 7) D190_37 rfl cT_7_154 rfl rfl, aw_goto (t := 49) D190_40 (by decide), aw_iret D190_49 rfl, sh_122, rf_122_0, sh_123, refV_s, refV_n, psh_s, psh_n, kil_i, kil_r, kil_n, kil_l, cat_i, cat_r, iOK_1, iOK_5, jOK_2, jOK_6, wOK_e, lOK_1, lOK_2, lOK_3, lOK_4, lOK_5, lOK_6, catS_0, catS_1, catS_2, catS_3, catS_4, and_self, true_and, and_true, true_or, or_true, false_or, or_false, not_true_eq_false, not_false_eq_true, if_true, if_false, ite_int, ite_int0, au_10, eq_self, decide_true, decide_false, Bool.true_and, Bool.false_and, M_whyG3 x0 x1, M_no3, au_n3, au_n2]
    exact hk.ref h (by omega) (by omega)
  | some b =>
    simp only [hx] at hk
    obtain ⟨hb, rfl⟩ := bkOf_some hx
    have hh := h.1 b hb
    have hbk := hs.1 b hb
    have hN := hbk.2.1
    obtain ⟨-, -, -, -, -, w6, w7, -⟩ := wN_all (σ.1 b).N (by omega)
    have hg := hh.2.2.2.2.2.2.2
    unfold MGo at hg
    cases e : (σ.1 b).g with
    | none =>
      rw [e] at hg
      simp only [e] at hk
      simp only [aw_aload_0 (pc2 := 1) D190_0 rfl, aw_iload_1 (pc2 := 2) D190_1 rfl, aw_iv1_0 (pc2 := 5) (o := 7) D190_2 rfl cT_7_297 rfl rfl, aw_istore_3 (pc2 := 6) D190_5 rfl, aw_iload_3 (pc2 := 7) D190_6 rfl, aw_if_ne (pc2 := 10) (t := 31) D190_7 (by decide) rfl, aw_iload_3 (pc2 := 32) D190_31 rfl, aw_if_eq (pc2 := 35) (t := 43) D190_32 (by decide) rfl, aw_aload_0 (pc2 := 36) D190_35 rfl, aw_iload_3 (pc2 := 37) D190_36 rfl, aw_iv1_0 (pc2 := 40) (o := 7) D190_37 rfl cT_7_154 rfl rfl, aw_goto (t := 49) D190_40 (by decide), aw_iret D190_49 rfl, sh_122, rf_122_0, sh_123, refV_s, refV_n, psh_s, psh_n, kil_i, kil_r, kil_n, kil_l, cat_i, cat_r, iOK_1, iOK_5, jOK_2, jOK_6, wOK_e, lOK_1, lOK_2, lOK_3, lOK_4, lOK_5, lOK_6, catS_0, catS_1, catS_2, catS_3, catS_4, and_self, true_and, and_true, true_or, or_true, false_or, or_false, not_true_eq_false, not_false_eq_true, if_true, if_false, ite_int, ite_int0, au_10, eq_self, decide_true, decide_false, Bool.true_and, Bool.false_and, M_whyG2 hb hg, M_no2, au_n3, au_n2]
      exact hk.ref h (by omega) (by omega)
    | some g =>
      rw [e] at hg
      simp only [e] at hk
      have hgo := gr_get hs hb e
      simp only [aw_aload_0 (pc2 := 1) D190_0 rfl, aw_iload_1 (pc2 := 2) D190_1 rfl, aw_iv1_0 (pc2 := 5) (o := 7) D190_2 rfl cT_7_297 rfl rfl, sh_122, rf_122_0, sh_123, refV_s, refV_n, psh_s, psh_n, kil_i, kil_r, kil_n, kil_l, cat_i, cat_r, iOK_1, iOK_5, jOK_2, jOK_6, wOK_e, lOK_1, lOK_2, lOK_3, lOK_4, lOK_5, lOK_6, catS_0, catS_1, catS_2, catS_3, catS_4, and_self, true_and, and_true, true_or, or_true, false_or, or_false, not_true_eq_false, not_false_eq_true, if_true, if_false, ite_int, ite_int0, au_10, eq_self, decide_true, decide_false, Bool.true_and, Bool.false_and]
      refine M_whyG hb hs h e (fun I' c1 f1 hl => ?_)
      have hf : FrM I I' := fun c hc => f1 c (by omega) (by omega) (by omega)
      have hh' := c1.1 b hb
      by_cases hr : 0 ≤ r ∧ r ≤ nI (2 ^ (σ.1 b).N)
      · rw [if_pos hr] at hk
        simp (disch := omega) only [aw_istore_3 (pc2 := 6) D190_5 rfl, aw_iload_3 (pc2 := 7) D190_6 rfl, aw_if_ne (pc2 := 10) (t := 31) D190_7 (by decide) rfl, aw_iload_2 (pc2 := 11) D190_10 rfl, aw_i2l (pc2 := 12) D190_11 rfl, aw_lconst (pc2 := 13) (y := 0) D190_12 rfl (by decide), aw_iconst (pc2 := 14) (y := 1) D190_13 rfl (by decide), aw_aload_0 (pc2 := 15) D190_14 rfl, aw_getR (pc2 := 18) (ci := 7) (fk := 0) D190_15 rfl fT_7_7 rfl, aw_iload_1 (pc2 := 19) D190_18 rfl, aw_iaload (pc2 := 20) D190_19 rfl, aw_ishl (pc2 := 21) D190_20 rfl, aw_i2l (pc2 := 22) D190_21 rfl, aw_is3_2 (pc2 := 25) D190_22 rfl cT_7_146 rfl, aw_if_ne (pc2 := 28) (t := 31) D190_25 (by decide) rfl, aw_bipush (pc2 := 30) (y := -3) D190_28 rfl (by decide), aw_istore_3 (pc2 := 31) D190_30 rfl, aw_iload_3 (pc2 := 32) D190_31 rfl, aw_if_eq (pc2 := 35) (t := 43) D190_32 (by decide) rfl, sh_122, rf_122_0, sh_123, refV_s, refV_n, psh_s, psh_n, kil_i, kil_r, kil_n, kil_l, cat_i, cat_r, iOK_1, iOK_5, jOK_2, jOK_6, wOK_e, lOK_1, lOK_2, lOK_3, lOK_4, lOK_5, lOK_6, catS_0, catS_1, catS_2, catS_3, catS_4, and_self, true_and, and_true, true_or, or_true, false_or, or_false, not_true_eq_false, not_false_eq_true, if_true, if_false, ite_int, ite_int0, au_10, eq_self, decide_true, decide_false, Bool.true_and, Bool.false_and, hh'.1, shl1, M_isIn, e0L, fa_wide_le, ifT hr, au_in, nI_clamp]
        obtain ⟨j, hj, rfl⟩ : ∃ j, j < 2 ^ (σ.1 b).N + 1 ∧ r = nI j := ix_of (by omega) ⟨hr.1, by
          have := hr.2
          rw [fa_le, nI_toInt (by omega)] at this
          rw [fa_lt, nI_toInt (by omega)]
          omega⟩
        rw [nI_clamp (by omega)] at hk
        simp (disch := omega) only [aw_aload_0 (pc2 := 44) D190_43 rfl, aw_iload_1 (pc2 := 45) D190_44 rfl, aw_iload_2 (pc2 := 46) D190_45 rfl, aw_iv2_0 (pc2 := 49) (o := 7) D190_46 rfl cT_7_300 rfl rfl, aw_iret D190_49 rfl, sh_122, rf_122_0, sh_123, refV_s, refV_n, psh_s, psh_n, kil_i, kil_r, kil_n, kil_l, cat_i, cat_r, iOK_1, iOK_5, jOK_2, jOK_6, wOK_e, lOK_1, lOK_2, lOK_3, lOK_4, lOK_5, lOK_6, catS_0, catS_1, catS_2, catS_3, catS_4, and_self, true_and, and_true, true_or, or_true, false_or, or_false, not_true_eq_false, not_false_eq_true, if_true, if_false, ite_int, ite_int0, au_10, eq_self, decide_true, decide_false, Bool.true_and, Bool.false_and, M_rowsBefore hb hs c1 hl (show j ≤ 2 ^ (σ.1 b).N by omega)]
        exact hk I' J c1 hf FrM.rf
      · rw [if_neg hr] at hk
        simp (disch := omega) only [aw_istore_3 (pc2 := 6) D190_5 rfl, aw_iload_3 (pc2 := 7) D190_6 rfl, aw_if_ne (pc2 := 10) (t := 31) D190_7 (by decide) rfl, aw_iload_2 (pc2 := 11) D190_10 rfl, aw_i2l (pc2 := 12) D190_11 rfl, aw_lconst (pc2 := 13) (y := 0) D190_12 rfl (by decide), aw_iconst (pc2 := 14) (y := 1) D190_13 rfl (by decide), aw_aload_0 (pc2 := 15) D190_14 rfl, aw_getR (pc2 := 18) (ci := 7) (fk := 0) D190_15 rfl fT_7_7 rfl, aw_iload_1 (pc2 := 19) D190_18 rfl, aw_iaload (pc2 := 20) D190_19 rfl, aw_ishl (pc2 := 21) D190_20 rfl, aw_i2l (pc2 := 22) D190_21 rfl, aw_is3_2 (pc2 := 25) D190_22 rfl cT_7_146 rfl, aw_if_ne (pc2 := 28) (t := 31) D190_25 (by decide) rfl, aw_bipush (pc2 := 30) (y := -3) D190_28 rfl (by decide), aw_istore_3 (pc2 := 31) D190_30 rfl, aw_iload_3 (pc2 := 32) D190_31 rfl, aw_if_eq (pc2 := 35) (t := 43) D190_32 (by decide) rfl, aw_aload_0 (pc2 := 36) D190_35 rfl, aw_iload_3 (pc2 := 37) D190_36 rfl, aw_iv1_0 (pc2 := 40) (o := 7) D190_37 rfl cT_7_154 rfl rfl, aw_goto (t := 49) D190_40 (by decide), aw_iret D190_49 rfl, sh_122, rf_122_0, sh_123, refV_s, refV_n, psh_s, psh_n, kil_i, kil_r, kil_n, kil_l, cat_i, cat_r, iOK_1, iOK_5, jOK_2, jOK_6, wOK_e, lOK_1, lOK_2, lOK_3, lOK_4, lOK_5, lOK_6, catS_0, catS_1, catS_2, catS_3, catS_4, and_self, true_and, and_true, true_or, or_true, false_or, or_false, not_true_eq_false, not_false_eq_true, if_true, if_false, ite_int, ite_int0, au_10, eq_self, decide_true, decide_false, Bool.true_and, Bool.false_and, hh'.1, shl1, M_isIn, M_no3, e0L, fa_wide_le, if_neg hr, au_in, nI_clamp, au_n3]
        exact hk _ J (c1.ref (by omega) (by omega)) (FrM.tr hf (FrM.up (by omega))) FrM.rf
theorem MO_next {x r : Int32} (hs : sgOK σ) (h : MInv σ I) (hk : MPost Ln I J K (oNext σ x r)) : ACall (d + 7) 191 [.ref 122, .int x, .int r] (G0 Ln) I J K := by
  rw [ACall_0 (L0 := [.ref 122, .int x, .int r, nv, nv]) (show mcs 191 = (0, 0) from rfl) (show entL 191 [.ref 122, .int x, .int r] = _ from rfl) rfl (Nat.le_of_ble_eq_true rfl)]
  unfold oNext at hk
  cases hx : bkOf x with
  | none =>
    simp only [hx] at hk
    obtain ⟨x0, x1⟩ := bkOf_none hx
    simp only [aw_aload_0 (pc2 := 1) D191_0 rfl, aw_iload_1 (pc2 := 2) D191_1 rfl, aw_iv1_0 (pc2 := 5) (o := 7) D191_2 rfl cT_7_297 rfl rfl, aw_istore_3 (pc2 := 6) D191_5 rfl, aw_iload_3 (pc2 := 7) D191_6 rfl, aw_if_ne (pc2 := 10) (t := 35) D191_7 (by decide) rfl, aw_iload_3 (pc2 := 36) D191_35 rfl, aw_if_eq (pc2 := 39) (t := 45) D191_36 (by decide) rfl, aw_aload_0 (pc2 := 40) D191_39 rfl, aw_iload_3 (pc2 := 41) D191_40 rfl, aw_iv1_0 (pc2 := 44) (o := 7) D191_41 rfl cT_7_154 rfl rfl, aw_iret D191_44 rfl, sh_122, rf_122_0, sh_123, refV_s, refV_n, psh_s, psh_n, kil_i, kil_r, kil_n, kil_l, cat_i, cat_r, iOK_1, iOK_5, jOK_2, jOK_6, wOK_e, lOK_1, lOK_2, lOK_3, lOK_4, lOK_5, lOK_6, catS_0, catS_1, catS_2, catS_3, catS_4, and_self, true_and, and_true, true_or, or_true, false_or, or_false, not_true_eq_false, not_false_eq_true, if_true, if_false, ite_int, ite_int0, au_10, eq_self, decide_true, decide_false, Bool.true_and, Bool.false_and, M_whyG3 x0 x1, M_no3, au_n3, au_n2]
    exact hk.ref h (by omega) (by omega)
  | some b =>
    simp only [hx] at hk
    obtain ⟨hb, rfl⟩ := bkOf_some hx
    have hh := h.1 b hb
    have hbk := hs.1 b hb
    have hN := hbk.2.1
    obtain ⟨-, -, -, -, -, w6, w7, -⟩ := wN_all (σ.1 b).N (by omega)
    have hg := hh.2.2.2.2.2.2.2
    unfold MGo at hg
    cases e : (σ.1 b).g with
    | none =>
      rw [e] at hg
      simp only [e] at hk
      simp only [aw_aload_0 (pc2 := 1) D191_0 rfl, aw_iload_1 (pc2 := 2) D191_1 rfl, aw_iv1_0 (pc2 := 5) (o := 7) D191_2 rfl cT_7_297 rfl rfl, aw_istore_3 (pc2 := 6) D191_5 rfl, aw_iload_3 (pc2 := 7) D191_6 rfl, aw_if_ne (pc2 := 10) (t := 35) D191_7 (by decide) rfl, aw_iload_3 (pc2 := 36) D191_35 rfl, aw_if_eq (pc2 := 39) (t := 45) D191_36 (by decide) rfl, aw_aload_0 (pc2 := 40) D191_39 rfl, aw_iload_3 (pc2 := 41) D191_40 rfl, aw_iv1_0 (pc2 := 44) (o := 7) D191_41 rfl cT_7_154 rfl rfl, aw_iret D191_44 rfl, sh_122, rf_122_0, sh_123, refV_s, refV_n, psh_s, psh_n, kil_i, kil_r, kil_n, kil_l, cat_i, cat_r, iOK_1, iOK_5, jOK_2, jOK_6, wOK_e, lOK_1, lOK_2, lOK_3, lOK_4, lOK_5, lOK_6, catS_0, catS_1, catS_2, catS_3, catS_4, and_self, true_and, and_true, true_or, or_true, false_or, or_false, not_true_eq_false, not_false_eq_true, if_true, if_false, ite_int, ite_int0, au_10, eq_self, decide_true, decide_false, Bool.true_and, Bool.false_and, M_whyG2 hb hg, M_no2, au_n3, au_n2]
      exact hk.ref h (by omega) (by omega)
    | some g =>
      rw [e] at hg
      simp only [e] at hk
      have hgo := gr_get hs hb e
      simp only [aw_aload_0 (pc2 := 1) D191_0 rfl, aw_iload_1 (pc2 := 2) D191_1 rfl, aw_iv1_0 (pc2 := 5) (o := 7) D191_2 rfl cT_7_297 rfl rfl, sh_122, rf_122_0, sh_123, refV_s, refV_n, psh_s, psh_n, kil_i, kil_r, kil_n, kil_l, cat_i, cat_r, iOK_1, iOK_5, jOK_2, jOK_6, wOK_e, lOK_1, lOK_2, lOK_3, lOK_4, lOK_5, lOK_6, catS_0, catS_1, catS_2, catS_3, catS_4, and_self, true_and, and_true, true_or, or_true, false_or, or_false, not_true_eq_false, not_false_eq_true, if_true, if_false, ite_int, ite_int0, au_10, eq_self, decide_true, decide_false, Bool.true_and, Bool.false_and]
      refine M_whyG hb hs h e (fun I' c1 f1 hl => ?_)
      have hf : FrM I I' := fun c hc => f1 c (by omega) (by omega) (by omega)
      have hh' := c1.1 b hb
      have eL : (-1 : Int64) = (-1 : Int32).toInt64 := by decide
      have e1 : (-1 : Int32).toInt = -1 := by decide
      have e0 : (0 : Int32).toInt = 0 := by decide
      have hsub : nI (2 ^ (σ.1 b).N) - 1 = nI (2 ^ (σ.1 b).N - 1) := au_sub1 w7
      have key : ∀ n i v, i + n = 2 ^ (σ.1 b).N → kil v = v → (K (some (.int (scan (rowT (σ.1 b) g) n i))) (G0 Ln) I' J) → AW (d + 6) ((G0 Ln).1, (G0 Ln).2.1) K 191 50 [.ref 122, .int (nI b), .int r, v, .int (nI i)] [] (G0 Ln) I' J := by
        intro n
        induction n with
        | zero =>
          intro i v hi hv hK
          have ei : i = 2 ^ (σ.1 b).N := by omega
          rw [ei]
          simp (disch := omega) only [aw_iload_4 (pc2 := 52) D191_50 rfl, aw_iconst (pc2 := 53) (y := 1) D191_52 rfl (by decide), aw_aload_0 (pc2 := 54) D191_53 rfl, aw_getR (pc2 := 57) (ci := 7) (fk := 0) D191_54 rfl fT_7_7 rfl, aw_iload_1 (pc2 := 58) D191_57 rfl, aw_iaload (pc2 := 59) D191_58 rfl, aw_ishl (pc2 := 60) D191_59 rfl, aw_icmp_ge (pc2 := 63) (t := 82) D191_60 (by decide) rfl, aw_iconst (pc2 := 83) (y := -1) D191_82 rfl (by decide), aw_iret D191_83 rfl, sh_122, rf_122_0, sh_123, refV_s, refV_n, psh_s, psh_n, kil_i, kil_r, kil_n, kil_l, cat_i, cat_r, iOK_1, iOK_5, jOK_2, jOK_6, wOK_e, lOK_1, lOK_2, lOK_3, lOK_4, lOK_5, lOK_6, catS_0, catS_1, catS_2, catS_3, catS_4, and_self, true_and, and_true, true_or, or_true, false_or, or_false, not_true_eq_false, not_false_eq_true, if_true, if_false, ite_int, ite_int0, au_10, eq_self, decide_true, decide_false, Bool.true_and, Bool.false_and, au_in, au_le, au_lt, au_eq, au_lt0, au_ge0, au_le0, au_gt0, au_eq0, au_leT, au_leF, au_ltT, au_ltF, au_eqT, au_eqF, nI_clamp, nI_1, nI_add, pk_mul, au_sub1, au_subc, au_up2e, au_up2n, lit_of, hh'.1, shl1]
          exact hK
        | succ n ih =>
          intro i v hi hv hK
          rw [scan] at hK
          have ihn := ih (i + 1) v (by omega) hv
          rw [aw_iload_4 (pc2 := 52) D191_50 rfl]
          simp (disch := omega) only [aw_iconst (pc2 := 53) (y := 1) D191_52 rfl (by decide), aw_aload_0 (pc2 := 54) D191_53 rfl, aw_getR (pc2 := 57) (ci := 7) (fk := 0) D191_54 rfl fT_7_7 rfl, aw_iload_1 (pc2 := 58) D191_57 rfl, aw_iaload (pc2 := 59) D191_58 rfl, aw_ishl (pc2 := 60) D191_59 rfl, aw_icmp_ge (pc2 := 63) (t := 82) D191_60 (by decide) rfl, aw_aload_0 (pc2 := 64) D191_63 rfl, aw_iload_1 (pc2 := 65) D191_64 rfl, aw_iload_4 (pc2 := 67) D191_65 rfl, aw_iv2_0 (pc2 := 70) (o := 7) D191_67 rfl cT_7_294 rfl rfl, aw_if_eq (pc2 := 73) (t := 76) D191_70 (by decide) rfl, sh_122, rf_122_0, sh_123, refV_s, refV_n, psh_s, psh_n, kil_i, kil_r, kil_n, kil_l, cat_i, cat_r, iOK_1, iOK_5, jOK_2, jOK_6, wOK_e, lOK_1, lOK_2, lOK_3, lOK_4, lOK_5, lOK_6, catS_0, catS_1, catS_2, catS_3, catS_4, and_self, true_and, and_true, true_or, or_true, false_or, or_false, not_true_eq_false, not_false_eq_true, if_true, if_false, ite_int, ite_int0, au_10, eq_self, decide_true, decide_false, Bool.true_and, Bool.false_and, au_in, au_le, au_lt, au_eq, au_lt0, au_ge0, au_le0, au_gt0, au_eq0, au_leT, au_leF, au_ltT, au_ltF, au_eqT, au_eqF, nI_clamp, nI_1, nI_add, pk_mul, au_sub1, au_subc, au_up2e, au_up2n, lit_of, hh'.1, shl1, M_isRow hb hs c1 hl (show i < 2 ^ (σ.1 b).N by omega), bI_0]
          cases t : rowT (σ.1 b) g i
          · rw [t, if_neg (by decide)] at hK
            rw [if_pos rfl]
            simp (disch := omega) only [aw_iinc_4 (pc2 := 79) (y := 1) D191_76 rfl (by decide), aw_goto (t := 50) D191_79 (by decide), sh_122, rf_122_0, sh_123, refV_s, refV_n, psh_s, psh_n, kil_i, kil_r, kil_n, kil_l, cat_i, cat_r, iOK_1, iOK_5, jOK_2, jOK_6, wOK_e, lOK_1, lOK_2, lOK_3, lOK_4, lOK_5, lOK_6, catS_0, catS_1, catS_2, catS_3, catS_4, and_self, true_and, and_true, true_or, or_true, false_or, or_false, not_true_eq_false, not_false_eq_true, if_true, if_false, ite_int, ite_int0, au_10, eq_self, decide_true, decide_false, Bool.true_and, Bool.false_and, au_in, au_le, au_lt, au_eq, au_lt0, au_ge0, au_le0, au_gt0, au_eq0, au_leT, au_leF, au_ltT, au_ltF, au_eqT, au_eqF, nI_clamp, nI_1, nI_add, pk_mul, au_sub1, au_subc, au_up2e, au_up2n, lit_of, hv]
            exact ihn hK
          · rw [t, if_pos rfl] at hK
            rw [if_neg (by decide)]
            simp (disch := omega) only [aw_iload_4 (pc2 := 75) D191_73 rfl, aw_iret D191_75 rfl, sh_122, rf_122_0, sh_123, refV_s, refV_n, psh_s, psh_n, kil_i, kil_r, kil_n, kil_l, cat_i, cat_r, iOK_1, iOK_5, jOK_2, jOK_6, wOK_e, lOK_1, lOK_2, lOK_3, lOK_4, lOK_5, lOK_6, catS_0, catS_1, catS_2, catS_3, catS_4, and_self, true_and, and_true, true_or, or_true, false_or, or_false, not_true_eq_false, not_false_eq_true, if_true, if_false, ite_int, ite_int0, au_10, eq_self, decide_true, decide_false, Bool.true_and, Bool.false_and, au_in, au_le, au_lt, au_eq, au_lt0, au_ge0, au_le0, au_gt0, au_eq0, au_leT, au_leF, au_ltT, au_ltF, au_eqT, au_eqF, nI_clamp, nI_1, nI_add, pk_mul, au_sub1, au_subc, au_up2e, au_up2n, lit_of]
            exact hK
      by_cases hm : r = -1
      · rw [if_pos hm] at hk
        subst hm
        have hc : (-1 : Int32) ≤ -1 ∧ (-1 : Int32) ≤ nI (2 ^ (σ.1 b).N - 1) := ⟨by decide, by rw [fa_le, e1, nI_toInt (by omega)]; omega⟩
        have l3 : (-1 : Int32) + 1 = nI 0 := by decide
        simp (disch := omega) only [aw_istore_3 (pc2 := 6) D191_5 rfl, aw_iload_3 (pc2 := 7) D191_6 rfl, aw_if_ne (pc2 := 10) (t := 35) D191_7 (by decide) rfl, aw_iload_2 (pc2 := 11) D191_10 rfl, aw_i2l (pc2 := 12) D191_11 rfl, aw_ldc2_w (pc2 := 15) (v := -1) D191_12 rfl (by decide), aw_iconst (pc2 := 16) (y := 1) D191_15 rfl (by decide), aw_aload_0 (pc2 := 17) D191_16 rfl, aw_getR (pc2 := 20) (ci := 7) (fk := 0) D191_17 rfl fT_7_7 rfl, aw_iload_1 (pc2 := 21) D191_20 rfl, aw_iaload (pc2 := 22) D191_21 rfl, aw_ishl (pc2 := 23) D191_22 rfl, aw_iconst (pc2 := 24) (y := 1) D191_23 rfl (by decide), aw_isub (pc2 := 25) D191_24 rfl, aw_i2l (pc2 := 26) D191_25 rfl, aw_is3_2 (pc2 := 29) D191_26 rfl cT_7_146 rfl, aw_if_ne (pc2 := 32) (t := 35) D191_29 (by decide) rfl, aw_bipush (pc2 := 34) (y := -3) D191_32 rfl (by decide), aw_istore_3 (pc2 := 35) D191_34 rfl, aw_iload_3 (pc2 := 36) D191_35 rfl, aw_if_eq (pc2 := 39) (t := 45) D191_36 (by decide) rfl, aw_aload_0 (pc2 := 40) D191_39 rfl, aw_iload_3 (pc2 := 41) D191_40 rfl, aw_iv1_0 (pc2 := 44) (o := 7) D191_41 rfl cT_7_154 rfl rfl, aw_iret D191_44 rfl, aw_iload_2 (pc2 := 46) D191_45 rfl, aw_iconst (pc2 := 47) (y := 1) D191_46 rfl (by decide), aw_iadd (pc2 := 48) D191_47 rfl, aw_istore_4 (pc2 := 50) D191_48 rfl, sh_122, rf_122_0, sh_123, refV_s, refV_n, psh_s, psh_n, kil_i, kil_r, kil_n, kil_l, cat_i, cat_r, iOK_1, iOK_5, jOK_2, jOK_6, wOK_e, lOK_1, lOK_2, lOK_3, lOK_4, lOK_5, lOK_6, catS_0, catS_1, catS_2, catS_3, catS_4, and_self, true_and, and_true, true_or, or_true, false_or, or_false, not_true_eq_false, not_false_eq_true, if_true, if_false, ite_int, ite_int0, au_10, eq_self, decide_true, decide_false, Bool.true_and, Bool.false_and, hh'.1, shl1, M_isIn, eL, fa_wide_le, hsub, ifT hc, au_in, nI_clamp, l3]
        exact key _ 0 _ (Nat.zero_add _) rfl (hk I' J c1 hf FrM.rf)
      · rw [if_neg hm] at hk
        by_cases hr : 0 ≤ r ∧ r < nI (2 ^ (σ.1 b).N)
        · rw [if_pos hr] at hk
          obtain ⟨j, hj, rfl⟩ := ix_of (by omega) hr
          rw [nI_clamp (by omega)] at hk
          have hc : (-1 : Int32) ≤ nI j ∧ nI j ≤ nI (2 ^ (σ.1 b).N - 1) := ⟨by rw [fa_le, e1, nI_toInt (by omega)]; omega, nI_le (by omega) (by omega)⟩
          simp (disch := omega) only [aw_istore_3 (pc2 := 6) D191_5 rfl, aw_iload_3 (pc2 := 7) D191_6 rfl, aw_if_ne (pc2 := 10) (t := 35) D191_7 (by decide) rfl, aw_iload_2 (pc2 := 11) D191_10 rfl, aw_i2l (pc2 := 12) D191_11 rfl, aw_ldc2_w (pc2 := 15) (v := -1) D191_12 rfl (by decide), aw_iconst (pc2 := 16) (y := 1) D191_15 rfl (by decide), aw_aload_0 (pc2 := 17) D191_16 rfl, aw_getR (pc2 := 20) (ci := 7) (fk := 0) D191_17 rfl fT_7_7 rfl, aw_iload_1 (pc2 := 21) D191_20 rfl, aw_iaload (pc2 := 22) D191_21 rfl, aw_ishl (pc2 := 23) D191_22 rfl, aw_iconst (pc2 := 24) (y := 1) D191_23 rfl (by decide), aw_isub (pc2 := 25) D191_24 rfl, aw_i2l (pc2 := 26) D191_25 rfl, aw_is3_2 (pc2 := 29) D191_26 rfl cT_7_146 rfl, aw_if_ne (pc2 := 32) (t := 35) D191_29 (by decide) rfl, aw_bipush (pc2 := 34) (y := -3) D191_32 rfl (by decide), aw_istore_3 (pc2 := 35) D191_34 rfl, aw_iload_3 (pc2 := 36) D191_35 rfl, aw_if_eq (pc2 := 39) (t := 45) D191_36 (by decide) rfl, aw_aload_0 (pc2 := 40) D191_39 rfl, aw_iload_3 (pc2 := 41) D191_40 rfl, aw_iv1_0 (pc2 := 44) (o := 7) D191_41 rfl cT_7_154 rfl rfl, aw_iret D191_44 rfl, aw_iload_2 (pc2 := 46) D191_45 rfl, aw_iconst (pc2 := 47) (y := 1) D191_46 rfl (by decide), aw_iadd (pc2 := 48) D191_47 rfl, aw_istore_4 (pc2 := 50) D191_48 rfl, sh_122, rf_122_0, sh_123, refV_s, refV_n, psh_s, psh_n, kil_i, kil_r, kil_n, kil_l, cat_i, cat_r, iOK_1, iOK_5, jOK_2, jOK_6, wOK_e, lOK_1, lOK_2, lOK_3, lOK_4, lOK_5, lOK_6, catS_0, catS_1, catS_2, catS_3, catS_4, and_self, true_and, and_true, true_or, or_true, false_or, or_false, not_true_eq_false, not_false_eq_true, if_true, if_false, ite_int, ite_int0, au_10, eq_self, decide_true, decide_false, Bool.true_and, Bool.false_and, hh'.1, shl1, M_isIn, eL, fa_wide_le, hsub, ifT hc, au_in, nI_clamp, nI_1]
          exact key _ (j + 1) _ (by omega) rfl (hk I' J c1 hf FrM.rf)
        · rw [if_neg hr] at hk
          have hc : ¬ ((-1 : Int32) ≤ r ∧ r ≤ nI (2 ^ (σ.1 b).N - 1)) := by
            rintro ⟨q1, q2⟩
            rw [fa_le, e1] at q1
            rw [fa_le, nI_toInt (by omega)] at q2
            have : r.toInt ≠ -1 := fun q => hm (by rw [fa_eq, q, e1])
            refine hr ⟨by rw [fa_le, e0]; omega, by rw [fa_lt, nI_toInt (by omega)]; omega⟩
          simp (disch := omega) only [aw_istore_3 (pc2 := 6) D191_5 rfl, aw_iload_3 (pc2 := 7) D191_6 rfl, aw_if_ne (pc2 := 10) (t := 35) D191_7 (by decide) rfl, aw_iload_2 (pc2 := 11) D191_10 rfl, aw_i2l (pc2 := 12) D191_11 rfl, aw_ldc2_w (pc2 := 15) (v := -1) D191_12 rfl (by decide), aw_iconst (pc2 := 16) (y := 1) D191_15 rfl (by decide), aw_aload_0 (pc2 := 17) D191_16 rfl, aw_getR (pc2 := 20) (ci := 7) (fk := 0) D191_17 rfl fT_7_7 rfl, aw_iload_1 (pc2 := 21) D191_20 rfl, aw_iaload (pc2 := 22) D191_21 rfl, aw_ishl (pc2 := 23) D191_22 rfl, aw_iconst (pc2 := 24) (y := 1) D191_23 rfl (by decide), aw_isub (pc2 := 25) D191_24 rfl, aw_i2l (pc2 := 26) D191_25 rfl, aw_is3_2 (pc2 := 29) D191_26 rfl cT_7_146 rfl, aw_if_ne (pc2 := 32) (t := 35) D191_29 (by decide) rfl, aw_bipush (pc2 := 34) (y := -3) D191_32 rfl (by decide), aw_istore_3 (pc2 := 35) D191_34 rfl, aw_iload_3 (pc2 := 36) D191_35 rfl, aw_if_eq (pc2 := 39) (t := 45) D191_36 (by decide) rfl, aw_aload_0 (pc2 := 40) D191_39 rfl, aw_iload_3 (pc2 := 41) D191_40 rfl, aw_iv1_0 (pc2 := 44) (o := 7) D191_41 rfl cT_7_154 rfl rfl, aw_iret D191_44 rfl, sh_122, rf_122_0, sh_123, refV_s, refV_n, psh_s, psh_n, kil_i, kil_r, kil_n, kil_l, cat_i, cat_r, iOK_1, iOK_5, jOK_2, jOK_6, wOK_e, lOK_1, lOK_2, lOK_3, lOK_4, lOK_5, lOK_6, catS_0, catS_1, catS_2, catS_3, catS_4, and_self, true_and, and_true, true_or, or_true, false_or, or_false, not_true_eq_false, not_false_eq_true, if_true, if_false, ite_int, ite_int0, au_10, eq_self, decide_true, decide_false, Bool.true_and, Bool.false_and, hh'.1, shl1, M_isIn, M_no3, eL, fa_wide_le, hsub, if_neg hc, au_in, nI_clamp, au_n3]
          exact hk _ J (c1.ref (by omega) (by omega)) (FrM.tr hf (FrM.up (by omega))) FrM.rf
theorem MO_kth {x k : Int32} (hs : sgOK σ) (h : MInv σ I) (hk : MPost Ln I J K (oKth σ x k)) : ACall (d + 7) 189 [.ref 122, .int x, .int k] (G0 Ln) I J K := by
  rw [ACall_0 (L0 := [.ref 122, .int x, .int k, nv, nv, nv]) (show mcs 189 = (0, 0) from rfl) (show entL 189 [.ref 122, .int x, .int k] = _ from rfl) rfl (Nat.le_of_ble_eq_true rfl)]
  unfold oKth at hk
  cases hx : bkOf x with
  | none =>
    simp only [hx] at hk
    obtain ⟨x0, x1⟩ := bkOf_none hx
    simp only [aw_aload_0 (pc2 := 1) D189_0 rfl, aw_iload_1 (pc2 := 2) D189_1 rfl, aw_iv1_0 (pc2 := 5) (o := 7) D189_2 rfl cT_7_297 rfl rfl, aw_istore_3 (pc2 := 6) D189_5 rfl, aw_iload_3 (pc2 := 7) D189_6 rfl, aw_if_ne (pc2 := 10) (t := 17) D189_7 (by decide) rfl, aw_iload_3 (pc2 := 18) D189_17 rfl, aw_if_eq (pc2 := 21) (t := 27) D189_18 (by decide) rfl, aw_aload_0 (pc2 := 22) D189_21 rfl, aw_iload_3 (pc2 := 23) D189_22 rfl, aw_iv1_0 (pc2 := 26) (o := 7) D189_23 rfl cT_7_154 rfl rfl, aw_iret D189_26 rfl, sh_122, rf_122_0, sh_123, refV_s, refV_n, psh_s, psh_n, kil_i, kil_r, kil_n, kil_l, cat_i, cat_r, iOK_1, iOK_5, jOK_2, jOK_6, wOK_e, lOK_1, lOK_2, lOK_3, lOK_4, lOK_5, lOK_6, catS_0, catS_1, catS_2, catS_3, catS_4, and_self, true_and, and_true, true_or, or_true, false_or, or_false, not_true_eq_false, not_false_eq_true, if_true, if_false, ite_int, ite_int0, au_10, eq_self, decide_true, decide_false, Bool.true_and, Bool.false_and, M_whyG3 x0 x1, M_no3, au_n3, au_n2]
    exact hk.ref h (by omega) (by omega)
  | some b =>
    simp only [hx] at hk
    obtain ⟨hb, rfl⟩ := bkOf_some hx
    have hh := h.1 b hb
    have hbk := hs.1 b hb
    have hN := hbk.2.1
    obtain ⟨-, -, -, -, -, w6, w7, -⟩ := wN_all (σ.1 b).N (by omega)
    have hg := hh.2.2.2.2.2.2.2
    unfold MGo at hg
    cases e : (σ.1 b).g with
    | none =>
      rw [e] at hg
      simp only [e] at hk
      simp only [aw_aload_0 (pc2 := 1) D189_0 rfl, aw_iload_1 (pc2 := 2) D189_1 rfl, aw_iv1_0 (pc2 := 5) (o := 7) D189_2 rfl cT_7_297 rfl rfl, aw_istore_3 (pc2 := 6) D189_5 rfl, aw_iload_3 (pc2 := 7) D189_6 rfl, aw_if_ne (pc2 := 10) (t := 17) D189_7 (by decide) rfl, aw_iload_3 (pc2 := 18) D189_17 rfl, aw_if_eq (pc2 := 21) (t := 27) D189_18 (by decide) rfl, aw_aload_0 (pc2 := 22) D189_21 rfl, aw_iload_3 (pc2 := 23) D189_22 rfl, aw_iv1_0 (pc2 := 26) (o := 7) D189_23 rfl cT_7_154 rfl rfl, aw_iret D189_26 rfl, sh_122, rf_122_0, sh_123, refV_s, refV_n, psh_s, psh_n, kil_i, kil_r, kil_n, kil_l, cat_i, cat_r, iOK_1, iOK_5, jOK_2, jOK_6, wOK_e, lOK_1, lOK_2, lOK_3, lOK_4, lOK_5, lOK_6, catS_0, catS_1, catS_2, catS_3, catS_4, and_self, true_and, and_true, true_or, or_true, false_or, or_false, not_true_eq_false, not_false_eq_true, if_true, if_false, ite_int, ite_int0, au_10, eq_self, decide_true, decide_false, Bool.true_and, Bool.false_and, M_whyG2 hb hg, M_no2, au_n3, au_n2]
      exact hk.ref h (by omega) (by omega)
    | some g =>
      rw [e] at hg
      simp only [e] at hk
      have hgo := gr_get hs hb e
      simp only [aw_aload_0 (pc2 := 1) D189_0 rfl, aw_iload_1 (pc2 := 2) D189_1 rfl, aw_iv1_0 (pc2 := 5) (o := 7) D189_2 rfl cT_7_297 rfl rfl, sh_122, rf_122_0, sh_123, refV_s, refV_n, psh_s, psh_n, kil_i, kil_r, kil_n, kil_l, cat_i, cat_r, iOK_1, iOK_5, jOK_2, jOK_6, wOK_e, lOK_1, lOK_2, lOK_3, lOK_4, lOK_5, lOK_6, catS_0, catS_1, catS_2, catS_3, catS_4, and_self, true_and, and_true, true_or, or_true, false_or, or_false, not_true_eq_false, not_false_eq_true, if_true, if_false, ite_int, ite_int0, au_10, eq_self, decide_true, decide_false, Bool.true_and, Bool.false_and]
      refine M_whyG hb hs h e (fun I' c1 f1 hl => ?_)
      have hf : FrM I I' := fun c hc => f1 c (by omega) (by omega) (by omega)
      have hh' := c1.1 b hb
      by_cases hk0 : k < 0
      · rw [if_pos hk0] at hk
        simp only [aw_istore_3 (pc2 := 6) D189_5 rfl, aw_iload_3 (pc2 := 7) D189_6 rfl, aw_if_ne (pc2 := 10) (t := 17) D189_7 (by decide) rfl, aw_iload_2 (pc2 := 11) D189_10 rfl, aw_if_ge (pc2 := 14) (t := 17) D189_11 (by decide) rfl, aw_bipush (pc2 := 16) (y := -4) D189_14 rfl (by decide), aw_istore_3 (pc2 := 17) D189_16 rfl, aw_iload_3 (pc2 := 18) D189_17 rfl, aw_if_eq (pc2 := 21) (t := 27) D189_18 (by decide) rfl, aw_aload_0 (pc2 := 22) D189_21 rfl, aw_iload_3 (pc2 := 23) D189_22 rfl, aw_iv1_0 (pc2 := 26) (o := 7) D189_23 rfl cT_7_154 rfl rfl, aw_iret D189_26 rfl, sh_122, rf_122_0, sh_123, refV_s, refV_n, psh_s, psh_n, kil_i, kil_r, kil_n, kil_l, cat_i, cat_r, iOK_1, iOK_5, jOK_2, jOK_6, wOK_e, lOK_1, lOK_2, lOK_3, lOK_4, lOK_5, lOK_6, catS_0, catS_1, catS_2, catS_3, catS_4, and_self, true_and, and_true, true_or, or_true, false_or, or_false, not_true_eq_false, not_false_eq_true, if_true, if_false, ite_int, ite_int0, au_10, eq_self, decide_true, decide_false, Bool.true_and, Bool.false_and, M_no4, if_neg (fun q : 0 ≤ k => by rw [fa_lt] at hk0; rw [fa_le] at q; omega), au_n4]
        exact hk _ J (c1.ref (by omega) (by omega)) (FrM.tr hf (FrM.up (by omega))) FrM.rf
      · rw [if_neg hk0] at hk
        obtain ⟨k, hkl, rfl⟩ := nI_of hk0
        rw [nI_clamp hkl] at hk
        simp (disch := omega) only [aw_istore_3 (pc2 := 6) D189_5 rfl, aw_iload_3 (pc2 := 7) D189_6 rfl, aw_if_ne (pc2 := 10) (t := 17) D189_7 (by decide) rfl, aw_iload_2 (pc2 := 11) D189_10 rfl, aw_if_ge (pc2 := 14) (t := 17) D189_11 (by decide) rfl, aw_bipush (pc2 := 16) (y := -4) D189_14 rfl (by decide), aw_istore_3 (pc2 := 17) D189_16 rfl, aw_iload_3 (pc2 := 18) D189_17 rfl, aw_if_eq (pc2 := 21) (t := 27) D189_18 (by decide) rfl, aw_aload_0 (pc2 := 22) D189_21 rfl, aw_iload_3 (pc2 := 23) D189_22 rfl, aw_iv1_0 (pc2 := 26) (o := 7) D189_23 rfl cT_7_154 rfl rfl, aw_iret D189_26 rfl, aw_iload_2 (pc2 := 28) D189_27 rfl, aw_istore_4 (pc2 := 30) D189_28 rfl, aw_iconst (pc2 := 31) (y := 0) D189_30 rfl (by decide), aw_istore_5 (pc2 := 33) D189_31 rfl, sh_122, rf_122_0, sh_123, refV_s, refV_n, psh_s, psh_n, kil_i, kil_r, kil_n, kil_l, cat_i, cat_r, iOK_1, iOK_5, jOK_2, jOK_6, wOK_e, lOK_1, lOK_2, lOK_3, lOK_4, lOK_5, lOK_6, catS_0, catS_1, catS_2, catS_3, catS_4, and_self, true_and, and_true, true_or, or_true, false_or, or_false, not_true_eq_false, not_false_eq_true, if_true, if_false, ite_int, ite_int0, au_10, eq_self, decide_true, decide_false, Bool.true_and, Bool.false_and, au_in, au_le, au_lt, au_eq, au_lt0, au_ge0, au_le0, au_gt0, au_eq0, au_leT, au_leF, au_ltT, au_ltF, au_eqT, au_eqF, nI_clamp, nI_1, nI_add, pk_mul, au_sub1, au_subc, au_up2e, au_up2n, lit_of]
        have key : ∀ n i q, i + n = 2 ^ (σ.1 b).N → q < 2 ^ 31 → scanK (rowT (σ.1 b) g) (2 ^ (σ.1 b).N) 0 k = scanK (rowT (σ.1 b) g) n i q → AW (d + 6) ((G0 Ln).1, (G0 Ln).2.1) K 189 33 [.ref 122, .int (nI b), .int (nI k), .int 0, .int (nI q), .int (nI i)] [] (G0 Ln) I' J := by
          intro n
          induction n with
          | zero =>
            intro i q hi hq he
            have ei : i = 2 ^ (σ.1 b).N := by omega
            rw [he, if_pos (show scanK (rowT (σ.1 b) g) 0 i q = -1 from rfl)] at hk
            rw [ei]
            simp (disch := omega) only [aw_iload_5 (pc2 := 35) D189_33 rfl, aw_iconst (pc2 := 36) (y := 1) D189_35 rfl (by decide), aw_aload_0 (pc2 := 37) D189_36 rfl, aw_getR (pc2 := 40) (ci := 7) (fk := 0) D189_37 rfl fT_7_7 rfl, aw_iload_1 (pc2 := 41) D189_40 rfl, aw_iaload (pc2 := 42) D189_41 rfl, aw_ishl (pc2 := 43) D189_42 rfl, aw_icmp_ge (pc2 := 46) (t := 76) D189_43 (by decide) rfl, aw_aload_0 (pc2 := 77) D189_76 rfl, aw_bipush (pc2 := 79) (y := -7) D189_77 rfl (by decide), aw_iv1_0 (pc2 := 82) (o := 7) D189_79 rfl cT_7_154 rfl rfl, aw_iret D189_82 rfl, sh_122, rf_122_0, sh_123, refV_s, refV_n, psh_s, psh_n, kil_i, kil_r, kil_n, kil_l, cat_i, cat_r, iOK_1, iOK_5, jOK_2, jOK_6, wOK_e, lOK_1, lOK_2, lOK_3, lOK_4, lOK_5, lOK_6, catS_0, catS_1, catS_2, catS_3, catS_4, and_self, true_and, and_true, true_or, or_true, false_or, or_false, not_true_eq_false, not_false_eq_true, if_true, if_false, ite_int, ite_int0, au_10, eq_self, decide_true, decide_false, Bool.true_and, Bool.false_and, au_in, au_le, au_lt, au_eq, au_lt0, au_ge0, au_le0, au_gt0, au_eq0, au_leT, au_leF, au_ltT, au_ltF, au_eqT, au_eqF, nI_clamp, nI_1, nI_add, pk_mul, au_sub1, au_subc, au_up2e, au_up2n, lit_of, hh'.1, shl1, M_no7]
            exact hk _ J (c1.ref (by omega) (by omega)) (FrM.tr hf (FrM.up (by omega))) FrM.rf
          | succ n ih =>
            intro i q hi hq he
            rw [scanK] at he
            rw [aw_iload_5 (pc2 := 35) D189_33 rfl]
            simp (disch := omega) only [aw_iconst (pc2 := 36) (y := 1) D189_35 rfl (by decide), aw_aload_0 (pc2 := 37) D189_36 rfl, aw_getR (pc2 := 40) (ci := 7) (fk := 0) D189_37 rfl fT_7_7 rfl, aw_iload_1 (pc2 := 41) D189_40 rfl, aw_iaload (pc2 := 42) D189_41 rfl, aw_ishl (pc2 := 43) D189_42 rfl, aw_icmp_ge (pc2 := 46) (t := 76) D189_43 (by decide) rfl, aw_aload_0 (pc2 := 47) D189_46 rfl, aw_iload_1 (pc2 := 48) D189_47 rfl, aw_iload_5 (pc2 := 50) D189_48 rfl, aw_iv2_0 (pc2 := 53) (o := 7) D189_50 rfl cT_7_294 rfl rfl, aw_if_ne (pc2 := 56) (t := 59) D189_53 (by decide) rfl, sh_122, rf_122_0, sh_123, refV_s, refV_n, psh_s, psh_n, kil_i, kil_r, kil_n, kil_l, cat_i, cat_r, iOK_1, iOK_5, jOK_2, jOK_6, wOK_e, lOK_1, lOK_2, lOK_3, lOK_4, lOK_5, lOK_6, catS_0, catS_1, catS_2, catS_3, catS_4, and_self, true_and, and_true, true_or, or_true, false_or, or_false, not_true_eq_false, not_false_eq_true, if_true, if_false, ite_int, ite_int0, au_10, eq_self, decide_true, decide_false, Bool.true_and, Bool.false_and, au_in, au_le, au_lt, au_eq, au_lt0, au_ge0, au_le0, au_gt0, au_eq0, au_leT, au_leF, au_ltT, au_ltF, au_eqT, au_eqF, nI_clamp, nI_1, nI_add, pk_mul, au_sub1, au_subc, au_up2e, au_up2n, lit_of, hh'.1, shl1, M_isRow hb hs c1 hl (show i < 2 ^ (σ.1 b).N by omega), bI_0]
            cases t : rowT (σ.1 b) g i
            · rw [t, if_neg (by decide)] at he
              rw [if_neg (by decide)]
              simp (disch := omega) only [aw_goto (t := 70) D189_56 (by decide), aw_iinc_5 (pc2 := 73) (y := 1) D189_70 rfl (by decide), aw_goto (t := 33) D189_73 (by decide), sh_122, rf_122_0, sh_123, refV_s, refV_n, psh_s, psh_n, kil_i, kil_r, kil_n, kil_l, cat_i, cat_r, iOK_1, iOK_5, jOK_2, jOK_6, wOK_e, lOK_1, lOK_2, lOK_3, lOK_4, lOK_5, lOK_6, catS_0, catS_1, catS_2, catS_3, catS_4, and_self, true_and, and_true, true_or, or_true, false_or, or_false, not_true_eq_false, not_false_eq_true, if_true, if_false, ite_int, ite_int0, au_10, eq_self, decide_true, decide_false, Bool.true_and, Bool.false_and, au_in, au_le, au_lt, au_eq, au_lt0, au_ge0, au_le0, au_gt0, au_eq0, au_leT, au_leF, au_ltT, au_ltF, au_eqT, au_eqF, nI_clamp, nI_1, nI_add, pk_mul, au_sub1, au_subc, au_up2e, au_up2n, lit_of]
              exact ih (i + 1) q (by omega) hq he
            · rw [t, if_pos rfl] at he
              rw [if_pos (by decide)]
              by_cases hq0 : q = 0
              · rw [if_pos hq0] at he
                subst hq0
                rw [he, if_neg (by rw [au_m1 (show i < 2 ^ 31 by omega)]; exact not_false)] at hk
                simp (disch := omega) only [aw_iload_4 (pc2 := 61) D189_59 rfl, aw_if_ne (pc2 := 64) (t := 67) D189_61 (by decide) rfl, aw_iload_5 (pc2 := 66) D189_64 rfl, aw_iret D189_66 rfl, sh_122, rf_122_0, sh_123, refV_s, refV_n, psh_s, psh_n, kil_i, kil_r, kil_n, kil_l, cat_i, cat_r, iOK_1, iOK_5, jOK_2, jOK_6, wOK_e, lOK_1, lOK_2, lOK_3, lOK_4, lOK_5, lOK_6, catS_0, catS_1, catS_2, catS_3, catS_4, and_self, true_and, and_true, true_or, or_true, false_or, or_false, not_true_eq_false, not_false_eq_true, if_true, if_false, ite_int, ite_int0, au_10, eq_self, decide_true, decide_false, Bool.true_and, Bool.false_and, au_in, au_le, au_lt, au_eq, au_lt0, au_ge0, au_le0, au_gt0, au_eq0, au_leT, au_leF, au_ltT, au_ltF, au_eqT, au_eqF, nI_clamp, nI_1, nI_add, pk_mul, au_sub1, au_subc, au_up2e, au_up2n, lit_of]
                exact hk I' J c1 hf FrM.rf
              · rw [if_neg hq0] at he
                obtain ⟨q', rfl⟩ : ∃ q', q = q' + 1 := ⟨q - 1, by omega⟩
                have em : nI (q' + 1) + -1 = nI q' := pk_m1 q'
                simp (disch := omega) only [aw_iload_4 (pc2 := 61) D189_59 rfl, aw_if_ne (pc2 := 64) (t := 67) D189_61 (by decide) rfl, aw_iinc_4 (pc2 := 70) (y := -1) D189_67 rfl (by decide), aw_iinc_5 (pc2 := 73) (y := 1) D189_70 rfl (by decide), aw_goto (t := 33) D189_73 (by decide), sh_122, rf_122_0, sh_123, refV_s, refV_n, psh_s, psh_n, kil_i, kil_r, kil_n, kil_l, cat_i, cat_r, iOK_1, iOK_5, jOK_2, jOK_6, wOK_e, lOK_1, lOK_2, lOK_3, lOK_4, lOK_5, lOK_6, catS_0, catS_1, catS_2, catS_3, catS_4, and_self, true_and, and_true, true_or, or_true, false_or, or_false, not_true_eq_false, not_false_eq_true, if_true, if_false, ite_int, ite_int0, au_10, eq_self, decide_true, decide_false, Bool.true_and, Bool.false_and, au_in, au_le, au_lt, au_eq, au_lt0, au_ge0, au_le0, au_gt0, au_eq0, au_leT, au_leF, au_ltT, au_ltF, au_eqT, au_eqF, nI_clamp, nI_1, nI_add, pk_mul, au_sub1, au_subc, au_up2e, au_up2n, lit_of, em]
                exact ih (i + 1) q' (by omega) (by omega) he
        exact key (2 ^ (σ.1 b).N) 0 k (by omega) hkl rfl
theorem MO_most {x : Int32} {least : Bool} (hs : sgOK σ) (h : MInv σ I) (hk : MPost Ln I J K (oMost σ x least)) : ACall (d + 7) 192 [.ref 122, .int x, .int (bI least)] (G0 Ln) I J K := by
  rw [ACall_0 (L0 := [.ref 122, .int x, .int (bI least), nv, nv, nv]) (show mcs 192 = (0, 0) from rfl) (show entL 192 [.ref 122, .int x, .int (bI least)] = _ from rfl) rfl (Nat.le_of_ble_eq_true rfl)]
  unfold oMost at hk
  cases hx : bkOf x with
  | none =>
    simp only [hx] at hk
    obtain ⟨x0, x1⟩ := bkOf_none hx
    simp only [aw_aload_0 (pc2 := 1) D192_0 rfl, aw_iload_1 (pc2 := 2) D192_1 rfl, aw_iv1_0 (pc2 := 5) (o := 7) D192_2 rfl cT_7_297 rfl rfl, aw_istore_3 (pc2 := 6) D192_5 rfl, aw_iload_3 (pc2 := 7) D192_6 rfl, aw_if_eq (pc2 := 10) (t := 16) D192_7 (by decide) rfl, aw_aload_0 (pc2 := 11) D192_10 rfl, aw_iload_3 (pc2 := 12) D192_11 rfl, aw_iv1_0 (pc2 := 15) (o := 7) D192_12 rfl cT_7_154 rfl rfl, aw_iret D192_15 rfl, sh_122, rf_122_0, sh_123, refV_s, refV_n, psh_s, psh_n, kil_i, kil_r, kil_n, kil_l, cat_i, cat_r, iOK_1, iOK_5, jOK_2, jOK_6, wOK_e, lOK_1, lOK_2, lOK_3, lOK_4, lOK_5, lOK_6, catS_0, catS_1, catS_2, catS_3, catS_4, and_self, true_and, and_true, true_or, or_true, false_or, or_false, not_true_eq_false, not_false_eq_true, if_true, if_false, ite_int, ite_int0, au_10, eq_self, decide_true, decide_false, Bool.true_and, Bool.false_and, M_whyG3 x0 x1, M_no3, au_n3, au_n2]
    exact hk.ref h (by omega) (by omega)
  | some b =>
    simp only [hx] at hk
    obtain ⟨hb, rfl⟩ := bkOf_some hx
    have hh := h.1 b hb
    have hbk := hs.1 b hb
    have hN := hbk.2.1
    obtain ⟨-, -, -, -, -, w6, w7, -⟩ := wN_all (σ.1 b).N (by omega)
    have hg := hh.2.2.2.2.2.2.2
    unfold MGo at hg
    cases e : (σ.1 b).g with
    | none =>
      rw [e] at hg
      simp only [e] at hk
      simp only [aw_aload_0 (pc2 := 1) D192_0 rfl, aw_iload_1 (pc2 := 2) D192_1 rfl, aw_iv1_0 (pc2 := 5) (o := 7) D192_2 rfl cT_7_297 rfl rfl, aw_istore_3 (pc2 := 6) D192_5 rfl, aw_iload_3 (pc2 := 7) D192_6 rfl, aw_if_eq (pc2 := 10) (t := 16) D192_7 (by decide) rfl, aw_aload_0 (pc2 := 11) D192_10 rfl, aw_iload_3 (pc2 := 12) D192_11 rfl, aw_iv1_0 (pc2 := 15) (o := 7) D192_12 rfl cT_7_154 rfl rfl, aw_iret D192_15 rfl, sh_122, rf_122_0, sh_123, refV_s, refV_n, psh_s, psh_n, kil_i, kil_r, kil_n, kil_l, cat_i, cat_r, iOK_1, iOK_5, jOK_2, jOK_6, wOK_e, lOK_1, lOK_2, lOK_3, lOK_4, lOK_5, lOK_6, catS_0, catS_1, catS_2, catS_3, catS_4, and_self, true_and, and_true, true_or, or_true, false_or, or_false, not_true_eq_false, not_false_eq_true, if_true, if_false, ite_int, ite_int0, au_10, eq_self, decide_true, decide_false, Bool.true_and, Bool.false_and, M_whyG2 hb hg, M_no2, au_n3, au_n2]
      exact hk.ref h (by omega) (by omega)
    | some g =>
      rw [e] at hg
      simp only [e] at hk
      have hgo := gr_get hs hb e
      simp only [aw_aload_0 (pc2 := 1) D192_0 rfl, aw_iload_1 (pc2 := 2) D192_1 rfl, aw_iv1_0 (pc2 := 5) (o := 7) D192_2 rfl cT_7_297 rfl rfl, sh_122, rf_122_0, sh_123, refV_s, refV_n, psh_s, psh_n, kil_i, kil_r, kil_n, kil_l, cat_i, cat_r, iOK_1, iOK_5, jOK_2, jOK_6, wOK_e, lOK_1, lOK_2, lOK_3, lOK_4, lOK_5, lOK_6, catS_0, catS_1, catS_2, catS_3, catS_4, and_self, true_and, and_true, true_or, or_true, false_or, or_false, not_true_eq_false, not_false_eq_true, if_true, if_false, ite_int, ite_int0, au_10, eq_self, decide_true, decide_false, Bool.true_and, Bool.false_and]
      refine M_whyG hb hs h e (fun I' c1 f1 hl => ?_)
      have hf : FrM I I' := fun c hc => f1 c (by omega) (by omega) (by omega)
      have hh' := c1.1 b hb
      simp (disch := omega) only [aw_istore_3 (pc2 := 6) D192_5 rfl, aw_iload_3 (pc2 := 7) D192_6 rfl, aw_if_eq (pc2 := 10) (t := 16) D192_7 (by decide) rfl, aw_iconst (pc2 := 17) (y := -1) D192_16 rfl (by decide), aw_istore_4 (pc2 := 19) D192_17 rfl, aw_iconst (pc2 := 20) (y := 0) D192_19 rfl (by decide), aw_istore_5 (pc2 := 22) D192_20 rfl, sh_122, rf_122_0, sh_123, refV_s, refV_n, psh_s, psh_n, kil_i, kil_r, kil_n, kil_l, cat_i, cat_r, iOK_1, iOK_5, jOK_2, jOK_6, wOK_e, lOK_1, lOK_2, lOK_3, lOK_4, lOK_5, lOK_6, catS_0, catS_1, catS_2, catS_3, catS_4, and_self, true_and, and_true, true_or, or_true, false_or, or_false, not_true_eq_false, not_false_eq_true, if_true, if_false, ite_int, ite_int0, au_10, eq_self, decide_true, decide_false, Bool.true_and, Bool.false_and, au_in, au_le, au_lt, au_eq, au_lt0, au_ge0, au_le0, au_gt0, au_eq0, au_leT, au_leF, au_ltT, au_ltF, au_eqT, au_eqF, nI_clamp, nI_1, nI_add, pk_mul, au_sub1, au_subc, au_up2e, au_up2n, lit_of]
      have key : ∀ n i, i + n = 2 ^ (σ.1 b).N → (∀ m, bst (rowT (σ.1 b) g) (wRow (σ.1 b)) least i = some m → m < i) → AW (d + 6) ((G0 Ln).1, (G0 Ln).2.1) K 192 22 [.ref 122, .int (nI b), .int (bI least), .int 0, .int (bstI (bst (rowT (σ.1 b) g) (wRow (σ.1 b)) least i)), .int (nI i)] [] (G0 Ln) I' J := by
        intro n
        induction n with
        | zero =>
          intro i hi hm
          have ei : i = 2 ^ (σ.1 b).N := by omega
          rw [ei] at hm ⊢
          simp (disch := omega) only [aw_iload_5 (pc2 := 24) D192_22 rfl, aw_iconst (pc2 := 25) (y := 1) D192_24 rfl (by decide), aw_aload_0 (pc2 := 26) D192_25 rfl, aw_getR (pc2 := 29) (ci := 7) (fk := 0) D192_26 rfl fT_7_7 rfl, aw_iload_1 (pc2 := 30) D192_29 rfl, aw_iaload (pc2 := 31) D192_30 rfl, aw_ishl (pc2 := 32) D192_31 rfl, aw_icmp_ge (pc2 := 35) (t := 106) D192_32 (by decide) rfl, aw_iload_4 (pc2 := 108) D192_106 rfl, aw_if_ge (pc2 := 111) (t := 120) D192_108 (by decide) rfl, sh_122, rf_122_0, sh_123, refV_s, refV_n, psh_s, psh_n, kil_i, kil_r, kil_n, kil_l, cat_i, cat_r, iOK_1, iOK_5, jOK_2, jOK_6, wOK_e, lOK_1, lOK_2, lOK_3, lOK_4, lOK_5, lOK_6, catS_0, catS_1, catS_2, catS_3, catS_4, and_self, true_and, and_true, true_or, or_true, false_or, or_false, not_true_eq_false, not_false_eq_true, if_true, if_false, ite_int, ite_int0, au_10, eq_self, decide_true, decide_false, Bool.true_and, Bool.false_and, au_in, au_le, au_lt, au_eq, au_lt0, au_ge0, au_le0, au_gt0, au_eq0, au_leT, au_leF, au_ltT, au_ltF, au_eqT, au_eqF, nI_clamp, nI_1, nI_add, pk_mul, au_sub1, au_subc, au_up2e, au_up2n, lit_of, hh'.1, shl1]
          cases hb2 : bst (rowT (σ.1 b) g) (wRow (σ.1 b)) least (2 ^ (σ.1 b).N) with
          | none =>
            rw [hb2] at hk
            have e2 : bstI none = -1 := rfl
            rw [e2, if_pos rfl] at hk
            simp only [aw_aload_0 (pc2 := 112) D192_111 rfl, aw_bipush (pc2 := 114) (y := -7) D192_112 rfl (by decide), aw_iv1_0 (pc2 := 117) (o := 7) D192_114 rfl cT_7_154 rfl rfl, aw_goto (t := 122) D192_117 (by decide), aw_iload_4 (pc2 := 122) D192_120 rfl, aw_iret D192_122 rfl, sh_122, rf_122_0, sh_123, refV_s, refV_n, psh_s, psh_n, kil_i, kil_r, kil_n, kil_l, cat_i, cat_r, iOK_1, iOK_5, jOK_2, jOK_6, wOK_e, lOK_1, lOK_2, lOK_3, lOK_4, lOK_5, lOK_6, catS_0, catS_1, catS_2, catS_3, catS_4, and_self, true_and, and_true, true_or, or_true, false_or, or_false, not_true_eq_false, not_false_eq_true, if_true, if_false, ite_int, ite_int0, au_10, eq_self, decide_true, decide_false, Bool.true_and, Bool.false_and, e2, M_no7, if_neg (show ¬ (0 : Int32) ≤ -1 by decide)]
            exact hk _ J (c1.ref (by omega) (by omega)) (FrM.tr hf (FrM.up (by omega))) FrM.rf
          | some m =>
            rw [hb2] at hk
            have hml := hm m hb2
            have e2 : bstI (some m) = nI m := rfl
            rw [e2, if_neg (by rw [au_m1 (show m < 2 ^ 31 by omega)]; exact not_false)] at hk
            simp (disch := omega) only [aw_iload_4 (pc2 := 122) D192_120 rfl, aw_iret D192_122 rfl, sh_122, rf_122_0, sh_123, refV_s, refV_n, psh_s, psh_n, kil_i, kil_r, kil_n, kil_l, cat_i, cat_r, iOK_1, iOK_5, jOK_2, jOK_6, wOK_e, lOK_1, lOK_2, lOK_3, lOK_4, lOK_5, lOK_6, catS_0, catS_1, catS_2, catS_3, catS_4, and_self, true_and, and_true, true_or, or_true, false_or, or_false, not_true_eq_false, not_false_eq_true, if_true, if_false, ite_int, ite_int0, au_10, eq_self, decide_true, decide_false, Bool.true_and, Bool.false_and, au_in, au_le, au_lt, au_eq, au_lt0, au_ge0, au_le0, au_gt0, au_eq0, au_leT, au_leF, au_ltT, au_ltF, au_eqT, au_eqF, nI_clamp, nI_1, nI_add, pk_mul, au_sub1, au_subc, au_up2e, au_up2n, lit_of, e2]
            exact hk I' J c1 hf FrM.rf
        | succ n ih =>
          intro i hi hm
          have ihn := ih (i + 1) (by omega)
          have hwi := wRow_lt63 hbk i
          have hm' : ∀ m, bst (rowT (σ.1 b) g) (wRow (σ.1 b)) least (i + 1) = some m → m < i + 1 := by
            intro m hq
            rw [bst] at hq
            split at hq
            · split at hq
              · cases hq; omega
              · rename_i m' e'
                have := hm m' e'
                by_cases q : (if least then wRow (σ.1 b) i < wRow (σ.1 b) m' else wRow (σ.1 b) m' < wRow (σ.1 b) i)
                · rw [if_pos q] at hq; cases hq; omega
                · rw [if_neg q] at hq; cases hq; omega
            · have := hm m hq; omega
          have ihn := ihn hm'
          rw [aw_iload_5 (pc2 := 24) D192_22 rfl]
          simp (disch := omega) only [aw_iconst (pc2 := 25) (y := 1) D192_24 rfl (by decide), aw_aload_0 (pc2 := 26) D192_25 rfl, aw_getR (pc2 := 29) (ci := 7) (fk := 0) D192_26 rfl fT_7_7 rfl, aw_iload_1 (pc2 := 30) D192_29 rfl, aw_iaload (pc2 := 31) D192_30 rfl, aw_ishl (pc2 := 32) D192_31 rfl, aw_icmp_ge (pc2 := 35) (t := 106) D192_32 (by decide) rfl, aw_aload_0 (pc2 := 36) D192_35 rfl, aw_iload_1 (pc2 := 37) D192_36 rfl, aw_iload_5 (pc2 := 39) D192_37 rfl, aw_iv2_0 (pc2 := 42) (o := 7) D192_39 rfl cT_7_294 rfl rfl, aw_if_ne (pc2 := 45) (t := 48) D192_42 (by decide) rfl, sh_122, rf_122_0, sh_123, refV_s, refV_n, psh_s, psh_n, kil_i, kil_r, kil_n, kil_l, cat_i, cat_r, iOK_1, iOK_5, jOK_2, jOK_6, wOK_e, lOK_1, lOK_2, lOK_3, lOK_4, lOK_5, lOK_6, catS_0, catS_1, catS_2, catS_3, catS_4, and_self, true_and, and_true, true_or, or_true, false_or, or_false, not_true_eq_false, not_false_eq_true, if_true, if_false, ite_int, ite_int0, au_10, eq_self, decide_true, decide_false, Bool.true_and, Bool.false_and, au_in, au_le, au_lt, au_eq, au_lt0, au_ge0, au_le0, au_gt0, au_eq0, au_leT, au_leF, au_ltT, au_ltF, au_eqT, au_eqF, nI_clamp, nI_1, nI_add, pk_mul, au_sub1, au_subc, au_up2e, au_up2n, lit_of, hh'.1, shl1, M_isRow hb hs c1 hl (show i < 2 ^ (σ.1 b).N by omega), bI_0]
          cases t : rowT (σ.1 b) g i
          · rw [bst, t, if_neg (by decide)] at ihn
            rw [if_neg (by decide)]
            simp (disch := omega) only [aw_goto (t := 100) D192_45 (by decide), aw_iinc_5 (pc2 := 103) (y := 1) D192_100 rfl (by decide), aw_goto (t := 22) D192_103 (by decide), sh_122, rf_122_0, sh_123, refV_s, refV_n, psh_s, psh_n, kil_i, kil_r, kil_n, kil_l, cat_i, cat_r, iOK_1, iOK_5, jOK_2, jOK_6, wOK_e, lOK_1, lOK_2, lOK_3, lOK_4, lOK_5, lOK_6, catS_0, catS_1, catS_2, catS_3, catS_4, and_self, true_and, and_true, true_or, or_true, false_or, or_false, not_true_eq_false, not_false_eq_true, if_true, if_false, ite_int, ite_int0, au_10, eq_self, decide_true, decide_false, Bool.true_and, Bool.false_and, au_in, au_le, au_lt, au_eq, au_lt0, au_ge0, au_le0, au_gt0, au_eq0, au_leT, au_leF, au_ltT, au_ltF, au_eqT, au_eqF, nI_clamp, nI_1, nI_add, pk_mul, au_sub1, au_subc, au_up2e, au_up2n, lit_of]
            exact ihn
          · rw [bst, t, if_pos rfl] at ihn
            rw [if_pos (by decide)]
            cases hb2 : bst (rowT (σ.1 b) g) (wRow (σ.1 b)) least i with
            | none =>
              rw [hb2] at ihn
              have e2 : bstI none = -1 := rfl
              simp only [aw_iload_4 (pc2 := 50) D192_48 rfl, aw_if_lt (pc2 := 53) (t := 96) D192_50 (by decide) rfl, aw_iload_5 (pc2 := 98) D192_96 rfl, aw_istore_4 (pc2 := 100) D192_98 rfl, sh_122, rf_122_0, sh_123, refV_s, refV_n, psh_s, psh_n, kil_i, kil_r, kil_n, kil_l, cat_i, cat_r, iOK_1, iOK_5, jOK_2, jOK_6, wOK_e, lOK_1, lOK_2, lOK_3, lOK_4, lOK_5, lOK_6, catS_0, catS_1, catS_2, catS_3, catS_4, and_self, true_and, and_true, true_or, or_true, false_or, or_false, not_true_eq_false, not_false_eq_true, if_true, if_false, ite_int, ite_int0, au_10, eq_self, decide_true, decide_false, Bool.true_and, Bool.false_and, e2, if_pos (show (-1 : Int32) < 0 by decide)]
              simp (disch := omega) only [aw_iinc_5 (pc2 := 103) (y := 1) D192_100 rfl (by decide), aw_goto (t := 22) D192_103 (by decide), sh_122, rf_122_0, sh_123, refV_s, refV_n, psh_s, psh_n, kil_i, kil_r, kil_n, kil_l, cat_i, cat_r, iOK_1, iOK_5, jOK_2, jOK_6, wOK_e, lOK_1, lOK_2, lOK_3, lOK_4, lOK_5, lOK_6, catS_0, catS_1, catS_2, catS_3, catS_4, and_self, true_and, and_true, true_or, or_true, false_or, or_false, not_true_eq_false, not_false_eq_true, if_true, if_false, ite_int, ite_int0, au_10, eq_self, decide_true, decide_false, Bool.true_and, Bool.false_and, au_in, au_le, au_lt, au_eq, au_lt0, au_ge0, au_le0, au_gt0, au_eq0, au_leT, au_leF, au_ltT, au_ltF, au_eqT, au_eqF, nI_clamp, nI_1, nI_add, pk_mul, au_sub1, au_subc, au_up2e, au_up2n, lit_of]
              exact ihn
            | some m =>
              rw [hb2] at ihn
              have hml := hm m hb2
              have hwm := wRow_lt63 hbk m
              have e2 : bstI (some m) = nI m := rfl
              dsimp only at ihn
              cases least
              · have e0 : bI false = 0 := rfl
                simp (disch := omega) only [aw_iload_4 (pc2 := 50) D192_48 rfl, aw_if_lt (pc2 := 53) (t := 96) D192_50 (by decide) rfl, aw_iload_2 (pc2 := 54) D192_53 rfl, aw_if_eq (pc2 := 57) (t := 78) D192_54 (by decide) rfl, aw_aload_0 (pc2 := 79) D192_78 rfl, aw_iload_1 (pc2 := 80) D192_79 rfl, aw_iload_5 (pc2 := 82) D192_80 rfl, aw_iv2_0 (pc2 := 85) (o := 7) D192_82 rfl cT_7_303 rfl rfl, aw_aload_0 (pc2 := 86) D192_85 rfl, aw_iload_1 (pc2 := 87) D192_86 rfl, aw_iload_4 (pc2 := 89) D192_87 rfl, aw_iv2_0 (pc2 := 92) (o := 7) D192_89 rfl cT_7_303 rfl rfl, aw_lcmp (pc2 := 93) D192_92 rfl, aw_if_le (pc2 := 96) (t := 100) D192_93 (by decide) rfl, sh_122, rf_122_0, sh_123, refV_s, refV_n, psh_s, psh_n, kil_i, kil_r, kil_n, kil_l, cat_i, cat_r, iOK_1, iOK_5, jOK_2, jOK_6, wOK_e, lOK_1, lOK_2, lOK_3, lOK_4, lOK_5, lOK_6, catS_0, catS_1, catS_2, catS_3, catS_4, and_self, true_and, and_true, true_or, or_true, false_or, or_false, not_true_eq_false, not_false_eq_true, if_true, if_false, ite_int, ite_int0, au_10, eq_self, decide_true, decide_false, Bool.true_and, Bool.false_and, au_in, au_le, au_lt, au_eq, au_lt0, au_ge0, au_le0, au_gt0, au_eq0, au_leT, au_leF, au_ltT, au_ltF, au_eqT, au_eqF, nI_clamp, nI_1, nI_add, pk_mul, au_sub1, au_subc, au_up2e, au_up2n, lit_of, e2, e0, M_weightOf hb hs c1 (show i < 2 ^ 31 by omega), M_weightOf hb hs c1 (show m < 2 ^ 31 by omega), lg_cmp_le, pk_lLE hwi hwm]
                by_cases q : wRow (σ.1 b) i ≤ wRow (σ.1 b) m
                · rw [if_pos q]
                  rw [if_neg (by simp; omega)] at ihn
                  simp (disch := omega) only [aw_iinc_5 (pc2 := 103) (y := 1) D192_100 rfl (by decide), aw_goto (t := 22) D192_103 (by decide), sh_122, rf_122_0, sh_123, refV_s, refV_n, psh_s, psh_n, kil_i, kil_r, kil_n, kil_l, cat_i, cat_r, iOK_1, iOK_5, jOK_2, jOK_6, wOK_e, lOK_1, lOK_2, lOK_3, lOK_4, lOK_5, lOK_6, catS_0, catS_1, catS_2, catS_3, catS_4, and_self, true_and, and_true, true_or, or_true, false_or, or_false, not_true_eq_false, not_false_eq_true, if_true, if_false, ite_int, ite_int0, au_10, eq_self, decide_true, decide_false, Bool.true_and, Bool.false_and, au_in, au_le, au_lt, au_eq, au_lt0, au_ge0, au_le0, au_gt0, au_eq0, au_leT, au_leF, au_ltT, au_ltF, au_eqT, au_eqF, nI_clamp, nI_1, nI_add, pk_mul, au_sub1, au_subc, au_up2e, au_up2n, lit_of]
                  exact ihn
                · rw [if_neg q]
                  rw [if_pos (by simp; omega)] at ihn
                  simp (disch := omega) only [aw_iload_5 (pc2 := 98) D192_96 rfl, aw_istore_4 (pc2 := 100) D192_98 rfl, aw_iinc_5 (pc2 := 103) (y := 1) D192_100 rfl (by decide), aw_goto (t := 22) D192_103 (by decide), sh_122, rf_122_0, sh_123, refV_s, refV_n, psh_s, psh_n, kil_i, kil_r, kil_n, kil_l, cat_i, cat_r, iOK_1, iOK_5, jOK_2, jOK_6, wOK_e, lOK_1, lOK_2, lOK_3, lOK_4, lOK_5, lOK_6, catS_0, catS_1, catS_2, catS_3, catS_4, and_self, true_and, and_true, true_or, or_true, false_or, or_false, not_true_eq_false, not_false_eq_true, if_true, if_false, ite_int, ite_int0, au_10, eq_self, decide_true, decide_false, Bool.true_and, Bool.false_and, au_in, au_le, au_lt, au_eq, au_lt0, au_ge0, au_le0, au_gt0, au_eq0, au_leT, au_leF, au_ltT, au_ltF, au_eqT, au_eqF, nI_clamp, nI_1, nI_add, pk_mul, au_sub1, au_subc, au_up2e, au_up2n, lit_of]
                  exact ihn
              · have e0 : bI true = 1 := rfl
                simp (disch := omega) only [aw_iload_4 (pc2 := 50) D192_48 rfl, aw_if_lt (pc2 := 53) (t := 96) D192_50 (by decide) rfl, aw_iload_2 (pc2 := 54) D192_53 rfl, aw_if_eq (pc2 := 57) (t := 78) D192_54 (by decide) rfl, aw_aload_0 (pc2 := 58) D192_57 rfl, aw_iload_1 (pc2 := 59) D192_58 rfl, aw_iload_5 (pc2 := 61) D192_59 rfl, aw_iv2_0 (pc2 := 64) (o := 7) D192_61 rfl cT_7_303 rfl rfl, aw_aload_0 (pc2 := 65) D192_64 rfl, aw_iload_1 (pc2 := 66) D192_65 rfl, aw_iload_4 (pc2 := 68) D192_66 rfl, aw_iv2_0 (pc2 := 71) (o := 7) D192_68 rfl cT_7_303 rfl rfl, aw_lcmp (pc2 := 72) D192_71 rfl, aw_if_ge (pc2 := 75) (t := 100) D192_72 (by decide) rfl, aw_goto (t := 96) D192_75 (by decide), sh_122, rf_122_0, sh_123, refV_s, refV_n, psh_s, psh_n, kil_i, kil_r, kil_n, kil_l, cat_i, cat_r, iOK_1, iOK_5, jOK_2, jOK_6, wOK_e, lOK_1, lOK_2, lOK_3, lOK_4, lOK_5, lOK_6, catS_0, catS_1, catS_2, catS_3, catS_4, and_self, true_and, and_true, true_or, or_true, false_or, or_false, not_true_eq_false, not_false_eq_true, if_true, if_false, ite_int, ite_int0, au_10, eq_self, decide_true, decide_false, Bool.true_and, Bool.false_and, au_in, au_le, au_lt, au_eq, au_lt0, au_ge0, au_le0, au_gt0, au_eq0, au_leT, au_leF, au_ltT, au_ltF, au_eqT, au_eqF, nI_clamp, nI_1, nI_add, pk_mul, au_sub1, au_subc, au_up2e, au_up2n, lit_of, e2, e0, M_weightOf hb hs c1 (show i < 2 ^ 31 by omega), M_weightOf hb hs c1 (show m < 2 ^ 31 by omega), lg_cmp_ge, pk_lLE hwm hwi]
                by_cases q : wRow (σ.1 b) m ≤ wRow (σ.1 b) i
                · rw [if_pos q]
                  rw [if_neg (by simp; omega)] at ihn
                  simp (disch := omega) only [aw_iinc_5 (pc2 := 103) (y := 1) D192_100 rfl (by decide), aw_goto (t := 22) D192_103 (by decide), sh_122, rf_122_0, sh_123, refV_s, refV_n, psh_s, psh_n, kil_i, kil_r, kil_n, kil_l, cat_i, cat_r, iOK_1, iOK_5, jOK_2, jOK_6, wOK_e, lOK_1, lOK_2, lOK_3, lOK_4, lOK_5, lOK_6, catS_0, catS_1, catS_2, catS_3, catS_4, and_self, true_and, and_true, true_or, or_true, false_or, or_false, not_true_eq_false, not_false_eq_true, if_true, if_false, ite_int, ite_int0, au_10, eq_self, decide_true, decide_false, Bool.true_and, Bool.false_and, au_in, au_le, au_lt, au_eq, au_lt0, au_ge0, au_le0, au_gt0, au_eq0, au_leT, au_leF, au_ltT, au_ltF, au_eqT, au_eqF, nI_clamp, nI_1, nI_add, pk_mul, au_sub1, au_subc, au_up2e, au_up2n, lit_of]
                  exact ihn
                · rw [if_neg q]
                  rw [if_pos (by simp; omega)] at ihn
                  simp (disch := omega) only [aw_iload_5 (pc2 := 98) D192_96 rfl, aw_istore_4 (pc2 := 100) D192_98 rfl, aw_iinc_5 (pc2 := 103) (y := 1) D192_100 rfl (by decide), aw_goto (t := 22) D192_103 (by decide), sh_122, rf_122_0, sh_123, refV_s, refV_n, psh_s, psh_n, kil_i, kil_r, kil_n, kil_l, cat_i, cat_r, iOK_1, iOK_5, jOK_2, jOK_6, wOK_e, lOK_1, lOK_2, lOK_3, lOK_4, lOK_5, lOK_6, catS_0, catS_1, catS_2, catS_3, catS_4, and_self, true_and, and_true, true_or, or_true, false_or, or_false, not_true_eq_false, not_false_eq_true, if_true, if_false, ite_int, ite_int0, au_10, eq_self, decide_true, decide_false, Bool.true_and, Bool.false_and, au_in, au_le, au_lt, au_eq, au_lt0, au_ge0, au_le0, au_gt0, au_eq0, au_leT, au_leF, au_ltT, au_ltF, au_eqT, au_eqF, nI_clamp, nI_1, nI_add, pk_mul, au_sub1, au_subc, au_up2e, au_up2n, lit_of]
                  exact ihn
      exact key (2 ^ (σ.1 b).N) 0 (by omega) (fun m hq => by cases hq)
end OpsME
