section OpsMF
variable {d Ln : Nat} {I : IT} {J : JT} {K : KT} {σ : SG}
theorem MO_sum {x : Int32} (hs : sgOK σ) (h : MInv σ I) (hk : MPost Ln I J K (oSum σ x)) : ACall (d + 7) 186 [.ref 122, .int x] (G0 Ln) I J K := by
  rw [ACall_0 (L0 := [.ref 122, .int x, nv, nv]) (show mcs 186 = (0, 0) from rfl) (show entL 186 [.ref 122, .int x] = _ from rfl) rfl (Nat.le_of_ble_eq_true rfl)]
  unfold oSum at hk
  cases hx : bkOf x with
  | none =>
    simp only [hx] at hk
    obtain ⟨x0, x1⟩ := bkOf_none hx
    simp only [aw_aload_0 (pc2 := 1) D186_0 rfl, aw_iload_1 (pc2 := 2) D186_1 rfl, aw_iv1_0 (pc2 := 5) (o := 7) D186_2 rfl cT_7_297 rfl rfl, aw_istore_2 (pc2 := 6) D186_5 rfl, aw_iload_2 (pc2 := 7) D186_6 rfl, aw_if_ne (pc2 := 10) (t := 17) D186_7 (by decide) rfl, aw_aload_0 (pc2 := 18) D186_17 rfl, aw_iload_2 (pc2 := 19) D186_18 rfl, aw_iv1_0 (pc2 := 22) (o := 7) D186_19 rfl cT_7_154 rfl rfl, aw_istore_3 (pc2 := 23) D186_22 rfl, aw_lconst (pc2 := 24) (y := 0) D186_23 rfl (by decide), aw_lret D186_24 rfl, sh_122, refV_s, refV_n, psh_s, psh_n, kil_i, kil_r, kil_n, kil_l, cat_i, cat_r, iOK_1, iOK_5, jOK_2, jOK_6, wOK_e, lOK_1, lOK_2, lOK_3, lOK_4, lOK_5, lOK_6, catS_0, catS_1, catS_2, catS_3, catS_4, and_self, true_and, and_true, true_or, or_true, false_or, or_false, not_true_eq_false, not_false_eq_true, if_true, if_false, ite_int, ite_int0, au_10, eq_self, decide_true, decide_false, Bool.true_and, Bool.false_and, M_whyG3 x0 x1, M_no3, au_n3]
    exact hk.ref h (by omega) (by omega)
  | some b =>
    simp only [hx] at hk
    obtain ⟨hb, rfl⟩ := bkOf_some hx
    have hg := (h.1 b hb).2.2.2.2.2.2.2
    unfold MGo at hg
    cases e : (σ.1 b).g with
    | none =>
      rw [e] at hg
      simp only [e] at hk
      simp only [aw_aload_0 (pc2 := 1) D186_0 rfl, aw_iload_1 (pc2 := 2) D186_1 rfl, aw_iv1_0 (pc2 := 5) (o := 7) D186_2 rfl cT_7_297 rfl rfl, aw_istore_2 (pc2 := 6) D186_5 rfl, aw_iload_2 (pc2 := 7) D186_6 rfl, aw_if_ne (pc2 := 10) (t := 17) D186_7 (by decide) rfl, aw_aload_0 (pc2 := 18) D186_17 rfl, aw_iload_2 (pc2 := 19) D186_18 rfl, aw_iv1_0 (pc2 := 22) (o := 7) D186_19 rfl cT_7_154 rfl rfl, aw_istore_3 (pc2 := 23) D186_22 rfl, aw_lconst (pc2 := 24) (y := 0) D186_23 rfl (by decide), aw_lret D186_24 rfl, sh_122, refV_s, refV_n, psh_s, psh_n, kil_i, kil_r, kil_n, kil_l, cat_i, cat_r, iOK_1, iOK_5, jOK_2, jOK_6, wOK_e, lOK_1, lOK_2, lOK_3, lOK_4, lOK_5, lOK_6, catS_0, catS_1, catS_2, catS_3, catS_4, and_self, true_and, and_true, true_or, or_true, false_or, or_false, not_true_eq_false, not_false_eq_true, if_true, if_false, ite_int, ite_int0, au_10, eq_self, decide_true, decide_false, Bool.true_and, Bool.false_and, M_whyG2 hb hg, M_no2, au_n2]
      exact hk.ref h (by omega) (by omega)
    | some g =>
      rw [e] at hg
      simp only [e] at hk
      simp only [aw_aload_0 (pc2 := 1) D186_0 rfl, aw_iload_1 (pc2 := 2) D186_1 rfl, aw_iv1_0 (pc2 := 5) (o := 7) D186_2 rfl cT_7_297 rfl rfl, sh_122, refV_s, refV_n, psh_s, psh_n, kil_i, kil_r, kil_n, kil_l, cat_i, cat_r, iOK_1, iOK_5, jOK_2, jOK_6, wOK_e, lOK_1, lOK_2, lOK_3, lOK_4, lOK_5, lOK_6, catS_0, catS_1, catS_2, catS_3, catS_4, and_self, true_and, and_true, true_or, or_true, false_or, or_false, not_true_eq_false, not_false_eq_true, if_true, if_false, ite_int, ite_int0, au_10, eq_self, decide_true, decide_false, Bool.true_and, Bool.false_and]
      refine M_whyG hb hs h e (fun I' c1 f1 hl => ?_)
      have hf : FrM I I' := fun c hc => f1 c (by omega) (by omega) (by omega)
      simp only [aw_istore_2 (pc2 := 6) D186_5 rfl, aw_iload_2 (pc2 := 7) D186_6 rfl, aw_if_ne (pc2 := 10) (t := 17) D186_7 (by decide) rfl, aw_aload_0 (pc2 := 11) D186_10 rfl, aw_iload_1 (pc2 := 12) D186_11 rfl, aw_iconst (pc2 := 13) (y := 0) D186_12 rfl (by decide), aw_iv2_0 (pc2 := 16) (o := 7) D186_13 rfl cT_7_307 rfl rfl, aw_lret D186_16 rfl, sh_122, refV_s, refV_n, psh_s, psh_n, kil_i, kil_r, kil_n, kil_l, cat_i, cat_r, iOK_1, iOK_5, jOK_2, jOK_6, wOK_e, lOK_1, lOK_2, lOK_3, lOK_4, lOK_5, lOK_6, catS_0, catS_1, catS_2, catS_3, catS_4, and_self, true_and, and_true, true_or, or_true, false_or, or_false, not_true_eq_false, not_false_eq_true, if_true, if_false, ite_int, ite_int0, au_10, eq_self, decide_true, decide_false, Bool.true_and, Bool.false_and, M_sums0 hb hs c1 hl]
      exact hk I' J c1 hf FrM.rf
theorem MO_weigh {x r : Int32} (hs : sgOK σ) (h : MInv σ I) (hk : MPost Ln I J K (oWeigh σ x r)) : ACall (d + 5) 193 [.ref 122, .int x, .int r] (G0 Ln) I J K := by
  rw [ACall_0 (L0 := [.ref 122, .int x, .int r, nv]) (show mcs 193 = (0, 0) from rfl) (show entL 193 [.ref 122, .int x, .int r] = _ from rfl) rfl (Nat.le_of_ble_eq_true rfl)]
  unfold oWeigh at hk
  cases hx : bkOf x with
  | none =>
    simp only [hx] at hk
    obtain ⟨x0, x1⟩ := bkOf_none hx
    simp only [aw_iload_1 (pc2 := 1) D193_0 rfl, aw_is1_2 (pc2 := 4) D193_1 rfl cT_7_150 rfl, aw_if_eq (pc2 := 7) (t := 34) D193_4 (by decide) rfl, aw_aload_0 (pc2 := 35) D193_34 rfl, aw_bipush (pc2 := 37) (y := -3) D193_35 rfl (by decide), aw_iv1_0 (pc2 := 40) (o := 7) D193_37 rfl cT_7_154 rfl rfl, aw_istore_3 (pc2 := 41) D193_40 rfl, aw_lconst (pc2 := 42) (y := 0) D193_41 rfl (by decide), aw_lret D193_42 rfl, sh_122, rf_122_0, sh_123, refV_s, refV_n, psh_s, psh_n, kil_i, kil_r, kil_n, kil_l, cat_i, cat_r, iOK_1, iOK_5, jOK_2, jOK_6, wOK_e, lOK_1, lOK_2, lOK_3, lOK_4, lOK_5, lOK_6, catS_0, catS_1, catS_2, catS_3, catS_4, and_self, true_and, and_true, true_or, or_true, false_or, or_false, not_true_eq_false, not_false_eq_true, if_true, if_false, ite_int, ite_int0, au_10, eq_self, decide_true, decide_false, Bool.true_and, Bool.false_and, M_isBook, M_no3, x0, x1, or_self]
    exact hk.ref h (by omega) (by omega)
  | some b =>
    simp only [hx] at hk
    obtain ⟨hb, rfl⟩ := bkOf_some hx
    have hh := h.1 b hb
    have hN := (hs.1 b hb).2.1
    obtain ⟨-, -, -, -, -, w6, w7, -⟩ := wN_all (σ.1 b).N (by omega)
    by_cases hr : 0 ≤ r ∧ r < nI (2 ^ (σ.1 b).N)
    · rw [if_pos hr] at hk
      simp (disch := omega) only [aw_iload_1 (pc2 := 1) D193_0 rfl, aw_is1_2 (pc2 := 4) D193_1 rfl cT_7_150 rfl, aw_if_eq (pc2 := 7) (t := 34) D193_4 (by decide) rfl, aw_iload_2 (pc2 := 8) D193_7 rfl, aw_i2l (pc2 := 9) D193_8 rfl, aw_lconst (pc2 := 10) (y := 0) D193_9 rfl (by decide), aw_iconst (pc2 := 11) (y := 1) D193_10 rfl (by decide), aw_aload_0 (pc2 := 12) D193_11 rfl, aw_getR (pc2 := 15) (ci := 7) (fk := 0) D193_12 rfl fT_7_7 rfl, aw_iload_1 (pc2 := 16) D193_15 rfl, aw_iaload (pc2 := 17) D193_16 rfl, aw_ishl (pc2 := 18) D193_17 rfl, aw_iconst (pc2 := 19) (y := 1) D193_18 rfl (by decide), aw_isub (pc2 := 20) D193_19 rfl, aw_i2l (pc2 := 21) D193_20 rfl, aw_is3_2 (pc2 := 24) D193_21 rfl cT_7_146 rfl, aw_if_eq (pc2 := 27) (t := 34) D193_24 (by decide) rfl, sh_122, rf_122_0, sh_123, refV_s, refV_n, psh_s, psh_n, kil_i, kil_r, kil_n, kil_l, cat_i, cat_r, iOK_1, iOK_5, jOK_2, jOK_6, wOK_e, lOK_1, lOK_2, lOK_3, lOK_4, lOK_5, lOK_6, catS_0, catS_1, catS_2, catS_3, catS_4, and_self, true_and, and_true, true_or, or_true, false_or, or_false, not_true_eq_false, not_false_eq_true, if_true, if_false, ite_int, ite_int0, au_10, eq_self, decide_true, decide_false, Bool.true_and, Bool.false_and, M_isBk hb, hh.1, shl1, M_isIn, e0L, fa_wide_le, in_rows, ifT hr, au_in, nI_clamp]
      obtain ⟨j, hj, rfl⟩ := ix_of (by omega) hr
      rw [nI_clamp (by omega)] at hk
      simp (disch := omega) only [aw_aload_0 (pc2 := 28) D193_27 rfl, aw_iload_1 (pc2 := 29) D193_28 rfl, aw_iload_2 (pc2 := 30) D193_29 rfl, aw_iv2_0 (pc2 := 33) (o := 7) D193_30 rfl cT_7_303 rfl rfl, aw_lret D193_33 rfl, sh_122, rf_122_0, sh_123, refV_s, refV_n, psh_s, psh_n, kil_i, kil_r, kil_n, kil_l, cat_i, cat_r, iOK_1, iOK_5, jOK_2, jOK_6, wOK_e, lOK_1, lOK_2, lOK_3, lOK_4, lOK_5, lOK_6, catS_0, catS_1, catS_2, catS_3, catS_4, and_self, true_and, and_true, true_or, or_true, false_or, or_false, not_true_eq_false, not_false_eq_true, if_true, if_false, ite_int, ite_int0, au_10, eq_self, decide_true, decide_false, Bool.true_and, Bool.false_and, M_weightOf hb hs h (show j < 2 ^ 31 by omega)]
      exact hk.same h
    · rw [if_neg hr] at hk
      simp (disch := omega) only [aw_iload_1 (pc2 := 1) D193_0 rfl, aw_is1_2 (pc2 := 4) D193_1 rfl cT_7_150 rfl, aw_if_eq (pc2 := 7) (t := 34) D193_4 (by decide) rfl, aw_iload_2 (pc2 := 8) D193_7 rfl, aw_i2l (pc2 := 9) D193_8 rfl, aw_lconst (pc2 := 10) (y := 0) D193_9 rfl (by decide), aw_iconst (pc2 := 11) (y := 1) D193_10 rfl (by decide), aw_aload_0 (pc2 := 12) D193_11 rfl, aw_getR (pc2 := 15) (ci := 7) (fk := 0) D193_12 rfl fT_7_7 rfl, aw_iload_1 (pc2 := 16) D193_15 rfl, aw_iaload (pc2 := 17) D193_16 rfl, aw_ishl (pc2 := 18) D193_17 rfl, aw_iconst (pc2 := 19) (y := 1) D193_18 rfl (by decide), aw_isub (pc2 := 20) D193_19 rfl, aw_i2l (pc2 := 21) D193_20 rfl, aw_is3_2 (pc2 := 24) D193_21 rfl cT_7_146 rfl, aw_if_eq (pc2 := 27) (t := 34) D193_24 (by decide) rfl, aw_aload_0 (pc2 := 35) D193_34 rfl, aw_bipush (pc2 := 37) (y := -3) D193_35 rfl (by decide), aw_iv1_0 (pc2 := 40) (o := 7) D193_37 rfl cT_7_154 rfl rfl, aw_istore_3 (pc2 := 41) D193_40 rfl, aw_lconst (pc2 := 42) (y := 0) D193_41 rfl (by decide), aw_lret D193_42 rfl, sh_122, rf_122_0, sh_123, refV_s, refV_n, psh_s, psh_n, kil_i, kil_r, kil_n, kil_l, cat_i, cat_r, iOK_1, iOK_5, jOK_2, jOK_6, wOK_e, lOK_1, lOK_2, lOK_3, lOK_4, lOK_5, lOK_6, catS_0, catS_1, catS_2, catS_3, catS_4, and_self, true_and, and_true, true_or, or_true, false_or, or_false, not_true_eq_false, not_false_eq_true, if_true, if_false, ite_int, ite_int0, au_10, eq_self, decide_true, decide_false, Bool.true_and, Bool.false_and, M_isBk hb, hh.1, shl1, M_isIn, M_no3, e0L, fa_wide_le, in_rows, if_neg hr, au_in, nI_clamp]
      first | exact hk.ref h (by omega) (by omega) | exact hk.same h
theorem MO_sure {x s : Int32} (hs : sgOK σ) (h : MInv σ I) (hk : MPost Ln I J K (oSure σ x s)) : ACall (d + 7) 188 [.ref 122, .int x, .int s] (G0 Ln) I J K := by
  rw [ACall_0 (L0 := [.ref 122, .int x, .int s, nv, nv, nv, nv]) (show mcs 188 = (0, 0) from rfl) (show entL 188 [.ref 122, .int x, .int s] = _ from rfl) rfl (Nat.le_of_ble_eq_true rfl)]
  unfold oSure at hk
  cases hx : bkOf x with
  | none =>
    simp only [hx] at hk
    obtain ⟨x0, x1⟩ := bkOf_none hx
    simp only [aw_iload_1 (pc2 := 1) D188_0 rfl, aw_is1_2 (pc2 := 4) D188_1 rfl cT_7_150 rfl, aw_if_eq (pc2 := 7) (t := 16) D188_4 (by decide) rfl, aw_aload_0 (pc2 := 8) D188_7 rfl, aw_iload_1 (pc2 := 9) D188_8 rfl, aw_iload_2 (pc2 := 10) D188_9 rfl, aw_iv2_0 (pc2 := 13) (o := 7) D188_10 rfl cT_7_163 rfl rfl, aw_if_ne (pc2 := 16) (t := 21) D188_13 (by decide) rfl, aw_bipush (pc2 := 18) (y := -3) D188_16 rfl (by decide), aw_goto (t := 26) D188_18 (by decide), aw_aload_0 (pc2 := 22) D188_21 rfl, aw_iload_1 (pc2 := 23) D188_22 rfl, aw_iv1_0 (pc2 := 26) (o := 7) D188_23 rfl cT_7_297 rfl rfl, aw_istore_3 (pc2 := 27) D188_26 rfl, aw_iload_3 (pc2 := 28) D188_27 rfl, aw_if_eq (pc2 := 31) (t := 37) D188_28 (by decide) rfl, aw_aload_0 (pc2 := 32) D188_31 rfl, aw_iload_3 (pc2 := 33) D188_32 rfl, aw_iv1_0 (pc2 := 36) (o := 7) D188_33 rfl cT_7_154 rfl rfl, aw_iret D188_36 rfl, refV_s, refV_n, psh_s, psh_n, kil_i, kil_r, kil_n, kil_l, cat_i, cat_r, iOK_1, iOK_5, jOK_2, jOK_6, wOK_e, lOK_1, lOK_2, lOK_3, lOK_4, lOK_5, lOK_6, catS_0, catS_1, catS_2, catS_3, catS_4, and_self, true_and, and_true, true_or, or_true, false_or, or_false, not_true_eq_false, not_false_eq_true, if_true, if_false, ite_int, ite_int0, au_10, eq_self, decide_true, decide_false, Bool.true_and, Bool.false_and, sh_122, M_isBook, M_no3, x0, x1, or_self, au_n3]
    exact hk.ref h (by omega) (by omega)
  | some b =>
    simp only [hx] at hk
    obtain ⟨hb, rfl⟩ := bkOf_some hx
    have hh := h.1 b hb
    have hN := (hs.1 b hb).2.1
    obtain ⟨-, -, -, -, -, w6, w7, -⟩ := wN_all (σ.1 b).N (by omega)
    by_cases ho : okS (σ.1 b).N s
    · rw [ifT ho] at hk
      have hg := hh.2.2.2.2.2.2.2
      unfold MGo at hg
      cases e : (σ.1 b).g with
      | none =>
        rw [e] at hg
        simp only [e] at hk
        simp only [aw_iload_1 (pc2 := 1) D188_0 rfl, aw_is1_2 (pc2 := 4) D188_1 rfl cT_7_150 rfl, aw_if_eq (pc2 := 7) (t := 16) D188_4 (by decide) rfl, aw_aload_0 (pc2 := 8) D188_7 rfl, aw_iload_1 (pc2 := 9) D188_8 rfl, aw_iload_2 (pc2 := 10) D188_9 rfl, aw_iv2_0 (pc2 := 13) (o := 7) D188_10 rfl cT_7_163 rfl rfl, aw_if_ne (pc2 := 16) (t := 21) D188_13 (by decide) rfl, aw_bipush (pc2 := 18) (y := -3) D188_16 rfl (by decide), aw_goto (t := 26) D188_18 (by decide), aw_aload_0 (pc2 := 22) D188_21 rfl, aw_iload_1 (pc2 := 23) D188_22 rfl, aw_iv1_0 (pc2 := 26) (o := 7) D188_23 rfl cT_7_297 rfl rfl, aw_istore_3 (pc2 := 27) D188_26 rfl, aw_iload_3 (pc2 := 28) D188_27 rfl, aw_if_eq (pc2 := 31) (t := 37) D188_28 (by decide) rfl, aw_aload_0 (pc2 := 32) D188_31 rfl, aw_iload_3 (pc2 := 33) D188_32 rfl, aw_iv1_0 (pc2 := 36) (o := 7) D188_33 rfl cT_7_154 rfl rfl, aw_iret D188_36 rfl, refV_s, refV_n, psh_s, psh_n, kil_i, kil_r, kil_n, kil_l, cat_i, cat_r, iOK_1, iOK_5, jOK_2, jOK_6, wOK_e, lOK_1, lOK_2, lOK_3, lOK_4, lOK_5, lOK_6, catS_0, catS_1, catS_2, catS_3, catS_4, and_self, true_and, and_true, true_or, or_true, false_or, or_false, not_true_eq_false, not_false_eq_true, if_true, if_false, ite_int, ite_int0, au_10, eq_self, decide_true, decide_false, Bool.true_and, Bool.false_and, sh_122, M_isBk hb, M_isSign hb hh.1, ifT ho, M_whyG2 hb hg, M_no2, au_n2]
        exact hk.ref h (by omega) (by omega)
      | some g =>
        rw [e] at hg
        simp only [e] at hk
        obtain ⟨i1, i2, i3, i4⟩ := okS_iI hN ho
        simp only [aw_iload_1 (pc2 := 1) D188_0 rfl, aw_is1_2 (pc2 := 4) D188_1 rfl cT_7_150 rfl, aw_if_eq (pc2 := 7) (t := 16) D188_4 (by decide) rfl, aw_aload_0 (pc2 := 8) D188_7 rfl, aw_iload_1 (pc2 := 9) D188_8 rfl, aw_iload_2 (pc2 := 10) D188_9 rfl, aw_iv2_0 (pc2 := 13) (o := 7) D188_10 rfl cT_7_163 rfl rfl, aw_if_ne (pc2 := 16) (t := 21) D188_13 (by decide) rfl, aw_bipush (pc2 := 18) (y := -3) D188_16 rfl (by decide), aw_goto (t := 26) D188_18 (by decide), aw_aload_0 (pc2 := 22) D188_21 rfl, aw_iload_1 (pc2 := 23) D188_22 rfl, aw_iv1_0 (pc2 := 26) (o := 7) D188_23 rfl cT_7_297 rfl rfl, refV_s, refV_n, psh_s, psh_n, kil_i, kil_r, kil_n, kil_l, cat_i, cat_r, iOK_1, iOK_5, jOK_2, jOK_6, wOK_e, lOK_1, lOK_2, lOK_3, lOK_4, lOK_5, lOK_6, catS_0, catS_1, catS_2, catS_3, catS_4, and_self, true_and, and_true, true_or, or_true, false_or, or_false, not_true_eq_false, not_false_eq_true, if_true, if_false, ite_int, ite_int0, au_10, eq_self, decide_true, decide_false, Bool.true_and, Bool.false_and, sh_122, M_isBk hb, M_isSign hb hh.1, ifT ho]
        refine M_whyG hb hs h e (fun I' c1 f1 hl => ?_)
        have hf : FrM I I' := fun c hc => f1 c (by omega) (by omega) (by omega)
        have hh' := c1.1 b hb
        simp only [aw_istore_3 (pc2 := 27) D188_26 rfl, aw_iload_3 (pc2 := 28) D188_27 rfl, aw_if_eq (pc2 := 31) (t := 37) D188_28 (by decide) rfl, aw_aload_0 (pc2 := 32) D188_31 rfl, aw_iload_3 (pc2 := 33) D188_32 rfl, aw_iv1_0 (pc2 := 36) (o := 7) D188_33 rfl cT_7_154 rfl rfl, aw_iret D188_36 rfl, aw_iconst (pc2 := 38) (y := 0) D188_37 rfl (by decide), aw_istore_4 (pc2 := 40) D188_38 rfl, aw_iconst (pc2 := 41) (y := 0) D188_40 rfl (by decide), aw_istore_5 (pc2 := 43) D188_41 rfl, aw_iconst (pc2 := 44) (y := 0) D188_43 rfl (by decide), aw_istore_6 (pc2 := 46) D188_44 rfl, refV_s, refV_n, psh_s, psh_n, kil_i, kil_r, kil_n, kil_l, cat_i, cat_r, iOK_1, iOK_5, jOK_2, jOK_6, wOK_e, lOK_1, lOK_2, lOK_3, lOK_4, lOK_5, lOK_6, catS_0, catS_1, catS_2, catS_3, catS_4, and_self, true_and, and_true, true_or, or_true, false_or, or_false, not_true_eq_false, not_false_eq_true, if_true, if_false, ite_int, ite_int0, au_10, eq_self, decide_true, decide_false, Bool.true_and, Bool.false_and]
        have key : ∀ n i, i + n = 2 ^ (σ.1 b).N → AW (d + 6) ((G0 Ln).1, (G0 Ln).2.1) K 188 46 [.ref 122, .int (nI b), .int s, .int 0, .int (nI (fb_ct (fun r => rowT (σ.1 b) g r && hld (σ.1 b).N s.toInt r) i)), .int (nI (fb_ct (rowT (σ.1 b) g) i)), .int (nI i)] [] (G0 Ln) I' J := by
          intro n
          induction n with
          | zero =>
            intro i hi
            have ei : i = 2 ^ (σ.1 b).N := by omega
            have hle := fb_ct_le (rowT (σ.1 b) g) (2 ^ (σ.1 b).N)
            have hle2 := fb_ct_le (fun r => rowT (σ.1 b) g r && hld (σ.1 b).N s.toInt r) (2 ^ (σ.1 b).N)
            rw [ei]
            simp (disch := omega) only [aw_iload_6 (pc2 := 48) D188_46 rfl, aw_iconst (pc2 := 49) (y := 1) D188_48 rfl (by decide), aw_aload_0 (pc2 := 50) D188_49 rfl, aw_getR (pc2 := 53) (ci := 7) (fk := 0) D188_50 rfl fT_7_7 rfl, aw_iload_1 (pc2 := 54) D188_53 rfl, aw_iaload (pc2 := 55) D188_54 rfl, aw_ishl (pc2 := 56) D188_55 rfl, aw_icmp_ge (pc2 := 59) (t := 102) D188_56 (by decide) rfl, aw_iload_5 (pc2 := 104) D188_102 rfl, aw_if_ne (pc2 := 107) (t := 111) D188_104 (by decide) rfl, aw_iconst (pc2 := 108) (y := 3) D188_107 rfl (by decide), aw_goto (t := 132) D188_108 (by decide), aw_iload_4 (pc2 := 113) D188_111 rfl, aw_iload_5 (pc2 := 115) D188_113 rfl, aw_icmp_ne (pc2 := 118) (t := 122) D188_115 (by decide) rfl, aw_iconst (pc2 := 119) (y := 1) D188_118 rfl (by decide), aw_goto (t := 132) D188_119 (by decide), aw_iload_4 (pc2 := 124) D188_122 rfl, aw_if_ne (pc2 := 127) (t := 131) D188_124 (by decide) rfl, aw_iconst (pc2 := 128) (y := 2) D188_127 rfl (by decide), aw_goto (t := 132) D188_128 (by decide), aw_iconst (pc2 := 132) (y := 0) D188_131 rfl (by decide), aw_iret D188_132 rfl, sh_122, rf_122_0, sh_123, lit_3, lit_2, refV_s, refV_n, psh_s, psh_n, kil_i, kil_r, kil_n, kil_l, cat_i, cat_r, iOK_1, iOK_5, jOK_2, jOK_6, wOK_e, lOK_1, lOK_2, lOK_3, lOK_4, lOK_5, lOK_6, catS_0, catS_1, catS_2, catS_3, catS_4, and_self, true_and, and_true, true_or, or_true, false_or, or_false, not_true_eq_false, not_false_eq_true, if_true, if_false, ite_int, ite_int0, au_10, eq_self, decide_true, decide_false, Bool.true_and, Bool.false_and, au_in, au_le, au_lt, au_eq, au_lt0, au_ge0, au_le0, au_gt0, au_eq0, au_leT, au_leF, au_ltT, au_ltF, au_eqT, au_eqF, nI_clamp, nI_1, nI_add, pk_mul, au_sub1, au_subc, au_up2e, au_up2n, lit_of, hh'.1, shl1]
            have key := hk I' J c1 hf FrM.rf
            by_cases h0 : fb_ct (rowT (σ.1 b) g) (2 ^ (σ.1 b).N) = 0
            · rw [if_pos h0] at key
              rw [if_neg (fun q => q h0)]
              exact key
            · rw [if_neg h0] at key
              rw [if_pos h0]
              by_cases h1 : fb_ct (fun r => rowT (σ.1 b) g r && hld (σ.1 b).N s.toInt r) (2 ^ (σ.1 b).N) = fb_ct (rowT (σ.1 b) g) (2 ^ (σ.1 b).N)
              · rw [if_pos h1] at key
                rw [if_neg (fun q => q h1)]
                exact key
              · rw [if_neg h1] at key
                rw [if_pos h1]
                by_cases h2 : fb_ct (fun r => rowT (σ.1 b) g r && hld (σ.1 b).N s.toInt r) (2 ^ (σ.1 b).N) = 0
                · rw [if_pos h2] at key
                  rw [if_neg (fun q => q h2)]
                  exact key
                · rw [if_neg h2] at key
                  rw [if_pos h2]
                  exact key
          | succ n ih =>
            intro i hi
            have ihn := ih (i + 1) (by omega)
            rw [fb_ct_succ, fb_ct_succ] at ihn
            rw [aw_iload_6 (pc2 := 48) D188_46 rfl]
            simp (disch := omega) only [aw_iconst (pc2 := 49) (y := 1) D188_48 rfl (by decide), aw_aload_0 (pc2 := 50) D188_49 rfl, aw_getR (pc2 := 53) (ci := 7) (fk := 0) D188_50 rfl fT_7_7 rfl, aw_iload_1 (pc2 := 54) D188_53 rfl, aw_iaload (pc2 := 55) D188_54 rfl, aw_ishl (pc2 := 56) D188_55 rfl, aw_icmp_ge (pc2 := 59) (t := 102) D188_56 (by decide) rfl, aw_aload_0 (pc2 := 60) D188_59 rfl, aw_iload_1 (pc2 := 61) D188_60 rfl, aw_iload_6 (pc2 := 63) D188_61 rfl, aw_iv2_0 (pc2 := 66) (o := 7) D188_63 rfl cT_7_294 rfl rfl, aw_if_ne (pc2 := 69) (t := 72) D188_66 (by decide) rfl, sh_122, rf_122_0, sh_123, lit_3, lit_2, refV_s, refV_n, psh_s, psh_n, kil_i, kil_r, kil_n, kil_l, cat_i, cat_r, iOK_1, iOK_5, jOK_2, jOK_6, wOK_e, lOK_1, lOK_2, lOK_3, lOK_4, lOK_5, lOK_6, catS_0, catS_1, catS_2, catS_3, catS_4, and_self, true_and, and_true, true_or, or_true, false_or, or_false, not_true_eq_false, not_false_eq_true, if_true, if_false, ite_int, ite_int0, au_10, eq_self, decide_true, decide_false, Bool.true_and, Bool.false_and, au_in, au_le, au_lt, au_eq, au_lt0, au_ge0, au_le0, au_gt0, au_eq0, au_leT, au_leF, au_ltT, au_ltF, au_eqT, au_eqF, nI_clamp, nI_1, nI_add, pk_mul, au_sub1, au_subc, au_up2e, au_up2n, lit_of, hh'.1, shl1, M_isRow hb hs c1 hl (show i < 2 ^ (σ.1 b).N by omega), bI_0]
            cases t : rowT (σ.1 b) g i
            · rw [if_neg (by decide)]
              simp (disch := omega) only [aw_goto (t := 96) D188_69 (by decide), aw_iinc_6 (pc2 := 99) (y := 1) D188_96 rfl (by decide), aw_goto (t := 46) D188_99 (by decide), sh_122, rf_122_0, sh_123, lit_3, lit_2, refV_s, refV_n, psh_s, psh_n, kil_i, kil_r, kil_n, kil_l, cat_i, cat_r, iOK_1, iOK_5, jOK_2, jOK_6, wOK_e, lOK_1, lOK_2, lOK_3, lOK_4, lOK_5, lOK_6, catS_0, catS_1, catS_2, catS_3, catS_4, and_self, true_and, and_true, true_or, or_true, false_or, or_false, not_true_eq_false, not_false_eq_true, if_true, if_false, ite_int, ite_int0, au_10, eq_self, decide_true, decide_false, Bool.true_and, Bool.false_and, au_in, au_le, au_lt, au_eq, au_lt0, au_ge0, au_le0, au_gt0, au_eq0, au_leT, au_leF, au_ltT, au_ltF, au_eqT, au_eqF, nI_clamp, nI_1, nI_add, pk_mul, au_sub1, au_subc, au_up2e, au_up2n, lit_of]
              simpa [t] using ihn
            · rw [if_pos (by decide)]
              simp (disch := omega) only [aw_iinc_5 (pc2 := 75) (y := 1) D188_72 rfl (by decide), aw_iload_4 (pc2 := 77) D188_75 rfl, aw_aload_0 (pc2 := 78) D188_77 rfl, aw_iload_1 (pc2 := 79) D188_78 rfl, aw_iload_2 (pc2 := 80) D188_79 rfl, aw_iload_6 (pc2 := 82) D188_80 rfl, aw_iv3_0 (pc2 := 85) (o := 7) D188_82 rfl cT_7_275 rfl rfl, aw_if_eq (pc2 := 88) (t := 92) D188_85 (by decide) rfl, sh_122, rf_122_0, sh_123, lit_3, lit_2, refV_s, refV_n, psh_s, psh_n, kil_i, kil_r, kil_n, kil_l, cat_i, cat_r, iOK_1, iOK_5, jOK_2, jOK_6, wOK_e, lOK_1, lOK_2, lOK_3, lOK_4, lOK_5, lOK_6, catS_0, catS_1, catS_2, catS_3, catS_4, and_self, true_and, and_true, true_or, or_true, false_or, or_false, not_true_eq_false, not_false_eq_true, if_true, if_false, ite_int, ite_int0, au_10, eq_self, decide_true, decide_false, Bool.true_and, Bool.false_and, au_in, au_le, au_lt, au_eq, au_lt0, au_ge0, au_le0, au_gt0, au_eq0, au_leT, au_leF, au_ltT, au_ltF, au_eqT, au_eqF, nI_clamp, nI_1, nI_add, pk_mul, au_sub1, au_subc, au_up2e, au_up2n, lit_of, M_holds hb hh'.1 hN i1 i2 i3 i4 (show i < 2 ^ 31 by omega), bI_0]
              cases t2 : hld (σ.1 b).N s.toInt i
              · rw [if_pos rfl]
                have z0 : ∀ a, nI a + 0 = nI a := fun a => nI_add a 0
                simp (disch := omega) only [aw_iconst (pc2 := 93) (y := 0) D188_92 rfl (by decide), aw_iadd (pc2 := 94) D188_93 rfl, aw_istore_4 (pc2 := 96) D188_94 rfl, aw_iinc_6 (pc2 := 99) (y := 1) D188_96 rfl (by decide), aw_goto (t := 46) D188_99 (by decide), sh_122, rf_122_0, sh_123, lit_3, lit_2, refV_s, refV_n, psh_s, psh_n, kil_i, kil_r, kil_n, kil_l, cat_i, cat_r, iOK_1, iOK_5, jOK_2, jOK_6, wOK_e, lOK_1, lOK_2, lOK_3, lOK_4, lOK_5, lOK_6, catS_0, catS_1, catS_2, catS_3, catS_4, and_self, true_and, and_true, true_or, or_true, false_or, or_false, not_true_eq_false, not_false_eq_true, if_true, if_false, ite_int, ite_int0, au_10, eq_self, decide_true, decide_false, Bool.true_and, Bool.false_and, au_in, au_le, au_lt, au_eq, au_lt0, au_ge0, au_le0, au_gt0, au_eq0, au_leT, au_leF, au_ltT, au_ltF, au_eqT, au_eqF, nI_clamp, nI_1, nI_add, pk_mul, au_sub1, au_subc, au_up2e, au_up2n, lit_of, z0]
                simpa [t, t2] using ihn
              · rw [if_neg (by decide)]
                simp (disch := omega) only [aw_iconst (pc2 := 89) (y := 1) D188_88 rfl (by decide), aw_goto (t := 93) D188_89 (by decide), aw_iconst (pc2 := 93) (y := 0) D188_92 rfl (by decide), aw_iadd (pc2 := 94) D188_93 rfl, aw_istore_4 (pc2 := 96) D188_94 rfl, aw_iinc_6 (pc2 := 99) (y := 1) D188_96 rfl (by decide), aw_goto (t := 46) D188_99 (by decide), sh_122, rf_122_0, sh_123, lit_3, lit_2, refV_s, refV_n, psh_s, psh_n, kil_i, kil_r, kil_n, kil_l, cat_i, cat_r, iOK_1, iOK_5, jOK_2, jOK_6, wOK_e, lOK_1, lOK_2, lOK_3, lOK_4, lOK_5, lOK_6, catS_0, catS_1, catS_2, catS_3, catS_4, and_self, true_and, and_true, true_or, or_true, false_or, or_false, not_true_eq_false, not_false_eq_true, if_true, if_false, ite_int, ite_int0, au_10, eq_self, decide_true, decide_false, Bool.true_and, Bool.false_and, au_in, au_le, au_lt, au_eq, au_lt0, au_ge0, au_le0, au_gt0, au_eq0, au_leT, au_leF, au_ltT, au_ltF, au_eqT, au_eqF, nI_clamp, nI_1, nI_add, pk_mul, au_sub1, au_subc, au_up2e, au_up2n, lit_of]
                simpa [t, t2] using ihn
        exact key (2 ^ (σ.1 b).N) 0 (by omega)
    · rw [if_neg ho] at hk
      simp only [aw_iload_1 (pc2 := 1) D188_0 rfl, aw_is1_2 (pc2 := 4) D188_1 rfl cT_7_150 rfl, aw_if_eq (pc2 := 7) (t := 16) D188_4 (by decide) rfl, aw_aload_0 (pc2 := 8) D188_7 rfl, aw_iload_1 (pc2 := 9) D188_8 rfl, aw_iload_2 (pc2 := 10) D188_9 rfl, aw_iv2_0 (pc2 := 13) (o := 7) D188_10 rfl cT_7_163 rfl rfl, aw_if_ne (pc2 := 16) (t := 21) D188_13 (by decide) rfl, aw_bipush (pc2 := 18) (y := -3) D188_16 rfl (by decide), aw_goto (t := 26) D188_18 (by decide), aw_aload_0 (pc2 := 22) D188_21 rfl, aw_iload_1 (pc2 := 23) D188_22 rfl, aw_iv1_0 (pc2 := 26) (o := 7) D188_23 rfl cT_7_297 rfl rfl, aw_istore_3 (pc2 := 27) D188_26 rfl, aw_iload_3 (pc2 := 28) D188_27 rfl, aw_if_eq (pc2 := 31) (t := 37) D188_28 (by decide) rfl, aw_aload_0 (pc2 := 32) D188_31 rfl, aw_iload_3 (pc2 := 33) D188_32 rfl, aw_iv1_0 (pc2 := 36) (o := 7) D188_33 rfl cT_7_154 rfl rfl, aw_iret D188_36 rfl, refV_s, refV_n, psh_s, psh_n, kil_i, kil_r, kil_n, kil_l, cat_i, cat_r, iOK_1, iOK_5, jOK_2, jOK_6, wOK_e, lOK_1, lOK_2, lOK_3, lOK_4, lOK_5, lOK_6, catS_0, catS_1, catS_2, catS_3, catS_4, and_self, true_and, and_true, true_or, or_true, false_or, or_false, not_true_eq_false, not_false_eq_true, if_true, if_false, ite_int, ite_int0, au_10, eq_self, decide_true, decide_false, Bool.true_and, Bool.false_and, sh_122, M_isBk hb, M_isSign hb hh.1, if_neg ho, M_no3, au_n3]
      first | exact hk.ref h (by omega) (by omega) | exact hk.same h
theorem M_gcd : ∀ (y a : Nat) (A S x : Int64) (v0 v1 v2 v3 v4 v13 v14 : Value), y < 2 ^ 63 → a < 2 ^ 63 → (∀ v13 v14, AW d ((G0 Ln).1, (G0 Ln).2.1) K 187 112 [.ref 122, v0, v1, v2, v3, .long A, nv, .long S, nv, .long (lN (Nat.gcd a y)), nv, .long (lN 0), nv, v13, v14] [] (G0 Ln) I J) → AW d ((G0 Ln).1, (G0 Ln).2.1) K 187 87 [.ref 122, v0, v1, v2, v3, .long A, nv, .long S, nv, .long (lN a), nv, .long (lN y), nv, v13, v14] [] (G0 Ln) I J := by
  intro y
  induction y using Nat.strongRecOn with
  | ind y ih =>
    intro a A S x v0 v1 v2 v3 v4 v13 v14 hy ha hend
    have e0 : lN 0 = 0 := rfl
    have hz : (lN y = 0) = (y = 0) := by
      rw [← e0]
      exact propext (fb_lN_inj hy (by decide))
    by_cases h0 : y = 0
    · subst h0
      have hend := hend v13 v14
      rw [Nat.gcd_zero_right] at hend
      simp only [aw_lload_11 (pc2 := 89) D187_87 rfl, aw_lconst (pc2 := 90) (y := 0) D187_89 rfl (by decide), aw_lcmp (pc2 := 91) D187_90 rfl, aw_if_eq (pc2 := 94) (t := 112) D187_91 (by decide) rfl, sh_122, refV_s, refV_n, psh_s, psh_n, kil_i, kil_r, kil_n, kil_l, cat_i, cat_r, iOK_1, iOK_5, jOK_2, jOK_6, wOK_e, lOK_1, lOK_2, lOK_3, lOK_4, lOK_5, lOK_6, catS_0, catS_1, catS_2, catS_3, catS_4, and_self, true_and, and_true, true_or, or_true, false_or, or_false, not_true_eq_false, not_false_eq_true, if_true, if_false, ite_int, ite_int0, au_10, eq_self, decide_true, decide_false, Bool.true_and, Bool.false_and, lg_cmp_eq, e0]
      rw [e0] at hend
      exact hend
    · have hb0 : (y = 0) = False := eq_false h0
      have hlt : a % y < y := Nat.mod_lt _ (by omega)
      have eg : Nat.gcd y (a % y) = Nat.gcd a y := by
        rw [Nat.gcd_comm y (a % y), ← Nat.gcd_rec, Nat.gcd_comm]
      rw [aw_lload_11 (pc2 := 89) D187_87 rfl]
      simp (disch := omega) only [aw_lconst (pc2 := 90) (y := 0) D187_89 rfl (by decide), aw_lcmp (pc2 := 91) D187_90 rfl, aw_if_eq (pc2 := 94) (t := 112) D187_91 (by decide) rfl, aw_lload_9 (pc2 := 96) D187_94 rfl, aw_lload_11 (pc2 := 98) D187_96 rfl, aw_lrem (pc2 := 99) D187_98 rfl, aw_lstore_13 (pc2 := 101) D187_99 rfl, aw_lload_11 (pc2 := 103) D187_101 rfl, aw_lstore_9 (pc2 := 105) D187_103 rfl, aw_lload_13 (pc2 := 107) D187_105 rfl, aw_lstore_11 (pc2 := 109) D187_107 rfl, aw_goto (t := 87) D187_109 (by decide), sh_122, refV_s, refV_n, psh_s, psh_n, kil_i, kil_r, kil_n, kil_l, cat_i, cat_r, iOK_1, iOK_5, jOK_2, jOK_6, wOK_e, lOK_1, lOK_2, lOK_3, lOK_4, lOK_5, lOK_6, catS_0, catS_1, catS_2, catS_3, catS_4, and_self, true_and, and_true, true_or, or_true, false_or, or_false, not_true_eq_false, not_false_eq_true, if_true, if_false, ite_int, ite_int0, au_10, eq_self, decide_true, decide_false, Bool.true_and, Bool.false_and, lg_cmp_eq, hz, hb0, pk_lRem ha (show 0 < y by omega) hy]
      refine ih (a % y) hlt y A S x v0 v1 v2 v3 v4 _ _ (by omega) hy (fun w1 w2 => ?_)
      rw [eg]
      exact hend w1 w2
theorem MO_chance {x s : Int32} {lower : Bool} (hs : sgOK σ) (h : MInv σ I) (hk : MPost Ln I J K (oChance σ x s lower)) : ACall (d + 7) 187 [.ref 122, .int x, .int s, .int (bI lower)] (G0 Ln) I J K := by
  rw [ACall_0 (L0 := [.ref 122, .int x, .int s, .int (bI lower), nv, nv, nv, nv, nv, nv, nv, nv, nv, nv, nv]) (show mcs 187 = (0, 0) from rfl) (show entL 187 [.ref 122, .int x, .int s, .int (bI lower)] = _ from rfl) rfl (Nat.le_of_ble_eq_true rfl)]
  unfold oChance at hk
  have l10 : ((1 : Int64) = 0) = False := eq_false (by decide)
  cases hx : bkOf x with
  | none =>
    simp only [hx] at hk
    obtain ⟨x0, x1⟩ := bkOf_none hx
    simp only [aw_iload_1 (pc2 := 1) D187_0 rfl, aw_is1_2 (pc2 := 4) D187_1 rfl cT_7_150 rfl, aw_if_eq (pc2 := 7) (t := 16) D187_4 (by decide) rfl, aw_aload_0 (pc2 := 8) D187_7 rfl, aw_iload_1 (pc2 := 9) D187_8 rfl, aw_iload_2 (pc2 := 10) D187_9 rfl, aw_iv2_0 (pc2 := 13) (o := 7) D187_10 rfl cT_7_163 rfl rfl, aw_if_ne (pc2 := 16) (t := 21) D187_13 (by decide) rfl, aw_bipush (pc2 := 18) (y := -3) D187_16 rfl (by decide), aw_goto (t := 26) D187_18 (by decide), aw_aload_0 (pc2 := 22) D187_21 rfl, aw_iload_1 (pc2 := 23) D187_22 rfl, aw_iv1_0 (pc2 := 26) (o := 7) D187_23 rfl cT_7_297 rfl rfl, aw_istore_4 (pc2 := 28) D187_26 rfl, aw_iload_4 (pc2 := 30) D187_28 rfl, aw_if_ne (pc2 := 33) (t := 42) D187_30 (by decide) rfl, aw_aload_0 (pc2 := 34) D187_33 rfl, aw_iload_1 (pc2 := 35) D187_34 rfl, aw_iconst (pc2 := 36) (y := 0) D187_35 rfl (by decide), aw_iv2_0 (pc2 := 39) (o := 7) D187_36 rfl cT_7_307 rfl rfl, aw_goto (t := 43) D187_39 (by decide), aw_lconst (pc2 := 43) (y := 1) D187_42 rfl (by decide), aw_lstore_5 (pc2 := 45) D187_43 rfl, aw_lload_5 (pc2 := 47) D187_45 rfl, aw_lconst (pc2 := 48) (y := 0) D187_47 rfl (by decide), aw_lcmp (pc2 := 49) D187_48 rfl, aw_if_ne (pc2 := 52) (t := 56) D187_49 (by decide) rfl, aw_bipush (pc2 := 54) (y := -7) D187_52 rfl (by decide), aw_istore_4 (pc2 := 56) D187_54 rfl, aw_iload_4 (pc2 := 58) D187_56 rfl, aw_if_eq (pc2 := 61) (t := 71) D187_58 (by decide) rfl, aw_aload_0 (pc2 := 62) D187_61 rfl, aw_iload_4 (pc2 := 64) D187_62 rfl, aw_iv1_0 (pc2 := 67) (o := 7) D187_64 rfl cT_7_154 rfl rfl, aw_istore_7 (pc2 := 69) D187_67 rfl, aw_lconst (pc2 := 70) (y := 0) D187_69 rfl (by decide), aw_lret D187_70 rfl, refV_s, refV_n, psh_s, psh_n, kil_i, kil_r, kil_n, kil_l, cat_i, cat_r, iOK_1, iOK_5, jOK_2, jOK_6, wOK_e, lOK_1, lOK_2, lOK_3, lOK_4, lOK_5, lOK_6, catS_0, catS_1, catS_2, catS_3, catS_4, and_self, true_and, and_true, true_or, or_true, false_or, or_false, not_true_eq_false, not_false_eq_true, if_true, if_false, ite_int, ite_int0, au_10, eq_self, decide_true, decide_false, Bool.true_and, Bool.false_and, sh_122, M_isBook, M_no3, x0, x1, or_self, au_n3, lg_cmp_eq, l10]
    exact hk.ref h (by omega) (by omega)
  | some b =>
    simp only [hx] at hk
    obtain ⟨hb, rfl⟩ := bkOf_some hx
    have hh := h.1 b hb
    have hbk := hs.1 b hb
    have hN := hbk.2.1
    obtain ⟨-, -, -, -, -, w6, w7, -⟩ := wN_all (σ.1 b).N (by omega)
    by_cases ho : okS (σ.1 b).N s
    · rw [ifT ho] at hk
      have hg := hh.2.2.2.2.2.2.2
      unfold MGo at hg
      cases e : (σ.1 b).g with
      | none =>
        rw [e] at hg
        simp only [e] at hk
        simp only [aw_iload_1 (pc2 := 1) D187_0 rfl, aw_is1_2 (pc2 := 4) D187_1 rfl cT_7_150 rfl, aw_if_eq (pc2 := 7) (t := 16) D187_4 (by decide) rfl, aw_aload_0 (pc2 := 8) D187_7 rfl, aw_iload_1 (pc2 := 9) D187_8 rfl, aw_iload_2 (pc2 := 10) D187_9 rfl, aw_iv2_0 (pc2 := 13) (o := 7) D187_10 rfl cT_7_163 rfl rfl, aw_if_ne (pc2 := 16) (t := 21) D187_13 (by decide) rfl, aw_bipush (pc2 := 18) (y := -3) D187_16 rfl (by decide), aw_goto (t := 26) D187_18 (by decide), aw_aload_0 (pc2 := 22) D187_21 rfl, aw_iload_1 (pc2 := 23) D187_22 rfl, aw_iv1_0 (pc2 := 26) (o := 7) D187_23 rfl cT_7_297 rfl rfl, aw_istore_4 (pc2 := 28) D187_26 rfl, aw_iload_4 (pc2 := 30) D187_28 rfl, aw_if_ne (pc2 := 33) (t := 42) D187_30 (by decide) rfl, aw_aload_0 (pc2 := 34) D187_33 rfl, aw_iload_1 (pc2 := 35) D187_34 rfl, aw_iconst (pc2 := 36) (y := 0) D187_35 rfl (by decide), aw_iv2_0 (pc2 := 39) (o := 7) D187_36 rfl cT_7_307 rfl rfl, aw_goto (t := 43) D187_39 (by decide), aw_lconst (pc2 := 43) (y := 1) D187_42 rfl (by decide), aw_lstore_5 (pc2 := 45) D187_43 rfl, aw_lload_5 (pc2 := 47) D187_45 rfl, aw_lconst (pc2 := 48) (y := 0) D187_47 rfl (by decide), aw_lcmp (pc2 := 49) D187_48 rfl, aw_if_ne (pc2 := 52) (t := 56) D187_49 (by decide) rfl, aw_bipush (pc2 := 54) (y := -7) D187_52 rfl (by decide), aw_istore_4 (pc2 := 56) D187_54 rfl, aw_iload_4 (pc2 := 58) D187_56 rfl, aw_if_eq (pc2 := 61) (t := 71) D187_58 (by decide) rfl, aw_aload_0 (pc2 := 62) D187_61 rfl, aw_iload_4 (pc2 := 64) D187_62 rfl, aw_iv1_0 (pc2 := 67) (o := 7) D187_64 rfl cT_7_154 rfl rfl, aw_istore_7 (pc2 := 69) D187_67 rfl, aw_lconst (pc2 := 70) (y := 0) D187_69 rfl (by decide), aw_lret D187_70 rfl, refV_s, refV_n, psh_s, psh_n, kil_i, kil_r, kil_n, kil_l, cat_i, cat_r, iOK_1, iOK_5, jOK_2, jOK_6, wOK_e, lOK_1, lOK_2, lOK_3, lOK_4, lOK_5, lOK_6, catS_0, catS_1, catS_2, catS_3, catS_4, and_self, true_and, and_true, true_or, or_true, false_or, or_false, not_true_eq_false, not_false_eq_true, if_true, if_false, ite_int, ite_int0, au_10, eq_self, decide_true, decide_false, Bool.true_and, Bool.false_and, sh_122, M_isBk hb, M_isSign hb hh.1, ifT ho, M_whyG2 hb hg, M_no2, au_n2, lg_cmp_eq, l10]
        exact hk.ref h (by omega) (by omega)
      | some g =>
        rw [e] at hg
        simp only [e] at hk
        obtain ⟨i1, i2, i3, i4⟩ := okS_iI hN ho
        simp only [aw_iload_1 (pc2 := 1) D187_0 rfl, aw_is1_2 (pc2 := 4) D187_1 rfl cT_7_150 rfl, aw_if_eq (pc2 := 7) (t := 16) D187_4 (by decide) rfl, aw_aload_0 (pc2 := 8) D187_7 rfl, aw_iload_1 (pc2 := 9) D187_8 rfl, aw_iload_2 (pc2 := 10) D187_9 rfl, aw_iv2_0 (pc2 := 13) (o := 7) D187_10 rfl cT_7_163 rfl rfl, aw_if_ne (pc2 := 16) (t := 21) D187_13 (by decide) rfl, aw_bipush (pc2 := 18) (y := -3) D187_16 rfl (by decide), aw_goto (t := 26) D187_18 (by decide), aw_aload_0 (pc2 := 22) D187_21 rfl, aw_iload_1 (pc2 := 23) D187_22 rfl, aw_iv1_0 (pc2 := 26) (o := 7) D187_23 rfl cT_7_297 rfl rfl, refV_s, refV_n, psh_s, psh_n, kil_i, kil_r, kil_n, kil_l, cat_i, cat_r, iOK_1, iOK_5, jOK_2, jOK_6, wOK_e, lOK_1, lOK_2, lOK_3, lOK_4, lOK_5, lOK_6, catS_0, catS_1, catS_2, catS_3, catS_4, and_self, true_and, and_true, true_or, or_true, false_or, or_false, not_true_eq_false, not_false_eq_true, if_true, if_false, ite_int, ite_int0, au_10, eq_self, decide_true, decide_false, Bool.true_and, Bool.false_and, sh_122, M_isBk hb, M_isSign hb hh.1, ifT ho]
        refine M_whyG hb hs h e (fun I' c1 f1 hl => ?_)
        have hf : FrM I I' := fun c hc => f1 c (by omega) (by omega) (by omega)
        have ha := sumW_lt hbk (rowT (σ.1 b) g) w6
        have hs2 := sumW_lt hbk (fun r => rowT (σ.1 b) g r && hld (σ.1 b).N s.toInt r) w6
        have e0 : (0 : Int64) = lN 0 := rfl
        have hz : ∀ b, b < 2 ^ 63 → ((lN b = 0) = (b = 0)) := fun b hb => by
          rw [e0]
          exact propext (fb_lN_inj hb (by decide))
        have ha63 : sumW (wRow (σ.1 b)) (rowT (σ.1 b) g) (2 ^ (σ.1 b).N) < 2 ^ 63 := Nat.lt_trans ha (by decide)
        have hs63 : sumW (wRow (σ.1 b)) (fun r => rowT (σ.1 b) g r && hld (σ.1 b).N s.toInt r) (2 ^ (σ.1 b).N) < 2 ^ 63 := Nat.lt_trans hs2 (by decide)
        simp only [aw_istore_4 (pc2 := 28) D187_26 rfl, aw_iload_4 (pc2 := 30) D187_28 rfl, aw_if_ne (pc2 := 33) (t := 42) D187_30 (by decide) rfl, aw_aload_0 (pc2 := 34) D187_33 rfl, aw_iload_1 (pc2 := 35) D187_34 rfl, aw_iconst (pc2 := 36) (y := 0) D187_35 rfl (by decide), aw_iv2_0 (pc2 := 39) (o := 7) D187_36 rfl cT_7_307 rfl rfl, aw_goto (t := 43) D187_39 (by decide), aw_lconst (pc2 := 43) (y := 1) D187_42 rfl (by decide), aw_lstore_5 (pc2 := 45) D187_43 rfl, aw_lload_5 (pc2 := 47) D187_45 rfl, aw_lconst (pc2 := 48) (y := 0) D187_47 rfl (by decide), aw_lcmp (pc2 := 49) D187_48 rfl, aw_if_ne (pc2 := 52) (t := 56) D187_49 (by decide) rfl, refV_s, refV_n, psh_s, psh_n, kil_i, kil_r, kil_n, kil_l, cat_i, cat_r, iOK_1, iOK_5, jOK_2, jOK_6, wOK_e, lOK_1, lOK_2, lOK_3, lOK_4, lOK_5, lOK_6, catS_0, catS_1, catS_2, catS_3, catS_4, and_self, true_and, and_true, true_or, or_true, false_or, or_false, not_true_eq_false, not_false_eq_true, if_true, if_false, ite_int, ite_int0, au_10, eq_self, decide_true, decide_false, Bool.true_and, Bool.false_and, sh_122, M_sums0 hb hs c1 hl, lg_cmp_eq, hz _ ha63]
        by_cases h0 : sumW (wRow (σ.1 b)) (rowT (σ.1 b) g) (2 ^ (σ.1 b).N) = 0
        · rw [if_pos h0] at hk
          rw [if_neg (fun q => q h0)]
          simp only [aw_bipush (pc2 := 54) (y := -7) D187_52 rfl (by decide), aw_istore_4 (pc2 := 56) D187_54 rfl, aw_iload_4 (pc2 := 58) D187_56 rfl, aw_if_eq (pc2 := 61) (t := 71) D187_58 (by decide) rfl, aw_aload_0 (pc2 := 62) D187_61 rfl, aw_iload_4 (pc2 := 64) D187_62 rfl, aw_iv1_0 (pc2 := 67) (o := 7) D187_64 rfl cT_7_154 rfl rfl, aw_istore_7 (pc2 := 69) D187_67 rfl, aw_lconst (pc2 := 70) (y := 0) D187_69 rfl (by decide), aw_lret D187_70 rfl, refV_s, refV_n, psh_s, psh_n, kil_i, kil_r, kil_n, kil_l, cat_i, cat_r, iOK_1, iOK_5, jOK_2, jOK_6, wOK_e, lOK_1, lOK_2, lOK_3, lOK_4, lOK_5, lOK_6, catS_0, catS_1, catS_2, catS_3, catS_4, and_self, true_and, and_true, true_or, or_true, false_or, or_false, not_true_eq_false, not_false_eq_true, if_true, if_false, ite_int, ite_int0, au_10, eq_self, decide_true, decide_false, Bool.true_and, Bool.false_and, sh_122, M_no7, au_n7]
          exact hk _ J (c1.ref (by omega) (by omega)) (FrM.tr hf (FrM.up (by omega))) FrM.rf
        · rw [if_neg h0] at hk
          rw [if_pos h0]
          have key := hk I' J c1 hf FrM.rf
          have hg0 : 0 < Nat.gcd (sumW (wRow (σ.1 b)) (rowT (σ.1 b) g) (2 ^ (σ.1 b).N)) (sumW (wRow (σ.1 b)) (fun r => rowT (σ.1 b) g r && hld (σ.1 b).N s.toInt r) (2 ^ (σ.1 b).N)) := Nat.gcd_pos_of_pos_left _ (by omega)
          have hg63 := Nat.lt_of_le_of_lt (Nat.gcd_le_left (sumW (wRow (σ.1 b)) (fun r => rowT (σ.1 b) g r && hld (σ.1 b).N s.toInt r) (2 ^ (σ.1 b).N)) (show 0 < sumW (wRow (σ.1 b)) (rowT (σ.1 b) g) (2 ^ (σ.1 b).N) by omega)) ha63
          have hgz := eq_false (Nat.ne_of_gt hg0)
          simp only [aw_iload_4 (pc2 := 58) D187_56 rfl, aw_if_eq (pc2 := 61) (t := 71) D187_58 (by decide) rfl, aw_aload_0 (pc2 := 72) D187_71 rfl, aw_iload_1 (pc2 := 73) D187_72 rfl, aw_iload_2 (pc2 := 74) D187_73 rfl, aw_iv2_0 (pc2 := 77) (o := 7) D187_74 rfl cT_7_307 rfl rfl, aw_lstore_7 (pc2 := 79) D187_77 rfl, aw_lload_5 (pc2 := 81) D187_79 rfl, aw_lstore_9 (pc2 := 83) D187_81 rfl, aw_lload_7 (pc2 := 85) D187_83 rfl, aw_lstore_11 (pc2 := 87) D187_85 rfl, refV_s, refV_n, psh_s, psh_n, kil_i, kil_r, kil_n, kil_l, cat_i, cat_r, iOK_1, iOK_5, jOK_2, jOK_6, wOK_e, lOK_1, lOK_2, lOK_3, lOK_4, lOK_5, lOK_6, catS_0, catS_1, catS_2, catS_3, catS_4, and_self, true_and, and_true, true_or, or_true, false_or, or_false, not_true_eq_false, not_false_eq_true, if_true, if_false, ite_int, ite_int0, au_10, eq_self, decide_true, decide_false, Bool.true_and, Bool.false_and, sh_122, M_sumsS i1 i2 i3 i4 ho.1 hb hs c1 hl]
          refine M_gcd _ _ _ _ 0 _ _ _ _ nv _ _ hs63 ha63 (fun w1 w2 => ?_)
          simp only [aw_iload_3 (pc2 := 113) D187_112 rfl, aw_if_eq (pc2 := 116) (t := 124) D187_113 (by decide) rfl, refV_s, refV_n, psh_s, psh_n, kil_i, kil_r, kil_n, kil_l, cat_i, cat_r, iOK_1, iOK_5, jOK_2, jOK_6, wOK_e, lOK_1, lOK_2, lOK_3, lOK_4, lOK_5, lOK_6, catS_0, catS_1, catS_2, catS_3, catS_4, and_self, true_and, and_true, true_or, or_true, false_or, or_false, not_true_eq_false, not_false_eq_true, if_true, if_false, ite_int, ite_int0, au_10, eq_self, decide_true, decide_false, Bool.true_and, Bool.false_and, bI_0]
          cases lower
          · rw [if_pos rfl]
            simp only [aw_lload_7 (pc2 := 126) D187_124 rfl, aw_lload_9 (pc2 := 128) D187_126 rfl, aw_ldiv (pc2 := 129) D187_128 rfl, aw_lret D187_129 rfl, refV_s, refV_n, psh_s, psh_n, kil_i, kil_r, kil_n, kil_l, cat_i, cat_r, iOK_1, iOK_5, jOK_2, jOK_6, wOK_e, lOK_1, lOK_2, lOK_3, lOK_4, lOK_5, lOK_6, catS_0, catS_1, catS_2, catS_3, catS_4, and_self, true_and, and_true, true_or, or_true, false_or, or_false, not_true_eq_false, not_false_eq_true, if_true, if_false, ite_int, ite_int0, au_10, eq_self, decide_true, decide_false, Bool.true_and, Bool.false_and, hz _ hg63, hgz, pk_lDiv hs63 hg0 hg63]
            exact key
          · rw [if_neg (by decide)]
            simp only [aw_lload_5 (pc2 := 118) D187_116 rfl, aw_lload_9 (pc2 := 120) D187_118 rfl, aw_ldiv (pc2 := 121) D187_120 rfl, aw_goto (t := 129) D187_121 (by decide), aw_lload_7 (pc2 := 126) D187_124 rfl, aw_lload_9 (pc2 := 128) D187_126 rfl, aw_ldiv (pc2 := 129) D187_128 rfl, aw_lret D187_129 rfl, refV_s, refV_n, psh_s, psh_n, kil_i, kil_r, kil_n, kil_l, cat_i, cat_r, iOK_1, iOK_5, jOK_2, jOK_6, wOK_e, lOK_1, lOK_2, lOK_3, lOK_4, lOK_5, lOK_6, catS_0, catS_1, catS_2, catS_3, catS_4, and_self, true_and, and_true, true_or, or_true, false_or, or_false, not_true_eq_false, not_false_eq_true, if_true, if_false, ite_int, ite_int0, au_10, eq_self, decide_true, decide_false, Bool.true_and, Bool.false_and, hz _ hg63, hgz, pk_lDiv ha63 hg0 hg63]
            exact key
    · rw [if_neg ho] at hk
      simp only [aw_iload_1 (pc2 := 1) D187_0 rfl, aw_is1_2 (pc2 := 4) D187_1 rfl cT_7_150 rfl, aw_if_eq (pc2 := 7) (t := 16) D187_4 (by decide) rfl, aw_aload_0 (pc2 := 8) D187_7 rfl, aw_iload_1 (pc2 := 9) D187_8 rfl, aw_iload_2 (pc2 := 10) D187_9 rfl, aw_iv2_0 (pc2 := 13) (o := 7) D187_10 rfl cT_7_163 rfl rfl, aw_if_ne (pc2 := 16) (t := 21) D187_13 (by decide) rfl, aw_bipush (pc2 := 18) (y := -3) D187_16 rfl (by decide), aw_goto (t := 26) D187_18 (by decide), aw_aload_0 (pc2 := 22) D187_21 rfl, aw_iload_1 (pc2 := 23) D187_22 rfl, aw_iv1_0 (pc2 := 26) (o := 7) D187_23 rfl cT_7_297 rfl rfl, aw_istore_4 (pc2 := 28) D187_26 rfl, aw_iload_4 (pc2 := 30) D187_28 rfl, aw_if_ne (pc2 := 33) (t := 42) D187_30 (by decide) rfl, aw_aload_0 (pc2 := 34) D187_33 rfl, aw_iload_1 (pc2 := 35) D187_34 rfl, aw_iconst (pc2 := 36) (y := 0) D187_35 rfl (by decide), aw_iv2_0 (pc2 := 39) (o := 7) D187_36 rfl cT_7_307 rfl rfl, aw_goto (t := 43) D187_39 (by decide), aw_lconst (pc2 := 43) (y := 1) D187_42 rfl (by decide), aw_lstore_5 (pc2 := 45) D187_43 rfl, aw_lload_5 (pc2 := 47) D187_45 rfl, aw_lconst (pc2 := 48) (y := 0) D187_47 rfl (by decide), aw_lcmp (pc2 := 49) D187_48 rfl, aw_if_ne (pc2 := 52) (t := 56) D187_49 (by decide) rfl, aw_bipush (pc2 := 54) (y := -7) D187_52 rfl (by decide), aw_istore_4 (pc2 := 56) D187_54 rfl, aw_iload_4 (pc2 := 58) D187_56 rfl, aw_if_eq (pc2 := 61) (t := 71) D187_58 (by decide) rfl, aw_aload_0 (pc2 := 62) D187_61 rfl, aw_iload_4 (pc2 := 64) D187_62 rfl, aw_iv1_0 (pc2 := 67) (o := 7) D187_64 rfl cT_7_154 rfl rfl, aw_istore_7 (pc2 := 69) D187_67 rfl, aw_lconst (pc2 := 70) (y := 0) D187_69 rfl (by decide), aw_lret D187_70 rfl, refV_s, refV_n, psh_s, psh_n, kil_i, kil_r, kil_n, kil_l, cat_i, cat_r, iOK_1, iOK_5, jOK_2, jOK_6, wOK_e, lOK_1, lOK_2, lOK_3, lOK_4, lOK_5, lOK_6, catS_0, catS_1, catS_2, catS_3, catS_4, and_self, true_and, and_true, true_or, or_true, false_or, or_false, not_true_eq_false, not_false_eq_true, if_true, if_false, ite_int, ite_int0, au_10, eq_self, decide_true, decide_false, Bool.true_and, Bool.false_and, sh_122, M_isBk hb, M_isSign hb hh.1, if_neg ho, M_no3, au_n3, lg_cmp_eq, l10]
      first | exact hk.ref h (by omega) (by omega) | exact hk.same h
end OpsMF
