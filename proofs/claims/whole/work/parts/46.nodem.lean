section NodeM
variable {d Ln : Nat} {I : IT} {J : JT} {K : KT} {σ : SG}
theorem M_why3 {x k : Int32} (x0 : ¬ x = 0) (x1 : ¬ x = 1) : ACall (d + 2) 165 [.ref 122, .int x, .int k] (G0 Ln) I J K ↔ K (some (.int (-3))) (G0 Ln) I J := by
  rw [ACall_0 (L0 := [.ref 122, .int x, .int k]) (show mcs 165 = (0, 0) from rfl) (show entL 165 [.ref 122, .int x, .int k] = _ from rfl) rfl (Nat.le_of_ble_eq_true rfl)]
  simp only [aw_iload_1 (pc2 := 1) D165_0 rfl, aw_is1_2 (pc2 := 4) D165_1 rfl cT_7_150 rfl, aw_if_ne (pc2 := 7) (t := 10) D165_4 (by decide) rfl, aw_bipush (pc2 := 9) (y := -3) D165_7 rfl (by decide), aw_iret D165_9 rfl, sh_122, rf_122_8, sh_131, refV_s, refV_n, psh_s, psh_n, kil_i, kil_r, kil_n, kil_l, cat_i, cat_r, iOK_1, iOK_5, jOK_2, jOK_6, wOK_e, lOK_1, lOK_2, lOK_3, lOK_4, catS_0, catS_1, catS_2, catS_3, catS_4, and_self, true_and, and_true, true_or, or_true, false_or, or_false, not_true_eq_false, not_false_eq_true, if_true, if_false, ite_int, ite_int0, au_10, eq_self, M_isBook, x0, x1, or_self]
theorem M_why2 {b : Nat} {k : Int32} (hb : b < 2) (h : I 131 b = 0) : ACall (d + 2) 165 [.ref 122, .int (nI b), .int k] (G0 Ln) I J K ↔ K (some (.int (-2))) (G0 Ln) I J := by
  rw [ACall_0 (L0 := [.ref 122, .int (nI b), .int k]) (show mcs 165 = (0, 0) from rfl) (show entL 165 [.ref 122, .int (nI b), .int k] = _ from rfl) rfl (Nat.le_of_ble_eq_true rfl)]
  simp (disch := omega) only [aw_iload_1 (pc2 := 1) D165_0 rfl, aw_is1_2 (pc2 := 4) D165_1 rfl cT_7_150 rfl, aw_if_ne (pc2 := 7) (t := 10) D165_4 (by decide) rfl, aw_bipush (pc2 := 9) (y := -3) D165_7 rfl (by decide), aw_iret D165_9 rfl, aw_aload_0 (pc2 := 11) D165_10 rfl, aw_getR (pc2 := 14) (ci := 7) (fk := 8) D165_11 rfl fT_7_34 rfl, aw_iload_1 (pc2 := 15) D165_14 rfl, aw_iaload (pc2 := 16) D165_15 rfl, aw_if_ne (pc2 := 19) (t := 22) D165_16 (by decide) rfl, aw_bipush (pc2 := 21) (y := -2) D165_19 rfl (by decide), aw_iret D165_21 rfl, sh_122, rf_122_8, sh_131, refV_s, refV_n, psh_s, psh_n, kil_i, kil_r, kil_n, kil_l, cat_i, cat_r, iOK_1, iOK_5, jOK_2, jOK_6, wOK_e, lOK_1, lOK_2, lOK_3, lOK_4, catS_0, catS_1, catS_2, catS_3, catS_4, and_self, true_and, and_true, true_or, or_true, false_or, or_false, not_true_eq_false, not_false_eq_true, if_true, if_false, ite_int, ite_int0, au_10, eq_self, M_isBk hb, au_in, nI_clamp, h]
theorem M_why {b n : Nat} {k : Int32} (hb : b < 2) (h : I 131 b = nI n) (h0 : 0 < n) (h1 : n < 2 ^ 30) : ACall (d + 2) 165 [.ref 122, .int (nI b), .int k] (G0 Ln) I J K ↔ K (some (.int (if 0 ≤ k ∧ k < nI n then 0 else -3))) (G0 Ln) I J := by
  rw [ACall_0 (L0 := [.ref 122, .int (nI b), .int k]) (show mcs 165 = (0, 0) from rfl) (show entL 165 [.ref 122, .int (nI b), .int k] = _ from rfl) rfl (Nat.le_of_ble_eq_true rfl)]
  simp (disch := omega) only [aw_iload_1 (pc2 := 1) D165_0 rfl, aw_is1_2 (pc2 := 4) D165_1 rfl cT_7_150 rfl, aw_if_ne (pc2 := 7) (t := 10) D165_4 (by decide) rfl, aw_bipush (pc2 := 9) (y := -3) D165_7 rfl (by decide), aw_iret D165_9 rfl, aw_aload_0 (pc2 := 11) D165_10 rfl, aw_getR (pc2 := 14) (ci := 7) (fk := 8) D165_11 rfl fT_7_34 rfl, aw_iload_1 (pc2 := 15) D165_14 rfl, aw_iaload (pc2 := 16) D165_15 rfl, aw_if_ne (pc2 := 19) (t := 22) D165_16 (by decide) rfl, aw_bipush (pc2 := 21) (y := -2) D165_19 rfl (by decide), aw_iret D165_21 rfl, aw_iload_2 (pc2 := 23) D165_22 rfl, aw_i2l (pc2 := 24) D165_23 rfl, aw_lconst (pc2 := 25) (y := 0) D165_24 rfl (by decide), aw_aload_0 (pc2 := 26) D165_25 rfl, aw_getR (pc2 := 29) (ci := 7) (fk := 8) D165_26 rfl fT_7_34 rfl, aw_iload_1 (pc2 := 30) D165_29 rfl, aw_iaload (pc2 := 31) D165_30 rfl, aw_iconst (pc2 := 32) (y := 1) D165_31 rfl (by decide), aw_isub (pc2 := 33) D165_32 rfl, aw_i2l (pc2 := 34) D165_33 rfl, aw_is3_2 (pc2 := 37) D165_34 rfl cT_7_146 rfl, aw_if_eq (pc2 := 40) (t := 44) D165_37 (by decide) rfl, aw_iconst (pc2 := 41) (y := 0) D165_40 rfl (by decide), aw_goto (t := 46) D165_41 (by decide), aw_bipush (pc2 := 46) (y := -3) D165_44 rfl (by decide), aw_iret D165_46 rfl, sh_122, rf_122_8, sh_131, refV_s, refV_n, psh_s, psh_n, kil_i, kil_r, kil_n, kil_l, cat_i, cat_r, iOK_1, iOK_5, jOK_2, jOK_6, wOK_e, lOK_1, lOK_2, lOK_3, lOK_4, catS_0, catS_1, catS_2, catS_3, catS_4, and_self, true_and, and_true, true_or, or_true, false_or, or_false, not_true_eq_false, not_false_eq_true, if_true, if_false, ite_int, ite_int0, au_10, eq_self, M_isBk hb, M_isIn, au_in, nI_clamp, h, e0L, fa_wide_le, in_count, au_eq0, au_eqF]
  split <;> rfl
theorem M_wpN {x k j v : Int32} (hv : ¬ v = 0) (h : ∀ {K' : KT}, ACall (d + 2) 165 [.ref 122, .int x, .int k] (G0 Ln) I J K' ↔ K' (some (.int v)) (G0 Ln) I J) : ACall (d + 3) 168 [.ref 122, .int x, .int k, .int j] (G0 Ln) I J K ↔ K (some (.int v)) (G0 Ln) I J := by
  rw [ACall_0 (L0 := [.ref 122, .int x, .int k, .int j, nv, nv]) (show mcs 168 = (0, 0) from rfl) (show entL 168 [.ref 122, .int x, .int k, .int j] = _ from rfl) rfl (Nat.le_of_ble_eq_true rfl)]
  simp only [aw_aload_0 (pc2 := 1) D168_0 rfl, aw_iload_1 (pc2 := 2) D168_1 rfl, aw_iload_2 (pc2 := 3) D168_2 rfl, aw_iv2_0 (pc2 := 6) (o := 7) D168_3 rfl cT_7_266 rfl rfl, aw_istore_4 (pc2 := 8) D168_6 rfl, aw_iload_4 (pc2 := 10) D168_8 rfl, aw_if_eq (pc2 := 13) (t := 16) D168_10 (by decide) rfl, aw_iload_4 (pc2 := 15) D168_13 rfl, aw_iret D168_15 rfl, sh_122, lit_1500, rf_122_11, sh_134, lit_3, rf_122_14, sh_137, refV_s, refV_n, psh_s, psh_n, kil_i, kil_r, kil_n, kil_l, cat_i, cat_r, iOK_1, iOK_5, jOK_2, jOK_6, wOK_e, lOK_1, lOK_2, lOK_3, lOK_4, catS_0, catS_1, catS_2, catS_3, catS_4, and_self, true_and, and_true, true_or, or_true, false_or, or_false, not_true_eq_false, not_false_eq_true, if_true, if_false, ite_int, ite_int0, au_10, eq_self, h, if_neg hv]
theorem M_wpK {b i c : Nat} {j : Int32} (hb : b < 2) (hi : i < 1500) (hc : c < 3) (h11 : I 134 (1500 * b + i) = nI c) (h : ∀ {K' : KT}, ACall (d + 2) 165 [.ref 122, .int (nI b), .int (nI i)] (G0 Ln) I J K' ↔ K' (some (.int 0)) (G0 Ln) I J) : ACall (d + 3) 168 [.ref 122, .int (nI b), .int (nI i), .int j] (G0 Ln) I J K ↔ K (some (.int (-5))) (G0 Ln) I J := by
  rw [ACall_0 (L0 := [.ref 122, .int (nI b), .int (nI i), .int j, nv, nv]) (show mcs 168 = (0, 0) from rfl) (show entL 168 [.ref 122, .int (nI b), .int (nI i), .int j] = _ from rfl) rfl (Nat.le_of_ble_eq_true rfl)]
  simp (disch := omega) only [aw_aload_0 (pc2 := 1) D168_0 rfl, aw_iload_1 (pc2 := 2) D168_1 rfl, aw_iload_2 (pc2 := 3) D168_2 rfl, aw_iv2_0 (pc2 := 6) (o := 7) D168_3 rfl cT_7_266 rfl rfl, aw_istore_4 (pc2 := 8) D168_6 rfl, aw_iload_4 (pc2 := 10) D168_8 rfl, aw_if_eq (pc2 := 13) (t := 16) D168_10 (by decide) rfl, aw_iload_4 (pc2 := 15) D168_13 rfl, aw_iret D168_15 rfl, aw_sipush (pc2 := 19) (y := 1500) D168_16 rfl (by decide), aw_iload_1 (pc2 := 20) D168_19 rfl, aw_imul (pc2 := 21) D168_20 rfl, aw_iload_2 (pc2 := 22) D168_21 rfl, aw_iadd (pc2 := 23) D168_22 rfl, aw_istore_5 (pc2 := 25) D168_23 rfl, aw_aload_0 (pc2 := 26) D168_25 rfl, aw_getR (pc2 := 29) (ci := 7) (fk := 11) D168_26 rfl fT_7_43 rfl, aw_iload_5 (pc2 := 31) D168_29 rfl, aw_iaload (pc2 := 32) D168_31 rfl, aw_iconst (pc2 := 33) (y := 3) D168_32 rfl (by decide), aw_icmp_ge (pc2 := 36) (t := 39) D168_33 (by decide) rfl, aw_bipush (pc2 := 38) (y := -5) D168_36 rfl (by decide), aw_iret D168_38 rfl, sh_122, lit_1500, rf_122_11, sh_134, lit_3, rf_122_14, sh_137, refV_s, refV_n, psh_s, psh_n, kil_i, kil_r, kil_n, kil_l, cat_i, cat_r, iOK_1, iOK_5, jOK_2, jOK_6, wOK_e, lOK_1, lOK_2, lOK_3, lOK_4, catS_0, catS_1, catS_2, catS_3, catS_4, and_self, true_and, and_true, true_or, or_true, false_or, or_false, not_true_eq_false, not_false_eq_true, if_true, if_false, ite_int, ite_int0, au_10, eq_self, au_in, au_le, au_lt, au_eq, au_lt0, au_ge0, au_le0, au_gt0, au_eq0, au_leT, au_leF, au_ltT, au_ltF, au_eqT, au_eqF, nI_clamp, nI_1, nI_add, pk_mul, au_sub1, au_subc, au_up2e, au_up2n, lit_of, lit_1500, h, h11]
theorem M_wp {b i c n : Nat} {j : Int32} (hb : b < 2) (hi : i < 1500) (hc : 3 ≤ c) (hc4 : c ≤ 4) (hn : n ≤ 12) (h11 : I 134 (1500 * b + i) = nI c) (h14 : I 137 (1500 * b + i) = nI n) (h : ∀ {K' : KT}, ACall (d + 2) 165 [.ref 122, .int (nI b), .int (nI i)] (G0 Ln) I J K' ↔ K' (some (.int 0)) (G0 Ln) I J) : ACall (d + 3) 168 [.ref 122, .int (nI b), .int (nI i), .int j] (G0 Ln) I J K ↔ K (some (.int (if 0 ≤ j ∧ j < nI n then 0 else -3))) (G0 Ln) I J := by
  rw [ACall_0 (L0 := [.ref 122, .int (nI b), .int (nI i), .int j, nv, nv]) (show mcs 168 = (0, 0) from rfl) (show entL 168 [.ref 122, .int (nI b), .int (nI i), .int j] = _ from rfl) rfl (Nat.le_of_ble_eq_true rfl)]
  simp (disch := omega) only [aw_aload_0 (pc2 := 1) D168_0 rfl, aw_iload_1 (pc2 := 2) D168_1 rfl, aw_iload_2 (pc2 := 3) D168_2 rfl, aw_iv2_0 (pc2 := 6) (o := 7) D168_3 rfl cT_7_266 rfl rfl, aw_istore_4 (pc2 := 8) D168_6 rfl, aw_iload_4 (pc2 := 10) D168_8 rfl, aw_if_eq (pc2 := 13) (t := 16) D168_10 (by decide) rfl, aw_iload_4 (pc2 := 15) D168_13 rfl, aw_iret D168_15 rfl, aw_sipush (pc2 := 19) (y := 1500) D168_16 rfl (by decide), aw_iload_1 (pc2 := 20) D168_19 rfl, aw_imul (pc2 := 21) D168_20 rfl, aw_iload_2 (pc2 := 22) D168_21 rfl, aw_iadd (pc2 := 23) D168_22 rfl, aw_istore_5 (pc2 := 25) D168_23 rfl, aw_aload_0 (pc2 := 26) D168_25 rfl, aw_getR (pc2 := 29) (ci := 7) (fk := 11) D168_26 rfl fT_7_43 rfl, aw_iload_5 (pc2 := 31) D168_29 rfl, aw_iaload (pc2 := 32) D168_31 rfl, aw_iconst (pc2 := 33) (y := 3) D168_32 rfl (by decide), aw_icmp_ge (pc2 := 36) (t := 39) D168_33 (by decide) rfl, aw_bipush (pc2 := 38) (y := -5) D168_36 rfl (by decide), aw_iret D168_38 rfl, aw_iload_3 (pc2 := 40) D168_39 rfl, aw_i2l (pc2 := 41) D168_40 rfl, aw_lconst (pc2 := 42) (y := 0) D168_41 rfl (by decide), aw_aload_0 (pc2 := 43) D168_42 rfl, aw_getR (pc2 := 46) (ci := 7) (fk := 14) D168_43 rfl fT_7_52 rfl, aw_iload_5 (pc2 := 48) D168_46 rfl, aw_iaload (pc2 := 49) D168_48 rfl, aw_iconst (pc2 := 50) (y := 1) D168_49 rfl (by decide), aw_isub (pc2 := 51) D168_50 rfl, aw_i2l (pc2 := 52) D168_51 rfl, aw_is3_2 (pc2 := 55) D168_52 rfl cT_7_146 rfl, aw_if_eq (pc2 := 58) (t := 62) D168_55 (by decide) rfl, aw_iconst (pc2 := 59) (y := 0) D168_58 rfl (by decide), aw_goto (t := 64) D168_59 (by decide), aw_bipush (pc2 := 64) (y := -3) D168_62 rfl (by decide), aw_iret D168_64 rfl, sh_122, lit_1500, rf_122_11, sh_134, lit_3, rf_122_14, sh_137, refV_s, refV_n, psh_s, psh_n, kil_i, kil_r, kil_n, kil_l, cat_i, cat_r, iOK_1, iOK_5, jOK_2, jOK_6, wOK_e, lOK_1, lOK_2, lOK_3, lOK_4, catS_0, catS_1, catS_2, catS_3, catS_4, and_self, true_and, and_true, true_or, or_true, false_or, or_false, not_true_eq_false, not_false_eq_true, if_true, if_false, ite_int, ite_int0, au_10, eq_self, lit_1500, h, h11, h14, M_isIn, au_in, nI_clamp, pk_mul, nI_add, au_lt, au_le, au_ltF, au_leT, au_leF, e0L, fa_wide_le, in_count]
  split <;> rfl
theorem MO_root {x : Int32} (hs : sgOK σ) (h : MInv σ I) (hk : MPost Ln I J K (oRoot σ x)) : ACall (d + 2) 164 [.ref 122, .int x] (G0 Ln) I J K := by
  rw [ACall_0 (L0 := [.ref 122, .int x]) (show mcs 164 = (0, 0) from rfl) (show entL 164 [.ref 122, .int x] = _ from rfl) rfl (Nat.le_of_ble_eq_true rfl)]
  unfold oRoot at hk
  cases hx : bkOf x with
  | none =>
    simp only [hx] at hk
    obtain ⟨x0, x1⟩ := bkOf_none hx
    simp only [aw_iload_1 (pc2 := 1) D164_0 rfl, aw_is1_2 (pc2 := 4) D164_1 rfl cT_7_150 rfl, aw_if_ne (pc2 := 7) (t := 14) D164_4 (by decide) rfl, aw_aload_0 (pc2 := 8) D164_7 rfl, aw_bipush (pc2 := 10) (y := -3) D164_8 rfl (by decide), aw_iv1_0 (pc2 := 13) (o := 7) D164_10 rfl cT_7_154 rfl rfl, aw_iret D164_13 rfl, sh_122, rf_122_8, sh_131, rf_122_9, sh_132, refV_s, refV_n, psh_s, psh_n, kil_i, kil_r, kil_n, kil_l, cat_i, cat_r, iOK_1, iOK_5, jOK_2, jOK_6, wOK_e, lOK_1, lOK_2, lOK_3, lOK_4, catS_0, catS_1, catS_2, catS_3, catS_4, and_self, true_and, and_true, true_or, or_true, false_or, or_false, not_true_eq_false, not_false_eq_true, if_true, if_false, ite_int, ite_int0, au_10, eq_self, M_isBook, M_no3, x0, x1, or_self]
    exact hk.ref h (by omega) (by omega)
  | some b =>
    simp only [hx] at hk
    obtain ⟨hb, rfl⟩ := bkOf_some hx
    have hg := (h.1 b hb).2.2.2.2.2.2.2
    unfold MGo at hg
    cases e : (σ.1 b).g with
    | none =>
      rw [e] at hg
      simp only [e] at hk
      simp (disch := omega) only [aw_iload_1 (pc2 := 1) D164_0 rfl, aw_is1_2 (pc2 := 4) D164_1 rfl cT_7_150 rfl, aw_if_ne (pc2 := 7) (t := 14) D164_4 (by decide) rfl, aw_aload_0 (pc2 := 8) D164_7 rfl, aw_bipush (pc2 := 10) (y := -3) D164_8 rfl (by decide), aw_iv1_0 (pc2 := 13) (o := 7) D164_10 rfl cT_7_154 rfl rfl, aw_iret D164_13 rfl, aw_aload_0 (pc2 := 15) D164_14 rfl, aw_getR (pc2 := 18) (ci := 7) (fk := 8) D164_15 rfl fT_7_34 rfl, aw_iload_1 (pc2 := 19) D164_18 rfl, aw_iaload (pc2 := 20) D164_19 rfl, aw_if_le (pc2 := 23) (t := 32) D164_20 (by decide) rfl, aw_aload_0 (pc2 := 24) D164_23 rfl, aw_getR (pc2 := 27) (ci := 7) (fk := 9) D164_24 rfl fT_7_37 rfl, aw_iload_1 (pc2 := 28) D164_27 rfl, aw_iaload (pc2 := 29) D164_28 rfl, aw_goto (t := 38) D164_29 (by decide), aw_aload_0 (pc2 := 33) D164_32 rfl, aw_bipush (pc2 := 35) (y := -2) D164_33 rfl (by decide), aw_iv1_0 (pc2 := 38) (o := 7) D164_35 rfl cT_7_154 rfl rfl, aw_iret D164_38 rfl, sh_122, rf_122_8, sh_131, rf_122_9, sh_132, refV_s, refV_n, psh_s, psh_n, kil_i, kil_r, kil_n, kil_l, cat_i, cat_r, iOK_1, iOK_5, jOK_2, jOK_6, wOK_e, lOK_1, lOK_2, lOK_3, lOK_4, catS_0, catS_1, catS_2, catS_3, catS_4, and_self, true_and, and_true, true_or, or_true, false_or, or_false, not_true_eq_false, not_false_eq_true, if_true, if_false, ite_int, ite_int0, au_10, eq_self, M_isBk hb, M_no2, au_in, nI_clamp, hg, if_pos (show (0 : Int32) ≤ 0 by decide)]
      exact hk.ref h (by omega) (by omega)
    | some g =>
      rw [e] at hg
      simp only [e] at hk
      have hgo := gr_get hs hb e
      simp (disch := omega) only [aw_iload_1 (pc2 := 1) D164_0 rfl, aw_is1_2 (pc2 := 4) D164_1 rfl cT_7_150 rfl, aw_if_ne (pc2 := 7) (t := 14) D164_4 (by decide) rfl, aw_aload_0 (pc2 := 8) D164_7 rfl, aw_bipush (pc2 := 10) (y := -3) D164_8 rfl (by decide), aw_iv1_0 (pc2 := 13) (o := 7) D164_10 rfl cT_7_154 rfl rfl, aw_iret D164_13 rfl, aw_aload_0 (pc2 := 15) D164_14 rfl, aw_getR (pc2 := 18) (ci := 7) (fk := 8) D164_15 rfl fT_7_34 rfl, aw_iload_1 (pc2 := 19) D164_18 rfl, aw_iaload (pc2 := 20) D164_19 rfl, aw_if_le (pc2 := 23) (t := 32) D164_20 (by decide) rfl, aw_aload_0 (pc2 := 24) D164_23 rfl, aw_getR (pc2 := 27) (ci := 7) (fk := 9) D164_24 rfl fT_7_37 rfl, aw_iload_1 (pc2 := 28) D164_27 rfl, aw_iaload (pc2 := 29) D164_28 rfl, aw_goto (t := 38) D164_29 (by decide), aw_aload_0 (pc2 := 33) D164_32 rfl, aw_bipush (pc2 := 35) (y := -2) D164_33 rfl (by decide), aw_iv1_0 (pc2 := 38) (o := 7) D164_35 rfl cT_7_154 rfl rfl, aw_iret D164_38 rfl, sh_122, rf_122_8, sh_131, rf_122_9, sh_132, refV_s, refV_n, psh_s, psh_n, kil_i, kil_r, kil_n, kil_l, cat_i, cat_r, iOK_1, iOK_5, jOK_2, jOK_6, wOK_e, lOK_1, lOK_2, lOK_3, lOK_4, catS_0, catS_1, catS_2, catS_3, catS_4, and_self, true_and, and_true, true_or, or_true, false_or, or_false, not_true_eq_false, not_false_eq_true, if_true, if_false, ite_int, ite_int0, au_10, eq_self, M_isBk hb, M_no2, au_in, nI_clamp, hg.1, hg.2.1, if_neg (nI_nle (show 0 < g.1.length by have := hgo.1; omega) (by have := hgo.2.1; omega))]
      exact hk.same h
/-- a cell of the model that no book and no row lies in is written -/
theorem MInv.tmp {I I' : IT} (h : MInv σ I) (ho : ∀ c, c ≠ 158 → I' c = I c) : MInv σ I' := by
  obtain ⟨h1, h3, h4, h5⟩ := h
  refine ⟨fun b hb => ?_, ?_, fun k a b => by rw [ho 130 (by omega)]; exact h4 k a b, by rw [ho 122 (by omega)]; exact h5⟩
  · have := h1 b hb
    unfold MB MGo MG at this ⊢
    simp only [ho 123 (by omega), ho 124 (by omega), ho 125 (by omega), ho 126 (by omega), ho 127 (by omega), ho 128 (by omega), ho 129 (by omega), ho 131 (by omega), ho 132 (by omega), ho 133 (by omega), ho 134 (by omega), ho 135 (by omega), ho 136 (by omega), ho 137 (by omega), ho 138 (by omega), ho 159 (by omega), ho 161 (by omega)]
    exact this
  · rw [ho 122 (by omega), ho 163 (by omega)]; exact h3
theorem M_findLetters {b N : Nat} {g : GR} (hb : b < 2) (hN : N ≤ 12) (hgo : grOK N g) (h1 : I 131 b = nI g.1.length) (hg : MG b N g I) (hk : ∀ I', (∀ c, c ≠ 158 → I' c = I c) → (∀ i, i < g.1.length → I' 158 i = nI (lts g i)) → K none (G0 Ln) I' J) : ACall (d + 2) 166 [.ref 122, .int (nI b)] (G0 Ln) I J K := by
  rw [ACall_0 (L0 := [.ref 122, .int (nI b), nv, nv, nv, nv]) (show mcs 166 = (0, 0) from rfl) (show entL 166 [.ref 122, .int (nI b)] = _ from rfl) rfl (Nat.le_of_ble_eq_true rfl)]
  have h15 := hgo.2.1
  have key : ∀ m k I', k + m = g.1.length → (∀ c, c ≠ 158 → I' c = I c) → (∀ i, i < k → I' 158 i = nI (lts g i)) → ∀ v3 v4 v5, kil v3 = v3 → kil v4 = v4 → kil v5 = v5 → AW (d + 1) ((G0 Ln).1, (G0 Ln).2.1) K 166 2 [.ref 122, .int (nI b), .int (nI k), v3, v4, v5] [] (G0 Ln) I' J := by
    intro m
    induction m with
    | zero =>
      intro k I' hk2 ho hl v3 v4 v5 kv3 kv4 kv5
      have e : k = g.1.length := by omega
      subst e
      simp (disch := omega) only [aw_iload_2 (pc2 := 3) D166_2 rfl, aw_aload_0 (pc2 := 4) D166_3 rfl, aw_getR (pc2 := 7) (ci := 7) (fk := 8) D166_4 rfl fT_7_34 rfl, aw_iload_1 (pc2 := 8) D166_7 rfl, aw_iaload (pc2 := 9) D166_8 rfl, aw_icmp_ge (pc2 := 12) (t := 105) D166_9 (by decide) rfl, aw_vret D166_105 rfl, sh_122, rf_122_8, sh_131, lit_1500, rf_122_12, sh_135, rf_122_14, sh_137, rf_122_40, sh_158, rf_122_15, sh_138, rf_122_13, sh_136, refV_s, refV_n, psh_s, psh_n, kil_i, kil_r, kil_n, kil_l, cat_i, cat_r, iOK_1, iOK_5, jOK_2, jOK_6, wOK_e, lOK_1, lOK_2, lOK_3, lOK_4, catS_0, catS_1, catS_2, catS_3, catS_4, and_self, true_and, and_true, true_or, or_true, false_or, or_false, not_true_eq_false, not_false_eq_true, if_true, if_false, ite_int, ite_int0, au_10, eq_self, au_in, au_le, au_lt, au_eq, au_lt0, au_ge0, au_le0, au_gt0, au_eq0, au_leT, au_leF, au_ltT, au_ltF, au_eqT, au_eqF, nI_clamp, nI_1, nI_add, pk_mul, au_sub1, au_subc, au_up2e, au_up2n, lit_of, ho 131 (by omega), h1]
      exact hk I' ho hl
    | succ m ih =>
      intro k I' hk2 ho hl v3 v4 v5 kv3 kv4 kv5
      have hkl : k < g.1.length := by omega
      have hko := node_ok hgo hkl
      obtain ⟨w1, w2, w3, w4, w5⟩ := hg.2.2.1 k hkl
      have hpo := po_le hgo (show k ≤ g.1.length by omega)
      have hl12 := nd_len hko
      have hnm := nd_name hko hN
      obtain ⟨o1, o2, o3, o4⟩ := own_ok hnm.1 hnm.2
      have ihn := ih (k + 1)
      have st1 : AW (d + 1) ((G0 Ln).1, (G0 Ln).2.1) K 166 50 [.ref 122, .int (nI b), .int (nI k), .int (nI (1500 * b + k)), .int (nI (ownL (nodeAt g k).2.1)), .int (nI 0)] [] (G0 Ln) I' J := by
        have inner : ∀ q j, j + q = (nodeAt g k).2.2.length → AW (d + 1) ((G0 Ln).1, (G0 Ln).2.1) K 166 50 [.ref 122, .int (nI b), .int (nI k), .int (nI (1500 * b + k)), .int (nI (ltP (lts g) (nodeAt g k).2.2 (ownL (nodeAt g k).2.1) j)), .int (nI j)] [] (G0 Ln) I' J := by
          intro q
          induction q with
          | zero =>
            intro j hj
            have e : j = (nodeAt g k).2.2.length := by omega
            subst e
            simp (disch := omega) only [aw_iload_5 (pc2 := 52) D166_50 rfl, aw_aload_0 (pc2 := 53) D166_52 rfl, aw_getR (pc2 := 56) (ci := 7) (fk := 14) D166_53 rfl fT_7_52 rfl, aw_iload_3 (pc2 := 57) D166_56 rfl, aw_iaload (pc2 := 58) D166_57 rfl, aw_icmp_ge (pc2 := 61) (t := 91) D166_58 (by decide) rfl, aw_aload_0 (pc2 := 92) D166_91 rfl, aw_getR (pc2 := 95) (ci := 7) (fk := 40) D166_92 rfl fT_7_117 rfl, aw_iload_2 (pc2 := 96) D166_95 rfl, aw_iload_4 (pc2 := 98) D166_96 rfl, aw_iastore (pc2 := 99) D166_98 rfl, aw_iinc_2 (pc2 := 102) (y := 1) D166_99 rfl (by decide), aw_goto (t := 2) D166_102 (by decide), sh_122, rf_122_8, sh_131, lit_1500, rf_122_12, sh_135, rf_122_14, sh_137, rf_122_40, sh_158, rf_122_15, sh_138, rf_122_13, sh_136, refV_s, refV_n, psh_s, psh_n, kil_i, kil_r, kil_n, kil_l, cat_i, cat_r, iOK_1, iOK_5, jOK_2, jOK_6, wOK_e, lOK_1, lOK_2, lOK_3, lOK_4, catS_0, catS_1, catS_2, catS_3, catS_4, and_self, true_and, and_true, true_or, or_true, false_or, or_false, not_true_eq_false, not_false_eq_true, if_true, if_false, ite_int, ite_int0, au_10, eq_self, au_in, au_le, au_lt, au_eq, au_lt0, au_ge0, au_le0, au_gt0, au_eq0, au_leT, au_leF, au_ltT, au_ltF, au_eqT, au_eqF, nI_clamp, nI_1, nI_add, pk_mul, au_sub1, au_subc, au_up2e, au_up2n, lit_of, ho 137 (by omega), w3]
            refine ihn _ (by omega) (fun c hc => by rw [au_up2c hc]; exact ho c hc) (fun i hi => ?_) _ _ _ rfl rfl rfl
            by_cases e : i = k
            · simp (disch := omega) only [e, au_up2e]
              rw [ltP_fold, ← lts_step hko.1]
            · simp (disch := omega) only [au_up2n]; exact hl i (by omega)
          | succ q ihq =>
            intro j hj
            have hjl : j < (nodeAt g k).2.2.length := by omega
            have hlt := nd_part hko hjl
            have ihj := ihq (j + 1) (by omega)
            rw [ltP] at ihj
            rw [aw_iload_5 (pc2 := 52) D166_50 rfl]
            simp (disch := omega) only [aw_aload_0 (pc2 := 53) D166_52 rfl, aw_getR (pc2 := 56) (ci := 7) (fk := 14) D166_53 rfl fT_7_52 rfl, aw_iload_3 (pc2 := 57) D166_56 rfl, aw_iaload (pc2 := 58) D166_57 rfl, aw_icmp_ge (pc2 := 61) (t := 91) D166_58 (by decide) rfl, aw_iload_4 (pc2 := 63) D166_61 rfl, aw_aload_0 (pc2 := 64) D166_63 rfl, aw_getR (pc2 := 67) (ci := 7) (fk := 40) D166_64 rfl fT_7_117 rfl, aw_aload_0 (pc2 := 68) D166_67 rfl, aw_getR (pc2 := 71) (ci := 7) (fk := 15) D166_68 rfl fT_7_56 rfl, aw_aload_0 (pc2 := 72) D166_71 rfl, aw_getR (pc2 := 75) (ci := 7) (fk := 13) D166_72 rfl fT_7_49 rfl, aw_iload_3 (pc2 := 76) D166_75 rfl, aw_iaload (pc2 := 77) D166_76 rfl, aw_iload_5 (pc2 := 79) D166_77 rfl, aw_iadd (pc2 := 80) D166_79 rfl, aw_iaload (pc2 := 81) D166_80 rfl, aw_iaload (pc2 := 82) D166_81 rfl, aw_ior (pc2 := 83) D166_82 rfl, aw_istore_4 (pc2 := 85) D166_83 rfl, aw_iinc_5 (pc2 := 88) (y := 1) D166_85 rfl (by decide), aw_goto (t := 50) D166_88 (by decide), sh_122, rf_122_8, sh_131, lit_1500, rf_122_12, sh_135, rf_122_14, sh_137, rf_122_40, sh_158, rf_122_15, sh_138, rf_122_13, sh_136, refV_s, refV_n, psh_s, psh_n, kil_i, kil_r, kil_n, kil_l, cat_i, cat_r, iOK_1, iOK_5, jOK_2, jOK_6, wOK_e, lOK_1, lOK_2, lOK_3, lOK_4, catS_0, catS_1, catS_2, catS_3, catS_4, and_self, true_and, and_true, true_or, or_true, false_or, or_false, not_true_eq_false, not_false_eq_true, if_true, if_false, ite_int, ite_int0, au_10, eq_self, au_in, au_le, au_lt, au_eq, au_lt0, au_ge0, au_le0, au_gt0, au_eq0, au_leT, au_leF, au_ltT, au_ltF, au_eqT, au_eqF, nI_clamp, nI_1, nI_add, pk_mul, au_sub1, au_subc, au_up2e, au_up2n, lit_of, ho 137 (by omega), ho 138 (by omega), ho 136 (by omega), w3, w4, show 40000 * b + poN g k + j = 40000 * b + poN g k + j from rfl, w5 j hjl, hl _ hlt, fa_or]
            exact ihj
        exact inner (nodeAt g k).2.2.length 0 (by omega)
      rw [aw_iload_2 (pc2 := 3) D166_2 rfl]
      simp (disch := omega) only [aw_aload_0 (pc2 := 4) D166_3 rfl, aw_getR (pc2 := 7) (ci := 7) (fk := 8) D166_4 rfl fT_7_34 rfl, aw_iload_1 (pc2 := 8) D166_7 rfl, aw_iaload (pc2 := 9) D166_8 rfl, aw_icmp_ge (pc2 := 12) (t := 105) D166_9 (by decide) rfl, aw_sipush (pc2 := 15) (y := 1500) D166_12 rfl (by decide), aw_iload_1 (pc2 := 16) D166_15 rfl, aw_imul (pc2 := 17) D166_16 rfl, aw_iload_2 (pc2 := 18) D166_17 rfl, aw_iadd (pc2 := 19) D166_18 rfl, aw_istore_3 (pc2 := 20) D166_19 rfl, aw_aload_0 (pc2 := 21) D166_20 rfl, aw_getR (pc2 := 24) (ci := 7) (fk := 12) D166_21 rfl fT_7_46 rfl, aw_iload_3 (pc2 := 25) D166_24 rfl, aw_iaload (pc2 := 26) D166_25 rfl, aw_if_ne (pc2 := 29) (t := 33) D166_26 (by decide) rfl, aw_iconst (pc2 := 30) (y := 0) D166_29 rfl (by decide), aw_goto (t := 45) D166_30 (by decide), aw_aload_0 (pc2 := 34) D166_33 rfl, aw_getR (pc2 := 37) (ci := 7) (fk := 12) D166_34 rfl fT_7_46 rfl, aw_iload_3 (pc2 := 38) D166_37 rfl, aw_iaload (pc2 := 39) D166_38 rfl, aw_is1_2 (pc2 := 42) D166_39 rfl cT_7_170 rfl, aw_is1_2 (pc2 := 45) D166_42 rfl cT_7_183 rfl, aw_istore_4 (pc2 := 47) D166_45 rfl, aw_iconst (pc2 := 48) (y := 0) D166_47 rfl (by decide), aw_istore_5 (pc2 := 50) D166_48 rfl, sh_122, rf_122_8, sh_131, lit_1500, rf_122_12, sh_135, rf_122_14, sh_137, rf_122_40, sh_158, rf_122_15, sh_138, rf_122_13, sh_136, refV_s, refV_n, psh_s, psh_n, kil_i, kil_r, kil_n, kil_l, cat_i, cat_r, iOK_1, iOK_5, jOK_2, jOK_6, wOK_e, lOK_1, lOK_2, lOK_3, lOK_4, catS_0, catS_1, catS_2, catS_3, catS_4, and_self, true_and, and_true, true_or, or_true, false_or, or_false, not_true_eq_false, not_false_eq_true, if_true, if_false, ite_int, ite_int0, au_10, eq_self, au_in, au_le, au_lt, au_eq, au_lt0, au_ge0, au_le0, au_gt0, au_eq0, au_leT, au_leF, au_ltT, au_ltF, au_eqT, au_eqF, nI_clamp, nI_1, nI_add, pk_mul, au_sub1, au_subc, au_up2e, au_up2n, lit_of, lit_1500, ho 131 (by omega), ho 135 (by omega), h1, w2, o2, kv3, kv4, kv5, M_bitOf, M_lettersOf]
      by_cases hz : (nodeAt g k).2.1 = 0
      · rw [hz] at st1
        rw [if_neg (fun q => q hz)]
        exact st1
      · rw [o3 hz, if_pos hz]
        exact st1
  simp only [aw_iconst (pc2 := 1) (y := 0) D166_0 rfl (by decide), aw_istore_2 (pc2 := 2) D166_1 rfl, sh_122, rf_122_8, sh_131, lit_1500, rf_122_12, sh_135, rf_122_14, sh_137, rf_122_40, sh_158, rf_122_15, sh_138, rf_122_13, sh_136, refV_s, refV_n, psh_s, psh_n, kil_i, kil_r, kil_n, kil_l, cat_i, cat_r, iOK_1, iOK_5, jOK_2, jOK_6, wOK_e, lOK_1, lOK_2, lOK_3, lOK_4, catS_0, catS_1, catS_2, catS_3, catS_4, and_self, true_and, and_true, true_or, or_true, false_or, or_false, not_true_eq_false, not_false_eq_true, if_true, if_false, ite_int, ite_int0, au_10, eq_self]
  exact key g.1.length 0 I (by omega) (fun _ _ => rfl) (fun i hi => absurd hi (Nat.not_lt_zero _)) _ _ _ rfl rfl rfl
theorem MO_node {x k w : Int32} (hs : sgOK σ) (h : MInv σ I) (hk : MPost Ln I J K (oNode σ x k w)) : ACall (d + 3) 167 [.ref 122, .int x, .int k, .int w] (G0 Ln) I J K := by
  rw [ACall_0 (L0 := [.ref 122, .int x, .int k, .int w, nv, nv]) (show mcs 167 = (0, 0) from rfl) (show entL 167 [.ref 122, .int x, .int k, .int w] = _ from rfl) rfl (Nat.le_of_ble_eq_true rfl)]
  unfold oNode at hk
  cases hx : bkOf x with
  | none =>
    simp only [hx] at hk
    obtain ⟨x0, x1⟩ := bkOf_none hx
    simp only [aw_aload_0 (pc2 := 1) D167_0 rfl, aw_iload_1 (pc2 := 2) D167_1 rfl, aw_iload_2 (pc2 := 3) D167_2 rfl, aw_iv2_0 (pc2 := 6) (o := 7) D167_3 rfl cT_7_266 rfl rfl, aw_istore_4 (pc2 := 8) D167_6 rfl, aw_iload_4 (pc2 := 10) D167_8 rfl, aw_if_eq (pc2 := 13) (t := 20) D167_10 (by decide) rfl, aw_aload_0 (pc2 := 14) D167_13 rfl, aw_iload_4 (pc2 := 16) D167_14 rfl, aw_iv1_0 (pc2 := 19) (o := 7) D167_16 rfl cT_7_154 rfl rfl, aw_iret D167_19 rfl, sh_122, lit_1500, rf_122_11, sh_134, rf_122_12, sh_135, rf_122_14, sh_137, rf_122_40, sh_158, refV_s, refV_n, psh_s, psh_n, kil_i, kil_r, kil_n, kil_l, cat_i, cat_r, iOK_1, iOK_5, jOK_2, jOK_6, wOK_e, lOK_1, lOK_2, lOK_3, lOK_4, catS_0, catS_1, catS_2, catS_3, catS_4, and_self, true_and, and_true, true_or, or_true, false_or, or_false, not_true_eq_false, not_false_eq_true, if_true, if_false, ite_int, ite_int0, au_10, eq_self, M_why3 x0 x1, M_no3, if_neg (show ¬ (-3 : Int32) = 0 by decide)]
    exact hk.ref h (by omega) (by omega)
  | some b =>
    simp only [hx] at hk
    obtain ⟨hb, rfl⟩ := bkOf_some hx
    have hg := (h.1 b hb).2.2.2.2.2.2.2
    have hN := (hs.1 b hb).2.1
    unfold MGo at hg
    cases e : (σ.1 b).g with
    | none =>
      rw [e] at hg
      simp only [e] at hk
      simp only [aw_aload_0 (pc2 := 1) D167_0 rfl, aw_iload_1 (pc2 := 2) D167_1 rfl, aw_iload_2 (pc2 := 3) D167_2 rfl, aw_iv2_0 (pc2 := 6) (o := 7) D167_3 rfl cT_7_266 rfl rfl, aw_istore_4 (pc2 := 8) D167_6 rfl, aw_iload_4 (pc2 := 10) D167_8 rfl, aw_if_eq (pc2 := 13) (t := 20) D167_10 (by decide) rfl, aw_aload_0 (pc2 := 14) D167_13 rfl, aw_iload_4 (pc2 := 16) D167_14 rfl, aw_iv1_0 (pc2 := 19) (o := 7) D167_16 rfl cT_7_154 rfl rfl, aw_iret D167_19 rfl, sh_122, lit_1500, rf_122_11, sh_134, rf_122_12, sh_135, rf_122_14, sh_137, rf_122_40, sh_158, refV_s, refV_n, psh_s, psh_n, kil_i, kil_r, kil_n, kil_l, cat_i, cat_r, iOK_1, iOK_5, jOK_2, jOK_6, wOK_e, lOK_1, lOK_2, lOK_3, lOK_4, catS_0, catS_1, catS_2, catS_3, catS_4, and_self, true_and, and_true, true_or, or_true, false_or, or_false, not_true_eq_false, not_false_eq_true, if_true, if_false, ite_int, ite_int0, au_10, eq_self, M_why2 hb hg, M_no2, if_neg (show ¬ (-2 : Int32) = 0 by decide)]
      exact hk.ref h (by omega) (by omega)
    | some g =>
      rw [e] at hg
      simp only [e] at hk
      have hgo := gr_get hs hb e
      have h15 := hgo.2.1
      have h2 := hgo.1
      by_cases hc : 0 ≤ k ∧ k < nI g.1.length
      · rw [if_pos hc] at hk
        have hwy : ∀ {K' : KT}, ACall (d + 2) 165 [.ref 122, .int (nI b), .int k] (G0 Ln) I J K' ↔ K' (some (.int 0)) (G0 Ln) I J := fun {K'} => by
          rw [M_why hb hg.1 (by omega) (by omega), if_pos hc]
        obtain ⟨i, hi, rfl⟩ := ix_of (by omega) hc
        obtain ⟨n1, n2, n3, -, -⟩ := hg.2.2.2.1 i hi
        rw [nI_clamp (by omega)] at hk
        simp (disch := omega) only [aw_aload_0 (pc2 := 1) D167_0 rfl, aw_iload_1 (pc2 := 2) D167_1 rfl, aw_iload_2 (pc2 := 3) D167_2 rfl, aw_iv2_0 (pc2 := 6) (o := 7) D167_3 rfl cT_7_266 rfl rfl, aw_istore_4 (pc2 := 8) D167_6 rfl, aw_iload_4 (pc2 := 10) D167_8 rfl, aw_if_eq (pc2 := 13) (t := 20) D167_10 (by decide) rfl, aw_aload_0 (pc2 := 14) D167_13 rfl, aw_iload_4 (pc2 := 16) D167_14 rfl, aw_iv1_0 (pc2 := 19) (o := 7) D167_16 rfl cT_7_154 rfl rfl, aw_iret D167_19 rfl, aw_sipush (pc2 := 23) (y := 1500) D167_20 rfl (by decide), aw_iload_1 (pc2 := 24) D167_23 rfl, aw_imul (pc2 := 25) D167_24 rfl, aw_iload_2 (pc2 := 26) D167_25 rfl, aw_iadd (pc2 := 27) D167_26 rfl, aw_istore_5 (pc2 := 29) D167_27 rfl, aw_iload_3 (pc2 := 30) D167_29 rfl, sh_122, lit_1500, rf_122_11, sh_134, rf_122_12, sh_135, rf_122_14, sh_137, rf_122_40, sh_158, refV_s, refV_n, psh_s, psh_n, kil_i, kil_r, kil_n, kil_l, cat_i, cat_r, iOK_1, iOK_5, jOK_2, jOK_6, wOK_e, lOK_1, lOK_2, lOK_3, lOK_4, catS_0, catS_1, catS_2, catS_3, catS_4, and_self, true_and, and_true, true_or, or_true, false_or, or_false, not_true_eq_false, not_false_eq_true, if_true, if_false, ite_int, ite_int0, au_10, eq_self, lit_1500, hwy, pk_mul, nI_add]
        rcases ix4 (w := w) with ⟨j, hj, rfl⟩ | ⟨hn, ho⟩
        · rw [if_pos ⟨nI_pos' (by omega), nI_lt hj (by decide)⟩, nI_clamp (by omega)] at hk
          have key := hk.same h
          have ej : (nI j).toInt = 0 + (j : Int) := by rw [nI_toInt (by omega)]; omega
          rcases (show j = 0 ∨ j = 1 ∨ j = 2 ∨ j = 3 by omega) with rfl | rfl | rfl | rfl
          · rw [aw_tsw_in D167_30 ej (by decide) rfl (t := 60) (by decide)]
            simp (disch := omega) only [aw_aload_0 (pc2 := 61) D167_60 rfl, aw_getR (pc2 := 64) (ci := 7) (fk := 11) D167_61 rfl fT_7_43 rfl, aw_iload_5 (pc2 := 66) D167_64 rfl, aw_iaload (pc2 := 67) D167_66 rfl, aw_iret D167_67 rfl, sh_122, lit_1500, rf_122_11, sh_134, rf_122_12, sh_135, rf_122_14, sh_137, rf_122_40, sh_158, refV_s, refV_n, psh_s, psh_n, kil_i, kil_r, kil_n, kil_l, cat_i, cat_r, iOK_1, iOK_5, jOK_2, jOK_6, wOK_e, lOK_1, lOK_2, lOK_3, lOK_4, catS_0, catS_1, catS_2, catS_3, catS_4, and_self, true_and, and_true, true_or, or_true, false_or, or_false, not_true_eq_false, not_false_eq_true, if_true, if_false, ite_int, ite_int0, au_10, eq_self, au_in, nI_clamp, n1]
            exact key
          · rw [aw_tsw_in D167_30 ej (by decide) rfl (t := 68) (by decide)]
            simp (disch := omega) only [aw_aload_0 (pc2 := 69) D167_68 rfl, aw_getR (pc2 := 72) (ci := 7) (fk := 12) D167_69 rfl fT_7_46 rfl, aw_iload_5 (pc2 := 74) D167_72 rfl, aw_iaload (pc2 := 75) D167_74 rfl, aw_iret D167_75 rfl, sh_122, lit_1500, rf_122_11, sh_134, rf_122_12, sh_135, rf_122_14, sh_137, rf_122_40, sh_158, refV_s, refV_n, psh_s, psh_n, kil_i, kil_r, kil_n, kil_l, cat_i, cat_r, iOK_1, iOK_5, jOK_2, jOK_6, wOK_e, lOK_1, lOK_2, lOK_3, lOK_4, catS_0, catS_1, catS_2, catS_3, catS_4, and_self, true_and, and_true, true_or, or_true, false_or, or_false, not_true_eq_false, not_false_eq_true, if_true, if_false, ite_int, ite_int0, au_10, eq_self, au_in, nI_clamp, n2]
            exact key
          · rw [aw_tsw_in D167_30 ej (by decide) rfl (t := 76) (by decide)]
            simp (disch := omega) only [aw_aload_0 (pc2 := 77) D167_76 rfl, aw_getR (pc2 := 80) (ci := 7) (fk := 14) D167_77 rfl fT_7_52 rfl, aw_iload_5 (pc2 := 82) D167_80 rfl, aw_iaload (pc2 := 83) D167_82 rfl, aw_iret D167_83 rfl, sh_122, lit_1500, rf_122_11, sh_134, rf_122_12, sh_135, rf_122_14, sh_137, rf_122_40, sh_158, refV_s, refV_n, psh_s, psh_n, kil_i, kil_r, kil_n, kil_l, cat_i, cat_r, iOK_1, iOK_5, jOK_2, jOK_6, wOK_e, lOK_1, lOK_2, lOK_3, lOK_4, catS_0, catS_1, catS_2, catS_3, catS_4, and_self, true_and, and_true, true_or, or_true, false_or, or_false, not_true_eq_false, not_false_eq_true, if_true, if_false, ite_int, ite_int0, au_10, eq_self, au_in, nI_clamp, n3]
            exact key
          · rw [aw_tsw_in D167_30 ej (by decide) rfl (t := 84) (by decide)]
            simp (disch := omega) only [aw_aload_0 (pc2 := 85) D167_84 rfl, aw_iload_1 (pc2 := 86) D167_85 rfl, aw_iv1_0 (pc2 := 89) (o := 7) D167_86 rfl cT_7_269 rfl rfl, sh_122, lit_1500, rf_122_11, sh_134, rf_122_12, sh_135, rf_122_14, sh_137, rf_122_40, sh_158, refV_s, refV_n, psh_s, psh_n, kil_i, kil_r, kil_n, kil_l, cat_i, cat_r, iOK_1, iOK_5, jOK_2, jOK_6, wOK_e, lOK_1, lOK_2, lOK_3, lOK_4, catS_0, catS_1, catS_2, catS_3, catS_4, and_self, true_and, and_true, true_or, or_true, false_or, or_false, not_true_eq_false, not_false_eq_true, if_true, if_false, ite_int, ite_int0, au_10, eq_self]
            refine M_findLetters hb hN hgo hg.1 hg.2 (fun I' ho hl => ?_)
            simp (disch := omega) only [aw_aload_0 (pc2 := 90) D167_89 rfl, aw_getR (pc2 := 93) (ci := 7) (fk := 40) D167_90 rfl fT_7_117 rfl, aw_iload_2 (pc2 := 94) D167_93 rfl, aw_iaload (pc2 := 95) D167_94 rfl, aw_iret D167_95 rfl, sh_122, lit_1500, rf_122_11, sh_134, rf_122_12, sh_135, rf_122_14, sh_137, rf_122_40, sh_158, refV_s, refV_n, psh_s, psh_n, kil_i, kil_r, kil_n, kil_l, cat_i, cat_r, iOK_1, iOK_5, jOK_2, jOK_6, wOK_e, lOK_1, lOK_2, lOK_3, lOK_4, catS_0, catS_1, catS_2, catS_3, catS_4, and_self, true_and, and_true, true_or, or_true, false_or, or_false, not_true_eq_false, not_false_eq_true, if_true, if_false, ite_int, ite_int0, au_10, eq_self, au_in, nI_clamp, hl i hi]
            exact hk _ _ (h.tmp ho) (fun c hc2 => ho c (by omega)) FrM.rf
        · rw [if_neg hn] at hk
          rw [aw_tsw_out D167_30 ho (t := 96) (by decide)]
          simp only [aw_aload_0 (pc2 := 97) D167_96 rfl, aw_bipush (pc2 := 99) (y := -7) D167_97 rfl (by decide), aw_iv1_0 (pc2 := 102) (o := 7) D167_99 rfl cT_7_154 rfl rfl, aw_iret D167_102 rfl, sh_122, lit_1500, rf_122_11, sh_134, rf_122_12, sh_135, rf_122_14, sh_137, rf_122_40, sh_158, refV_s, refV_n, psh_s, psh_n, kil_i, kil_r, kil_n, kil_l, cat_i, cat_r, iOK_1, iOK_5, jOK_2, jOK_6, wOK_e, lOK_1, lOK_2, lOK_3, lOK_4, catS_0, catS_1, catS_2, catS_3, catS_4, and_self, true_and, and_true, true_or, or_true, false_or, or_false, not_true_eq_false, not_false_eq_true, if_true, if_false, ite_int, ite_int0, au_10, eq_self, M_no7]
          exact hk.ref h (by omega) (by omega)
      · rw [if_neg hc] at hk
        simp only [aw_aload_0 (pc2 := 1) D167_0 rfl, aw_iload_1 (pc2 := 2) D167_1 rfl, aw_iload_2 (pc2 := 3) D167_2 rfl, aw_iv2_0 (pc2 := 6) (o := 7) D167_3 rfl cT_7_266 rfl rfl, aw_istore_4 (pc2 := 8) D167_6 rfl, aw_iload_4 (pc2 := 10) D167_8 rfl, aw_if_eq (pc2 := 13) (t := 20) D167_10 (by decide) rfl, aw_aload_0 (pc2 := 14) D167_13 rfl, aw_iload_4 (pc2 := 16) D167_14 rfl, aw_iv1_0 (pc2 := 19) (o := 7) D167_16 rfl cT_7_154 rfl rfl, aw_iret D167_19 rfl, sh_122, lit_1500, rf_122_11, sh_134, rf_122_12, sh_135, rf_122_14, sh_137, rf_122_40, sh_158, refV_s, refV_n, psh_s, psh_n, kil_i, kil_r, kil_n, kil_l, cat_i, cat_r, iOK_1, iOK_5, jOK_2, jOK_6, wOK_e, lOK_1, lOK_2, lOK_3, lOK_4, catS_0, catS_1, catS_2, catS_3, catS_4, and_self, true_and, and_true, true_or, or_true, false_or, or_false, not_true_eq_false, not_false_eq_true, if_true, if_false, ite_int, ite_int0, au_10, eq_self, M_why hb hg.1 (show 0 < g.1.length by omega) (show g.1.length < 2 ^ 30 by omega), if_neg hc, M_no3, if_neg (show ¬ (-3 : Int32) = 0 by decide)]
        exact hk.ref h (by omega) (by omega)
theorem MO_part {x k w : Int32} (hs : sgOK σ) (h : MInv σ I) (hk : MPost Ln I J K (oPart σ x k w)) : ACall (d + 4) 169 [.ref 122, .int x, .int k, .int w] (G0 Ln) I J K := by
  rw [ACall_0 (L0 := [.ref 122, .int x, .int k, .int w, nv]) (show mcs 169 = (0, 0) from rfl) (show entL 169 [.ref 122, .int x, .int k, .int w] = _ from rfl) rfl (Nat.le_of_ble_eq_true rfl)]
  unfold oPart at hk
  cases hx : bkOf x with
  | none =>
    simp only [hx] at hk
    obtain ⟨x0, x1⟩ := bkOf_none hx
    simp only [aw_aload_0 (pc2 := 1) D169_0 rfl, aw_iload_1 (pc2 := 2) D169_1 rfl, aw_iload_2 (pc2 := 3) D169_2 rfl, aw_iload_3 (pc2 := 4) D169_3 rfl, aw_iv3_0 (pc2 := 7) (o := 7) D169_4 rfl cT_7_272 rfl rfl, aw_istore_4 (pc2 := 9) D169_7 rfl, aw_iload_4 (pc2 := 11) D169_9 rfl, aw_if_eq (pc2 := 14) (t := 23) D169_11 (by decide) rfl, aw_aload_0 (pc2 := 15) D169_14 rfl, aw_iload_4 (pc2 := 17) D169_15 rfl, aw_iv1_0 (pc2 := 20) (o := 7) D169_17 rfl cT_7_154 rfl rfl, aw_goto (t := 42) D169_20 (by decide), aw_iret D169_42 rfl, sh_122, rf_122_15, sh_138, rf_122_13, sh_136, lit_1500, refV_s, refV_n, psh_s, psh_n, kil_i, kil_r, kil_n, kil_l, cat_i, cat_r, iOK_1, iOK_5, jOK_2, jOK_6, wOK_e, lOK_1, lOK_2, lOK_3, lOK_4, catS_0, catS_1, catS_2, catS_3, catS_4, and_self, true_and, and_true, true_or, or_true, false_or, or_false, not_true_eq_false, not_false_eq_true, if_true, if_false, ite_int, ite_int0, au_10, eq_self, M_wpN (show ¬ (-3 : Int32) = 0 by decide) (fun {K'} => M_why3 (K := K') x0 x1), M_no3, if_neg (show ¬ (-3 : Int32) = 0 by decide)]
    exact hk.ref h (by omega) (by omega)
  | some b =>
    simp only [hx] at hk
    obtain ⟨hb, rfl⟩ := bkOf_some hx
    have hg := (h.1 b hb).2.2.2.2.2.2.2
    unfold MGo at hg
    cases e : (σ.1 b).g with
    | none =>
      rw [e] at hg
      simp only [e] at hk
      simp only [aw_aload_0 (pc2 := 1) D169_0 rfl, aw_iload_1 (pc2 := 2) D169_1 rfl, aw_iload_2 (pc2 := 3) D169_2 rfl, aw_iload_3 (pc2 := 4) D169_3 rfl, aw_iv3_0 (pc2 := 7) (o := 7) D169_4 rfl cT_7_272 rfl rfl, aw_istore_4 (pc2 := 9) D169_7 rfl, aw_iload_4 (pc2 := 11) D169_9 rfl, aw_if_eq (pc2 := 14) (t := 23) D169_11 (by decide) rfl, aw_aload_0 (pc2 := 15) D169_14 rfl, aw_iload_4 (pc2 := 17) D169_15 rfl, aw_iv1_0 (pc2 := 20) (o := 7) D169_17 rfl cT_7_154 rfl rfl, aw_goto (t := 42) D169_20 (by decide), aw_iret D169_42 rfl, sh_122, rf_122_15, sh_138, rf_122_13, sh_136, lit_1500, refV_s, refV_n, psh_s, psh_n, kil_i, kil_r, kil_n, kil_l, cat_i, cat_r, iOK_1, iOK_5, jOK_2, jOK_6, wOK_e, lOK_1, lOK_2, lOK_3, lOK_4, catS_0, catS_1, catS_2, catS_3, catS_4, and_self, true_and, and_true, true_or, or_true, false_or, or_false, not_true_eq_false, not_false_eq_true, if_true, if_false, ite_int, ite_int0, au_10, eq_self, M_wpN (show ¬ (-2 : Int32) = 0 by decide) (fun {K'} => M_why2 (K := K') hb hg), M_no2, if_neg (show ¬ (-2 : Int32) = 0 by decide)]
      exact hk.ref h (by omega) (by omega)
    | some g =>
      rw [e] at hg
      simp only [e] at hk
      have hgo := gr_get hs hb e
      have h15 := hgo.2.1
      have h2 := hgo.1
      by_cases hc : 0 ≤ k ∧ k < nI g.1.length
      · rw [if_pos hc] at hk
        have hwy : ∀ {K' : KT}, ACall (d + 2) 165 [.ref 122, .int (nI b), .int k] (G0 Ln) I J K' ↔ K' (some (.int 0)) (G0 Ln) I J := fun {K'} => by
          rw [M_why hb hg.1 (by omega) (by omega), if_pos hc]
        obtain ⟨i, hi, rfl⟩ := ix_of (by omega) hc
        obtain ⟨n1, n2, n3, n4, n5⟩ := hg.2.2.2.1 i hi
        have hko := node_ok hgo hi
        have hkk := nd_kind hko
        have hl12 := nd_len hko
        have hpo := po_le hgo (show i ≤ g.1.length by omega)
        rw [nI_clamp (by omega)] at hk
        by_cases hp : (nodeAt g i).2.2 = []
        · rw [if_pos hp] at hk
          simp only [aw_aload_0 (pc2 := 1) D169_0 rfl, aw_iload_1 (pc2 := 2) D169_1 rfl, aw_iload_2 (pc2 := 3) D169_2 rfl, aw_iload_3 (pc2 := 4) D169_3 rfl, aw_iv3_0 (pc2 := 7) (o := 7) D169_4 rfl cT_7_272 rfl rfl, aw_istore_4 (pc2 := 9) D169_7 rfl, aw_iload_4 (pc2 := 11) D169_9 rfl, aw_if_eq (pc2 := 14) (t := 23) D169_11 (by decide) rfl, aw_aload_0 (pc2 := 15) D169_14 rfl, aw_iload_4 (pc2 := 17) D169_15 rfl, aw_iv1_0 (pc2 := 20) (o := 7) D169_17 rfl cT_7_154 rfl rfl, aw_goto (t := 42) D169_20 (by decide), aw_iret D169_42 rfl, sh_122, rf_122_15, sh_138, rf_122_13, sh_136, lit_1500, refV_s, refV_n, psh_s, psh_n, kil_i, kil_r, kil_n, kil_l, cat_i, cat_r, iOK_1, iOK_5, jOK_2, jOK_6, wOK_e, lOK_1, lOK_2, lOK_3, lOK_4, catS_0, catS_1, catS_2, catS_3, catS_4, and_self, true_and, and_true, true_or, or_true, false_or, or_false, not_true_eq_false, not_false_eq_true, if_true, if_false, ite_int, ite_int0, au_10, eq_self, M_wpK hb (show i < 1500 by omega) (hkk.1.mpr hp) n1 hwy, M_no5, if_neg (show ¬ (-5 : Int32) = 0 by decide)]
          exact hk.ref h (by omega) (by omega)
        · rw [if_neg hp] at hk
          have hk3 : 3 ≤ (nodeAt g i).1 := Nat.not_lt.mp (fun q => hp (hkk.1.mp q))
          by_cases hj : 0 ≤ w ∧ w < nI (nodeAt g i).2.2.length
          · rw [if_pos hj] at hk
            obtain ⟨j, hjl, rfl⟩ := ix_of (by omega) hj
            rw [nI_clamp (by omega)] at hk
            simp (disch := omega) only [aw_aload_0 (pc2 := 1) D169_0 rfl, aw_iload_1 (pc2 := 2) D169_1 rfl, aw_iload_2 (pc2 := 3) D169_2 rfl, aw_iload_3 (pc2 := 4) D169_3 rfl, aw_iv3_0 (pc2 := 7) (o := 7) D169_4 rfl cT_7_272 rfl rfl, aw_istore_4 (pc2 := 9) D169_7 rfl, aw_iload_4 (pc2 := 11) D169_9 rfl, aw_if_eq (pc2 := 14) (t := 23) D169_11 (by decide) rfl, aw_aload_0 (pc2 := 15) D169_14 rfl, aw_iload_4 (pc2 := 17) D169_15 rfl, aw_iv1_0 (pc2 := 20) (o := 7) D169_17 rfl cT_7_154 rfl rfl, aw_goto (t := 42) D169_20 (by decide), aw_aload_0 (pc2 := 24) D169_23 rfl, aw_getR (pc2 := 27) (ci := 7) (fk := 15) D169_24 rfl fT_7_56 rfl, aw_aload_0 (pc2 := 28) D169_27 rfl, aw_getR (pc2 := 31) (ci := 7) (fk := 13) D169_28 rfl fT_7_49 rfl, aw_sipush (pc2 := 34) (y := 1500) D169_31 rfl (by decide), aw_iload_1 (pc2 := 35) D169_34 rfl, aw_imul (pc2 := 36) D169_35 rfl, aw_iload_2 (pc2 := 37) D169_36 rfl, aw_iadd (pc2 := 38) D169_37 rfl, aw_iaload (pc2 := 39) D169_38 rfl, aw_iload_3 (pc2 := 40) D169_39 rfl, aw_iadd (pc2 := 41) D169_40 rfl, aw_iaload (pc2 := 42) D169_41 rfl, aw_iret D169_42 rfl, sh_122, rf_122_15, sh_138, rf_122_13, sh_136, lit_1500, refV_s, refV_n, psh_s, psh_n, kil_i, kil_r, kil_n, kil_l, cat_i, cat_r, iOK_1, iOK_5, jOK_2, jOK_6, wOK_e, lOK_1, lOK_2, lOK_3, lOK_4, catS_0, catS_1, catS_2, catS_3, catS_4, and_self, true_and, and_true, true_or, or_true, false_or, or_false, not_true_eq_false, not_false_eq_true, if_true, if_false, ite_int, ite_int0, au_10, eq_self, au_in, au_le, au_lt, au_eq, au_lt0, au_ge0, au_le0, au_gt0, au_eq0, au_leT, au_leF, au_ltT, au_ltF, au_eqT, au_eqF, nI_clamp, nI_1, nI_add, pk_mul, au_sub1, au_subc, au_up2e, au_up2n, lit_of, lit_1500, M_wp hb (show i < 1500 by omega) hk3 hkk.2 hl12 n1 n3 hwy, if_pos hj, n4, n5 j hjl]
            exact hk.same h
          · rw [if_neg hj] at hk
            simp only [aw_aload_0 (pc2 := 1) D169_0 rfl, aw_iload_1 (pc2 := 2) D169_1 rfl, aw_iload_2 (pc2 := 3) D169_2 rfl, aw_iload_3 (pc2 := 4) D169_3 rfl, aw_iv3_0 (pc2 := 7) (o := 7) D169_4 rfl cT_7_272 rfl rfl, aw_istore_4 (pc2 := 9) D169_7 rfl, aw_iload_4 (pc2 := 11) D169_9 rfl, aw_if_eq (pc2 := 14) (t := 23) D169_11 (by decide) rfl, aw_aload_0 (pc2 := 15) D169_14 rfl, aw_iload_4 (pc2 := 17) D169_15 rfl, aw_iv1_0 (pc2 := 20) (o := 7) D169_17 rfl cT_7_154 rfl rfl, aw_goto (t := 42) D169_20 (by decide), aw_iret D169_42 rfl, sh_122, rf_122_15, sh_138, rf_122_13, sh_136, lit_1500, refV_s, refV_n, psh_s, psh_n, kil_i, kil_r, kil_n, kil_l, cat_i, cat_r, iOK_1, iOK_5, jOK_2, jOK_6, wOK_e, lOK_1, lOK_2, lOK_3, lOK_4, catS_0, catS_1, catS_2, catS_3, catS_4, and_self, true_and, and_true, true_or, or_true, false_or, or_false, not_true_eq_false, not_false_eq_true, if_true, if_false, ite_int, ite_int0, au_10, eq_self, M_wp hb (show i < 1500 by omega) hk3 hkk.2 hl12 n1 n3 hwy, if_neg hj, M_no3, if_neg (show ¬ (-3 : Int32) = 0 by decide)]
            exact hk.ref h (by omega) (by omega)
      · rw [if_neg hc] at hk
        have hwy : ∀ {K' : KT}, ACall (d + 2) 165 [.ref 122, .int (nI b), .int k] (G0 Ln) I J K' ↔ K' (some (.int (-3))) (G0 Ln) I J := fun {K'} => by
          rw [M_why hb hg.1 (by omega) (by omega), if_neg hc]
        simp only [aw_aload_0 (pc2 := 1) D169_0 rfl, aw_iload_1 (pc2 := 2) D169_1 rfl, aw_iload_2 (pc2 := 3) D169_2 rfl, aw_iload_3 (pc2 := 4) D169_3 rfl, aw_iv3_0 (pc2 := 7) (o := 7) D169_4 rfl cT_7_272 rfl rfl, aw_istore_4 (pc2 := 9) D169_7 rfl, aw_iload_4 (pc2 := 11) D169_9 rfl, aw_if_eq (pc2 := 14) (t := 23) D169_11 (by decide) rfl, aw_aload_0 (pc2 := 15) D169_14 rfl, aw_iload_4 (pc2 := 17) D169_15 rfl, aw_iv1_0 (pc2 := 20) (o := 7) D169_17 rfl cT_7_154 rfl rfl, aw_goto (t := 42) D169_20 (by decide), aw_iret D169_42 rfl, sh_122, rf_122_15, sh_138, rf_122_13, sh_136, lit_1500, refV_s, refV_n, psh_s, psh_n, kil_i, kil_r, kil_n, kil_l, cat_i, cat_r, iOK_1, iOK_5, jOK_2, jOK_6, wOK_e, lOK_1, lOK_2, lOK_3, lOK_4, catS_0, catS_1, catS_2, catS_3, catS_4, and_self, true_and, and_true, true_or, or_true, false_or, or_false, not_true_eq_false, not_false_eq_true, if_true, if_false, ite_int, ite_int0, au_10, eq_self, M_wpN (show ¬ (-3 : Int32) = 0 by decide) hwy, M_no3, if_neg (show ¬ (-3 : Int32) = 0 by decide)]
        exact hk.ref h (by omega) (by omega)
theorem MO_bend {x k j o : Int32} (hs : sgOK σ) (h : MInv σ I) (hk : MPost Ln I J K (oBend σ x k j o)) : ACall (d + 4) 170 [.ref 122, .int x, .int k, .int j, .int o] (G0 Ln) I J K := by
  rw [ACall_0 (L0 := [.ref 122, .int x, .int k, .int j, .int o, nv, nv, nv]) (show mcs 170 = (0, 0) from rfl) (show entL 170 [.ref 122, .int x, .int k, .int j, .int o] = _ from rfl) rfl (Nat.le_of_ble_eq_true rfl)]
  unfold oBend at hk
  cases hx : bkOf x with
  | none =>
    simp only [hx] at hk
    obtain ⟨x0, x1⟩ := bkOf_none hx
    simp only [aw_aload_0 (pc2 := 1) D170_0 rfl, aw_iload_1 (pc2 := 2) D170_1 rfl, aw_iload_2 (pc2 := 3) D170_2 rfl, aw_iload_3 (pc2 := 4) D170_3 rfl, aw_iv3_0 (pc2 := 7) (o := 7) D170_4 rfl cT_7_272 rfl rfl, aw_istore_5 (pc2 := 9) D170_7 rfl, aw_iload_5 (pc2 := 11) D170_9 rfl, aw_if_ne (pc2 := 14) (t := 32) D170_11 (by decide) rfl, aw_iload_5 (pc2 := 34) D170_32 rfl, aw_if_eq (pc2 := 37) (t := 44) D170_34 (by decide) rfl, aw_aload_0 (pc2 := 38) D170_37 rfl, aw_iload_5 (pc2 := 40) D170_38 rfl, aw_iv1_0 (pc2 := 43) (o := 7) D170_40 rfl cT_7_154 rfl rfl, aw_iret D170_43 rfl, sh_122, rf_122_13, sh_136, lit_1500, rf_122_15, sh_138, rf_122_43, sh_161, refV_s, refV_n, psh_s, psh_n, kil_i, kil_r, kil_n, kil_l, cat_i, cat_r, iOK_1, iOK_5, jOK_2, jOK_6, wOK_e, lOK_1, lOK_2, lOK_3, lOK_4, catS_0, catS_1, catS_2, catS_3, catS_4, and_self, true_and, and_true, true_or, or_true, false_or, or_false, not_true_eq_false, not_false_eq_true, if_true, if_false, ite_int, ite_int0, au_10, eq_self, M_wpN (show ¬ (-3 : Int32) = 0 by decide) (fun {K'} => M_why3 (K := K') x0 x1), M_no3, if_neg (show ¬ (-3 : Int32) = 0 by decide), if_pos (show ¬ (-3 : Int32) = 0 by decide)]
    exact hk.ref h (by omega) (by omega)
  | some b =>
    simp only [hx] at hk
    obtain ⟨hb, rfl⟩ := bkOf_some hx
    have hh := h.1 b hb
    have hg := hh.2.2.2.2.2.2.2
    unfold MGo at hg
    cases e : (σ.1 b).g with
    | none =>
      rw [e] at hg
      simp only [e] at hk
      simp only [aw_aload_0 (pc2 := 1) D170_0 rfl, aw_iload_1 (pc2 := 2) D170_1 rfl, aw_iload_2 (pc2 := 3) D170_2 rfl, aw_iload_3 (pc2 := 4) D170_3 rfl, aw_iv3_0 (pc2 := 7) (o := 7) D170_4 rfl cT_7_272 rfl rfl, aw_istore_5 (pc2 := 9) D170_7 rfl, aw_iload_5 (pc2 := 11) D170_9 rfl, aw_if_ne (pc2 := 14) (t := 32) D170_11 (by decide) rfl, aw_iload_5 (pc2 := 34) D170_32 rfl, aw_if_eq (pc2 := 37) (t := 44) D170_34 (by decide) rfl, aw_aload_0 (pc2 := 38) D170_37 rfl, aw_iload_5 (pc2 := 40) D170_38 rfl, aw_iv1_0 (pc2 := 43) (o := 7) D170_40 rfl cT_7_154 rfl rfl, aw_iret D170_43 rfl, sh_122, rf_122_13, sh_136, lit_1500, rf_122_15, sh_138, rf_122_43, sh_161, refV_s, refV_n, psh_s, psh_n, kil_i, kil_r, kil_n, kil_l, cat_i, cat_r, iOK_1, iOK_5, jOK_2, jOK_6, wOK_e, lOK_1, lOK_2, lOK_3, lOK_4, catS_0, catS_1, catS_2, catS_3, catS_4, and_self, true_and, and_true, true_or, or_true, false_or, or_false, not_true_eq_false, not_false_eq_true, if_true, if_false, ite_int, ite_int0, au_10, eq_self, M_wpN (show ¬ (-2 : Int32) = 0 by decide) (fun {K'} => M_why2 (K := K') hb hg), M_no2, if_neg (show ¬ (-2 : Int32) = 0 by decide), if_pos (show ¬ (-2 : Int32) = 0 by decide)]
      exact hk.ref h (by omega) (by omega)
    | some g =>
      rw [e] at hg
      simp only [e] at hk
      have hgo := gr_get hs hb e
      have h15 := hgo.2.1
      have h2 := hgo.1
      by_cases hc : 0 ≤ k ∧ k < nI g.1.length
      · rw [if_pos hc] at hk
        have hwy : ∀ {K' : KT}, ACall (d + 2) 165 [.ref 122, .int (nI b), .int k] (G0 Ln) I J K' ↔ K' (some (.int 0)) (G0 Ln) I J := fun {K'} => by
          rw [M_why hb hg.1 (by omega) (by omega), if_pos hc]
        obtain ⟨i, hi, rfl⟩ := ix_of (by omega) hc
        obtain ⟨n1, n2, n3, n4, n5⟩ := hg.2.2.2.1 i hi
        have hko := node_ok hgo hi
        have hkk := nd_kind hko
        have hl12 := nd_len hko
        have hpo := po_le hgo (show i ≤ g.1.length by omega)
        rw [nI_clamp (by omega)] at hk
        by_cases hp : (nodeAt g i).2.2 = []
        · rw [if_pos hp] at hk
          simp only [aw_aload_0 (pc2 := 1) D170_0 rfl, aw_iload_1 (pc2 := 2) D170_1 rfl, aw_iload_2 (pc2 := 3) D170_2 rfl, aw_iload_3 (pc2 := 4) D170_3 rfl, aw_iv3_0 (pc2 := 7) (o := 7) D170_4 rfl cT_7_272 rfl rfl, aw_istore_5 (pc2 := 9) D170_7 rfl, aw_iload_5 (pc2 := 11) D170_9 rfl, aw_if_ne (pc2 := 14) (t := 32) D170_11 (by decide) rfl, aw_iload_5 (pc2 := 34) D170_32 rfl, aw_if_eq (pc2 := 37) (t := 44) D170_34 (by decide) rfl, aw_aload_0 (pc2 := 38) D170_37 rfl, aw_iload_5 (pc2 := 40) D170_38 rfl, aw_iv1_0 (pc2 := 43) (o := 7) D170_40 rfl cT_7_154 rfl rfl, aw_iret D170_43 rfl, sh_122, rf_122_13, sh_136, lit_1500, rf_122_15, sh_138, rf_122_43, sh_161, refV_s, refV_n, psh_s, psh_n, kil_i, kil_r, kil_n, kil_l, cat_i, cat_r, iOK_1, iOK_5, jOK_2, jOK_6, wOK_e, lOK_1, lOK_2, lOK_3, lOK_4, catS_0, catS_1, catS_2, catS_3, catS_4, and_self, true_and, and_true, true_or, or_true, false_or, or_false, not_true_eq_false, not_false_eq_true, if_true, if_false, ite_int, ite_int0, au_10, eq_self, M_wpK hb (show i < 1500 by omega) (hkk.1.mpr hp) n1 hwy, M_no5, if_neg (show ¬ (-5 : Int32) = 0 by decide), if_pos (show ¬ (-5 : Int32) = 0 by decide)]
          exact hk.ref h (by omega) (by omega)
        · rw [if_neg hp] at hk
          have hk3 : 3 ≤ (nodeAt g i).1 := Nat.not_lt.mp (fun q => hp (hkk.1.mp q))
          by_cases hj : 0 ≤ j ∧ j < nI (nodeAt g i).2.2.length
          · have hin : ∀ z : Int32, (0 ≤ z ∧ z ≤ nI i - 1) ↔ (0 ≤ z ∧ z < nI i) := fun z => in_count (by omega)
            simp only [aw_aload_0 (pc2 := 1) D170_0 rfl, aw_iload_1 (pc2 := 2) D170_1 rfl, aw_iload_2 (pc2 := 3) D170_2 rfl, aw_iload_3 (pc2 := 4) D170_3 rfl, aw_iv3_0 (pc2 := 7) (o := 7) D170_4 rfl cT_7_272 rfl rfl, aw_istore_5 (pc2 := 9) D170_7 rfl, aw_iload_5 (pc2 := 11) D170_9 rfl, aw_if_ne (pc2 := 14) (t := 32) D170_11 (by decide) rfl, aw_iload_4 (pc2 := 16) D170_14 rfl, aw_i2l (pc2 := 17) D170_16 rfl, aw_lconst (pc2 := 18) (y := 0) D170_17 rfl (by decide), aw_iload_2 (pc2 := 19) D170_18 rfl, aw_iconst (pc2 := 20) (y := 1) D170_19 rfl (by decide), aw_isub (pc2 := 21) D170_20 rfl, aw_i2l (pc2 := 22) D170_21 rfl, aw_is3_2 (pc2 := 25) D170_22 rfl cT_7_146 rfl, aw_if_ne (pc2 := 28) (t := 32) D170_25 (by decide) rfl, aw_bipush (pc2 := 30) (y := -3) D170_28 rfl (by decide), aw_istore_5 (pc2 := 32) D170_30 rfl, aw_iload_5 (pc2 := 34) D170_32 rfl, aw_if_eq (pc2 := 37) (t := 44) D170_34 (by decide) rfl, aw_aload_0 (pc2 := 38) D170_37 rfl, aw_iload_5 (pc2 := 40) D170_38 rfl, aw_iv1_0 (pc2 := 43) (o := 7) D170_40 rfl cT_7_154 rfl rfl, aw_iret D170_43 rfl, sh_122, rf_122_13, sh_136, lit_1500, rf_122_15, sh_138, rf_122_43, sh_161, refV_s, refV_n, psh_s, psh_n, kil_i, kil_r, kil_n, kil_l, cat_i, cat_r, iOK_1, iOK_5, jOK_2, jOK_6, wOK_e, lOK_1, lOK_2, lOK_3, lOK_4, catS_0, catS_1, catS_2, catS_3, catS_4, and_self, true_and, and_true, true_or, or_true, false_or, or_false, not_true_eq_false, not_false_eq_true, if_true, if_false, ite_int, ite_int0, au_10, eq_self, M_wp hb (show i < 1500 by omega) hk3 hkk.2 hl12 n1 n3 hwy, if_pos hj, M_isIn, M_no3, e0L, fa_wide_le, hin, if_neg (show ¬ (-3 : Int32) = 0 by decide)]
            by_cases ho : 0 ≤ o ∧ o < nI i
            · rw [if_pos ⟨hj, ho⟩] at hk
              rw [if_pos ho]
              obtain ⟨j, hjl, rfl⟩ := ix_of (by omega) hj
              obtain ⟨v, hv, rfl⟩ := ix_of (by omega) ho
              rw [nI_clamp (by omega), nI_clamp (by omega)] at hk
              have hb2 : b = 0 ∨ b = 1 := by omega
              simp (disch := omega) only [aw_aload_0 (pc2 := 45) D170_44 rfl, aw_getR (pc2 := 48) (ci := 7) (fk := 13) D170_45 rfl fT_7_49 rfl, aw_sipush (pc2 := 51) (y := 1500) D170_48 rfl (by decide), aw_iload_1 (pc2 := 52) D170_51 rfl, aw_imul (pc2 := 53) D170_52 rfl, aw_iload_2 (pc2 := 54) D170_53 rfl, aw_iadd (pc2 := 55) D170_54 rfl, aw_iaload (pc2 := 56) D170_55 rfl, aw_iload_3 (pc2 := 57) D170_56 rfl, aw_iadd (pc2 := 58) D170_57 rfl, aw_istore_6 (pc2 := 60) D170_58 rfl, aw_aload_0 (pc2 := 61) D170_60 rfl, aw_getR (pc2 := 64) (ci := 7) (fk := 15) D170_61 rfl fT_7_56 rfl, aw_iload_6 (pc2 := 66) D170_64 rfl, aw_iaload (pc2 := 67) D170_66 rfl, aw_istore_7 (pc2 := 69) D170_67 rfl, aw_aload_0 (pc2 := 70) D170_69 rfl, aw_getR (pc2 := 73) (ci := 7) (fk := 15) D170_70 rfl fT_7_56 rfl, aw_iload_6 (pc2 := 75) D170_73 rfl, aw_iload_4 (pc2 := 77) D170_75 rfl, aw_iastore (pc2 := 78) D170_77 rfl, aw_aload_0 (pc2 := 79) D170_78 rfl, aw_getR (pc2 := 82) (ci := 7) (fk := 43) D170_79 rfl fT_7_127 rfl, aw_iload_1 (pc2 := 83) D170_82 rfl, aw_iconst (pc2 := 84) (y := 0) D170_83 rfl (by decide), aw_bastore (pc2 := 85) D170_84 rfl, aw_iload_7 (pc2 := 87) D170_85 rfl, aw_iret D170_87 rfl, sh_122, rf_122_13, sh_136, lit_1500, rf_122_15, sh_138, rf_122_43, sh_161, refV_s, refV_n, psh_s, psh_n, kil_i, kil_r, kil_n, kil_l, cat_i, cat_r, iOK_1, iOK_5, jOK_2, jOK_6, wOK_e, lOK_1, lOK_2, lOK_3, lOK_4, catS_0, catS_1, catS_2, catS_3, catS_4, and_self, true_and, and_true, true_or, or_true, false_or, or_false, not_true_eq_false, not_false_eq_true, if_true, if_false, ite_int, ite_int0, au_10, eq_self, au_in, au_le, au_lt, au_eq, au_lt0, au_ge0, au_le0, au_gt0, au_eq0, au_leT, au_leF, au_ltT, au_ltF, au_eqT, au_eqF, nI_clamp, nI_1, nI_add, pk_mul, au_sub1, au_subc, au_up2e, au_up2n, lit_of, lit_1500, n4, n5 j hjl]
              have hlt : (setPart g i j v).1.length = g.1.length := List.length_set
              have hpo2 : ∀ q, q ≤ g.1.length → poN (setPart g i j v) q = poN g q := fun q hq => by
                unfold poN
                refine fb_sm_cong (fun z hz => ?_)
                rw [set_node hi]
                by_cases e : z = i
                · subst e; rw [if_pos rfl]; exact List.length_set
                · rw [if_neg e]
              have apart : ∀ z q, z < g.1.length → q < (nodeAt g z).2.2.length → 40000 * b + poN g z + q = 40000 * b + poN g i + j → z = i ∧ q = j := by
                intro z q hz hq he
                have hs1 := fb_sm_part (fun k => (nodeAt g k).2.2.length) (i := z) (n := i)
                have hs2 := fb_sm_part (fun k => (nodeAt g k).2.2.length) (i := i) (n := z)
                have he2 : poN g z + q = poN g i + j := by omega
                unfold poN at he2
                by_cases e1 : z < i
                · have := hs1 e1; omega
                · by_cases e2 : i < z
                  · have := hs2 e2; omega
                  · have : z = i := by omega
                    subst this
                    exact ⟨rfl, by omega⟩
              refine hk _ _ (h.setB hs hb ⟨?_, ?_, fun z hz => ?_, ?_, ?_, ?_, fun p hp2 => ?_, ?_⟩ (fun c hc2 hne => (SlM.up (by unfold inSl; omega)).tr (SlM.up (by unfold inSl; omega))) ?_ ?_ ?_) (fun c hc2 => ?_) FrM.rf
              · simp (disch := omega) only [au_up2n]; exact hh.1
              · simp (disch := omega) only [au_up2n]; exact hh.2.1
              · simp (disch := omega) only [au_up2n]; exact hh.2.2.1 z hz
              · simp (disch := omega) only [au_up2n]; exact hh.2.2.2.1
              · simp (disch := omega) only [au_up2n]; exact hh.2.2.2.2.1
              · simp (disch := omega) only [au_up2n]; exact hh.2.2.2.2.2.1
              · simp (disch := omega) only [au_up2n]; exact hh.2.2.2.2.2.2.1 p hp2
              · refine ⟨?_, ?_, ?_, fun z hz => ?_, Or.inl ?_⟩
                · simp (disch := omega) only [au_up2n]; rw [hlt]; exact hg.1
                · simp (disch := omega) only [au_up2n]; exact hg.2.1
                · simp (disch := omega) only [au_up2n]; exact hg.2.2.1
                · rw [hlt] at hz
                  obtain ⟨w1, w2, w3, w4, w5⟩ := hg.2.2.2.1 z hz
                  have hzo := po_le hgo (show z ≤ g.1.length by omega)
                  have hzl := nd_len (node_ok hgo hz)
                  rw [set_node hi]
                  simp (disch := omega) only [au_up2n, hpo2]
                  by_cases e : z = i
                  · subst e
                    rw [if_pos rfl]
                    refine ⟨w1, w2, ?_, w4, fun q hq => ?_⟩
                    · show _ = nI ((nodeAt g z).2.2.set j v).length
                      rw [List.length_set]; exact w3
                    · have hq : q < ((nodeAt g z).2.2.set j v).length := hq
                      rw [List.length_set] at hq
                      show _ = nI (((nodeAt g z).2.2.set j v).getD q 0)
                      rw [get_set hjl]
                      by_cases e2 : q = j
                      · simp (disch := omega) only [e2, au_up2e, au_up2n, if_true]
                      · simp (disch := omega) only [e2, au_up2n, if_false]
                        exact w5 q hq
                  · rw [if_neg e]
                    refine ⟨w1, w2, w3, w4, fun q hq => ?_⟩
                    have hne : 40000 * b + poN g z + q ≠ 40000 * b + poN g i + j := fun q2 => e (apart z q hz hq q2).1
                    simp (disch := omega) only [au_up2n]
                    exact w5 q hq
                · simp (disch := omega) only [au_up2e]
              · simp (disch := omega) only [au_up2c]
              · simp (disch := omega) only [au_up2c]
              · simp (disch := omega) only [au_up2c]
              · simp (disch := omega) only [au_up2c]
            · rw [if_neg (fun q => ho q.2)] at hk
              rw [if_neg ho]
              exact hk.ref h (by omega) (by omega)
          · rw [if_neg (fun q => hj q.1)] at hk
            simp only [aw_aload_0 (pc2 := 1) D170_0 rfl, aw_iload_1 (pc2 := 2) D170_1 rfl, aw_iload_2 (pc2 := 3) D170_2 rfl, aw_iload_3 (pc2 := 4) D170_3 rfl, aw_iv3_0 (pc2 := 7) (o := 7) D170_4 rfl cT_7_272 rfl rfl, aw_istore_5 (pc2 := 9) D170_7 rfl, aw_iload_5 (pc2 := 11) D170_9 rfl, aw_if_ne (pc2 := 14) (t := 32) D170_11 (by decide) rfl, aw_iload_5 (pc2 := 34) D170_32 rfl, aw_if_eq (pc2 := 37) (t := 44) D170_34 (by decide) rfl, aw_aload_0 (pc2 := 38) D170_37 rfl, aw_iload_5 (pc2 := 40) D170_38 rfl, aw_iv1_0 (pc2 := 43) (o := 7) D170_40 rfl cT_7_154 rfl rfl, aw_iret D170_43 rfl, sh_122, rf_122_13, sh_136, lit_1500, rf_122_15, sh_138, rf_122_43, sh_161, refV_s, refV_n, psh_s, psh_n, kil_i, kil_r, kil_n, kil_l, cat_i, cat_r, iOK_1, iOK_5, jOK_2, jOK_6, wOK_e, lOK_1, lOK_2, lOK_3, lOK_4, catS_0, catS_1, catS_2, catS_3, catS_4, and_self, true_and, and_true, true_or, or_true, false_or, or_false, not_true_eq_false, not_false_eq_true, if_true, if_false, ite_int, ite_int0, au_10, eq_self, M_wp hb (show i < 1500 by omega) hk3 hkk.2 hl12 n1 n3 hwy, if_neg hj, M_no3, if_neg (show ¬ (-3 : Int32) = 0 by decide), if_pos (show ¬ (-3 : Int32) = 0 by decide)]
            exact hk.ref h (by omega) (by omega)
      · rw [if_neg hc] at hk
        have hwy : ∀ {K' : KT}, ACall (d + 2) 165 [.ref 122, .int (nI b), .int k] (G0 Ln) I J K' ↔ K' (some (.int (-3))) (G0 Ln) I J := fun {K'} => by
          rw [M_why hb hg.1 (by omega) (by omega), if_neg hc]
        simp only [aw_aload_0 (pc2 := 1) D170_0 rfl, aw_iload_1 (pc2 := 2) D170_1 rfl, aw_iload_2 (pc2 := 3) D170_2 rfl, aw_iload_3 (pc2 := 4) D170_3 rfl, aw_iv3_0 (pc2 := 7) (o := 7) D170_4 rfl cT_7_272 rfl rfl, aw_istore_5 (pc2 := 9) D170_7 rfl, aw_iload_5 (pc2 := 11) D170_9 rfl, aw_if_ne (pc2 := 14) (t := 32) D170_11 (by decide) rfl, aw_iload_5 (pc2 := 34) D170_32 rfl, aw_if_eq (pc2 := 37) (t := 44) D170_34 (by decide) rfl, aw_aload_0 (pc2 := 38) D170_37 rfl, aw_iload_5 (pc2 := 40) D170_38 rfl, aw_iv1_0 (pc2 := 43) (o := 7) D170_40 rfl cT_7_154 rfl rfl, aw_iret D170_43 rfl, sh_122, rf_122_13, sh_136, lit_1500, rf_122_15, sh_138, rf_122_43, sh_161, refV_s, refV_n, psh_s, psh_n, kil_i, kil_r, kil_n, kil_l, cat_i, cat_r, iOK_1, iOK_5, jOK_2, jOK_6, wOK_e, lOK_1, lOK_2, lOK_3, lOK_4, catS_0, catS_1, catS_2, catS_3, catS_4, and_self, true_and, and_true, true_or, or_true, false_or, or_false, not_true_eq_false, not_false_eq_true, if_true, if_false, ite_int, ite_int0, au_10, eq_self, M_wpN (show ¬ (-3 : Int32) = 0 by decide) hwy, M_no3, if_neg (show ¬ (-3 : Int32) = 0 by decide), if_pos (show ¬ (-3 : Int32) = 0 by decide)]
        exact hk.ref h (by omega) (by omega)
end NodeM
