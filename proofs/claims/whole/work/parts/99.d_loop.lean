/-! the law's loop -/
theorem gt6 {L i : Nat} (hL : L ≤ 3072) (hi : i < 4000) : (nI L - nI 6 < nI i) = (L < i + 6) := by
  have z : (nI L - nI 6).toInt = (L : Int) - (6 : Nat) := pk_sub_toInt (by omega) (by decide)
  rw [fa_lt, z, nI_toInt (by omega)]
  exact propext (by omega)
theorem L_loop {Ln : Nat} {xs : Nat → Int32} (hL : Ln ≤ 3072) : ∀ (n i : Nat) (σ : SG) (I : IT) (J : JT), Ln + 1 ≤ i + n → i < 4000 → sgOK σ → CInv σ I J → MInv σ I → I scrC = xs → AW 300 (165, 391146) K1 209 18 [.ref scrC, .ref 0, .ref 122, .int (nI i)] [] (G0 Ln) I J := by
  intro n
  induction n with
  | zero =>
    intro i σ I J hn hi hs hc hm hx
    simp (disch := omega) only [aw_iload_3 (pc2 := 19) D209_18 rfl, aw_aload_0 (pc2 := 20) D209_19 rfl, aw_alen (pc2 := 21) D209_20 rfl, aw_bipush (pc2 := 23) (y := 6) D209_21 rfl (by decide), aw_isub (pc2 := 24) D209_23 rfl, aw_icmp_gt (pc2 := 27) (t := 1356) D209_24 (by decide) rfl, aw_iconst (pc2 := 1357) (y := 1) D209_1356 rfl (by decide), aw_zret D209_1357 rfl, refV_s, refV_n, psh_s, psh_n, kil_i, kil_r, kil_n, kil_l, cat_i, cat_r, iOK_1, iOK_5, jOK_2, jOK_6, wOK_e, lOK_1, lOK_2, lOK_3, lOK_4, lOK_5, lOK_6, catS_0, catS_1, catS_2, catS_3, catS_4, and_self, true_and, and_true, true_or, or_true, false_or, or_false, not_true_eq_false, not_false_eq_true, if_true, if_false, ite_int, ite_int0, au_10, eq_self, decide_true, decide_false, Bool.true_and, Bool.false_and, au_in, au_le, au_lt, au_eq, au_lt0, au_ge0, au_le0, au_gt0, au_eq0, au_leT, au_leF, au_ltT, au_ltF, au_eqT, au_eqF, nI_clamp, nI_1, nI_add, pk_mul, au_sub1, au_subc, au_up2e, au_up2n, lit_of, sh_scr, lit_6, gt6]
    exact ⟨⟨rfl, rfl⟩, rfl⟩
  | succ n ih =>
    intro i σ I J hn hi hs hc hm hx
    have ihn := ih (i + 6)
    rw [aw_iload_3 (pc2 := 19) D209_18 rfl]
    simp (disch := omega) only [aw_aload_0 (pc2 := 20) D209_19 rfl, aw_alen (pc2 := 21) D209_20 rfl, aw_bipush (pc2 := 23) (y := 6) D209_21 rfl (by decide), aw_isub (pc2 := 24) D209_23 rfl, aw_icmp_gt (pc2 := 27) (t := 1356) D209_24 (by decide) rfl, refV_s, refV_n, psh_s, psh_n, kil_i, kil_r, kil_n, kil_l, cat_i, cat_r, iOK_1, iOK_5, jOK_2, jOK_6, wOK_e, lOK_1, lOK_2, lOK_3, lOK_4, lOK_5, lOK_6, catS_0, catS_1, catS_2, catS_3, catS_4, and_self, true_and, and_true, true_or, or_true, false_or, or_false, not_true_eq_false, not_false_eq_true, if_true, if_false, ite_int, ite_int0, au_10, eq_self, decide_true, decide_false, Bool.true_and, Bool.false_and, au_in, au_le, au_lt, au_eq, au_lt0, au_ge0, au_le0, au_gt0, au_eq0, au_leT, au_leF, au_ltT, au_ltF, au_eqT, au_eqF, nI_clamp, nI_1, nI_add, pk_mul, au_sub1, au_subc, au_up2e, au_up2n, lit_of, sh_scr, lit_6, gt6]
    by_cases h6 : Ln < i + 6
    · rw [if_pos h6]
      simp (disch := omega) only [aw_iconst (pc2 := 1357) (y := 1) D209_1356 rfl (by decide), aw_zret D209_1357 rfl, refV_s, refV_n, psh_s, psh_n, kil_i, kil_r, kil_n, kil_l, cat_i, cat_r, iOK_1, iOK_5, jOK_2, jOK_6, wOK_e, lOK_1, lOK_2, lOK_3, lOK_4, lOK_5, lOK_6, catS_0, catS_1, catS_2, catS_3, catS_4, and_self, true_and, and_true, true_or, or_true, false_or, or_false, not_true_eq_false, not_false_eq_true, if_true, if_false, ite_int, ite_int0, au_10, eq_self, decide_true, decide_false, Bool.true_and, Bool.false_and, au_in, au_le, au_lt, au_eq, au_lt0, au_ge0, au_le0, au_gt0, au_eq0, au_leT, au_leF, au_ltT, au_ltF, au_eqT, au_eqF, nI_clamp, nI_1, nI_add, pk_mul, au_sub1, au_subc, au_up2e, au_up2n, lit_of]
      exact ⟨⟨rfl, rfl⟩, rfl⟩
    · rw [if_neg h6]
      have h6' : i + 6 ≤ Ln := by omega
      have hN : nextP Ln i xs := fun σ I J hs hc hm hx => by
        simp (disch := omega) only [aw_iinc_3 (pc2 := 1353) (y := 6) D209_1350 rfl (by decide), aw_goto (t := 18) D209_1353 (by decide), refV_s, refV_n, psh_s, psh_n, kil_i, kil_r, kil_n, kil_l, cat_i, cat_r, iOK_1, iOK_5, jOK_2, jOK_6, wOK_e, lOK_1, lOK_2, lOK_3, lOK_4, lOK_5, lOK_6, catS_0, catS_1, catS_2, catS_3, catS_4, and_self, true_and, and_true, true_or, or_true, false_or, or_false, not_true_eq_false, not_false_eq_true, if_true, if_false, ite_int, ite_int0, au_10, eq_self, decide_true, decide_false, Bool.true_and, Bool.false_and, lit_6, nI_add]
        exact ihn σ I J (by omega) (by omega) hs hc hm hx
      simp (disch := omega) only [aw_aload_0 (pc2 := 28) D209_27 rfl, aw_iload_3 (pc2 := 29) D209_28 rfl, aw_iaload (pc2 := 30) D209_29 rfl, aw_bipush (pc2 := 32) (y := 63) D209_30 rfl (by decide), aw_iand (pc2 := 33) D209_32 rfl, refV_s, refV_n, psh_s, psh_n, kil_i, kil_r, kil_n, kil_l, cat_i, cat_r, iOK_1, iOK_5, jOK_2, jOK_6, wOK_e, lOK_1, lOK_2, lOK_3, lOK_4, lOK_5, lOK_6, catS_0, catS_1, catS_2, catS_3, catS_4, and_self, true_and, and_true, true_or, or_true, false_or, or_false, not_true_eq_false, not_false_eq_true, if_true, if_false, ite_int, ite_int0, au_10, eq_self, decide_true, decide_false, Bool.true_and, Bool.false_and, au_in, au_le, au_lt, au_eq, au_lt0, au_ge0, au_le0, au_gt0, au_eq0, au_leT, au_leF, au_ltT, au_ltF, au_eqT, au_eqF, nI_clamp, nI_1, nI_add, pk_mul, au_sub1, au_subc, au_up2e, au_up2n, lit_of, sh_scr, hx]
      obtain ⟨j, hj, e⟩ := pk_andE (xs i) (m := 63) 6 (by decide)
      rw [show xs i &&& 63 = nI j from e]
      have hto : (nI j).toInt = j := nI_toInt (by omega)
      by_cases h35 : j < 35
      · rcases (show j = 0 ∨ j = 1 ∨ j = 2 ∨ j = 3 ∨ j = 4 ∨ j = 5 ∨ j = 6 ∨ j = 7 ∨ j = 8 ∨ j = 9 ∨ j = 10 ∨ j = 11 ∨ j = 12 ∨ j = 13 ∨ j = 14 ∨ j = 15 ∨ j = 16 ∨ j = 17 ∨ j = 18 ∨ j = 19 ∨ j = 20 ∨ j = 21 ∨ j = 22 ∨ j = 23 ∨ j = 24 ∨ j = 25 ∨ j = 26 ∨ j = 27 ∨ j = 28 ∨ j = 29 ∨ j = 30 ∨ j = 31 ∨ j = 32 ∨ j = 33 ∨ j = 34 by omega) with rfl | rfl | rfl | rfl | rfl | rfl | rfl | rfl | rfl | rfl | rfl | rfl | rfl | rfl | rfl | rfl | rfl | rfl | rfl | rfl | rfl | rfl | rfl | rfl | rfl | rfl | rfl | rfl | rfl | rfl | rfl | rfl | rfl | rfl | rfl
        · exact (aw_tsw_in (j := 0) (off := 155) (t := 188) D209_33 hto (by decide) rfl (by decide)).mpr (LC_letters h6' hL hN σ I J hs hc hm hx)
        · exact (aw_tsw_in (j := 1) (off := 188) (t := 221) D209_33 hto (by decide) rfl (by decide)).mpr (LC_clause h6' hL hN σ I J hs hc hm hx)
        · exact (aw_tsw_in (j := 2) (off := 251) (t := 284) D209_33 hto (by decide) rfl (by decide)).mpr (LC_more h6' hL hN σ I J hs hc hm hx)
        · exact (aw_tsw_in (j := 3) (off := 284) (t := 317) D209_33 hto (by decide) rfl (by decide)).mpr (LC_drop h6' hL hN σ I J hs hc hm hx)
        · exact (aw_tsw_in (j := 4) (off := 307) (t := 340) D209_33 hto (by decide) rfl (by decide)).mpr (LC_ask h6' hL hN σ I J hs hc hm hx)
        · exact (aw_tsw_in (j := 5) (off := 366) (t := 399) D209_33 hto (by decide) rfl (by decide)).mpr (LC_fix h6' hL hN σ I J hs hc hm hx)
        · exact (aw_tsw_in (j := 6) (off := 399) (t := 432) D209_33 hto (by decide) rfl (by decide)).mpr (LC_loose h6' hL hN σ I J hs hc hm hx)
        · exact (aw_tsw_in (j := 7) (off := 432) (t := 465) D209_33 hto (by decide) rfl (by decide)).mpr (LC_weight h6' hL hN σ I J hs hc hm hx)
        · exact (aw_tsw_in (j := 8) (off := 475) (t := 508) D209_33 hto (by decide) rfl (by decide)).mpr (LC_count h6' hL hN σ I J hs hc hm hx)
        · exact (aw_tsw_in (j := 9) (off := 508) (t := 541) D209_33 hto (by decide) rfl (by decide)).mpr (LC_compile h6' hL hN σ I J hs hc hm hx)
        · exact (aw_tsw_in (j := 10) (off := 531) (t := 564) D209_33 hto (by decide) rfl (by decide)).mpr (LC_root h6' hL hN σ I J hs hc hm hx)
        · exact (aw_tsw_in (j := 11) (off := 554) (t := 587) D209_33 hto (by decide) rfl (by decide)).mpr (LC_node h6' hL hN σ I J hs hc hm hx)
        · exact (aw_tsw_in (j := 12) (off := 597) (t := 630) D209_33 hto (by decide) rfl (by decide)).mpr (LC_part h6' hL hN σ I J hs hc hm hx)
        · exact (aw_tsw_in (j := 13) (off := 640) (t := 673) D209_33 hto (by decide) rfl (by decide)).mpr (LC_bend h6' hL hN σ I J hs hc hm hx)
        · exact (aw_tsw_in (j := 14) (off := 693) (t := 726) D209_33 hto (by decide) rfl (by decide)).mpr (LC_judge h6' hL hN σ I J hs hc hm hx)
        · exact (aw_tsw_in (j := 15) (off := 716) (t := 749) D209_33 hto (by decide) rfl (by decide)).mpr (LC_guilty h6' hL hN σ I J hs hc hm hx)
        · exact (aw_tsw_in (j := 16) (off := 729) (t := 762) D209_33 hto (by decide) rfl (by decide)).mpr (LC_rows h6' hL hN σ I J hs hc hm hx)
        · exact (aw_tsw_in (j := 17) (off := 752) (t := 785) D209_33 hto (by decide) rfl (by decide)).mpr (LC_says h6' hL hN σ I J hs hc hm hx)
        · exact (aw_tsw_in (j := 18) (off := 785) (t := 818) D209_33 hto (by decide) rfl (by decide)).mpr (LC_sum h6' hL hN σ I J hs hc hm hx)
        · exact (aw_tsw_in (j := 19) (off := 809) (t := 842) D209_33 hto (by decide) rfl (by decide)).mpr (LC_chance h6' hL hN σ I J hs hc hm hx)
        · exact (aw_tsw_in (j := 20) (off := 869) (t := 902) D209_33 hto (by decide) rfl (by decide)).mpr (LC_sure h6' hL hN σ I J hs hc hm hx)
        · exact (aw_tsw_in (j := 21) (off := 902) (t := 935) D209_33 hto (by decide) rfl (by decide)).mpr (LC_kth h6' hL hN σ I J hs hc hm hx)
        · exact (aw_tsw_in (j := 22) (off := 935) (t := 968) D209_33 hto (by decide) rfl (by decide)).mpr (LC_rank h6' hL hN σ I J hs hc hm hx)
        · exact (aw_tsw_in (j := 23) (off := 968) (t := 1001) D209_33 hto (by decide) rfl (by decide)).mpr (LC_next h6' hL hN σ I J hs hc hm hx)
        · exact (aw_tsw_in (j := 24) (off := 1001) (t := 1034) D209_33 hto (by decide) rfl (by decide)).mpr (LC_most h6' hL hN σ I J hs hc hm hx)
        · exact (aw_tsw_in (j := 25) (off := 1050) (t := 1083) D209_33 hto (by decide) rfl (by decide)).mpr (LC_weigh h6' hL hN σ I J hs hc hm hx)
        · exact (aw_tsw_in (j := 26) (off := 1084) (t := 1117) D209_33 hto (by decide) rfl (by decide)).mpr (LC_asked h6' hL hN σ I J hs hc hm hx)
        · exact (aw_tsw_in (j := 27) (off := 1107) (t := 1140) D209_33 hto (by decide) rfl (by decide)).mpr (LC_less h6' hL hN σ I J hs hc hm hx)
        · exact (aw_tsw_in (j := 28) (off := 1146) (t := 1179) D209_33 hto (by decide) rfl (by decide)).mpr (LC_join h6' hL hN σ I J hs hc hm hx)
        · exact (aw_tsw_in (j := 29) (off := 1159) (t := 1192) D209_33 hto (by decide) rfl (by decide)).mpr (LC_lay h6' hL hN σ I J hs hc hm hx)
        · exact (aw_tsw_in (j := 30) (off := 1192) (t := 1225) D209_33 hto (by decide) rfl (by decide)).mpr (LC_tear h6' hL hN σ I J hs hc hm hx)
        · exact (aw_tsw_in (j := 31) (off := 1205) (t := 1238) D209_33 hto (by decide) rfl (by decide)).mpr (LC_row h6' hL hN σ I J hs hc hm hx)
        · exact (aw_tsw_in (j := 32) (off := 1228) (t := 1261) D209_33 hto (by decide) rfl (by decide)).mpr (LC_copy h6' hL hN σ I J hs hc hm hx)
        · exact (aw_tsw_in (j := 33) (off := 1271) (t := 1304) D209_33 hto (by decide) rfl (by decide)).mpr (LC_give h6' hL hN σ I J hs hc hm hx)
        · exact (aw_tsw_in (j := 34) (off := 1294) (t := 1327) D209_33 hto (by decide) rfl (by decide)).mpr (LC_status h6' hL hN σ I J hs hc hm hx)
      · exact (aw_tsw_out (t := 1350) D209_33 (Or.inr (by rw [hto]; omega)) (by decide)).mpr (hN σ I J hs hc hm hx)
