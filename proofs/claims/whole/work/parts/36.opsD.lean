section OpsD
variable {d Ln : Nat} {I : IT} {J : JT} {K : KT} {σ : SG}
theorem M_mayBe {b N : Nat} {s : Int32} (hb : b < 2) (hN : I 123 b = nI N) : ACall (d + 3) 134 [.ref 122, .int (nI b), .int s] (G0 Ln) I J K ↔ K (some (.int (@ite _ (s = 0 ∨ alS N s) (Classical.propDecidable _) 1 0))) (G0 Ln) I J := by
  rw [ACall_0 (L0 := [.ref 122, .int (nI b), .int s]) (show mcs 134 = (0, 0) from rfl) (show entL 134 [.ref 122, .int (nI b), .int s] = _ from rfl) rfl (Nat.le_of_ble_eq_true rfl)]
  simp only [aw_iload_2 (pc2 := 1) D134_0 rfl, aw_if_eq (pc2 := 4) (t := 13) D134_1 (by decide) rfl, aw_aload_0 (pc2 := 5) D134_4 rfl, aw_iload_1 (pc2 := 6) D134_5 rfl, aw_iload_2 (pc2 := 7) D134_6 rfl, aw_iv2_0 (pc2 := 10) (o := 7) D134_7 rfl cT_7_163 rfl rfl, aw_if_eq (pc2 := 13) (t := 17) D134_10 (by decide) rfl, aw_iconst (pc2 := 14) (y := 1) D134_13 rfl (by decide), aw_goto (t := 18) D134_14 (by decide), aw_iconst (pc2 := 18) (y := 0) D134_17 rfl (by decide), aw_zret D134_18 rfl, sh_122, refV_s, refV_n, psh_s, psh_n, kil_i, kil_r, kil_n, kil_l, cat_i, cat_r, iOK_1, iOK_5, jOK_2, jOK_6, wOK_e, lOK_1, lOK_2, lOK_3, lOK_4, catS_0, catS_1, catS_2, catS_3, catS_4, and_self, true_and, and_true, true_or, or_true, false_or, or_false, not_true_eq_false, not_false_eq_true, if_true, if_false, ite_int, ite_int0, au_10, eq_self, M_isSign hb hN]
  by_cases h0 : s = 0
  · rw [if_pos h0, ifT (Or.inl h0)]
  · rw [if_neg h0]
    by_cases h1 : alS N s
    · rw [ifT (show okS N s from ⟨h0, h1⟩), ifT (Or.inr h1)]
    · rw [if_neg (fun q : okS N s => h1 q.2), if_neg (fun q => h1 (q.resolve_left h0))]
theorem alS_0 {N : Nat} {s : Int32} (hN : N ≤ 12) : (s = 0 ∨ alS N s) ↔ alS N s := by
  constructor
  · rintro (rfl | h)
    · have : ∀ n, n < 13 → -(nI n) ≤ (0 : Int32) ∧ (0 : Int32) ≤ nI n := by decide
      exact this N (by omega)
    · exact h
  · exact Or.inr
theorem M_adds {b m : Nat} (hb : b < 2) (hm : m < 2 ^ 24) (hs : sgOK σ) (h : MInv σ I) (hk : MPost Ln I J K (oPut σ b m)) : ACall (d + 2) 133 [.ref 122, .int (nI b), .int (nI m)] (G0 Ln) I J K := by
  rw [ACall_0 (L0 := [.ref 122, .int (nI b), .int (nI m)]) (show mcs 133 = (0, 0) from rfl) (show entL 133 [.ref 122, .int (nI b), .int (nI m)] = _ from rfl) rfl (Nat.le_of_ble_eq_true rfl)]
  have hh := h.1 b hb
  have hl := (hs.1 b hb).2.2.1
  have hz : nI (m &&& denN m) = 0 ↔ ¬ cfl m := by rw [nI_zero (Nat.lt_of_le_of_lt denN_lt (by omega)), cfl_M hm]
  unfold oPut at hk
  by_cases hc : m = 0 ∨ cfl m
  · rw [ifT hc] at hk
    have key := hk.ref h (by omega) (by omega)
    simp (disch := omega) only [aw_iload_2 (pc2 := 1) D133_0 rfl, aw_if_eq (pc2 := 4) (t := 13) D133_1 (by decide) rfl, aw_iload_2 (pc2 := 5) D133_4 rfl, aw_iload_2 (pc2 := 6) D133_5 rfl, aw_is1_2 (pc2 := 9) D133_6 rfl cT_7_160 rfl, aw_iand (pc2 := 10) D133_9 rfl, aw_if_eq (pc2 := 13) (t := 20) D133_10 (by decide) rfl, aw_aload_0 (pc2 := 14) D133_13 rfl, aw_bipush (pc2 := 16) (y := -7) D133_14 rfl (by decide), aw_iv1_0 (pc2 := 19) (o := 7) D133_16 rfl cT_7_154 rfl rfl, aw_iret D133_19 rfl, sh_122, rf_122_2, sh_125, lit_40, rf_122_1, sh_124, rf_122_8, sh_131, refV_s, refV_n, psh_s, psh_n, kil_i, kil_r, kil_n, kil_l, cat_i, cat_r, iOK_1, iOK_5, jOK_2, jOK_6, wOK_e, lOK_1, lOK_2, lOK_3, lOK_4, catS_0, catS_1, catS_2, catS_3, catS_4, and_self, true_and, and_true, true_or, or_true, false_or, or_false, not_true_eq_false, not_false_eq_true, if_true, if_false, ite_int, ite_int0, au_10, eq_self, M_no7, M_denied, denM_nI hm, fa_and, hz]
    by_cases hm0 : m = 0
    · subst hm0
      rw [if_pos nI_0]; exact key
    · rw [if_neg (nI_ne0 (by omega) (by omega)), if_neg (fun q => hz.mp q (hc.resolve_left hm0))]
      exact key
  · rw [if_neg hc] at hk
    have hm0 : ¬ m = 0 := fun q => hc (Or.inl q)
    have hcf : ¬ cfl m := fun q => hc (Or.inr q)
    simp (disch := omega) only [aw_iload_2 (pc2 := 1) D133_0 rfl, aw_if_eq (pc2 := 4) (t := 13) D133_1 (by decide) rfl, aw_iload_2 (pc2 := 5) D133_4 rfl, aw_iload_2 (pc2 := 6) D133_5 rfl, aw_is1_2 (pc2 := 9) D133_6 rfl cT_7_160 rfl, aw_iand (pc2 := 10) D133_9 rfl, aw_if_eq (pc2 := 13) (t := 20) D133_10 (by decide) rfl, aw_aload_0 (pc2 := 14) D133_13 rfl, aw_bipush (pc2 := 16) (y := -7) D133_14 rfl (by decide), aw_iv1_0 (pc2 := 19) (o := 7) D133_16 rfl cT_7_154 rfl rfl, aw_iret D133_19 rfl, aw_aload_0 (pc2 := 21) D133_20 rfl, aw_getR (pc2 := 24) (ci := 7) (fk := 2) D133_21 rfl fT_7_16 rfl, aw_iload_1 (pc2 := 25) D133_24 rfl, aw_iaload (pc2 := 26) D133_25 rfl, aw_bipush (pc2 := 28) (y := 40) D133_26 rfl (by decide), aw_icmp_ne (pc2 := 31) (t := 38) D133_28 (by decide) rfl, aw_aload_0 (pc2 := 32) D133_31 rfl, aw_bipush (pc2 := 34) (y := -8) D133_32 rfl (by decide), aw_iv1_0 (pc2 := 37) (o := 7) D133_34 rfl cT_7_154 rfl rfl, aw_iret D133_37 rfl, aw_aload_0 (pc2 := 39) D133_38 rfl, aw_getR (pc2 := 42) (ci := 7) (fk := 1) D133_39 rfl fT_7_13 rfl, aw_bipush (pc2 := 44) (y := 40) D133_42 rfl (by decide), aw_iload_1 (pc2 := 45) D133_44 rfl, aw_imul (pc2 := 46) D133_45 rfl, aw_aload_0 (pc2 := 47) D133_46 rfl, aw_getR (pc2 := 50) (ci := 7) (fk := 2) D133_47 rfl fT_7_16 rfl, aw_iload_1 (pc2 := 51) D133_50 rfl, aw_iaload (pc2 := 52) D133_51 rfl, aw_iadd (pc2 := 53) D133_52 rfl, aw_iload_2 (pc2 := 54) D133_53 rfl, aw_iastore (pc2 := 55) D133_54 rfl, aw_aload_0 (pc2 := 56) D133_55 rfl, aw_getR (pc2 := 59) (ci := 7) (fk := 2) D133_56 rfl fT_7_16 rfl, aw_iload_1 (pc2 := 60) D133_59 rfl, aw_dup2 (pc2 := 61) D133_60 rfl, aw_iaload (pc2 := 62) D133_61 rfl, aw_iconst (pc2 := 63) (y := 1) D133_62 rfl (by decide), aw_iadd (pc2 := 64) D133_63 rfl, aw_iastore (pc2 := 65) D133_64 rfl, aw_aload_0 (pc2 := 66) D133_65 rfl, aw_getR (pc2 := 69) (ci := 7) (fk := 8) D133_66 rfl fT_7_34 rfl, aw_iload_1 (pc2 := 70) D133_69 rfl, aw_iconst (pc2 := 71) (y := 0) D133_70 rfl (by decide), aw_iastore (pc2 := 72) D133_71 rfl, aw_aload_0 (pc2 := 73) D133_72 rfl, aw_getR (pc2 := 76) (ci := 7) (fk := 2) D133_73 rfl fT_7_16 rfl, aw_iload_1 (pc2 := 77) D133_76 rfl, aw_iaload (pc2 := 78) D133_77 rfl, aw_iconst (pc2 := 79) (y := 1) D133_78 rfl (by decide), aw_isub (pc2 := 80) D133_79 rfl, aw_iret D133_80 rfl, sh_122, rf_122_2, sh_125, lit_40, rf_122_1, sh_124, rf_122_8, sh_131, refV_s, refV_n, psh_s, psh_n, kil_i, kil_r, kil_n, kil_l, cat_i, cat_r, iOK_1, iOK_5, jOK_2, jOK_6, wOK_e, lOK_1, lOK_2, lOK_3, lOK_4, catS_0, catS_1, catS_2, catS_3, catS_4, and_self, true_and, and_true, true_or, or_true, false_or, or_false, not_true_eq_false, not_false_eq_true, if_true, if_false, ite_int, ite_int0, au_10, eq_self, au_in, au_le, au_lt, au_eq, au_lt0, au_ge0, au_le0, au_gt0, au_eq0, au_leT, au_leF, au_ltT, au_ltF, au_eqT, au_eqF, nI_clamp, nI_1, nI_add, pk_mul, au_sub1, au_subc, au_up2e, au_up2n, lit_of, M_no7, M_no8, M_denied, denM_nI hm, fa_and, hz, hcf, hm0, hh.2.1]
    by_cases hf : (σ.1 b).cl.length = 40
    · rw [if_pos hf] at hk
      simp only [hf]
      exact hk.ref h (by omega) (by omega)
    · rw [if_neg hf] at hk
      simp (disch := omega) only [hf, au_in, au_le, au_lt, au_eq, au_lt0, au_ge0, au_le0, au_gt0, au_eq0, au_leT, au_leF, au_ltT, au_ltF, au_eqT, au_eqF, nI_clamp, nI_1, nI_add, pk_mul, au_sub1, au_subc, au_up2e, au_up2n, lit_of, refV_s, refV_n, psh_s, psh_n, kil_i, kil_r, kil_n, kil_l, cat_i, cat_r, iOK_1, iOK_5, jOK_2, jOK_6, wOK_e, lOK_1, lOK_2, lOK_3, lOK_4, catS_0, catS_1, catS_2, catS_3, catS_4, and_self, true_and, and_true, true_or, or_true, false_or, or_false, not_true_eq_false, not_false_eq_true, if_true, if_false, ite_int, ite_int0, au_10, eq_self]
      refine hk _ _ (h.setB hs hb ⟨?_, ?_, fun i hi => ?_, ?_, ?_, ?_, fun p hp => ?_, ?_⟩ (fun c hc hne => ((SlM.up (by unfold inSl; omega)).tr (SlM.up (by unfold inSl; omega))).tr (SlM.up (by unfold inSl; omega))) ?_ ?_ ?_) (fun c hc => ?_) FrM.rf
      · simp (disch := omega) only [au_up2n, au_up2c]; exact hh.1
      · show _ = nI ((σ.1 b).cl ++ [m]).length
        simp (disch := omega) only [au_up2e, au_up2n, List.length_append, List.length_cons, List.length_nil, Nat.zero_add]
      · have hi : i < ((σ.1 b).cl ++ [m]).length := hi
        rw [List.length_append] at hi
        show _ = nI (((σ.1 b).cl ++ [m]).getD i 0)
        rw [get_snoc (by simpa using hi)]
        by_cases e : i = (σ.1 b).cl.length
        · simp (disch := omega) only [au_up2e, au_up2n, e, if_true]
        · simp at hi
          simp (disch := omega) only [au_up2n, e, if_false]
          exact hh.2.2.1 i (by omega)
      · simp (disch := omega) only [au_up2n]; exact hh.2.2.2.1
      · simp (disch := omega) only [au_up2n]; exact hh.2.2.2.2.1
      · simp (disch := omega) only [au_up2n]; exact hh.2.2.2.2.2.1
      · simp (disch := omega) only [au_up2n]; exact hh.2.2.2.2.2.2.1 p hp
      · show up2 _ _ _ _ 131 b = 0
        simp (disch := omega) only [au_up2e]
      · simp (disch := omega) only [au_up2c]
      · simp (disch := omega) only [au_up2c]
      · simp (disch := omega) only [au_up2c]
      · simp (disch := omega) only [au_up2c]
theorem MO_clause {x s t u v : Int32} (hs : sgOK σ) (h : MInv σ I) (hk : MPost Ln I J K (oClause σ x s t u v)) : ACall (d + 4) 135 [.ref 122, .int x, .int s, .int t, .int u, .int v] (G0 Ln) I J K := by
  rw [ACall_0 (L0 := [.ref 122, .int x, .int s, .int t, .int u, .int v, nv]) (show mcs 135 = (0, 0) from rfl) (show entL 135 [.ref 122, .int x, .int s, .int t, .int u, .int v] = _ from rfl) rfl (Nat.le_of_ble_eq_true rfl)]
  unfold oClause at hk
  cases hx : bkOf x with
  | none =>
    simp only [hx] at hk
    obtain ⟨x0, x1⟩ := bkOf_none hx
    simp only [aw_iload_1 (pc2 := 1) D135_0 rfl, aw_is1_2 (pc2 := 4) D135_1 rfl cT_7_150 rfl, aw_if_eq (pc2 := 7) (t := 45) D135_4 (by decide) rfl, aw_aload_0 (pc2 := 8) D135_7 rfl, aw_iload_1 (pc2 := 9) D135_8 rfl, aw_iload_2 (pc2 := 10) D135_9 rfl, aw_iv2_0 (pc2 := 13) (o := 7) D135_10 rfl cT_7_167 rfl rfl, aw_if_eq (pc2 := 16) (t := 45) D135_13 (by decide) rfl, aw_aload_0 (pc2 := 17) D135_16 rfl, aw_iload_1 (pc2 := 18) D135_17 rfl, aw_iload_3 (pc2 := 19) D135_18 rfl, aw_iv2_0 (pc2 := 22) (o := 7) D135_19 rfl cT_7_167 rfl rfl, aw_if_eq (pc2 := 25) (t := 45) D135_22 (by decide) rfl, aw_aload_0 (pc2 := 26) D135_25 rfl, aw_iload_1 (pc2 := 27) D135_26 rfl, aw_iload_4 (pc2 := 29) D135_27 rfl, aw_iv2_0 (pc2 := 32) (o := 7) D135_29 rfl cT_7_167 rfl rfl, aw_if_eq (pc2 := 35) (t := 45) D135_32 (by decide) rfl, aw_aload_0 (pc2 := 36) D135_35 rfl, aw_iload_1 (pc2 := 37) D135_36 rfl, aw_iload_5 (pc2 := 39) D135_37 rfl, aw_iv2_0 (pc2 := 42) (o := 7) D135_39 rfl cT_7_167 rfl rfl, aw_if_ne (pc2 := 45) (t := 52) D135_42 (by decide) rfl, aw_aload_0 (pc2 := 46) D135_45 rfl, aw_bipush (pc2 := 48) (y := -3) D135_46 rfl (by decide), aw_iv1_0 (pc2 := 51) (o := 7) D135_48 rfl cT_7_154 rfl rfl, aw_iret D135_51 rfl, sh_122, refV_s, refV_n, psh_s, psh_n, kil_i, kil_r, kil_n, kil_l, cat_i, cat_r, iOK_1, iOK_5, jOK_2, jOK_6, wOK_e, lOK_1, lOK_2, lOK_3, lOK_4, catS_0, catS_1, catS_2, catS_3, catS_4, and_self, true_and, and_true, true_or, or_true, false_or, or_false, not_true_eq_false, not_false_eq_true, if_true, if_false, ite_int, ite_int0, au_10, eq_self, M_isBook, M_no3, x0, x1, or_self]
    exact hk.ref h (by omega) (by omega)
  | some b =>
    simp only [hx] at hk
    obtain ⟨hb, rfl⟩ := bkOf_some hx
    have hh := h.1 b hb
    have hN := (hs.1 b hb).2.1
    have key : ¬ (alS (σ.1 b).N s ∧ alS (σ.1 b).N t ∧ alS (σ.1 b).N u ∧ alS (σ.1 b).N v) → K (some (.int (-3))) (G0 Ln) (up2 I 130 3 (I 130 3 + 1)) J := fun q => by
      rw [if_neg q] at hk
      exact hk.ref h (by omega) (by omega)
    simp only [aw_iload_1 (pc2 := 1) D135_0 rfl, aw_is1_2 (pc2 := 4) D135_1 rfl cT_7_150 rfl, aw_if_eq (pc2 := 7) (t := 45) D135_4 (by decide) rfl, aw_aload_0 (pc2 := 8) D135_7 rfl, aw_iload_1 (pc2 := 9) D135_8 rfl, aw_iload_2 (pc2 := 10) D135_9 rfl, aw_iv2_0 (pc2 := 13) (o := 7) D135_10 rfl cT_7_167 rfl rfl, aw_if_eq (pc2 := 16) (t := 45) D135_13 (by decide) rfl, aw_aload_0 (pc2 := 17) D135_16 rfl, aw_iload_1 (pc2 := 18) D135_17 rfl, aw_iload_3 (pc2 := 19) D135_18 rfl, aw_iv2_0 (pc2 := 22) (o := 7) D135_19 rfl cT_7_167 rfl rfl, aw_if_eq (pc2 := 25) (t := 45) D135_22 (by decide) rfl, aw_aload_0 (pc2 := 26) D135_25 rfl, aw_iload_1 (pc2 := 27) D135_26 rfl, aw_iload_4 (pc2 := 29) D135_27 rfl, aw_iv2_0 (pc2 := 32) (o := 7) D135_29 rfl cT_7_167 rfl rfl, aw_if_eq (pc2 := 35) (t := 45) D135_32 (by decide) rfl, aw_aload_0 (pc2 := 36) D135_35 rfl, aw_iload_1 (pc2 := 37) D135_36 rfl, aw_iload_5 (pc2 := 39) D135_37 rfl, aw_iv2_0 (pc2 := 42) (o := 7) D135_39 rfl cT_7_167 rfl rfl, aw_if_ne (pc2 := 45) (t := 52) D135_42 (by decide) rfl, aw_aload_0 (pc2 := 46) D135_45 rfl, aw_bipush (pc2 := 48) (y := -3) D135_46 rfl (by decide), aw_iv1_0 (pc2 := 51) (o := 7) D135_48 rfl cT_7_154 rfl rfl, aw_iret D135_51 rfl, sh_122, refV_s, refV_n, psh_s, psh_n, kil_i, kil_r, kil_n, kil_l, cat_i, cat_r, iOK_1, iOK_5, jOK_2, jOK_6, wOK_e, lOK_1, lOK_2, lOK_3, lOK_4, catS_0, catS_1, catS_2, catS_3, catS_4, and_self, true_and, and_true, true_or, or_true, false_or, or_false, not_true_eq_false, not_false_eq_true, if_true, if_false, ite_int, ite_int0, au_10, eq_self, M_isBk hb, M_mayBe hb hh.1, alS_0 hN, M_no3]
    by_cases h1 : alS (σ.1 b).N s
    · rw [ifT h1]
      by_cases h2 : alS (σ.1 b).N t
      · rw [ifT h2]
        by_cases h3 : alS (σ.1 b).N u
        · rw [ifT h3]
          by_cases h4 : alS (σ.1 b).N v
          · rw [ifT h4]
            rw [ifT (show alS (σ.1 b).N s ∧ alS (σ.1 b).N t ∧ alS (σ.1 b).N u ∧ alS (σ.1 b).N v from ⟨h1, h2, h3, h4⟩)] at hk
            obtain ⟨-, a2, a1⟩ := bs_ok hN h1
            obtain ⟨-, b2, b1⟩ := bs_ok hN h2
            obtain ⟨-, c2, c1⟩ := bs_ok hN h3
            obtain ⟨-, d2, d1⟩ := bs_ok hN h4
            have z0 : ∀ w : Int32, w = 0 → bs w = 0 := fun w q => by unfold bs; rw [if_pos q]
            have s0 : ∀ a, AW (d + 3) ((G0 Ln).1, (G0 Ln).2.1) K 135 55 [.ref 122, .int (nI b), .int s, .int t, .int u, .int v, .int (nI a)] [] (G0 Ln) I J ↔ AW (d + 3) ((G0 Ln).1, (G0 Ln).2.1) K 135 68 [.ref 122, .int (nI b), .int s, .int t, .int u, .int v, .int (nI (a ||| bs s))] [] (G0 Ln) I J := by
              intro a
              by_cases g : s = 0
              · simp only [aw_iload_2 (pc2 := 56) D135_55 rfl, aw_if_eq (pc2 := 59) (t := 68) D135_56 (by decide) rfl, aw_iload_6 (pc2 := 61) D135_59 rfl, aw_iload_2 (pc2 := 62) D135_61 rfl, aw_is1_2 (pc2 := 65) D135_62 rfl cT_7_170 rfl, aw_ior (pc2 := 66) D135_65 rfl, aw_istore_6 (pc2 := 68) D135_66 rfl, sh_122, refV_s, refV_n, psh_s, psh_n, kil_i, kil_r, kil_n, kil_l, cat_i, cat_r, iOK_1, iOK_5, jOK_2, jOK_6, wOK_e, lOK_1, lOK_2, lOK_3, lOK_4, catS_0, catS_1, catS_2, catS_3, catS_4, and_self, true_and, and_true, true_or, or_true, false_or, or_false, not_true_eq_false, not_false_eq_true, if_true, if_false, ite_int, ite_int0, au_10, eq_self, if_pos g]
                rw [z0 _ g, Nat.or_zero]
              · simp only [aw_iload_2 (pc2 := 56) D135_55 rfl, aw_if_eq (pc2 := 59) (t := 68) D135_56 (by decide) rfl, aw_iload_6 (pc2 := 61) D135_59 rfl, aw_iload_2 (pc2 := 62) D135_61 rfl, aw_is1_2 (pc2 := 65) D135_62 rfl cT_7_170 rfl, aw_ior (pc2 := 66) D135_65 rfl, aw_istore_6 (pc2 := 68) D135_66 rfl, sh_122, refV_s, refV_n, psh_s, psh_n, kil_i, kil_r, kil_n, kil_l, cat_i, cat_r, iOK_1, iOK_5, jOK_2, jOK_6, wOK_e, lOK_1, lOK_2, lOK_3, lOK_4, catS_0, catS_1, catS_2, catS_3, catS_4, and_self, true_and, and_true, true_or, or_true, false_or, or_false, not_true_eq_false, not_false_eq_true, if_true, if_false, ite_int, ite_int0, au_10, eq_self, if_neg g, M_bitOf, a1 g, fa_or]
            have s1 : ∀ a, AW (d + 3) ((G0 Ln).1, (G0 Ln).2.1) K 135 68 [.ref 122, .int (nI b), .int s, .int t, .int u, .int v, .int (nI a)] [] (G0 Ln) I J ↔ AW (d + 3) ((G0 Ln).1, (G0 Ln).2.1) K 135 81 [.ref 122, .int (nI b), .int s, .int t, .int u, .int v, .int (nI (a ||| bs t))] [] (G0 Ln) I J := by
              intro a
              by_cases g : t = 0
              · simp only [aw_iload_3 (pc2 := 69) D135_68 rfl, aw_if_eq (pc2 := 72) (t := 81) D135_69 (by decide) rfl, aw_iload_6 (pc2 := 74) D135_72 rfl, aw_iload_3 (pc2 := 75) D135_74 rfl, aw_is1_2 (pc2 := 78) D135_75 rfl cT_7_170 rfl, aw_ior (pc2 := 79) D135_78 rfl, aw_istore_6 (pc2 := 81) D135_79 rfl, sh_122, refV_s, refV_n, psh_s, psh_n, kil_i, kil_r, kil_n, kil_l, cat_i, cat_r, iOK_1, iOK_5, jOK_2, jOK_6, wOK_e, lOK_1, lOK_2, lOK_3, lOK_4, catS_0, catS_1, catS_2, catS_3, catS_4, and_self, true_and, and_true, true_or, or_true, false_or, or_false, not_true_eq_false, not_false_eq_true, if_true, if_false, ite_int, ite_int0, au_10, eq_self, if_pos g]
                rw [z0 _ g, Nat.or_zero]
              · simp only [aw_iload_3 (pc2 := 69) D135_68 rfl, aw_if_eq (pc2 := 72) (t := 81) D135_69 (by decide) rfl, aw_iload_6 (pc2 := 74) D135_72 rfl, aw_iload_3 (pc2 := 75) D135_74 rfl, aw_is1_2 (pc2 := 78) D135_75 rfl cT_7_170 rfl, aw_ior (pc2 := 79) D135_78 rfl, aw_istore_6 (pc2 := 81) D135_79 rfl, sh_122, refV_s, refV_n, psh_s, psh_n, kil_i, kil_r, kil_n, kil_l, cat_i, cat_r, iOK_1, iOK_5, jOK_2, jOK_6, wOK_e, lOK_1, lOK_2, lOK_3, lOK_4, catS_0, catS_1, catS_2, catS_3, catS_4, and_self, true_and, and_true, true_or, or_true, false_or, or_false, not_true_eq_false, not_false_eq_true, if_true, if_false, ite_int, ite_int0, au_10, eq_self, if_neg g, M_bitOf, b1 g, fa_or]
            have s2 : ∀ a, AW (d + 3) ((G0 Ln).1, (G0 Ln).2.1) K 135 81 [.ref 122, .int (nI b), .int s, .int t, .int u, .int v, .int (nI a)] [] (G0 Ln) I J ↔ AW (d + 3) ((G0 Ln).1, (G0 Ln).2.1) K 135 96 [.ref 122, .int (nI b), .int s, .int t, .int u, .int v, .int (nI (a ||| bs u))] [] (G0 Ln) I J := by
              intro a
              by_cases g : u = 0
              · simp only [aw_iload_4 (pc2 := 83) D135_81 rfl, aw_if_eq (pc2 := 86) (t := 96) D135_83 (by decide) rfl, aw_iload_6 (pc2 := 88) D135_86 rfl, aw_iload_4 (pc2 := 90) D135_88 rfl, aw_is1_2 (pc2 := 93) D135_90 rfl cT_7_170 rfl, aw_ior (pc2 := 94) D135_93 rfl, aw_istore_6 (pc2 := 96) D135_94 rfl, sh_122, refV_s, refV_n, psh_s, psh_n, kil_i, kil_r, kil_n, kil_l, cat_i, cat_r, iOK_1, iOK_5, jOK_2, jOK_6, wOK_e, lOK_1, lOK_2, lOK_3, lOK_4, catS_0, catS_1, catS_2, catS_3, catS_4, and_self, true_and, and_true, true_or, or_true, false_or, or_false, not_true_eq_false, not_false_eq_true, if_true, if_false, ite_int, ite_int0, au_10, eq_self, if_pos g]
                rw [z0 _ g, Nat.or_zero]
              · simp only [aw_iload_4 (pc2 := 83) D135_81 rfl, aw_if_eq (pc2 := 86) (t := 96) D135_83 (by decide) rfl, aw_iload_6 (pc2 := 88) D135_86 rfl, aw_iload_4 (pc2 := 90) D135_88 rfl, aw_is1_2 (pc2 := 93) D135_90 rfl cT_7_170 rfl, aw_ior (pc2 := 94) D135_93 rfl, aw_istore_6 (pc2 := 96) D135_94 rfl, sh_122, refV_s, refV_n, psh_s, psh_n, kil_i, kil_r, kil_n, kil_l, cat_i, cat_r, iOK_1, iOK_5, jOK_2, jOK_6, wOK_e, lOK_1, lOK_2, lOK_3, lOK_4, catS_0, catS_1, catS_2, catS_3, catS_4, and_self, true_and, and_true, true_or, or_true, false_or, or_false, not_true_eq_false, not_false_eq_true, if_true, if_false, ite_int, ite_int0, au_10, eq_self, if_neg g, M_bitOf, c1 g, fa_or]
            have s3 : ∀ a, AW (d + 3) ((G0 Ln).1, (G0 Ln).2.1) K 135 96 [.ref 122, .int (nI b), .int s, .int t, .int u, .int v, .int (nI a)] [] (G0 Ln) I J ↔ AW (d + 3) ((G0 Ln).1, (G0 Ln).2.1) K 135 111 [.ref 122, .int (nI b), .int s, .int t, .int u, .int v, .int (nI (a ||| bs v))] [] (G0 Ln) I J := by
              intro a
              by_cases g : v = 0
              · simp only [aw_iload_5 (pc2 := 98) D135_96 rfl, aw_if_eq (pc2 := 101) (t := 111) D135_98 (by decide) rfl, aw_iload_6 (pc2 := 103) D135_101 rfl, aw_iload_5 (pc2 := 105) D135_103 rfl, aw_is1_2 (pc2 := 108) D135_105 rfl cT_7_170 rfl, aw_ior (pc2 := 109) D135_108 rfl, aw_istore_6 (pc2 := 111) D135_109 rfl, sh_122, refV_s, refV_n, psh_s, psh_n, kil_i, kil_r, kil_n, kil_l, cat_i, cat_r, iOK_1, iOK_5, jOK_2, jOK_6, wOK_e, lOK_1, lOK_2, lOK_3, lOK_4, catS_0, catS_1, catS_2, catS_3, catS_4, and_self, true_and, and_true, true_or, or_true, false_or, or_false, not_true_eq_false, not_false_eq_true, if_true, if_false, ite_int, ite_int0, au_10, eq_self, if_pos g]
                rw [z0 _ g, Nat.or_zero]
              · simp only [aw_iload_5 (pc2 := 98) D135_96 rfl, aw_if_eq (pc2 := 101) (t := 111) D135_98 (by decide) rfl, aw_iload_6 (pc2 := 103) D135_101 rfl, aw_iload_5 (pc2 := 105) D135_103 rfl, aw_is1_2 (pc2 := 108) D135_105 rfl cT_7_170 rfl, aw_ior (pc2 := 109) D135_108 rfl, aw_istore_6 (pc2 := 111) D135_109 rfl, sh_122, refV_s, refV_n, psh_s, psh_n, kil_i, kil_r, kil_n, kil_l, cat_i, cat_r, iOK_1, iOK_5, jOK_2, jOK_6, wOK_e, lOK_1, lOK_2, lOK_3, lOK_4, catS_0, catS_1, catS_2, catS_3, catS_4, and_self, true_and, and_true, true_or, or_true, false_or, or_false, not_true_eq_false, not_false_eq_true, if_true, if_false, ite_int, ite_int0, au_10, eq_self, if_neg g, M_bitOf, d1 g, fa_or]
            simp only [aw_iconst (pc2 := 53) (y := 0) D135_52 rfl (by decide), aw_istore_6 (pc2 := 55) D135_53 rfl, sh_122, refV_s, refV_n, psh_s, psh_n, kil_i, kil_r, kil_n, kil_l, cat_i, cat_r, iOK_1, iOK_5, jOK_2, jOK_6, wOK_e, lOK_1, lOK_2, lOK_3, lOK_4, catS_0, catS_1, catS_2, catS_3, catS_4, and_self, true_and, and_true, true_or, or_true, false_or, or_false, not_true_eq_false, not_false_eq_true, if_true, if_false, ite_int, ite_int0, au_10, eq_self]
            refine (s0 0).mpr ((s1 _).mpr ((s2 _).mpr ((s3 _).mpr ?_)))
            simp only [aw_aload_0 (pc2 := 112) D135_111 rfl, aw_iload_1 (pc2 := 113) D135_112 rfl, aw_iload_6 (pc2 := 115) D135_113 rfl, aw_iv2_0 (pc2 := 118) (o := 7) D135_115 rfl cT_7_173 rfl rfl, sh_122, refV_s, refV_n, psh_s, psh_n, kil_i, kil_r, kil_n, kil_l, cat_i, cat_r, iOK_1, iOK_5, jOK_2, jOK_6, wOK_e, lOK_1, lOK_2, lOK_3, lOK_4, catS_0, catS_1, catS_2, catS_3, catS_4, and_self, true_and, and_true, true_or, or_true, false_or, or_false, not_true_eq_false, not_false_eq_true, if_true, if_false, ite_int, ite_int0, au_10, eq_self]
            rw [Nat.zero_or]
            refine M_adds hb (or_lt24 (or_lt24 (or_lt24 a2 b2) c2) d2) hs h (fun I' J' q1 q2 q3 => ?_)
            have k1 := hk I' J' q1 q2 q3
            obtain ⟨z, hz⟩ := oPut_int (σ := σ) (b := b) (m := bs s ||| bs t ||| bs u ||| bs v)
            rw [hz] at k1 ⊢
            simp only [aw_iret D135_118 rfl, sh_122, refV_s, refV_n, psh_s, psh_n, kil_i, kil_r, kil_n, kil_l, cat_i, cat_r, iOK_1, iOK_5, jOK_2, jOK_6, wOK_e, lOK_1, lOK_2, lOK_3, lOK_4, catS_0, catS_1, catS_2, catS_3, catS_4, and_self, true_and, and_true, true_or, or_true, false_or, or_false, not_true_eq_false, not_false_eq_true, if_true, if_false, ite_int, ite_int0, au_10, eq_self]
            exact k1
          · rw [if_neg h4]; exact key (fun q => h4 q.2.2.2)
        · rw [if_neg h3]; exact key (fun q => h3 q.2.2.1)
      · rw [if_neg h2]; exact key (fun q => h2 q.2.1)
    · rw [if_neg h1]; exact key (fun q => h1 q.1)
end OpsD
