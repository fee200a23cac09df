section Join
variable {d Ln : Nat} {I : IT} {J : JT} {K : KT} {σ : SG}
theorem CO_join (hs : sgOK σ) (h : CInv σ I J) (hk : CPost Ln I J K (oJoin σ)) : ACall (d + 3) 103 [.ref 0] (G0 Ln) I J K := by
  rw [ACall_0 (L0 := [.ref 0, nv]) (show mcs 103 = (0, 0) from rfl) (show entL 103 [.ref 0] = _ from rfl) rfl (Nat.le_of_ble_eq_true rfl)]
  unfold oJoin at hk
  have hB0 : BF Ln 1 := bf (Ln := Ln) (b := 0) (by omega)
  have hB1 : BF Ln 15 := bf (Ln := Ln) (b := 1) (by omega)
  have h0 : CB 1 (σ.1 0) I J := h.1 0 (by omega)
  have h1 : CB 15 (σ.1 1) I J := h.1 1 (by omega)
  have hN0 := (hs.1 0 (by omega)).2.1
  have hN1 := (hs.1 1 (by omega)).2.1
  have hl0 := (hs.1 0 (by omega)).2.2.1
  have hl1 := (hs.1 1 (by omega)).2.2.1
  by_cases hN : (σ.1 0).N = (σ.1 1).N
  · rw [if_pos hN] at hk
    by_cases h40 : 40 < (σ.1 0).cl.length + (σ.1 1).cl.length
    · rw [if_pos h40] at hk
      simp (disch := omega) only [aw_aload_0 (pc2 := 1) D103_0 rfl, aw_aloadN_0 (pc2 := 1) D103_0 rfl, aw_getR (pc2 := 4) (ci := 6) (fk := 0) D103_1 rfl fT_6_12 rfl, aw_getI (pc2 := 7) (ci := 0) (fk := 4) D103_4 rfl fT_6_63 rfl, aw_aload_0 (pc2 := 8) D103_7 rfl, aw_aloadN_0 (pc2 := 8) D103_7 rfl, aw_getR (pc2 := 11) (ci := 6) (fk := 1) D103_8 rfl fT_6_16 rfl, aw_getI (pc2 := 14) (ci := 0) (fk := 4) D103_11 rfl fT_6_63 rfl, aw_icmp_eq (pc2 := 17) (t := 24) D103_14 (by decide) rfl, aw_aload_0 (pc2 := 18) D103_17 rfl, aw_aloadN_0 (pc2 := 18) D103_17 rfl, aw_bipush (pc2 := 20) (y := -7) D103_18 rfl (by decide), aw_iv1_0 (pc2 := 23) (o := 6) D103_20 rfl cT_6_59 rfl rfl, aw_iret D103_23 rfl, aw_aload_0 (pc2 := 25) D103_24 rfl, aw_aloadN_0 (pc2 := 25) D103_24 rfl, aw_getR (pc2 := 28) (ci := 6) (fk := 0) D103_25 rfl fT_6_12 rfl, aw_getI (pc2 := 31) (ci := 0) (fk := 5) D103_28 rfl fT_6_84 rfl, aw_aload_0 (pc2 := 32) D103_31 rfl, aw_aloadN_0 (pc2 := 32) D103_31 rfl, aw_getR (pc2 := 35) (ci := 6) (fk := 1) D103_32 rfl fT_6_16 rfl, aw_getI (pc2 := 38) (ci := 0) (fk := 5) D103_35 rfl fT_6_84 rfl, aw_iadd (pc2 := 39) D103_38 rfl, aw_bipush (pc2 := 41) (y := 40) D103_39 rfl (by decide), aw_icmp_le (pc2 := 44) (t := 51) D103_41 (by decide) rfl, aw_aload_0 (pc2 := 45) D103_44 rfl, aw_aloadN_0 (pc2 := 45) D103_44 rfl, aw_bipush (pc2 := 47) (y := -8) D103_45 rfl (by decide), aw_iv1_0 (pc2 := 50) (o := 6) D103_47 rfl cT_6_59 rfl rfl, aw_iret D103_50 rfl, sh_0, rf_0_0, sh_1, rf_0_1, sh_15, lit_40, refV_s, refV_n, psh_s, psh_n, kil_i, kil_r, kil_n, kil_l, cat_i, cat_r, iOK_1, iOK_5, jOK_2, jOK_6, wOK_e, lOK_1, lOK_2, lOK_3, lOK_4, catS_0, catS_1, catS_2, catS_3, catS_4, and_self, true_and, and_true, true_or, or_true, false_or, or_false, not_true_eq_false, not_false_eq_true, if_true, if_false, ite_int, ite_int0, au_10, eq_self, au_in, au_le, au_lt, au_eq, au_lt0, au_ge0, au_le0, au_gt0, au_eq0, au_leT, au_leF, au_ltT, au_ltF, au_eqT, au_eqF, nI_clamp, nI_1, nI_add, pk_mul, au_sub1, au_subc, au_up2e, au_up2n, lit_of, C_ref8, h0.1, h1.1, h0.2.1, h1.2.1, hB0.1.1, hB1.1.1]
      exact hk.ref h (by omega) (by omega)
    · rw [if_neg h40] at hk
      simp (disch := omega) only [aw_aload_0 (pc2 := 1) D103_0 rfl, aw_aloadN_0 (pc2 := 1) D103_0 rfl, aw_getR (pc2 := 4) (ci := 6) (fk := 0) D103_1 rfl fT_6_12 rfl, aw_getI (pc2 := 7) (ci := 0) (fk := 4) D103_4 rfl fT_6_63 rfl, aw_aload_0 (pc2 := 8) D103_7 rfl, aw_aloadN_0 (pc2 := 8) D103_7 rfl, aw_getR (pc2 := 11) (ci := 6) (fk := 1) D103_8 rfl fT_6_16 rfl, aw_getI (pc2 := 14) (ci := 0) (fk := 4) D103_11 rfl fT_6_63 rfl, aw_icmp_eq (pc2 := 17) (t := 24) D103_14 (by decide) rfl, aw_aload_0 (pc2 := 18) D103_17 rfl, aw_aloadN_0 (pc2 := 18) D103_17 rfl, aw_bipush (pc2 := 20) (y := -7) D103_18 rfl (by decide), aw_iv1_0 (pc2 := 23) (o := 6) D103_20 rfl cT_6_59 rfl rfl, aw_iret D103_23 rfl, aw_aload_0 (pc2 := 25) D103_24 rfl, aw_aloadN_0 (pc2 := 25) D103_24 rfl, aw_getR (pc2 := 28) (ci := 6) (fk := 0) D103_25 rfl fT_6_12 rfl, aw_getI (pc2 := 31) (ci := 0) (fk := 5) D103_28 rfl fT_6_84 rfl, aw_aload_0 (pc2 := 32) D103_31 rfl, aw_aloadN_0 (pc2 := 32) D103_31 rfl, aw_getR (pc2 := 35) (ci := 6) (fk := 1) D103_32 rfl fT_6_16 rfl, aw_getI (pc2 := 38) (ci := 0) (fk := 5) D103_35 rfl fT_6_84 rfl, aw_iadd (pc2 := 39) D103_38 rfl, aw_bipush (pc2 := 41) (y := 40) D103_39 rfl (by decide), aw_icmp_le (pc2 := 44) (t := 51) D103_41 (by decide) rfl, aw_aload_0 (pc2 := 45) D103_44 rfl, aw_aloadN_0 (pc2 := 45) D103_44 rfl, aw_bipush (pc2 := 47) (y := -8) D103_45 rfl (by decide), aw_iv1_0 (pc2 := 50) (o := 6) D103_47 rfl cT_6_59 rfl rfl, aw_iret D103_50 rfl, aw_iconst (pc2 := 52) (y := 0) D103_51 rfl (by decide), aw_istore_1 (pc2 := 53) D103_52 rfl, sh_0, rf_0_0, sh_1, rf_0_1, sh_15, lit_40, refV_s, refV_n, psh_s, psh_n, kil_i, kil_r, kil_n, kil_l, cat_i, cat_r, iOK_1, iOK_5, jOK_2, jOK_6, wOK_e, lOK_1, lOK_2, lOK_3, lOK_4, catS_0, catS_1, catS_2, catS_3, catS_4, and_self, true_and, and_true, true_or, or_true, false_or, or_false, not_true_eq_false, not_false_eq_true, if_true, if_false, ite_int, ite_int0, au_10, eq_self, au_in, au_le, au_lt, au_eq, au_lt0, au_ge0, au_le0, au_gt0, au_eq0, au_leT, au_leF, au_ltT, au_ltF, au_eqT, au_eqF, nI_clamp, nI_1, nI_add, pk_mul, au_sub1, au_subc, au_up2e, au_up2n, lit_of, C_ref8, h0.1, h1.1, h0.2.1, h1.2.1, hB0.1.1, hB1.1.1]
      have key : ∀ n i I', i + n = (σ.1 1).cl.length → (∀ c, c ≠ 1 → c ≠ 2 → I' c = I c) → (∀ k, k ≠ 5 → k ≠ 8 → I' 1 k = I 1 k) → I' 1 5 = nI ((σ.1 0).cl.length + i) → I' 1 8 = (if i = 0 then I 1 8 else 0) → (∀ k, k < (σ.1 0).cl.length → I' 2 k = I 2 k) → (∀ k, k < i → I' 2 ((σ.1 0).cl.length + k) = nI ((σ.1 1).cl.getD k 0)) → (i = 0 → I' = I) → AW (d + 2) ((G0 Ln).1, (G0 Ln).2.1) K 103 53 [.ref 0, .int (nI i)] [] (G0 Ln) I' J := by
        intro n
        induction n with
        | zero =>
          intro i I' hi ho h1k h15 h18 h2a h2b he
          have e : i = (σ.1 1).cl.length := by omega
          have e15 : I' 15 5 = nI (σ.1 1).cl.length := by rw [ho 15 (by omega) (by omega)]; exact h1.2.1
          simp (disch := omega) only [aw_iload_1 (pc2 := 54) D103_53 rfl, aw_aload_0 (pc2 := 55) D103_54 rfl, aw_aloadN_0 (pc2 := 55) D103_54 rfl, aw_getR (pc2 := 58) (ci := 6) (fk := 1) D103_55 rfl fT_6_16 rfl, aw_getI (pc2 := 61) (ci := 0) (fk := 5) D103_58 rfl fT_6_84 rfl, aw_icmp_ge (pc2 := 64) (t := 85) D103_61 (by decide) rfl, aw_aload_0 (pc2 := 86) D103_85 rfl, aw_aloadN_0 (pc2 := 86) D103_85 rfl, aw_getR (pc2 := 89) (ci := 6) (fk := 0) D103_86 rfl fT_6_12 rfl, aw_getI (pc2 := 92) (ci := 0) (fk := 5) D103_89 rfl fT_6_84 rfl, aw_iret D103_92 rfl, sh_0, rf_0_0, sh_1, rf_0_1, sh_15, lit_40, refV_s, refV_n, psh_s, psh_n, kil_i, kil_r, kil_n, kil_l, cat_i, cat_r, iOK_1, iOK_5, jOK_2, jOK_6, wOK_e, lOK_1, lOK_2, lOK_3, lOK_4, catS_0, catS_1, catS_2, catS_3, catS_4, and_self, true_and, and_true, true_or, or_true, false_or, or_false, not_true_eq_false, not_false_eq_true, if_true, if_false, ite_int, ite_int0, au_10, eq_self, au_in, au_le, au_lt, au_eq, au_lt0, au_ge0, au_le0, au_gt0, au_eq0, au_leT, au_leF, au_ltT, au_ltF, au_eqT, au_eqF, nI_clamp, nI_1, nI_add, pk_mul, au_sub1, au_subc, au_up2e, au_up2n, lit_of, hB0.1.1, hB1.1.1, e15, e, h15]
          by_cases hz : (σ.1 1).cl = []
          · rw [if_pos hz] at hk
            rw [he (by rw [e, hz]; rfl)]
            exact hk.same h
          · rw [if_neg hz] at hk
            have hpos : 0 < (σ.1 1).cl.length := List.length_pos_iff.mpr hz
            refine hk _ _ (h.setB (b := 0) (by omega) ⟨?_, ?_, fun k hk2 => ?_, ?_, ?_, fun p hp => ?_, ?_⟩ (fun c hc => ho c (by unfold bkc at hc; omega) (by unfold bkc at hc; omega))) (fun c hc => ho c (by omega) (by omega)) FrC.rf
            · show I' 1 4 = _
              rw [h1k 4 (by omega) (by omega)]; exact h0.1
            · show I' 1 5 = nI ((σ.1 0).cl ++ (σ.1 1).cl).length
              rw [h15, List.length_append, e]
            · have hk2 : k < ((σ.1 0).cl ++ (σ.1 1).cl).length := hk2
              rw [List.length_append] at hk2
              show I' 2 k = nI (((σ.1 0).cl ++ (σ.1 1).cl).getD k 0)
              rw [List.getD_eq_getElem?_getD]
              by_cases hlt : k < (σ.1 0).cl.length
              · rw [List.getElem?_append_left hlt, h2a k hlt, ← List.getD_eq_getElem?_getD]
                exact h0.2.2.1 k hlt
              · rw [List.getElem?_append_right (by omega), ← List.getD_eq_getElem?_getD, ← h2b (k - (σ.1 0).cl.length) (by omega)]
                rw [show (σ.1 0).cl.length + (k - (σ.1 0).cl.length) = k by omega]
            · show I' 1 6 = _
              rw [h1k 6 (by omega) (by omega)]; exact h0.2.2.2.1
            · show I' 1 7 = _
              rw [h1k 7 (by omega) (by omega)]; exact h0.2.2.2.2.1
            · show I' 3 p = _
              rw [ho 3 (by omega) (by omega)]; exact h0.2.2.2.2.2.1 p hp
            · show I' 1 8 = 0
              rw [h18, if_neg (by omega)]
        | succ n ih =>
          intro i I' hi ho h1k h15 h18 h2a h2b he
          have e15 : I' 15 5 = nI (σ.1 1).cl.length := by rw [ho 15 (by omega) (by omega)]; exact h1.2.1
          have e16 : I' 16 i = nI ((σ.1 1).cl.getD i 0) := by rw [ho 16 (by omega) (by omega)]; exact h1.2.2.1 i (by omega)
          have ihn := ih (i + 1)
          rw [aw_iload_1 (pc2 := 54) D103_53 rfl]
          simp (disch := omega) only [aw_aload_0 (pc2 := 55) D103_54 rfl, aw_aloadN_0 (pc2 := 55) D103_54 rfl, aw_getR (pc2 := 58) (ci := 6) (fk := 1) D103_55 rfl fT_6_16 rfl, aw_getI (pc2 := 61) (ci := 0) (fk := 5) D103_58 rfl fT_6_84 rfl, aw_icmp_ge (pc2 := 64) (t := 85) D103_61 (by decide) rfl, aw_aload_0 (pc2 := 65) D103_64 rfl, aw_aloadN_0 (pc2 := 65) D103_64 rfl, aw_getR (pc2 := 68) (ci := 6) (fk := 0) D103_65 rfl fT_6_12 rfl, aw_aload_0 (pc2 := 69) D103_68 rfl, aw_aloadN_0 (pc2 := 69) D103_68 rfl, aw_getR (pc2 := 72) (ci := 6) (fk := 1) D103_69 rfl fT_6_16 rfl, aw_iload_1 (pc2 := 73) D103_72 rfl, aw_iv1_0 (pc2 := 76) (o := 0) D103_73 rfl cT_6_87 rfl rfl, aw_iv1_0 (pc2 := 79) (o := 0) D103_76 rfl cT_6_233 rfl rfl, aw_iinc_1 (pc2 := 82) (y := 1) D103_79 rfl (by decide), aw_goto (t := 53) D103_82 (by decide), sh_0, rf_0_0, sh_1, rf_0_1, sh_15, lit_40, refV_s, refV_n, psh_s, psh_n, kil_i, kil_r, kil_n, kil_l, cat_i, cat_r, iOK_1, iOK_5, jOK_2, jOK_6, wOK_e, lOK_1, lOK_2, lOK_3, lOK_4, catS_0, catS_1, catS_2, catS_3, catS_4, and_self, true_and, and_true, true_or, or_true, false_or, or_false, not_true_eq_false, not_false_eq_true, if_true, if_false, ite_int, ite_int0, au_10, eq_self, au_in, au_le, au_lt, au_eq, au_lt0, au_ge0, au_le0, au_gt0, au_eq0, au_leT, au_leF, au_ltT, au_ltF, au_eqT, au_eqF, nI_clamp, nI_1, nI_add, pk_mul, au_sub1, au_subc, au_up2e, au_up2n, lit_of, hB0.1.1, hB1.1.1, e15, C_clauseAt hB1 (show i < 40 by omega), C_addClause hB0 h15 (show (σ.1 0).cl.length + i < 40 by omega), e16]
          refine ihn _ (by omega) (fun c c1 c2 => ?_) (fun k k1 k2 => ?_) ?_ ?_ (fun k hk2 => ?_) (fun k hk2 => ?_) (fun q => by omega)
          · rw [au_up2c c1, au_up2c c1, au_up2c c2]; exact ho c c1 c2
          · simp (disch := omega) only [au_up2n]; exact h1k k k1 k2
          · simp (disch := omega) only [au_up2n, au_up2e]; rfl
          · simp (disch := omega) only [au_up2e]; rw [if_neg (by omega)]
          · simp (disch := omega) only [au_up2n]; exact h2a k hk2
          · by_cases e : k = i
            · simp (disch := omega) only [e, au_up2n, au_up2e]
            · simp (disch := omega) only [au_up2n]; exact h2b k (by omega)
      exact key (σ.1 1).cl.length 0 I (by omega) (fun _ _ _ => rfl) (fun _ _ _ => rfl) h0.2.1 (by simp) (fun _ _ => rfl) (fun k hk2 => absurd hk2 (Nat.not_lt_zero _)) (fun _ => rfl)
  · rw [if_neg hN] at hk
    simp (disch := omega) only [aw_aload_0 (pc2 := 1) D103_0 rfl, aw_aloadN_0 (pc2 := 1) D103_0 rfl, aw_getR (pc2 := 4) (ci := 6) (fk := 0) D103_1 rfl fT_6_12 rfl, aw_getI (pc2 := 7) (ci := 0) (fk := 4) D103_4 rfl fT_6_63 rfl, aw_aload_0 (pc2 := 8) D103_7 rfl, aw_aloadN_0 (pc2 := 8) D103_7 rfl, aw_getR (pc2 := 11) (ci := 6) (fk := 1) D103_8 rfl fT_6_16 rfl, aw_getI (pc2 := 14) (ci := 0) (fk := 4) D103_11 rfl fT_6_63 rfl, aw_icmp_eq (pc2 := 17) (t := 24) D103_14 (by decide) rfl, aw_aload_0 (pc2 := 18) D103_17 rfl, aw_aloadN_0 (pc2 := 18) D103_17 rfl, aw_bipush (pc2 := 20) (y := -7) D103_18 rfl (by decide), aw_iv1_0 (pc2 := 23) (o := 6) D103_20 rfl cT_6_59 rfl rfl, aw_iret D103_23 rfl, sh_0, rf_0_0, sh_1, rf_0_1, sh_15, lit_40, refV_s, refV_n, psh_s, psh_n, kil_i, kil_r, kil_n, kil_l, cat_i, cat_r, iOK_1, iOK_5, jOK_2, jOK_6, wOK_e, lOK_1, lOK_2, lOK_3, lOK_4, catS_0, catS_1, catS_2, catS_3, catS_4, and_self, true_and, and_true, true_or, or_true, false_or, or_false, not_true_eq_false, not_false_eq_true, if_true, if_false, ite_int, ite_int0, au_10, eq_self, au_in, au_le, au_lt, au_eq, au_lt0, au_ge0, au_le0, au_gt0, au_eq0, au_leT, au_leF, au_ltT, au_ltF, au_eqT, au_eqF, nI_clamp, nI_1, nI_add, pk_mul, au_sub1, au_subc, au_up2e, au_up2n, lit_of, C_ref7, h0.1, h1.1, hB0.1.1, hB1.1.1]
    exact hk.ref h (by omega) (by omega)
theorem MO_join (hs : sgOK σ) (h : MInv σ I) (hk : MPost Ln I J K (oJoin σ)) : ACall (d + 3) 196 [.ref 122] (G0 Ln) I J K := by
  rw [ACall_0 (L0 := [.ref 122, nv]) (show mcs 196 = (0, 0) from rfl) (show entL 196 [.ref 122] = _ from rfl) rfl (Nat.le_of_ble_eq_true rfl)]
  unfold oJoin at hk
  have h0 : MB 0 (σ.1 0) I := h.1 0 (by omega)
  have h1 : MB 1 (σ.1 1) I := h.1 1 (by omega)
  have hN0 := (hs.1 0 (by omega)).2.1
  have hN1 := (hs.1 1 (by omega)).2.1
  have hl0 := (hs.1 0 (by omega)).2.2.1
  have hl1 := (hs.1 1 (by omega)).2.2.1
  have v0 : vp_in 0 2 := vp_in_nI (n := 0) (by decide) (by decide)
  have v1 : vp_in 1 2 := vp_in_nI (n := 1) (by decide) (by decide)
  have c0 : (0 : Int32).toNatClampNeg = 0 := by decide
  have c1 : (1 : Int32).toNatClampNeg = 1 := by decide
  by_cases hN : (σ.1 0).N = (σ.1 1).N
  · rw [if_pos hN] at hk
    by_cases h40 : 40 < (σ.1 0).cl.length + (σ.1 1).cl.length
    · rw [if_pos h40] at hk
      simp (disch := omega) only [aw_aload_0 (pc2 := 1) D196_0 rfl, aw_getR (pc2 := 4) (ci := 7) (fk := 0) D196_1 rfl fT_7_7 rfl, aw_iconst (pc2 := 5) (y := 0) D196_4 rfl (by decide), aw_iaload (pc2 := 6) D196_5 rfl, aw_aload_0 (pc2 := 7) D196_6 rfl, aw_getR (pc2 := 10) (ci := 7) (fk := 0) D196_7 rfl fT_7_7 rfl, aw_iconst (pc2 := 11) (y := 1) D196_10 rfl (by decide), aw_iaload (pc2 := 12) D196_11 rfl, aw_icmp_eq (pc2 := 15) (t := 22) D196_12 (by decide) rfl, aw_aload_0 (pc2 := 16) D196_15 rfl, aw_bipush (pc2 := 18) (y := -7) D196_16 rfl (by decide), aw_iv1_0 (pc2 := 21) (o := 7) D196_18 rfl cT_7_154 rfl rfl, aw_iret D196_21 rfl, aw_aload_0 (pc2 := 23) D196_22 rfl, aw_getR (pc2 := 26) (ci := 7) (fk := 2) D196_23 rfl fT_7_16 rfl, aw_iconst (pc2 := 27) (y := 0) D196_26 rfl (by decide), aw_iaload (pc2 := 28) D196_27 rfl, aw_aload_0 (pc2 := 29) D196_28 rfl, aw_getR (pc2 := 32) (ci := 7) (fk := 2) D196_29 rfl fT_7_16 rfl, aw_iconst (pc2 := 33) (y := 1) D196_32 rfl (by decide), aw_iaload (pc2 := 34) D196_33 rfl, aw_iadd (pc2 := 35) D196_34 rfl, aw_bipush (pc2 := 37) (y := 40) D196_35 rfl (by decide), aw_icmp_le (pc2 := 40) (t := 47) D196_37 (by decide) rfl, aw_aload_0 (pc2 := 41) D196_40 rfl, aw_bipush (pc2 := 43) (y := -8) D196_41 rfl (by decide), aw_iv1_0 (pc2 := 46) (o := 7) D196_43 rfl cT_7_154 rfl rfl, aw_iret D196_46 rfl, sh_122, rf_122_0, sh_123, rf_122_2, sh_125, lit_40, rf_122_1, sh_124, rf_122_8, sh_131, refV_s, refV_n, psh_s, psh_n, kil_i, kil_r, kil_n, kil_l, cat_i, cat_r, iOK_1, iOK_5, jOK_2, jOK_6, wOK_e, lOK_1, lOK_2, lOK_3, lOK_4, catS_0, catS_1, catS_2, catS_3, catS_4, and_self, true_and, and_true, true_or, or_true, false_or, or_false, not_true_eq_false, not_false_eq_true, if_true, if_false, ite_int, ite_int0, au_10, eq_self, au_in, au_le, au_lt, au_eq, au_lt0, au_ge0, au_le0, au_gt0, au_eq0, au_leT, au_leF, au_ltT, au_ltF, au_eqT, au_eqF, nI_clamp, nI_1, nI_add, pk_mul, au_sub1, au_subc, au_up2e, au_up2n, lit_of, M_no8, h0.1, h1.1, h0.2.1, h1.2.1, v0, v1, c0, c1]
      exact hk.ref h (by omega) (by omega)
    · rw [if_neg h40] at hk
      simp (disch := omega) only [aw_aload_0 (pc2 := 1) D196_0 rfl, aw_getR (pc2 := 4) (ci := 7) (fk := 0) D196_1 rfl fT_7_7 rfl, aw_iconst (pc2 := 5) (y := 0) D196_4 rfl (by decide), aw_iaload (pc2 := 6) D196_5 rfl, aw_aload_0 (pc2 := 7) D196_6 rfl, aw_getR (pc2 := 10) (ci := 7) (fk := 0) D196_7 rfl fT_7_7 rfl, aw_iconst (pc2 := 11) (y := 1) D196_10 rfl (by decide), aw_iaload (pc2 := 12) D196_11 rfl, aw_icmp_eq (pc2 := 15) (t := 22) D196_12 (by decide) rfl, aw_aload_0 (pc2 := 16) D196_15 rfl, aw_bipush (pc2 := 18) (y := -7) D196_16 rfl (by decide), aw_iv1_0 (pc2 := 21) (o := 7) D196_18 rfl cT_7_154 rfl rfl, aw_iret D196_21 rfl, aw_aload_0 (pc2 := 23) D196_22 rfl, aw_getR (pc2 := 26) (ci := 7) (fk := 2) D196_23 rfl fT_7_16 rfl, aw_iconst (pc2 := 27) (y := 0) D196_26 rfl (by decide), aw_iaload (pc2 := 28) D196_27 rfl, aw_aload_0 (pc2 := 29) D196_28 rfl, aw_getR (pc2 := 32) (ci := 7) (fk := 2) D196_29 rfl fT_7_16 rfl, aw_iconst (pc2 := 33) (y := 1) D196_32 rfl (by decide), aw_iaload (pc2 := 34) D196_33 rfl, aw_iadd (pc2 := 35) D196_34 rfl, aw_bipush (pc2 := 37) (y := 40) D196_35 rfl (by decide), aw_icmp_le (pc2 := 40) (t := 47) D196_37 (by decide) rfl, aw_aload_0 (pc2 := 41) D196_40 rfl, aw_bipush (pc2 := 43) (y := -8) D196_41 rfl (by decide), aw_iv1_0 (pc2 := 46) (o := 7) D196_43 rfl cT_7_154 rfl rfl, aw_iret D196_46 rfl, aw_iconst (pc2 := 48) (y := 0) D196_47 rfl (by decide), aw_istore_1 (pc2 := 49) D196_48 rfl, sh_122, rf_122_0, sh_123, rf_122_2, sh_125, lit_40, rf_122_1, sh_124, rf_122_8, sh_131, refV_s, refV_n, psh_s, psh_n, kil_i, kil_r, kil_n, kil_l, cat_i, cat_r, iOK_1, iOK_5, jOK_2, jOK_6, wOK_e, lOK_1, lOK_2, lOK_3, lOK_4, catS_0, catS_1, catS_2, catS_3, catS_4, and_self, true_and, and_true, true_or, or_true, false_or, or_false, not_true_eq_false, not_false_eq_true, if_true, if_false, ite_int, ite_int0, au_10, eq_self, au_in, au_le, au_lt, au_eq, au_lt0, au_ge0, au_le0, au_gt0, au_eq0, au_leT, au_leF, au_ltT, au_ltF, au_eqT, au_eqF, nI_clamp, nI_1, nI_add, pk_mul, au_sub1, au_subc, au_up2e, au_up2n, lit_of, M_no8, h0.1, h1.1, h0.2.1, h1.2.1, v0, v1, c0, c1]
      have key : ∀ n i I', i + n = (σ.1 1).cl.length → (∀ c, c ≠ 124 → c ≠ 125 → c ≠ 131 → I' c = I c) → I' 125 1 = I 125 1 → I' 131 1 = I 131 1 → I' 125 0 = nI ((σ.1 0).cl.length + i) → I' 131 0 = (if i = 0 then I 131 0 else 0) → (∀ k, 40 ≤ k → I' 124 k = I 124 k) → (∀ k, k < (σ.1 0).cl.length → I' 124 k = I 124 k) → (∀ k, k < i → I' 124 ((σ.1 0).cl.length + k) = nI ((σ.1 1).cl.getD k 0)) → (i = 0 → I' = I) → AW (d + 2) ((G0 Ln).1, (G0 Ln).2.1) K 196 49 [.ref 122, .int (nI i)] [] (G0 Ln) I' J := by
        intro n
        induction n with
        | zero =>
          intro i I' hi ho ha hc2 h15 h18 h40' h2a h2b he
          have e : i = (σ.1 1).cl.length := by omega
          have e15 : I' 125 1 = nI (σ.1 1).cl.length := by rw [ha]; exact h1.2.1
          simp (disch := omega) only [aw_iload_1 (pc2 := 50) D196_49 rfl, aw_aload_0 (pc2 := 51) D196_50 rfl, aw_getR (pc2 := 54) (ci := 7) (fk := 2) D196_51 rfl fT_7_16 rfl, aw_iconst (pc2 := 55) (y := 1) D196_54 rfl (by decide), aw_iaload (pc2 := 56) D196_55 rfl, aw_icmp_ge (pc2 := 59) (t := 102) D196_56 (by decide) rfl, aw_aload_0 (pc2 := 103) D196_102 rfl, aw_getR (pc2 := 106) (ci := 7) (fk := 2) D196_103 rfl fT_7_16 rfl, aw_iconst (pc2 := 107) (y := 0) D196_106 rfl (by decide), aw_iaload (pc2 := 108) D196_107 rfl, aw_iret D196_108 rfl, sh_122, rf_122_0, sh_123, rf_122_2, sh_125, lit_40, rf_122_1, sh_124, rf_122_8, sh_131, refV_s, refV_n, psh_s, psh_n, kil_i, kil_r, kil_n, kil_l, cat_i, cat_r, iOK_1, iOK_5, jOK_2, jOK_6, wOK_e, lOK_1, lOK_2, lOK_3, lOK_4, catS_0, catS_1, catS_2, catS_3, catS_4, and_self, true_and, and_true, true_or, or_true, false_or, or_false, not_true_eq_false, not_false_eq_true, if_true, if_false, ite_int, ite_int0, au_10, eq_self, au_in, au_le, au_lt, au_eq, au_lt0, au_ge0, au_le0, au_gt0, au_eq0, au_leT, au_leF, au_ltT, au_ltF, au_eqT, au_eqF, nI_clamp, nI_1, nI_add, pk_mul, au_sub1, au_subc, au_up2e, au_up2n, lit_of, e15, e, h15, v0, v1, c0, c1]
          by_cases hz : (σ.1 1).cl = []
          · rw [if_pos hz] at hk
            rw [he (by rw [e, hz]; rfl)]
            exact hk.same h
          · rw [if_neg hz] at hk
            have hpos : 0 < (σ.1 1).cl.length := List.length_pos_iff.mpr hz
            refine hk _ _ (h.setB hs (b := 0) (by omega) ⟨?_, ?_, fun k hk2 => ?_, ?_, ?_, ?_, fun p hp => ?_, ?_⟩ (fun c hc hne => ?_) (ho _ (by omega) (by omega) (by omega)) (ho _ (by omega) (by omega) (by omega)) (ho _ (by omega) (by omega) (by omega))) (fun c hc => ho c (by omega) (by omega) (by omega)) FrM.rf
            · rw [ho _ (by omega) (by omega) (by omega)]; exact h0.1
            · show I' 125 0 = nI ((σ.1 0).cl ++ (σ.1 1).cl).length
              rw [h15, List.length_append, e]
            · have hk2 : k < ((σ.1 0).cl ++ (σ.1 1).cl).length := hk2
              rw [List.length_append] at hk2
              show I' 124 (40 * 0 + k) = nI (((σ.1 0).cl ++ (σ.1 1).cl).getD k 0)
              rw [List.getD_eq_getElem?_getD, show 40 * 0 + k = k by omega]
              by_cases hlt : k < (σ.1 0).cl.length
              · rw [List.getElem?_append_left hlt, h2a k hlt, ← List.getD_eq_getElem?_getD]
                have := h0.2.2.1 k hlt
                rwa [show 40 * 0 + k = k by omega] at this
              · rw [List.getElem?_append_right (by omega), ← List.getD_eq_getElem?_getD, ← h2b (k - (σ.1 0).cl.length) (by omega)]
                rw [show (σ.1 0).cl.length + (k - (σ.1 0).cl.length) = k by omega]
            · rw [ho _ (by omega) (by omega) (by omega)]; exact h0.2.2.2.1
            · rw [ho _ (by omega) (by omega) (by omega)]; exact h0.2.2.2.2.1
            · rw [ho _ (by omega) (by omega) (by omega)]; exact h0.2.2.2.2.2.1
            · rw [ho _ (by omega) (by omega) (by omega)]; exact h0.2.2.2.2.2.2.1 p hp
            · show I' 131 0 = 0
              rw [h18, if_neg (by omega)]
            · intro a k hak
              have hc1 : c = 1 := by omega
              subst hc1
              by_cases a1 : a = 124
              · subst a1; exact h40' k (by unfold inSl at hak; omega)
              · by_cases a2 : a = 125
                · subst a2
                  have : k = 1 := by unfold inSl at hak; omega
                  rw [this]; exact ha
                · by_cases a3 : a = 131
                  · subst a3
                    have : k = 1 := by unfold inSl at hak; omega
                    rw [this]; exact hc2
                  · rw [ho a a1 a2 a3]
        | succ n ih =>
          intro i I' hi ho ha hc2 h15 h18 h40' h2a h2b he
          have e15 : I' 125 1 = nI (σ.1 1).cl.length := by rw [ha]; exact h1.2.1
          have e16 : I' 124 (40 + i) = nI ((σ.1 1).cl.getD i 0) := by rw [h40' _ (by omega)]; exact h1.2.2.1 i (by omega)
          have ihn := ih (i + 1)
          rw [aw_iload_1 (pc2 := 50) D196_49 rfl]
          simp (disch := omega) only [aw_aload_0 (pc2 := 51) D196_50 rfl, aw_getR (pc2 := 54) (ci := 7) (fk := 2) D196_51 rfl fT_7_16 rfl, aw_iconst (pc2 := 55) (y := 1) D196_54 rfl (by decide), aw_iaload (pc2 := 56) D196_55 rfl, aw_icmp_ge (pc2 := 59) (t := 102) D196_56 (by decide) rfl, aw_aload_0 (pc2 := 60) D196_59 rfl, aw_getR (pc2 := 63) (ci := 7) (fk := 1) D196_60 rfl fT_7_13 rfl, aw_aload_0 (pc2 := 64) D196_63 rfl, aw_getR (pc2 := 67) (ci := 7) (fk := 2) D196_64 rfl fT_7_16 rfl, aw_iconst (pc2 := 68) (y := 0) D196_67 rfl (by decide), aw_iaload (pc2 := 69) D196_68 rfl, aw_aload_0 (pc2 := 70) D196_69 rfl, aw_getR (pc2 := 73) (ci := 7) (fk := 1) D196_70 rfl fT_7_13 rfl, aw_bipush (pc2 := 75) (y := 40) D196_73 rfl (by decide), aw_iload_1 (pc2 := 76) D196_75 rfl, aw_iadd (pc2 := 77) D196_76 rfl, aw_iaload (pc2 := 78) D196_77 rfl, aw_iastore (pc2 := 79) D196_78 rfl, aw_aload_0 (pc2 := 80) D196_79 rfl, aw_getR (pc2 := 83) (ci := 7) (fk := 2) D196_80 rfl fT_7_16 rfl, aw_iconst (pc2 := 84) (y := 0) D196_83 rfl (by decide), aw_dup2 (pc2 := 85) D196_84 rfl, aw_iaload (pc2 := 86) D196_85 rfl, aw_iconst (pc2 := 87) (y := 1) D196_86 rfl (by decide), aw_iadd (pc2 := 88) D196_87 rfl, aw_iastore (pc2 := 89) D196_88 rfl, aw_aload_0 (pc2 := 90) D196_89 rfl, aw_getR (pc2 := 93) (ci := 7) (fk := 8) D196_90 rfl fT_7_34 rfl, aw_iconst (pc2 := 94) (y := 0) D196_93 rfl (by decide), aw_iconst (pc2 := 95) (y := 0) D196_94 rfl (by decide), aw_iastore (pc2 := 96) D196_95 rfl, aw_iinc_1 (pc2 := 99) (y := 1) D196_96 rfl (by decide), aw_goto (t := 49) D196_99 (by decide), sh_122, rf_122_0, sh_123, rf_122_2, sh_125, lit_40, rf_122_1, sh_124, rf_122_8, sh_131, refV_s, refV_n, psh_s, psh_n, kil_i, kil_r, kil_n, kil_l, cat_i, cat_r, iOK_1, iOK_5, jOK_2, jOK_6, wOK_e, lOK_1, lOK_2, lOK_3, lOK_4, catS_0, catS_1, catS_2, catS_3, catS_4, and_self, true_and, and_true, true_or, or_true, false_or, or_false, not_true_eq_false, not_false_eq_true, if_true, if_false, ite_int, ite_int0, au_10, eq_self, au_in, au_le, au_lt, au_eq, au_lt0, au_ge0, au_le0, au_gt0, au_eq0, au_leT, au_leF, au_ltT, au_ltF, au_eqT, au_eqF, nI_clamp, nI_1, nI_add, pk_mul, au_sub1, au_subc, au_up2e, au_up2n, lit_of, e15, e16, h15, v0, v1, c0, c1]
          refine ihn _ (by omega) (fun c c1 c2 c3 => ?_) ?_ ?_ ?_ ?_ (fun k hk2 => ?_) (fun k hk2 => ?_) (fun k hk2 => ?_) (fun q => by omega)
          · rw [au_up2c c3, au_up2c c2, au_up2c c1]; exact ho c c1 c2 c3
          · simp (disch := omega) only [au_up2n]; exact ha
          · simp (disch := omega) only [au_up2n]; exact hc2
          · simp (disch := omega) only [au_up2n, au_up2e]; rfl
          · simp (disch := omega) only [au_up2e]; rw [if_neg (by omega)]
          · simp (disch := omega) only [au_up2n]; exact h40' k hk2
          · simp (disch := omega) only [au_up2n]; exact h2a k hk2
          · by_cases e : k = i
            · simp (disch := omega) only [e, au_up2n, au_up2e]
            · simp (disch := omega) only [au_up2n]; exact h2b k (by omega)
      exact key (σ.1 1).cl.length 0 I (by omega) (fun _ _ _ _ => rfl) rfl rfl h0.2.1 (by simp) (fun _ _ => rfl) (fun _ _ => rfl) (fun k hk2 => absurd hk2 (Nat.not_lt_zero _)) (fun _ => rfl)
  · rw [if_neg hN] at hk
    simp (disch := omega) only [aw_aload_0 (pc2 := 1) D196_0 rfl, aw_getR (pc2 := 4) (ci := 7) (fk := 0) D196_1 rfl fT_7_7 rfl, aw_iconst (pc2 := 5) (y := 0) D196_4 rfl (by decide), aw_iaload (pc2 := 6) D196_5 rfl, aw_aload_0 (pc2 := 7) D196_6 rfl, aw_getR (pc2 := 10) (ci := 7) (fk := 0) D196_7 rfl fT_7_7 rfl, aw_iconst (pc2 := 11) (y := 1) D196_10 rfl (by decide), aw_iaload (pc2 := 12) D196_11 rfl, aw_icmp_eq (pc2 := 15) (t := 22) D196_12 (by decide) rfl, aw_aload_0 (pc2 := 16) D196_15 rfl, aw_bipush (pc2 := 18) (y := -7) D196_16 rfl (by decide), aw_iv1_0 (pc2 := 21) (o := 7) D196_18 rfl cT_7_154 rfl rfl, aw_iret D196_21 rfl, sh_122, rf_122_0, sh_123, rf_122_2, sh_125, lit_40, rf_122_1, sh_124, rf_122_8, sh_131, refV_s, refV_n, psh_s, psh_n, kil_i, kil_r, kil_n, kil_l, cat_i, cat_r, iOK_1, iOK_5, jOK_2, jOK_6, wOK_e, lOK_1, lOK_2, lOK_3, lOK_4, catS_0, catS_1, catS_2, catS_3, catS_4, and_self, true_and, and_true, true_or, or_true, false_or, or_false, not_true_eq_false, not_false_eq_true, if_true, if_false, ite_int, ite_int0, au_10, eq_self, au_in, au_le, au_lt, au_eq, au_lt0, au_ge0, au_le0, au_gt0, au_eq0, au_leT, au_leF, au_ltT, au_ltF, au_eqT, au_eqF, nI_clamp, nI_1, nI_add, pk_mul, au_sub1, au_subc, au_up2e, au_up2n, lit_of, M_no7, h0.1, h1.1, v0, v1, c0, c1]
    exact hk.ref h (by omega) (by omega)
end Join
