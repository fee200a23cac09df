section Copy
variable {d Ln : Nat} {I : IT} {J : JT} {K : KT} {σ : SG}
theorem L_add {a b : Int32} : (a.toInt64 + b.toInt64).toInt = a.toInt + b.toInt := by
  have h1 := fb_rng a
  have h2 := fb_rng b
  rw [fb_addL (by rw [Int32.toInt_toInt64, Int32.toInt_toInt64]; omega) (by rw [Int32.toInt_toInt64, Int32.toInt_toInt64]; omega), Int32.toInt_toInt64, Int32.toInt_toInt64]
theorem CO_copy {i j n : Int32} (hs : sgOK σ) (h : CInv σ I J) (hk : CPost Ln I J K (oCopy σ i j n)) : ACall (d + 3) 107 [.ref 0, .int i, .int j, .int n] (G0 Ln) I J K := by
  rw [ACall_0 (L0 := [.ref 0, .int i, .int j, .int n]) (show mcs 107 = (0, 0) from rfl) (show entL 107 [.ref 0, .int i, .int j, .int n] = _ from rfl) rfl (Nat.le_of_ble_eq_true rfl)]
  unfold oCopy at hk
  have h3 := h.2.1
  cases hr : σ.2.1 with
  | none =>
    rw [hr] at h3
    simp only [hr] at hk
    simp only [aw_aload_0 (pc2 := 1) D107_0 rfl, aw_aloadN_0 (pc2 := 1) D107_0 rfl, aw_getI (pc2 := 4) (ci := 6) (fk := 8) D107_1 rfl fT_6_48 rfl, aw_if_ne (pc2 := 7) (t := 14) D107_4 (by decide) rfl, aw_aload_0 (pc2 := 8) D107_7 rfl, aw_aloadN_0 (pc2 := 8) D107_7 rfl, aw_bipush (pc2 := 10) (y := -2) D107_8 rfl (by decide), aw_iv1_0 (pc2 := 13) (o := 6) D107_10 rfl cT_6_59 rfl rfl, aw_iret D107_13 rfl, sh_0, rf_0_5, sh_120, refV_s, refV_n, psh_s, psh_n, kil_i, kil_r, kil_n, kil_l, cat_i, cat_r, iOK_1, iOK_5, jOK_2, jOK_6, wOK_e, lOK_1, lOK_2, lOK_3, lOK_4, catS_0, catS_1, catS_2, catS_3, catS_4, and_self, true_and, and_true, true_or, or_true, false_or, or_false, not_true_eq_false, not_false_eq_true, if_true, if_false, ite_int, ite_int0, au_10, eq_self, C_ref2, h3]
    exact hk.ref h (by omega) (by omega)
  | some r =>
    rw [hr] at h3
    simp only [hr] at hk
    obtain ⟨h4, h5, h6⟩ := h3
    have hlen := (hs.2 r hr).1
    by_cases hn : n < 0
    · rw [if_pos hn] at hk
      simp only [aw_aload_0 (pc2 := 1) D107_0 rfl, aw_aloadN_0 (pc2 := 1) D107_0 rfl, aw_getI (pc2 := 4) (ci := 6) (fk := 8) D107_1 rfl fT_6_48 rfl, aw_if_ne (pc2 := 7) (t := 14) D107_4 (by decide) rfl, aw_aload_0 (pc2 := 8) D107_7 rfl, aw_aloadN_0 (pc2 := 8) D107_7 rfl, aw_bipush (pc2 := 10) (y := -2) D107_8 rfl (by decide), aw_iv1_0 (pc2 := 13) (o := 6) D107_10 rfl cT_6_59 rfl rfl, aw_iret D107_13 rfl, aw_iload_3 (pc2 := 15) D107_14 rfl, aw_if_ge (pc2 := 18) (t := 25) D107_15 (by decide) rfl, aw_aload_0 (pc2 := 19) D107_18 rfl, aw_aloadN_0 (pc2 := 19) D107_18 rfl, aw_bipush (pc2 := 21) (y := -4) D107_19 rfl (by decide), aw_iv1_0 (pc2 := 24) (o := 6) D107_21 rfl cT_6_59 rfl rfl, aw_iret D107_24 rfl, sh_0, rf_0_5, sh_120, refV_s, refV_n, psh_s, psh_n, kil_i, kil_r, kil_n, kil_l, cat_i, cat_r, iOK_1, iOK_5, jOK_2, jOK_6, wOK_e, lOK_1, lOK_2, lOK_3, lOK_4, catS_0, catS_1, catS_2, catS_3, catS_4, and_self, true_and, and_true, true_or, or_true, false_or, or_false, not_true_eq_false, not_false_eq_true, if_true, if_false, ite_int, ite_int0, au_10, eq_self, C_ref4, h4, if_neg (fun q : 0 ≤ n => by rw [fa_lt] at hn; rw [fa_le] at q; omega)]
      exact hk.ref h (by omega) (by omega)
    · rw [if_neg hn] at hk
      have hn0 : 0 ≤ n := fa_of_nlt hn
      obtain ⟨m, hm, rfl⟩ := nI_of hn
      have rfs : (i < 0 ∨ j < 0 ∨ (r.length : Int) < i.toInt + (nI m).toInt ∨ (r.length : Int) < j.toInt + (nI m).toInt) → K (some (.int (-6))) (G0 Ln) (up2 I 121 6 (I 121 6 + 1)) J := fun q => by
        rw [if_pos q] at hk
        exact hk.ref h (by omega) (by omega)
      rw [nI_toInt hm] at rfs
      have lt0 : ∀ {x : Int32}, x < 0 ↔ x.toInt < 0 := fun {x} => fa_lt x 0
      simp only [aw_aload_0 (pc2 := 1) D107_0 rfl, aw_aloadN_0 (pc2 := 1) D107_0 rfl, aw_getI (pc2 := 4) (ci := 6) (fk := 8) D107_1 rfl fT_6_48 rfl, aw_if_ne (pc2 := 7) (t := 14) D107_4 (by decide) rfl, aw_aload_0 (pc2 := 8) D107_7 rfl, aw_aloadN_0 (pc2 := 8) D107_7 rfl, aw_bipush (pc2 := 10) (y := -2) D107_8 rfl (by decide), aw_iv1_0 (pc2 := 13) (o := 6) D107_10 rfl cT_6_59 rfl rfl, aw_iret D107_13 rfl, aw_iload_3 (pc2 := 15) D107_14 rfl, aw_if_ge (pc2 := 18) (t := 25) D107_15 (by decide) rfl, aw_aload_0 (pc2 := 19) D107_18 rfl, aw_aloadN_0 (pc2 := 19) D107_18 rfl, aw_bipush (pc2 := 21) (y := -4) D107_19 rfl (by decide), aw_iv1_0 (pc2 := 24) (o := 6) D107_21 rfl cT_6_59 rfl rfl, aw_iret D107_24 rfl, aw_iload_3 (pc2 := 26) D107_25 rfl, aw_aload_0 (pc2 := 27) D107_26 rfl, aw_aloadN_0 (pc2 := 27) D107_26 rfl, aw_getI (pc2 := 30) (ci := 6) (fk := 7) D107_27 rfl fT_6_44 rfl, aw_icmp_gt (pc2 := 33) (t := 61) D107_30 (by decide) rfl, aw_iload_1 (pc2 := 34) D107_33 rfl, aw_if_lt (pc2 := 37) (t := 61) D107_34 (by decide) rfl, aw_iload_2 (pc2 := 38) D107_37 rfl, aw_if_lt (pc2 := 41) (t := 61) D107_38 (by decide) rfl, aw_iload_1 (pc2 := 42) D107_41 rfl, aw_aload_0 (pc2 := 43) D107_42 rfl, aw_aloadN_0 (pc2 := 43) D107_42 rfl, aw_getI (pc2 := 46) (ci := 6) (fk := 7) D107_43 rfl fT_6_44 rfl, aw_iload_3 (pc2 := 47) D107_46 rfl, aw_isub (pc2 := 48) D107_47 rfl, aw_icmp_gt (pc2 := 51) (t := 61) D107_48 (by decide) rfl, aw_iload_2 (pc2 := 52) D107_51 rfl, aw_aload_0 (pc2 := 53) D107_52 rfl, aw_aloadN_0 (pc2 := 53) D107_52 rfl, aw_getI (pc2 := 56) (ci := 6) (fk := 7) D107_53 rfl fT_6_44 rfl, aw_iload_3 (pc2 := 57) D107_56 rfl, aw_isub (pc2 := 58) D107_57 rfl, aw_icmp_le (pc2 := 61) (t := 68) D107_58 (by decide) rfl, aw_aload_0 (pc2 := 62) D107_61 rfl, aw_aloadN_0 (pc2 := 62) D107_61 rfl, aw_bipush (pc2 := 64) (y := -6) D107_62 rfl (by decide), aw_iv1_0 (pc2 := 67) (o := 6) D107_64 rfl cT_6_59 rfl rfl, aw_iret D107_67 rfl, sh_0, rf_0_5, sh_120, refV_s, refV_n, psh_s, psh_n, kil_i, kil_r, kil_n, kil_l, cat_i, cat_r, iOK_1, iOK_5, jOK_2, jOK_6, wOK_e, lOK_1, lOK_2, lOK_3, lOK_4, catS_0, catS_1, catS_2, catS_3, catS_4, and_self, true_and, and_true, true_or, or_true, false_or, or_false, not_true_eq_false, not_false_eq_true, if_true, if_false, ite_int, ite_int0, au_10, eq_self, C_ref4, C_ref6, h4, h5, if_pos hn0]
      by_cases h1 : nI r.length < nI m
      · rw [if_pos h1]
        rw [au_lt (by omega) hm] at h1
        refine rfs ?_
        rw [lt0, lt0]; omega
      · rw [if_neg h1]
        rw [au_lt (by omega) hm] at h1
        by_cases h2 : i < 0
        · rw [if_pos h2]; exact rfs (Or.inl h2)
        · rw [if_neg h2]
          by_cases h3 : j < 0
          · rw [if_pos h3]; exact rfs (Or.inr (Or.inl h3))
          · rw [if_neg h3]
            obtain ⟨i, hi, rfl⟩ := nI_of h2
            obtain ⟨j, hj, rfl⟩ := nI_of h3
            rw [nI_toInt hi, nI_toInt hj] at rfs
            simp (disch := omega) only [au_subc, au_lt, au_le]
            by_cases g4 : r.length - m < i
            · rw [if_pos g4]; exact rfs (by omega)
            · rw [if_neg g4]
              by_cases h5' : r.length - m < j
              · rw [if_neg (by omega)]; exact rfs (by omega)
              · rw [if_pos (by omega)]
                rw [if_neg (by rw [nI_toInt hi, nI_toInt hj, nI_toInt hm]; rintro (q | q | q | q); exact h2 q; exact h3 q; omega; omega), nI_clamp hi, nI_clamp hj, nI_clamp hm] at hk
                simp (disch := omega) only [aw_aload_0 (pc2 := 69) D107_68 rfl, aw_aloadN_0 (pc2 := 69) D107_68 rfl, aw_getR (pc2 := 72) (ci := 6) (fk := 5) D107_69 rfl fT_6_37 rfl, aw_iload_1 (pc2 := 73) D107_72 rfl, aw_aload_0 (pc2 := 74) D107_73 rfl, aw_aloadN_0 (pc2 := 74) D107_73 rfl, aw_getR (pc2 := 77) (ci := 6) (fk := 5) D107_74 rfl fT_6_37 rfl, aw_iload_2 (pc2 := 78) D107_77 rfl, aw_iload_3 (pc2 := 79) D107_78 rfl, aw_cpy (pc2 := 82) D107_79 rfl cT_6_239, aw_iload_3 (pc2 := 83) D107_82 rfl, aw_iret D107_83 rfl, sh_0, rf_0_5, sh_120, refV_s, refV_n, psh_s, psh_n, kil_i, kil_r, kil_n, kil_l, cat_i, cat_r, iOK_1, iOK_5, jOK_2, jOK_6, wOK_e, lOK_1, lOK_2, lOK_3, lOK_4, catS_0, catS_1, catS_2, catS_3, catS_4, and_self, true_and, and_true, true_or, or_true, false_or, or_false, not_true_eq_false, not_false_eq_true, if_true, if_false, ite_int, ite_int0, au_10, eq_self, au_in, au_le, au_lt, au_eq, au_lt0, au_ge0, au_le0, au_gt0, au_eq0, au_leT, au_leF, au_ltT, au_ltF, au_eqT, au_eqF, nI_clamp, nI_1, nI_add, pk_mul, au_sub1, au_subc, au_up2e, au_up2n, lit_of]
                refine hk _ _ (h.row (fun c c0 c1 => up1_off c1) ?_ ?_ ?_ (fun k hk2 => ?_)) (fun c hc => up1_off (by omega)) FrC.rf
                · rw [up1_off (by omega)]
                · rw [up1_off (by omega)]; exact h4
                · rw [up1_off (by omega), cpR_len]; exact h5
                · rw [cpR_len] at hk2
                  rw [up1_at, cpR_get hk2]
                  by_cases e : j ≤ k ∧ k < j + m
                  · rw [if_pos e, pk_cpy_in e.1 e.2, h6 _ (by omega)]
                  · rw [if_neg e, pk_cpy_out (by omega), h6 _ hk2]
theorem MO_copy {i j n : Int32} (hs : sgOK σ) (h : MInv σ I) (hk : MPost Ln I J K (oCopy σ i j n)) : ACall (d + 3) 200 [.ref 122, .int i, .int j, .int n] (G0 Ln) I J K := by
  rw [ACall_0 (L0 := [.ref 122, .int i, .int j, .int n, nv]) (show mcs 200 = (0, 0) from rfl) (show entL 200 [.ref 122, .int i, .int j, .int n] = _ from rfl) rfl (Nat.le_of_ble_eq_true rfl)]
  unfold oCopy at hk
  have h3 := h.2.1
  cases hr : σ.2.1 with
  | none =>
    rw [hr] at h3
    simp only [hr] at hk
    simp only [aw_aload_0 (pc2 := 1) D200_0 rfl, aw_getI (pc2 := 4) (ci := 7) (fk := 48) D200_1 rfl fT_7_143 rfl, aw_if_ge (pc2 := 7) (t := 14) D200_4 (by decide) rfl, aw_aload_0 (pc2 := 8) D200_7 rfl, aw_bipush (pc2 := 10) (y := -2) D200_8 rfl (by decide), aw_iv1_0 (pc2 := 13) (o := 7) D200_10 rfl cT_7_154 rfl rfl, aw_iret D200_13 rfl, sh_122, rf_122_47, sh_164, rf_122_46, sh_163, refV_s, refV_n, psh_s, psh_n, kil_i, kil_r, kil_n, kil_l, cat_i, cat_r, iOK_1, iOK_5, jOK_2, jOK_6, wOK_e, lOK_1, lOK_2, lOK_3, lOK_4, catS_0, catS_1, catS_2, catS_3, catS_4, and_self, true_and, and_true, true_or, or_true, false_or, or_false, not_true_eq_false, not_false_eq_true, if_true, if_false, ite_int, ite_int0, au_10, eq_self, M_no2, h3, if_neg (show ¬ (0 : Int32) ≤ -1 by decide)]
    exact hk.ref h (by omega) (by omega)
  | some r =>
    rw [hr] at h3
    simp only [hr] at hk
    obtain ⟨h5, h6⟩ := h3
    have hlen := (hs.2 r hr).1
    have hp : 0 ≤ nI r.length := nI_pos' (by omega)
    by_cases hn : n < 0
    · rw [if_pos hn] at hk
      simp only [aw_aload_0 (pc2 := 1) D200_0 rfl, aw_getI (pc2 := 4) (ci := 7) (fk := 48) D200_1 rfl fT_7_143 rfl, aw_if_ge (pc2 := 7) (t := 14) D200_4 (by decide) rfl, aw_aload_0 (pc2 := 8) D200_7 rfl, aw_bipush (pc2 := 10) (y := -2) D200_8 rfl (by decide), aw_iv1_0 (pc2 := 13) (o := 7) D200_10 rfl cT_7_154 rfl rfl, aw_iret D200_13 rfl, aw_iload_3 (pc2 := 15) D200_14 rfl, aw_if_ge (pc2 := 18) (t := 25) D200_15 (by decide) rfl, aw_aload_0 (pc2 := 19) D200_18 rfl, aw_bipush (pc2 := 21) (y := -4) D200_19 rfl (by decide), aw_iv1_0 (pc2 := 24) (o := 7) D200_21 rfl cT_7_154 rfl rfl, aw_iret D200_24 rfl, sh_122, rf_122_47, sh_164, rf_122_46, sh_163, refV_s, refV_n, psh_s, psh_n, kil_i, kil_r, kil_n, kil_l, cat_i, cat_r, iOK_1, iOK_5, jOK_2, jOK_6, wOK_e, lOK_1, lOK_2, lOK_3, lOK_4, catS_0, catS_1, catS_2, catS_3, catS_4, and_self, true_and, and_true, true_or, or_true, false_or, or_false, not_true_eq_false, not_false_eq_true, if_true, if_false, ite_int, ite_int0, au_10, eq_self, M_no4, h5, if_pos hp, if_neg (fun q : 0 ≤ n => by rw [fa_lt] at hn; rw [fa_le] at q; omega)]
      exact hk.ref h (by omega) (by omega)
    · rw [if_neg hn] at hk
      have hn0 : 0 ≤ n := fa_of_nlt hn
      have rfs : (i < 0 ∨ j < 0 ∨ (r.length : Int) < i.toInt + n.toInt ∨ (r.length : Int) < j.toInt + n.toInt) → K (some (.int (-6))) (G0 Ln) (up2 I 130 6 (I 130 6 + 1)) J := fun q => by
        rw [if_pos q] at hk
        exact hk.ref h (by omega) (by omega)
      have hgt : ∀ x : Int32, ((nI r.length).toInt64 < x.toInt64 + n.toInt64) ↔ ((r.length : Int) < x.toInt + n.toInt) := fun x => by
        rw [fa_lt64, L_add, Int32.toInt_toInt64, nI_toInt (by omega)]
      have hle : ∀ x : Int32, (x.toInt64 + n.toInt64 ≤ (nI r.length).toInt64) ↔ ¬ ((r.length : Int) < x.toInt + n.toInt) := fun x => by
        rw [fa_le64, L_add, Int32.toInt_toInt64, nI_toInt (by omega)]; omega
      simp only [aw_aload_0 (pc2 := 1) D200_0 rfl, aw_getI (pc2 := 4) (ci := 7) (fk := 48) D200_1 rfl fT_7_143 rfl, aw_if_ge (pc2 := 7) (t := 14) D200_4 (by decide) rfl, aw_aload_0 (pc2 := 8) D200_7 rfl, aw_bipush (pc2 := 10) (y := -2) D200_8 rfl (by decide), aw_iv1_0 (pc2 := 13) (o := 7) D200_10 rfl cT_7_154 rfl rfl, aw_iret D200_13 rfl, aw_iload_3 (pc2 := 15) D200_14 rfl, aw_if_ge (pc2 := 18) (t := 25) D200_15 (by decide) rfl, aw_aload_0 (pc2 := 19) D200_18 rfl, aw_bipush (pc2 := 21) (y := -4) D200_19 rfl (by decide), aw_iv1_0 (pc2 := 24) (o := 7) D200_21 rfl cT_7_154 rfl rfl, aw_iret D200_24 rfl, aw_iload_1 (pc2 := 26) D200_25 rfl, aw_if_lt (pc2 := 29) (t := 61) D200_26 (by decide) rfl, aw_iload_2 (pc2 := 30) D200_29 rfl, aw_if_lt (pc2 := 33) (t := 61) D200_30 (by decide) rfl, aw_iload_1 (pc2 := 34) D200_33 rfl, aw_i2l (pc2 := 35) D200_34 rfl, aw_iload_3 (pc2 := 36) D200_35 rfl, aw_i2l (pc2 := 37) D200_36 rfl, aw_ladd (pc2 := 38) D200_37 rfl, aw_aload_0 (pc2 := 39) D200_38 rfl, aw_getI (pc2 := 42) (ci := 7) (fk := 48) D200_39 rfl fT_7_143 rfl, aw_i2l (pc2 := 43) D200_42 rfl, aw_lcmp (pc2 := 44) D200_43 rfl, aw_if_gt (pc2 := 47) (t := 61) D200_44 (by decide) rfl, aw_iload_2 (pc2 := 48) D200_47 rfl, aw_i2l (pc2 := 49) D200_48 rfl, aw_iload_3 (pc2 := 50) D200_49 rfl, aw_i2l (pc2 := 51) D200_50 rfl, aw_ladd (pc2 := 52) D200_51 rfl, aw_aload_0 (pc2 := 53) D200_52 rfl, aw_getI (pc2 := 56) (ci := 7) (fk := 48) D200_53 rfl fT_7_143 rfl, aw_i2l (pc2 := 57) D200_56 rfl, aw_lcmp (pc2 := 58) D200_57 rfl, aw_if_le (pc2 := 61) (t := 68) D200_58 (by decide) rfl, aw_aload_0 (pc2 := 62) D200_61 rfl, aw_bipush (pc2 := 64) (y := -6) D200_62 rfl (by decide), aw_iv1_0 (pc2 := 67) (o := 7) D200_64 rfl cT_7_154 rfl rfl, aw_iret D200_67 rfl, aw_iconst (pc2 := 69) (y := 0) D200_68 rfl (by decide), aw_istore_4 (pc2 := 71) D200_69 rfl, sh_122, rf_122_47, sh_164, rf_122_46, sh_163, refV_s, refV_n, psh_s, psh_n, kil_i, kil_r, kil_n, kil_l, cat_i, cat_r, iOK_1, iOK_5, jOK_2, jOK_6, wOK_e, lOK_1, lOK_2, lOK_3, lOK_4, catS_0, catS_1, catS_2, catS_3, catS_4, and_self, true_and, and_true, true_or, or_true, false_or, or_false, not_true_eq_false, not_false_eq_true, if_true, if_false, ite_int, ite_int0, au_10, eq_self, M_no4, M_no6, h5, if_pos hn0, if_pos hp, lg_cmp_gt, lg_cmp_le, hgt, hle]
      by_cases h2 : i < 0
      · rw [if_pos h2]; exact rfs (Or.inl h2)
      · rw [if_neg h2]
        by_cases h3 : j < 0
        · rw [if_pos h3]; exact rfs (Or.inr (Or.inl h3))
        · rw [if_neg h3]
          by_cases h4 : (r.length : Int) < i.toInt + n.toInt
          · rw [if_pos h4]; exact rfs (Or.inr (Or.inr (Or.inl h4)))
          · rw [if_neg h4]
            by_cases h5' : (r.length : Int) < j.toInt + n.toInt
            · rw [if_neg (fun q => q h5')]; exact rfs (Or.inr (Or.inr (Or.inr h5')))
            · rw [if_pos h5']
              obtain ⟨i, hi, rfl⟩ := nI_of h2
              obtain ⟨j, hj, rfl⟩ := nI_of h3
              obtain ⟨m, hm, rfl⟩ := nI_of hn
              rw [if_neg (by rintro (q | q | q | q); exact h2 q; exact h3 q; exact h4 q; exact h5' q), nI_clamp hi, nI_clamp hj, nI_clamp hm] at hk
              rw [nI_toInt hi, nI_toInt hm] at h4
              rw [nI_toInt hj, nI_toInt hm] at h5'
              have k1 : ∀ q k I', k + q = m → (∀ c, c ≠ 164 → I' c = I c) → (∀ z, z < k → I' 164 z = I 163 (i + z)) → (∀ I'', (∀ c, c ≠ 164 → I'' c = I c) → (∀ z, z < m → I'' 164 z = I 163 (i + z)) → AW (d + 2) ((G0 Ln).1, (G0 Ln).2.1) K 200 99 [.ref 122, .int (nI i), .int (nI j), .int (nI m), .int (nI m)] [] (G0 Ln) I'' J) → AW (d + 2) ((G0 Ln).1, (G0 Ln).2.1) K 200 71 [.ref 122, .int (nI i), .int (nI j), .int (nI m), .int (nI k)] [] (G0 Ln) I' J := by
                intro q
                induction q with
                | zero =>
                  intro k I' hk2 ho hz hfin
                  have e : k = m := by omega
                  subst e
                  simp (disch := omega) only [aw_iload_4 (pc2 := 73) D200_71 rfl, aw_iload_3 (pc2 := 74) D200_73 rfl, aw_icmp_ge (pc2 := 77) (t := 99) D200_74 (by decide) rfl, sh_122, rf_122_47, sh_164, rf_122_46, sh_163, refV_s, refV_n, psh_s, psh_n, kil_i, kil_r, kil_n, kil_l, cat_i, cat_r, iOK_1, iOK_5, jOK_2, jOK_6, wOK_e, lOK_1, lOK_2, lOK_3, lOK_4, catS_0, catS_1, catS_2, catS_3, catS_4, and_self, true_and, and_true, true_or, or_true, false_or, or_false, not_true_eq_false, not_false_eq_true, if_true, if_false, ite_int, ite_int0, au_10, eq_self, au_in, au_le, au_lt, au_eq, au_lt0, au_ge0, au_le0, au_gt0, au_eq0, au_leT, au_leF, au_ltT, au_ltF, au_eqT, au_eqF, nI_clamp, nI_1, nI_add, pk_mul, au_sub1, au_subc, au_up2e, au_up2n, lit_of]
                  exact hfin I' ho hz
                | succ q ih =>
                  intro k I' hk2 ho hz hfin
                  have ihn := ih (k + 1)
                  rw [aw_iload_4 (pc2 := 73) D200_71 rfl]
                  simp (disch := omega) only [aw_iload_3 (pc2 := 74) D200_73 rfl, aw_icmp_ge (pc2 := 77) (t := 99) D200_74 (by decide) rfl, aw_aload_0 (pc2 := 78) D200_77 rfl, aw_getR (pc2 := 81) (ci := 7) (fk := 47) D200_78 rfl fT_7_140 rfl, aw_iload_4 (pc2 := 83) D200_81 rfl, aw_aload_0 (pc2 := 84) D200_83 rfl, aw_getR (pc2 := 87) (ci := 7) (fk := 46) D200_84 rfl fT_7_137 rfl, aw_iload_1 (pc2 := 88) D200_87 rfl, aw_iload_4 (pc2 := 90) D200_88 rfl, aw_iadd (pc2 := 91) D200_90 rfl, aw_iaload (pc2 := 92) D200_91 rfl, aw_iastore (pc2 := 93) D200_92 rfl, aw_iinc_4 (pc2 := 96) (y := 1) D200_93 rfl (by decide), aw_goto (t := 71) D200_96 (by decide), sh_122, rf_122_47, sh_164, rf_122_46, sh_163, refV_s, refV_n, psh_s, psh_n, kil_i, kil_r, kil_n, kil_l, cat_i, cat_r, iOK_1, iOK_5, jOK_2, jOK_6, wOK_e, lOK_1, lOK_2, lOK_3, lOK_4, catS_0, catS_1, catS_2, catS_3, catS_4, and_self, true_and, and_true, true_or, or_true, false_or, or_false, not_true_eq_false, not_false_eq_true, if_true, if_false, ite_int, ite_int0, au_10, eq_self, au_in, au_le, au_lt, au_eq, au_lt0, au_ge0, au_le0, au_gt0, au_eq0, au_leT, au_leF, au_ltT, au_ltF, au_eqT, au_eqF, nI_clamp, nI_1, nI_add, pk_mul, au_sub1, au_subc, au_up2e, au_up2n, lit_of, ho 163 (by omega)]
                  refine ihn _ (by omega) (fun c hc => by rw [au_up2c hc]; exact ho c hc) (fun z hz2 => ?_) hfin
                  by_cases e : z = k
                  · simp (disch := omega) only [e, au_up2e]
                  · simp (disch := omega) only [au_up2n]; exact hz z (by omega)
              refine k1 m 0 I (by omega) (fun _ _ => rfl) (fun z hz => absurd hz (Nat.not_lt_zero _)) (fun I1 ho1 hz1 => ?_)
              have k2 : ∀ q k I', k + q = m → (∀ c, c ≠ 163 → I' c = I1 c) → (∀ z, z < r.length → I' 163 z = if j ≤ z ∧ z < j + k then I 163 (i + (z - j)) else I 163 z) → AW (d + 2) ((G0 Ln).1, (G0 Ln).2.1) K 200 102 [.ref 122, .int (nI i), .int (nI j), .int (nI m), .int (nI k)] [] (G0 Ln) I' J := by
                intro q
                induction q with
                | zero =>
                  intro k I' hk2 ho hz
                  have e : k = m := by omega
                  subst e
                  simp (disch := omega) only [aw_iload_4 (pc2 := 104) D200_102 rfl, aw_iload_3 (pc2 := 105) D200_104 rfl, aw_icmp_ge (pc2 := 108) (t := 130) D200_105 (by decide) rfl, aw_iload_3 (pc2 := 131) D200_130 rfl, aw_iret D200_131 rfl, sh_122, rf_122_47, sh_164, rf_122_46, sh_163, refV_s, refV_n, psh_s, psh_n, kil_i, kil_r, kil_n, kil_l, cat_i, cat_r, iOK_1, iOK_5, jOK_2, jOK_6, wOK_e, lOK_1, lOK_2, lOK_3, lOK_4, catS_0, catS_1, catS_2, catS_3, catS_4, and_self, true_and, and_true, true_or, or_true, false_or, or_false, not_true_eq_false, not_false_eq_true, if_true, if_false, ite_int, ite_int0, au_10, eq_self, au_in, au_le, au_lt, au_eq, au_lt0, au_ge0, au_le0, au_gt0, au_eq0, au_leT, au_leF, au_ltT, au_ltF, au_eqT, au_eqF, nI_clamp, nI_1, nI_add, pk_mul, au_sub1, au_subc, au_up2e, au_up2n, lit_of]
                  have o2 : ∀ c, c ≠ 163 → c ≠ 164 → I' c = I c := fun c c1 c2 => by rw [ho c c1, ho1 c c2]
                  refine hk _ _ (h.row (fun c c0 c1 c2 => o2 c c1 c2) ?_ ?_ (fun z hz2 => ?_)) (fun c hc => o2 c (by omega) (by omega)) FrM.rf
                  · rw [o2 _ (by omega) (by omega)]
                  · rw [o2 _ (by omega) (by omega), cpR_len]; exact h5
                  · rw [cpR_len] at hz2
                    rw [hz z hz2, cpR_get hz2]
                    by_cases e : j ≤ z ∧ z < j + k
                    · rw [if_pos e, if_pos e, h6 _ (by omega)]
                    · rw [if_neg e, if_neg e, h6 _ hz2]
                | succ q ih =>
                  intro k I' hk2 ho hz
                  have ihn := ih (k + 1)
                  rw [aw_iload_4 (pc2 := 104) D200_102 rfl]
                  simp (disch := omega) only [aw_iload_3 (pc2 := 105) D200_104 rfl, aw_icmp_ge (pc2 := 108) (t := 130) D200_105 (by decide) rfl, aw_aload_0 (pc2 := 109) D200_108 rfl, aw_getR (pc2 := 112) (ci := 7) (fk := 46) D200_109 rfl fT_7_137 rfl, aw_iload_2 (pc2 := 113) D200_112 rfl, aw_iload_4 (pc2 := 115) D200_113 rfl, aw_iadd (pc2 := 116) D200_115 rfl, aw_aload_0 (pc2 := 117) D200_116 rfl, aw_getR (pc2 := 120) (ci := 7) (fk := 47) D200_117 rfl fT_7_140 rfl, aw_iload_4 (pc2 := 122) D200_120 rfl, aw_iaload (pc2 := 123) D200_122 rfl, aw_iastore (pc2 := 124) D200_123 rfl, aw_iinc_4 (pc2 := 127) (y := 1) D200_124 rfl (by decide), aw_goto (t := 102) D200_127 (by decide), sh_122, rf_122_47, sh_164, rf_122_46, sh_163, refV_s, refV_n, psh_s, psh_n, kil_i, kil_r, kil_n, kil_l, cat_i, cat_r, iOK_1, iOK_5, jOK_2, jOK_6, wOK_e, lOK_1, lOK_2, lOK_3, lOK_4, catS_0, catS_1, catS_2, catS_3, catS_4, and_self, true_and, and_true, true_or, or_true, false_or, or_false, not_true_eq_false, not_false_eq_true, if_true, if_false, ite_int, ite_int0, au_10, eq_self, au_in, au_le, au_lt, au_eq, au_lt0, au_ge0, au_le0, au_gt0, au_eq0, au_leT, au_leF, au_ltT, au_ltF, au_eqT, au_eqF, nI_clamp, nI_1, nI_add, pk_mul, au_sub1, au_subc, au_up2e, au_up2n, lit_of, ho 164 (by omega), hz1 k (by omega)]
                  refine ihn _ (by omega) (fun c hc => by rw [au_up2c hc]; exact ho c hc) (fun z hz2 => ?_)
                  by_cases e : z = j + k
                  · rw [e, if_pos (by omega), show j + k - j = k by omega]
                    simp (disch := omega) only [au_up2e]
                  · simp (disch := omega) only [au_up2n]
                    rw [hz z hz2]
                    by_cases e2 : j ≤ z ∧ z < j + k
                    · rw [if_pos e2, if_pos (by omega)]
                    · rw [if_neg e2, if_neg (by omega)]
              simp only [aw_iconst (pc2 := 100) (y := 0) D200_99 rfl (by decide), aw_istore_4 (pc2 := 102) D200_100 rfl, sh_122, rf_122_47, sh_164, rf_122_46, sh_163, refV_s, refV_n, psh_s, psh_n, kil_i, kil_r, kil_n, kil_l, cat_i, cat_r, iOK_1, iOK_5, jOK_2, jOK_6, wOK_e, lOK_1, lOK_2, lOK_3, lOK_4, catS_0, catS_1, catS_2, catS_3, catS_4, and_self, true_and, and_true, true_or, or_true, false_or, or_false, not_true_eq_false, not_false_eq_true, if_true, if_false, ite_int, ite_int0, au_10, eq_self]
              refine k2 m 0 I1 (by omega) (fun _ _ => rfl) (fun z hz => ?_)
              rw [if_neg (by omega), ho1 163 (by omega)]
end Copy
