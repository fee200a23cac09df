def rowOr (r : List Int) : Nat → Nat
  | 0 => 0
  | k + 1 => rowOr r k ||| 2 ^ plN (r.getD k 0)
noncomputable def oGive (σ : SG) (x : Int32) : Value × SG := match bkOf x with
  | none => (.int (-3), refS σ 3)
  | some b => match σ.2.1 with
    | none => (.int (-2), refS σ 2)
    | some r => @ite _ (∀ i, i < r.length → okS (σ.1 b).N (iI (r.getD i 0))) (Classical.propDecidable _) (oPut σ b (rowOr r r.length)) (.int (-3), refS σ 3)
theorem iI_toInt {s : Int} (h1 : -2147483648 ≤ s) (h2 : s < 2147483648) : (iI s).toInt = s := fb_ofI h1 h2
theorem row_mem {σ : SG} {r : List Int} (hs : sgOK σ) (hr : σ.2.1 = some r) {i : Nat} (hi : i < r.length) : -12 ≤ r.getD i 0 ∧ r.getD i 0 ≤ 12 ∧ r.getD i 0 ≠ 0 := by
  refine (hs.2 r hr).2 _ ?_
  rw [List.getD_eq_getElem?_getD, List.getElem?_eq_getElem hi]
  exact List.getElem_mem _
theorem rowOr_lt {σ : SG} {r : List Int} (hs : sgOK σ) (hr : σ.2.1 = some r) : ∀ i, i ≤ r.length → rowOr r i < 2 ^ 24
  | 0, _ => (show 0 < 2 ^ 24 by decide)
  | i + 1, hi => by
    have h := row_mem hs hr (show i < r.length by omega)
    refine or_lt24 (rowOr_lt hs hr i (by omega)) (Nat.pow_lt_pow_right (by decide) ?_)
    unfold plN
    split <;> omega
section Give
variable {d Ln : Nat} {I : IT} {J : JT} {K : KT} {σ : SG}
theorem row_sgn {N : Nat} {s : Int} (hN : N ≤ 12) (h1 : -12 ≤ s) (h2 : s ≤ 12) (ho : okS N (iI s)) : bitC (iI s) = nI (2 ^ plN s) ∧ bitM (iI s) = nI (2 ^ plN s) := by
  obtain ⟨-, -, q3, -, -, q6, -⟩ := sgn hN ho
  rw [iI_toInt (by omega) (by omega)] at q3 q6
  exact ⟨q3, q6⟩
theorem CO_give {x : Int32} (hs : sgOK σ) (h : CInv σ I J) (hk : CPost Ln I J K (oGive σ x)) : ACall (d + 3) 108 [.ref 0, .int x] (G0 Ln) I J K := by
  rw [ACall_0 (L0 := [.ref 0, .int x, nv, nv, nv]) (show mcs 108 = (0, 0) from rfl) (show entL 108 [.ref 0, .int x] = _ from rfl) rfl (Nat.le_of_ble_eq_true rfl)]
  unfold oGive at hk
  cases hx : bkOf x with
  | none =>
    simp only [hx] at hk
    obtain ⟨x0, x1⟩ := bkOf_none hx
    simp only [aw_aload_0 (pc2 := 1) D108_0 rfl, aw_aloadN_0 (pc2 := 1) D108_0 rfl, aw_iload_1 (pc2 := 2) D108_1 rfl, aw_iv1_0 (pc2 := 5) (o := 6) D108_2 rfl cT_6_55 rfl rfl, aw_astore_2 (pc2 := 6) D108_5 rfl, aw_astoreN_2 (pc2 := 6) D108_5 rfl, aw_aload_2 (pc2 := 7) D108_6 rfl, aw_aloadN_2 (pc2 := 7) D108_6 rfl, aw_ifnonnull (t := 17) D108_7 (by decide), aw_ifnonnullN (pc2 := 10) D108_7 rfl, aw_aload_0 (pc2 := 11) D108_10 rfl, aw_aloadN_0 (pc2 := 11) D108_10 rfl, aw_bipush (pc2 := 13) (y := -3) D108_11 rfl (by decide), aw_iv1_0 (pc2 := 16) (o := 6) D108_13 rfl cT_6_59 rfl rfl, aw_iret D108_16 rfl, sh_0, rf_0_5, sh_120, refV_s, refV_n, psh_s, psh_n, kil_i, kil_r, kil_n, kil_l, cat_i, cat_r, iOK_1, iOK_5, jOK_2, jOK_6, wOK_e, lOK_1, lOK_2, lOK_3, lOK_4, catS_0, catS_1, catS_2, catS_3, catS_4, and_self, true_and, and_true, true_or, or_true, false_or, or_false, not_true_eq_false, not_false_eq_true, if_true, if_false, ite_int, ite_int0, au_10, eq_self, C_bookAtN x0 x1, C_ref3]
    exact hk.ref h (by omega) (by omega)
  | some b =>
    simp only [hx] at hk
    obtain ⟨hb, rfl⟩ := bkOf_some hx
    have hB := bf (Ln := Ln) hb
    have hh := h.1 b hb
    have hN := (hs.1 b hb).2.1
    have h3 := h.2.1
    cases hr : σ.2.1 with
    | none =>
      rw [hr] at h3
      simp only [hr] at hk
      simp only [aw_aload_0 (pc2 := 1) D108_0 rfl, aw_aloadN_0 (pc2 := 1) D108_0 rfl, aw_iload_1 (pc2 := 2) D108_1 rfl, aw_iv1_0 (pc2 := 5) (o := 6) D108_2 rfl cT_6_55 rfl rfl, aw_astore_2 (pc2 := 6) D108_5 rfl, aw_astoreN_2 (pc2 := 6) D108_5 rfl, aw_aload_2 (pc2 := 7) D108_6 rfl, aw_aloadN_2 (pc2 := 7) D108_6 rfl, aw_ifnonnull (t := 17) D108_7 (by decide), aw_ifnonnullN (pc2 := 10) D108_7 rfl, aw_aload_0 (pc2 := 11) D108_10 rfl, aw_aloadN_0 (pc2 := 11) D108_10 rfl, aw_bipush (pc2 := 13) (y := -3) D108_11 rfl (by decide), aw_iv1_0 (pc2 := 16) (o := 6) D108_13 rfl cT_6_59 rfl rfl, aw_iret D108_16 rfl, aw_aload_0 (pc2 := 18) D108_17 rfl, aw_aloadN_0 (pc2 := 18) D108_17 rfl, aw_getI (pc2 := 21) (ci := 6) (fk := 8) D108_18 rfl fT_6_48 rfl, aw_if_ne (pc2 := 24) (t := 31) D108_21 (by decide) rfl, aw_aload_0 (pc2 := 25) D108_24 rfl, aw_aloadN_0 (pc2 := 25) D108_24 rfl, aw_bipush (pc2 := 27) (y := -2) D108_25 rfl (by decide), aw_iv1_0 (pc2 := 30) (o := 6) D108_27 rfl cT_6_59 rfl rfl, aw_iret D108_30 rfl, sh_0, rf_0_5, sh_120, refV_s, refV_n, psh_s, psh_n, kil_i, kil_r, kil_n, kil_l, cat_i, cat_r, iOK_1, iOK_5, jOK_2, jOK_6, wOK_e, lOK_1, lOK_2, lOK_3, lOK_4, catS_0, catS_1, catS_2, catS_3, catS_4, and_self, true_and, and_true, true_or, or_true, false_or, or_false, not_true_eq_false, not_false_eq_true, if_true, if_false, ite_int, ite_int0, au_10, eq_self, C_bookAt hb, C_ref2, h3]
      exact hk.ref h (by omega) (by omega)
    | some r =>
      rw [hr] at h3
      simp only [hr] at hk
      obtain ⟨h4, h5, h6⟩ := h3
      have hlen := (hs.2 r hr).1
      simp only [aw_aload_0 (pc2 := 1) D108_0 rfl, aw_aloadN_0 (pc2 := 1) D108_0 rfl, aw_iload_1 (pc2 := 2) D108_1 rfl, aw_iv1_0 (pc2 := 5) (o := 6) D108_2 rfl cT_6_55 rfl rfl, aw_astore_2 (pc2 := 6) D108_5 rfl, aw_astoreN_2 (pc2 := 6) D108_5 rfl, aw_aload_2 (pc2 := 7) D108_6 rfl, aw_aloadN_2 (pc2 := 7) D108_6 rfl, aw_ifnonnull (t := 17) D108_7 (by decide), aw_ifnonnullN (pc2 := 10) D108_7 rfl, aw_aload_0 (pc2 := 11) D108_10 rfl, aw_aloadN_0 (pc2 := 11) D108_10 rfl, aw_bipush (pc2 := 13) (y := -3) D108_11 rfl (by decide), aw_iv1_0 (pc2 := 16) (o := 6) D108_13 rfl cT_6_59 rfl rfl, aw_iret D108_16 rfl, aw_aload_0 (pc2 := 18) D108_17 rfl, aw_aloadN_0 (pc2 := 18) D108_17 rfl, aw_getI (pc2 := 21) (ci := 6) (fk := 8) D108_18 rfl fT_6_48 rfl, aw_if_ne (pc2 := 24) (t := 31) D108_21 (by decide) rfl, aw_aload_0 (pc2 := 25) D108_24 rfl, aw_aloadN_0 (pc2 := 25) D108_24 rfl, aw_bipush (pc2 := 27) (y := -2) D108_25 rfl (by decide), aw_iv1_0 (pc2 := 30) (o := 6) D108_27 rfl cT_6_59 rfl rfl, aw_iret D108_30 rfl, aw_iconst (pc2 := 32) (y := 0) D108_31 rfl (by decide), aw_istore_3 (pc2 := 33) D108_32 rfl, aw_iconst (pc2 := 34) (y := 0) D108_33 rfl (by decide), aw_istore_4 (pc2 := 36) D108_34 rfl, sh_0, rf_0_5, sh_120, refV_s, refV_n, psh_s, psh_n, kil_i, kil_r, kil_n, kil_l, cat_i, cat_r, iOK_1, iOK_5, jOK_2, jOK_6, wOK_e, lOK_1, lOK_2, lOK_3, lOK_4, catS_0, catS_1, catS_2, catS_3, catS_4, and_self, true_and, and_true, true_or, or_true, false_or, or_false, not_true_eq_false, not_false_eq_true, if_true, if_false, ite_int, ite_int0, au_10, eq_self, C_bookAt hb, h4, if_pos (show ¬ (1 : Int32) = 0 by decide)]
      have key : ∀ n i, i + n = r.length → (∀ j, j < i → okS (σ.1 b).N (iI (r.getD j 0))) → AW (d + 2) ((G0 Ln).1, (G0 Ln).2.1) K 108 36 [.ref 0, .int (nI b), .ref (bkc b), .int (nI (rowOr r i)), .int (nI i)] [] (G0 Ln) I J := by
        intro n
        induction n with
        | zero =>
          intro i hi hj
          have e : i = r.length := by omega
          subst e
          rw [ifT hj] at hk
          simp only [aw_iload_4 (pc2 := 38) D108_36 rfl, aw_aload_0 (pc2 := 39) D108_38 rfl, aw_aloadN_0 (pc2 := 39) D108_38 rfl, aw_getI (pc2 := 42) (ci := 6) (fk := 7) D108_39 rfl fT_6_44 rfl, aw_icmp_ge (pc2 := 45) (t := 85) D108_42 (by decide) rfl, aw_aload_0 (pc2 := 86) D108_85 rfl, aw_aloadN_0 (pc2 := 86) D108_85 rfl, aw_aload_2 (pc2 := 87) D108_86 rfl, aw_aloadN_2 (pc2 := 87) D108_86 rfl, aw_iload_3 (pc2 := 88) D108_87 rfl, aw_iv2_0 (pc2 := 91) (o := 6) D108_88 rfl cT_6_77 rfl rfl, sh_0, rf_0_5, sh_120, refV_s, refV_n, psh_s, psh_n, kil_i, kil_r, kil_n, kil_l, cat_i, cat_r, iOK_1, iOK_5, jOK_2, jOK_6, wOK_e, lOK_1, lOK_2, lOK_3, lOK_4, catS_0, catS_1, catS_2, catS_3, catS_4, and_self, true_and, and_true, true_or, or_true, false_or, or_false, not_true_eq_false, not_false_eq_true, if_true, if_false, ite_int, ite_int0, au_10, eq_self, h5, if_pos (nI_le (Nat.le_refl r.length) (by omega))]
          refine C_putClause hb (rowOr_lt hs hr _ (Nat.le_refl _)) hs h (fun I' J' q1 q2 q3 => ?_)
          have k1 := hk I' J' q1 q2 q3
          obtain ⟨z, hz⟩ := oPut_int (σ := σ) (b := b) (m := rowOr r r.length)
          rw [hz] at k1 ⊢
          simp only [aw_iret D108_91 rfl, sh_0, rf_0_5, sh_120, refV_s, refV_n, psh_s, psh_n, kil_i, kil_r, kil_n, kil_l, cat_i, cat_r, iOK_1, iOK_5, jOK_2, jOK_6, wOK_e, lOK_1, lOK_2, lOK_3, lOK_4, catS_0, catS_1, catS_2, catS_3, catS_4, and_self, true_and, and_true, true_or, or_true, false_or, or_false, not_true_eq_false, not_false_eq_true, if_true, if_false, ite_int, ite_int0, au_10, eq_self]
          exact k1
        | succ n ih =>
          intro i hi hj
          have hi2 : i < r.length := by omega
          have hm := row_mem hs hr hi2
          rw [aw_iload_4 (pc2 := 38) D108_36 rfl]
          simp only [aw_aload_0 (pc2 := 39) D108_38 rfl, aw_aloadN_0 (pc2 := 39) D108_38 rfl, aw_getI (pc2 := 42) (ci := 6) (fk := 7) D108_39 rfl fT_6_44 rfl, aw_icmp_ge (pc2 := 45) (t := 85) D108_42 (by decide) rfl, aw_aload_2 (pc2 := 46) D108_45 rfl, aw_aloadN_2 (pc2 := 46) D108_45 rfl, aw_aload_0 (pc2 := 47) D108_46 rfl, aw_aloadN_0 (pc2 := 47) D108_46 rfl, aw_getR (pc2 := 50) (ci := 6) (fk := 5) D108_47 rfl fT_6_37 rfl, aw_iload_4 (pc2 := 52) D108_50 rfl, aw_iaload (pc2 := 53) D108_52 rfl, aw_iv1_0 (pc2 := 56) (o := 0) D108_53 rfl cT_6_81 rfl rfl, aw_if_ne (pc2 := 59) (t := 66) D108_56 (by decide) rfl, aw_aload_0 (pc2 := 60) D108_59 rfl, aw_aloadN_0 (pc2 := 60) D108_59 rfl, aw_bipush (pc2 := 62) (y := -3) D108_60 rfl (by decide), aw_iv1_0 (pc2 := 65) (o := 6) D108_62 rfl cT_6_59 rfl rfl, aw_iret D108_65 rfl, sh_0, rf_0_5, sh_120, refV_s, refV_n, psh_s, psh_n, kil_i, kil_r, kil_n, kil_l, cat_i, cat_r, iOK_1, iOK_5, jOK_2, jOK_6, wOK_e, lOK_1, lOK_2, lOK_3, lOK_4, catS_0, catS_1, catS_2, catS_3, catS_4, and_self, true_and, and_true, true_or, or_true, false_or, or_false, not_true_eq_false, not_false_eq_true, if_true, if_false, ite_int, ite_int0, au_10, eq_self, h5, h6 i hi2, C_hasSign hB, C_ref3, hB.1.1, hh.1, if_neg (nI_ge hi2 (by omega)), nI_clamp (show i < 2 ^ 31 by omega)]
          refine ⟨vp_in_nI (by omega) (by decide), ?_⟩
          by_cases ho : okS (σ.1 b).N (iI (r.getD i 0))
          · have ho' : ¬ iI (r.getD i 0) = 0 ∧ -(nI (σ.1 b).N) ≤ iI (r.getD i 0) ∧ iI (r.getD i 0) ≤ nI (σ.1 b).N := ho
            rw [if_pos ho']
            simp only [aw_iload_3 (pc2 := 67) D108_66 rfl, aw_aload_0 (pc2 := 68) D108_67 rfl, aw_aloadN_0 (pc2 := 68) D108_67 rfl, aw_getR (pc2 := 71) (ci := 6) (fk := 5) D108_68 rfl fT_6_37 rfl, aw_iload_4 (pc2 := 73) D108_71 rfl, aw_iaload (pc2 := 74) D108_73 rfl, aw_is1_2 (pc2 := 77) D108_74 rfl cT_6_74 rfl, aw_ior (pc2 := 78) D108_77 rfl, aw_istore_3 (pc2 := 79) D108_78 rfl, aw_iinc_4 (pc2 := 82) (y := 1) D108_79 rfl (by decide), aw_goto (t := 36) D108_82 (by decide), sh_0, rf_0_5, sh_120, refV_s, refV_n, psh_s, psh_n, kil_i, kil_r, kil_n, kil_l, cat_i, cat_r, iOK_1, iOK_5, jOK_2, jOK_6, wOK_e, lOK_1, lOK_2, lOK_3, lOK_4, catS_0, catS_1, catS_2, catS_3, catS_4, and_self, true_and, and_true, true_or, or_true, false_or, or_false, not_true_eq_false, not_false_eq_true, if_true, if_false, ite_int, ite_int0, au_10, eq_self, h6 i hi2, C_bitOf, (row_sgn hN hm.1 hm.2.1 ho).1, nI_clamp (show i < 2 ^ 31 by omega), fa_or, nI_1]
            refine ⟨vp_in_nI (by omega) (by decide), ?_⟩
            exact ih (i + 1) (by omega) (fun j hj2 => by
              by_cases e : j = i
              · rw [e]; exact ho
              · exact hj j (by omega))
          · have ho' : ¬ (¬ iI (r.getD i 0) = 0 ∧ -(nI (σ.1 b).N) ≤ iI (r.getD i 0) ∧ iI (r.getD i 0) ≤ nI (σ.1 b).N) := ho
            rw [if_neg ho']
            rw [if_neg (fun q => ho (q i hi2))] at hk
            exact hk.ref h (by omega) (by omega)
      exact key r.length 0 (by omega) (fun j hj => absurd hj (Nat.not_lt_zero _))
theorem MO_give {x : Int32} (hs : sgOK σ) (h : MInv σ I) (hk : MPost Ln I J K (oGive σ x)) : ACall (d + 3) 201 [.ref 122, .int x] (G0 Ln) I J K := by
  rw [ACall_0 (L0 := [.ref 122, .int x, nv, nv]) (show mcs 201 = (0, 0) from rfl) (show entL 201 [.ref 122, .int x] = _ from rfl) rfl (Nat.le_of_ble_eq_true rfl)]
  unfold oGive at hk
  cases hx : bkOf x with
  | none =>
    simp only [hx] at hk
    obtain ⟨x0, x1⟩ := bkOf_none hx
    simp only [aw_iload_1 (pc2 := 1) D201_0 rfl, aw_is1_2 (pc2 := 4) D201_1 rfl cT_7_150 rfl, aw_if_ne (pc2 := 7) (t := 14) D201_4 (by decide) rfl, aw_aload_0 (pc2 := 8) D201_7 rfl, aw_bipush (pc2 := 10) (y := -3) D201_8 rfl (by decide), aw_iv1_0 (pc2 := 13) (o := 7) D201_10 rfl cT_7_154 rfl rfl, aw_iret D201_13 rfl, sh_122, rf_122_46, sh_163, refV_s, refV_n, psh_s, psh_n, kil_i, kil_r, kil_n, kil_l, cat_i, cat_r, iOK_1, iOK_5, jOK_2, jOK_6, wOK_e, lOK_1, lOK_2, lOK_3, lOK_4, catS_0, catS_1, catS_2, catS_3, catS_4, and_self, true_and, and_true, true_or, or_true, false_or, or_false, not_true_eq_false, not_false_eq_true, if_true, if_false, ite_int, ite_int0, au_10, eq_self, M_isBook, M_no3, x0, x1, or_self]
    exact hk.ref h (by omega) (by omega)
  | some b =>
    simp only [hx] at hk
    obtain ⟨hb, rfl⟩ := bkOf_some hx
    have hh := h.1 b hb
    have hN := (hs.1 b hb).2.1
    have h3 := h.2.1
    cases hr : σ.2.1 with
    | none =>
      rw [hr] at h3
      simp only [hr] at hk
      simp only [aw_iload_1 (pc2 := 1) D201_0 rfl, aw_is1_2 (pc2 := 4) D201_1 rfl cT_7_150 rfl, aw_if_ne (pc2 := 7) (t := 14) D201_4 (by decide) rfl, aw_aload_0 (pc2 := 8) D201_7 rfl, aw_bipush (pc2 := 10) (y := -3) D201_8 rfl (by decide), aw_iv1_0 (pc2 := 13) (o := 7) D201_10 rfl cT_7_154 rfl rfl, aw_iret D201_13 rfl, aw_aload_0 (pc2 := 15) D201_14 rfl, aw_getI (pc2 := 18) (ci := 7) (fk := 48) D201_15 rfl fT_7_143 rfl, aw_if_ge (pc2 := 21) (t := 28) D201_18 (by decide) rfl, aw_aload_0 (pc2 := 22) D201_21 rfl, aw_bipush (pc2 := 24) (y := -2) D201_22 rfl (by decide), aw_iv1_0 (pc2 := 27) (o := 7) D201_24 rfl cT_7_154 rfl rfl, aw_iret D201_27 rfl, sh_122, rf_122_46, sh_163, refV_s, refV_n, psh_s, psh_n, kil_i, kil_r, kil_n, kil_l, cat_i, cat_r, iOK_1, iOK_5, jOK_2, jOK_6, wOK_e, lOK_1, lOK_2, lOK_3, lOK_4, catS_0, catS_1, catS_2, catS_3, catS_4, and_self, true_and, and_true, true_or, or_true, false_or, or_false, not_true_eq_false, not_false_eq_true, if_true, if_false, ite_int, ite_int0, au_10, eq_self, M_isBk hb, M_no2, h3, if_neg (show ¬ (0 : Int32) ≤ -1 by decide)]
      exact hk.ref h (by omega) (by omega)
    | some r =>
      rw [hr] at h3
      simp only [hr] at hk
      obtain ⟨h5, h6⟩ := h3
      have hlen := (hs.2 r hr).1
      simp only [aw_iload_1 (pc2 := 1) D201_0 rfl, aw_is1_2 (pc2 := 4) D201_1 rfl cT_7_150 rfl, aw_if_ne (pc2 := 7) (t := 14) D201_4 (by decide) rfl, aw_aload_0 (pc2 := 8) D201_7 rfl, aw_bipush (pc2 := 10) (y := -3) D201_8 rfl (by decide), aw_iv1_0 (pc2 := 13) (o := 7) D201_10 rfl cT_7_154 rfl rfl, aw_iret D201_13 rfl, aw_aload_0 (pc2 := 15) D201_14 rfl, aw_getI (pc2 := 18) (ci := 7) (fk := 48) D201_15 rfl fT_7_143 rfl, aw_if_ge (pc2 := 21) (t := 28) D201_18 (by decide) rfl, aw_aload_0 (pc2 := 22) D201_21 rfl, aw_bipush (pc2 := 24) (y := -2) D201_22 rfl (by decide), aw_iv1_0 (pc2 := 27) (o := 7) D201_24 rfl cT_7_154 rfl rfl, aw_iret D201_27 rfl, aw_iconst (pc2 := 29) (y := 0) D201_28 rfl (by decide), aw_istore_2 (pc2 := 30) D201_29 rfl, aw_iconst (pc2 := 31) (y := 0) D201_30 rfl (by decide), aw_istore_3 (pc2 := 32) D201_31 rfl, sh_122, rf_122_46, sh_163, refV_s, refV_n, psh_s, psh_n, kil_i, kil_r, kil_n, kil_l, cat_i, cat_r, iOK_1, iOK_5, jOK_2, jOK_6, wOK_e, lOK_1, lOK_2, lOK_3, lOK_4, catS_0, catS_1, catS_2, catS_3, catS_4, and_self, true_and, and_true, true_or, or_true, false_or, or_false, not_true_eq_false, not_false_eq_true, if_true, if_false, ite_int, ite_int0, au_10, eq_self, M_isBk hb, h5, if_pos (nI_pos' (show r.length < 2 ^ 31 by omega))]
      have key : ∀ n i, i + n = r.length → (∀ j, j < i → okS (σ.1 b).N (iI (r.getD j 0))) → AW (d + 2) ((G0 Ln).1, (G0 Ln).2.1) K 201 32 [.ref 122, .int (nI b), .int (nI (rowOr r i)), .int (nI i)] [] (G0 Ln) I J := by
        intro n
        induction n with
        | zero =>
          intro i hi hj
          have e : i = r.length := by omega
          subst e
          rw [ifT hj] at hk
          simp only [aw_iload_3 (pc2 := 33) D201_32 rfl, aw_aload_0 (pc2 := 34) D201_33 rfl, aw_getI (pc2 := 37) (ci := 7) (fk := 48) D201_34 rfl fT_7_143 rfl, aw_icmp_ge (pc2 := 40) (t := 79) D201_37 (by decide) rfl, aw_aload_0 (pc2 := 80) D201_79 rfl, aw_iload_1 (pc2 := 81) D201_80 rfl, aw_iload_2 (pc2 := 82) D201_81 rfl, aw_iv2_0 (pc2 := 85) (o := 7) D201_82 rfl cT_7_173 rfl rfl, sh_122, rf_122_46, sh_163, refV_s, refV_n, psh_s, psh_n, kil_i, kil_r, kil_n, kil_l, cat_i, cat_r, iOK_1, iOK_5, jOK_2, jOK_6, wOK_e, lOK_1, lOK_2, lOK_3, lOK_4, catS_0, catS_1, catS_2, catS_3, catS_4, and_self, true_and, and_true, true_or, or_true, false_or, or_false, not_true_eq_false, not_false_eq_true, if_true, if_false, ite_int, ite_int0, au_10, eq_self, h5, if_pos (nI_le (Nat.le_refl r.length) (by omega))]
          refine M_adds hb (rowOr_lt hs hr _ (Nat.le_refl _)) hs h (fun I' J' q1 q2 q3 => ?_)
          have k1 := hk I' J' q1 q2 q3
          obtain ⟨z, hz⟩ := oPut_int (σ := σ) (b := b) (m := rowOr r r.length)
          rw [hz] at k1 ⊢
          simp only [aw_iret D201_85 rfl, sh_122, rf_122_46, sh_163, refV_s, refV_n, psh_s, psh_n, kil_i, kil_r, kil_n, kil_l, cat_i, cat_r, iOK_1, iOK_5, jOK_2, jOK_6, wOK_e, lOK_1, lOK_2, lOK_3, lOK_4, catS_0, catS_1, catS_2, catS_3, catS_4, and_self, true_and, and_true, true_or, or_true, false_or, or_false, not_true_eq_false, not_false_eq_true, if_true, if_false, ite_int, ite_int0, au_10, eq_self]
          exact k1
        | succ n ih =>
          intro i hi hj
          have hi2 : i < r.length := by omega
          have hm := row_mem hs hr hi2
          rw [aw_iload_3 (pc2 := 33) D201_32 rfl]
          simp only [aw_aload_0 (pc2 := 34) D201_33 rfl, aw_getI (pc2 := 37) (ci := 7) (fk := 48) D201_34 rfl fT_7_143 rfl, aw_icmp_ge (pc2 := 40) (t := 79) D201_37 (by decide) rfl, aw_aload_0 (pc2 := 41) D201_40 rfl, aw_iload_1 (pc2 := 42) D201_41 rfl, aw_aload_0 (pc2 := 43) D201_42 rfl, aw_getR (pc2 := 46) (ci := 7) (fk := 46) D201_43 rfl fT_7_137 rfl, aw_iload_3 (pc2 := 47) D201_46 rfl, aw_iaload (pc2 := 48) D201_47 rfl, aw_iv2_0 (pc2 := 51) (o := 7) D201_48 rfl cT_7_163 rfl rfl, aw_if_ne (pc2 := 54) (t := 61) D201_51 (by decide) rfl, aw_aload_0 (pc2 := 55) D201_54 rfl, aw_bipush (pc2 := 57) (y := -3) D201_55 rfl (by decide), aw_iv1_0 (pc2 := 60) (o := 7) D201_57 rfl cT_7_154 rfl rfl, aw_iret D201_60 rfl, sh_122, rf_122_46, sh_163, refV_s, refV_n, psh_s, psh_n, kil_i, kil_r, kil_n, kil_l, cat_i, cat_r, iOK_1, iOK_5, jOK_2, jOK_6, wOK_e, lOK_1, lOK_2, lOK_3, lOK_4, catS_0, catS_1, catS_2, catS_3, catS_4, and_self, true_and, and_true, true_or, or_true, false_or, or_false, not_true_eq_false, not_false_eq_true, if_true, if_false, ite_int, ite_int0, au_10, eq_self, h5, h6 i hi2, M_isSign hb hh.1, M_no3, if_neg (nI_ge hi2 (by omega)), nI_clamp (show i < 2 ^ 31 by omega)]
          refine ⟨vp_in_nI (by omega) (by decide), ?_⟩
          by_cases ho : okS (σ.1 b).N (iI (r.getD i 0))
          · rw [ifT ho]
            simp only [aw_iload_2 (pc2 := 62) D201_61 rfl, aw_aload_0 (pc2 := 63) D201_62 rfl, aw_getR (pc2 := 66) (ci := 7) (fk := 46) D201_63 rfl fT_7_137 rfl, aw_iload_3 (pc2 := 67) D201_66 rfl, aw_iaload (pc2 := 68) D201_67 rfl, aw_is1_2 (pc2 := 71) D201_68 rfl cT_7_170 rfl, aw_ior (pc2 := 72) D201_71 rfl, aw_istore_2 (pc2 := 73) D201_72 rfl, aw_iinc_3 (pc2 := 76) (y := 1) D201_73 rfl (by decide), aw_goto (t := 32) D201_76 (by decide), sh_122, rf_122_46, sh_163, refV_s, refV_n, psh_s, psh_n, kil_i, kil_r, kil_n, kil_l, cat_i, cat_r, iOK_1, iOK_5, jOK_2, jOK_6, wOK_e, lOK_1, lOK_2, lOK_3, lOK_4, catS_0, catS_1, catS_2, catS_3, catS_4, and_self, true_and, and_true, true_or, or_true, false_or, or_false, not_true_eq_false, not_false_eq_true, if_true, if_false, ite_int, ite_int0, au_10, eq_self, h6 i hi2, M_bitOf, (row_sgn hN hm.1 hm.2.1 ho).2, nI_clamp (show i < 2 ^ 31 by omega), fa_or, nI_1]
            refine ⟨vp_in_nI (by omega) (by decide), ?_⟩
            exact ih (i + 1) (by omega) (fun j hj2 => by
              by_cases e : j = i
              · rw [e]; exact ho
              · exact hj j (by omega))
          · rw [if_neg ho]
            rw [if_neg (fun q => ho (q i hi2))] at hk
            exact hk.ref h (by omega) (by omega)
      exact key r.length 0 (by omega) (fun j hj => absurd hj (Nat.not_lt_zero _))
end Give
