section OpsMG
variable {d Ln : Nat} {I : IT} {J : JT} {K : KT} {σ : SG}
/-- the model's cell of letters that were seen is written -/
theorem MInv.tmp2 {I I' : IT} (h : MInv σ I) (ho : ∀ c, c ≠ 162 → I' c = I c) : MInv σ I' := by
  obtain ⟨h1, h3, h4, h5⟩ := h
  refine ⟨fun b hb => ?_, ?_, fun k a b => by rw [ho 130 (by omega)]; exact h4 k a b, by rw [ho 122 (by omega)]; exact h5⟩
  · have := h1 b hb
    unfold MB MGo MG at this ⊢
    simp only [ho 123 (by omega), ho 124 (by omega), ho 125 (by omega), ho 126 (by omega), ho 127 (by omega), ho 128 (by omega), ho 129 (by omega), ho 131 (by omega), ho 132 (by omega), ho 133 (by omega), ho 134 (by omega), ho 135 (by omega), ho 136 (by omega), ho 137 (by omega), ho 138 (by omega), ho 159 (by omega), ho 161 (by omega)]
    exact this
  · rw [ho 122 (by omega), ho 163 (by omega)]; exact h3
theorem ct_add1 {p q : Nat → Bool} {v n : Nat} (hv : v < n) (h0 : p v = false) (h : ∀ k, k < n → q k = (p k || decide (k = v))) : fb_ct q n = fb_ct p n + 1 := by
  have e := fb_ct_upd p true hv
  rw [h0, if_neg (by decide), if_pos rfl, Nat.add_zero] at e
  rw [← e]
  refine fb_ct_cong (fun k hk => ?_)
  rw [h k hk]
  by_cases q : k = v
  · simp [q]
  · simp [q]
theorem MO_asked {x : Int32} (hs : sgOK σ) (h : MInv σ I) (hk : MPost Ln I J K (oAsked σ x)) : ACall (d + 7) 194 [.ref 122, .int x] (G0 Ln) I J K := by
  rw [ACall_0 (L0 := [.ref 122, .int x, nv, nv, nv, nv]) (show mcs 194 = (0, 0) from rfl) (show entL 194 [.ref 122, .int x] = _ from rfl) rfl (Nat.le_of_ble_eq_true rfl)]
  unfold oAsked at hk
  cases hx : bkOf x with
  | none =>
    simp only [hx] at hk
    obtain ⟨x0, x1⟩ := bkOf_none hx
    simp only [aw_aload_0 (pc2 := 1) D194_0 rfl, aw_iload_1 (pc2 := 2) D194_1 rfl, aw_iv1_0 (pc2 := 5) (o := 7) D194_2 rfl cT_7_297 rfl rfl, aw_istore_2 (pc2 := 6) D194_5 rfl, aw_iload_2 (pc2 := 7) D194_6 rfl, aw_if_eq (pc2 := 10) (t := 16) D194_7 (by decide) rfl, aw_aload_0 (pc2 := 11) D194_10 rfl, aw_iload_2 (pc2 := 12) D194_11 rfl, aw_iv1_0 (pc2 := 15) (o := 7) D194_12 rfl cT_7_154 rfl rfl, aw_iret D194_15 rfl, sh_122, rf_122_0, sh_123, rf_122_3, sh_126, lit_4096, rf_122_45, sh_162, refV_s, refV_n, psh_s, psh_n, kil_i, kil_r, kil_n, kil_l, cat_i, cat_r, iOK_1, iOK_5, jOK_2, jOK_6, wOK_e, lOK_1, lOK_2, lOK_3, lOK_4, lOK_5, lOK_6, catS_0, catS_1, catS_2, catS_3, catS_4, and_self, true_and, and_true, true_or, or_true, false_or, or_false, not_true_eq_false, not_false_eq_true, if_true, if_false, ite_int, ite_int0, au_10, eq_self, decide_true, decide_false, Bool.true_and, Bool.false_and, M_whyG3 x0 x1, M_no3, au_n3]
    exact hk.ref h (by omega) (by omega)
  | some b =>
    simp only [hx] at hk
    obtain ⟨hb, rfl⟩ := bkOf_some hx
    have hbk := hs.1 b hb
    have hN := hbk.2.1
    have hak := ak_lt hs hb
    obtain ⟨-, -, -, -, -, w6, w7, -⟩ := wN_all (σ.1 b).N (by omega)
    have hg := (h.1 b hb).2.2.2.2.2.2.2
    unfold MGo at hg
    cases e : (σ.1 b).g with
    | none =>
      rw [e] at hg
      simp only [e] at hk
      simp only [aw_aload_0 (pc2 := 1) D194_0 rfl, aw_iload_1 (pc2 := 2) D194_1 rfl, aw_iv1_0 (pc2 := 5) (o := 7) D194_2 rfl cT_7_297 rfl rfl, aw_istore_2 (pc2 := 6) D194_5 rfl, aw_iload_2 (pc2 := 7) D194_6 rfl, aw_if_eq (pc2 := 10) (t := 16) D194_7 (by decide) rfl, aw_aload_0 (pc2 := 11) D194_10 rfl, aw_iload_2 (pc2 := 12) D194_11 rfl, aw_iv1_0 (pc2 := 15) (o := 7) D194_12 rfl cT_7_154 rfl rfl, aw_iret D194_15 rfl, sh_122, rf_122_0, sh_123, rf_122_3, sh_126, lit_4096, rf_122_45, sh_162, refV_s, refV_n, psh_s, psh_n, kil_i, kil_r, kil_n, kil_l, cat_i, cat_r, iOK_1, iOK_5, jOK_2, jOK_6, wOK_e, lOK_1, lOK_2, lOK_3, lOK_4, lOK_5, lOK_6, catS_0, catS_1, catS_2, catS_3, catS_4, and_self, true_and, and_true, true_or, or_true, false_or, or_false, not_true_eq_false, not_false_eq_true, if_true, if_false, ite_int, ite_int0, au_10, eq_self, decide_true, decide_false, Bool.true_and, Bool.false_and, M_whyG2 hb hg, M_no2, au_n2]
      exact hk.ref h (by omega) (by omega)
    | some g =>
      rw [e] at hg
      simp only [e] at hk
      simp only [aw_aload_0 (pc2 := 1) D194_0 rfl, aw_iload_1 (pc2 := 2) D194_1 rfl, aw_iv1_0 (pc2 := 5) (o := 7) D194_2 rfl cT_7_297 rfl rfl, sh_122, rf_122_0, sh_123, rf_122_3, sh_126, lit_4096, rf_122_45, sh_162, refV_s, refV_n, psh_s, psh_n, kil_i, kil_r, kil_n, kil_l, cat_i, cat_r, iOK_1, iOK_5, jOK_2, jOK_6, wOK_e, lOK_1, lOK_2, lOK_3, lOK_4, lOK_5, lOK_6, catS_0, catS_1, catS_2, catS_3, catS_4, and_self, true_and, and_true, true_or, or_true, false_or, or_false, not_true_eq_false, not_false_eq_true, if_true, if_false, ite_int, ite_int0, au_10, eq_self, decide_true, decide_false, Bool.true_and, Bool.false_and]
      refine M_whyG hb hs h e (fun I1 c1 f1 hl => ?_)
      have hf : FrM I I1 := fun c hc => f1 c (by omega) (by omega) (by omega)
      have hh := c1.1 b hb
      simp only [aw_istore_2 (pc2 := 6) D194_5 rfl, aw_iload_2 (pc2 := 7) D194_6 rfl, aw_if_eq (pc2 := 10) (t := 16) D194_7 (by decide) rfl, aw_aload_0 (pc2 := 11) D194_10 rfl, aw_iload_2 (pc2 := 12) D194_11 rfl, aw_iv1_0 (pc2 := 15) (o := 7) D194_12 rfl cT_7_154 rfl rfl, aw_iret D194_15 rfl, aw_iconst (pc2 := 17) (y := 0) D194_16 rfl (by decide), aw_istore_3 (pc2 := 18) D194_17 rfl, aw_iconst (pc2 := 19) (y := 1) D194_18 rfl (by decide), aw_istore_4 (pc2 := 21) D194_19 rfl, sh_122, rf_122_0, sh_123, rf_122_3, sh_126, lit_4096, rf_122_45, sh_162, refV_s, refV_n, psh_s, psh_n, kil_i, kil_r, kil_n, kil_l, cat_i, cat_r, iOK_1, iOK_5, jOK_2, jOK_6, wOK_e, lOK_1, lOK_2, lOK_3, lOK_4, lOK_5, lOK_6, catS_0, catS_1, catS_2, catS_3, catS_4, and_self, true_and, and_true, true_or, or_true, false_or, or_false, not_true_eq_false, not_false_eq_true, if_true, if_false, ite_int, ite_int0, au_10, eq_self, decide_true, decide_false, Bool.true_and, Bool.false_and]
      have hm := mskA_lt (σ.1 b).N (σ.1 b).ak (σ.1 b).N (Nat.le_refl _)
      have k1 : ∀ n l, l + n = (σ.1 b).N → AW (d + 6) ((G0 Ln).1, (G0 Ln).2.1) K 194 73 [.ref 122, .int (nI b), .int 0, .int (nI (mskA (σ.1 b).N (σ.1 b).ak (σ.1 b).N)), .int (nI ((σ.1 b).N + 1)), nv] [] (G0 Ln) I1 J → AW (d + 6) ((G0 Ln).1, (G0 Ln).2.1) K 194 21 [.ref 122, .int (nI b), .int 0, .int (nI (mskA (σ.1 b).N (σ.1 b).ak l)), .int (nI (l + 1)), nv] [] (G0 Ln) I1 J := by
        intro n
        induction n with
        | zero =>
          intro l hl2 hend
          have el : l = (σ.1 b).N := by omega
          rw [el]
          simp (disch := omega) only [aw_iload_4 (pc2 := 23) D194_21 rfl, aw_aload_0 (pc2 := 24) D194_23 rfl, aw_getR (pc2 := 27) (ci := 7) (fk := 0) D194_24 rfl fT_7_7 rfl, aw_iload_1 (pc2 := 28) D194_27 rfl, aw_iaload (pc2 := 29) D194_28 rfl, aw_icmp_gt (pc2 := 32) (t := 73) D194_29 (by decide) rfl, sh_122, rf_122_0, sh_123, rf_122_3, sh_126, lit_4096, rf_122_45, sh_162, refV_s, refV_n, psh_s, psh_n, kil_i, kil_r, kil_n, kil_l, cat_i, cat_r, iOK_1, iOK_5, jOK_2, jOK_6, wOK_e, lOK_1, lOK_2, lOK_3, lOK_4, lOK_5, lOK_6, catS_0, catS_1, catS_2, catS_3, catS_4, and_self, true_and, and_true, true_or, or_true, false_or, or_false, not_true_eq_false, not_false_eq_true, if_true, if_false, ite_int, ite_int0, au_10, eq_self, decide_true, decide_false, Bool.true_and, Bool.false_and, au_in, au_le, au_lt, au_eq, au_lt0, au_ge0, au_le0, au_gt0, au_eq0, au_leT, au_leF, au_ltT, au_ltF, au_eqT, au_eqF, nI_clamp, nI_1, nI_add, pk_mul, au_sub1, au_subc, au_up2e, au_up2n, lit_of, hh.1]
          exact hend
        | succ n ih =>
          intro l hl2 hend
          have ihn := ih (l + 1) (by omega) hend
          rw [mskA] at ihn
          rw [aw_iload_4 (pc2 := 23) D194_21 rfl]
          simp (disch := omega) only [aw_aload_0 (pc2 := 24) D194_23 rfl, aw_getR (pc2 := 27) (ci := 7) (fk := 0) D194_24 rfl fT_7_7 rfl, aw_iload_1 (pc2 := 28) D194_27 rfl, aw_iaload (pc2 := 29) D194_28 rfl, aw_icmp_gt (pc2 := 32) (t := 73) D194_29 (by decide) rfl, aw_iload_3 (pc2 := 33) D194_32 rfl, aw_aload_0 (pc2 := 34) D194_33 rfl, aw_getR (pc2 := 37) (ci := 7) (fk := 3) D194_34 rfl fT_7_19 rfl, aw_iload_1 (pc2 := 38) D194_37 rfl, aw_iaload (pc2 := 39) D194_38 rfl, aw_iload_4 (pc2 := 41) D194_39 rfl, aw_iconst (pc2 := 42) (y := 1) D194_41 rfl (by decide), aw_isub (pc2 := 43) D194_42 rfl, aw_ishr (pc2 := 44) D194_43 rfl, aw_iconst (pc2 := 45) (y := 1) D194_44 rfl (by decide), aw_iand (pc2 := 46) D194_45 rfl, aw_iconst (pc2 := 47) (y := 1) D194_46 rfl (by decide), aw_icmp_ne (pc2 := 50) (t := 64) D194_47 (by decide) rfl, sh_122, rf_122_0, sh_123, rf_122_3, sh_126, lit_4096, rf_122_45, sh_162, refV_s, refV_n, psh_s, psh_n, kil_i, kil_r, kil_n, kil_l, cat_i, cat_r, iOK_1, iOK_5, jOK_2, jOK_6, wOK_e, lOK_1, lOK_2, lOK_3, lOK_4, lOK_5, lOK_6, catS_0, catS_1, catS_2, catS_3, catS_4, and_self, true_and, and_true, true_or, or_true, false_or, or_false, not_true_eq_false, not_false_eq_true, if_true, if_false, ite_int, ite_int0, au_10, eq_self, decide_true, decide_false, Bool.true_and, Bool.false_and, au_in, au_le, au_lt, au_eq, au_lt0, au_ge0, au_le0, au_gt0, au_eq0, au_leT, au_leF, au_ltT, au_ltF, au_eqT, au_eqF, nI_clamp, nI_1, nI_add, pk_mul, au_sub1, au_subc, au_up2e, au_up2n, lit_of, hh.1, hh.2.2.2.1, shr_bit, Nat.add_sub_cancel, nI_bit1]
          cases t : (σ.1 b).ak.testBit l
          · rw [t, if_neg (by decide), Nat.or_zero] at ihn
            rw [if_pos (by decide)]
            have z0 : ∀ a, nI a ||| 0 = nI a := fun a => by rw [← nI_0, fa_or, Nat.or_zero]
            simp (disch := omega) only [aw_iconst (pc2 := 65) (y := 0) D194_64 rfl (by decide), aw_ior (pc2 := 66) D194_65 rfl, aw_istore_3 (pc2 := 67) D194_66 rfl, aw_iinc_4 (pc2 := 70) (y := 1) D194_67 rfl (by decide), aw_goto (t := 21) D194_70 (by decide), sh_122, rf_122_0, sh_123, rf_122_3, sh_126, lit_4096, rf_122_45, sh_162, refV_s, refV_n, psh_s, psh_n, kil_i, kil_r, kil_n, kil_l, cat_i, cat_r, iOK_1, iOK_5, jOK_2, jOK_6, wOK_e, lOK_1, lOK_2, lOK_3, lOK_4, lOK_5, lOK_6, catS_0, catS_1, catS_2, catS_3, catS_4, and_self, true_and, and_true, true_or, or_true, false_or, or_false, not_true_eq_false, not_false_eq_true, if_true, if_false, ite_int, ite_int0, au_10, eq_self, decide_true, decide_false, Bool.true_and, Bool.false_and, au_in, au_le, au_lt, au_eq, au_lt0, au_ge0, au_le0, au_gt0, au_eq0, au_leT, au_leF, au_ltT, au_ltF, au_eqT, au_eqF, nI_clamp, nI_1, nI_add, pk_mul, au_sub1, au_subc, au_up2e, au_up2n, lit_of, z0]
            exact ihn
          · rw [t, if_pos rfl] at ihn
            rw [if_neg (by decide)]
            simp (disch := omega) only [aw_iconst (pc2 := 51) (y := 1) D194_50 rfl (by decide), aw_aload_0 (pc2 := 52) D194_51 rfl, aw_getR (pc2 := 55) (ci := 7) (fk := 0) D194_52 rfl fT_7_7 rfl, aw_iload_1 (pc2 := 56) D194_55 rfl, aw_iaload (pc2 := 57) D194_56 rfl, aw_iload_4 (pc2 := 59) D194_57 rfl, aw_isub (pc2 := 60) D194_59 rfl, aw_ishl (pc2 := 61) D194_60 rfl, aw_goto (t := 65) D194_61 (by decide), aw_iconst (pc2 := 65) (y := 0) D194_64 rfl (by decide), aw_ior (pc2 := 66) D194_65 rfl, aw_istore_3 (pc2 := 67) D194_66 rfl, aw_iinc_4 (pc2 := 70) (y := 1) D194_67 rfl (by decide), aw_goto (t := 21) D194_70 (by decide), sh_122, rf_122_0, sh_123, rf_122_3, sh_126, lit_4096, rf_122_45, sh_162, refV_s, refV_n, psh_s, psh_n, kil_i, kil_r, kil_n, kil_l, cat_i, cat_r, iOK_1, iOK_5, jOK_2, jOK_6, wOK_e, lOK_1, lOK_2, lOK_3, lOK_4, lOK_5, lOK_6, catS_0, catS_1, catS_2, catS_3, catS_4, and_self, true_and, and_true, true_or, or_true, false_or, or_false, not_true_eq_false, not_false_eq_true, if_true, if_false, ite_int, ite_int0, au_10, eq_self, decide_true, decide_false, Bool.true_and, Bool.false_and, au_in, au_le, au_lt, au_eq, au_lt0, au_ge0, au_le0, au_gt0, au_eq0, au_leT, au_leF, au_ltT, au_ltF, au_eqT, au_eqF, nI_clamp, nI_1, nI_add, pk_mul, au_sub1, au_subc, au_up2e, au_up2n, lit_of, hh.1, shl1, fa_or]
            exact ihn
      refine k1 (σ.1 b).N 0 (by omega) ?_
      generalize hmk : mskA (σ.1 b).N (σ.1 b).ak (σ.1 b).N = mk at hk hm ⊢
      simp only [aw_iconst (pc2 := 74) (y := 0) D194_73 rfl (by decide), aw_istore_4 (pc2 := 76) D194_74 rfl, sh_122, rf_122_0, sh_123, rf_122_3, sh_126, lit_4096, rf_122_45, sh_162, refV_s, refV_n, psh_s, psh_n, kil_i, kil_r, kil_n, kil_l, cat_i, cat_r, iOK_1, iOK_5, jOK_2, jOK_6, wOK_e, lOK_1, lOK_2, lOK_3, lOK_4, lOK_5, lOK_6, catS_0, catS_1, catS_2, catS_3, catS_4, and_self, true_and, and_true, true_or, or_true, false_or, or_false, not_true_eq_false, not_false_eq_true, if_true, if_false, ite_int, ite_int0, au_10, eq_self, decide_true, decide_false, Bool.true_and, Bool.false_and]
      have k2 : ∀ n i I', i + n = 4096 → (∀ c, c ≠ 162 → I' c = I1 c) → (∀ v, v < i → I' 162 v = 0) → (∀ I'', (∀ c, c ≠ 162 → I'' c = I1 c) → (∀ v, v < 4096 → I'' 162 v = 0) → AW (d + 6) ((G0 Ln).1, (G0 Ln).2.1) K 194 98 [.ref 122, .int (nI b), .int 0, .int (nI mk), .int (nI 4096), nv] [] (G0 Ln) I'' J) → AW (d + 6) ((G0 Ln).1, (G0 Ln).2.1) K 194 76 [.ref 122, .int (nI b), .int 0, .int (nI mk), .int (nI i), nv] [] (G0 Ln) I' J := by
        intro n
        induction n with
        | zero =>
          intro i I' hi ho hz hend
          have ei : i = 4096 := by omega
          rw [ei] at hz ⊢
          simp (disch := omega) only [aw_iload_4 (pc2 := 78) D194_76 rfl, aw_sipush (pc2 := 81) (y := 4096) D194_78 rfl (by decide), aw_icmp_ge (pc2 := 84) (t := 98) D194_81 (by decide) rfl, sh_122, rf_122_0, sh_123, rf_122_3, sh_126, lit_4096, rf_122_45, sh_162, refV_s, refV_n, psh_s, psh_n, kil_i, kil_r, kil_n, kil_l, cat_i, cat_r, iOK_1, iOK_5, jOK_2, jOK_6, wOK_e, lOK_1, lOK_2, lOK_3, lOK_4, lOK_5, lOK_6, catS_0, catS_1, catS_2, catS_3, catS_4, and_self, true_and, and_true, true_or, or_true, false_or, or_false, not_true_eq_false, not_false_eq_true, if_true, if_false, ite_int, ite_int0, au_10, eq_self, decide_true, decide_false, Bool.true_and, Bool.false_and, au_in, au_le, au_lt, au_eq, au_lt0, au_ge0, au_le0, au_gt0, au_eq0, au_leT, au_leF, au_ltT, au_ltF, au_eqT, au_eqF, nI_clamp, nI_1, nI_add, pk_mul, au_sub1, au_subc, au_up2e, au_up2n, lit_of, lit_4096]
          exact hend I' ho hz
        | succ n ih =>
          intro i I' hi ho hz hend
          have ihn := ih (i + 1)
          rw [aw_iload_4 (pc2 := 78) D194_76 rfl]
          simp (disch := omega) only [aw_sipush (pc2 := 81) (y := 4096) D194_78 rfl (by decide), aw_icmp_ge (pc2 := 84) (t := 98) D194_81 (by decide) rfl, aw_aload_0 (pc2 := 85) D194_84 rfl, aw_getR (pc2 := 88) (ci := 7) (fk := 45) D194_85 rfl fT_7_134 rfl, aw_iload_4 (pc2 := 90) D194_88 rfl, aw_iconst (pc2 := 91) (y := 0) D194_90 rfl (by decide), aw_bastore (pc2 := 92) D194_91 rfl, aw_iinc_4 (pc2 := 95) (y := 1) D194_92 rfl (by decide), aw_goto (t := 76) D194_95 (by decide), sh_122, rf_122_0, sh_123, rf_122_3, sh_126, lit_4096, rf_122_45, sh_162, refV_s, refV_n, psh_s, psh_n, kil_i, kil_r, kil_n, kil_l, cat_i, cat_r, iOK_1, iOK_5, jOK_2, jOK_6, wOK_e, lOK_1, lOK_2, lOK_3, lOK_4, lOK_5, lOK_6, catS_0, catS_1, catS_2, catS_3, catS_4, and_self, true_and, and_true, true_or, or_true, false_or, or_false, not_true_eq_false, not_false_eq_true, if_true, if_false, ite_int, ite_int0, au_10, eq_self, decide_true, decide_false, Bool.true_and, Bool.false_and, au_in, au_le, au_lt, au_eq, au_lt0, au_ge0, au_le0, au_gt0, au_eq0, au_leT, au_leF, au_ltT, au_ltF, au_eqT, au_eqF, nI_clamp, nI_1, nI_add, pk_mul, au_sub1, au_subc, au_up2e, au_up2n, lit_of, lit_4096]
          refine ihn _ (by omega) (fun c hc => by rw [au_up2c hc]; exact ho c hc) (fun v hv => ?_) hend
          by_cases ev : v = i
          · simp (disch := omega) only [ev, au_up2e]
          · simp (disch := omega) only [au_up2n]; exact hz v (by omega)
      refine k2 4096 0 I1 (by omega) (fun _ _ => rfl) (fun v hv => absurd hv (Nat.not_lt_zero _)) (fun I2 ho2 hz2 => ?_)
      simp only [aw_iconst (pc2 := 99) (y := 0) D194_98 rfl (by decide), aw_istore_4 (pc2 := 101) D194_99 rfl, aw_iconst (pc2 := 102) (y := 0) D194_101 rfl (by decide), aw_istore_5 (pc2 := 104) D194_102 rfl, sh_122, rf_122_0, sh_123, rf_122_3, sh_126, lit_4096, rf_122_45, sh_162, refV_s, refV_n, psh_s, psh_n, kil_i, kil_r, kil_n, kil_l, cat_i, cat_r, iOK_1, iOK_5, jOK_2, jOK_6, wOK_e, lOK_1, lOK_2, lOK_3, lOK_4, lOK_5, lOK_6, catS_0, catS_1, catS_2, catS_3, catS_4, and_self, true_and, and_true, true_or, or_true, false_or, or_false, not_true_eq_false, not_false_eq_true, if_true, if_false, ite_int, ite_int0, au_10, eq_self, decide_true, decide_false, Bool.true_and, Bool.false_and]
      have k3 : ∀ n i I', i + n = 2 ^ (σ.1 b).N → (∀ c, c ≠ 162 → I' c = I1 c) → (∀ v, v < 2 ^ (σ.1 b).N → I' 162 v = bI (sv (rowT (σ.1 b) g) mk i v)) → AW (d + 6) ((G0 Ln).1, (G0 Ln).2.1) K 194 104 [.ref 122, .int (nI b), .int 0, .int (nI mk), .int (nI (fb_ct (sv (rowT (σ.1 b) g) mk i) (2 ^ (σ.1 b).N))), .int (nI i)] [] (G0 Ln) I' J := by
        intro n
        induction n with
        | zero =>
          intro i I' hi ho hz
          have ei : i = 2 ^ (σ.1 b).N := by omega
          rw [ei]
          simp (disch := omega) only [aw_iload_5 (pc2 := 106) D194_104 rfl, aw_iconst (pc2 := 107) (y := 1) D194_106 rfl (by decide), aw_aload_0 (pc2 := 108) D194_107 rfl, aw_getR (pc2 := 111) (ci := 7) (fk := 0) D194_108 rfl fT_7_7 rfl, aw_iload_1 (pc2 := 112) D194_111 rfl, aw_iaload (pc2 := 113) D194_112 rfl, aw_ishl (pc2 := 114) D194_113 rfl, aw_icmp_ge (pc2 := 117) (t := 161) D194_114 (by decide) rfl, aw_iload_4 (pc2 := 163) D194_161 rfl, aw_iret D194_163 rfl, sh_122, rf_122_0, sh_123, rf_122_3, sh_126, lit_4096, rf_122_45, sh_162, refV_s, refV_n, psh_s, psh_n, kil_i, kil_r, kil_n, kil_l, cat_i, cat_r, iOK_1, iOK_5, jOK_2, jOK_6, wOK_e, lOK_1, lOK_2, lOK_3, lOK_4, lOK_5, lOK_6, catS_0, catS_1, catS_2, catS_3, catS_4, and_self, true_and, and_true, true_or, or_true, false_or, or_false, not_true_eq_false, not_false_eq_true, if_true, if_false, ite_int, ite_int0, au_10, eq_self, decide_true, decide_false, Bool.true_and, Bool.false_and, au_in, au_le, au_lt, au_eq, au_lt0, au_ge0, au_le0, au_gt0, au_eq0, au_leT, au_leF, au_ltT, au_ltF, au_eqT, au_eqF, nI_clamp, nI_1, nI_add, pk_mul, au_sub1, au_subc, au_up2e, au_up2n, lit_of, ho 123 (by omega), hh.1, shl1]
          exact hk I' J (c1.tmp2 ho) (fun c hc => by rw [ho c (by omega)]; exact hf c hc) FrM.rf
        | succ n ih =>
          intro i I' hi ho hz
          have hi2 : i < 2 ^ (σ.1 b).N := by omega
          have ihn := ih (i + 1)
          have him : i &&& mk < 2 ^ (σ.1 b).N := Nat.lt_of_le_of_lt Nat.and_le_left hi2
          have hl' : ∀ r, r < 2 ^ (σ.1 b).N → I' 159 (4096 * b + r) = bI (sayR (σ.1 b).N g r) := fun r hr => by rw [ho 159 (by omega)]; exact hl r hr
          have hsv : ∀ v, sv (rowT (σ.1 b) g) mk (i + 1) v = (sv (rowT (σ.1 b) g) mk i v || (rowT (σ.1 b) g i && decide (v = i &&& mk))) := fun v => rfl
          rw [aw_iload_5 (pc2 := 106) D194_104 rfl]
          simp (disch := omega) only [aw_iconst (pc2 := 107) (y := 1) D194_106 rfl (by decide), aw_aload_0 (pc2 := 108) D194_107 rfl, aw_getR (pc2 := 111) (ci := 7) (fk := 0) D194_108 rfl fT_7_7 rfl, aw_iload_1 (pc2 := 112) D194_111 rfl, aw_iaload (pc2 := 113) D194_112 rfl, aw_ishl (pc2 := 114) D194_113 rfl, aw_icmp_ge (pc2 := 117) (t := 161) D194_114 (by decide) rfl, aw_aload_0 (pc2 := 118) D194_117 rfl, aw_iload_1 (pc2 := 119) D194_118 rfl, aw_iload_5 (pc2 := 121) D194_119 rfl, aw_iv2_0 (pc2 := 124) (o := 7) D194_121 rfl cT_7_294 rfl rfl, aw_if_eq (pc2 := 127) (t := 155) D194_124 (by decide) rfl, sh_122, rf_122_0, sh_123, rf_122_3, sh_126, lit_4096, rf_122_45, sh_162, refV_s, refV_n, psh_s, psh_n, kil_i, kil_r, kil_n, kil_l, cat_i, cat_r, iOK_1, iOK_5, jOK_2, jOK_6, wOK_e, lOK_1, lOK_2, lOK_3, lOK_4, lOK_5, lOK_6, catS_0, catS_1, catS_2, catS_3, catS_4, and_self, true_and, and_true, true_or, or_true, false_or, or_false, not_true_eq_false, not_false_eq_true, if_true, if_false, ite_int, ite_int0, au_10, eq_self, decide_true, decide_false, Bool.true_and, Bool.false_and, au_in, au_le, au_lt, au_eq, au_lt0, au_ge0, au_le0, au_gt0, au_eq0, au_leT, au_leF, au_ltT, au_ltF, au_eqT, au_eqF, nI_clamp, nI_1, nI_add, pk_mul, au_sub1, au_subc, au_up2e, au_up2n, lit_of, ho 123 (by omega), hh.1, shl1, M_isRow hb hs (c1.tmp2 ho) hl' hi2, bI_0]
          cases t : rowT (σ.1 b) g i
          · have esv : sv (rowT (σ.1 b) g) mk (i + 1) = sv (rowT (σ.1 b) g) mk i := by
              funext v
              rw [hsv, t]
              simp
            rw [esv] at ihn
            rw [if_pos rfl]
            simp (disch := omega) only [aw_iinc_5 (pc2 := 158) (y := 1) D194_155 rfl (by decide), aw_goto (t := 104) D194_158 (by decide), sh_122, rf_122_0, sh_123, rf_122_3, sh_126, lit_4096, rf_122_45, sh_162, refV_s, refV_n, psh_s, psh_n, kil_i, kil_r, kil_n, kil_l, cat_i, cat_r, iOK_1, iOK_5, jOK_2, jOK_6, wOK_e, lOK_1, lOK_2, lOK_3, lOK_4, lOK_5, lOK_6, catS_0, catS_1, catS_2, catS_3, catS_4, and_self, true_and, and_true, true_or, or_true, false_or, or_false, not_true_eq_false, not_false_eq_true, if_true, if_false, ite_int, ite_int0, au_10, eq_self, decide_true, decide_false, Bool.true_and, Bool.false_and, au_in, au_le, au_lt, au_eq, au_lt0, au_ge0, au_le0, au_gt0, au_eq0, au_leT, au_leF, au_ltT, au_ltF, au_eqT, au_eqF, nI_clamp, nI_1, nI_add, pk_mul, au_sub1, au_subc, au_up2e, au_up2n, lit_of]
            exact ihn I' (by omega) ho hz
          · rw [if_neg (by decide)]
            simp (disch := omega) only [aw_aload_0 (pc2 := 128) D194_127 rfl, aw_getR (pc2 := 131) (ci := 7) (fk := 45) D194_128 rfl fT_7_134 rfl, aw_iload_5 (pc2 := 133) D194_131 rfl, aw_iload_3 (pc2 := 134) D194_133 rfl, aw_iand (pc2 := 135) D194_134 rfl, aw_baload (pc2 := 136) D194_135 rfl, aw_if_eq (pc2 := 139) (t := 142) D194_136 (by decide) rfl, sh_122, rf_122_0, sh_123, rf_122_3, sh_126, lit_4096, rf_122_45, sh_162, refV_s, refV_n, psh_s, psh_n, kil_i, kil_r, kil_n, kil_l, cat_i, cat_r, iOK_1, iOK_5, jOK_2, jOK_6, wOK_e, lOK_1, lOK_2, lOK_3, lOK_4, lOK_5, lOK_6, catS_0, catS_1, catS_2, catS_3, catS_4, and_self, true_and, and_true, true_or, or_true, false_or, or_false, not_true_eq_false, not_false_eq_true, if_true, if_false, ite_int, ite_int0, au_10, eq_self, decide_true, decide_false, Bool.true_and, Bool.false_and, au_in, au_le, au_lt, au_eq, au_lt0, au_ge0, au_le0, au_gt0, au_eq0, au_leT, au_leF, au_ltT, au_ltF, au_eqT, au_eqF, nI_clamp, nI_1, nI_add, pk_mul, au_sub1, au_subc, au_up2e, au_up2n, lit_of, fa_and, hz _ him, bI_0]
            cases t2 : sv (rowT (σ.1 b) g) mk i (i &&& mk)
            · have ect := ct_add1 him t2 (q := sv (rowT (σ.1 b) g) mk (i + 1)) (fun k _ => by rw [hsv, t, Bool.true_and])
              rw [ect] at ihn
              rw [if_pos rfl]
              simp (disch := omega) only [aw_aload_0 (pc2 := 143) D194_142 rfl, aw_getR (pc2 := 146) (ci := 7) (fk := 45) D194_143 rfl fT_7_134 rfl, aw_iload_5 (pc2 := 148) D194_146 rfl, aw_iload_3 (pc2 := 149) D194_148 rfl, aw_iand (pc2 := 150) D194_149 rfl, aw_iconst (pc2 := 151) (y := 1) D194_150 rfl (by decide), aw_bastore (pc2 := 152) D194_151 rfl, aw_iinc_4 (pc2 := 155) (y := 1) D194_152 rfl (by decide), aw_iinc_5 (pc2 := 158) (y := 1) D194_155 rfl (by decide), aw_goto (t := 104) D194_158 (by decide), sh_122, rf_122_0, sh_123, rf_122_3, sh_126, lit_4096, rf_122_45, sh_162, refV_s, refV_n, psh_s, psh_n, kil_i, kil_r, kil_n, kil_l, cat_i, cat_r, iOK_1, iOK_5, jOK_2, jOK_6, wOK_e, lOK_1, lOK_2, lOK_3, lOK_4, lOK_5, lOK_6, catS_0, catS_1, catS_2, catS_3, catS_4, and_self, true_and, and_true, true_or, or_true, false_or, or_false, not_true_eq_false, not_false_eq_true, if_true, if_false, ite_int, ite_int0, au_10, eq_self, decide_true, decide_false, Bool.true_and, Bool.false_and, au_in, au_le, au_lt, au_eq, au_lt0, au_ge0, au_le0, au_gt0, au_eq0, au_leT, au_leF, au_ltT, au_ltF, au_eqT, au_eqF, nI_clamp, nI_1, nI_add, pk_mul, au_sub1, au_subc, au_up2e, au_up2n, lit_of, fa_and]
              refine ihn _ (by omega) (fun c hc => by rw [au_up2c hc]; exact ho c hc) (fun v hv => ?_)
              by_cases ev : v = i &&& mk
              · simp (disch := omega) only [ev, au_up2e]
                rw [hsv, t]
                simp [bI]
              · simp (disch := omega) only [au_up2n]
                rw [hz v hv, hsv, t]
                simp [ev]
            · have esv : sv (rowT (σ.1 b) g) mk (i + 1) = sv (rowT (σ.1 b) g) mk i := by
                funext v
                rw [hsv, t]
                by_cases ev : v = i &&& mk
                · simp [ev, t2]
                · simp [ev]
              rw [esv] at ihn
              rw [if_neg (by decide)]
              simp (disch := omega) only [aw_goto (t := 155) D194_139 (by decide), aw_iinc_5 (pc2 := 158) (y := 1) D194_155 rfl (by decide), aw_goto (t := 104) D194_158 (by decide), sh_122, rf_122_0, sh_123, rf_122_3, sh_126, lit_4096, rf_122_45, sh_162, refV_s, refV_n, psh_s, psh_n, kil_i, kil_r, kil_n, kil_l, cat_i, cat_r, iOK_1, iOK_5, jOK_2, jOK_6, wOK_e, lOK_1, lOK_2, lOK_3, lOK_4, lOK_5, lOK_6, catS_0, catS_1, catS_2, catS_3, catS_4, and_self, true_and, and_true, true_or, or_true, false_or, or_false, not_true_eq_false, not_false_eq_true, if_true, if_false, ite_int, ite_int0, au_10, eq_self, decide_true, decide_false, Bool.true_and, Bool.false_and, au_in, au_le, au_lt, au_eq, au_lt0, au_ge0, au_le0, au_gt0, au_eq0, au_leT, au_leF, au_ltT, au_ltF, au_eqT, au_eqF, nI_clamp, nI_1, nI_add, pk_mul, au_sub1, au_subc, au_up2e, au_up2n, lit_of]
              exact ihn I' (by omega) ho hz
      have k30 := k3 (2 ^ (σ.1 b).N) 0 I2 (by omega) ho2 (fun v hv => by rw [hz2 v (by omega)]; rfl)
      have ez : fb_ct (sv (rowT (σ.1 b) g) mk 0) (2 ^ (σ.1 b).N) = 0 := fb_ct_zero.mpr (fun _ _ => rfl)
      rw [ez] at k30
      exact k30
theorem MO_less {other : Bool} (hs : sgOK σ) (h : MInv σ I) (hk : MPost Ln I J K (oLess σ other)) : ACall (d + 7) 195 [.ref 122, .int (bI other)] (G0 Ln) I J K := by
  rw [ACall_0 (L0 := [.ref 122, .int (bI other), nv, nv]) (show mcs 195 = (0, 0) from rfl) (show entL 195 [.ref 122, .int (bI other)] = _ from rfl) rfl (Nat.le_of_ble_eq_true rfl)]
  unfold oLess at hk
  have v0 : vp_in 0 2 := vp_in_nI (n := 0) (by decide) (by decide)
  have v1 : vp_in 1 2 := vp_in_nI (n := 1) (by decide) (by decide)
  have c0 : (0 : Int32).toNatClampNeg = 0 := by decide
  have c1 : (1 : Int32).toNatClampNeg = 1 := by decide
  have h0 : MB 0 (σ.1 0) I := h.1 0 (by omega)
  have h1 : MB 1 (σ.1 1) I := h.1 1 (by omega)
  have hN0 := (hs.1 0 (by omega)).2.1
  have hN1 := (hs.1 1 (by omega)).2.1
  obtain ⟨-, -, -, -, -, w6, w7, -⟩ := wN_all (σ.1 0).N (by omega)
  have hg0 := h0.2.2.2.2.2.2.2
  have hg1 := h1.2.2.2.2.2.2.2
  unfold MGo at hg0 hg1
  cases e0 : (σ.1 0).g with
  | none =>
    rw [e0] at hg0
    simp only [e0] at hk
    simp (disch := omega) only [aw_aload_0 (pc2 := 1) D195_0 rfl, aw_getR (pc2 := 4) (ci := 7) (fk := 8) D195_1 rfl fT_7_34 rfl, aw_iconst (pc2 := 5) (y := 0) D195_4 rfl (by decide), aw_iaload (pc2 := 6) D195_5 rfl, aw_if_eq (pc2 := 9) (t := 18) D195_6 (by decide) rfl, aw_aload_0 (pc2 := 10) D195_9 rfl, aw_getR (pc2 := 13) (ci := 7) (fk := 8) D195_10 rfl fT_7_34 rfl, aw_iconst (pc2 := 14) (y := 1) D195_13 rfl (by decide), aw_iaload (pc2 := 15) D195_14 rfl, aw_if_ne (pc2 := 18) (t := 25) D195_15 (by decide) rfl, aw_aload_0 (pc2 := 19) D195_18 rfl, aw_bipush (pc2 := 21) (y := -2) D195_19 rfl (by decide), aw_iv1_0 (pc2 := 24) (o := 7) D195_21 rfl cT_7_154 rfl rfl, aw_iret D195_24 rfl, sh_122, rf_122_8, sh_131, rf_122_0, sh_123, refV_s, refV_n, psh_s, psh_n, kil_i, kil_r, kil_n, kil_l, cat_i, cat_r, iOK_1, iOK_5, jOK_2, jOK_6, wOK_e, lOK_1, lOK_2, lOK_3, lOK_4, lOK_5, lOK_6, catS_0, catS_1, catS_2, catS_3, catS_4, and_self, true_and, and_true, true_or, or_true, false_or, or_false, not_true_eq_false, not_false_eq_true, if_true, if_false, ite_int, ite_int0, au_10, eq_self, decide_true, decide_false, Bool.true_and, Bool.false_and, au_in, au_le, au_lt, au_eq, au_lt0, au_ge0, au_le0, au_gt0, au_eq0, au_leT, au_leF, au_ltT, au_ltF, au_eqT, au_eqF, nI_clamp, nI_1, nI_add, pk_mul, au_sub1, au_subc, au_up2e, au_up2n, lit_of, v0, v1, c0, c1, hg0, M_no2]
    exact hk.ref h (by omega) (by omega)
  | some g0 =>
    rw [e0] at hg0
    simp only [e0] at hk
    have q0 := gr_get hs (by omega) e0
    have q02 := q0.1
    have q015 := q0.2.1
    cases e1 : (σ.1 1).g with
    | none =>
      rw [e1] at hg1
      simp only [e1] at hk
      simp (disch := omega) only [aw_aload_0 (pc2 := 1) D195_0 rfl, aw_getR (pc2 := 4) (ci := 7) (fk := 8) D195_1 rfl fT_7_34 rfl, aw_iconst (pc2 := 5) (y := 0) D195_4 rfl (by decide), aw_iaload (pc2 := 6) D195_5 rfl, aw_if_eq (pc2 := 9) (t := 18) D195_6 (by decide) rfl, aw_aload_0 (pc2 := 10) D195_9 rfl, aw_getR (pc2 := 13) (ci := 7) (fk := 8) D195_10 rfl fT_7_34 rfl, aw_iconst (pc2 := 14) (y := 1) D195_13 rfl (by decide), aw_iaload (pc2 := 15) D195_14 rfl, aw_if_ne (pc2 := 18) (t := 25) D195_15 (by decide) rfl, aw_aload_0 (pc2 := 19) D195_18 rfl, aw_bipush (pc2 := 21) (y := -2) D195_19 rfl (by decide), aw_iv1_0 (pc2 := 24) (o := 7) D195_21 rfl cT_7_154 rfl rfl, aw_iret D195_24 rfl, sh_122, rf_122_8, sh_131, rf_122_0, sh_123, refV_s, refV_n, psh_s, psh_n, kil_i, kil_r, kil_n, kil_l, cat_i, cat_r, iOK_1, iOK_5, jOK_2, jOK_6, wOK_e, lOK_1, lOK_2, lOK_3, lOK_4, lOK_5, lOK_6, catS_0, catS_1, catS_2, catS_3, catS_4, and_self, true_and, and_true, true_or, or_true, false_or, or_false, not_true_eq_false, not_false_eq_true, if_true, if_false, ite_int, ite_int0, au_10, eq_self, decide_true, decide_false, Bool.true_and, Bool.false_and, au_in, au_le, au_lt, au_eq, au_lt0, au_ge0, au_le0, au_gt0, au_eq0, au_leT, au_leF, au_ltT, au_ltF, au_eqT, au_eqF, nI_clamp, nI_1, nI_add, pk_mul, au_sub1, au_subc, au_up2e, au_up2n, lit_of, v0, v1, c0, c1, hg0.1, hg1, M_no2]
      exact hk.ref h (by omega) (by omega)
    | some g1 =>
      rw [e1] at hg1
      simp only [e1] at hk
      have q1 := gr_get hs (by omega) e1
      have q12 := q1.1
      have q115 := q1.2.1
      by_cases hn : (σ.1 0).N = (σ.1 1).N
      · rw [if_pos hn] at hk
        simp (disch := omega) only [aw_aload_0 (pc2 := 1) D195_0 rfl, aw_getR (pc2 := 4) (ci := 7) (fk := 8) D195_1 rfl fT_7_34 rfl, aw_iconst (pc2 := 5) (y := 0) D195_4 rfl (by decide), aw_iaload (pc2 := 6) D195_5 rfl, aw_if_eq (pc2 := 9) (t := 18) D195_6 (by decide) rfl, aw_aload_0 (pc2 := 10) D195_9 rfl, aw_getR (pc2 := 13) (ci := 7) (fk := 8) D195_10 rfl fT_7_34 rfl, aw_iconst (pc2 := 14) (y := 1) D195_13 rfl (by decide), aw_iaload (pc2 := 15) D195_14 rfl, aw_if_ne (pc2 := 18) (t := 25) D195_15 (by decide) rfl, aw_aload_0 (pc2 := 19) D195_18 rfl, aw_bipush (pc2 := 21) (y := -2) D195_19 rfl (by decide), aw_iv1_0 (pc2 := 24) (o := 7) D195_21 rfl cT_7_154 rfl rfl, aw_iret D195_24 rfl, aw_aload_0 (pc2 := 26) D195_25 rfl, aw_getR (pc2 := 29) (ci := 7) (fk := 0) D195_26 rfl fT_7_7 rfl, aw_iconst (pc2 := 30) (y := 0) D195_29 rfl (by decide), aw_iaload (pc2 := 31) D195_30 rfl, aw_aload_0 (pc2 := 32) D195_31 rfl, aw_getR (pc2 := 35) (ci := 7) (fk := 0) D195_32 rfl fT_7_7 rfl, aw_iconst (pc2 := 36) (y := 1) D195_35 rfl (by decide), aw_iaload (pc2 := 37) D195_36 rfl, aw_icmp_eq (pc2 := 40) (t := 47) D195_37 (by decide) rfl, aw_aload_0 (pc2 := 41) D195_40 rfl, aw_bipush (pc2 := 43) (y := -7) D195_41 rfl (by decide), aw_iv1_0 (pc2 := 46) (o := 7) D195_43 rfl cT_7_154 rfl rfl, aw_iret D195_46 rfl, aw_aload_0 (pc2 := 48) D195_47 rfl, aw_iconst (pc2 := 49) (y := 0) D195_48 rfl (by decide), aw_iv1_0 (pc2 := 52) (o := 7) D195_49 rfl cT_7_282 rfl rfl, sh_122, rf_122_8, sh_131, rf_122_0, sh_123, refV_s, refV_n, psh_s, psh_n, kil_i, kil_r, kil_n, kil_l, cat_i, cat_r, iOK_1, iOK_5, jOK_2, jOK_6, wOK_e, lOK_1, lOK_2, lOK_3, lOK_4, lOK_5, lOK_6, catS_0, catS_1, catS_2, catS_3, catS_4, and_self, true_and, and_true, true_or, or_true, false_or, or_false, not_true_eq_false, not_false_eq_true, if_true, if_false, ite_int, ite_int0, au_10, eq_self, decide_true, decide_false, Bool.true_and, Bool.false_and, au_in, au_le, au_lt, au_eq, au_lt0, au_ge0, au_le0, au_gt0, au_eq0, au_leT, au_leF, au_ltT, au_ltF, au_eqT, au_eqF, nI_clamp, nI_1, nI_add, pk_mul, au_sub1, au_subc, au_up2e, au_up2n, lit_of, v0, v1, c0, c1, hg0.1, hg1.1, h0.1, h1.1]
        refine M_lays (b := 0) (by omega) hs h e0 (fun I1 a1 a2 a3 _ _ => ?_)
        simp only [aw_aload_0 (pc2 := 53) D195_52 rfl, aw_iconst (pc2 := 54) (y := 1) D195_53 rfl (by decide), aw_iv1_0 (pc2 := 57) (o := 7) D195_54 rfl cT_7_282 rfl rfl, sh_122, rf_122_8, sh_131, rf_122_0, sh_123, refV_s, refV_n, psh_s, psh_n, kil_i, kil_r, kil_n, kil_l, cat_i, cat_r, iOK_1, iOK_5, jOK_2, jOK_6, wOK_e, lOK_1, lOK_2, lOK_3, lOK_4, lOK_5, lOK_6, catS_0, catS_1, catS_2, catS_3, catS_4, and_self, true_and, and_true, true_or, or_true, false_or, or_false, not_true_eq_false, not_false_eq_true, if_true, if_false, ite_int, ite_int0, au_10, eq_self, decide_true, decide_false, Bool.true_and, Bool.false_and]
        refine M_lays (b := 1) (by omega) hs a1 e1 (fun I2 b1 b2 b3 _ b5 => ?_)
        have hl0 : ∀ r, r < 2 ^ (σ.1 0).N → I2 159 (4096 * 0 + r) = bI (sayR (σ.1 0).N g0 r) := fun r hr => by rw [b5 _ (by omega)]; exact a3 r hr
        have hf : FrM I I2 := fun c hc => by rw [b2 c (by omega) (by omega) (by omega), a2 c (by omega) (by omega) (by omega)]
        have hh0 := (b1.1 0 (by omega)).1
        have r0 : ∀ {d : Nat} {K' : KT} {r : Nat}, r < 2 ^ (σ.1 0).N → (ACall (d + 2) 179 [.ref 122, .int 0, .int (nI r)] (G0 Ln) I2 J K' ↔ K' (some (.int (bI (rowT (σ.1 0) g0 r)))) (G0 Ln) I2 J) := fun hr => M_isRow (b := 0) (by omega) hs b1 hl0 hr
        have r1 : ∀ {d : Nat} {K' : KT} {r : Nat}, r < 2 ^ (σ.1 0).N → (ACall (d + 2) 179 [.ref 122, .int 1, .int (nI r)] (G0 Ln) I2 J K' ↔ K' (some (.int (bI (rowT (σ.1 1) g1 r)))) (G0 Ln) I2 J) := fun hr => M_isRow (b := 1) (by omega) hs b1 b3 (by rw [← hn]; exact hr)
        simp only [aw_iconst (pc2 := 58) (y := 0) D195_57 rfl (by decide), aw_istore_2 (pc2 := 59) D195_58 rfl, aw_iconst (pc2 := 60) (y := 0) D195_59 rfl (by decide), aw_istore_3 (pc2 := 61) D195_60 rfl, sh_122, rf_122_8, sh_131, rf_122_0, sh_123, refV_s, refV_n, psh_s, psh_n, kil_i, kil_r, kil_n, kil_l, cat_i, cat_r, iOK_1, iOK_5, jOK_2, jOK_6, wOK_e, lOK_1, lOK_2, lOK_3, lOK_4, lOK_5, lOK_6, catS_0, catS_1, catS_2, catS_3, catS_4, and_self, true_and, and_true, true_or, or_true, false_or, or_false, not_true_eq_false, not_false_eq_true, if_true, if_false, ite_int, ite_int0, au_10, eq_self, decide_true, decide_false, Bool.true_and, Bool.false_and]
        cases other
        · have eb : bI false = 0 := rfl
          have key : ∀ n i, i + n = 2 ^ (σ.1 0).N → AW (d + 6) ((G0 Ln).1, (G0 Ln).2.1) K 195 61 [.ref 122, .int 0, .int (nI (fb_ct (fun r => rowT (σ.1 0) g0 r && !rowT (σ.1 1) g1 r) i)), .int (nI i)] [] (G0 Ln) I2 J := by
            intro n
            induction n with
            | zero =>
              intro i hi
              have ei : i = 2 ^ (σ.1 0).N := by omega
              rw [ei]
              simp (disch := omega) only [aw_iload_3 (pc2 := 62) D195_61 rfl, aw_iconst (pc2 := 63) (y := 1) D195_62 rfl (by decide), aw_aload_0 (pc2 := 64) D195_63 rfl, aw_getR (pc2 := 67) (ci := 7) (fk := 0) D195_64 rfl fT_7_7 rfl, aw_iconst (pc2 := 68) (y := 0) D195_67 rfl (by decide), aw_iaload (pc2 := 69) D195_68 rfl, aw_ishl (pc2 := 70) D195_69 rfl, aw_icmp_ge (pc2 := 73) (t := 121) D195_70 (by decide) rfl, aw_iload_2 (pc2 := 122) D195_121 rfl, aw_iret D195_122 rfl, sh_122, rf_122_8, sh_131, rf_122_0, sh_123, refV_s, refV_n, psh_s, psh_n, kil_i, kil_r, kil_n, kil_l, cat_i, cat_r, iOK_1, iOK_5, jOK_2, jOK_6, wOK_e, lOK_1, lOK_2, lOK_3, lOK_4, lOK_5, lOK_6, catS_0, catS_1, catS_2, catS_3, catS_4, and_self, true_and, and_true, true_or, or_true, false_or, or_false, not_true_eq_false, not_false_eq_true, if_true, if_false, ite_int, ite_int0, au_10, eq_self, decide_true, decide_false, Bool.true_and, Bool.false_and, au_in, au_le, au_lt, au_eq, au_lt0, au_ge0, au_le0, au_gt0, au_eq0, au_leT, au_leF, au_ltT, au_ltF, au_eqT, au_eqF, nI_clamp, nI_1, nI_add, pk_mul, au_sub1, au_subc, au_up2e, au_up2n, lit_of, v0, c0, hh0, shl1]
              exact hk I2 J b1 hf FrM.rf
            | succ n ih =>
              intro i hi
              have hi2 : i < 2 ^ (σ.1 0).N := by omega
              have ihn := ih (i + 1) (by omega)
              rw [fb_ct_succ] at ihn
              have z0 : ∀ a, nI a + 0 = nI a := fun a => nI_add a 0
              rw [aw_iload_3 (pc2 := 62) D195_61 rfl]
              simp (disch := omega) only [aw_iconst (pc2 := 63) (y := 1) D195_62 rfl (by decide), aw_aload_0 (pc2 := 64) D195_63 rfl, aw_getR (pc2 := 67) (ci := 7) (fk := 0) D195_64 rfl fT_7_7 rfl, aw_iconst (pc2 := 68) (y := 0) D195_67 rfl (by decide), aw_iaload (pc2 := 69) D195_68 rfl, aw_ishl (pc2 := 70) D195_69 rfl, aw_icmp_ge (pc2 := 73) (t := 121) D195_70 (by decide) rfl, aw_iload_2 (pc2 := 74) D195_73 rfl, aw_aload_0 (pc2 := 75) D195_74 rfl, aw_iload_1 (pc2 := 76) D195_75 rfl, aw_if_eq (pc2 := 79) (t := 83) D195_76 (by decide) rfl, aw_iconst (pc2 := 80) (y := 1) D195_79 rfl (by decide), aw_goto (t := 84) D195_80 (by decide), aw_iconst (pc2 := 84) (y := 0) D195_83 rfl (by decide), aw_iload_3 (pc2 := 85) D195_84 rfl, aw_iv2_0 (pc2 := 88) (o := 7) D195_85 rfl cT_7_294 rfl rfl, aw_if_eq (pc2 := 91) (t := 112) D195_88 (by decide) rfl, sh_122, rf_122_8, sh_131, rf_122_0, sh_123, refV_s, refV_n, psh_s, psh_n, kil_i, kil_r, kil_n, kil_l, cat_i, cat_r, iOK_1, iOK_5, jOK_2, jOK_6, wOK_e, lOK_1, lOK_2, lOK_3, lOK_4, lOK_5, lOK_6, catS_0, catS_1, catS_2, catS_3, catS_4, and_self, true_and, and_true, true_or, or_true, false_or, or_false, not_true_eq_false, not_false_eq_true, if_true, if_false, ite_int, ite_int0, au_10, eq_self, decide_true, decide_false, Bool.true_and, Bool.false_and, au_in, au_le, au_lt, au_eq, au_lt0, au_ge0, au_le0, au_gt0, au_eq0, au_leT, au_leF, au_ltT, au_ltF, au_eqT, au_eqF, nI_clamp, nI_1, nI_add, pk_mul, au_sub1, au_subc, au_up2e, au_up2n, lit_of, v0, c0, hh0, shl1, r0 hi2, bI_0]
              cases t : rowT (σ.1 0) g0 i
              · rw [if_pos rfl]
                simp (disch := omega) only [aw_iconst (pc2 := 113) (y := 0) D195_112 rfl (by decide), aw_iadd (pc2 := 114) D195_113 rfl, aw_istore_2 (pc2 := 115) D195_114 rfl, aw_iinc_3 (pc2 := 118) (y := 1) D195_115 rfl (by decide), aw_goto (t := 61) D195_118 (by decide), sh_122, rf_122_8, sh_131, rf_122_0, sh_123, refV_s, refV_n, psh_s, psh_n, kil_i, kil_r, kil_n, kil_l, cat_i, cat_r, iOK_1, iOK_5, jOK_2, jOK_6, wOK_e, lOK_1, lOK_2, lOK_3, lOK_4, lOK_5, lOK_6, catS_0, catS_1, catS_2, catS_3, catS_4, and_self, true_and, and_true, true_or, or_true, false_or, or_false, not_true_eq_false, not_false_eq_true, if_true, if_false, ite_int, ite_int0, au_10, eq_self, decide_true, decide_false, Bool.true_and, Bool.false_and, au_in, au_le, au_lt, au_eq, au_lt0, au_ge0, au_le0, au_gt0, au_eq0, au_leT, au_leF, au_ltT, au_ltF, au_eqT, au_eqF, nI_clamp, nI_1, nI_add, pk_mul, au_sub1, au_subc, au_up2e, au_up2n, lit_of, z0]
                simpa [t] using ihn
              · rw [if_neg (by decide)]
                simp (disch := omega) only [aw_aload_0 (pc2 := 92) D195_91 rfl, aw_iload_1 (pc2 := 93) D195_92 rfl, aw_if_eq (pc2 := 96) (t := 100) D195_93 (by decide) rfl, aw_iconst (pc2 := 97) (y := 0) D195_96 rfl (by decide), aw_goto (t := 101) D195_97 (by decide), aw_iconst (pc2 := 101) (y := 1) D195_100 rfl (by decide), aw_iload_3 (pc2 := 102) D195_101 rfl, aw_iv2_0 (pc2 := 105) (o := 7) D195_102 rfl cT_7_294 rfl rfl, aw_if_ne (pc2 := 108) (t := 112) D195_105 (by decide) rfl, sh_122, rf_122_8, sh_131, rf_122_0, sh_123, refV_s, refV_n, psh_s, psh_n, kil_i, kil_r, kil_n, kil_l, cat_i, cat_r, iOK_1, iOK_5, jOK_2, jOK_6, wOK_e, lOK_1, lOK_2, lOK_3, lOK_4, lOK_5, lOK_6, catS_0, catS_1, catS_2, catS_3, catS_4, and_self, true_and, and_true, true_or, or_true, false_or, or_false, not_true_eq_false, not_false_eq_true, if_true, if_false, ite_int, ite_int0, au_10, eq_self, decide_true, decide_false, Bool.true_and, Bool.false_and, au_in, au_le, au_lt, au_eq, au_lt0, au_ge0, au_le0, au_gt0, au_eq0, au_leT, au_leF, au_ltT, au_ltF, au_eqT, au_eqF, nI_clamp, nI_1, nI_add, pk_mul, au_sub1, au_subc, au_up2e, au_up2n, lit_of, r1 hi2, bI_0]
                cases t2 : rowT (σ.1 1) g1 i
                · rw [if_neg (by decide)]
                  simp (disch := omega) only [aw_iconst (pc2 := 109) (y := 1) D195_108 rfl (by decide), aw_goto (t := 113) D195_109 (by decide), aw_iconst (pc2 := 113) (y := 0) D195_112 rfl (by decide), aw_iadd (pc2 := 114) D195_113 rfl, aw_istore_2 (pc2 := 115) D195_114 rfl, aw_iinc_3 (pc2 := 118) (y := 1) D195_115 rfl (by decide), aw_goto (t := 61) D195_118 (by decide), sh_122, rf_122_8, sh_131, rf_122_0, sh_123, refV_s, refV_n, psh_s, psh_n, kil_i, kil_r, kil_n, kil_l, cat_i, cat_r, iOK_1, iOK_5, jOK_2, jOK_6, wOK_e, lOK_1, lOK_2, lOK_3, lOK_4, lOK_5, lOK_6, catS_0, catS_1, catS_2, catS_3, catS_4, and_self, true_and, and_true, true_or, or_true, false_or, or_false, not_true_eq_false, not_false_eq_true, if_true, if_false, ite_int, ite_int0, au_10, eq_self, decide_true, decide_false, Bool.true_and, Bool.false_and, au_in, au_le, au_lt, au_eq, au_lt0, au_ge0, au_le0, au_gt0, au_eq0, au_leT, au_leF, au_ltT, au_ltF, au_eqT, au_eqF, nI_clamp, nI_1, nI_add, pk_mul, au_sub1, au_subc, au_up2e, au_up2n, lit_of]
                  simpa [t, t2] using ihn
                · rw [if_pos (by decide)]
                  simp (disch := omega) only [aw_iconst (pc2 := 113) (y := 0) D195_112 rfl (by decide), aw_iadd (pc2 := 114) D195_113 rfl, aw_istore_2 (pc2 := 115) D195_114 rfl, aw_iinc_3 (pc2 := 118) (y := 1) D195_115 rfl (by decide), aw_goto (t := 61) D195_118 (by decide), sh_122, rf_122_8, sh_131, rf_122_0, sh_123, refV_s, refV_n, psh_s, psh_n, kil_i, kil_r, kil_n, kil_l, cat_i, cat_r, iOK_1, iOK_5, jOK_2, jOK_6, wOK_e, lOK_1, lOK_2, lOK_3, lOK_4, lOK_5, lOK_6, catS_0, catS_1, catS_2, catS_3, catS_4, and_self, true_and, and_true, true_or, or_true, false_or, or_false, not_true_eq_false, not_false_eq_true, if_true, if_false, ite_int, ite_int0, au_10, eq_self, decide_true, decide_false, Bool.true_and, Bool.false_and, au_in, au_le, au_lt, au_eq, au_lt0, au_ge0, au_le0, au_gt0, au_eq0, au_leT, au_leF, au_ltT, au_ltF, au_eqT, au_eqF, nI_clamp, nI_1, nI_add, pk_mul, au_sub1, au_subc, au_up2e, au_up2n, lit_of, z0]
                  simpa [t, t2] using ihn
          exact key (2 ^ (σ.1 0).N) 0 (by omega)
        · have eb : bI true = 1 := rfl
          have key : ∀ n i, i + n = 2 ^ (σ.1 0).N → AW (d + 6) ((G0 Ln).1, (G0 Ln).2.1) K 195 61 [.ref 122, .int 1, .int (nI (fb_ct (fun r => rowT (σ.1 1) g1 r && !rowT (σ.1 0) g0 r) i)), .int (nI i)] [] (G0 Ln) I2 J := by
            intro n
            induction n with
            | zero =>
              intro i hi
              have ei : i = 2 ^ (σ.1 0).N := by omega
              rw [ei]
              simp (disch := omega) only [aw_iload_3 (pc2 := 62) D195_61 rfl, aw_iconst (pc2 := 63) (y := 1) D195_62 rfl (by decide), aw_aload_0 (pc2 := 64) D195_63 rfl, aw_getR (pc2 := 67) (ci := 7) (fk := 0) D195_64 rfl fT_7_7 rfl, aw_iconst (pc2 := 68) (y := 0) D195_67 rfl (by decide), aw_iaload (pc2 := 69) D195_68 rfl, aw_ishl (pc2 := 70) D195_69 rfl, aw_icmp_ge (pc2 := 73) (t := 121) D195_70 (by decide) rfl, aw_iload_2 (pc2 := 122) D195_121 rfl, aw_iret D195_122 rfl, sh_122, rf_122_8, sh_131, rf_122_0, sh_123, refV_s, refV_n, psh_s, psh_n, kil_i, kil_r, kil_n, kil_l, cat_i, cat_r, iOK_1, iOK_5, jOK_2, jOK_6, wOK_e, lOK_1, lOK_2, lOK_3, lOK_4, lOK_5, lOK_6, catS_0, catS_1, catS_2, catS_3, catS_4, and_self, true_and, and_true, true_or, or_true, false_or, or_false, not_true_eq_false, not_false_eq_true, if_true, if_false, ite_int, ite_int0, au_10, eq_self, decide_true, decide_false, Bool.true_and, Bool.false_and, au_in, au_le, au_lt, au_eq, au_lt0, au_ge0, au_le0, au_gt0, au_eq0, au_leT, au_leF, au_ltT, au_ltF, au_eqT, au_eqF, nI_clamp, nI_1, nI_add, pk_mul, au_sub1, au_subc, au_up2e, au_up2n, lit_of, v0, c0, hh0, shl1]
              exact hk I2 J b1 hf FrM.rf
            | succ n ih =>
              intro i hi
              have hi2 : i < 2 ^ (σ.1 0).N := by omega
              have ihn := ih (i + 1) (by omega)
              rw [fb_ct_succ] at ihn
              have z0 : ∀ a, nI a + 0 = nI a := fun a => nI_add a 0
              rw [aw_iload_3 (pc2 := 62) D195_61 rfl]
              simp (disch := omega) only [aw_iconst (pc2 := 63) (y := 1) D195_62 rfl (by decide), aw_aload_0 (pc2 := 64) D195_63 rfl, aw_getR (pc2 := 67) (ci := 7) (fk := 0) D195_64 rfl fT_7_7 rfl, aw_iconst (pc2 := 68) (y := 0) D195_67 rfl (by decide), aw_iaload (pc2 := 69) D195_68 rfl, aw_ishl (pc2 := 70) D195_69 rfl, aw_icmp_ge (pc2 := 73) (t := 121) D195_70 (by decide) rfl, aw_iload_2 (pc2 := 74) D195_73 rfl, aw_aload_0 (pc2 := 75) D195_74 rfl, aw_iload_1 (pc2 := 76) D195_75 rfl, aw_if_eq (pc2 := 79) (t := 83) D195_76 (by decide) rfl, aw_iconst (pc2 := 80) (y := 1) D195_79 rfl (by decide), aw_goto (t := 84) D195_80 (by decide), aw_iconst (pc2 := 84) (y := 0) D195_83 rfl (by decide), aw_iload_3 (pc2 := 85) D195_84 rfl, aw_iv2_0 (pc2 := 88) (o := 7) D195_85 rfl cT_7_294 rfl rfl, aw_if_eq (pc2 := 91) (t := 112) D195_88 (by decide) rfl, sh_122, rf_122_8, sh_131, rf_122_0, sh_123, refV_s, refV_n, psh_s, psh_n, kil_i, kil_r, kil_n, kil_l, cat_i, cat_r, iOK_1, iOK_5, jOK_2, jOK_6, wOK_e, lOK_1, lOK_2, lOK_3, lOK_4, lOK_5, lOK_6, catS_0, catS_1, catS_2, catS_3, catS_4, and_self, true_and, and_true, true_or, or_true, false_or, or_false, not_true_eq_false, not_false_eq_true, if_true, if_false, ite_int, ite_int0, au_10, eq_self, decide_true, decide_false, Bool.true_and, Bool.false_and, au_in, au_le, au_lt, au_eq, au_lt0, au_ge0, au_le0, au_gt0, au_eq0, au_leT, au_leF, au_ltT, au_ltF, au_eqT, au_eqF, nI_clamp, nI_1, nI_add, pk_mul, au_sub1, au_subc, au_up2e, au_up2n, lit_of, v0, c0, hh0, shl1, r1 hi2, bI_0]
              cases t : rowT (σ.1 1) g1 i
              · rw [if_pos rfl]
                simp (disch := omega) only [aw_iconst (pc2 := 113) (y := 0) D195_112 rfl (by decide), aw_iadd (pc2 := 114) D195_113 rfl, aw_istore_2 (pc2 := 115) D195_114 rfl, aw_iinc_3 (pc2 := 118) (y := 1) D195_115 rfl (by decide), aw_goto (t := 61) D195_118 (by decide), sh_122, rf_122_8, sh_131, rf_122_0, sh_123, refV_s, refV_n, psh_s, psh_n, kil_i, kil_r, kil_n, kil_l, cat_i, cat_r, iOK_1, iOK_5, jOK_2, jOK_6, wOK_e, lOK_1, lOK_2, lOK_3, lOK_4, lOK_5, lOK_6, catS_0, catS_1, catS_2, catS_3, catS_4, and_self, true_and, and_true, true_or, or_true, false_or, or_false, not_true_eq_false, not_false_eq_true, if_true, if_false, ite_int, ite_int0, au_10, eq_self, decide_true, decide_false, Bool.true_and, Bool.false_and, au_in, au_le, au_lt, au_eq, au_lt0, au_ge0, au_le0, au_gt0, au_eq0, au_leT, au_leF, au_ltT, au_ltF, au_eqT, au_eqF, nI_clamp, nI_1, nI_add, pk_mul, au_sub1, au_subc, au_up2e, au_up2n, lit_of, z0]
                simpa [t] using ihn
              · rw [if_neg (by decide)]
                simp (disch := omega) only [aw_aload_0 (pc2 := 92) D195_91 rfl, aw_iload_1 (pc2 := 93) D195_92 rfl, aw_if_eq (pc2 := 96) (t := 100) D195_93 (by decide) rfl, aw_iconst (pc2 := 97) (y := 0) D195_96 rfl (by decide), aw_goto (t := 101) D195_97 (by decide), aw_iconst (pc2 := 101) (y := 1) D195_100 rfl (by decide), aw_iload_3 (pc2 := 102) D195_101 rfl, aw_iv2_0 (pc2 := 105) (o := 7) D195_102 rfl cT_7_294 rfl rfl, aw_if_ne (pc2 := 108) (t := 112) D195_105 (by decide) rfl, sh_122, rf_122_8, sh_131, rf_122_0, sh_123, refV_s, refV_n, psh_s, psh_n, kil_i, kil_r, kil_n, kil_l, cat_i, cat_r, iOK_1, iOK_5, jOK_2, jOK_6, wOK_e, lOK_1, lOK_2, lOK_3, lOK_4, lOK_5, lOK_6, catS_0, catS_1, catS_2, catS_3, catS_4, and_self, true_and, and_true, true_or, or_true, false_or, or_false, not_true_eq_false, not_false_eq_true, if_true, if_false, ite_int, ite_int0, au_10, eq_self, decide_true, decide_false, Bool.true_and, Bool.false_and, au_in, au_le, au_lt, au_eq, au_lt0, au_ge0, au_le0, au_gt0, au_eq0, au_leT, au_leF, au_ltT, au_ltF, au_eqT, au_eqF, nI_clamp, nI_1, nI_add, pk_mul, au_sub1, au_subc, au_up2e, au_up2n, lit_of, r0 hi2, bI_0]
                cases t2 : rowT (σ.1 0) g0 i
                · rw [if_neg (by decide)]
                  simp (disch := omega) only [aw_iconst (pc2 := 109) (y := 1) D195_108 rfl (by decide), aw_goto (t := 113) D195_109 (by decide), aw_iconst (pc2 := 113) (y := 0) D195_112 rfl (by decide), aw_iadd (pc2 := 114) D195_113 rfl, aw_istore_2 (pc2 := 115) D195_114 rfl, aw_iinc_3 (pc2 := 118) (y := 1) D195_115 rfl (by decide), aw_goto (t := 61) D195_118 (by decide), sh_122, rf_122_8, sh_131, rf_122_0, sh_123, refV_s, refV_n, psh_s, psh_n, kil_i, kil_r, kil_n, kil_l, cat_i, cat_r, iOK_1, iOK_5, jOK_2, jOK_6, wOK_e, lOK_1, lOK_2, lOK_3, lOK_4, lOK_5, lOK_6, catS_0, catS_1, catS_2, catS_3, catS_4, and_self, true_and, and_true, true_or, or_true, false_or, or_false, not_true_eq_false, not_false_eq_true, if_true, if_false, ite_int, ite_int0, au_10, eq_self, decide_true, decide_false, Bool.true_and, Bool.false_and, au_in, au_le, au_lt, au_eq, au_lt0, au_ge0, au_le0, au_gt0, au_eq0, au_leT, au_leF, au_ltT, au_ltF, au_eqT, au_eqF, nI_clamp, nI_1, nI_add, pk_mul, au_sub1, au_subc, au_up2e, au_up2n, lit_of]
                  simpa [t, t2] using ihn
                · rw [if_pos (by decide)]
                  simp (disch := omega) only [aw_iconst (pc2 := 113) (y := 0) D195_112 rfl (by decide), aw_iadd (pc2 := 114) D195_113 rfl, aw_istore_2 (pc2 := 115) D195_114 rfl, aw_iinc_3 (pc2 := 118) (y := 1) D195_115 rfl (by decide), aw_goto (t := 61) D195_118 (by decide), sh_122, rf_122_8, sh_131, rf_122_0, sh_123, refV_s, refV_n, psh_s, psh_n, kil_i, kil_r, kil_n, kil_l, cat_i, cat_r, iOK_1, iOK_5, jOK_2, jOK_6, wOK_e, lOK_1, lOK_2, lOK_3, lOK_4, lOK_5, lOK_6, catS_0, catS_1, catS_2, catS_3, catS_4, and_self, true_and, and_true, true_or, or_true, false_or, or_false, not_true_eq_false, not_false_eq_true, if_true, if_false, ite_int, ite_int0, au_10, eq_self, decide_true, decide_false, Bool.true_and, Bool.false_and, au_in, au_le, au_lt, au_eq, au_lt0, au_ge0, au_le0, au_gt0, au_eq0, au_leT, au_leF, au_ltT, au_ltF, au_eqT, au_eqF, nI_clamp, nI_1, nI_add, pk_mul, au_sub1, au_subc, au_up2e, au_up2n, lit_of, z0]
                  simpa [t, t2] using ihn
          exact key (2 ^ (σ.1 0).N) 0 (by omega)
      · rw [if_neg hn] at hk
        simp (disch := omega) only [aw_aload_0 (pc2 := 1) D195_0 rfl, aw_getR (pc2 := 4) (ci := 7) (fk := 8) D195_1 rfl fT_7_34 rfl, aw_iconst (pc2 := 5) (y := 0) D195_4 rfl (by decide), aw_iaload (pc2 := 6) D195_5 rfl, aw_if_eq (pc2 := 9) (t := 18) D195_6 (by decide) rfl, aw_aload_0 (pc2 := 10) D195_9 rfl, aw_getR (pc2 := 13) (ci := 7) (fk := 8) D195_10 rfl fT_7_34 rfl, aw_iconst (pc2 := 14) (y := 1) D195_13 rfl (by decide), aw_iaload (pc2 := 15) D195_14 rfl, aw_if_ne (pc2 := 18) (t := 25) D195_15 (by decide) rfl, aw_aload_0 (pc2 := 19) D195_18 rfl, aw_bipush (pc2 := 21) (y := -2) D195_19 rfl (by decide), aw_iv1_0 (pc2 := 24) (o := 7) D195_21 rfl cT_7_154 rfl rfl, aw_iret D195_24 rfl, aw_aload_0 (pc2 := 26) D195_25 rfl, aw_getR (pc2 := 29) (ci := 7) (fk := 0) D195_26 rfl fT_7_7 rfl, aw_iconst (pc2 := 30) (y := 0) D195_29 rfl (by decide), aw_iaload (pc2 := 31) D195_30 rfl, aw_aload_0 (pc2 := 32) D195_31 rfl, aw_getR (pc2 := 35) (ci := 7) (fk := 0) D195_32 rfl fT_7_7 rfl, aw_iconst (pc2 := 36) (y := 1) D195_35 rfl (by decide), aw_iaload (pc2 := 37) D195_36 rfl, aw_icmp_eq (pc2 := 40) (t := 47) D195_37 (by decide) rfl, aw_aload_0 (pc2 := 41) D195_40 rfl, aw_bipush (pc2 := 43) (y := -7) D195_41 rfl (by decide), aw_iv1_0 (pc2 := 46) (o := 7) D195_43 rfl cT_7_154 rfl rfl, aw_iret D195_46 rfl, sh_122, rf_122_8, sh_131, rf_122_0, sh_123, refV_s, refV_n, psh_s, psh_n, kil_i, kil_r, kil_n, kil_l, cat_i, cat_r, iOK_1, iOK_5, jOK_2, jOK_6, wOK_e, lOK_1, lOK_2, lOK_3, lOK_4, lOK_5, lOK_6, catS_0, catS_1, catS_2, catS_3, catS_4, and_self, true_and, and_true, true_or, or_true, false_or, or_false, not_true_eq_false, not_false_eq_true, if_true, if_false, ite_int, ite_int0, au_10, eq_self, decide_true, decide_false, Bool.true_and, Bool.false_and, au_in, au_le, au_lt, au_eq, au_lt0, au_ge0, au_le0, au_gt0, au_eq0, au_leT, au_leF, au_ltT, au_ltF, au_eqT, au_eqF, nI_clamp, nI_1, nI_add, pk_mul, au_sub1, au_subc, au_up2e, au_up2n, lit_of, v0, v1, c0, c1, hg0.1, hg1.1, h0.1, h1.1, M_no7]
        exact hk.ref h (by omega) (by omega)
end OpsMG
