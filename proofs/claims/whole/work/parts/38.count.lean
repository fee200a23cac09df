def gOf (b : BK) (f : GR → Nat) : Nat := match b.g with
  | none => 0
  | some g => f g
def cntV (b : BK) : Nat → Nat
  | 0 => b.N
  | 1 => b.cl.length
  | 2 => gOf b (fun g => g.1.length)
  | 3 => gOf b (fun g => g.2.2)
  | 4 => pc24 b.ak
  | _ => pc24 b.fx
def oCount (σ : SG) (x w : Int32) : Value × SG := match bkOf x with
  | none => (.int (-3), refS σ 3)
  | some b => if 0 ≤ w ∧ w < 6 then (.int (nI (cntV (σ.1 b) w.toNatClampNeg)), σ) else (.int (-7), refS σ 7)
theorem pc_fold {N fx : Nat} (h : lowN N fx) : pc24 (fx % 4096 ||| fx / 4096) = pc24 fx := by
  obtain ⟨h24, h2⟩ := h
  unfold pc24
  have e1 := fb_ct_split (fun k => (fx % 4096 ||| fx / 4096).testBit k) 12 12
  have e2 := fb_ct_split (fun k => fx.testBit k) 12 12
  have z : fb_ct (fun k => (fx % 4096 ||| fx / 4096).testBit (12 + k)) 12 = 0 := by
    refine fb_ct_zero.mpr (fun k hk => ?_)
    rw [Nat.testBit_or, tb_mod, tb_div]
    rw [Nat.testBit_lt_two_pow (x := fx) (i := 12 + (12 + k)) (Nat.lt_of_lt_of_le h24 (Nat.pow_le_pow_right (by decide) (by omega)))]
    simp
    intro q
    omega
  have o : fb_ct (fun k => (fx % 4096 ||| fx / 4096).testBit k) 12 = fb_ct (fun k => fx.testBit k || fx.testBit (12 + k)) 12 := by
    refine fb_ct_cong (fun k hk => ?_)
    show (fx % 4096 ||| fx / 4096).testBit k = _
    rw [Nat.testBit_or, tb_mod, tb_div]
    simp [hk]
  have s := fb_ct_or (p := fun k => fx.testBit k) (q := fun k => fx.testBit (12 + k)) (n := 12) (fun k hk => (h2 k hk).2.2)
  rw [show 24 = 12 + 12 from rfl, e1, e2, z, o, s]
  rfl
theorem ix6 {w : Int32} : (∃ j, j < 6 ∧ w = nI j) ∨ (¬ (0 ≤ w ∧ w < 6) ∧ (w.toInt < 0 ∨ 5 < w.toInt)) := by
  have e0 : (0 : Int32).toInt = 0 := by decide
  have e6 : (6 : Int32).toInt = 6 := by decide
  rcases pk_ix w (n := 6) (by decide) with h | h | h
  · rw [fa_lt, e0] at h
    exact Or.inr ⟨fun q => by have := q.1; rw [fa_le, e0] at this; omega, Or.inl h⟩
  · rw [fa_le, nI_toInt (by decide)] at h
    exact Or.inr ⟨fun q => by have := q.2; rw [fa_lt, e6] at this; omega, Or.inr (by omega)⟩
  · exact Or.inl h
theorem ak_lt {σ : SG} {b : Nat} (hs : sgOK σ) (hb : b < 2) : (σ.1 b).ak < 4096 := Nat.lt_of_lt_of_le (hs.1 b hb).2.2.2.2.1 (Nat.pow_le_pow_right (n := 2) (by decide) (hs.1 b hb).2.1)
section Count
variable {d Ln : Nat} {I : IT} {J : JT} {K : KT} {σ : SG}
theorem CO_count {x w : Int32} (hs : sgOK σ) (h : CInv σ I J) (hk : CPost Ln I J K (oCount σ x w)) : ACall (d + 3) 83 [.ref 0, .int x, .int w] (G0 Ln) I J K := by
  rw [ACall_0 (L0 := [.ref 0, .int x, .int w, nv]) (show mcs 83 = (0, 0) from rfl) (show entL 83 [.ref 0, .int x, .int w] = _ from rfl) rfl (Nat.le_of_ble_eq_true rfl)]
  unfold oCount at hk
  cases hx : bkOf x with
  | none =>
    simp only [hx] at hk
    obtain ⟨x0, x1⟩ := bkOf_none hx
    simp only [aw_aload_0 (pc2 := 1) D83_0 rfl, aw_aloadN_0 (pc2 := 1) D83_0 rfl, aw_iload_1 (pc2 := 2) D83_1 rfl, aw_iv1_0 (pc2 := 5) (o := 6) D83_2 rfl cT_6_55 rfl rfl, aw_astore_3 (pc2 := 6) D83_5 rfl, aw_astoreN_3 (pc2 := 6) D83_5 rfl, aw_aload_3 (pc2 := 7) D83_6 rfl, aw_aloadN_3 (pc2 := 7) D83_6 rfl, aw_ifnonnull (t := 17) D83_7 (by decide), aw_ifnonnullN (pc2 := 10) D83_7 rfl, aw_aload_0 (pc2 := 11) D83_10 rfl, aw_aloadN_0 (pc2 := 11) D83_10 rfl, aw_bipush (pc2 := 13) (y := -3) D83_11 rfl (by decide), aw_iv1_0 (pc2 := 16) (o := 6) D83_13 rfl cT_6_59 rfl rfl, aw_iret D83_16 rfl, sh_0, refV_s, refV_n, psh_s, psh_n, kil_i, kil_r, kil_n, kil_l, cat_i, cat_r, iOK_1, iOK_5, jOK_2, jOK_6, wOK_e, lOK_1, lOK_2, lOK_3, lOK_4, catS_0, catS_1, catS_2, catS_3, catS_4, and_self, true_and, and_true, true_or, or_true, false_or, or_false, not_true_eq_false, not_false_eq_true, if_true, if_false, ite_int, ite_int0, au_10, eq_self, C_bookAtN x0 x1, C_ref3]
    exact hk.ref h (by omega) (by omega)
  | some b =>
    simp only [hx] at hk
    obtain ⟨hb, rfl⟩ := bkOf_some hx
    have hB := bf (Ln := Ln) hb
    have hh := h.1 b hb
    have hg := hh.2.2.2.2.2.2
    have hf := (hs.1 b hb).2.2.2.2.2.1
    have ha := ak_lt hs hb
    simp only [aw_aload_0 (pc2 := 1) D83_0 rfl, aw_aloadN_0 (pc2 := 1) D83_0 rfl, aw_iload_1 (pc2 := 2) D83_1 rfl, aw_iv1_0 (pc2 := 5) (o := 6) D83_2 rfl cT_6_55 rfl rfl, aw_astore_3 (pc2 := 6) D83_5 rfl, aw_astoreN_3 (pc2 := 6) D83_5 rfl, aw_aload_3 (pc2 := 7) D83_6 rfl, aw_aloadN_3 (pc2 := 7) D83_6 rfl, aw_ifnonnull (t := 17) D83_7 (by decide), aw_ifnonnullN (pc2 := 10) D83_7 rfl, aw_aload_0 (pc2 := 11) D83_10 rfl, aw_aloadN_0 (pc2 := 11) D83_10 rfl, aw_bipush (pc2 := 13) (y := -3) D83_11 rfl (by decide), aw_iv1_0 (pc2 := 16) (o := 6) D83_13 rfl cT_6_59 rfl rfl, aw_iret D83_16 rfl, aw_iload_2 (pc2 := 18) D83_17 rfl, sh_0, refV_s, refV_n, psh_s, psh_n, kil_i, kil_r, kil_n, kil_l, cat_i, cat_r, iOK_1, iOK_5, jOK_2, jOK_6, wOK_e, lOK_1, lOK_2, lOK_3, lOK_4, catS_0, catS_1, catS_2, catS_3, catS_4, and_self, true_and, and_true, true_or, or_true, false_or, or_false, not_true_eq_false, not_false_eq_true, if_true, if_false, ite_int, ite_int0, au_10, eq_self, C_bookAt hb]
    rcases ix6 (w := w) with ⟨j, hj, rfl⟩ | ⟨hn, ho⟩
    · rw [if_pos ⟨nI_pos' (by omega), nI_lt hj (by decide)⟩, nI_clamp (by omega)] at hk
      have ej : (nI j).toInt = 0 + (j : Int) := by rw [nI_toInt (by omega)]; omega
      rcases (show j = 0 ∨ j = 1 ∨ j = 2 ∨ j = 3 ∨ j = 4 ∨ j = 5 by omega) with rfl | rfl | rfl | rfl | rfl | rfl
      · rw [aw_tsw_in D83_18 ej (by decide) rfl (t := 56) (by decide)]
        simp only [aw_aload_3 (pc2 := 57) D83_56 rfl, aw_aloadN_3 (pc2 := 57) D83_56 rfl, aw_getI (pc2 := 60) (ci := 0) (fk := 4) D83_57 rfl fT_6_63 rfl, aw_iret D83_60 rfl, sh_0, refV_s, refV_n, psh_s, psh_n, kil_i, kil_r, kil_n, kil_l, cat_i, cat_r, iOK_1, iOK_5, jOK_2, jOK_6, wOK_e, lOK_1, lOK_2, lOK_3, lOK_4, catS_0, catS_1, catS_2, catS_3, catS_4, and_self, true_and, and_true, true_or, or_true, false_or, or_false, not_true_eq_false, not_false_eq_true, if_true, if_false, ite_int, ite_int0, au_10, eq_self, hB.1.1, hh.1]
        exact hk.same h
      · rw [aw_tsw_in D83_18 ej (by decide) rfl (t := 61) (by decide)]
        simp only [aw_aload_3 (pc2 := 62) D83_61 rfl, aw_aloadN_3 (pc2 := 62) D83_61 rfl, aw_getI (pc2 := 65) (ci := 0) (fk := 5) D83_62 rfl fT_6_84 rfl, aw_iret D83_65 rfl, sh_0, refV_s, refV_n, psh_s, psh_n, kil_i, kil_r, kil_n, kil_l, cat_i, cat_r, iOK_1, iOK_5, jOK_2, jOK_6, wOK_e, lOK_1, lOK_2, lOK_3, lOK_4, catS_0, catS_1, catS_2, catS_3, catS_4, and_self, true_and, and_true, true_or, or_true, false_or, or_false, not_true_eq_false, not_false_eq_true, if_true, if_false, ite_int, ite_int0, au_10, eq_self, hB.1.1, hh.2.1]
        exact hk.same h
      · rw [aw_tsw_in D83_18 ej (by decide) rfl (t := 66) (by decide)]
        have key := hk.same h
        simp only [aw_aload_3 (pc2 := 67) D83_66 rfl, aw_aloadN_3 (pc2 := 67) D83_66 rfl, aw_getI (pc2 := 70) (ci := 0) (fk := 8) D83_67 rfl fT_6_107 rfl, aw_if_eq (pc2 := 73) (t := 83) D83_70 (by decide) rfl, aw_aload_3 (pc2 := 74) D83_73 rfl, aw_aloadN_3 (pc2 := 74) D83_73 rfl, aw_getR (pc2 := 77) (ci := 0) (fk := 2) D83_74 rfl fT_6_120 rfl, aw_getI (pc2 := 80) (ci := 1) (fk := 8) D83_77 rfl fT_6_124 rfl, aw_goto (t := 84) D83_80 (by decide), aw_iconst (pc2 := 84) (y := 0) D83_83 rfl (by decide), aw_iret D83_84 rfl, sh_0, refV_s, refV_n, psh_s, psh_n, kil_i, kil_r, kil_n, kil_l, cat_i, cat_r, iOK_1, iOK_5, jOK_2, jOK_6, wOK_e, lOK_1, lOK_2, lOK_3, lOK_4, catS_0, catS_1, catS_2, catS_3, catS_4, and_self, true_and, and_true, true_or, or_true, false_or, or_false, not_true_eq_false, not_false_eq_true, if_true, if_false, ite_int, ite_int0, au_10, eq_self, hB.1.1, hB.1.2.1, hB.1.2.2.1, hB.1.2.2.2.1, hB.1.2.2.2.2.1, hB.1.2.2.2.2.2.1, hB.1.2.2.2.2.2.2.1, hB.1.2.2.2.2.2.2.2.1, hB.1.2.2.2.2.2.2.2.2.1, hB.1.2.2.2.2.2.2.2.2.2.1, hB.1.2.2.2.2.2.2.2.2.2.2.1, hB.1.2.2.2.2.2.2.2.2.2.2.2.1, hB.1.2.2.2.2.2.2.2.2.2.2.2.2.1, hB.1.2.2.2.2.2.2.2.2.2.2.2.2.2, hB.2.1, hB.2.2.1, hB.2.2.2.1, hB.2.2.2.2.1, hB.2.2.2.2.2.1, hB.2.2.2.2.2.2.1, hB.2.2.2.2.2.2.2.1, hB.2.2.2.2.2.2.2.2.1, hB.2.2.2.2.2.2.2.2.2.1, hB.2.2.2.2.2.2.2.2.2.2.1, hB.2.2.2.2.2.2.2.2.2.2.2.1, hB.2.2.2.2.2.2.2.2.2.2.2.2.1, hB.2.2.2.2.2.2.2.2.2.2.2.2.2]
        unfold CGo at hg
        unfold cntV gOf at key
        cases e : (σ.1 b).g with
        | none =>
          rw [e] at hg key
          rw [if_pos hg]
          exact key
        | some g =>
          rw [e] at hg key
          rw [if_neg (by rw [hg.1]; decide), hg.2.1]
          exact key
      · rw [aw_tsw_in D83_18 ej (by decide) rfl (t := 85) (by decide)]
        have key := hk.same h
        simp only [aw_aload_3 (pc2 := 86) D83_85 rfl, aw_aloadN_3 (pc2 := 86) D83_85 rfl, aw_getI (pc2 := 89) (ci := 0) (fk := 8) D83_86 rfl fT_6_107 rfl, aw_if_eq (pc2 := 92) (t := 102) D83_89 (by decide) rfl, aw_aload_3 (pc2 := 93) D83_92 rfl, aw_aloadN_3 (pc2 := 93) D83_92 rfl, aw_getR (pc2 := 96) (ci := 0) (fk := 2) D83_93 rfl fT_6_120 rfl, aw_getI (pc2 := 99) (ci := 1) (fk := 10) D83_96 rfl fT_6_129 rfl, aw_goto (t := 103) D83_99 (by decide), aw_iconst (pc2 := 103) (y := 0) D83_102 rfl (by decide), aw_iret D83_103 rfl, sh_0, refV_s, refV_n, psh_s, psh_n, kil_i, kil_r, kil_n, kil_l, cat_i, cat_r, iOK_1, iOK_5, jOK_2, jOK_6, wOK_e, lOK_1, lOK_2, lOK_3, lOK_4, catS_0, catS_1, catS_2, catS_3, catS_4, and_self, true_and, and_true, true_or, or_true, false_or, or_false, not_true_eq_false, not_false_eq_true, if_true, if_false, ite_int, ite_int0, au_10, eq_self, hB.1.1, hB.1.2.1, hB.1.2.2.1, hB.1.2.2.2.1, hB.1.2.2.2.2.1, hB.1.2.2.2.2.2.1, hB.1.2.2.2.2.2.2.1, hB.1.2.2.2.2.2.2.2.1, hB.1.2.2.2.2.2.2.2.2.1, hB.1.2.2.2.2.2.2.2.2.2.1, hB.1.2.2.2.2.2.2.2.2.2.2.1, hB.1.2.2.2.2.2.2.2.2.2.2.2.1, hB.1.2.2.2.2.2.2.2.2.2.2.2.2.1, hB.1.2.2.2.2.2.2.2.2.2.2.2.2.2, hB.2.1, hB.2.2.1, hB.2.2.2.1, hB.2.2.2.2.1, hB.2.2.2.2.2.1, hB.2.2.2.2.2.2.1, hB.2.2.2.2.2.2.2.1, hB.2.2.2.2.2.2.2.2.1, hB.2.2.2.2.2.2.2.2.2.1, hB.2.2.2.2.2.2.2.2.2.2.1, hB.2.2.2.2.2.2.2.2.2.2.2.1, hB.2.2.2.2.2.2.2.2.2.2.2.2.1, hB.2.2.2.2.2.2.2.2.2.2.2.2.2]
        unfold CGo at hg
        unfold cntV gOf at key
        cases e : (σ.1 b).g with
        | none =>
          rw [e] at hg key
          rw [if_pos hg]
          exact key
        | some g =>
          rw [e] at hg key
          rw [if_neg (by rw [hg.1]; decide), hg.2.2.2.1]
          exact key
      · rw [aw_tsw_in D83_18 ej (by decide) rfl (t := 104) (by decide)]
        simp only [aw_aload_3 (pc2 := 105) D83_104 rfl, aw_aloadN_3 (pc2 := 105) D83_104 rfl, aw_getI (pc2 := 108) (ci := 0) (fk := 6) D83_105 rfl fT_6_104 rfl, aw_is1_2 (pc2 := 111) D83_108 rfl cT_6_90 rfl, aw_iret D83_111 rfl, sh_0, refV_s, refV_n, psh_s, psh_n, kil_i, kil_r, kil_n, kil_l, cat_i, cat_r, iOK_1, iOK_5, jOK_2, jOK_6, wOK_e, lOK_1, lOK_2, lOK_3, lOK_4, catS_0, catS_1, catS_2, catS_3, catS_4, and_self, true_and, and_true, true_or, or_true, false_or, or_false, not_true_eq_false, not_false_eq_true, if_true, if_false, ite_int, ite_int0, au_10, eq_self, hB.1.1, hh.2.2.2.1, P_int (show (σ.1 b).ak < 2 ^ 32 by omega), pc_32 (show (σ.1 b).ak < 2 ^ 24 by omega)]
        exact hk.same h
      · rw [aw_tsw_in D83_18 ej (by decide) rfl (t := 112) (by decide)]
        have hf2 := hf.1
        simp only [aw_aload_3 (pc2 := 113) D83_112 rfl, aw_aloadN_3 (pc2 := 113) D83_112 rfl, aw_getI (pc2 := 116) (ci := 0) (fk := 7) D83_113 rfl fT_6_110 rfl, aw_is1_2 (pc2 := 119) D83_116 rfl cT_6_90 rfl, aw_iret D83_119 rfl, sh_0, refV_s, refV_n, psh_s, psh_n, kil_i, kil_r, kil_n, kil_l, cat_i, cat_r, iOK_1, iOK_5, jOK_2, jOK_6, wOK_e, lOK_1, lOK_2, lOK_3, lOK_4, catS_0, catS_1, catS_2, catS_3, catS_4, and_self, true_and, and_true, true_or, or_true, false_or, or_false, not_true_eq_false, not_false_eq_true, if_true, if_false, ite_int, ite_int0, au_10, eq_self, hB.1.1, hh.2.2.2.2.1, P_int (show (σ.1 b).fx < 2 ^ 32 by omega), pc_32 hf2]
        exact hk.same h
    · rw [if_neg hn] at hk
      rw [aw_tsw_out D83_18 ho (t := 120) (by decide)]
      simp only [aw_aload_0 (pc2 := 121) D83_120 rfl, aw_aloadN_0 (pc2 := 121) D83_120 rfl, aw_bipush (pc2 := 123) (y := -7) D83_121 rfl (by decide), aw_iv1_0 (pc2 := 126) (o := 6) D83_123 rfl cT_6_59 rfl rfl, aw_iret D83_126 rfl, sh_0, refV_s, refV_n, psh_s, psh_n, kil_i, kil_r, kil_n, kil_l, cat_i, cat_r, iOK_1, iOK_5, jOK_2, jOK_6, wOK_e, lOK_1, lOK_2, lOK_3, lOK_4, catS_0, catS_1, catS_2, catS_3, catS_4, and_self, true_and, and_true, true_or, or_true, false_or, or_false, not_true_eq_false, not_false_eq_true, if_true, if_false, ite_int, ite_int0, au_10, eq_self, C_ref7]
      exact hk.ref h (by omega) (by omega)
theorem MO_count {x w : Int32} (hs : sgOK σ) (h : MInv σ I) (hk : MPost Ln I J K (oCount σ x w)) : ACall (d + 3) 144 [.ref 122, .int x, .int w] (G0 Ln) I J K := by
  rw [ACall_0 (L0 := [.ref 122, .int x, .int w]) (show mcs 144 = (0, 0) from rfl) (show entL 144 [.ref 122, .int x, .int w] = _ from rfl) rfl (Nat.le_of_ble_eq_true rfl)]
  unfold oCount at hk
  cases hx : bkOf x with
  | none =>
    simp only [hx] at hk
    obtain ⟨x0, x1⟩ := bkOf_none hx
    simp only [aw_iload_1 (pc2 := 1) D144_0 rfl, aw_is1_2 (pc2 := 4) D144_1 rfl cT_7_150 rfl, aw_if_ne (pc2 := 7) (t := 14) D144_4 (by decide) rfl, aw_aload_0 (pc2 := 8) D144_7 rfl, aw_bipush (pc2 := 10) (y := -3) D144_8 rfl (by decide), aw_iv1_0 (pc2 := 13) (o := 7) D144_10 rfl cT_7_154 rfl rfl, aw_iret D144_13 rfl, sh_122, rf_122_0, sh_123, rf_122_2, sh_125, rf_122_8, sh_131, rf_122_10, sh_133, rf_122_3, sh_126, rf_122_4, sh_127, rf_122_5, sh_128, refV_s, refV_n, psh_s, psh_n, kil_i, kil_r, kil_n, kil_l, cat_i, cat_r, iOK_1, iOK_5, jOK_2, jOK_6, wOK_e, lOK_1, lOK_2, lOK_3, lOK_4, catS_0, catS_1, catS_2, catS_3, catS_4, and_self, true_and, and_true, true_or, or_true, false_or, or_false, not_true_eq_false, not_false_eq_true, if_true, if_false, ite_int, ite_int0, au_10, eq_self, M_isBook, M_no3, x0, x1, or_self]
    exact hk.ref h (by omega) (by omega)
  | some b =>
    simp only [hx] at hk
    obtain ⟨hb, rfl⟩ := bkOf_some hx
    have hh := h.1 b hb
    have hg := hh.2.2.2.2.2.2.2
    have hf := (hs.1 b hb).2.2.2.2.2.1
    have ha := ak_lt hs hb
    simp only [aw_iload_1 (pc2 := 1) D144_0 rfl, aw_is1_2 (pc2 := 4) D144_1 rfl cT_7_150 rfl, aw_if_ne (pc2 := 7) (t := 14) D144_4 (by decide) rfl, aw_aload_0 (pc2 := 8) D144_7 rfl, aw_bipush (pc2 := 10) (y := -3) D144_8 rfl (by decide), aw_iv1_0 (pc2 := 13) (o := 7) D144_10 rfl cT_7_154 rfl rfl, aw_iret D144_13 rfl, aw_iload_2 (pc2 := 15) D144_14 rfl, sh_122, rf_122_0, sh_123, rf_122_2, sh_125, rf_122_8, sh_131, rf_122_10, sh_133, rf_122_3, sh_126, rf_122_4, sh_127, rf_122_5, sh_128, refV_s, refV_n, psh_s, psh_n, kil_i, kil_r, kil_n, kil_l, cat_i, cat_r, iOK_1, iOK_5, jOK_2, jOK_6, wOK_e, lOK_1, lOK_2, lOK_3, lOK_4, catS_0, catS_1, catS_2, catS_3, catS_4, and_self, true_and, and_true, true_or, or_true, false_or, or_false, not_true_eq_false, not_false_eq_true, if_true, if_false, ite_int, ite_int0, au_10, eq_self, M_isBk hb]
    rcases ix6 (w := w) with ⟨j, hj, rfl⟩ | ⟨hn, ho⟩
    · rw [if_pos ⟨nI_pos' (by omega), nI_lt hj (by decide)⟩, nI_clamp (by omega)] at hk
      have ej : (nI j).toInt = 0 + (j : Int) := by rw [nI_toInt (by omega)]; omega
      have key := hk.same h
      rcases (show j = 0 ∨ j = 1 ∨ j = 2 ∨ j = 3 ∨ j = 4 ∨ j = 5 by omega) with rfl | rfl | rfl | rfl | rfl | rfl
      · rw [aw_tsw_in D144_15 ej (by decide) rfl (t := 52) (by decide)]
        simp (disch := omega) only [aw_aload_0 (pc2 := 53) D144_52 rfl, aw_getR (pc2 := 56) (ci := 7) (fk := 0) D144_53 rfl fT_7_7 rfl, aw_iload_1 (pc2 := 57) D144_56 rfl, aw_iaload (pc2 := 58) D144_57 rfl, aw_iret D144_58 rfl, sh_122, rf_122_0, sh_123, rf_122_2, sh_125, rf_122_8, sh_131, rf_122_10, sh_133, rf_122_3, sh_126, rf_122_4, sh_127, rf_122_5, sh_128, refV_s, refV_n, psh_s, psh_n, kil_i, kil_r, kil_n, kil_l, cat_i, cat_r, iOK_1, iOK_5, jOK_2, jOK_6, wOK_e, lOK_1, lOK_2, lOK_3, lOK_4, catS_0, catS_1, catS_2, catS_3, catS_4, and_self, true_and, and_true, true_or, or_true, false_or, or_false, not_true_eq_false, not_false_eq_true, if_true, if_false, ite_int, ite_int0, au_10, eq_self, au_in, nI_clamp, hh.1]
        exact key
      · rw [aw_tsw_in D144_15 ej (by decide) rfl (t := 59) (by decide)]
        simp (disch := omega) only [aw_aload_0 (pc2 := 60) D144_59 rfl, aw_getR (pc2 := 63) (ci := 7) (fk := 2) D144_60 rfl fT_7_16 rfl, aw_iload_1 (pc2 := 64) D144_63 rfl, aw_iaload (pc2 := 65) D144_64 rfl, aw_iret D144_65 rfl, sh_122, rf_122_0, sh_123, rf_122_2, sh_125, rf_122_8, sh_131, rf_122_10, sh_133, rf_122_3, sh_126, rf_122_4, sh_127, rf_122_5, sh_128, refV_s, refV_n, psh_s, psh_n, kil_i, kil_r, kil_n, kil_l, cat_i, cat_r, iOK_1, iOK_5, jOK_2, jOK_6, wOK_e, lOK_1, lOK_2, lOK_3, lOK_4, catS_0, catS_1, catS_2, catS_3, catS_4, and_self, true_and, and_true, true_or, or_true, false_or, or_false, not_true_eq_false, not_false_eq_true, if_true, if_false, ite_int, ite_int0, au_10, eq_self, au_in, nI_clamp, hh.2.1]
        exact key
      · rw [aw_tsw_in D144_15 ej (by decide) rfl (t := 66) (by decide)]
        simp (disch := omega) only [aw_aload_0 (pc2 := 67) D144_66 rfl, aw_getR (pc2 := 70) (ci := 7) (fk := 8) D144_67 rfl fT_7_34 rfl, aw_iload_1 (pc2 := 71) D144_70 rfl, aw_iaload (pc2 := 72) D144_71 rfl, aw_iret D144_72 rfl, sh_122, rf_122_0, sh_123, rf_122_2, sh_125, rf_122_8, sh_131, rf_122_10, sh_133, rf_122_3, sh_126, rf_122_4, sh_127, rf_122_5, sh_128, refV_s, refV_n, psh_s, psh_n, kil_i, kil_r, kil_n, kil_l, cat_i, cat_r, iOK_1, iOK_5, jOK_2, jOK_6, wOK_e, lOK_1, lOK_2, lOK_3, lOK_4, catS_0, catS_1, catS_2, catS_3, catS_4, and_self, true_and, and_true, true_or, or_true, false_or, or_false, not_true_eq_false, not_false_eq_true, if_true, if_false, ite_int, ite_int0, au_10, eq_self, au_in, nI_clamp]
        unfold MGo at hg
        unfold cntV gOf at key
        cases e : (σ.1 b).g with
        | none => rw [e] at hg key; rw [hg]; exact key
        | some g => rw [e] at hg key; rw [hg.1]; exact key
      · rw [aw_tsw_in D144_15 ej (by decide) rfl (t := 73) (by decide)]
        simp (disch := omega) only [aw_aload_0 (pc2 := 74) D144_73 rfl, aw_getR (pc2 := 77) (ci := 7) (fk := 8) D144_74 rfl fT_7_34 rfl, aw_iload_1 (pc2 := 78) D144_77 rfl, aw_iaload (pc2 := 79) D144_78 rfl, aw_if_le (pc2 := 82) (t := 91) D144_79 (by decide) rfl, aw_aload_0 (pc2 := 83) D144_82 rfl, aw_getR (pc2 := 86) (ci := 7) (fk := 10) D144_83 rfl fT_7_40 rfl, aw_iload_1 (pc2 := 87) D144_86 rfl, aw_iaload (pc2 := 88) D144_87 rfl, aw_goto (t := 92) D144_88 (by decide), aw_iconst (pc2 := 92) (y := 0) D144_91 rfl (by decide), aw_iret D144_92 rfl, sh_122, rf_122_0, sh_123, rf_122_2, sh_125, rf_122_8, sh_131, rf_122_10, sh_133, rf_122_3, sh_126, rf_122_4, sh_127, rf_122_5, sh_128, refV_s, refV_n, psh_s, psh_n, kil_i, kil_r, kil_n, kil_l, cat_i, cat_r, iOK_1, iOK_5, jOK_2, jOK_6, wOK_e, lOK_1, lOK_2, lOK_3, lOK_4, catS_0, catS_1, catS_2, catS_3, catS_4, and_self, true_and, and_true, true_or, or_true, false_or, or_false, not_true_eq_false, not_false_eq_true, if_true, if_false, ite_int, ite_int0, au_10, eq_self, au_in, nI_clamp]
        unfold MGo at hg
        unfold cntV gOf at key
        cases e : (σ.1 b).g with
        | none => rw [e] at hg key; rw [hg]; exact key
        | some g =>
          rw [e] at hg key
          have hgo := (hs.1 b hb).2.2.2.2.2.2.2 g e
          rw [hg.1, if_neg (nI_nle (by have := hgo.1; omega) (by have := hgo.2.1; omega)), hg.2.2.1]
          exact key
      · rw [aw_tsw_in D144_15 ej (by decide) rfl (t := 93) (by decide)]
        simp (disch := omega) only [aw_aload_0 (pc2 := 94) D144_93 rfl, aw_getR (pc2 := 97) (ci := 7) (fk := 3) D144_94 rfl fT_7_19 rfl, aw_iload_1 (pc2 := 98) D144_97 rfl, aw_iaload (pc2 := 99) D144_98 rfl, aw_is1_2 (pc2 := 102) D144_99 rfl cT_7_177 rfl, aw_iret D144_102 rfl, sh_122, rf_122_0, sh_123, rf_122_2, sh_125, rf_122_8, sh_131, rf_122_10, sh_133, rf_122_3, sh_126, rf_122_4, sh_127, rf_122_5, sh_128, refV_s, refV_n, psh_s, psh_n, kil_i, kil_r, kil_n, kil_l, cat_i, cat_r, iOK_1, iOK_5, jOK_2, jOK_6, wOK_e, lOK_1, lOK_2, lOK_3, lOK_4, catS_0, catS_1, catS_2, catS_3, catS_4, and_self, true_and, and_true, true_or, or_true, false_or, or_false, not_true_eq_false, not_false_eq_true, if_true, if_false, ite_int, ite_int0, au_10, eq_self, au_in, nI_clamp, hh.2.2.2.1, M_many (show (σ.1 b).ak < 2 ^ 31 by omega)]
        exact key
      · rw [aw_tsw_in D144_15 ej (by decide) rfl (t := 103) (by decide)]
        have hf2 := hf.1
        have hlt : (σ.1 b).fx % 4096 ||| (σ.1 b).fx / 4096 < 2 ^ 24 := or_lt24 (by omega) (by omega)
        simp (disch := omega) only [aw_aload_0 (pc2 := 104) D144_103 rfl, aw_getR (pc2 := 107) (ci := 7) (fk := 4) D144_104 rfl fT_7_22 rfl, aw_iload_1 (pc2 := 108) D144_107 rfl, aw_iaload (pc2 := 109) D144_108 rfl, aw_aload_0 (pc2 := 110) D144_109 rfl, aw_getR (pc2 := 113) (ci := 7) (fk := 5) D144_110 rfl fT_7_25 rfl, aw_iload_1 (pc2 := 114) D144_113 rfl, aw_iaload (pc2 := 115) D144_114 rfl, aw_ior (pc2 := 116) D144_115 rfl, aw_is1_2 (pc2 := 119) D144_116 rfl cT_7_177 rfl, aw_iret D144_119 rfl, sh_122, rf_122_0, sh_123, rf_122_2, sh_125, rf_122_8, sh_131, rf_122_10, sh_133, rf_122_3, sh_126, rf_122_4, sh_127, rf_122_5, sh_128, refV_s, refV_n, psh_s, psh_n, kil_i, kil_r, kil_n, kil_l, cat_i, cat_r, iOK_1, iOK_5, jOK_2, jOK_6, wOK_e, lOK_1, lOK_2, lOK_3, lOK_4, catS_0, catS_1, catS_2, catS_3, catS_4, and_self, true_and, and_true, true_or, or_true, false_or, or_false, not_true_eq_false, not_false_eq_true, if_true, if_false, ite_int, ite_int0, au_10, eq_self, au_in, nI_clamp, hh.2.2.2.2.1, hh.2.2.2.2.2.1, fa_or, M_many (show (σ.1 b).fx % 4096 ||| (σ.1 b).fx / 4096 < 2 ^ 31 by omega), pc_fold hf]
        exact key
    · rw [if_neg hn] at hk
      rw [aw_tsw_out D144_15 ho (t := 120) (by decide)]
      simp only [aw_aload_0 (pc2 := 121) D144_120 rfl, aw_bipush (pc2 := 123) (y := -7) D144_121 rfl (by decide), aw_iv1_0 (pc2 := 126) (o := 7) D144_123 rfl cT_7_154 rfl rfl, aw_iret D144_126 rfl, sh_122, rf_122_0, sh_123, rf_122_2, sh_125, rf_122_8, sh_131, rf_122_10, sh_133, rf_122_3, sh_126, rf_122_4, sh_127, rf_122_5, sh_128, refV_s, refV_n, psh_s, psh_n, kil_i, kil_r, kil_n, kil_l, cat_i, cat_r, iOK_1, iOK_5, jOK_2, jOK_6, wOK_e, lOK_1, lOK_2, lOK_3, lOK_4, catS_0, catS_1, catS_2, catS_3, catS_4, and_self, true_and, and_true, true_or, or_true, false_or, or_false, not_true_eq_false, not_false_eq_true, if_true, if_false, ite_int, ite_int0, au_10, eq_self, M_no7]
      exact hk.ref h (by omega) (by omega)
end Count
