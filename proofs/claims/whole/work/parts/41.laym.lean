theorem in_count {c : Int32} {n : Nat} (hn : n < 2 ^ 30) : (0 ≤ c ∧ c ≤ nI n - 1) ↔ (0 ≤ c ∧ c < nI n) := by
  have z1 : (nI n - 1).toInt = (n : Int) - 1 := by
    rw [show (1 : Int32) = nI 1 from rfl]; exact pk_sub_toInt hn (by omega)
  rw [fa_le c, fa_lt c, z1, nI_toInt (by omega)]
  constructor
  · rintro ⟨a, b⟩; exact ⟨a, by omega⟩
  · rintro ⟨a, b⟩; exact ⟨a, by omega⟩
theorem e0L : (0 : Int64) = (0 : Int32).toInt64 := by decide
/-- clauses of two books, one behind the other -/
def oJoin (σ : SG) : Value × SG := if (σ.1 0).N = (σ.1 1).N then (if 40 < (σ.1 0).cl.length + (σ.1 1).cl.length then (.int (-8), refS σ 8) else (.int (nI ((σ.1 0).cl.length + (σ.1 1).cl.length)), if (σ.1 1).cl = [] then σ else setB σ 0 ((σ.1 0).N, (σ.1 0).cl ++ (σ.1 1).cl, (σ.1 0).ak, (σ.1 0).fx, (σ.1 0).wt, none))) else (.int (-7), refS σ 7)
def cpR (r : List Int) (i j n : Nat) : List Int := (List.range r.length).map (fun k => if j ≤ k ∧ k < j + n then r.getD (i + (k - j)) 0 else r.getD k 0)
def oCopy (σ : SG) (i j n : Int32) : Value × SG := match σ.2.1 with
  | none => (.int (-2), refS σ 2)
  | some r => if n < 0 then (.int (-4), refS σ 4) else if i < 0 ∨ j < 0 ∨ (r.length : Int) < i.toInt + n.toInt ∨ (r.length : Int) < j.toInt + n.toInt then (.int (-6), refS σ 6) else (.int n, (σ.1, some (cpR r i.toNatClampNeg j.toNatClampNeg n.toNatClampNeg), σ.2.2))
theorem cpR_len (r : List Int) (i j n : Nat) : (cpR r i j n).length = r.length := by unfold cpR; rw [List.length_map, List.length_range]
theorem cpR_get {r : List Int} {i j n k : Nat} (hk : k < r.length) : (cpR r i j n).getD k 0 = if j ≤ k ∧ k < j + n then r.getD (i + (k - j)) 0 else r.getD k 0 := by
  unfold cpR
  rw [List.getD_eq_getElem?_getD, List.getElem?_map, List.getElem?_range hk]
  rfl
section LayM
variable {d Ln : Nat} {I : IT} {J : JT} {K : KT} {σ : SG}
theorem MO_lay {x c : Int32} (hs : sgOK σ) (h : MInv σ I) (hk : MPost Ln I J K (oLay σ x c)) : ACall (d + 3) 197 [.ref 122, .int x, .int c] (G0 Ln) I J K := by
  rw [ACall_0 (L0 := [.ref 122, .int x, .int c, nv, nv]) (show mcs 197 = (0, 0) from rfl) (show entL 197 [.ref 122, .int x, .int c] = _ from rfl) rfl (Nat.le_of_ble_eq_true rfl)]
  unfold oLay at hk
  cases hx : bkOf x with
  | none =>
    simp only [hx] at hk
    obtain ⟨x0, x1⟩ := bkOf_none hx
    simp only [aw_iload_1 (pc2 := 1) D197_0 rfl, aw_is1_2 (pc2 := 4) D197_1 rfl cT_7_150 rfl, aw_if_eq (pc2 := 7) (t := 25) D197_4 (by decide) rfl, aw_iload_2 (pc2 := 8) D197_7 rfl, aw_i2l (pc2 := 9) D197_8 rfl, aw_lconst (pc2 := 10) (y := 0) D197_9 rfl (by decide), aw_aload_0 (pc2 := 11) D197_10 rfl, aw_getR (pc2 := 14) (ci := 7) (fk := 2) D197_11 rfl fT_7_16 rfl, aw_iload_1 (pc2 := 15) D197_14 rfl, aw_iaload (pc2 := 16) D197_15 rfl, aw_iconst (pc2 := 17) (y := 1) D197_16 rfl (by decide), aw_isub (pc2 := 18) D197_17 rfl, aw_i2l (pc2 := 19) D197_18 rfl, aw_is3_2 (pc2 := 22) D197_19 rfl cT_7_146 rfl, aw_if_ne (pc2 := 25) (t := 32) D197_22 (by decide) rfl, aw_aload_0 (pc2 := 26) D197_25 rfl, aw_bipush (pc2 := 28) (y := -3) D197_26 rfl (by decide), aw_iv1_0 (pc2 := 31) (o := 7) D197_28 rfl cT_7_154 rfl rfl, aw_iret D197_31 rfl, sh_122, rf_122_2, sh_125, rf_122_1, sh_124, lit_40, lit_12, rf_122_46, sh_163, refV_s, refV_n, psh_s, psh_n, kil_i, kil_r, kil_n, kil_l, cat_i, cat_r, iOK_1, iOK_5, jOK_2, jOK_6, wOK_e, lOK_1, lOK_2, lOK_3, lOK_4, catS_0, catS_1, catS_2, catS_3, catS_4, and_self, true_and, and_true, true_or, or_true, false_or, or_false, not_true_eq_false, not_false_eq_true, if_true, if_false, ite_int, ite_int0, au_10, eq_self, M_isBook, M_no3, x0, x1, or_self]
    exact hk.ref h (by omega) (by omega)
  | some b =>
    simp only [hx] at hk
    obtain ⟨hb, rfl⟩ := bkOf_some hx
    have hh := h.1 b hb
    have hN := (hs.1 b hb).2.1
    have hl := (hs.1 b hb).2.2.1
    by_cases hc : 0 ≤ c ∧ c < nI (σ.1 b).cl.length
    · rw [if_pos hc] at hk
      obtain ⟨j, hj, rfl⟩ : ∃ j, j < (σ.1 b).cl.length ∧ c = nI j := by
        rcases pk_ix c (n := (σ.1 b).cl.length) (by omega) with z | z | z
        · have := hc.1; rw [fa_lt] at z; rw [fa_le] at this; omega
        · have := hc.2; rw [fa_le] at z; rw [fa_lt] at this; omega
        · exact z
      rw [nI_clamp (by omega)] at hk
      have hcl : clOK (σ.1 b).N ((σ.1 b).cl.getD j 0) := (hs.1 b hb).2.2.2.1 _ (by
        rw [List.getD_eq_getElem?_getD, List.getElem?_eq_getElem hj]
        exact List.getElem_mem _)
      simp (disch := omega) only [aw_iload_1 (pc2 := 1) D197_0 rfl, aw_is1_2 (pc2 := 4) D197_1 rfl cT_7_150 rfl, aw_if_eq (pc2 := 7) (t := 25) D197_4 (by decide) rfl, aw_iload_2 (pc2 := 8) D197_7 rfl, aw_i2l (pc2 := 9) D197_8 rfl, aw_lconst (pc2 := 10) (y := 0) D197_9 rfl (by decide), aw_aload_0 (pc2 := 11) D197_10 rfl, aw_getR (pc2 := 14) (ci := 7) (fk := 2) D197_11 rfl fT_7_16 rfl, aw_iload_1 (pc2 := 15) D197_14 rfl, aw_iaload (pc2 := 16) D197_15 rfl, aw_iconst (pc2 := 17) (y := 1) D197_16 rfl (by decide), aw_isub (pc2 := 18) D197_17 rfl, aw_i2l (pc2 := 19) D197_18 rfl, aw_is3_2 (pc2 := 22) D197_19 rfl cT_7_146 rfl, aw_if_ne (pc2 := 25) (t := 32) D197_22 (by decide) rfl, aw_aload_0 (pc2 := 26) D197_25 rfl, aw_bipush (pc2 := 28) (y := -3) D197_26 rfl (by decide), aw_iv1_0 (pc2 := 31) (o := 7) D197_28 rfl cT_7_154 rfl rfl, aw_iret D197_31 rfl, aw_aload_0 (pc2 := 33) D197_32 rfl, aw_iconst (pc2 := 34) (y := 0) D197_33 rfl (by decide), aw_putI (pc2 := 37) (ci := 7) (fk := 48) D197_34 rfl fT_7_143 rfl, aw_aload_0 (pc2 := 38) D197_37 rfl, aw_getR (pc2 := 41) (ci := 7) (fk := 1) D197_38 rfl fT_7_13 rfl, aw_bipush (pc2 := 43) (y := 40) D197_41 rfl (by decide), aw_iload_1 (pc2 := 44) D197_43 rfl, aw_imul (pc2 := 45) D197_44 rfl, aw_iload_2 (pc2 := 46) D197_45 rfl, aw_iadd (pc2 := 47) D197_46 rfl, aw_iaload (pc2 := 48) D197_47 rfl, aw_istore_3 (pc2 := 49) D197_48 rfl, aw_iconst (pc2 := 50) (y := 1) D197_49 rfl (by decide), aw_istore_4 (pc2 := 52) D197_50 rfl, sh_122, rf_122_2, sh_125, rf_122_1, sh_124, lit_40, lit_12, rf_122_46, sh_163, refV_s, refV_n, psh_s, psh_n, kil_i, kil_r, kil_n, kil_l, cat_i, cat_r, iOK_1, iOK_5, jOK_2, jOK_6, wOK_e, lOK_1, lOK_2, lOK_3, lOK_4, catS_0, catS_1, catS_2, catS_3, catS_4, and_self, true_and, and_true, true_or, or_true, false_or, or_false, not_true_eq_false, not_false_eq_true, if_true, if_false, ite_int, ite_int0, au_10, eq_self, M_isBk hb, M_isIn, M_no3, hh.2.1, au_in, nI_clamp, e0L, fa_wide_le, in_count, ifT hc, pk_mul, nI_add, au_up2c, hh.2.2.1 j hj]
      generalize hm : (σ.1 b).cl.getD j 0 = m at hk hcl ⊢
      have key : ∀ n l I', l + n = 12 → (∀ c, c ≠ 122 → c ≠ 163 → I' c = I c) → I' 122 44 = I 122 44 → I' 122 48 = nI (layTo m l).length → (∀ i, i < (layTo m l).length → I' 163 i = iI ((layTo m l).getD i 0)) → AW (d + 2) ((G0 Ln).1, (G0 Ln).2.1) K 197 52 [.ref 122, .int (nI b), .int (nI j), .int (nI m), .int (nI (l + 1))] [] (G0 Ln) I' J := by
        intro n
        induction n with
        | zero =>
          intro l I' hl12 ho h9 h7 hr
          have e : l = 12 := by omega
          subst e
          simp only [aw_iload_4 (pc2 := 54) D197_52 rfl, aw_bipush (pc2 := 56) (y := 12) D197_54 rfl (by decide), aw_icmp_gt (pc2 := 59) (t := 122) D197_56 (by decide) rfl, aw_aload_0 (pc2 := 123) D197_122 rfl, aw_getI (pc2 := 126) (ci := 7) (fk := 48) D197_123 rfl fT_7_143 rfl, aw_iret D197_126 rfl, sh_122, rf_122_2, sh_125, rf_122_1, sh_124, lit_40, lit_12, rf_122_46, sh_163, refV_s, refV_n, psh_s, psh_n, kil_i, kil_r, kil_n, kil_l, cat_i, cat_r, iOK_1, iOK_5, jOK_2, jOK_6, wOK_e, lOK_1, lOK_2, lOK_3, lOK_4, catS_0, catS_1, catS_2, catS_3, catS_4, and_self, true_and, and_true, true_or, or_true, false_or, or_false, not_true_eq_false, not_false_eq_true, if_true, if_false, ite_int, ite_int0, au_10, eq_self, if_pos (show nI 12 < nI (12 + 1) by decide), h7]
          exact hk _ _ (h.row (fun c c1 c2 _ => ho c c1 c2) h9 h7 hr) (fun c hc => ho c (by omega) (by omega)) FrM.rf
        | succ n ih =>
          intro l I' hl12 ho h9 h7 hr
          obtain ⟨-, -, b3, b4, b5, b6⟩ := lt_bits l (by omega)
          have hle := lay_le hcl.1 hcl.2.2 (show l + 1 ≤ 12 by omega)
          rw [layTo, List.length_append] at hle
          have ihn := ih (l + 1)
          rw [aw_iload_4 (pc2 := 54) D197_52 rfl]
          have s5 : ∀ v : Int, (layTo m (l + 1)) = layTo m l ++ [v] → AW (d + 2) ((G0 Ln).1, (G0 Ln).2.1) K 197 116 [.ref 122, .int (nI b), .int (nI j), .int (nI m), .int (nI (l + 1))] [] (G0 Ln) (up2 (up2 I' 163 (layTo m l).length (iI v)) 122 48 (nI ((layTo m l).length + 1))) J := by
            intro v hv
            simp only [aw_iinc_4 (pc2 := 119) (y := 1) D197_116 rfl (by decide), aw_goto (t := 52) D197_119 (by decide), sh_122, rf_122_2, sh_125, rf_122_1, sh_124, lit_40, lit_12, rf_122_46, sh_163, refV_s, refV_n, psh_s, psh_n, kil_i, kil_r, kil_n, kil_l, cat_i, cat_r, iOK_1, iOK_5, jOK_2, jOK_6, wOK_e, lOK_1, lOK_2, lOK_3, lOK_4, catS_0, catS_1, catS_2, catS_3, catS_4, and_self, true_and, and_true, true_or, or_true, false_or, or_false, not_true_eq_false, not_false_eq_true, if_true, if_false, ite_int, ite_int0, au_10, eq_self, nI_1]
            refine ihn _ (by omega) (fun c c0 c1 => by rw [au_up2c c0, au_up2c c1]; exact ho c c0 c1) ?_ ?_ (fun i hi => ?_)
            · simp (disch := omega) only [au_up2n]; exact h9
            · simp (disch := omega) only [au_up2e]; rw [hv, List.length_append]; rfl
            · rw [hv, List.length_append] at hi
              simp at hi
              rw [hv, get_app1 hi]
              by_cases e : i = (layTo m l).length
              · simp (disch := omega) only [e, au_up2e, au_up2n, if_true]
              · simp (disch := omega) only [e, au_up2n, if_false]
                exact hr i (by omega)
          have hbits : (nI m &&& (nI (2 ^ l) ||| nI (2 ^ (12 + l))) = 0) ↔ (m.testBit l || m.testBit (12 + l)) = false := by
            rw [fa_or, fa_and]; exact or2_bits hcl.1.1
          simp (disch := omega) only [aw_bipush (pc2 := 56) (y := 12) D197_54 rfl (by decide), aw_icmp_gt (pc2 := 59) (t := 122) D197_56 (by decide) rfl, aw_iload_3 (pc2 := 60) D197_59 rfl, aw_iload_4 (pc2 := 62) D197_60 rfl, aw_is1_2 (pc2 := 65) D197_62 rfl cT_7_170 rfl, aw_iload_4 (pc2 := 67) D197_65 rfl, aw_ineg (pc2 := 68) D197_67 rfl, aw_is1_2 (pc2 := 71) D197_68 rfl cT_7_170 rfl, aw_ior (pc2 := 72) D197_71 rfl, aw_iand (pc2 := 73) D197_72 rfl, aw_if_ne (pc2 := 76) (t := 79) D197_73 (by decide) rfl, sh_122, rf_122_2, sh_125, rf_122_1, sh_124, lit_40, lit_12, rf_122_46, sh_163, refV_s, refV_n, psh_s, psh_n, kil_i, kil_r, kil_n, kil_l, cat_i, cat_r, iOK_1, iOK_5, jOK_2, jOK_6, wOK_e, lOK_1, lOK_2, lOK_3, lOK_4, catS_0, catS_1, catS_2, catS_3, catS_4, and_self, true_and, and_true, true_or, or_true, false_or, or_false, not_true_eq_false, not_false_eq_true, if_true, if_false, ite_int, ite_int0, au_10, eq_self, M_bitOf, b3, b4, hbits, if_neg (nI_nlt (a := 12) (b := l + 1) (by omega) (by decide))]
          cases t1 : m.testBit l with
          | true =>
            rw [t1, if_pos rfl] at hle
            have hv : layTo m (l + 1) = layTo m l ++ [((l : Int) + 1)] := by rw [layTo, t1]; rfl
            have := s5 _ hv
            simp at hle
            rw [← b5] at this
            rw [if_pos (by simp)]
            simp (disch := omega) only [aw_aload_0 (pc2 := 80) D197_79 rfl, aw_getR (pc2 := 83) (ci := 7) (fk := 46) D197_80 rfl fT_7_137 rfl, aw_aload_0 (pc2 := 84) D197_83 rfl, aw_getI (pc2 := 87) (ci := 7) (fk := 48) D197_84 rfl fT_7_143 rfl, aw_iload_3 (pc2 := 88) D197_87 rfl, aw_iload_4 (pc2 := 90) D197_88 rfl, aw_is1_2 (pc2 := 93) D197_90 rfl cT_7_170 rfl, aw_iand (pc2 := 94) D197_93 rfl, aw_if_eq (pc2 := 97) (t := 102) D197_94 (by decide) rfl, aw_iload_4 (pc2 := 99) D197_97 rfl, aw_goto (t := 105) D197_99 (by decide), aw_iload_4 (pc2 := 104) D197_102 rfl, aw_ineg (pc2 := 105) D197_104 rfl, aw_iastore (pc2 := 106) D197_105 rfl, aw_aload_0 (pc2 := 107) D197_106 rfl, aw_dup (pc2 := 108) D197_107 rfl, aw_getI (pc2 := 111) (ci := 7) (fk := 48) D197_108 rfl fT_7_143 rfl, aw_iconst (pc2 := 112) (y := 1) D197_111 rfl (by decide), aw_iadd (pc2 := 113) D197_112 rfl, aw_putI (pc2 := 116) (ci := 7) (fk := 48) D197_113 rfl fT_7_143 rfl, sh_122, rf_122_2, sh_125, rf_122_1, sh_124, lit_40, lit_12, rf_122_46, sh_163, refV_s, refV_n, psh_s, psh_n, kil_i, kil_r, kil_n, kil_l, cat_i, cat_r, iOK_1, iOK_5, jOK_2, jOK_6, wOK_e, lOK_1, lOK_2, lOK_3, lOK_4, catS_0, catS_1, catS_2, catS_3, catS_4, and_self, true_and, and_true, true_or, or_true, false_or, or_false, not_true_eq_false, not_false_eq_true, if_true, if_false, ite_int, ite_int0, au_10, eq_self, M_bitOf, b3, h7, bit_test (show l < 31 by omega), t1, au_in, nI_clamp, au_up2n, nI_1, show ¬ (true = false) by decide]
            exact this
          | false =>
            rw [t1, if_neg (by decide)] at hle
            cases t2 : m.testBit (12 + l) with
            | true =>
              rw [t2, if_pos rfl] at hle
              have hv : layTo m (l + 1) = layTo m l ++ [-((l : Int) + 1)] := by rw [layTo, t1, t2]; rfl
              have := s5 _ hv
              simp at hle
              rw [← b6] at this
              rw [if_pos (by simp)]
              simp (disch := omega) only [aw_aload_0 (pc2 := 80) D197_79 rfl, aw_getR (pc2 := 83) (ci := 7) (fk := 46) D197_80 rfl fT_7_137 rfl, aw_aload_0 (pc2 := 84) D197_83 rfl, aw_getI (pc2 := 87) (ci := 7) (fk := 48) D197_84 rfl fT_7_143 rfl, aw_iload_3 (pc2 := 88) D197_87 rfl, aw_iload_4 (pc2 := 90) D197_88 rfl, aw_is1_2 (pc2 := 93) D197_90 rfl cT_7_170 rfl, aw_iand (pc2 := 94) D197_93 rfl, aw_if_eq (pc2 := 97) (t := 102) D197_94 (by decide) rfl, aw_iload_4 (pc2 := 99) D197_97 rfl, aw_goto (t := 105) D197_99 (by decide), aw_iload_4 (pc2 := 104) D197_102 rfl, aw_ineg (pc2 := 105) D197_104 rfl, aw_iastore (pc2 := 106) D197_105 rfl, aw_aload_0 (pc2 := 107) D197_106 rfl, aw_dup (pc2 := 108) D197_107 rfl, aw_getI (pc2 := 111) (ci := 7) (fk := 48) D197_108 rfl fT_7_143 rfl, aw_iconst (pc2 := 112) (y := 1) D197_111 rfl (by decide), aw_iadd (pc2 := 113) D197_112 rfl, aw_putI (pc2 := 116) (ci := 7) (fk := 48) D197_113 rfl fT_7_143 rfl, sh_122, rf_122_2, sh_125, rf_122_1, sh_124, lit_40, lit_12, rf_122_46, sh_163, refV_s, refV_n, psh_s, psh_n, kil_i, kil_r, kil_n, kil_l, cat_i, cat_r, iOK_1, iOK_5, jOK_2, jOK_6, wOK_e, lOK_1, lOK_2, lOK_3, lOK_4, catS_0, catS_1, catS_2, catS_3, catS_4, and_self, true_and, and_true, true_or, or_true, false_or, or_false, not_true_eq_false, not_false_eq_true, if_true, if_false, ite_int, ite_int0, au_10, eq_self, M_bitOf, b3, h7, bit_test (show l < 31 by omega), t1, au_in, nI_clamp, au_up2n, nI_1]
              exact this
            | false =>
              have hv : layTo m (l + 1) = layTo m l := by rw [layTo, t1, t2]; simp
              rw [if_neg (by simp)]
              simp only [aw_goto (t := 116) D197_76 (by decide), aw_iinc_4 (pc2 := 119) (y := 1) D197_116 rfl (by decide), aw_goto (t := 52) D197_119 (by decide), sh_122, rf_122_2, sh_125, rf_122_1, sh_124, lit_40, lit_12, rf_122_46, sh_163, refV_s, refV_n, psh_s, psh_n, kil_i, kil_r, kil_n, kil_l, cat_i, cat_r, iOK_1, iOK_5, jOK_2, jOK_6, wOK_e, lOK_1, lOK_2, lOK_3, lOK_4, catS_0, catS_1, catS_2, catS_3, catS_4, and_self, true_and, and_true, true_or, or_true, false_or, or_false, not_true_eq_false, not_false_eq_true, if_true, if_false, ite_int, ite_int0, au_10, eq_self, nI_1]
              exact ihn _ (by omega) ho h9 (by rw [hv]; exact h7) (by rw [hv]; exact hr)
      refine key 12 0 _ rfl (fun c c0 c1 => by rw [au_up2c c0]) ?_ ?_ (fun i hi => absurd hi (Nat.not_lt_zero _))
      · simp (disch := omega) only [au_up2n]
      · simp (disch := omega) only [au_up2e]; rfl
    · rw [if_neg hc] at hk
      simp (disch := omega) only [aw_iload_1 (pc2 := 1) D197_0 rfl, aw_is1_2 (pc2 := 4) D197_1 rfl cT_7_150 rfl, aw_if_eq (pc2 := 7) (t := 25) D197_4 (by decide) rfl, aw_iload_2 (pc2 := 8) D197_7 rfl, aw_i2l (pc2 := 9) D197_8 rfl, aw_lconst (pc2 := 10) (y := 0) D197_9 rfl (by decide), aw_aload_0 (pc2 := 11) D197_10 rfl, aw_getR (pc2 := 14) (ci := 7) (fk := 2) D197_11 rfl fT_7_16 rfl, aw_iload_1 (pc2 := 15) D197_14 rfl, aw_iaload (pc2 := 16) D197_15 rfl, aw_iconst (pc2 := 17) (y := 1) D197_16 rfl (by decide), aw_isub (pc2 := 18) D197_17 rfl, aw_i2l (pc2 := 19) D197_18 rfl, aw_is3_2 (pc2 := 22) D197_19 rfl cT_7_146 rfl, aw_if_ne (pc2 := 25) (t := 32) D197_22 (by decide) rfl, aw_aload_0 (pc2 := 26) D197_25 rfl, aw_bipush (pc2 := 28) (y := -3) D197_26 rfl (by decide), aw_iv1_0 (pc2 := 31) (o := 7) D197_28 rfl cT_7_154 rfl rfl, aw_iret D197_31 rfl, sh_122, rf_122_2, sh_125, rf_122_1, sh_124, lit_40, lit_12, rf_122_46, sh_163, refV_s, refV_n, psh_s, psh_n, kil_i, kil_r, kil_n, kil_l, cat_i, cat_r, iOK_1, iOK_5, jOK_2, jOK_6, wOK_e, lOK_1, lOK_2, lOK_3, lOK_4, catS_0, catS_1, catS_2, catS_3, catS_4, and_self, true_and, and_true, true_or, or_true, false_or, or_false, not_true_eq_false, not_false_eq_true, if_true, if_false, ite_int, ite_int0, au_10, eq_self, M_isBk hb, M_isIn, M_no3, hh.2.1, au_in, nI_clamp, e0L, fa_wide_le, in_count, if_neg hc]
      first | exact hk.ref h (by omega) (by omega) | (rw [if_neg hc]; exact hk.ref h (by omega) (by omega))
end LayM
