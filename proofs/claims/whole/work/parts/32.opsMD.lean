theorem le0 {s : Int32} : s ≤ 0 ↔ s.toInt ≤ 0 := by
  rw [fa_le]
  exact Iff.rfl
theorem let_all : ∀ n : Nat, n < 25 → n ≠ 12 → letC (bitM (iI ((n : Int) - 12))) = nI (2 ^ (((n : Int) - 12).natAbs - 1)) := by decide
theorem let_bit {N : Nat} {x : Int32} (hN : N ≤ 12) (h : okS N x) : letC (bitM x) = nI (2 ^ (x.toInt.natAbs - 1)) := by
  obtain ⟨h0, h1, h2⟩ := (okS_toInt hN).mp h
  have hn := let_all (x.toInt + 12).toNat (by omega) (by omega)
  have e : (((x.toInt + 12).toNat : Nat) : Int) - 12 = x.toInt := by omega
  rw [e] at hn
  have ex : iI x.toInt = x := Int32.ofInt_toInt x
  rw [ex] at hn
  exact hn
theorem fx_pos {fx p : Nat} (hp : p < 12) : (nclr fx (2 ^ (12 + p)) ||| 2 ^ p) % 4096 = fx % 4096 ||| 2 ^ p ∧ (nclr fx (2 ^ (12 + p)) ||| 2 ^ p) / 4096 = nclr (fx / 4096) (2 ^ p) := by
  constructor
  · apply Nat.eq_of_testBit_eq
    intro i
    rw [tb_mod, Nat.testBit_or, Nat.testBit_or, nclr_bit, tb_mod, tb_pow, tb_pow]
    by_cases hi : i < 12
    · have : ¬ 12 + p = i := by omega
      simp [hi, this]
    · have : ¬ p = i := by omega
      simp [hi, this]
  · apply Nat.eq_of_testBit_eq
    intro i
    rw [tb_div, Nat.testBit_or, nclr_bit, nclr_bit, tb_div, tb_pow, tb_pow, tb_pow]
    have : ¬ p = 12 + i := by omega
    have e : (12 + p = 12 + i) ↔ (p = i) := by omega
    simp [this, e]
theorem fx_neg {fx p : Nat} (hp : p < 12) : (nclr fx (2 ^ p) ||| 2 ^ (12 + p)) % 4096 = nclr (fx % 4096) (2 ^ p) ∧ (nclr fx (2 ^ p) ||| 2 ^ (12 + p)) / 4096 = fx / 4096 ||| 2 ^ p := by
  constructor
  · apply Nat.eq_of_testBit_eq
    intro i
    rw [tb_mod, Nat.testBit_or, nclr_bit, nclr_bit, tb_mod, tb_pow, tb_pow]
    by_cases hi : i < 12
    · have : ¬ 12 + p = i := by omega
      simp [hi, this]
    · simp [hi]
  · apply Nat.eq_of_testBit_eq
    intro i
    rw [tb_div, Nat.testBit_or, Nat.testBit_or, nclr_bit, tb_div, tb_pow, tb_pow, tb_pow]
    have : ¬ p = 12 + i := by omega
    have e : (12 + p = 12 + i) ↔ (p = i) := by omega
    simp [this, e]
section OpsMD
variable {d Ln : Nat} {I : IT} {J : JT} {K : KT} {σ : SG}
theorem fix_inv {b fx' : Nat} (hs : sgOK σ) (h : MInv σ I) (hb : b < 2) {u v : Nat} (e1 : fx' % 4096 = u) (e2 : fx' / 4096 = v) : MInv (setB σ b ((σ.1 b).N, (σ.1 b).cl, (σ.1 b).ak, fx', (σ.1 b).wt, (σ.1 b).g)) (up2 (up2 I 127 b (nI u)) 128 b (nI v)) := by
  have hh := h.1 b hb
  refine h.setB hs hb ⟨?_, ?_, fun i hi => ?_, ?_, ?_, ?_, fun p hp => ?_, ?_⟩ (fun c hc hne => (SlM.up (not_sl hne ⟨by omega, rfl⟩)).tr (SlM.up (not_sl hne ⟨by omega, rfl⟩))) ?_ ?_ ?_
  · simp [up2_ap]; exact hh.1
  · simp [up2_ap]; exact hh.2.1
  · rw [up2_off (by omega), up2_off (by omega)]; exact hh.2.2.1 i hi
  · simp [up2_ap]; exact hh.2.2.2.1
  · simp only [up2_ap, Nat.reduceEqDiff, if_true, if_false]; exact congrArg nI e1.symm
  · simp only [up2_ap, Nat.reduceEqDiff, if_true, if_false]; exact congrArg nI e2.symm
  · simp [up2_ap]; exact hh.2.2.2.2.2.2.1 p hp
  · exact (show MGo b (σ.1 b).N (σ.1 b).g _ from MBg hh (fun c hc => by rw [up2_off (by omega), up2_off (by omega)]))
  · rw [up2_off (by omega), up2_off (by omega)]
  · rw [up2_off (by omega), up2_off (by omega)]
  · rw [up2_off (by omega), up2_off (by omega)]
theorem MO_fix {x s : Int32} (hs : sgOK σ) (h : MInv σ I) (hk : MPost Ln I J K (oFix σ x s)) : ACall (d + 3) 140 [.ref 122, .int x, .int s] (G0 Ln) I J K := by
  rw [ACall_0 (L0 := [.ref 122, .int x, .int s, nv, nv, nv]) (show mcs 140 = (0, 0) from rfl) (show entL 140 [.ref 122, .int x, .int s] = _ from rfl) rfl (Nat.le_of_ble_eq_true rfl)]
  unfold oFix at hk
  cases hx : bkOf x with
  | none =>
    simp only [hx] at hk
    obtain ⟨x0, x1⟩ := bkOf_none hx
    simp only [aw_iload_1 (pc2 := 1) D140_0 rfl, aw_is1_2 (pc2 := 4) D140_1 rfl cT_7_150 rfl, aw_if_eq (pc2 := 7) (t := 16) D140_4 (by decide) rfl, aw_aload_0 (pc2 := 8) D140_7 rfl, aw_iload_1 (pc2 := 9) D140_8 rfl, aw_iload_2 (pc2 := 10) D140_9 rfl, aw_iv2_0 (pc2 := 13) (o := 7) D140_10 rfl cT_7_163 rfl rfl, aw_if_ne (pc2 := 16) (t := 23) D140_13 (by decide) rfl, aw_aload_0 (pc2 := 17) D140_16 rfl, aw_bipush (pc2 := 19) (y := -3) D140_17 rfl (by decide), aw_iv1_0 (pc2 := 22) (o := 7) D140_19 rfl cT_7_154 rfl rfl, aw_iret D140_22 rfl, M_isBook, M_no3, sh_122, psh_s, catS_0, and_self, true_and, x0, x1, or_self, if_false, if_true, not_true_eq_false]
    exact hk.ref h (by omega) (by omega)
  | some b =>
    simp only [hx] at hk
    obtain ⟨hb, rfl⟩ := bkOf_some hx
    have hh := h.1 b hb
    have hN := (hs.1 b hb).2.1
    have hv : vp_in (nI b) 2 := vp_in_nI hb (by decide)
    by_cases ho : okS (σ.1 b).N s
    · rw [ifT ho] at hk
      obtain ⟨g0, g1, g2⟩ := (okS_toInt hN).mp ho
      have hp : s.toInt.natAbs - 1 < 12 := by omega
      have hlow := (hs.1 b hb).2.2.2.2.2.1
      generalize hpp : s.toInt.natAbs - 1 = p at hp
      have tb1 : ((σ.1 b).fx % 4096).testBit p = (σ.1 b).fx.testBit p := by rw [tb_mod]; simp [hp]
      have tb2 : ((σ.1 b).fx / 4096).testBit p = (σ.1 b).fx.testBit (12 + p) := tb_div
      have hcon : ¬ ((σ.1 b).fx.testBit p = true ∧ (σ.1 b).fx.testBit (12 + p) = true) := (hlow.2 p hp).2.2
      by_cases hz : s ≤ 0
      · have hneg : s.toInt < 0 := by rw [le0] at hz; omega
        have ep : plN s.toInt = 12 + p := by unfold plN; rw [if_pos (by omega)]; omega
        have eq : plN (-s.toInt) = p := by unfold plN; rw [if_neg (by omega)]; omega
        rw [ep, eq] at hk
        simp only [aw_iload_1 (pc2 := 1) D140_0 rfl, aw_is1_2 (pc2 := 4) D140_1 rfl cT_7_150 rfl, aw_if_eq (pc2 := 7) (t := 16) D140_4 (by decide) rfl, aw_aload_0 (pc2 := 8) D140_7 rfl, aw_iload_1 (pc2 := 9) D140_8 rfl, aw_iload_2 (pc2 := 10) D140_9 rfl, aw_iv2_0 (pc2 := 13) (o := 7) D140_10 rfl cT_7_163 rfl rfl, aw_if_ne (pc2 := 16) (t := 23) D140_13 (by decide) rfl, aw_aload_0 (pc2 := 17) D140_16 rfl, aw_bipush (pc2 := 19) (y := -3) D140_17 rfl (by decide), aw_iv1_0 (pc2 := 22) (o := 7) D140_19 rfl cT_7_154 rfl rfl, aw_iret D140_22 rfl, aw_iload_2 (pc2 := 24) D140_23 rfl, aw_is1_2 (pc2 := 27) D140_24 rfl cT_7_170 rfl, aw_is1_2 (pc2 := 30) D140_27 rfl cT_7_183 rfl, aw_istore_3 (pc2 := 31) D140_30 rfl, aw_iload_2 (pc2 := 32) D140_31 rfl, aw_if_le (pc2 := 35) (t := 44) D140_32 (by decide) rfl, aw_aload_0 (pc2 := 36) D140_35 rfl, aw_getR (pc2 := 39) (ci := 7) (fk := 4) D140_36 rfl fT_7_22 rfl, aw_iload_1 (pc2 := 40) D140_39 rfl, aw_iaload (pc2 := 41) D140_40 rfl, aw_goto (t := 50) D140_41 (by decide), aw_aload_0 (pc2 := 45) D140_44 rfl, aw_getR (pc2 := 48) (ci := 7) (fk := 5) D140_45 rfl fT_7_25 rfl, aw_iload_1 (pc2 := 49) D140_48 rfl, aw_iaload (pc2 := 50) D140_49 rfl, aw_iload_3 (pc2 := 51) D140_50 rfl, aw_iand (pc2 := 52) D140_51 rfl, aw_if_eq (pc2 := 55) (t := 59) D140_52 (by decide) rfl, aw_iconst (pc2 := 56) (y := 1) D140_55 rfl (by decide), aw_goto (t := 60) D140_56 (by decide), aw_iconst (pc2 := 60) (y := 0) D140_59 rfl (by decide), aw_istore_4 (pc2 := 62) D140_60 rfl, aw_iload_2 (pc2 := 63) D140_62 rfl, aw_if_le (pc2 := 66) (t := 75) D140_63 (by decide) rfl, aw_aload_0 (pc2 := 67) D140_66 rfl, aw_getR (pc2 := 70) (ci := 7) (fk := 5) D140_67 rfl fT_7_25 rfl, aw_iload_1 (pc2 := 71) D140_70 rfl, aw_iaload (pc2 := 72) D140_71 rfl, aw_goto (t := 81) D140_72 (by decide), aw_aload_0 (pc2 := 76) D140_75 rfl, aw_getR (pc2 := 79) (ci := 7) (fk := 4) D140_76 rfl fT_7_22 rfl, aw_iload_1 (pc2 := 80) D140_79 rfl, aw_iaload (pc2 := 81) D140_80 rfl, aw_iload_3 (pc2 := 82) D140_81 rfl, aw_iand (pc2 := 83) D140_82 rfl, aw_if_eq (pc2 := 86) (t := 90) D140_83 (by decide) rfl, aw_iconst (pc2 := 87) (y := 1) D140_86 rfl (by decide), aw_goto (t := 91) D140_87 (by decide), aw_iconst (pc2 := 91) (y := 0) D140_90 rfl (by decide), aw_istore_5 (pc2 := 93) D140_91 rfl, aw_aload_0 (pc2 := 94) D140_93 rfl, aw_getR (pc2 := 97) (ci := 7) (fk := 4) D140_94 rfl fT_7_22 rfl, aw_iload_1 (pc2 := 98) D140_97 rfl, aw_iload_2 (pc2 := 99) D140_98 rfl, aw_if_le (pc2 := 102) (t := 113) D140_99 (by decide) rfl, aw_aload_0 (pc2 := 103) D140_102 rfl, aw_getR (pc2 := 106) (ci := 7) (fk := 4) D140_103 rfl fT_7_22 rfl, aw_iload_1 (pc2 := 107) D140_106 rfl, aw_iaload (pc2 := 108) D140_107 rfl, aw_iload_3 (pc2 := 109) D140_108 rfl, aw_ior (pc2 := 110) D140_109 rfl, aw_goto (t := 123) D140_110 (by decide), aw_aload_0 (pc2 := 114) D140_113 rfl, aw_getR (pc2 := 117) (ci := 7) (fk := 4) D140_114 rfl fT_7_22 rfl, aw_iload_1 (pc2 := 118) D140_117 rfl, aw_iaload (pc2 := 119) D140_118 rfl, aw_iload_3 (pc2 := 120) D140_119 rfl, aw_iconst (pc2 := 121) (y := -1) D140_120 rfl (by decide), aw_ixor (pc2 := 122) D140_121 rfl, aw_iand (pc2 := 123) D140_122 rfl, aw_iastore (pc2 := 124) D140_123 rfl, aw_aload_0 (pc2 := 125) D140_124 rfl, aw_getR (pc2 := 128) (ci := 7) (fk := 5) D140_125 rfl fT_7_25 rfl, aw_iload_1 (pc2 := 129) D140_128 rfl, aw_iload_2 (pc2 := 130) D140_129 rfl, aw_if_le (pc2 := 133) (t := 146) D140_130 (by decide) rfl, aw_aload_0 (pc2 := 134) D140_133 rfl, aw_getR (pc2 := 137) (ci := 7) (fk := 5) D140_134 rfl fT_7_25 rfl, aw_iload_1 (pc2 := 138) D140_137 rfl, aw_iaload (pc2 := 139) D140_138 rfl, aw_iload_3 (pc2 := 140) D140_139 rfl, aw_iconst (pc2 := 141) (y := -1) D140_140 rfl (by decide), aw_ixor (pc2 := 142) D140_141 rfl, aw_iand (pc2 := 143) D140_142 rfl, aw_goto (t := 154) D140_143 (by decide), aw_aload_0 (pc2 := 147) D140_146 rfl, aw_getR (pc2 := 150) (ci := 7) (fk := 5) D140_147 rfl fT_7_25 rfl, aw_iload_1 (pc2 := 151) D140_150 rfl, aw_iaload (pc2 := 152) D140_151 rfl, aw_iload_3 (pc2 := 153) D140_152 rfl, aw_ior (pc2 := 154) D140_153 rfl, aw_iastore (pc2 := 155) D140_154 rfl, aw_iload_4 (pc2 := 157) D140_155 rfl, aw_if_eq (pc2 := 160) (t := 164) D140_157 (by decide) rfl, aw_iconst (pc2 := 161) (y := 0) D140_160 rfl (by decide), aw_goto (t := 174) D140_161 (by decide), aw_iload_5 (pc2 := 166) D140_164 rfl, aw_if_eq (pc2 := 169) (t := 173) D140_166 (by decide) rfl, aw_iconst (pc2 := 170) (y := 2) D140_169 rfl (by decide), aw_goto (t := 174) D140_170 (by decide), aw_iconst (pc2 := 174) (y := 1) D140_173 rfl (by decide), aw_iret D140_174 rfl, M_isBook, M_isSign hb hh.1, M_bitOf, M_lettersOf, let_bit hN ho, hpp, M_no3, sh_122, sh_127, sh_128, rf_122_4, rf_122_5, refV_s, psh_s, kil_i, kil_n, kil_r, iOK_1, wOK_e, catS_0, catS_1, and_self, true_and, if_pos (book01 hb), ite_int, ite_int0, ifT ho, hv, nI_clamp (show b < 2 ^ 31 by omega), hh.2.2.2.2.1, hh.2.2.2.2.2.1, nI_nclr, fa_or, bit_test (show p < 31 by omega), tb1, tb2, if_pos hz, up2_ap, Nat.reduceEqDiff, if_false, if_true, if_neg (show ¬ (1 : Int32) = 0 by decide), if_pos (show ¬ (1 : Int32) = 0 by decide)]
        obtain ⟨f1, f2⟩ := fx_neg (fx := (σ.1 b).fx) hp
        have hc := fix_inv hs h hb f1 f2
        cases e1 : (σ.1 b).fx.testBit (12 + p)
        · rw [e1, if_neg (by decide)] at hk
          have key := hk _ _ hc ((FrM.up (by omega)).tr (FrM.up (by omega))) FrM.rf
          cases e2 : (σ.1 b).fx.testBit p
          · rw [e2, if_neg (by decide)] at key
            simpa using key
          · rw [e2, if_pos rfl] at key
            simpa using key
        · rw [e1, if_pos rfl] at hk
          have e2 : (σ.1 b).fx.testBit p = false := by
            cases e2 : (σ.1 b).fx.testBit p
            · rfl
            · exact absurd ⟨e2, e1⟩ hcon
          rw [nclr_same (by rw [tb1]; exact e2), up2_id (f := I) hh.2.2.2.2.1.symm, or_pow_same (by rw [tb2]; exact e1), up2_id hh.2.2.2.2.2.1.symm]
          have key := hk.same h
          simpa [e2] using key
      · have hpos : 0 < s.toInt := by rw [le0] at hz; omega
        have ep : plN s.toInt = p := by unfold plN; rw [if_neg (by omega)]; omega
        have eq : plN (-s.toInt) = 12 + p := by unfold plN; rw [if_pos (by omega)]; omega
        rw [ep, eq] at hk
        simp only [aw_iload_1 (pc2 := 1) D140_0 rfl, aw_is1_2 (pc2 := 4) D140_1 rfl cT_7_150 rfl, aw_if_eq (pc2 := 7) (t := 16) D140_4 (by decide) rfl, aw_aload_0 (pc2 := 8) D140_7 rfl, aw_iload_1 (pc2 := 9) D140_8 rfl, aw_iload_2 (pc2 := 10) D140_9 rfl, aw_iv2_0 (pc2 := 13) (o := 7) D140_10 rfl cT_7_163 rfl rfl, aw_if_ne (pc2 := 16) (t := 23) D140_13 (by decide) rfl, aw_aload_0 (pc2 := 17) D140_16 rfl, aw_bipush (pc2 := 19) (y := -3) D140_17 rfl (by decide), aw_iv1_0 (pc2 := 22) (o := 7) D140_19 rfl cT_7_154 rfl rfl, aw_iret D140_22 rfl, aw_iload_2 (pc2 := 24) D140_23 rfl, aw_is1_2 (pc2 := 27) D140_24 rfl cT_7_170 rfl, aw_is1_2 (pc2 := 30) D140_27 rfl cT_7_183 rfl, aw_istore_3 (pc2 := 31) D140_30 rfl, aw_iload_2 (pc2 := 32) D140_31 rfl, aw_if_le (pc2 := 35) (t := 44) D140_32 (by decide) rfl, aw_aload_0 (pc2 := 36) D140_35 rfl, aw_getR (pc2 := 39) (ci := 7) (fk := 4) D140_36 rfl fT_7_22 rfl, aw_iload_1 (pc2 := 40) D140_39 rfl, aw_iaload (pc2 := 41) D140_40 rfl, aw_goto (t := 50) D140_41 (by decide), aw_aload_0 (pc2 := 45) D140_44 rfl, aw_getR (pc2 := 48) (ci := 7) (fk := 5) D140_45 rfl fT_7_25 rfl, aw_iload_1 (pc2 := 49) D140_48 rfl, aw_iaload (pc2 := 50) D140_49 rfl, aw_iload_3 (pc2 := 51) D140_50 rfl, aw_iand (pc2 := 52) D140_51 rfl, aw_if_eq (pc2 := 55) (t := 59) D140_52 (by decide) rfl, aw_iconst (pc2 := 56) (y := 1) D140_55 rfl (by decide), aw_goto (t := 60) D140_56 (by decide), aw_iconst (pc2 := 60) (y := 0) D140_59 rfl (by decide), aw_istore_4 (pc2 := 62) D140_60 rfl, aw_iload_2 (pc2 := 63) D140_62 rfl, aw_if_le (pc2 := 66) (t := 75) D140_63 (by decide) rfl, aw_aload_0 (pc2 := 67) D140_66 rfl, aw_getR (pc2 := 70) (ci := 7) (fk := 5) D140_67 rfl fT_7_25 rfl, aw_iload_1 (pc2 := 71) D140_70 rfl, aw_iaload (pc2 := 72) D140_71 rfl, aw_goto (t := 81) D140_72 (by decide), aw_aload_0 (pc2 := 76) D140_75 rfl, aw_getR (pc2 := 79) (ci := 7) (fk := 4) D140_76 rfl fT_7_22 rfl, aw_iload_1 (pc2 := 80) D140_79 rfl, aw_iaload (pc2 := 81) D140_80 rfl, aw_iload_3 (pc2 := 82) D140_81 rfl, aw_iand (pc2 := 83) D140_82 rfl, aw_if_eq (pc2 := 86) (t := 90) D140_83 (by decide) rfl, aw_iconst (pc2 := 87) (y := 1) D140_86 rfl (by decide), aw_goto (t := 91) D140_87 (by decide), aw_iconst (pc2 := 91) (y := 0) D140_90 rfl (by decide), aw_istore_5 (pc2 := 93) D140_91 rfl, aw_aload_0 (pc2 := 94) D140_93 rfl, aw_getR (pc2 := 97) (ci := 7) (fk := 4) D140_94 rfl fT_7_22 rfl, aw_iload_1 (pc2 := 98) D140_97 rfl, aw_iload_2 (pc2 := 99) D140_98 rfl, aw_if_le (pc2 := 102) (t := 113) D140_99 (by decide) rfl, aw_aload_0 (pc2 := 103) D140_102 rfl, aw_getR (pc2 := 106) (ci := 7) (fk := 4) D140_103 rfl fT_7_22 rfl, aw_iload_1 (pc2 := 107) D140_106 rfl, aw_iaload (pc2 := 108) D140_107 rfl, aw_iload_3 (pc2 := 109) D140_108 rfl, aw_ior (pc2 := 110) D140_109 rfl, aw_goto (t := 123) D140_110 (by decide), aw_aload_0 (pc2 := 114) D140_113 rfl, aw_getR (pc2 := 117) (ci := 7) (fk := 4) D140_114 rfl fT_7_22 rfl, aw_iload_1 (pc2 := 118) D140_117 rfl, aw_iaload (pc2 := 119) D140_118 rfl, aw_iload_3 (pc2 := 120) D140_119 rfl, aw_iconst (pc2 := 121) (y := -1) D140_120 rfl (by decide), aw_ixor (pc2 := 122) D140_121 rfl, aw_iand (pc2 := 123) D140_122 rfl, aw_iastore (pc2 := 124) D140_123 rfl, aw_aload_0 (pc2 := 125) D140_124 rfl, aw_getR (pc2 := 128) (ci := 7) (fk := 5) D140_125 rfl fT_7_25 rfl, aw_iload_1 (pc2 := 129) D140_128 rfl, aw_iload_2 (pc2 := 130) D140_129 rfl, aw_if_le (pc2 := 133) (t := 146) D140_130 (by decide) rfl, aw_aload_0 (pc2 := 134) D140_133 rfl, aw_getR (pc2 := 137) (ci := 7) (fk := 5) D140_134 rfl fT_7_25 rfl, aw_iload_1 (pc2 := 138) D140_137 rfl, aw_iaload (pc2 := 139) D140_138 rfl, aw_iload_3 (pc2 := 140) D140_139 rfl, aw_iconst (pc2 := 141) (y := -1) D140_140 rfl (by decide), aw_ixor (pc2 := 142) D140_141 rfl, aw_iand (pc2 := 143) D140_142 rfl, aw_goto (t := 154) D140_143 (by decide), aw_aload_0 (pc2 := 147) D140_146 rfl, aw_getR (pc2 := 150) (ci := 7) (fk := 5) D140_147 rfl fT_7_25 rfl, aw_iload_1 (pc2 := 151) D140_150 rfl, aw_iaload (pc2 := 152) D140_151 rfl, aw_iload_3 (pc2 := 153) D140_152 rfl, aw_ior (pc2 := 154) D140_153 rfl, aw_iastore (pc2 := 155) D140_154 rfl, aw_iload_4 (pc2 := 157) D140_155 rfl, aw_if_eq (pc2 := 160) (t := 164) D140_157 (by decide) rfl, aw_iconst (pc2 := 161) (y := 0) D140_160 rfl (by decide), aw_goto (t := 174) D140_161 (by decide), aw_iload_5 (pc2 := 166) D140_164 rfl, aw_if_eq (pc2 := 169) (t := 173) D140_166 (by decide) rfl, aw_iconst (pc2 := 170) (y := 2) D140_169 rfl (by decide), aw_goto (t := 174) D140_170 (by decide), aw_iconst (pc2 := 174) (y := 1) D140_173 rfl (by decide), aw_iret D140_174 rfl, M_isBook, M_isSign hb hh.1, M_bitOf, M_lettersOf, let_bit hN ho, hpp, M_no3, sh_122, sh_127, sh_128, rf_122_4, rf_122_5, refV_s, psh_s, kil_i, kil_n, kil_r, iOK_1, wOK_e, catS_0, catS_1, and_self, true_and, if_pos (book01 hb), ite_int, ite_int0, ifT ho, hv, nI_clamp (show b < 2 ^ 31 by omega), hh.2.2.2.2.1, hh.2.2.2.2.2.1, nI_nclr, fa_or, bit_test (show p < 31 by omega), tb1, tb2, if_neg hz, up2_ap, Nat.reduceEqDiff, if_false, if_true, if_neg (show ¬ (1 : Int32) = 0 by decide), if_pos (show ¬ (1 : Int32) = 0 by decide)]
        obtain ⟨f1, f2⟩ := fx_pos (fx := (σ.1 b).fx) hp
        have hc := fix_inv hs h hb f1 f2
        cases e1 : (σ.1 b).fx.testBit p
        · rw [e1, if_neg (by decide)] at hk
          have key := hk _ _ hc ((FrM.up (by omega)).tr (FrM.up (by omega))) FrM.rf
          cases e2 : (σ.1 b).fx.testBit (12 + p)
          · rw [e2, if_neg (by decide)] at key
            simpa using key
          · rw [e2, if_pos rfl] at key
            simpa using key
        · rw [e1, if_pos rfl] at hk
          have e2 : (σ.1 b).fx.testBit (12 + p) = false := by
            cases e2 : (σ.1 b).fx.testBit (12 + p)
            · rfl
            · exact absurd ⟨e1, e2⟩ hcon
          rw [or_pow_same (by rw [tb1]; exact e1), up2_id (f := I) hh.2.2.2.2.1.symm, nclr_same (by rw [tb2]; exact e2), up2_id hh.2.2.2.2.2.1.symm]
          have key := hk.same h
          simpa [e2] using key
    · rw [if_neg ho] at hk
      simp only [aw_iload_1 (pc2 := 1) D140_0 rfl, aw_is1_2 (pc2 := 4) D140_1 rfl cT_7_150 rfl, aw_if_eq (pc2 := 7) (t := 16) D140_4 (by decide) rfl, aw_aload_0 (pc2 := 8) D140_7 rfl, aw_iload_1 (pc2 := 9) D140_8 rfl, aw_iload_2 (pc2 := 10) D140_9 rfl, aw_iv2_0 (pc2 := 13) (o := 7) D140_10 rfl cT_7_163 rfl rfl, aw_if_ne (pc2 := 16) (t := 23) D140_13 (by decide) rfl, aw_aload_0 (pc2 := 17) D140_16 rfl, aw_bipush (pc2 := 19) (y := -3) D140_17 rfl (by decide), aw_iv1_0 (pc2 := 22) (o := 7) D140_19 rfl cT_7_154 rfl rfl, aw_iret D140_22 rfl, M_isBook, M_isSign hb hh.1, M_no3, sh_122, psh_s, catS_0, and_self, true_and, if_pos (book01 hb), ite_int, if_neg ho, if_neg (show ¬ (1 : Int32) = 0 by decide)]
      first | exact hk.ref h (by omega) (by omega) | (rw [if_neg (by decide)]; exact hk.ref h (by omega) (by omega))
end OpsMD
