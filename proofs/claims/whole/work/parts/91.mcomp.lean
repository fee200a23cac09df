/-! compile, in the model -/
def chK (b a k : Nat) : Prop := mch b 0 a k ∨ ((a = 132 ∨ a = 161) ∧ k = b)
theorem K_lo {b a k : Nat} (h : a < 122 ∨ 165 ≤ a ∨ a = 163 ∨ a = 130 ∨ (123 ≤ a ∧ a ≤ 129) ∨ (a = 122 ∧ (k = 44 ∨ k = 48))) : ¬ chK b a k := by
  rintro (q | q)
  · rcases q with ⟨q, q2⟩ | ⟨q, -⟩ | (⟨q, -⟩ | ⟨q, -⟩ | ⟨q, -⟩ | ⟨q, -⟩) | q | ⟨q, -⟩ | ⟨q, -⟩ | ⟨q, -⟩ | q <;> omega
  · omega
theorem K_sl {b c a k : Nat} (hb : b < 2) (hc : c < 2) (hne : c ≠ b) (h : inSl c a k) : ¬ chK b a k := by
  intro q
  rcases q with (⟨q, -⟩ | ⟨q, q2⟩ | (⟨q, q2⟩ | ⟨q, q2, q3⟩ | ⟨q, q2, q3⟩ | ⟨q, q2⟩) | q | ⟨q, -⟩ | ⟨q, -⟩ | ⟨q, -⟩ | q) | ⟨q, q2⟩ <;> rcases h with ⟨h, h2⟩ | ⟨h, h2, h3⟩ | ⟨h, h2, h3⟩ | ⟨h, h2, h3⟩ | ⟨h, h2, h3⟩ | ⟨h, h2, h3⟩ <;> omega
theorem minv_setM {σ : SG} {I I' : IT} {b : Nat} {k : BK} (hs : sgOK σ) (h : MInv σ I) (hb : b < 2) (hn : MB b k I') (w : fS (chK b) I I') : MInv (setB σ b k) I' := by
  obtain ⟨h1, h3, h4, h5⟩ := h
  refine ⟨fun c hc => ?_, ?_, fun j a b' => by rw [w 130 j (K_lo (by omega))]; exact h4 j a b', by rw [w 122 44 (K_lo (by omega))]; exact h5⟩
  · show MB c (up1 σ.1 b k c) I'
    by_cases e : c = b
    · subst e; rw [up1_at]; exact hn
    · rw [up1_off e]
      exact (h1 c hc).sl (hs.1 c hc) (fun a k q => w a k (K_sl hb hc e q))
  · cases e : σ.2.1 with
    | none =>
      rw [e] at h3
      rw [show (setB σ b k).2.1 = none from e]
      show I' 122 48 = -1
      rw [w 122 48 (K_lo (by omega))]
      exact h3
    | some r =>
      rw [e] at h3
      rw [show (setB σ b k).2.1 = some r from e]
      show I' 122 48 = nI r.length ∧ ∀ i, i < r.length → I' 163 i = iI (r.getD i 0)
      rw [w 122 48 (K_lo (by omega))]
      exact ⟨h3.1, fun i hi => by rw [w 163 i (K_lo (by omega))]; exact h3.2 i hi⟩
theorem tk1_0 (acc : List Nat) (c : Nat) : tk1 0 acc c = addU acc c := by
  unfold tk1
  rw [Nat.and_zero, if_pos rfl]
  congr 1
  refine Nat.eq_of_testBit_eq (fun i => ?_)
  rw [nclr_bit, show denN 0 = 0 by decide, Nat.zero_testBit]
  simp
section MComp
variable {d Ln : Nat} {I : IT} {J : JT} {K : KT} {σ : SG}
theorem MO_compile {x : Int32} (hs : sgOK σ) (h : MInv σ I) (hk : MPost Ln I J K (oCompile σ x)) : ACall (d + 8) 163 [.ref 122, .int x] (G0 Ln) I J K := by
  rw [ACall_0 (L0 := [.ref 122, .int x, nv, nv]) (show mcs 163 = (0, 0) from rfl) (show entL 163 [.ref 122, .int x] = _ from rfl) rfl (Nat.le_of_ble_eq_true rfl)]
  unfold oCompile at hk
  cases hx : bkOf x with
  | none =>
    simp only [hx] at hk
    obtain ⟨x0, x1⟩ := bkOf_none hx
    simp only [aw_iload_1 (pc2 := 1) D163_0 rfl, aw_is1_2 (pc2 := 4) D163_1 rfl cT_7_150 rfl, aw_if_ne (pc2 := 7) (t := 14) D163_4 (by decide) rfl, aw_aload_0 (pc2 := 8) D163_7 rfl, aw_bipush (pc2 := 10) (y := -3) D163_8 rfl (by decide), aw_iv1_0 (pc2 := 13) (o := 7) D163_10 rfl cT_7_154 rfl rfl, aw_iret D163_13 rfl, sh_122, rf_122_8, sh_131, rf_122_16, sh_139, rf_122_10, sh_133, rf_122_17, sh_140, rf_122_20, sh_142, rf_122_2, sh_125, rf_122_1, sh_124, rf_122_9, sh_132, rf_122_43, sh_161, refV_s, refV_n, psh_s, psh_n, kil_i, kil_r, kil_n, kil_l, cat_i, cat_r, iOK_1, iOK_5, jOK_2, jOK_6, wOK_e, lOK_1, lOK_2, lOK_3, lOK_4, lOK_5, lOK_6, catS_0, catS_1, catS_2, catS_3, catS_4, and_self, true_and, and_true, true_or, or_true, false_or, or_false, not_true_eq_false, not_false_eq_true, if_true, if_false, ite_int, ite_int0, au_10, eq_self, decide_true, decide_false, Bool.true_and, Bool.false_and, M_isBook, M_no3, x0, x1, or_self]
    exact hk.ref h (by omega) (by omega)
  | some b =>
    simp only [hx] at hk
    obtain ⟨hb, rfl⟩ := bkOf_some hx
    have hh := h.1 b hb
    obtain ⟨k1, k2, k3, k4, k5, k6, k7, k8⟩ := hs.1 b hb
    have hak : (σ.1 b).ak < 4096 := Nat.lt_of_lt_of_le k5 (Nat.pow_le_pow_right (by decide) k2)
    have hok : lsOK (σ.1 b).cl := ⟨k3, fun c hc => lowN_wk k2 (k4 c hc).1⟩
    simp (disch := omega) only [aw_iload_1 (pc2 := 1) D163_0 rfl, aw_is1_2 (pc2 := 4) D163_1 rfl cT_7_150 rfl, aw_if_ne (pc2 := 7) (t := 14) D163_4 (by decide) rfl, aw_aload_0 (pc2 := 15) D163_14 rfl, aw_getR (pc2 := 18) (ci := 7) (fk := 8) D163_15 rfl fT_7_34 rfl, aw_iload_1 (pc2 := 19) D163_18 rfl, aw_iconst (pc2 := 20) (y := 0) D163_19 rfl (by decide), aw_iastore (pc2 := 21) D163_20 rfl, aw_aload_0 (pc2 := 22) D163_21 rfl, aw_getR (pc2 := 25) (ci := 7) (fk := 16) D163_22 rfl fT_7_59 rfl, aw_iload_1 (pc2 := 26) D163_25 rfl, aw_iconst (pc2 := 27) (y := 0) D163_26 rfl (by decide), aw_iastore (pc2 := 28) D163_27 rfl, aw_aload_0 (pc2 := 29) D163_28 rfl, aw_getR (pc2 := 32) (ci := 7) (fk := 10) D163_29 rfl fT_7_40 rfl, aw_iload_1 (pc2 := 33) D163_32 rfl, aw_iconst (pc2 := 34) (y := 0) D163_33 rfl (by decide), aw_iastore (pc2 := 35) D163_34 rfl, aw_aload_0 (pc2 := 36) D163_35 rfl, aw_iconst (pc2 := 37) (y := 0) D163_36 rfl (by decide), aw_putI (pc2 := 40) (ci := 7) (fk := 36) D163_37 rfl fT_7_219 rfl, aw_aload_0 (pc2 := 41) D163_40 rfl, aw_iconst (pc2 := 42) (y := 0) D163_41 rfl (by decide), aw_putI (pc2 := 45) (ci := 7) (fk := 37) D163_42 rfl fT_7_222 rfl, aw_aload_0 (pc2 := 46) D163_45 rfl, aw_iconst (pc2 := 47) (y := 0) D163_46 rfl (by decide), aw_putZ (pc2 := 50) (ci := 7) (fk := 18) D163_47 rfl fT_7_191 rfl, aw_iconst (pc2 := 51) (y := 0) D163_50 rfl (by decide), aw_istore_2 (pc2 := 52) D163_51 rfl, refV_s, refV_n, psh_s, psh_n, kil_i, kil_r, kil_n, kil_l, cat_i, cat_r, iOK_1, iOK_5, jOK_2, jOK_6, wOK_e, lOK_1, lOK_2, lOK_3, lOK_4, lOK_5, lOK_6, catS_0, catS_1, catS_2, catS_3, catS_4, and_self, true_and, and_true, true_or, or_true, false_or, or_false, not_true_eq_false, not_false_eq_true, if_true, if_false, ite_int, ite_int0, au_10, eq_self, decide_true, decide_false, Bool.true_and, Bool.false_and, au_in, au_le, au_lt, au_eq, au_lt0, au_ge0, au_le0, au_gt0, au_eq0, au_leT, au_leF, au_ltT, au_ltF, au_eqT, au_eqF, nI_clamp, nI_1, nI_add, pk_mul, au_sub1, au_subc, au_up2e, au_up2n, lit_of, M_isBk hb, sh_122, sh_131, sh_133, sh_139, rf_122_8, rf_122_10, rf_122_16, psh]
    have hst : stepH Ln b d J (fun I' => AW (d + 7) ((G0 Ln).1, (G0 Ln).2.1) K 163 137 [.ref 122, .int (nI b), .int (nI 1), .int (nI (σ.1 b).cl.length)] [] (G0 Ln) I' J) := by
      intro I1 f hf e38 e18 hc
      show AW (d + 7) ((G0 Ln).1, (G0 Ln).2.1) K 163 137 [.ref 122, .int (nI b), .int (nI 1), .int (nI (σ.1 b).cl.length)] [] (G0 Ln) I1 J
      rw [aw_aload_0 (pc2 := 138) D163_137 rfl]
      simp (disch := omega) only [aw_getI (pc2 := 141) (ci := 7) (fk := 38) D163_138 rfl fT_7_206 rfl, aw_if_le (pc2 := 144) (t := 159) D163_141 (by decide) rfl, aw_aload_0 (pc2 := 145) D163_144 rfl, aw_getI (pc2 := 148) (ci := 7) (fk := 18) D163_145 rfl fT_7_191 rfl, aw_if_ne (pc2 := 151) (t := 159) D163_148 (by decide) rfl, aw_aload_0 (pc2 := 152) D163_151 rfl, aw_iload_1 (pc2 := 153) D163_152 rfl, aw_iv1_0 (pc2 := 156) (o := 7) D163_153 rfl cT_7_263 rfl rfl, refV_s, refV_n, psh_s, psh_n, kil_i, kil_r, kil_n, kil_l, cat_i, cat_r, iOK_1, iOK_5, jOK_2, jOK_6, wOK_e, lOK_1, lOK_2, lOK_3, lOK_4, lOK_5, lOK_6, catS_0, catS_1, catS_2, catS_3, catS_4, and_self, true_and, and_true, true_or, or_true, false_or, or_false, not_true_eq_false, not_false_eq_true, if_true, if_false, ite_int, ite_int0, au_10, eq_self, decide_true, decide_false, Bool.true_and, Bool.false_and, au_in, au_le, au_lt, au_eq, au_lt0, au_ge0, au_le0, au_gt0, au_eq0, au_leT, au_leF, au_ltT, au_ltF, au_eqT, au_eqF, nI_clamp, nI_1, nI_add, pk_mul, au_sub1, au_subc, au_up2e, au_up2n, lit_of, sh_122, e38, e18]
      refine hc _ (fun I'' z => ?_)
      simp (disch := omega) only [aw_goto (t := 137) D163_156 (by decide), refV_s, refV_n, psh_s, psh_n, kil_i, kil_r, kil_n, kil_l, cat_i, cat_r, iOK_1, iOK_5, jOK_2, jOK_6, wOK_e, lOK_1, lOK_2, lOK_3, lOK_4, lOK_5, lOK_6, catS_0, catS_1, catS_2, catS_3, catS_4, and_self, true_and, and_true, true_or, or_true, false_or, or_false, not_true_eq_false, not_false_eq_true, if_true, if_false, ite_int, ite_int0, au_10, eq_self, decide_true, decide_false, Bool.true_and, Bool.false_and, psh]
      exact z
    have w0 : fS (chK b) I (up2 (up2 (up2 (up2 (up2 (up2 I 131 b 0) 139 b 0) 133 b 0) 122 36 0) 122 37 0) 122 18 0) := fS.tr (P := chK b) (fS.tr (P := chK b) (fS.tr (P := chK b) (fS.tr (P := chK b) (fS.tr (P := chK b) (fS.up (Or.inl (mch_G (Or.inl ⟨rfl, rfl⟩)))) (fS.up (Or.inl (mch_G (Or.inr (Or.inr (Or.inr ⟨rfl, rfl⟩))))))) (fS.up (Or.inl (mch_133 rfl)))) (fS.up (Or.inl (mch_f (by omega))))) (fS.up (Or.inl (mch_f (by omega))))) (fS.up (Or.inl (mch_f (by omega))))
    have i131 : up2 (up2 (up2 (up2 (up2 (up2 I 131 b 0) 139 b 0) 133 b 0) 122 36 0) 122 37 0) 122 18 0 131 b = 0 := by simp (disch := omega) only [au_up2n, au_up2e]
    have i139 : up2 (up2 (up2 (up2 (up2 (up2 I 131 b 0) 139 b 0) 133 b 0) 122 36 0) 122 37 0) 122 18 0 139 b = 0 := by simp (disch := omega) only [au_up2n, au_up2e]
    have i133 : up2 (up2 (up2 (up2 (up2 (up2 I 131 b 0) 139 b 0) 133 b 0) 122 36 0) 122 37 0) 122 18 0 133 b = 0 := by simp (disch := omega) only [au_up2n, au_up2e]
    have i36 : up2 (up2 (up2 (up2 (up2 (up2 I 131 b 0) 139 b 0) 133 b 0) 122 36 0) 122 37 0) 122 18 0 122 36 = 0 := by simp (disch := omega) only [au_up2n, au_up2e]
    have i37 : up2 (up2 (up2 (up2 (up2 (up2 I 131 b 0) 139 b 0) 133 b 0) 122 36 0) 122 37 0) 122 18 0 122 37 = 0 := by simp (disch := omega) only [au_up2n, au_up2e]
    have i18 : up2 (up2 (up2 (up2 (up2 (up2 I 131 b 0) 139 b 0) 133 b 0) 122 36 0) 122 37 0) 122 18 0 122 18 = 0 := by simp (disch := omega) only [au_up2n, au_up2e]
    generalize up2 (up2 (up2 (up2 (up2 (up2 I 131 b 0) 139 b 0) 133 b 0) 122 36 0) 122 37 0) 122 18 0 = I0 at w0 i131 i139 i133 i36 i37 i18 ⊢
    have hgood : ∀ n S I', mkL (σ.1 b).ak 13 (tkS 0 (σ.1 b).cl) ST0 = some (n, S) → fS (chK b) I I' → cstM b S I' → I' 122 38 = nI 0 → I' 122 39 = nI n → AW (d + 7) ((G0 Ln).1, (G0 Ln).2.1) K 163 137 [.ref 122, .int (nI b), .int (nI 1), .int (nI (σ.1 b).cl.length)] [] (G0 Ln) I' J := by
      intro n S I' z w g e38 e39
      rw [z] at hk
      obtain ⟨c1, c2, c3, c4, c5⟩ := g
      simp (disch := omega) only [aw_aload_0 (pc2 := 138) D163_137 rfl, aw_getI (pc2 := 141) (ci := 7) (fk := 38) D163_138 rfl fT_7_206 rfl, aw_if_le (pc2 := 144) (t := 159) D163_141 (by decide) rfl, aw_aload_0 (pc2 := 160) D163_159 rfl, aw_getI (pc2 := 163) (ci := 7) (fk := 18) D163_160 rfl fT_7_191 rfl, aw_if_eq (pc2 := 166) (t := 180) D163_163 (by decide) rfl, aw_aload_0 (pc2 := 167) D163_166 rfl, aw_getR (pc2 := 170) (ci := 7) (fk := 8) D163_167 rfl fT_7_34 rfl, aw_iload_1 (pc2 := 171) D163_170 rfl, aw_iconst (pc2 := 172) (y := 0) D163_171 rfl (by decide), aw_iastore (pc2 := 173) D163_172 rfl, aw_aload_0 (pc2 := 174) D163_173 rfl, aw_bipush (pc2 := 176) (y := -9) D163_174 rfl (by decide), aw_iv1_0 (pc2 := 179) (o := 7) D163_176 rfl cT_7_154 rfl rfl, aw_iret D163_179 rfl, aw_aload_0 (pc2 := 181) D163_180 rfl, aw_getR (pc2 := 184) (ci := 7) (fk := 9) D163_181 rfl fT_7_37 rfl, aw_iload_1 (pc2 := 185) D163_184 rfl, aw_aload_0 (pc2 := 186) D163_185 rfl, aw_getI (pc2 := 189) (ci := 7) (fk := 39) D163_186 rfl fT_7_212 rfl, aw_iastore (pc2 := 190) D163_189 rfl, aw_aload_0 (pc2 := 191) D163_190 rfl, aw_getR (pc2 := 194) (ci := 7) (fk := 43) D163_191 rfl fT_7_127 rfl, aw_iload_1 (pc2 := 195) D163_194 rfl, aw_iconst (pc2 := 196) (y := 0) D163_195 rfl (by decide), aw_bastore (pc2 := 197) D163_196 rfl, aw_aload_0 (pc2 := 198) D163_197 rfl, aw_getR (pc2 := 201) (ci := 7) (fk := 8) D163_198 rfl fT_7_34 rfl, aw_iload_1 (pc2 := 202) D163_201 rfl, aw_iaload (pc2 := 203) D163_202 rfl, aw_iret D163_203 rfl, refV_s, refV_n, psh_s, psh_n, kil_i, kil_r, kil_n, kil_l, cat_i, cat_r, iOK_1, iOK_5, jOK_2, jOK_6, wOK_e, lOK_1, lOK_2, lOK_3, lOK_4, lOK_5, lOK_6, catS_0, catS_1, catS_2, catS_3, catS_4, and_self, true_and, and_true, true_or, or_true, false_or, or_false, not_true_eq_false, not_false_eq_true, if_true, if_false, ite_int, ite_int0, au_10, eq_self, decide_true, decide_false, Bool.true_and, Bool.false_and, au_in, au_le, au_lt, au_eq, au_lt0, au_ge0, au_le0, au_gt0, au_eq0, au_leT, au_leF, au_ltT, au_ltF, au_eqT, au_eqF, nI_clamp, nI_1, nI_add, pk_mul, au_sub1, au_subc, au_up2e, au_up2n, lit_of, sh_122, sh_131, sh_132, sh_161, rf_122_8, rf_122_9, rf_122_43, e38, e39, c3]
      rw [c1.1]
      have w2 : fS (chK b) I (up2 (up2 I' 132 b (nI n)) 161 b 0) := fS.tr (P := chK b) w (fS.tr (P := chK b) (fS.up (Or.inr ⟨Or.inl rfl, rfl⟩)) (fS.up (Or.inr ⟨Or.inr rfl, rfl⟩)))
      have hm : MInv (setB σ b ((σ.1 b).N, (σ.1 b).cl, (σ.1 b).ak, (σ.1 b).fx, (σ.1 b).wt, some (S.1, n, S.2.1))) (up2 (up2 I' 132 b (nI n)) 161 b 0) := by
        refine minv_setM hs h hb ⟨?_, ?_, fun i hi => ?_, ?_, ?_, ?_, fun p hp => ?_, ?_⟩ w2
        · rw [w2 123 b (K_lo (by omega))]; exact hh.1
        · rw [w2 125 b (K_lo (by omega))]; exact hh.2.1
        · rw [w2 124 _ (K_lo (by omega))]; exact hh.2.2.1 i hi
        · rw [w2 126 b (K_lo (by omega))]; exact hh.2.2.2.1
        · rw [w2 127 b (K_lo (by omega))]; exact hh.2.2.2.2.1
        · rw [w2 128 b (K_lo (by omega))]; exact hh.2.2.2.2.2.1
        · rw [w2 129 _ (K_lo (by omega))]; exact hh.2.2.2.2.2.2.1 p hp
        · refine ⟨?_, ?_, ?_, fun i hi => ?_, Or.inl au_up2⟩
          · rw [au_up2c (by decide), au_up2c (by decide)]; exact c1.1
          · rw [au_up2c (by decide), au_up2]
          · rw [au_up2c (by decide), au_up2c (by decide)]; exact c2
          · rw [au_up2c (by decide), au_up2c (by decide), au_up2c (by decide), au_up2c (by decide), au_up2c (by decide), au_up2c (by decide), au_up2c (by decide), au_up2c (by decide), au_up2c (by decide), au_up2c (by decide)]
            exact c1.2.2 i hi
      exact hk _ _ hm (fun c hc => funext (fun k => w2 c k (K_lo (by omega)))) FrM.rf
    have hbad : ∀ I', mkL (σ.1 b).ak 13 (tkS 0 (σ.1 b).cl) ST0 = none → fS (chK b) I I' → sptM b I' → AW (d + 7) ((G0 Ln).1, (G0 Ln).2.1) K 163 137 [.ref 122, .int (nI b), .int (nI 1), .int (nI (σ.1 b).cl.length)] [] (G0 Ln) I' J := by
      intro I' z w g
      rw [z] at hk
      simp (disch := omega) only [aw_aload_0 (pc2 := 138) D163_137 rfl, aw_getI (pc2 := 141) (ci := 7) (fk := 38) D163_138 rfl fT_7_206 rfl, aw_if_le (pc2 := 144) (t := 159) D163_141 (by decide) rfl, aw_aload_0 (pc2 := 145) D163_144 rfl, aw_getI (pc2 := 148) (ci := 7) (fk := 18) D163_145 rfl fT_7_191 rfl, aw_if_ne (pc2 := 151) (t := 159) D163_148 (by decide) rfl, aw_aload_0 (pc2 := 160) D163_159 rfl, aw_getI (pc2 := 163) (ci := 7) (fk := 18) D163_160 rfl fT_7_191 rfl, aw_if_eq (pc2 := 166) (t := 180) D163_163 (by decide) rfl, aw_aload_0 (pc2 := 167) D163_166 rfl, aw_getR (pc2 := 170) (ci := 7) (fk := 8) D163_167 rfl fT_7_34 rfl, aw_iload_1 (pc2 := 171) D163_170 rfl, aw_iconst (pc2 := 172) (y := 0) D163_171 rfl (by decide), aw_iastore (pc2 := 173) D163_172 rfl, aw_aload_0 (pc2 := 174) D163_173 rfl, aw_bipush (pc2 := 176) (y := -9) D163_174 rfl (by decide), aw_iv1_0 (pc2 := 179) (o := 7) D163_176 rfl cT_7_154 rfl rfl, refV_s, refV_n, psh_s, psh_n, kil_i, kil_r, kil_n, kil_l, cat_i, cat_r, iOK_1, iOK_5, jOK_2, jOK_6, wOK_e, lOK_1, lOK_2, lOK_3, lOK_4, lOK_5, lOK_6, catS_0, catS_1, catS_2, catS_3, catS_4, and_self, true_and, and_true, true_or, or_true, false_or, or_false, not_true_eq_false, not_false_eq_true, if_true, if_false, ite_int, ite_int0, au_10, eq_self, decide_true, decide_false, Bool.true_and, Bool.false_and, au_in, au_le, au_lt, au_eq, au_lt0, au_ge0, au_le0, au_gt0, au_eq0, au_leT, au_leF, au_ltT, au_ltF, au_eqT, au_eqF, nI_clamp, nI_1, nI_add, pk_mul, au_sub1, au_subc, au_up2e, au_up2n, lit_of, sh_122, sh_131, rf_122_8, g.1]
      have w2 : fS (chK b) I (up2 I' 131 b 0) := fS.tr (P := chK b) w (fS.up (Or.inl (mch_G (Or.inl ⟨rfl, rfl⟩))))
      have hm : MInv (setB σ b ((σ.1 b).N, (σ.1 b).cl, (σ.1 b).ak, (σ.1 b).fx, (σ.1 b).wt, none)) (up2 I' 131 b 0) := by
        refine minv_setM hs h hb ⟨?_, ?_, fun i hi => ?_, ?_, ?_, ?_, fun p hp => ?_, ?_⟩ w2
        · rw [w2 123 b (K_lo (by omega))]; exact hh.1
        · rw [w2 125 b (K_lo (by omega))]; exact hh.2.1
        · rw [w2 124 _ (K_lo (by omega))]; exact hh.2.2.1 i hi
        · rw [w2 126 b (K_lo (by omega))]; exact hh.2.2.2.1
        · rw [w2 127 b (K_lo (by omega))]; exact hh.2.2.2.2.1
        · rw [w2 128 b (K_lo (by omega))]; exact hh.2.2.2.2.2.1
        · rw [w2 129 _ (K_lo (by omega))]; exact hh.2.2.2.2.2.2.1 p hp
        · exact au_up2
      have hr := hm.ref (k := 9) (by omega) (by omega)
      have hfin : ACall (d + 7) 125 [.ref 122, .int (-9)] (G0 Ln) (up2 I' 131 b 0) J (fun v G I J => AW (d + 7) ((G0 Ln).1, (G0 Ln).2.1) K 163 179 [.ref 122, .int (nI b), .int (nI 1), .int (nI (σ.1 b).cl.length)] (psh v []) G I J) := by
        rw [M_no9 (d := d + 6)]
        simp (disch := omega) only [aw_iret D163_179 rfl, refV_s, refV_n, psh_s, psh_n, kil_i, kil_r, kil_n, kil_l, cat_i, cat_r, iOK_1, iOK_5, jOK_2, jOK_6, wOK_e, lOK_1, lOK_2, lOK_3, lOK_4, lOK_5, lOK_6, catS_0, catS_1, catS_2, catS_3, catS_4, and_self, true_and, and_true, true_or, or_true, false_or, or_false, not_true_eq_false, not_false_eq_true, if_true, if_false, ite_int, ite_int0, au_10, eq_self, decide_true, decide_false, Bool.true_and, Bool.false_and, psh]
        exact hk _ _ hr (fun c hc => by rw [up2_off (by omega)]; exact funext (fun k => w2 c k (K_lo (by omega)))) FrM.rf
      split
      · exact hfin
      · exact hfin
    have lit : ∀ n i I', i + n = 24 → (∀ a, a ≠ 140 → I' a = I0 a) → (∀ c, c < i → I' 140 c = -1) → (∀ I'', (∀ a, a ≠ 140 → I'' a = I0 a) → (∀ c, c < 24 → I'' 140 c = -1) → ∀ v, AW (d + 7) ((G0 Ln).1, (G0 Ln).2.1) K 163 71 [.ref 122, .int (nI b), v, nv] [] (G0 Ln) I'' J) → AW (d + 7) ((G0 Ln).1, (G0 Ln).2.1) K 163 52 [.ref 122, .int (nI b), .int (nI i), nv] [] (G0 Ln) I' J := by
      intro n
      induction n with
      | zero =>
        intro i I' hi ho hc hend
        have e : i = 24 := by omega
        subst e
        simp (disch := omega) only [aw_iload_2 (pc2 := 53) D163_52 rfl, aw_bipush (pc2 := 55) (y := 24) D163_53 rfl (by decide), aw_icmp_ge (pc2 := 58) (t := 71) D163_55 (by decide) rfl, refV_s, refV_n, psh_s, psh_n, kil_i, kil_r, kil_n, kil_l, cat_i, cat_r, iOK_1, iOK_5, jOK_2, jOK_6, wOK_e, lOK_1, lOK_2, lOK_3, lOK_4, lOK_5, lOK_6, catS_0, catS_1, catS_2, catS_3, catS_4, and_self, true_and, and_true, true_or, or_true, false_or, or_false, not_true_eq_false, not_false_eq_true, if_true, if_false, ite_int, ite_int0, au_10, eq_self, decide_true, decide_false, Bool.true_and, Bool.false_and, au_in, au_le, au_lt, au_eq, au_lt0, au_ge0, au_le0, au_gt0, au_eq0, au_leT, au_leF, au_ltT, au_ltF, au_eqT, au_eqF, nI_clamp, nI_1, nI_add, pk_mul, au_sub1, au_subc, au_up2e, au_up2n, lit_of, lit_24]
        exact hend I' ho hc _
      | succ n ih =>
        intro i I' hi ho hc hend
        have ihn := ih (i + 1)
        rw [aw_iload_2 (pc2 := 53) D163_52 rfl]
        simp (disch := omega) only [aw_bipush (pc2 := 55) (y := 24) D163_53 rfl (by decide), aw_icmp_ge (pc2 := 58) (t := 71) D163_55 (by decide) rfl, aw_aload_0 (pc2 := 59) D163_58 rfl, aw_getR (pc2 := 62) (ci := 7) (fk := 17) D163_59 rfl fT_7_62 rfl, aw_iload_2 (pc2 := 63) D163_62 rfl, aw_iconst (pc2 := 64) (y := -1) D163_63 rfl (by decide), aw_iastore (pc2 := 65) D163_64 rfl, aw_iinc_2 (pc2 := 68) (y := 1) D163_65 rfl (by decide), aw_goto (t := 52) D163_68 (by decide), refV_s, refV_n, psh_s, psh_n, kil_i, kil_r, kil_n, kil_l, cat_i, cat_r, iOK_1, iOK_5, jOK_2, jOK_6, wOK_e, lOK_1, lOK_2, lOK_3, lOK_4, lOK_5, lOK_6, catS_0, catS_1, catS_2, catS_3, catS_4, and_self, true_and, and_true, true_or, or_true, false_or, or_false, not_true_eq_false, not_false_eq_true, if_true, if_false, ite_int, ite_int0, au_10, eq_self, decide_true, decide_false, Bool.true_and, Bool.false_and, au_in, au_le, au_lt, au_eq, au_lt0, au_ge0, au_le0, au_gt0, au_eq0, au_leT, au_leF, au_ltT, au_ltF, au_eqT, au_eqF, nI_clamp, nI_1, nI_add, pk_mul, au_sub1, au_subc, au_up2e, au_up2n, lit_of, lit_24, sh_122, sh_140, rf_122_17]
        refine ihn _ (by omega) (fun a a1 => by rw [up2_off a1]; exact ho a a1) (fun c hc2 => ?_) hend
        by_cases e : c = i
        · simp (disch := omega) only [e, au_up2e]
        · simp (disch := omega) only [au_up2n]; exact hc c (by omega)
    refine lit 24 0 I0 rfl (fun _ _ => rfl) (fun c hc => absurd hc (Nat.not_lt_zero _)) (fun I1 o1 l1 v => ?_)
    have g0 : grM b [] I1 := ⟨by rw [o1 131 (by decide)]; exact i131, by rw [o1 139 (by decide)]; exact i139, fun i hi => absurd hi (Nat.not_lt_zero _)⟩
    simp (disch := omega) only [aw_aload_0 (pc2 := 72) D163_71 rfl, aw_iload_1 (pc2 := 73) D163_72 rfl, aw_iconst (pc2 := 74) (y := 0) D163_73 rfl (by decide), aw_iconst (pc2 := 75) (y := 0) D163_74 rfl (by decide), aw_iv3_0 (pc2 := 78) (o := 7) D163_75 rfl cT_7_228 rfl rfl, refV_s, refV_n, psh_s, psh_n, kil_i, kil_r, kil_n, kil_l, cat_i, cat_r, iOK_1, iOK_5, jOK_2, jOK_6, wOK_e, lOK_1, lOK_2, lOK_3, lOK_4, lOK_5, lOK_6, catS_0, catS_1, catS_2, catS_3, catS_4, and_self, true_and, and_true, true_or, or_true, false_or, or_false, not_true_eq_false, not_false_eq_true, if_true, if_false, ite_int, ite_int0, au_10, eq_self, decide_true, decide_false, Bool.true_and, Bool.false_and, au_in, au_le, au_lt, au_eq, au_lt0, au_ge0, au_le0, au_gt0, au_eq0, au_leT, au_leF, au_ltT, au_ltF, au_eqT, au_eqF, nI_clamp, nI_1, nI_add, pk_mul, au_sub1, au_subc, au_up2e, au_up2n, lit_of, sh_122]
    refine M_comes (d := d + 6) (k := 0) (s := 0) (nds := []) hb (by decide) (fun i hi => absurd hi (Nat.not_lt_zero _)) (by decide) rfl g0 (fun I2 f2 g2 => ?_)
    simp (disch := omega) only [aw_aload_0 (pc2 := 79) D163_78 rfl, aw_iload_1 (pc2 := 80) D163_79 rfl, aw_iconst (pc2 := 81) (y := 1) D163_80 rfl (by decide), aw_iconst (pc2 := 82) (y := 0) D163_81 rfl (by decide), aw_iv3_0 (pc2 := 85) (o := 7) D163_82 rfl cT_7_228 rfl rfl, refV_s, refV_n, psh_s, psh_n, kil_i, kil_r, kil_n, kil_l, cat_i, cat_r, iOK_1, iOK_5, jOK_2, jOK_6, wOK_e, lOK_1, lOK_2, lOK_3, lOK_4, lOK_5, lOK_6, catS_0, catS_1, catS_2, catS_3, catS_4, and_self, true_and, and_true, true_or, or_true, false_or, or_false, not_true_eq_false, not_false_eq_true, if_true, if_false, ite_int, ite_int0, au_10, eq_self, decide_true, decide_false, Bool.true_and, Bool.false_and, au_in, au_le, au_lt, au_eq, au_lt0, au_ge0, au_le0, au_gt0, au_eq0, au_leT, au_leF, au_ltT, au_ltF, au_eqT, au_eqF, nI_clamp, nI_1, nI_add, pk_mul, au_sub1, au_subc, au_up2e, au_up2n, lit_of, sh_122, psh]
    refine M_comes (d := d + 6) (k := 1) (s := 0) hb (by decide) (fun i hi => ?_) (by decide) rfl g2 (fun I3 f3 g3 => ?_)
    · have : i = 0 := by have hi : i < 1 := hi; omega
      subst this; exact Nat.zero_le _
    simp (disch := omega) only [aw_iadd (pc2 := 86) D163_85 rfl, aw_istore_2 (pc2 := 87) D163_86 rfl, aw_aload_0 (pc2 := 88) D163_87 rfl, aw_getR (pc2 := 91) (ci := 7) (fk := 20) D163_88 rfl fT_7_68 rfl, aw_iconst (pc2 := 92) (y := 0) D163_91 rfl (by decide), aw_iconst (pc2 := 93) (y := 0) D163_92 rfl (by decide), aw_iastore (pc2 := 94) D163_93 rfl, aw_iconst (pc2 := 95) (y := 0) D163_94 rfl (by decide), aw_istore_3 (pc2 := 96) D163_95 rfl, refV_s, refV_n, psh_s, psh_n, kil_i, kil_r, kil_n, kil_l, cat_i, cat_r, iOK_1, iOK_5, jOK_2, jOK_6, wOK_e, lOK_1, lOK_2, lOK_3, lOK_4, lOK_5, lOK_6, catS_0, catS_1, catS_2, catS_3, catS_4, and_self, true_and, and_true, true_or, or_true, false_or, or_false, not_true_eq_false, not_false_eq_true, if_true, if_false, ite_int, ite_int0, au_10, eq_self, decide_true, decide_false, Bool.true_and, Bool.false_and, au_in, au_le, au_lt, au_eq, au_lt0, au_ge0, au_le0, au_gt0, au_eq0, au_leT, au_leF, au_ltT, au_ltF, au_eqT, au_eqF, nI_clamp, nI_1, nI_add, pk_mul, au_sub1, au_subc, au_up2e, au_up2n, lit_of, sh_122, sh_142, rf_122_20, psh, vp_0, nc_0]
    have w4 : fS (chK b) I (up2 I3 142 0 0) := fS.tr (P := chK b) (fS.tr (P := chK b) (fS.tr (P := chK b) (fS.tr (P := chK b) w0 (fun a k q => by rw [o1 a (fun e => q (by rw [e]; exact Or.inl mch_140))])) (f2.wk (fun a k q => Or.inl (mch_G q)))) (f3.wk (fun a k q => Or.inl (mch_G q)))) (fS.up (Or.inl (mch_1 (by omega) (by omega))))
    have o3 : ∀ a k, ¬ chG b a k → a ≠ 140 → a ≠ 142 → up2 I3 142 0 0 a k = I0 a k := fun a k q e1 e2 => by rw [au_up2c e2, f3 a k q, f2 a k q, o1 a e1]
    have g4 : cstM b ST0 (up2 I3 142 0 0) := by
      refine ⟨grM_cong (fun a k q => by rw [au_up2c (by unfold chG at q; omega)]) (by decide) (po_cap (stC_0 (σ.1 b).N).1) g3, ?_, ?_, fun i hi => ?_, ?_, ?_, fun i hi => absurd hi (Nat.not_lt_zero _)⟩
      · rw [o3 133 b (by unfold chG; omega) (by decide) (by decide)]; exact i133
      · rw [o3 122 18 (by unfold chG; omega) (by decide) (by decide)]; exact i18
      · rw [au_up2c (by decide), f3 140 i (by unfold chG; omega), f2 140 i (by unfold chG; omega)]; exact l1 i hi
      · rw [o3 122 36 (by unfold chG; omega) (by decide) (by decide)]; exact i36
      · rw [o3 122 37 (by unfold chG; omega) (by decide) (by decide)]; exact i37
    have i142 : up2 I3 142 0 0 142 0 = 0 := au_up2
    show AW (d + 7) ((G0 Ln).1, (G0 Ln).2.1) K 163 96 [.ref 122, .int (nI b), .int (nI 1), .int (nI 0)] [] (G0 Ln) (up2 I3 142 0 0) J
    generalize up2 I3 142 0 0 = I4 at w4 g4 i142 ⊢
    have key : ∀ n i I', i + n = (σ.1 b).cl.length → fS (chLs 0) I4 I' → I' 142 0 = nI (((σ.1 b).cl.take i).foldl (tk1 0) []).length → lsA 141 (40 * 0) (((σ.1 b).cl.take i).foldl (tk1 0) []) I' → AW (d + 7) ((G0 Ln).1, (G0 Ln).2.1) K 163 96 [.ref 122, .int (nI b), .int (nI 1), .int (nI i)] [] (G0 Ln) I' J := by
      intro n
      induction n with
      | zero =>
        intro i I' hi w5 o55 ol
        have e : i = (σ.1 b).cl.length := by omega
        subst e
        rw [List.take_length] at o55 ol
        have h125 : I' 125 b = nI (σ.1 b).cl.length := by rw [w5 125 b (by unfold chLs; omega), w4 125 b (K_lo (by omega))]; exact hh.2.1
        have h126 : I' 126 b = nI (σ.1 b).ak := by rw [w5 126 b (by unfold chLs; omega), w4 126 b (K_lo (by omega))]; exact hh.2.2.2.1
        simp (disch := omega) only [aw_iload_3 (pc2 := 97) D163_96 rfl, aw_aload_0 (pc2 := 98) D163_97 rfl, aw_getR (pc2 := 101) (ci := 7) (fk := 2) D163_98 rfl fT_7_16 rfl, aw_iload_1 (pc2 := 102) D163_101 rfl, aw_iaload (pc2 := 103) D163_102 rfl, aw_icmp_ge (pc2 := 106) (t := 128) D163_103 (by decide) rfl, aw_aload_0 (pc2 := 129) D163_128 rfl, aw_iconst (pc2 := 130) (y := 1) D163_129 rfl (by decide), aw_putI (pc2 := 133) (ci := 7) (fk := 38) D163_130 rfl fT_7_206 rfl, aw_aload_0 (pc2 := 134) D163_133 rfl, aw_iv0_0 (pc2 := 137) (o := 7) D163_134 rfl cT_7_225 rfl rfl, refV_s, refV_n, psh_s, psh_n, kil_i, kil_r, kil_n, kil_l, cat_i, cat_r, iOK_1, iOK_5, jOK_2, jOK_6, wOK_e, lOK_1, lOK_2, lOK_3, lOK_4, lOK_5, lOK_6, catS_0, catS_1, catS_2, catS_3, catS_4, and_self, true_and, and_true, true_or, or_true, false_or, or_false, not_true_eq_false, not_false_eq_true, if_true, if_false, ite_int, ite_int0, au_10, eq_self, decide_true, decide_false, Bool.true_and, Bool.false_and, au_in, au_le, au_lt, au_eq, au_lt0, au_ge0, au_le0, au_gt0, au_eq0, au_leT, au_leF, au_ltT, au_ltF, au_eqT, au_eqF, nI_clamp, nI_1, nI_add, pk_mul, au_sub1, au_subc, au_up2e, au_up2n, lit_of, sh_122, sh_125, rf_122_2, h125]
        have h12 : lc (tkS 0 (σ.1 b).cl) ≤ 12 := lc_le
        have hr12 := room_le (lc (tkS 0 (σ.1 b).cl)) (by omega) 12 (by omega) (by omega)
        have hro : room (lc (tkS 0 (σ.1 b).cl)) ST0 := by
          obtain ⟨t1, t2⟩ := room_12
          refine ⟨?_, ?_⟩
          · show 0 + _ ≤ _; omega
          · show 0 + _ ≤ _; omega
        have w6 : fS (chK b) I (up2 I' 122 38 1) := fS.tr (P := chK b) (fS.tr (P := chK b) w4 (w5.wk (fun a k q => Or.inl (chLs_mch (Nat.le_refl _) q)))) (fS.up (Or.inl (mch_f (by omega))))
        refine M_run (D := d) k2 hb hak hst 13 0 rfl (tkS 0 (σ.1 b).cl) ST0 _ (d + 3) _ (clow_ls k3 k4) (by omega) (stC_0 _) hro ?_ ?_ ?_ ?_ ?_ (fun I'' z => ?_) (fun n S I'' z w7 g7 e38 e39 => ?_) (fun I'' z w7 g7 => ?_)
        · exact au_up2
        · rw [au_up2c (by decide)]; exact o55
        · exact fun j hj => by rw [au_up2c (by decide)]; exact ol j hj
        · refine cstM_cong (stC_0 (σ.1 b).N).1 (fun a k q => ?_) g4
          rw [au_up2n (by unfold chS chG at q; omega), w5 a k (by unfold chS chG at q; unfold chLs; omega)]
        · rw [au_up2c (by decide)]; exact h126
        · simp (disch := omega) only [psh]
          exact z
        · exact hgood n S I'' z (w6.tr (w7.wk (fun a k q => Or.inl q))) g7 e38 e39
        · exact hbad I'' z (w6.tr (w7.wk (fun a k q => Or.inl q))) g7
      | succ n ih =>
        intro i I' hi w5 o55 ol
        have hil : i < (σ.1 b).cl.length := by omega
        have ihn := ih (i + 1)
        rw [fold_take_succ _ hil, tk1_0] at ihn
        have h125 : I' 125 b = nI (σ.1 b).cl.length := by rw [w5 125 b (by unfold chLs; omega), w4 125 b (K_lo (by omega))]; exact hh.2.1
        have h124 : I' 124 (40 * b + i) = nI ((σ.1 b).cl.getD i 0) := by rw [w5 124 _ (by unfold chLs; omega), w4 124 _ (K_lo (by omega))]; exact hh.2.2.1 i hil
        have hal : (((σ.1 b).cl.take i).foldl (tk1 0) []).length ≤ i := by
          have := tk_fold_len 0 ((σ.1 b).cl.take i) []
          rw [List.length_nil, List.length_take] at this
          omega
        have hax : ∀ x, x ∈ ((σ.1 b).cl.take i).foldl (tk1 0) [] → x < 2 ^ 24 := fun x hx => by
          rcases (tk_fold_mem 0 x ((σ.1 b).cl.take i) []).mp hx with h | ⟨c, h1, -, h3⟩
          · cases h
          · rw [h3]; exact (clC_sub (hok.2 c (List.mem_of_mem_take h1))).1
        rw [aw_iload_3 (pc2 := 97) D163_96 rfl]
        simp (disch := omega) only [aw_aload_0 (pc2 := 98) D163_97 rfl, aw_getR (pc2 := 101) (ci := 7) (fk := 2) D163_98 rfl fT_7_16 rfl, aw_iload_1 (pc2 := 102) D163_101 rfl, aw_iaload (pc2 := 103) D163_102 rfl, aw_icmp_ge (pc2 := 106) (t := 128) D163_103 (by decide) rfl, aw_aload_0 (pc2 := 107) D163_106 rfl, aw_iconst (pc2 := 108) (y := 0) D163_107 rfl (by decide), aw_aload_0 (pc2 := 109) D163_108 rfl, aw_getR (pc2 := 112) (ci := 7) (fk := 1) D163_109 rfl fT_7_13 rfl, aw_bipush (pc2 := 114) (y := 40) D163_112 rfl (by decide), aw_iload_1 (pc2 := 115) D163_114 rfl, aw_imul (pc2 := 116) D163_115 rfl, aw_iload_3 (pc2 := 117) D163_116 rfl, aw_iadd (pc2 := 118) D163_117 rfl, aw_iaload (pc2 := 119) D163_118 rfl, aw_iv2_0 (pc2 := 122) (o := 7) D163_119 rfl cT_7_196 rfl rfl, refV_s, refV_n, psh_s, psh_n, kil_i, kil_r, kil_n, kil_l, cat_i, cat_r, iOK_1, iOK_5, jOK_2, jOK_6, wOK_e, lOK_1, lOK_2, lOK_3, lOK_4, lOK_5, lOK_6, catS_0, catS_1, catS_2, catS_3, catS_4, and_self, true_and, and_true, true_or, or_true, false_or, or_false, not_true_eq_false, not_false_eq_true, if_true, if_false, ite_int, ite_int0, au_10, eq_self, decide_true, decide_false, Bool.true_and, Bool.false_and, au_in, au_le, au_lt, au_eq, au_lt0, au_ge0, au_le0, au_gt0, au_eq0, au_leT, au_leF, au_ltT, au_ltF, au_eqT, au_eqF, nI_clamp, nI_1, nI_add, pk_mul, au_sub1, au_subc, au_up2e, au_up2n, lit_of, lit_40, sh_122, sh_124, sh_125, rf_122_1, rf_122_2, h125, h124]
        refine M_addsTo (d := d + 6) (f := 0) (by decide) hax (hok.2 _ (getD_mem hil)).1 (by omega) o55 ol (fun I'' p1 p3 p4 => ?_)
        simp (disch := omega) only [aw_iinc_3 (pc2 := 125) (y := 1) D163_122 rfl (by decide), aw_goto (t := 96) D163_125 (by decide), refV_s, refV_n, psh_s, psh_n, kil_i, kil_r, kil_n, kil_l, cat_i, cat_r, iOK_1, iOK_5, jOK_2, jOK_6, wOK_e, lOK_1, lOK_2, lOK_3, lOK_4, lOK_5, lOK_6, catS_0, catS_1, catS_2, catS_3, catS_4, and_self, true_and, and_true, true_or, or_true, false_or, or_false, not_true_eq_false, not_false_eq_true, if_true, if_false, ite_int, ite_int0, au_10, eq_self, decide_true, decide_false, Bool.true_and, Bool.false_and, au_in, au_le, au_lt, au_eq, au_lt0, au_ge0, au_le0, au_gt0, au_eq0, au_leT, au_leF, au_ltT, au_ltF, au_eqT, au_eqF, nI_clamp, nI_1, nI_add, pk_mul, au_sub1, au_subc, au_up2e, au_up2n, lit_of, psh]
        exact ihn I'' (by omega) (w5.tr (p1.wk (fun a k q => by unfold chA1 at q; unfold chLs; omega))) p3 p4
    exact key _ 0 I4 (Nat.zero_add _) fS.rf i142 (fun j hj => absurd hj (Nat.not_lt_zero _))
end MComp
