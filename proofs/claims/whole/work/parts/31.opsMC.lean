theorem sl_fil {b b' : Nat} {I : IT} {f : Nat → Int32} (hne : b' ≠ b) (n : Nat) (hn : n ≤ 24) : SlM b' I (fun c k => if c = 129 ∧ 24 * b ≤ k ∧ k < 24 * b + n then 1 else I c k) := by
  intro c k hc
  show (if c = 129 ∧ 24 * b ≤ k ∧ k < 24 * b + n then (1 : Int32) else I c k) = I c k
  rw [if_neg]
  unfold inSl at hc
  omega
/-- n places of a cell from place a on get one value -/
def filA {α : Type} (f : Nat → Nat → α) (c a n : Nat) (v : α) : Nat → Nat → α := fun x k => if x = c ∧ a ≤ k ∧ k < a + n then v else f x k
theorem filA_0 {α : Type} {f : Nat → Nat → α} {c a : Nat} {v : α} : filA f c a 0 v = f := by
  funext x k; unfold filA; rw [if_neg (by omega)]
theorem filA_s {α : Type} {f : Nat → Nat → α} {c a n : Nat} {v : α} : up2 (filA f c a n v) c (a + n) v = filA f c a (n + 1) v := by
  funext x k
  rw [up2_ap]
  unfold filA
  by_cases hx : x = c
  · subst hx
    rw [if_pos rfl]
    by_cases hk : k = a + n
    · rw [if_pos hk, if_pos (by omega)]
    · rw [if_neg hk]
      by_cases hl : a ≤ k ∧ k < a + n
      · rw [if_pos (by omega), if_pos (by omega)]
      · rw [if_neg (by omega), if_neg (by omega)]
  · rw [if_neg hx, if_neg (by omega), if_neg (by omega)]
theorem filA_off {α : Type} {f : Nat → Nat → α} {c a n x : Nat} {v : α} (h : x ≠ c) : filA f c a n v x = f x := by
  funext k; unfold filA; rw [if_neg (by omega)]
theorem filA_in {α : Type} {f : Nat → Nat → α} {c a n k : Nat} {v : α} (h1 : a ≤ k) (h2 : k < a + n) : filA f c a n v c k = v := if_pos ⟨rfl, h1, h2⟩
theorem filA_out {α : Type} {f : Nat → Nat → α} {c a n k : Nat} {v : α} (h : k < a ∨ a + n ≤ k) : filA f c a n v c k = f c k := if_neg (by omega)
section OpsMC
variable {d Ln : Nat} {I : IT} {J : JT} {K : KT} {σ : SG}
theorem ge1_n {n : Int32} (h : 1 ≤ n) : ¬ n < 0 := fun z => by
  have := lt01 z
  rw [fa_lt] at this
  rw [fa_le] at h
  omega
theorem book01 {b : Nat} (hb : b < 2) : nI b = 0 ∨ nI b = 1 := by
  rcases (show b = 0 ∨ b = 1 by omega) with rfl | rfl
  · exact Or.inl rfl
  · exact Or.inr rfl
theorem ite_int {α : Type} {p : Prop} {D : Decidable p} {a b : α} : (if ¬ (@ite Int32 p D 1 0) = 0 then a else b) = @ite α p D a b := by
  by_cases h : p
  · simp [h]
  · simp [h]
theorem ite_int0 {α : Type} {p : Prop} {D : Decidable p} {a b : α} : (if (@ite Int32 p D 1 0) = 0 then a else b) = @ite α p D b a := by
  by_cases h : p
  · simp [h]
  · simp [h]
theorem MO_weight {x s w : Int32} (hs : sgOK σ) (h : MInv σ I) (hk : MPost Ln I J K (oWeight σ x s w)) : ACall (d + 3) 143 [.ref 122, .int x, .int s, .int w] (G0 Ln) I J K := by
  rw [ACall_0 (L0 := [.ref 122, .int x, .int s, .int w, nv]) (show mcs 143 = (0, 0) from rfl) (show entL 143 [.ref 122, .int x, .int s, .int w] = _ from rfl) rfl (Nat.le_of_ble_eq_true rfl)]
  unfold oWeight at hk
  cases hx : bkOf x with
  | none =>
    simp only [hx] at hk
    obtain ⟨x0, x1⟩ := bkOf_none hx
    simp only [aw_iload_1 (pc2 := 1) D143_0 rfl, aw_is1_2 (pc2 := 4) D143_1 rfl cT_7_150 rfl, aw_if_eq (pc2 := 7) (t := 16) D143_4 (by decide) rfl, aw_aload_0 (pc2 := 8) D143_7 rfl, aw_iload_1 (pc2 := 9) D143_8 rfl, aw_iload_2 (pc2 := 10) D143_9 rfl, aw_iv2_0 (pc2 := 13) (o := 7) D143_10 rfl cT_7_163 rfl rfl, aw_if_ne (pc2 := 16) (t := 23) D143_13 (by decide) rfl, aw_aload_0 (pc2 := 17) D143_16 rfl, aw_bipush (pc2 := 19) (y := -3) D143_17 rfl (by decide), aw_iv1_0 (pc2 := 22) (o := 7) D143_19 rfl cT_7_154 rfl rfl, aw_iret D143_22 rfl, M_isBook, M_no3, sh_122, psh_s, catS_0, and_self, true_and, x0, x1, or_self, if_false, if_true, not_true_eq_false]
    exact hk.ref h (by omega) (by omega)
  | some b =>
    simp only [hx] at hk
    obtain ⟨hb, rfl⟩ := bkOf_some hx
    have hh := h.1 b hb
    have hN := (hs.1 b hb).2.1
    have hv : vp_in (nI b) 2 := vp_in_nI hb (by decide)
    simp only [aw_iload_1 (pc2 := 1) D143_0 rfl, aw_is1_2 (pc2 := 4) D143_1 rfl cT_7_150 rfl, aw_if_eq (pc2 := 7) (t := 16) D143_4 (by decide) rfl, aw_aload_0 (pc2 := 8) D143_7 rfl, aw_iload_1 (pc2 := 9) D143_8 rfl, aw_iload_2 (pc2 := 10) D143_9 rfl, aw_iv2_0 (pc2 := 13) (o := 7) D143_10 rfl cT_7_163 rfl rfl, aw_if_ne (pc2 := 16) (t := 23) D143_13 (by decide) rfl, aw_aload_0 (pc2 := 17) D143_16 rfl, aw_bipush (pc2 := 19) (y := -3) D143_17 rfl (by decide), aw_iv1_0 (pc2 := 22) (o := 7) D143_19 rfl cT_7_154 rfl rfl, aw_iret D143_22 rfl, aw_iload_3 (pc2 := 24) D143_23 rfl, aw_i2l (pc2 := 25) D143_24 rfl, aw_lconst (pc2 := 26) (y := 0) D143_25 rfl (by decide), aw_ldc2_w (pc2 := 29) (v := 7) D143_26 rfl (by decide), aw_is3_2 (pc2 := 32) D143_29 rfl cT_7_146 rfl, aw_if_ne (pc2 := 35) (t := 42) D143_32 (by decide) rfl, aw_aload_0 (pc2 := 36) D143_35 rfl, aw_bipush (pc2 := 38) (y := -7) D143_36 rfl (by decide), aw_iv1_0 (pc2 := 41) (o := 7) D143_38 rfl cT_7_154 rfl rfl, aw_iret D143_41 rfl, aw_aload_0 (pc2 := 43) D143_42 rfl, aw_getR (pc2 := 46) (ci := 7) (fk := 6) D143_43 rfl fT_7_28 rfl, aw_iload_1 (pc2 := 47) D143_46 rfl, aw_iload_2 (pc2 := 48) D143_47 rfl, aw_is2_2 (pc2 := 51) D143_48 rfl cT_7_188 rfl, aw_iaload (pc2 := 52) D143_51 rfl, aw_istore_4 (pc2 := 54) D143_52 rfl, aw_aload_0 (pc2 := 55) D143_54 rfl, aw_getR (pc2 := 58) (ci := 7) (fk := 6) D143_55 rfl fT_7_28 rfl, aw_iload_1 (pc2 := 59) D143_58 rfl, aw_iload_2 (pc2 := 60) D143_59 rfl, aw_is2_2 (pc2 := 63) D143_60 rfl cT_7_188 rfl, aw_iload_3 (pc2 := 64) D143_63 rfl, aw_iastore (pc2 := 65) D143_64 rfl, aw_iload_4 (pc2 := 67) D143_65 rfl, aw_iret D143_67 rfl, M_isBook, M_isSign hb hh.1, M_isIn, M_weightAt, M_no3, M_no7, sh_122, sh_129, rf_122_6, refV_s, psh_s, kil_i, kil_n, kil_r, iOK_1, wOK_e, catS_0, catS_1, catS_2, and_self, true_and, if_pos (book01 hb), ite_int, ite_int0, i64_in (a := 0) (b := 7) (u := 0) (v := 7) (by decide) (by decide), if_neg (show ¬ (1 : Int32) = 0 by decide)]
    by_cases ho : okS (σ.1 b).N s
    · rw [ifT ho] at hk ⊢
      obtain ⟨q1, q2, -⟩ := sgn hN ho
      by_cases h1 : 0 ≤ w ∧ w ≤ 7
      · rw [if_pos h1] at hk ⊢
        have e1 : 24 * nI b + plc s = nI (24 * b + plN s.toInt) := by
          rw [q1, show (24 : Int32) = nI 24 from rfl, pk_mul, nI_add]
        obtain ⟨j, hj, rfl⟩ := nI_of (fun z : w < 0 => by have := h1.1; rw [fa_lt] at z; rw [fa_le] at this; omega)
        rw [nI_clamp hj] at hk
        rw [e1, nI_clamp (by omega), hh.2.2.2.2.2.2.1 _ q2]
        refine ⟨vp_in_nI (by omega) (by decide), vp_in_nI (by omega) (by decide), ?_⟩
        refine hk _ _ (h.setB hs hb ⟨?_, ?_, fun i hi => ?_, ?_, ?_, ?_, fun p hp => ?_, ?_⟩ (fun c hc hne => SlM.up (by unfold inSl; omega)) ?_ ?_ ?_) (FrM.up (by omega)) FrM.rf
        · rw [up2_off (by omega)]; exact hh.1
        · rw [up2_off (by omega)]; exact hh.2.1
        · rw [up2_off (by omega)]; exact hh.2.2.1 i hi
        · rw [up2_off (by omega)]; exact hh.2.2.2.1
        · rw [up2_off (by omega)]; exact hh.2.2.2.2.1
        · rw [up2_off (by omega)]; exact hh.2.2.2.2.2.1
        · rw [up2_f]
          show _ = nI (up1 (σ.1 b).wt (plN s.toInt) j p)
          unfold up1
          by_cases e : p = plN s.toInt
          · simp [e]
          · rw [if_neg (by omega), if_neg e]; exact hh.2.2.2.2.2.2.1 p hp
        · exact (show MGo b (σ.1 b).N (σ.1 b).g _ from MBg hh (fun c hc => up2_off (by omega)))
        · rw [up2_off (by omega)]
        · rw [up2_off (by omega)]
        · rw [up2_off (by omega)]
      · rw [if_neg h1] at hk ⊢
        exact hk.ref h (by omega) (by omega)
    · rw [if_neg ho] at hk ⊢
      exact hk.ref h (by omega) (by omega)
theorem MO_letters {x n : Int32} (hs : sgOK σ) (h : MInv σ I) (hk : MPost Ln I J K (oLetters σ x n)) : ACall (d + 2) 132 [.ref 122, .int x, .int n] (G0 Ln) I J K := by
  rw [ACall_0 (L0 := [.ref 122, .int x, .int n, nv, nv]) (show mcs 132 = (0, 0) from rfl) (show entL 132 [.ref 122, .int x, .int n] = _ from rfl) rfl (Nat.le_of_ble_eq_true rfl)]
  unfold oLetters at hk
  cases hx : bkOf x with
  | none =>
    simp only [hx] at hk
    obtain ⟨x0, x1⟩ := bkOf_none hx
    simp only [aw_iload_1 (pc2 := 1) D132_0 rfl, aw_is1_2 (pc2 := 4) D132_1 rfl cT_7_150 rfl, aw_if_ne (pc2 := 7) (t := 14) D132_4 (by decide) rfl, aw_aload_0 (pc2 := 8) D132_7 rfl, aw_bipush (pc2 := 10) (y := -3) D132_8 rfl (by decide), aw_iv1_0 (pc2 := 13) (o := 7) D132_10 rfl cT_7_154 rfl rfl, aw_iret D132_13 rfl, M_isBook, M_no3, sh_122, psh_s, catS_0, and_self, true_and, x0, x1, or_self, if_false, not_true_eq_false]
    exact hk.ref h (by omega) (by omega)
  | some b =>
    simp only [hx] at hk
    obtain ⟨hb, rfl⟩ := bkOf_some hx
    have hh := h.1 b hb
    have hv : vp_in (nI b) 2 := vp_in_nI hb (by decide)
    simp only [aw_iload_1 (pc2 := 1) D132_0 rfl, aw_is1_2 (pc2 := 4) D132_1 rfl cT_7_150 rfl, aw_if_ne (pc2 := 7) (t := 14) D132_4 (by decide) rfl, aw_aload_0 (pc2 := 8) D132_7 rfl, aw_bipush (pc2 := 10) (y := -3) D132_8 rfl (by decide), aw_iv1_0 (pc2 := 13) (o := 7) D132_10 rfl cT_7_154 rfl rfl, aw_iret D132_13 rfl, aw_iload_2 (pc2 := 15) D132_14 rfl, aw_i2l (pc2 := 16) D132_15 rfl, aw_lconst (pc2 := 17) (y := 1) D132_16 rfl (by decide), aw_ldc2_w (pc2 := 20) (v := 12) D132_17 rfl (by decide), aw_is3_2 (pc2 := 23) D132_20 rfl cT_7_146 rfl, aw_if_ne (pc2 := 26) (t := 33) D132_23 (by decide) rfl, aw_aload_0 (pc2 := 27) D132_26 rfl, aw_bipush (pc2 := 29) (y := -7) D132_27 rfl (by decide), aw_iv1_0 (pc2 := 32) (o := 7) D132_29 rfl cT_7_154 rfl rfl, aw_iret D132_32 rfl, aw_aload_0 (pc2 := 34) D132_33 rfl, aw_getR (pc2 := 37) (ci := 7) (fk := 0) D132_34 rfl fT_7_7 rfl, aw_iload_1 (pc2 := 38) D132_37 rfl, aw_iaload (pc2 := 39) D132_38 rfl, aw_istore_3 (pc2 := 40) D132_39 rfl, aw_aload_0 (pc2 := 41) D132_40 rfl, aw_getR (pc2 := 44) (ci := 7) (fk := 0) D132_41 rfl fT_7_7 rfl, aw_iload_1 (pc2 := 45) D132_44 rfl, aw_iload_2 (pc2 := 46) D132_45 rfl, aw_iastore (pc2 := 47) D132_46 rfl, aw_aload_0 (pc2 := 48) D132_47 rfl, aw_getR (pc2 := 51) (ci := 7) (fk := 2) D132_48 rfl fT_7_16 rfl, aw_iload_1 (pc2 := 52) D132_51 rfl, aw_iconst (pc2 := 53) (y := 0) D132_52 rfl (by decide), aw_iastore (pc2 := 54) D132_53 rfl, aw_aload_0 (pc2 := 55) D132_54 rfl, aw_getR (pc2 := 58) (ci := 7) (fk := 3) D132_55 rfl fT_7_19 rfl, aw_iload_1 (pc2 := 59) D132_58 rfl, aw_iconst (pc2 := 60) (y := 0) D132_59 rfl (by decide), aw_iastore (pc2 := 61) D132_60 rfl, aw_aload_0 (pc2 := 62) D132_61 rfl, aw_getR (pc2 := 65) (ci := 7) (fk := 4) D132_62 rfl fT_7_22 rfl, aw_iload_1 (pc2 := 66) D132_65 rfl, aw_iconst (pc2 := 67) (y := 0) D132_66 rfl (by decide), aw_iastore (pc2 := 68) D132_67 rfl, aw_aload_0 (pc2 := 69) D132_68 rfl, aw_getR (pc2 := 72) (ci := 7) (fk := 5) D132_69 rfl fT_7_25 rfl, aw_iload_1 (pc2 := 73) D132_72 rfl, aw_iconst (pc2 := 74) (y := 0) D132_73 rfl (by decide), aw_iastore (pc2 := 75) D132_74 rfl, aw_iconst (pc2 := 76) (y := 0) D132_75 rfl (by decide), aw_istore_4 (pc2 := 78) D132_76 rfl, aw_bipush (pc2 := 82) (y := 24) D132_80 rfl (by decide), aw_icmp_ge (pc2 := 85) (t := 104) D132_82 (by decide) rfl, aw_aload_0 (pc2 := 86) D132_85 rfl, aw_getR (pc2 := 89) (ci := 7) (fk := 6) D132_86 rfl fT_7_28 rfl, aw_bipush (pc2 := 91) (y := 24) D132_89 rfl (by decide), aw_iload_1 (pc2 := 92) D132_91 rfl, aw_imul (pc2 := 93) D132_92 rfl, aw_iload_4 (pc2 := 95) D132_93 rfl, aw_iadd (pc2 := 96) D132_95 rfl, aw_iconst (pc2 := 97) (y := 1) D132_96 rfl (by decide), aw_iastore (pc2 := 98) D132_97 rfl, aw_iinc_4 (pc2 := 101) (y := 1) D132_98 rfl (by decide), aw_goto (t := 78) D132_101 (by decide), aw_aload_0 (pc2 := 105) D132_104 rfl, aw_getR (pc2 := 108) (ci := 7) (fk := 8) D132_105 rfl fT_7_34 rfl, aw_iload_1 (pc2 := 109) D132_108 rfl, aw_iconst (pc2 := 110) (y := 0) D132_109 rfl (by decide), aw_iastore (pc2 := 111) D132_110 rfl, aw_iload_3 (pc2 := 112) D132_111 rfl, aw_iret D132_112 rfl, M_isBook, M_isIn, M_no7, sh_122, sh_123, sh_125, sh_126, sh_127, sh_128, rf_122_0, rf_122_2, rf_122_3, rf_122_4, rf_122_5, refV_s, psh_s, kil_i, kil_n, kil_r, iOK_1, wOK_e, catS_0, catS_1, catS_2, and_self, true_and, if_pos (book01 hb), hv, ite_int, i64_in (a := 1) (b := 12) (u := 1) (v := 12) (by decide) (by decide), nI_clamp (show b < 2 ^ 31 by omega), hh.1, if_pos (show ¬ (1 : Int32) = 0 by decide)]
    by_cases h1 : 1 ≤ n ∧ n ≤ 12
    · rw [if_pos h1] at hk ⊢
      obtain ⟨j, hj, rfl⟩ := nI_of (ge1_n h1.1)
      rw [nI_clamp hj] at hk
      generalize hI0 : up2 (up2 (up2 (up2 (up2 I 123 b (nI j)) 125 b 0) 126 b 0) 127 b 0) 128 b 0 = I0
      have key : ∀ m i, i + m = 24 → (AW (d + 1) ((G0 Ln).1, (G0 Ln).2.1) K 132 78 [.ref 122, .int (nI b), .int (nI j), .int (nI (σ.1 b).N), .int (nI i)] [] (G0 Ln) (filA I0 129 (24 * b) i 1) J ↔ K (some (.int (nI (σ.1 b).N))) (G0 Ln) (up2 (filA I0 129 (24 * b) 24 1) 131 b 0) J) := by
        intro m
        induction m with
        | zero =>
          intro i hi
          have : i = 24 := by omega
          subst this
          rw [aw_iload_4 (pc2 := 80) D132_78 rfl]
          simp only [aw_iload_1 (pc2 := 1) D132_0 rfl, aw_is1_2 (pc2 := 4) D132_1 rfl cT_7_150 rfl, aw_if_ne (pc2 := 7) (t := 14) D132_4 (by decide) rfl, aw_aload_0 (pc2 := 8) D132_7 rfl, aw_bipush (pc2 := 10) (y := -3) D132_8 rfl (by decide), aw_iv1_0 (pc2 := 13) (o := 7) D132_10 rfl cT_7_154 rfl rfl, aw_iret D132_13 rfl, aw_iload_2 (pc2 := 15) D132_14 rfl, aw_i2l (pc2 := 16) D132_15 rfl, aw_lconst (pc2 := 17) (y := 1) D132_16 rfl (by decide), aw_ldc2_w (pc2 := 20) (v := 12) D132_17 rfl (by decide), aw_is3_2 (pc2 := 23) D132_20 rfl cT_7_146 rfl, aw_if_ne (pc2 := 26) (t := 33) D132_23 (by decide) rfl, aw_aload_0 (pc2 := 27) D132_26 rfl, aw_bipush (pc2 := 29) (y := -7) D132_27 rfl (by decide), aw_iv1_0 (pc2 := 32) (o := 7) D132_29 rfl cT_7_154 rfl rfl, aw_iret D132_32 rfl, aw_aload_0 (pc2 := 34) D132_33 rfl, aw_getR (pc2 := 37) (ci := 7) (fk := 0) D132_34 rfl fT_7_7 rfl, aw_iload_1 (pc2 := 38) D132_37 rfl, aw_iaload (pc2 := 39) D132_38 rfl, aw_istore_3 (pc2 := 40) D132_39 rfl, aw_aload_0 (pc2 := 41) D132_40 rfl, aw_getR (pc2 := 44) (ci := 7) (fk := 0) D132_41 rfl fT_7_7 rfl, aw_iload_1 (pc2 := 45) D132_44 rfl, aw_iload_2 (pc2 := 46) D132_45 rfl, aw_iastore (pc2 := 47) D132_46 rfl, aw_aload_0 (pc2 := 48) D132_47 rfl, aw_getR (pc2 := 51) (ci := 7) (fk := 2) D132_48 rfl fT_7_16 rfl, aw_iload_1 (pc2 := 52) D132_51 rfl, aw_iconst (pc2 := 53) (y := 0) D132_52 rfl (by decide), aw_iastore (pc2 := 54) D132_53 rfl, aw_aload_0 (pc2 := 55) D132_54 rfl, aw_getR (pc2 := 58) (ci := 7) (fk := 3) D132_55 rfl fT_7_19 rfl, aw_iload_1 (pc2 := 59) D132_58 rfl, aw_iconst (pc2 := 60) (y := 0) D132_59 rfl (by decide), aw_iastore (pc2 := 61) D132_60 rfl, aw_aload_0 (pc2 := 62) D132_61 rfl, aw_getR (pc2 := 65) (ci := 7) (fk := 4) D132_62 rfl fT_7_22 rfl, aw_iload_1 (pc2 := 66) D132_65 rfl, aw_iconst (pc2 := 67) (y := 0) D132_66 rfl (by decide), aw_iastore (pc2 := 68) D132_67 rfl, aw_aload_0 (pc2 := 69) D132_68 rfl, aw_getR (pc2 := 72) (ci := 7) (fk := 5) D132_69 rfl fT_7_25 rfl, aw_iload_1 (pc2 := 73) D132_72 rfl, aw_iconst (pc2 := 74) (y := 0) D132_73 rfl (by decide), aw_iastore (pc2 := 75) D132_74 rfl, aw_iconst (pc2 := 76) (y := 0) D132_75 rfl (by decide), aw_istore_4 (pc2 := 78) D132_76 rfl, aw_bipush (pc2 := 82) (y := 24) D132_80 rfl (by decide), aw_icmp_ge (pc2 := 85) (t := 104) D132_82 (by decide) rfl, aw_aload_0 (pc2 := 86) D132_85 rfl, aw_getR (pc2 := 89) (ci := 7) (fk := 6) D132_86 rfl fT_7_28 rfl, aw_bipush (pc2 := 91) (y := 24) D132_89 rfl (by decide), aw_iload_1 (pc2 := 92) D132_91 rfl, aw_imul (pc2 := 93) D132_92 rfl, aw_iload_4 (pc2 := 95) D132_93 rfl, aw_iadd (pc2 := 96) D132_95 rfl, aw_iconst (pc2 := 97) (y := 1) D132_96 rfl (by decide), aw_iastore (pc2 := 98) D132_97 rfl, aw_iinc_4 (pc2 := 101) (y := 1) D132_98 rfl (by decide), aw_goto (t := 78) D132_101 (by decide), aw_aload_0 (pc2 := 105) D132_104 rfl, aw_getR (pc2 := 108) (ci := 7) (fk := 8) D132_105 rfl fT_7_34 rfl, aw_iload_1 (pc2 := 109) D132_108 rfl, aw_iconst (pc2 := 110) (y := 0) D132_109 rfl (by decide), aw_iastore (pc2 := 111) D132_110 rfl, aw_iload_3 (pc2 := 112) D132_111 rfl, aw_iret D132_112 rfl, sh_122, sh_131, sh_129, rf_122_6, rf_122_8, refV_s, wOK_e, kil_i, and_self, true_and, hv, nI_clamp (show b < 2 ^ 31 by omega)]
          rw [if_pos (show (24 : Int32) ≤ nI 24 by decide)]
        | succ m ih =>
          intro i hi
          have e1 : 24 * nI b + nI i = nI (24 * b + i) := by
            rw [show (24 : Int32) = nI 24 from rfl, pk_mul, nI_add]
          rw [aw_iload_4 (pc2 := 80) D132_78 rfl]
          simp only [aw_iload_1 (pc2 := 1) D132_0 rfl, aw_is1_2 (pc2 := 4) D132_1 rfl cT_7_150 rfl, aw_if_ne (pc2 := 7) (t := 14) D132_4 (by decide) rfl, aw_aload_0 (pc2 := 8) D132_7 rfl, aw_bipush (pc2 := 10) (y := -3) D132_8 rfl (by decide), aw_iv1_0 (pc2 := 13) (o := 7) D132_10 rfl cT_7_154 rfl rfl, aw_iret D132_13 rfl, aw_iload_2 (pc2 := 15) D132_14 rfl, aw_i2l (pc2 := 16) D132_15 rfl, aw_lconst (pc2 := 17) (y := 1) D132_16 rfl (by decide), aw_ldc2_w (pc2 := 20) (v := 12) D132_17 rfl (by decide), aw_is3_2 (pc2 := 23) D132_20 rfl cT_7_146 rfl, aw_if_ne (pc2 := 26) (t := 33) D132_23 (by decide) rfl, aw_aload_0 (pc2 := 27) D132_26 rfl, aw_bipush (pc2 := 29) (y := -7) D132_27 rfl (by decide), aw_iv1_0 (pc2 := 32) (o := 7) D132_29 rfl cT_7_154 rfl rfl, aw_iret D132_32 rfl, aw_aload_0 (pc2 := 34) D132_33 rfl, aw_getR (pc2 := 37) (ci := 7) (fk := 0) D132_34 rfl fT_7_7 rfl, aw_iload_1 (pc2 := 38) D132_37 rfl, aw_iaload (pc2 := 39) D132_38 rfl, aw_istore_3 (pc2 := 40) D132_39 rfl, aw_aload_0 (pc2 := 41) D132_40 rfl, aw_getR (pc2 := 44) (ci := 7) (fk := 0) D132_41 rfl fT_7_7 rfl, aw_iload_1 (pc2 := 45) D132_44 rfl, aw_iload_2 (pc2 := 46) D132_45 rfl, aw_iastore (pc2 := 47) D132_46 rfl, aw_aload_0 (pc2 := 48) D132_47 rfl, aw_getR (pc2 := 51) (ci := 7) (fk := 2) D132_48 rfl fT_7_16 rfl, aw_iload_1 (pc2 := 52) D132_51 rfl, aw_iconst (pc2 := 53) (y := 0) D132_52 rfl (by decide), aw_iastore (pc2 := 54) D132_53 rfl, aw_aload_0 (pc2 := 55) D132_54 rfl, aw_getR (pc2 := 58) (ci := 7) (fk := 3) D132_55 rfl fT_7_19 rfl, aw_iload_1 (pc2 := 59) D132_58 rfl, aw_iconst (pc2 := 60) (y := 0) D132_59 rfl (by decide), aw_iastore (pc2 := 61) D132_60 rfl, aw_aload_0 (pc2 := 62) D132_61 rfl, aw_getR (pc2 := 65) (ci := 7) (fk := 4) D132_62 rfl fT_7_22 rfl, aw_iload_1 (pc2 := 66) D132_65 rfl, aw_iconst (pc2 := 67) (y := 0) D132_66 rfl (by decide), aw_iastore (pc2 := 68) D132_67 rfl, aw_aload_0 (pc2 := 69) D132_68 rfl, aw_getR (pc2 := 72) (ci := 7) (fk := 5) D132_69 rfl fT_7_25 rfl, aw_iload_1 (pc2 := 73) D132_72 rfl, aw_iconst (pc2 := 74) (y := 0) D132_73 rfl (by decide), aw_iastore (pc2 := 75) D132_74 rfl, aw_iconst (pc2 := 76) (y := 0) D132_75 rfl (by decide), aw_istore_4 (pc2 := 78) D132_76 rfl, aw_bipush (pc2 := 82) (y := 24) D132_80 rfl (by decide), aw_icmp_ge (pc2 := 85) (t := 104) D132_82 (by decide) rfl, aw_aload_0 (pc2 := 86) D132_85 rfl, aw_getR (pc2 := 89) (ci := 7) (fk := 6) D132_86 rfl fT_7_28 rfl, aw_bipush (pc2 := 91) (y := 24) D132_89 rfl (by decide), aw_iload_1 (pc2 := 92) D132_91 rfl, aw_imul (pc2 := 93) D132_92 rfl, aw_iload_4 (pc2 := 95) D132_93 rfl, aw_iadd (pc2 := 96) D132_95 rfl, aw_iconst (pc2 := 97) (y := 1) D132_96 rfl (by decide), aw_iastore (pc2 := 98) D132_97 rfl, aw_iinc_4 (pc2 := 101) (y := 1) D132_98 rfl (by decide), aw_goto (t := 78) D132_101 (by decide), aw_aload_0 (pc2 := 105) D132_104 rfl, aw_getR (pc2 := 108) (ci := 7) (fk := 8) D132_105 rfl fT_7_34 rfl, aw_iload_1 (pc2 := 109) D132_108 rfl, aw_iconst (pc2 := 110) (y := 0) D132_109 rfl (by decide), aw_iastore (pc2 := 111) D132_110 rfl, aw_iload_3 (pc2 := 112) D132_111 rfl, aw_iret D132_112 rfl, sh_122, sh_129, rf_122_6, refV_s, wOK_e, kil_i, and_self, true_and, e1, nI_1, nI_clamp (show 24 * b + i < 2 ^ 31 by omega), filA_s]
          rw [if_neg (show ¬ (24 : Int32) ≤ nI i from nI_ge (b := 24) (by omega) (by decide)), ih (i + 1) (by omega)]
          exact ⟨fun q => q.2, fun q => ⟨vp_in_nI (by omega) (by decide), q⟩⟩
      have k0 := key 24 0 rfl
      rw [filA_0] at k0
      refine k0.mpr ?_
      have o1 : ∀ c, c ≠ 123 → c ≠ 125 → c ≠ 126 → c ≠ 127 → c ≠ 128 → c ≠ 129 → c ≠ 131 → up2 (filA I0 129 (24 * b) 24 1) 131 b 0 c = I c := by
        intro c a1 a2 a3 a4 a5 a6 a7
        rw [up2_off a7, filA_off a6, ← hI0, up2_off a5, up2_off a4, up2_off a3, up2_off a2, up2_off a1]
      have o2 : ∀ c, c ≠ 129 → c ≠ 131 → up2 (filA I0 129 (24 * b) 24 1) 131 b 0 c = I0 c := by
        intro c a6 a7
        rw [up2_off a7, filA_off a6]
      refine hk _ _ (h.setB hs hb ⟨?_, ?_, fun i hi => absurd hi (Nat.not_lt_zero _), ?_, ?_, ?_, fun p hp => ?_, ?_⟩ (fun c hc hne => ?_) (o1 122 (by omega) (by omega) (by omega) (by omega) (by omega) (by omega) (by omega)) (o1 130 (by omega) (by omega) (by omega) (by omega) (by omega) (by omega) (by omega)) (o1 163 (by omega) (by omega) (by omega) (by omega) (by omega) (by omega) (by omega))) (fun c hc => o1 c (by omega) (by omega) (by omega) (by omega) (by omega) (by omega) (by omega)) FrM.rf
      · rw [o2 _ (by omega) (by omega), ← hI0]; simp [up2_ap]
      · rw [o2 _ (by omega) (by omega), ← hI0]; simp [up2_ap]; rfl
      · rw [o2 _ (by omega) (by omega), ← hI0]; simp [up2_ap]; rfl
      · rw [o2 _ (by omega) (by omega), ← hI0]; simp [up2_ap]; rfl
      · rw [o2 _ (by omega) (by omega), ← hI0]; simp only [up2_ap, if_true]; exact (show (0 : Int32) = nI (0 / 4096) by decide)
      · rw [up2_off (by omega), filA_in (by omega) (by omega)]; rfl
      · show up2 _ _ _ _ 131 b = 0
        simp [up2_ap]
      · refine SlM.tr ?_ (SlM.up (not_sl hne ⟨by omega, rfl⟩))
        refine SlM.tr (I' := I0) ?_ ?_
        · rw [← hI0]
          exact ((((SlM.up (not_sl hne ⟨by omega, rfl⟩)).tr (SlM.up (not_sl hne ⟨by omega, rfl⟩))).tr (SlM.up (not_sl hne ⟨by omega, rfl⟩))).tr (SlM.up (not_sl hne ⟨by omega, rfl⟩))).tr (SlM.up (not_sl hne ⟨by omega, rfl⟩))
        · intro a k ha
          unfold filA
          rw [if_neg (by unfold inSl at ha; omega)]
    · rw [if_neg h1] at hk ⊢
      exact hk.ref h (by omega) (by omega)
theorem one_shl {N : Nat} {l : Int32} (hN : N ≤ 12) (h : 1 ≤ l ∧ l ≤ nI N) : (1 : Int32) <<< (l - 1 &&& 31) = nI (2 ^ (l.toInt.toNat - 1)) := by
  obtain ⟨k1, k2, k3⟩ := letter_ok hN h
  obtain ⟨-, -, -, -, -, q6, -⟩ := sgn hN k1
  rw [pl_pos k2] at q6
  rw [← q6]
  unfold bitM plc
  rw [if_neg]
  intro z
  rw [fa_le] at z
  have a : (0 : Int32).toInt = 0 := by decide
  omega
theorem pl_neg {l : Int} (h1 : 1 ≤ l) : plN (-l) = 12 + (l.toNat - 1) := by
  unfold plN
  rw [if_pos (by omega)]
  omega
theorem tb_mod {a p : Nat} : (a % 4096).testBit p = (decide (p < 12) && a.testBit p) := by
  rw [show 4096 = 2 ^ 12 from rfl, Nat.testBit_mod_two_pow]
theorem tb_div {a p : Nat} : (a / 4096).testBit p = a.testBit (12 + p) := by
  rw [show 4096 = 2 ^ 12 from rfl, Nat.testBit_div_two_pow, Nat.add_comm]
theorem tb_pow {p i : Nat} : (2 ^ p).testBit i = decide (p = i) := Nat.testBit_two_pow
theorem fx_loose {fx p : Nat} (hp : p < 12) : nclr fx (2 ^ p ||| 2 ^ (12 + p)) % 4096 = nclr (fx % 4096) (2 ^ p) ∧ nclr fx (2 ^ p ||| 2 ^ (12 + p)) / 4096 = nclr (fx / 4096) (2 ^ p) := by
  constructor
  · apply Nat.eq_of_testBit_eq
    intro i
    rw [tb_mod, nclr_bit, nclr_bit, tb_mod, Nat.testBit_or, tb_pow, tb_pow]
    by_cases hi : i < 12
    · have : ¬ 12 + p = i := by omega
      simp [hi, this]
    · simp [hi]
  · apply Nat.eq_of_testBit_eq
    intro i
    rw [tb_div, nclr_bit, nclr_bit, tb_div, Nat.testBit_or, tb_pow, tb_pow, tb_pow]
    have : ¬ p = 12 + i := by omega
    have e : (12 + p = 12 + i) ↔ (p = i) := by omega
    simp [this, e]
theorem fx_was {fx p : Nat} (hp : p < 12) (hf : fx < 2 ^ 24) : ((nI (fx % 4096) ||| nI (fx / 4096)) &&& nI (2 ^ p) = 0) ↔ (fx.testBit p || fx.testBit (12 + p)) = false := by
  rw [fa_or, bit_test (by omega), Nat.testBit_or, tb_mod, tb_div]
  simp [hp]
theorem MO_loose {x s : Int32} (hs : sgOK σ) (h : MInv σ I) (hk : MPost Ln I J K (oLoose σ x s)) : ACall (d + 3) 141 [.ref 122, .int x, .int s] (G0 Ln) I J K := by
  rw [ACall_0 (L0 := [.ref 122, .int x, .int s, nv, nv]) (show mcs 141 = (0, 0) from rfl) (show entL 141 [.ref 122, .int x, .int s] = _ from rfl) rfl (Nat.le_of_ble_eq_true rfl)]
  unfold oLoose at hk
  cases hx : bkOf x with
  | none =>
    simp only [hx] at hk
    obtain ⟨x0, x1⟩ := bkOf_none hx
    simp only [aw_aload_0 (pc2 := 1) D141_0 rfl, aw_iload_1 (pc2 := 2) D141_1 rfl, aw_iload_2 (pc2 := 3) D141_2 rfl, aw_iv2_0 (pc2 := 6) (o := 7) D141_3 rfl cT_7_180 rfl rfl, aw_if_ne (pc2 := 9) (t := 16) D141_6 (by decide) rfl, aw_aload_0 (pc2 := 10) D141_9 rfl, aw_bipush (pc2 := 12) (y := -3) D141_10 rfl (by decide), aw_iv1_0 (pc2 := 15) (o := 7) D141_12 rfl cT_7_154 rfl rfl, aw_iret D141_15 rfl, M_isLetterN x0 x1, M_no3, sh_122, psh_s, catS_0, and_self, true_and, not_true_eq_false, if_false]
    exact hk.ref h (by omega) (by omega)
  | some b =>
    simp only [hx] at hk
    obtain ⟨hb, rfl⟩ := bkOf_some hx
    have hh := h.1 b hb
    have hN := (hs.1 b hb).2.1
    have hv : vp_in (nI b) 2 := vp_in_nI hb (by decide)
    by_cases ho : 1 ≤ s ∧ s ≤ nI (σ.1 b).N
    · rw [if_pos ho] at hk
      obtain ⟨k1, k2, k3⟩ := letter_ok hN ho
      have hp : s.toInt.toNat - 1 < 12 := by omega
      rw [pl_pos k2, pl_neg k2] at hk
      simp only [aw_aload_0 (pc2 := 1) D141_0 rfl, aw_iload_1 (pc2 := 2) D141_1 rfl, aw_iload_2 (pc2 := 3) D141_2 rfl, aw_iv2_0 (pc2 := 6) (o := 7) D141_3 rfl cT_7_180 rfl rfl, aw_if_ne (pc2 := 9) (t := 16) D141_6 (by decide) rfl, aw_aload_0 (pc2 := 10) D141_9 rfl, aw_bipush (pc2 := 12) (y := -3) D141_10 rfl (by decide), aw_iv1_0 (pc2 := 15) (o := 7) D141_12 rfl cT_7_154 rfl rfl, aw_iret D141_15 rfl, aw_iconst (pc2 := 17) (y := 1) D141_16 rfl (by decide), aw_iload_2 (pc2 := 18) D141_17 rfl, aw_iconst (pc2 := 19) (y := 1) D141_18 rfl (by decide), aw_isub (pc2 := 20) D141_19 rfl, aw_ishl (pc2 := 21) D141_20 rfl, aw_istore_3 (pc2 := 22) D141_21 rfl, aw_aload_0 (pc2 := 23) D141_22 rfl, aw_getR (pc2 := 26) (ci := 7) (fk := 4) D141_23 rfl fT_7_22 rfl, aw_iload_1 (pc2 := 27) D141_26 rfl, aw_iaload (pc2 := 28) D141_27 rfl, aw_aload_0 (pc2 := 29) D141_28 rfl, aw_getR (pc2 := 32) (ci := 7) (fk := 5) D141_29 rfl fT_7_25 rfl, aw_iload_1 (pc2 := 33) D141_32 rfl, aw_iaload (pc2 := 34) D141_33 rfl, aw_ior (pc2 := 35) D141_34 rfl, aw_iload_3 (pc2 := 36) D141_35 rfl, aw_iand (pc2 := 37) D141_36 rfl, aw_if_eq (pc2 := 40) (t := 44) D141_37 (by decide) rfl, aw_iconst (pc2 := 41) (y := 1) D141_40 rfl (by decide), aw_goto (t := 45) D141_41 (by decide), aw_iconst (pc2 := 45) (y := 0) D141_44 rfl (by decide), aw_istore_4 (pc2 := 47) D141_45 rfl, aw_aload_0 (pc2 := 48) D141_47 rfl, aw_getR (pc2 := 51) (ci := 7) (fk := 4) D141_48 rfl fT_7_22 rfl, aw_iload_1 (pc2 := 52) D141_51 rfl, aw_dup2 (pc2 := 53) D141_52 rfl, aw_iaload (pc2 := 54) D141_53 rfl, aw_iload_3 (pc2 := 55) D141_54 rfl, aw_iconst (pc2 := 56) (y := -1) D141_55 rfl (by decide), aw_ixor (pc2 := 57) D141_56 rfl, aw_iand (pc2 := 58) D141_57 rfl, aw_iastore (pc2 := 59) D141_58 rfl, aw_aload_0 (pc2 := 60) D141_59 rfl, aw_getR (pc2 := 63) (ci := 7) (fk := 5) D141_60 rfl fT_7_25 rfl, aw_iload_1 (pc2 := 64) D141_63 rfl, aw_dup2 (pc2 := 65) D141_64 rfl, aw_iaload (pc2 := 66) D141_65 rfl, aw_iload_3 (pc2 := 67) D141_66 rfl, aw_iconst (pc2 := 68) (y := -1) D141_67 rfl (by decide), aw_ixor (pc2 := 69) D141_68 rfl, aw_iand (pc2 := 70) D141_69 rfl, aw_iastore (pc2 := 71) D141_70 rfl, aw_iload_4 (pc2 := 73) D141_71 rfl, aw_iret D141_73 rfl, M_isLetter hb hh.1, M_no3, one_shl hN ho, sh_122, sh_127, sh_128, rf_122_4, rf_122_5, refV_s, psh_s, kil_i, kil_n, kil_r, cat_i, cat_r, iOK_1, wOK_e, catS_0, and_self, true_and, ite_int, if_pos ho, hv, nI_clamp (show b < 2 ^ 31 by omega), hh.2.2.2.2.1, hh.2.2.2.2.2.1, nI_nclr, up2_ap, Nat.reduceEqDiff, if_false, if_true]
      obtain ⟨f1, f2⟩ := fx_loose (fx := (σ.1 b).fx) hp
      have hc : MInv (setB σ b ((σ.1 b).N, (σ.1 b).cl, (σ.1 b).ak, nclr (σ.1 b).fx (2 ^ (s.toInt.toNat - 1) ||| 2 ^ (12 + (s.toInt.toNat - 1))), (σ.1 b).wt, (σ.1 b).g)) (up2 (up2 I 127 b (nI (nclr ((σ.1 b).fx % 4096) (2 ^ (s.toInt.toNat - 1))))) 128 b (nI (nclr ((σ.1 b).fx / 4096) (2 ^ (s.toInt.toNat - 1))))) := by
        refine h.setB hs hb ⟨?_, ?_, fun i hi => ?_, ?_, ?_, ?_, fun p hp => ?_, ?_⟩ (fun c hc hne => (SlM.up (not_sl hne ⟨by omega, rfl⟩)).tr (SlM.up (not_sl hne ⟨by omega, rfl⟩))) ?_ ?_ ?_
        · simp [up2_ap]; exact hh.1
        · simp [up2_ap]; exact hh.2.1
        · rw [up2_off (by omega), up2_off (by omega)]; exact hh.2.2.1 i hi
        · simp [up2_ap]; exact hh.2.2.2.1
        · simp only [up2_ap, Nat.reduceEqDiff, if_true, if_false]; exact congrArg nI f1.symm
        · simp only [up2_ap, Nat.reduceEqDiff, if_true, if_false]; exact congrArg nI f2.symm
        · simp [up2_ap]; exact hh.2.2.2.2.2.2.1 p hp
        · exact (show MGo b (σ.1 b).N (σ.1 b).g _ from MBg hh (fun c hc => by rw [up2_off (by omega), up2_off (by omega)]))
        · rw [up2_off (by omega), up2_off (by omega)]
        · rw [up2_off (by omega), up2_off (by omega)]
        · rw [up2_off (by omega), up2_off (by omega)]
      have key := hk _ _ hc ((FrM.up (by omega)).tr (FrM.up (by omega))) FrM.rf
      have hf := (hs.1 b hb).2.2.2.2.2.1.1
      by_cases hz : (nI ((σ.1 b).fx % 4096) ||| nI ((σ.1 b).fx / 4096)) &&& nI (2 ^ (s.toInt.toNat - 1)) = 0
      · rw [if_pos hz]
        rw [(fx_was hp hf).mp hz] at key
        exact key
      · rw [if_neg hz]
        rw [show ((σ.1 b).fx.testBit (s.toInt.toNat - 1) || (σ.1 b).fx.testBit (12 + (s.toInt.toNat - 1))) = true by
          cases e : ((σ.1 b).fx.testBit (s.toInt.toNat - 1) || (σ.1 b).fx.testBit (12 + (s.toInt.toNat - 1)))
          · exact absurd ((fx_was hp hf).mpr e) hz
          · rfl] at key
        exact key
    · rw [if_neg ho] at hk
      simp only [aw_aload_0 (pc2 := 1) D141_0 rfl, aw_iload_1 (pc2 := 2) D141_1 rfl, aw_iload_2 (pc2 := 3) D141_2 rfl, aw_iv2_0 (pc2 := 6) (o := 7) D141_3 rfl cT_7_180 rfl rfl, aw_if_ne (pc2 := 9) (t := 16) D141_6 (by decide) rfl, aw_aload_0 (pc2 := 10) D141_9 rfl, aw_bipush (pc2 := 12) (y := -3) D141_10 rfl (by decide), aw_iv1_0 (pc2 := 15) (o := 7) D141_12 rfl cT_7_154 rfl rfl, aw_iret D141_15 rfl, M_isLetter hb hh.1, M_no3, if_neg ho, sh_122, psh_s, psh_n, kil_i, kil_r, kil_n, catS_0, and_self, true_and, not_true_eq_false, if_false]
      exact hk.ref h (by omega) (by omega)
theorem or_pow {a p : Nat} (h : a.testBit p = false) : a ||| 2 ^ p = a ^^^ 2 ^ p := by
  apply Nat.eq_of_testBit_eq
  intro i
  rw [Nat.testBit_or, Nat.testBit_xor, tb_pow]
  by_cases e : p = i
  · subst e; simp [h]
  · simp [e]
theorem or_pow_same {a p : Nat} (h : a.testBit p = true) : a ||| 2 ^ p = a := by
  apply Nat.eq_of_testBit_eq
  intro i
  rw [Nat.testBit_or, tb_pow]
  by_cases e : p = i
  · subst e; simp [h]
  · simp [e]
theorem nclr_pow {a p : Nat} (h : a.testBit p = true) : nclr a (2 ^ p) = a ^^^ 2 ^ p := by
  apply Nat.eq_of_testBit_eq
  intro i
  rw [nclr_bit, Nat.testBit_xor, tb_pow]
  by_cases e : p = i
  · subst e; simp [h]
  · simp [e]
theorem nclr_same {a p : Nat} (h : a.testBit p = false) : nclr a (2 ^ p) = a := by
  apply Nat.eq_of_testBit_eq
  intro i
  rw [nclr_bit, tb_pow]
  by_cases e : p = i
  · subst e; simp [h]
  · simp [e]
theorem up2_id {α : Type} {f : Nat → Nat → α} {c k : Nat} {v : α} (h : v = f c k) : up2 f c k v = f := by
  funext a b
  rw [up2_ap]
  by_cases e : a = c
  · subst e
    by_cases e2 : b = k
    · subst e2; simp [h]
    · simp [e2]
  · simp [e]
theorem MO_ask {x l : Int32} {is : Bool} (hs : sgOK σ) (h : MInv σ I) (hk : MPost Ln I J K (oAsk σ x l is)) : ACall (d + 3) 139 [.ref 122, .int x, .int l, .int (bI is)] (G0 Ln) I J K := by
  rw [ACall_0 (L0 := [.ref 122, .int x, .int l, .int (bI is), nv, nv]) (show mcs 139 = (0, 0) from rfl) (show entL 139 [.ref 122, .int x, .int l, .int (bI is)] = _ from rfl) rfl (Nat.le_of_ble_eq_true rfl)]
  unfold oAsk at hk
  cases hx : bkOf x with
  | none =>
    simp only [hx] at hk
    obtain ⟨x0, x1⟩ := bkOf_none hx
    simp only [aw_aload_0 (pc2 := 1) D139_0 rfl, aw_iload_1 (pc2 := 2) D139_1 rfl, aw_iload_2 (pc2 := 3) D139_2 rfl, aw_iv2_0 (pc2 := 6) (o := 7) D139_3 rfl cT_7_180 rfl rfl, aw_if_ne (pc2 := 9) (t := 16) D139_6 (by decide) rfl, aw_aload_0 (pc2 := 10) D139_9 rfl, aw_bipush (pc2 := 12) (y := -3) D139_10 rfl (by decide), aw_iv1_0 (pc2 := 15) (o := 7) D139_12 rfl cT_7_154 rfl rfl, aw_iret D139_15 rfl, M_isLetterN x0 x1, M_no3, sh_122, psh_s, catS_0, and_self, true_and, not_true_eq_false, if_false]
    exact hk.ref h (by omega) (by omega)
  | some b =>
    simp only [hx] at hk
    obtain ⟨hb, rfl⟩ := bkOf_some hx
    have hh := h.1 b hb
    have hN := (hs.1 b hb).2.1
    have hv : vp_in (nI b) 2 := vp_in_nI hb (by decide)
    by_cases ho : 1 ≤ l ∧ l ≤ nI (σ.1 b).N
    · rw [if_pos ho] at hk
      obtain ⟨k1, k2, k3⟩ := letter_ok hN ho
      have hp : l.toInt.toNat - 1 < 31 := by omega
      simp only [aw_aload_0 (pc2 := 1) D139_0 rfl, aw_iload_1 (pc2 := 2) D139_1 rfl, aw_iload_2 (pc2 := 3) D139_2 rfl, aw_iv2_0 (pc2 := 6) (o := 7) D139_3 rfl cT_7_180 rfl rfl, aw_if_ne (pc2 := 9) (t := 16) D139_6 (by decide) rfl, aw_aload_0 (pc2 := 10) D139_9 rfl, aw_bipush (pc2 := 12) (y := -3) D139_10 rfl (by decide), aw_iv1_0 (pc2 := 15) (o := 7) D139_12 rfl cT_7_154 rfl rfl, aw_iret D139_15 rfl, aw_iconst (pc2 := 17) (y := 1) D139_16 rfl (by decide), aw_iload_2 (pc2 := 18) D139_17 rfl, aw_iconst (pc2 := 19) (y := 1) D139_18 rfl (by decide), aw_isub (pc2 := 20) D139_19 rfl, aw_ishl (pc2 := 21) D139_20 rfl, aw_istore_4 (pc2 := 23) D139_21 rfl, aw_aload_0 (pc2 := 24) D139_23 rfl, aw_getR (pc2 := 27) (ci := 7) (fk := 3) D139_24 rfl fT_7_19 rfl, aw_iload_1 (pc2 := 28) D139_27 rfl, aw_iaload (pc2 := 29) D139_28 rfl, aw_iload_4 (pc2 := 31) D139_29 rfl, aw_iand (pc2 := 32) D139_31 rfl, aw_if_eq (pc2 := 35) (t := 39) D139_32 (by decide) rfl, aw_iconst (pc2 := 36) (y := 1) D139_35 rfl (by decide), aw_goto (t := 40) D139_36 (by decide), aw_iconst (pc2 := 40) (y := 0) D139_39 rfl (by decide), aw_istore_5 (pc2 := 42) D139_40 rfl, aw_iload_3 (pc2 := 43) D139_42 rfl, aw_if_eq (pc2 := 46) (t := 60) D139_43 (by decide) rfl, aw_aload_0 (pc2 := 47) D139_46 rfl, aw_getR (pc2 := 50) (ci := 7) (fk := 3) D139_47 rfl fT_7_19 rfl, aw_iload_1 (pc2 := 51) D139_50 rfl, aw_dup2 (pc2 := 52) D139_51 rfl, aw_iaload (pc2 := 53) D139_52 rfl, aw_iload_4 (pc2 := 55) D139_53 rfl, aw_ior (pc2 := 56) D139_55 rfl, aw_iastore (pc2 := 57) D139_56 rfl, aw_goto (t := 73) D139_57 (by decide), aw_aload_0 (pc2 := 61) D139_60 rfl, aw_getR (pc2 := 64) (ci := 7) (fk := 3) D139_61 rfl fT_7_19 rfl, aw_iload_1 (pc2 := 65) D139_64 rfl, aw_dup2 (pc2 := 66) D139_65 rfl, aw_iaload (pc2 := 67) D139_66 rfl, aw_iload_4 (pc2 := 69) D139_67 rfl, aw_iconst (pc2 := 70) (y := -1) D139_69 rfl (by decide), aw_ixor (pc2 := 71) D139_70 rfl, aw_iand (pc2 := 72) D139_71 rfl, aw_iastore (pc2 := 73) D139_72 rfl, aw_iload_5 (pc2 := 75) D139_73 rfl, aw_iload_3 (pc2 := 76) D139_75 rfl, aw_icmp_eq (pc2 := 79) (t := 86) D139_76 (by decide) rfl, aw_aload_0 (pc2 := 80) D139_79 rfl, aw_getR (pc2 := 83) (ci := 7) (fk := 8) D139_80 rfl fT_7_34 rfl, aw_iload_1 (pc2 := 84) D139_83 rfl, aw_iconst (pc2 := 85) (y := 0) D139_84 rfl (by decide), aw_iastore (pc2 := 86) D139_85 rfl, aw_iload_5 (pc2 := 88) D139_86 rfl, aw_if_eq (pc2 := 91) (t := 95) D139_88 (by decide) rfl, aw_iconst (pc2 := 92) (y := 1) D139_91 rfl (by decide), aw_goto (t := 96) D139_92 (by decide), aw_iconst (pc2 := 96) (y := 0) D139_95 rfl (by decide), aw_iret D139_96 rfl, M_isLetter hb hh.1, M_no3, one_shl hN ho, sh_122, sh_126, sh_131, rf_122_3, rf_122_8, refV_s, psh_s, kil_i, kil_n, kil_r, cat_i, cat_r, iOK_1, wOK_e, catS_0, and_self, true_and, ite_int, if_pos ho, hv, nI_clamp (show b < 2 ^ 31 by omega), hh.2.2.2.1, nI_nclr, fa_or, bit_test hp]
      have hc : ∀ a : Nat, a = (σ.1 b).ak ^^^ 2 ^ (l.toInt.toNat - 1) → MInv (setB σ b ((σ.1 b).N, (σ.1 b).cl, (σ.1 b).ak ^^^ 2 ^ (l.toInt.toNat - 1), (σ.1 b).fx, (σ.1 b).wt, none)) (up2 (up2 I 126 b (nI a)) 131 b 0) := by
        intro a ea
        subst ea
        refine h.setB hs hb ⟨?_, ?_, fun i hi => ?_, ?_, ?_, ?_, fun p hp => ?_, ?_⟩ (fun c hc hne => (SlM.up (not_sl hne ⟨by omega, rfl⟩)).tr (SlM.up (not_sl hne ⟨by omega, rfl⟩))) ?_ ?_ ?_
        · simp [up2_ap]; exact hh.1
        · simp [up2_ap]; exact hh.2.1
        · rw [up2_off (by omega), up2_off (by omega)]; exact hh.2.2.1 i hi
        · simp [up2_ap]
        · simp [up2_ap]; exact hh.2.2.2.2.1
        · simp [up2_ap]; exact hh.2.2.2.2.2.1
        · simp [up2_ap]; exact hh.2.2.2.2.2.2.1 p hp
        · show up2 _ _ _ _ 131 b = 0
          simp [up2_ap]
        · rw [up2_off (by omega), up2_off (by omega)]
        · rw [up2_off (by omega), up2_off (by omega)]
        · rw [up2_off (by omega), up2_off (by omega)]
      have hfr : ∀ v : Int32, FrM I (up2 (up2 I 126 b v) 131 b 0) := fun v => (FrM.up (by omega)).tr (FrM.up (by omega))
      rw [if_pos (show ¬ (1 : Int32) = 0 by decide)]
      cases e1 : (σ.1 b).ak.testBit (l.toInt.toNat - 1) <;> cases is <;> rw [e1] at hk
      · rw [ifT rfl, if_pos (by decide), if_pos (by decide), ifT trivial]
        rw [if_pos rfl] at hk
        rw [nclr_same e1, up2_id hh.2.2.2.1.symm]
        exact hk.same h
      · rw [ifT rfl, if_neg (by decide), if_neg (by decide), ifT trivial]
        rw [if_neg (by decide)] at hk
        rw [or_pow e1]
        exact hk _ _ (hc _ rfl) (hfr _) FrM.rf
      · rw [if_neg (by decide), if_pos (by decide), if_neg (by decide), if_neg (by decide)]
        rw [if_neg (by decide)] at hk
        rw [nclr_pow e1]
        exact hk _ _ (hc _ rfl) (hfr _) FrM.rf
      · rw [if_neg (by decide), if_neg (by decide), if_pos (by decide), if_neg (by decide)]
        rw [if_pos rfl] at hk
        rw [or_pow_same e1, up2_id hh.2.2.2.1.symm]
        exact hk.same h
    · rw [if_neg ho] at hk
      simp only [aw_aload_0 (pc2 := 1) D139_0 rfl, aw_iload_1 (pc2 := 2) D139_1 rfl, aw_iload_2 (pc2 := 3) D139_2 rfl, aw_iv2_0 (pc2 := 6) (o := 7) D139_3 rfl cT_7_180 rfl rfl, aw_if_ne (pc2 := 9) (t := 16) D139_6 (by decide) rfl, aw_aload_0 (pc2 := 10) D139_9 rfl, aw_bipush (pc2 := 12) (y := -3) D139_10 rfl (by decide), aw_iv1_0 (pc2 := 15) (o := 7) D139_12 rfl cT_7_154 rfl rfl, aw_iret D139_15 rfl, M_isLetter hb hh.1, M_no3, if_neg ho, sh_122, psh_s, psh_n, kil_i, kil_r, kil_n, catS_0, and_self, true_and, not_true_eq_false, if_false]
      exact hk.ref h (by omega) (by omega)
end OpsMC
