section Told
variable {d Ln N : Nat} {I : IT} {J : JT} {K : KT} {σ : SG}
theorem C_keepW {c : Nat} {s : Int} {x : Int32} {T : Nat → Bool} (hx : x = iI s) (hc : RF Ln c) (hJ : ∀ j, J patC j = pat j) (hN : N ≤ 12) (h0 : s ≠ 0) (h1 : -(N : Int) ≤ s) (h2 : s ≤ N) (h : RSet N c T I J) (hk : ∀ J', (∀ a, a ≠ c + 1 → J' a = J a) → RSet N c (fun r => T r && hld N s r) I J' → K none (G0 Ln) I J') : ACall (d + 2) 67 [.ref c, .int x] (G0 Ln) I J K := by
  subst hx
  exact C_keepWhere hc hJ hN h0 h1 h2 h hk
theorem CInv_said {b : Nat} {g : GR} {I' : IT} {J' : JT} (h : CInv σ I J) (hb : b < 2) (hg : (σ.1 b).g = some g) (hI : ∀ a, a ≠ bkc b + 3 → a ≠ bkc b + 10 → a ≠ bkc b + 12 → I' a = I a) (h3 : ∀ k, k ≠ 7 → I' (bkc b + 3) k = I (bkc b + 3) k) (hJ : ∀ a, a ≠ bkc b + 9 → a ≠ bkc b + 11 → a ≠ bkc b + 13 → J' a = J a) (h7 : I' (bkc b + 3) 7 = 0) (hr : RSet (σ.1 b).N (bkc b + 10) (sayR (σ.1 b).N g) I' J') : CInv σ I' J' := by
  obtain ⟨g1, g2, g4, g5, g6⟩ := h
  have hb9 : bkc b < 16 := by unfold bkc; omega
  have hb0 : 1 ≤ bkc b := by unfold bkc; omega
  refine ⟨fun e he => ?_, ?_, fun k a c => ?_, ?_, fun j => ?_⟩
  · by_cases q : e = b
    · subst q
      obtain ⟨a1, a2, a3, a4, a5, a6, a7⟩ := g1 e he
      refine ⟨by rw [hI _ (by omega) (by omega) (by omega)]; exact a1, by rw [hI _ (by omega) (by omega) (by omega)]; exact a2, fun i hi => by rw [hI _ (by omega) (by omega) (by omega)]; exact a3 i hi, by rw [hI _ (by omega) (by omega) (by omega)]; exact a4, by rw [hI _ (by omega) (by omega) (by omega)]; exact a5, fun p hp => by rw [hI _ (by omega) (by omega) (by omega)]; exact a6 p hp, ?_⟩
      unfold CGo at a7 ⊢
      rw [hg] at a7 ⊢
      obtain ⟨c0, c1, c2, c3, c4, c5⟩ := a7
      refine ⟨by rw [hI _ (by omega) (by omega) (by omega)]; exact c0, by rw [h3 8 (by omega)]; exact c1, by rw [h3 9 (by omega)]; exact c2, by rw [h3 10 (by omega)]; exact c3, fun i hi => ?_, Or.inr ⟨h7, hr⟩⟩
      rw [hI (bkc e + 4) (by omega) (by omega) (by omega), hI (bkc e + 5) (by omega) (by omega) (by omega), hI (bkc e + 6) (by omega) (by omega) (by omega), hI (bkc e + 7) (by omega) (by omega) (by omega), hI (bkc e + 8) (by omega) (by omega) (by omega)]
      exact c4 i hi
    · refine (g1 e he).fr (fun c k1 k2 => hI c ?_ ?_ ?_) (fun c k1 k2 => hJ c ?_ ?_ ?_) <;> (unfold bkc at k1 k2 ⊢; omega)
  · rw [hI 0 (by omega) (by omega) (by omega), hI 120 (by omega) (by omega) (by omega)]; exact g2
  · rw [hI 121 (by omega) (by omega) (by omega)]; exact g4 k a c
  · rw [hI 0 (by omega) (by omega) (by omega)]; exact g5
  · rw [hJ patC (by show 1000001 ≠ _; omega) (by show 1000001 ≠ _; omega) (by show 1000001 ≠ _; omega)]; exact g6 j
theorem C_toldRows {b : Nat} {g : GR} (hb : b < 2) (hs : sgOK σ) (h : CInv σ I J) (hg : (σ.1 b).g = some g) (hk : ∀ I' J', CInv σ I' J' → (∀ a, (a < bkc b ∨ bkc b + 14 ≤ a) → I' a = I a ∧ J' a = J a) → RSet (σ.1 b).N (bkc b + 12) (rowT (σ.1 b) g) I' J' → K (some (.ref (bkc b + 12))) (G0 Ln) I' J') : ACall (d + 5) 15 [.ref (bkc b)] (G0 Ln) I J K := by
  rw [ACall_0 (L0 := [.ref (bkc b), nv]) (show mcs 15 = (0, 0) from rfl) (show entL 15 [.ref (bkc b)] = _ from rfl) rfl (Nat.le_of_ble_eq_true rfl)]
  have hB := bf (Ln := Ln) hb
  have hc10 := RF_10 (Ln := Ln) hb
  have hc12 := RF_12 (Ln := Ln) hb
  have hh := h.1 b hb
  have hN := (hs.1 b hb).2.1
  have hgo := gr_get hs hb hg
  have hfx := (hs.1 b hb).2.2.2.2.2.1
  have hgg := hh.2.2.2.2.2.2
  unfold CGo at hgg
  rw [hg] at hgg
  have hrt : rowT (σ.1 b) g = fun r => sayR (σ.1 b).N g r && fxTo (σ.1 b).N (σ.1 b).fx r (σ.1 b).N := rfl
  rw [hrt] at hk
  simp (disch := omega) only [aw_aload_0 (pc2 := 1) D15_0 rfl, aw_getR (pc2 := 4) (ci := 0) (fk := 3) D15_1 rfl fT_0_28 rfl, aw_aload_0 (pc2 := 5) D15_4 rfl, aw_getR (pc2 := 8) (ci := 0) (fk := 2) D15_5 rfl fT_0_21 rfl, aw_aload_0 (pc2 := 9) D15_8 rfl, aw_getI (pc2 := 12) (ci := 0) (fk := 4) D15_9 rfl fT_0_32 rfl, aw_iv1_0 (pc2 := 15) (o := 1) D15_12 rfl cT_0_74 rfl rfl, refV_s, refV_n, psh_s, psh_n, kil_i, kil_r, kil_n, kil_l, cat_i, cat_r, iOK_1, iOK_5, jOK_2, jOK_6, wOK_e, lOK_1, lOK_2, lOK_3, lOK_4, lOK_5, lOK_6, catS_0, catS_1, catS_2, catS_3, catS_4, and_self, true_and, and_true, true_or, or_true, false_or, or_false, not_true_eq_false, not_false_eq_true, if_true, if_false, ite_int, ite_int0, au_10, eq_self, decide_true, decide_false, Bool.true_and, Bool.false_and, au_in, au_le, au_lt, au_eq, au_lt0, au_ge0, au_le0, au_gt0, au_eq0, au_leT, au_leF, au_ltT, au_ltF, au_eqT, au_eqF, nI_clamp, nI_1, nI_add, pk_mul, au_sub1, au_subc, au_up2e, au_up2n, lit_of, hB.1.1, hB.1.2.1, hB.1.2.2.1, hB.1.2.2.2.1, hB.1.2.2.2.2.1, hB.1.2.2.2.2.2.1, hB.1.2.2.2.2.2.2.1, hB.1.2.2.2.2.2.2.2.1, hB.1.2.2.2.2.2.2.2.2.1, hB.1.2.2.2.2.2.2.2.2.2.1, hB.1.2.2.2.2.2.2.2.2.2.2.1, hB.1.2.2.2.2.2.2.2.2.2.2.2.1, hB.1.2.2.2.2.2.2.2.2.2.2.2.2.1, hB.1.2.2.2.2.2.2.2.2.2.2.2.2.2, hB.2.1, hB.2.2.1, hB.2.2.2.1, hB.2.2.2.2.1, hB.2.2.2.2.2.1, hB.2.2.2.2.2.2.1, hB.2.2.2.2.2.2.2.1, hB.2.2.2.2.2.2.2.2.1, hB.2.2.2.2.2.2.2.2.2.1, hB.2.2.2.2.2.2.2.2.2.2.1, hB.2.2.2.2.2.2.2.2.2.2.2.1, hB.2.2.2.2.2.2.2.2.2.2.2.2.1, hB.2.2.2.2.2.2.2.2.2.2.2.2.2, hh.1]
  refine C_saidByRoot hb hN hgo hgg.2 h.2.2.2.2 (fun I1 J1 f1 f2 f3 f4 f5 => ?_)
  simp only [aw_iv1_0 (pc2 := 18) (o := 5) D15_15 rfl cT_0_78 rfl rfl, refV_s, refV_n, psh_s, psh_n, kil_i, kil_r, kil_n, kil_l, cat_i, cat_r, iOK_1, iOK_5, jOK_2, jOK_6, wOK_e, lOK_1, lOK_2, lOK_3, lOK_4, lOK_5, lOK_6, catS_0, catS_1, catS_2, catS_3, catS_4, and_self, true_and, and_true, true_or, or_true, false_or, or_false, not_true_eq_false, not_false_eq_true, if_true, if_false, ite_int, ite_int0, au_10, eq_self, decide_true, decide_false, Bool.true_and, Bool.false_and, hB.1.1, hB.1.2.1, hB.1.2.2.1, hB.1.2.2.2.1, hB.1.2.2.2.2.1, hB.1.2.2.2.2.2.1, hB.1.2.2.2.2.2.2.1, hB.1.2.2.2.2.2.2.2.1, hB.1.2.2.2.2.2.2.2.2.1, hB.1.2.2.2.2.2.2.2.2.2.1, hB.1.2.2.2.2.2.2.2.2.2.2.1, hB.1.2.2.2.2.2.2.2.2.2.2.2.1, hB.1.2.2.2.2.2.2.2.2.2.2.2.2.1, hB.1.2.2.2.2.2.2.2.2.2.2.2.2.2, hB.2.1, hB.2.2.1, hB.2.2.2.1, hB.2.2.2.2.1, hB.2.2.2.2.2.1, hB.2.2.2.2.2.2.1, hB.2.2.2.2.2.2.2.1, hB.2.2.2.2.2.2.2.2.1, hB.2.2.2.2.2.2.2.2.2.1, hB.2.2.2.2.2.2.2.2.2.2.1, hB.2.2.2.2.2.2.2.2.2.2.2.1, hB.2.2.2.2.2.2.2.2.2.2.2.2.1, hB.2.2.2.2.2.2.2.2.2.2.2.2.2]
  have hne : bkc b + 10 ≠ bkc b + 12 := by omega
  refine C_become hc12 hc10 hN hne f5 (fun J2 f6 f7 => ?_)
  have hb9 : bkc b < 16 := by unfold bkc; omega
  generalize hI2 : rI I1 (bkc b + 12) (σ.1 b).N = I2 at f7 ⊢
  have i1 : ∀ a, a ≠ bkc b + 12 → I2 a = I1 a := fun a ha => by rw [← hI2, rI_off ha]
  have i2 : ∀ a, a ≠ bkc b + 3 → a ≠ bkc b + 10 → a ≠ bkc b + 12 → I2 a = I a := fun a a1 a2 a3 => by rw [i1 a a3, f1 a a1 a2]
  have key : ∀ n l J', l + n = (σ.1 b).N → (∀ a, a ≠ bkc b + 13 → J' a = J2 a) → RSet (σ.1 b).N (bkc b + 12) (fun r => sayR (σ.1 b).N g r && fxTo (σ.1 b).N (σ.1 b).fx r l) I2 J' → AW (d + 4) ((G0 Ln).1, (G0 Ln).2.1) K 15 20 [.ref (bkc b), .int (nI (l + 1))] [] (G0 Ln) I2 J' := by
    intro n
    have e4 : I2 (bkc b) 4 = nI (σ.1 b).N := by rw [i2 _ (by omega) (by omega) (by omega)]; exact hh.1
    have e7 : I2 (bkc b) 7 = nI (σ.1 b).fx := by rw [i2 _ (by omega) (by omega) (by omega)]; exact hh.2.2.2.2.1
    induction n with
    | zero =>
      intro l J' hl hJ' hr
      have e : l = (σ.1 b).N := by omega
      rw [e] at hr ⊢
      simp (disch := omega) only [aw_iload_1 (pc2 := 21) D15_20 rfl, aw_aload_0 (pc2 := 22) D15_21 rfl, aw_getI (pc2 := 25) (ci := 0) (fk := 4) D15_22 rfl fT_0_32 rfl, aw_icmp_gt (pc2 := 28) (t := 79) D15_25 (by decide) rfl, aw_aload_0 (pc2 := 80) D15_79 rfl, aw_getR (pc2 := 83) (ci := 0) (fk := 3) D15_80 rfl fT_0_28 rfl, aw_aret D15_83 rfl, refV_s, refV_n, psh_s, psh_n, kil_i, kil_r, kil_n, kil_l, cat_i, cat_r, iOK_1, iOK_5, jOK_2, jOK_6, wOK_e, lOK_1, lOK_2, lOK_3, lOK_4, lOK_5, lOK_6, catS_0, catS_1, catS_2, catS_3, catS_4, and_self, true_and, and_true, true_or, or_true, false_or, or_false, not_true_eq_false, not_false_eq_true, if_true, if_false, ite_int, ite_int0, au_10, eq_self, decide_true, decide_false, Bool.true_and, Bool.false_and, au_in, au_le, au_lt, au_eq, au_lt0, au_ge0, au_le0, au_gt0, au_eq0, au_leT, au_leF, au_ltT, au_ltF, au_eqT, au_eqF, nI_clamp, nI_1, nI_add, pk_mul, au_sub1, au_subc, au_up2e, au_up2n, lit_of, hB.1.1, hB.1.2.1, hB.1.2.2.1, hB.1.2.2.2.1, hB.1.2.2.2.2.1, hB.1.2.2.2.2.2.1, hB.1.2.2.2.2.2.2.1, hB.1.2.2.2.2.2.2.2.1, hB.1.2.2.2.2.2.2.2.2.1, hB.1.2.2.2.2.2.2.2.2.2.1, hB.1.2.2.2.2.2.2.2.2.2.2.1, hB.1.2.2.2.2.2.2.2.2.2.2.2.1, hB.1.2.2.2.2.2.2.2.2.2.2.2.2.1, hB.1.2.2.2.2.2.2.2.2.2.2.2.2.2, hB.2.1, hB.2.2.1, hB.2.2.2.1, hB.2.2.2.2.1, hB.2.2.2.2.2.1, hB.2.2.2.2.2.2.1, hB.2.2.2.2.2.2.2.1, hB.2.2.2.2.2.2.2.2.1, hB.2.2.2.2.2.2.2.2.2.1, hB.2.2.2.2.2.2.2.2.2.2.1, hB.2.2.2.2.2.2.2.2.2.2.2.1, hB.2.2.2.2.2.2.2.2.2.2.2.2.1, hB.2.2.2.2.2.2.2.2.2.2.2.2.2, e4]
      refine hk I2 J' (CInv_said h hb hg i2 (fun k hk2 => by rw [i1 _ (by omega)]; exact f2 k hk2) (fun a a1 a2 a3 => by rw [hJ' a a3, f6 a a3, f3 a a1 a2]) (by rw [i1 _ (by omega)]; exact f4) (f5.fr (i1 _ (by omega)) (by rw [hJ' _ (by omega), f6 _ (by omega)]))) (fun a ha => ⟨i2 a (by omega) (by omega) (by omega), by rw [hJ' a (by omega), f6 a (by omega), f3 a (by omega) (by omega)]⟩) hr
    | succ n ih =>
      intro l J' hl hJ' hr
      have ihn := ih (l + 1)
      obtain ⟨b1, b2, -, -, b5, b6⟩ := lt_bits l (by omega)
      have hcon := (hfx.2 l (by omega)).2.2
      have hpat : ∀ j, J' patC j = pat j := fun j => by
        rw [hJ' patC (by show 1000001 ≠ _; omega), f6 patC (by show 1000001 ≠ _; omega), f3 patC (by show 1000001 ≠ _; omega) (by show 1000001 ≠ _; omega)]
        exact h.2.2.2.2 j
      have tstep : ∀ r, fxTo (σ.1 b).N (σ.1 b).fx r (l + 1) = (fxTo (σ.1 b).N (σ.1 b).fx r l && ((!(σ.1 b).fx.testBit l || hld (σ.1 b).N ((l : Int) + 1) r) && (!(σ.1 b).fx.testBit (12 + l) || hld (σ.1 b).N (-((l : Int) + 1)) r))) := fun r => rfl
      rw [aw_iload_1 (pc2 := 21) D15_20 rfl]
      simp (disch := omega) only [aw_aload_0 (pc2 := 22) D15_21 rfl, aw_getI (pc2 := 25) (ci := 0) (fk := 4) D15_22 rfl fT_0_32 rfl, aw_icmp_gt (pc2 := 28) (t := 79) D15_25 (by decide) rfl, aw_aload_0 (pc2 := 29) D15_28 rfl, aw_getI (pc2 := 32) (ci := 0) (fk := 7) D15_29 rfl fT_0_42 rfl, aw_iload_1 (pc2 := 33) D15_32 rfl, aw_is1_3 (pc2 := 36) D15_33 rfl cT_0_71 rfl, aw_iand (pc2 := 37) D15_36 rfl, aw_if_eq (pc2 := 40) (t := 51) D15_37 (by decide) rfl, aw_aload_0 (pc2 := 52) D15_51 rfl, aw_getI (pc2 := 55) (ci := 0) (fk := 7) D15_52 rfl fT_0_42 rfl, aw_iload_1 (pc2 := 56) D15_55 rfl, aw_ineg (pc2 := 57) D15_56 rfl, aw_is1_3 (pc2 := 60) D15_57 rfl cT_0_71 rfl, aw_iand (pc2 := 61) D15_60 rfl, aw_if_eq (pc2 := 64) (t := 73) D15_61 (by decide) rfl, refV_s, refV_n, psh_s, psh_n, kil_i, kil_r, kil_n, kil_l, cat_i, cat_r, iOK_1, iOK_5, jOK_2, jOK_6, wOK_e, lOK_1, lOK_2, lOK_3, lOK_4, lOK_5, lOK_6, catS_0, catS_1, catS_2, catS_3, catS_4, and_self, true_and, and_true, true_or, or_true, false_or, or_false, not_true_eq_false, not_false_eq_true, if_true, if_false, ite_int, ite_int0, au_10, eq_self, decide_true, decide_false, Bool.true_and, Bool.false_and, au_in, au_le, au_lt, au_eq, au_lt0, au_ge0, au_le0, au_gt0, au_eq0, au_leT, au_leF, au_ltT, au_ltF, au_eqT, au_eqF, nI_clamp, nI_1, nI_add, pk_mul, au_sub1, au_subc, au_up2e, au_up2n, lit_of, hB.1.1, hB.1.2.1, hB.1.2.2.1, hB.1.2.2.2.1, hB.1.2.2.2.2.1, hB.1.2.2.2.2.2.1, hB.1.2.2.2.2.2.2.1, hB.1.2.2.2.2.2.2.2.1, hB.1.2.2.2.2.2.2.2.2.1, hB.1.2.2.2.2.2.2.2.2.2.1, hB.1.2.2.2.2.2.2.2.2.2.2.1, hB.1.2.2.2.2.2.2.2.2.2.2.2.1, hB.1.2.2.2.2.2.2.2.2.2.2.2.2.1, hB.1.2.2.2.2.2.2.2.2.2.2.2.2.2, hB.2.1, hB.2.2.1, hB.2.2.2.1, hB.2.2.2.2.1, hB.2.2.2.2.2.1, hB.2.2.2.2.2.2.1, hB.2.2.2.2.2.2.2.1, hB.2.2.2.2.2.2.2.2.1, hB.2.2.2.2.2.2.2.2.2.1, hB.2.2.2.2.2.2.2.2.2.2.1, hB.2.2.2.2.2.2.2.2.2.2.2.1, hB.2.2.2.2.2.2.2.2.2.2.2.2.1, hB.2.2.2.2.2.2.2.2.2.2.2.2.2, e4, e7, C_bitOf, b1, b2, bit_test (show l < 31 by omega), bit_test (show 12 + l < 31 by omega)]
      cases t1 : (σ.1 b).fx.testBit l with
      | true =>
        have t2 : (σ.1 b).fx.testBit (12 + l) = false := by
          cases t2 : (σ.1 b).fx.testBit (12 + l)
          · rfl
          · exact absurd ⟨t1, t2⟩ hcon
        rw [if_neg (by decide)]
        simp (disch := omega) only [aw_aload_0 (pc2 := 41) D15_40 rfl, aw_getR (pc2 := 44) (ci := 0) (fk := 3) D15_41 rfl fT_0_28 rfl, aw_iload_1 (pc2 := 45) D15_44 rfl, aw_iv1_0 (pc2 := 48) (o := 5) D15_45 rfl cT_0_82 rfl rfl, refV_s, refV_n, psh_s, psh_n, kil_i, kil_r, kil_n, kil_l, cat_i, cat_r, iOK_1, iOK_5, jOK_2, jOK_6, wOK_e, lOK_1, lOK_2, lOK_3, lOK_4, lOK_5, lOK_6, catS_0, catS_1, catS_2, catS_3, catS_4, and_self, true_and, and_true, true_or, or_true, false_or, or_false, not_true_eq_false, not_false_eq_true, if_true, if_false, ite_int, ite_int0, au_10, eq_self, decide_true, decide_false, Bool.true_and, Bool.false_and, au_in, au_le, au_lt, au_eq, au_lt0, au_ge0, au_le0, au_gt0, au_eq0, au_leT, au_leF, au_ltT, au_ltF, au_eqT, au_eqF, nI_clamp, nI_1, nI_add, pk_mul, au_sub1, au_subc, au_up2e, au_up2n, lit_of, hB.1.1, hB.1.2.1, hB.1.2.2.1, hB.1.2.2.2.1, hB.1.2.2.2.2.1, hB.1.2.2.2.2.2.1, hB.1.2.2.2.2.2.2.1, hB.1.2.2.2.2.2.2.2.1, hB.1.2.2.2.2.2.2.2.2.1, hB.1.2.2.2.2.2.2.2.2.2.1, hB.1.2.2.2.2.2.2.2.2.2.2.1, hB.1.2.2.2.2.2.2.2.2.2.2.2.1, hB.1.2.2.2.2.2.2.2.2.2.2.2.2.1, hB.1.2.2.2.2.2.2.2.2.2.2.2.2.2, hB.2.1, hB.2.2.1, hB.2.2.2.1, hB.2.2.2.2.1, hB.2.2.2.2.2.1, hB.2.2.2.2.2.2.1, hB.2.2.2.2.2.2.2.1, hB.2.2.2.2.2.2.2.2.1, hB.2.2.2.2.2.2.2.2.2.1, hB.2.2.2.2.2.2.2.2.2.2.1, hB.2.2.2.2.2.2.2.2.2.2.2.1, hB.2.2.2.2.2.2.2.2.2.2.2.2.1, hB.2.2.2.2.2.2.2.2.2.2.2.2.2]
        refine C_keepW b5 hc12 hpat hN (by omega) (by omega) (by omega) hr (fun J3 f8 f9 => ?_)
        simp (disch := omega) only [aw_goto (t := 73) D15_48 (by decide), aw_iinc_1 (pc2 := 76) (y := 1) D15_73 rfl (by decide), aw_goto (t := 20) D15_76 (by decide), refV_s, refV_n, psh_s, psh_n, kil_i, kil_r, kil_n, kil_l, cat_i, cat_r, iOK_1, iOK_5, jOK_2, jOK_6, wOK_e, lOK_1, lOK_2, lOK_3, lOK_4, lOK_5, lOK_6, catS_0, catS_1, catS_2, catS_3, catS_4, and_self, true_and, and_true, true_or, or_true, false_or, or_false, not_true_eq_false, not_false_eq_true, if_true, if_false, ite_int, ite_int0, au_10, eq_self, decide_true, decide_false, Bool.true_and, Bool.false_and, au_in, au_le, au_lt, au_eq, au_lt0, au_ge0, au_le0, au_gt0, au_eq0, au_leT, au_leF, au_ltT, au_ltF, au_eqT, au_eqF, nI_clamp, nI_1, nI_add, pk_mul, au_sub1, au_subc, au_up2e, au_up2n, lit_of]
        refine ihn J3 (by omega) (fun a ha => by rw [f8 a ha, hJ' a ha]) (f9.congr (fun r _ => ?_))
        rw [tstep, t1, t2]
        simp [Bool.and_assoc]
      | false =>
        rw [if_pos rfl]
        cases t2 : (σ.1 b).fx.testBit (12 + l) with
        | true =>
          rw [if_neg (by decide)]
          simp (disch := omega) only [aw_aload_0 (pc2 := 65) D15_64 rfl, aw_getR (pc2 := 68) (ci := 0) (fk := 3) D15_65 rfl fT_0_28 rfl, aw_iload_1 (pc2 := 69) D15_68 rfl, aw_ineg (pc2 := 70) D15_69 rfl, aw_iv1_0 (pc2 := 73) (o := 5) D15_70 rfl cT_0_82 rfl rfl, refV_s, refV_n, psh_s, psh_n, kil_i, kil_r, kil_n, kil_l, cat_i, cat_r, iOK_1, iOK_5, jOK_2, jOK_6, wOK_e, lOK_1, lOK_2, lOK_3, lOK_4, lOK_5, lOK_6, catS_0, catS_1, catS_2, catS_3, catS_4, and_self, true_and, and_true, true_or, or_true, false_or, or_false, not_true_eq_false, not_false_eq_true, if_true, if_false, ite_int, ite_int0, au_10, eq_self, decide_true, decide_false, Bool.true_and, Bool.false_and, au_in, au_le, au_lt, au_eq, au_lt0, au_ge0, au_le0, au_gt0, au_eq0, au_leT, au_leF, au_ltT, au_ltF, au_eqT, au_eqF, nI_clamp, nI_1, nI_add, pk_mul, au_sub1, au_subc, au_up2e, au_up2n, lit_of, hB.1.1, hB.1.2.1, hB.1.2.2.1, hB.1.2.2.2.1, hB.1.2.2.2.2.1, hB.1.2.2.2.2.2.1, hB.1.2.2.2.2.2.2.1, hB.1.2.2.2.2.2.2.2.1, hB.1.2.2.2.2.2.2.2.2.1, hB.1.2.2.2.2.2.2.2.2.2.1, hB.1.2.2.2.2.2.2.2.2.2.2.1, hB.1.2.2.2.2.2.2.2.2.2.2.2.1, hB.1.2.2.2.2.2.2.2.2.2.2.2.2.1, hB.1.2.2.2.2.2.2.2.2.2.2.2.2.2, hB.2.1, hB.2.2.1, hB.2.2.2.1, hB.2.2.2.2.1, hB.2.2.2.2.2.1, hB.2.2.2.2.2.2.1, hB.2.2.2.2.2.2.2.1, hB.2.2.2.2.2.2.2.2.1, hB.2.2.2.2.2.2.2.2.2.1, hB.2.2.2.2.2.2.2.2.2.2.1, hB.2.2.2.2.2.2.2.2.2.2.2.1, hB.2.2.2.2.2.2.2.2.2.2.2.2.1, hB.2.2.2.2.2.2.2.2.2.2.2.2.2]
          refine C_keepW b6 hc12 hpat hN (by omega) (by omega) (by omega) hr (fun J3 f8 f9 => ?_)
          simp (disch := omega) only [aw_iinc_1 (pc2 := 76) (y := 1) D15_73 rfl (by decide), aw_goto (t := 20) D15_76 (by decide), refV_s, refV_n, psh_s, psh_n, kil_i, kil_r, kil_n, kil_l, cat_i, cat_r, iOK_1, iOK_5, jOK_2, jOK_6, wOK_e, lOK_1, lOK_2, lOK_3, lOK_4, lOK_5, lOK_6, catS_0, catS_1, catS_2, catS_3, catS_4, and_self, true_and, and_true, true_or, or_true, false_or, or_false, not_true_eq_false, not_false_eq_true, if_true, if_false, ite_int, ite_int0, au_10, eq_self, decide_true, decide_false, Bool.true_and, Bool.false_and, au_in, au_le, au_lt, au_eq, au_lt0, au_ge0, au_le0, au_gt0, au_eq0, au_leT, au_leF, au_ltT, au_ltF, au_eqT, au_eqF, nI_clamp, nI_1, nI_add, pk_mul, au_sub1, au_subc, au_up2e, au_up2n, lit_of]
          refine ihn J3 (by omega) (fun a ha => by rw [f8 a ha, hJ' a ha]) (f9.congr (fun r _ => ?_))
          rw [tstep, t1, t2]
          simp [Bool.and_assoc]
        | false =>
          rw [if_pos rfl]
          simp (disch := omega) only [aw_iinc_1 (pc2 := 76) (y := 1) D15_73 rfl (by decide), aw_goto (t := 20) D15_76 (by decide), refV_s, refV_n, psh_s, psh_n, kil_i, kil_r, kil_n, kil_l, cat_i, cat_r, iOK_1, iOK_5, jOK_2, jOK_6, wOK_e, lOK_1, lOK_2, lOK_3, lOK_4, lOK_5, lOK_6, catS_0, catS_1, catS_2, catS_3, catS_4, and_self, true_and, and_true, true_or, or_true, false_or, or_false, not_true_eq_false, not_false_eq_true, if_true, if_false, ite_int, ite_int0, au_10, eq_self, decide_true, decide_false, Bool.true_and, Bool.false_and, au_in, au_le, au_lt, au_eq, au_lt0, au_ge0, au_le0, au_gt0, au_eq0, au_leT, au_leF, au_ltT, au_ltF, au_eqT, au_eqF, nI_clamp, nI_1, nI_add, pk_mul, au_sub1, au_subc, au_up2e, au_up2n, lit_of]
          refine ihn J' (by omega) hJ' (hr.congr (fun r _ => ?_))
          rw [tstep, t1, t2]
          simp
  simp only [aw_iconst (pc2 := 19) (y := 1) D15_18 rfl (by decide), aw_istore_1 (pc2 := 20) D15_19 rfl, refV_s, refV_n, psh_s, psh_n, kil_i, kil_r, kil_n, kil_l, cat_i, cat_r, iOK_1, iOK_5, jOK_2, jOK_6, wOK_e, lOK_1, lOK_2, lOK_3, lOK_4, lOK_5, lOK_6, catS_0, catS_1, catS_2, catS_3, catS_4, and_self, true_and, and_true, true_or, or_true, false_or, or_false, not_true_eq_false, not_false_eq_true, if_true, if_false, ite_int, ite_int0, au_10, eq_self, decide_true, decide_false, Bool.true_and, Bool.false_and]
  exact key (σ.1 b).N 0 J2 (by omega) (fun _ _ => rfl) (f7.congr (fun r _ => by rw [show fxTo (σ.1 b).N (σ.1 b).fx r 0 = true from rfl, Bool.and_true]))
end Told
