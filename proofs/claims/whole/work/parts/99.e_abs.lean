/-! the law goes through in the small machine -/
def sg0 : SG := (fun _ => (8, [], 0, 0, fun _ => 1, none), none, fun _ => 0, -1)
theorem sg0_ok : sgOK sg0 := by
  refine ⟨fun b _ => ⟨show 1 ≤ 8 by decide, show 8 ≤ 12 by decide, Nat.zero_le _, fun c hc => (by cases hc), Nat.two_pow_pos _, ⟨show (0 : Nat) < 2 ^ 24 by decide, fun l _ => ⟨fun q => ?_, fun q => ?_, fun q => ?_⟩⟩, fun _ => show 1 ≤ 7 by decide, fun g hg => (by cases hg)⟩, fun r hr => (by cases hr)⟩
  · have q : (0 : Nat).testBit l = true := q
    rw [Nat.zero_testBit] at q; cases q
  · have q : (0 : Nat).testBit (12 + l) = true := q
    rw [Nat.zero_testBit] at q; cases q
  · have q : (0 : Nat).testBit l = true := q.1
    rw [Nat.zero_testBit] at q; cases q
theorem g00_1 {Ln : Nat} : (G00 Ln).1 = 0 := rfl
theorem g00_2 {Ln : Nat} : (G00 Ln).2.1 = 0 := rfl
theorem law_abs : ABS := by
  intro Ln xs hL
  have e1 : (newO (G00 Ln) 6).1 = 1 := rfl
  have e2 : (newO (G00 Ln) 6).2.1 = 10 := rfl
  obtain ⟨n1, n2, n3, n4, n5, m1, m2, m3, m4, m5⟩ := gWal_n (G := newO (G00 Ln) 6) (c := 0)
  have w1 : (gWal (newO (G00 Ln) 6) 0).1 = 122 := by
    show (gWal5 (newO (G00 Ln) 6) 0).1 + 1 + 1 = 122
    rw [n5, e1]
  have w2 : (gWal (newO (G00 Ln) 6) 0).2.1 = 100889 := by
    show (gWal5 (newO (G00 Ln) 6) 0).2.1 + 5 + 10 = 100889
    rw [m5, e2]
  simp (disch := omega) only [aw_new (pc2 := 3) (ci := 6) D209_0 rfl (by decide), aw_dup (pc2 := 4) D209_3 rfl, aw_ii0_4 (pc2 := 7) D209_4 rfl cT_8_9 rfl, refV_s, refV_n, psh_s, psh_n, kil_i, kil_r, kil_n, kil_l, cat_i, cat_r, iOK_1, iOK_5, jOK_2, jOK_6, wOK_e, lOK_1, lOK_2, lOK_3, lOK_4, lOK_5, lOK_6, catS_0, catS_1, catS_2, catS_3, catS_4, and_self, true_and, and_true, true_or, or_true, false_or, or_false, not_true_eq_false, not_false_eq_true, if_true, if_false, ite_int, ite_int0, au_10, eq_self, decide_true, decide_false, Bool.true_and, Bool.false_and, au_in, au_le, au_lt, au_eq, au_lt0, au_ge0, au_le0, au_gt0, au_eq0, au_leT, au_leF, au_ltT, au_ltF, au_eqT, au_eqF, nI_clamp, nI_1, nI_add, pk_mul, au_sub1, au_subc, au_up2e, au_up2n, lit_of, g00_1, g00_2, Nat.reduceAdd, Nat.zero_add, nO_1, nO_2, nf_6, mc_74]
  refine N_wal (d := 296) (G := newO (G00 Ln) 6) (c := 0) (by rw [e1]; decide) (sh_nOe rfl) (by rw [e1]; decide) (fun I1 J1 f1 g1 hB h8 h9 hr => ?_)
  rw [e1] at hB hr f1 g1
  simp (disch := omega) only [aw_astore_1 (pc2 := 8) D209_7 rfl, aw_new (pc2 := 11) (ci := 7) D209_8 rfl (by decide), aw_dup (pc2 := 12) D209_11 rfl, aw_ii0_4 (pc2 := 15) D209_12 rfl cT_8_12 rfl, refV_s, refV_n, psh_s, psh_n, kil_i, kil_r, kil_n, kil_l, cat_i, cat_r, iOK_1, iOK_5, jOK_2, jOK_6, wOK_e, lOK_1, lOK_2, lOK_3, lOK_4, lOK_5, lOK_6, catS_0, catS_1, catS_2, catS_3, catS_4, and_self, true_and, and_true, true_or, or_true, false_or, or_false, not_true_eq_false, not_false_eq_true, if_true, if_false, ite_int, ite_int0, au_10, eq_self, decide_true, decide_false, Bool.true_and, Bool.false_and, au_in, au_le, au_lt, au_eq, au_lt0, au_ge0, au_le0, au_gt0, au_eq0, au_leT, au_leF, au_ltT, au_ltF, au_eqT, au_eqF, nI_clamp, nI_1, nI_add, pk_mul, au_sub1, au_subc, au_up2e, au_up2n, lit_of, psh, w1, w2, Nat.reduceAdd, nO_1, nO_2, nf_7, mc_123]
  have e3 : (newO (gWal (newO (G00 Ln) 6) 0) 7).1 = 123 := by rw [nO_1, w1]
  refine N_mod (d := 299) (G := newO (gWal (newO (G00 Ln) 6) 0) 7) (c := 122) (by rw [e3]; decide) (sh_nOe w1.symm) (by rw [e3]; decide) (fun I2 f2 k0 k6 kz k44 k48 => ?_)
  rw [e3] at f2 k0 k6 kz
  rw [geo_G]
  simp (disch := omega) only [aw_astore_2 (pc2 := 16) D209_15 rfl, aw_iconst (pc2 := 17) (y := 0) D209_16 rfl (by decide), aw_istore_3 (pc2 := 18) D209_17 rfl, refV_s, refV_n, psh_s, psh_n, kil_i, kil_r, kil_n, kil_l, cat_i, cat_r, iOK_1, iOK_5, jOK_2, jOK_6, wOK_e, lOK_1, lOK_2, lOK_3, lOK_4, lOK_5, lOK_6, catS_0, catS_1, catS_2, catS_3, catS_4, and_self, true_and, and_true, true_or, or_true, false_or, or_false, not_true_eq_false, not_false_eq_true, if_true, if_false, ite_int, ite_int0, au_10, eq_self, decide_true, decide_false, Bool.true_and, Bool.false_and, psh]
  have a2 : ∀ a, a < 122 ∨ a = scrC → I2 a = I1 a := fun a ha => by
    rw [f2 a (by unfold scrC at *; omega) (by unfold scrC at ha; omega), up1_off (by unfold scrC at ha; omega)]
  refine L_loop (xs := xs) hL (Ln + 1) 0 sg0 I2 J1 (by omega) (by decide) sg0_ok ⟨fun b hb => ?_, ?_, fun k k1 k2 => ?_, ?_, fun j => ?_⟩ ⟨fun b hb => ?_, k48, fun k k1 k2 => ?_, k44⟩ ?_
  · have hBb := hB (bkc b) (by unfold bkc; omega)
    obtain ⟨h4, h5, h6, h7, h8, hw⟩ := hBb
    have hb2 : bkc b + 2 < 122 := by unfold bkc; omega
    refine ⟨?_, ?_, fun i hi => absurd hi (Nat.not_lt_zero _), ?_, ?_, fun p hp => ?_, ?_⟩
    · rw [a2 _ (by omega)]; exact h4
    · rw [a2 _ (by omega)]; exact h5
    · rw [a2 _ (by omega)]; exact h6
    · rw [a2 _ (by omega)]; exact h7
    · rw [a2 _ (by omega)]; exact hw p hp
    · show I2 (bkc b) 8 = 0
      rw [a2 _ (by omega)]; exact h8
  · show I2 0 8 = 0
    rw [a2 0 (by omega)]; exact h8
  · rw [a2 121 (by omega)]; exact hr k
  · rw [a2 0 (by omega)]; exact h9
  · rw [g1 patC (Or.inr rfl)]
    show (if patC = patC then pat j else 0) = pat j
    rw [if_pos rfl]
  · refine ⟨k0 b hb, kz 2 b (by omega), fun i hi => absurd hi (Nat.not_lt_zero _), kz 3 b (by omega), kz 4 b (by omega), (kz 5 b (by omega)).trans (show (0 : Int32) = nI (0 / 4096) from by decide), fun p hp => k6 _ (by omega), kz 8 b (by omega)⟩
  · exact kz 7 k (by omega)
  · rw [a2 scrC (Or.inr rfl), f1 scrC (Or.inr rfl) (by decide), up1_off (by decide)]
    funext j
    show (if scrC = scrC then xs j else 0) = xs j
    rw [if_pos rfl]
