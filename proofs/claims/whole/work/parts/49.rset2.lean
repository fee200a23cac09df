section RSets2
variable {d Ln c N : Nat} {I : IT} {J : JT} {K : KT}
theorem C_rowsWhere {s : Int} {w : Nat} (hJ : ∀ j, J patC j = pat j) (hN : N ≤ 12) (h0 : s ≠ 0) (h1 : -(N : Int) ≤ s) (h2 : s ≤ N) (hw : w < 64) : ACall (d + 1) 122 [.int (iI s), .int (nI N), .int (nI w)] (G0 Ln) I J K ↔ K (some (.long (rwv N s w))) (G0 Ln) I J := by
  rw [ACall_0 (L0 := [.int (iI s), .int (nI N), .int (nI w), nv, nv, nv]) (show mcs 122 = (0, 0) from rfl) (show entL 122 [.int (iI s), .int (nI N), .int (nI w)] = _ from rfl) rfl (Nat.le_of_ble_eq_true rfl)]
  obtain ⟨a1, a2⟩ := abs_ok (s := s) (by omega) (by omega)
  have hle : s.natAbs ≤ N := by omega
  generalize hb : N - s.natAbs = b
  have hb12 : b < 12 := by omega
  have hv : rwv N s w = if 0 < s then (if b < 6 then pat b else if w.testBit (b - 6) then -1 else 0) else (if b < 6 then pat b else if w.testBit (b - 6) then -1 else 0) ^^^ -1 := by rw [← hb]; rfl
  have hsub : nI N - nI s.natAbs = nI b := by rw [au_subc hle, hb]
  rw [hv]
  by_cases hp : 0 < s
  · have hp' : ¬ s ≤ 0 := by omega
    rw [if_pos hp]
    by_cases h6 : b < 6
    · rw [if_pos h6]
      simp (disch := omega) only [aw_iload_1 (pc2 := 1) D122_0 rfl, aw_iload_0 (pc2 := 2) D122_1 rfl, aw_mabs (pc2 := 5) D122_2 rfl cT_6_251, aw_isub (pc2 := 6) D122_5 rfl, aw_istore_3 (pc2 := 7) D122_6 rfl, aw_lconst (pc2 := 8) (y := 0) D122_7 rfl (by decide), aw_lstore_4 (pc2 := 10) D122_8 rfl, aw_iload_3 (pc2 := 11) D122_10 rfl, aw_if_lt (pc2 := 14) (t := 32) D122_11 (by decide) rfl, aw_iload_3 (pc2 := 15) D122_14 rfl, aw_getS (pc2 := 18) D122_15 rfl ⟨rfl, rfl⟩, aw_alen (pc2 := 19) D122_18 rfl, aw_icmp_ge (pc2 := 22) (t := 32) D122_19 (by decide) rfl, aw_getS (pc2 := 25) D122_22 rfl ⟨rfl, rfl⟩, aw_iload_3 (pc2 := 26) D122_25 rfl, aw_laload (pc2 := 27) D122_26 rfl, aw_lstore_4 (pc2 := 29) D122_27 rfl, aw_goto (t := 50) D122_29 (by decide), aw_iload_2 (pc2 := 33) D122_32 rfl, aw_iload_3 (pc2 := 34) D122_33 rfl, aw_getS (pc2 := 37) D122_34 rfl ⟨rfl, rfl⟩, aw_alen (pc2 := 38) D122_37 rfl, aw_isub (pc2 := 39) D122_38 rfl, aw_ishr (pc2 := 40) D122_39 rfl, aw_iconst (pc2 := 41) (y := 1) D122_40 rfl (by decide), aw_iand (pc2 := 42) D122_41 rfl, aw_if_eq (pc2 := 45) (t := 50) D122_42 (by decide) rfl, aw_ldc2_w (pc2 := 48) (v := -1) D122_45 rfl (by decide), aw_lstore_4 (pc2 := 50) D122_48 rfl, aw_iload_0 (pc2 := 51) D122_50 rfl, aw_if_le (pc2 := 54) (t := 59) D122_51 (by decide) rfl, aw_lload_4 (pc2 := 56) D122_54 rfl, aw_goto (t := 65) D122_56 (by decide), aw_lload_4 (pc2 := 61) D122_59 rfl, aw_ldc2_w (pc2 := 64) (v := -1) D122_61 rfl (by decide), aw_lxor (pc2 := 65) D122_64 rfl, aw_lret D122_65 rfl, sh_0, refV_s, refV_n, psh_s, psh_n, kil_i, kil_r, kil_n, kil_l, cat_i, cat_r, iOK_1, iOK_5, jOK_2, jOK_6, wOK_e, lOK_1, lOK_2, lOK_3, lOK_4, lOK_5, lOK_6, catS_0, catS_1, catS_2, catS_3, catS_4, and_self, true_and, and_true, true_or, or_true, false_or, or_false, not_true_eq_false, not_false_eq_true, if_true, if_false, ite_int, ite_int0, au_10, eq_self, decide_true, decide_false, Bool.true_and, Bool.false_and, au_in, au_le, au_lt, au_eq, au_lt0, au_ge0, au_le0, au_gt0, au_eq0, au_leT, au_leF, au_ltT, au_ltF, au_eqT, au_eqF, nI_clamp, nI_1, nI_add, pk_mul, au_sub1, au_subc, au_up2e, au_up2n, lit_of, sh_pat, a1, a2, hsub, hJ, hp']
    · rw [if_neg h6]
      simp (disch := omega) only [aw_iload_1 (pc2 := 1) D122_0 rfl, aw_iload_0 (pc2 := 2) D122_1 rfl, aw_mabs (pc2 := 5) D122_2 rfl cT_6_251, aw_isub (pc2 := 6) D122_5 rfl, aw_istore_3 (pc2 := 7) D122_6 rfl, aw_lconst (pc2 := 8) (y := 0) D122_7 rfl (by decide), aw_lstore_4 (pc2 := 10) D122_8 rfl, aw_iload_3 (pc2 := 11) D122_10 rfl, aw_if_lt (pc2 := 14) (t := 32) D122_11 (by decide) rfl, aw_iload_3 (pc2 := 15) D122_14 rfl, aw_getS (pc2 := 18) D122_15 rfl ⟨rfl, rfl⟩, aw_alen (pc2 := 19) D122_18 rfl, aw_icmp_ge (pc2 := 22) (t := 32) D122_19 (by decide) rfl, aw_getS (pc2 := 25) D122_22 rfl ⟨rfl, rfl⟩, aw_iload_3 (pc2 := 26) D122_25 rfl, aw_laload (pc2 := 27) D122_26 rfl, aw_lstore_4 (pc2 := 29) D122_27 rfl, aw_goto (t := 50) D122_29 (by decide), aw_iload_2 (pc2 := 33) D122_32 rfl, aw_iload_3 (pc2 := 34) D122_33 rfl, aw_getS (pc2 := 37) D122_34 rfl ⟨rfl, rfl⟩, aw_alen (pc2 := 38) D122_37 rfl, aw_isub (pc2 := 39) D122_38 rfl, aw_ishr (pc2 := 40) D122_39 rfl, aw_iconst (pc2 := 41) (y := 1) D122_40 rfl (by decide), aw_iand (pc2 := 42) D122_41 rfl, aw_if_eq (pc2 := 45) (t := 50) D122_42 (by decide) rfl, aw_ldc2_w (pc2 := 48) (v := -1) D122_45 rfl (by decide), aw_lstore_4 (pc2 := 50) D122_48 rfl, aw_iload_0 (pc2 := 51) D122_50 rfl, aw_if_le (pc2 := 54) (t := 59) D122_51 (by decide) rfl, aw_lload_4 (pc2 := 56) D122_54 rfl, aw_goto (t := 65) D122_56 (by decide), aw_lload_4 (pc2 := 61) D122_59 rfl, aw_ldc2_w (pc2 := 64) (v := -1) D122_61 rfl (by decide), aw_lxor (pc2 := 65) D122_64 rfl, aw_lret D122_65 rfl, sh_0, refV_s, refV_n, psh_s, psh_n, kil_i, kil_r, kil_n, kil_l, cat_i, cat_r, iOK_1, iOK_5, jOK_2, jOK_6, wOK_e, lOK_1, lOK_2, lOK_3, lOK_4, lOK_5, lOK_6, catS_0, catS_1, catS_2, catS_3, catS_4, and_self, true_and, and_true, true_or, or_true, false_or, or_false, not_true_eq_false, not_false_eq_true, if_true, if_false, ite_int, ite_int0, au_10, eq_self, decide_true, decide_false, Bool.true_and, Bool.false_and, au_in, au_le, au_lt, au_eq, au_lt0, au_ge0, au_le0, au_gt0, au_eq0, au_leT, au_leF, au_ltT, au_ltF, au_eqT, au_eqF, nI_clamp, nI_1, nI_add, pk_mul, au_sub1, au_subc, au_up2e, au_up2n, lit_of, sh_pat, a1, a2, hsub, shr_bit, nI_bit, hp']
      cases e : w.testBit (b - 6) <;> simp
  · have hp' : s ≤ 0 := by omega
    rw [if_neg hp]
    by_cases h6 : b < 6
    · rw [if_pos h6]
      simp (disch := omega) only [aw_iload_1 (pc2 := 1) D122_0 rfl, aw_iload_0 (pc2 := 2) D122_1 rfl, aw_mabs (pc2 := 5) D122_2 rfl cT_6_251, aw_isub (pc2 := 6) D122_5 rfl, aw_istore_3 (pc2 := 7) D122_6 rfl, aw_lconst (pc2 := 8) (y := 0) D122_7 rfl (by decide), aw_lstore_4 (pc2 := 10) D122_8 rfl, aw_iload_3 (pc2 := 11) D122_10 rfl, aw_if_lt (pc2 := 14) (t := 32) D122_11 (by decide) rfl, aw_iload_3 (pc2 := 15) D122_14 rfl, aw_getS (pc2 := 18) D122_15 rfl ⟨rfl, rfl⟩, aw_alen (pc2 := 19) D122_18 rfl, aw_icmp_ge (pc2 := 22) (t := 32) D122_19 (by decide) rfl, aw_getS (pc2 := 25) D122_22 rfl ⟨rfl, rfl⟩, aw_iload_3 (pc2 := 26) D122_25 rfl, aw_laload (pc2 := 27) D122_26 rfl, aw_lstore_4 (pc2 := 29) D122_27 rfl, aw_goto (t := 50) D122_29 (by decide), aw_iload_2 (pc2 := 33) D122_32 rfl, aw_iload_3 (pc2 := 34) D122_33 rfl, aw_getS (pc2 := 37) D122_34 rfl ⟨rfl, rfl⟩, aw_alen (pc2 := 38) D122_37 rfl, aw_isub (pc2 := 39) D122_38 rfl, aw_ishr (pc2 := 40) D122_39 rfl, aw_iconst (pc2 := 41) (y := 1) D122_40 rfl (by decide), aw_iand (pc2 := 42) D122_41 rfl, aw_if_eq (pc2 := 45) (t := 50) D122_42 (by decide) rfl, aw_ldc2_w (pc2 := 48) (v := -1) D122_45 rfl (by decide), aw_lstore_4 (pc2 := 50) D122_48 rfl, aw_iload_0 (pc2 := 51) D122_50 rfl, aw_if_le (pc2 := 54) (t := 59) D122_51 (by decide) rfl, aw_lload_4 (pc2 := 56) D122_54 rfl, aw_goto (t := 65) D122_56 (by decide), aw_lload_4 (pc2 := 61) D122_59 rfl, aw_ldc2_w (pc2 := 64) (v := -1) D122_61 rfl (by decide), aw_lxor (pc2 := 65) D122_64 rfl, aw_lret D122_65 rfl, sh_0, refV_s, refV_n, psh_s, psh_n, kil_i, kil_r, kil_n, kil_l, cat_i, cat_r, iOK_1, iOK_5, jOK_2, jOK_6, wOK_e, lOK_1, lOK_2, lOK_3, lOK_4, lOK_5, lOK_6, catS_0, catS_1, catS_2, catS_3, catS_4, and_self, true_and, and_true, true_or, or_true, false_or, or_false, not_true_eq_false, not_false_eq_true, if_true, if_false, ite_int, ite_int0, au_10, eq_self, decide_true, decide_false, Bool.true_and, Bool.false_and, au_in, au_le, au_lt, au_eq, au_lt0, au_ge0, au_le0, au_gt0, au_eq0, au_leT, au_leF, au_ltT, au_ltF, au_eqT, au_eqF, nI_clamp, nI_1, nI_add, pk_mul, au_sub1, au_subc, au_up2e, au_up2n, lit_of, sh_pat, a1, a2, hsub, hJ, hp']
    · rw [if_neg h6]
      simp (disch := omega) only [aw_iload_1 (pc2 := 1) D122_0 rfl, aw_iload_0 (pc2 := 2) D122_1 rfl, aw_mabs (pc2 := 5) D122_2 rfl cT_6_251, aw_isub (pc2 := 6) D122_5 rfl, aw_istore_3 (pc2 := 7) D122_6 rfl, aw_lconst (pc2 := 8) (y := 0) D122_7 rfl (by decide), aw_lstore_4 (pc2 := 10) D122_8 rfl, aw_iload_3 (pc2 := 11) D122_10 rfl, aw_if_lt (pc2 := 14) (t := 32) D122_11 (by decide) rfl, aw_iload_3 (pc2 := 15) D122_14 rfl, aw_getS (pc2 := 18) D122_15 rfl ⟨rfl, rfl⟩, aw_alen (pc2 := 19) D122_18 rfl, aw_icmp_ge (pc2 := 22) (t := 32) D122_19 (by decide) rfl, aw_getS (pc2 := 25) D122_22 rfl ⟨rfl, rfl⟩, aw_iload_3 (pc2 := 26) D122_25 rfl, aw_laload (pc2 := 27) D122_26 rfl, aw_lstore_4 (pc2 := 29) D122_27 rfl, aw_goto (t := 50) D122_29 (by decide), aw_iload_2 (pc2 := 33) D122_32 rfl, aw_iload_3 (pc2 := 34) D122_33 rfl, aw_getS (pc2 := 37) D122_34 rfl ⟨rfl, rfl⟩, aw_alen (pc2 := 38) D122_37 rfl, aw_isub (pc2 := 39) D122_38 rfl, aw_ishr (pc2 := 40) D122_39 rfl, aw_iconst (pc2 := 41) (y := 1) D122_40 rfl (by decide), aw_iand (pc2 := 42) D122_41 rfl, aw_if_eq (pc2 := 45) (t := 50) D122_42 (by decide) rfl, aw_ldc2_w (pc2 := 48) (v := -1) D122_45 rfl (by decide), aw_lstore_4 (pc2 := 50) D122_48 rfl, aw_iload_0 (pc2 := 51) D122_50 rfl, aw_if_le (pc2 := 54) (t := 59) D122_51 (by decide) rfl, aw_lload_4 (pc2 := 56) D122_54 rfl, aw_goto (t := 65) D122_56 (by decide), aw_lload_4 (pc2 := 61) D122_59 rfl, aw_ldc2_w (pc2 := 64) (v := -1) D122_61 rfl (by decide), aw_lxor (pc2 := 65) D122_64 rfl, aw_lret D122_65 rfl, sh_0, refV_s, refV_n, psh_s, psh_n, kil_i, kil_r, kil_n, kil_l, cat_i, cat_r, iOK_1, iOK_5, jOK_2, jOK_6, wOK_e, lOK_1, lOK_2, lOK_3, lOK_4, lOK_5, lOK_6, catS_0, catS_1, catS_2, catS_3, catS_4, and_self, true_and, and_true, true_or, or_true, false_or, or_false, not_true_eq_false, not_false_eq_true, if_true, if_false, ite_int, ite_int0, au_10, eq_self, decide_true, decide_false, Bool.true_and, Bool.false_and, au_in, au_le, au_lt, au_eq, au_lt0, au_ge0, au_le0, au_gt0, au_eq0, au_leT, au_leF, au_ltT, au_ltF, au_eqT, au_eqF, nI_clamp, nI_1, nI_add, pk_mul, au_sub1, au_subc, au_up2e, au_up2n, lit_of, sh_pat, a1, a2, hsub, shr_bit, nI_bit, hp']
      cases e : w.testBit (b - 6) <;> simp
theorem C_keepWhere {s : Int} {T : Nat → Bool} (hc : RF Ln c) (hJ : ∀ j, J patC j = pat j) (hN : N ≤ 12) (h0 : s ≠ 0) (h1 : -(N : Int) ≤ s) (h2 : s ≤ N) (h : RSet N c T I J) (hk : ∀ J', (∀ a, a ≠ c + 1 → J' a = J a) → RSet N c (fun r => T r && hld N s r) I J' → K none (G0 Ln) I J') : ACall (d + 2) 67 [.ref c, .int (iI s)] (G0 Ln) I J K := by
  rw [ACall_0 (L0 := [.ref c, .int (iI s), nv]) (show mcs 67 = (0, 0) from rfl) (show entL 67 [.ref c, .int (iI s)] = _ from rfl) rfl (Nat.le_of_ble_eq_true rfl)]
  obtain ⟨w1, w2, -⟩ := wN_all N (by omega)
  obtain ⟨hc1, c1, c2, c3⟩ := hc
  have hpc : patC ≠ c + 1 := by show 1000001 ≠ c + 1; omega
  simp (disch := omega) only [aw_iconst (pc2 := 1) (y := 0) D67_0 rfl (by decide), aw_istore_2 (pc2 := 2) D67_1 rfl, refV_s, refV_n, psh_s, psh_n, kil_i, kil_r, kil_n, kil_l, cat_i, cat_r, iOK_1, iOK_5, jOK_2, jOK_6, wOK_e, lOK_1, lOK_2, lOK_3, lOK_4, lOK_5, lOK_6, catS_0, catS_1, catS_2, catS_3, catS_4, and_self, true_and, and_true, true_or, or_true, false_or, or_false, not_true_eq_false, not_false_eq_true, if_true, if_false, ite_int, ite_int0, au_10, eq_self, decide_true, decide_false, Bool.true_and, Bool.false_and, au_in, au_le, au_lt, au_eq, au_lt0, au_ge0, au_le0, au_gt0, au_eq0, au_leT, au_leF, au_ltT, au_ltF, au_eqT, au_eqF, nI_clamp, nI_1, nI_add, pk_mul, au_sub1, au_subc, au_up2e, au_up2n, lit_of]
  have key : ∀ n i J', i + n = wN N → (∀ a, a ≠ c + 1 → J' a = J a) → (∀ w, w < i → J' (c + 1) w = J (c + 1) w &&& rwv N s w) → (∀ w, i ≤ w → J' (c + 1) w = J (c + 1) w) → AW (d + 1) ((G0 Ln).1, (G0 Ln).2.1) K 67 2 [.ref c, .int (iI s), .int (nI i)] [] (G0 Ln) I J' := by
    intro n
    induction n with
    | zero =>
      intro i J' hi hJ' hw hw2
      have e : i = wN N := by omega
      subst e
      simp (disch := omega) only [aw_iload_2 (pc2 := 3) D67_2 rfl, aw_aload_0 (pc2 := 4) D67_3 rfl, aw_getI (pc2 := 7) (ci := 5) (fk := 3) D67_4 rfl fT_5_22 rfl, aw_icmp_ge (pc2 := 10) (t := 34) D67_7 (by decide) rfl, aw_vret D67_34 rfl, refV_s, refV_n, psh_s, psh_n, kil_i, kil_r, kil_n, kil_l, cat_i, cat_r, iOK_1, iOK_5, jOK_2, jOK_6, wOK_e, lOK_1, lOK_2, lOK_3, lOK_4, lOK_5, lOK_6, catS_0, catS_1, catS_2, catS_3, catS_4, and_self, true_and, and_true, true_or, or_true, false_or, or_false, not_true_eq_false, not_false_eq_true, if_true, if_false, ite_int, ite_int0, au_10, eq_self, decide_true, decide_false, Bool.true_and, Bool.false_and, au_in, au_le, au_lt, au_eq, au_lt0, au_ge0, au_le0, au_gt0, au_eq0, au_leT, au_leF, au_ltT, au_ltF, au_eqT, au_eqF, nI_clamp, nI_1, nI_add, pk_mul, au_sub1, au_subc, au_up2e, au_up2n, lit_of, c1, show I c 3 = nI (wN N) from h.2.2.1]
      refine hk J' hJ' (RSet.mk h.1 h.2.1 h.2.2.1 (fun w i hw3 hi2 => ?_))
      rw [hw w hw3, bt_and, h.wd hw3 hi2, bt_rwv hi2 h0, Bool.and_assoc]
    | succ n ih =>
      intro i J' hi hJ' hw hw2
      have ihn := ih (i + 1)
      rw [aw_iload_2 (pc2 := 3) D67_2 rfl]
      have hJp : ∀ j, J' patC j = pat j := fun j => by rw [hJ' _ hpc]; exact hJ j
      simp (disch := omega) only [aw_aload_0 (pc2 := 4) D67_3 rfl, aw_getI (pc2 := 7) (ci := 5) (fk := 3) D67_4 rfl fT_5_22 rfl, aw_icmp_ge (pc2 := 10) (t := 34) D67_7 (by decide) rfl, aw_aload_0 (pc2 := 11) D67_10 rfl, aw_getR (pc2 := 14) (ci := 5) (fk := 0) D67_11 rfl fT_5_9 rfl, aw_iload_2 (pc2 := 15) D67_14 rfl, aw_dup2 (pc2 := 16) D67_15 rfl, aw_laload (pc2 := 17) D67_16 rfl, aw_iload_1 (pc2 := 18) D67_17 rfl, aw_aload_0 (pc2 := 19) D67_18 rfl, aw_getI (pc2 := 22) (ci := 5) (fk := 1) D67_19 rfl fT_5_15 rfl, aw_iload_2 (pc2 := 23) D67_22 rfl, aw_is3_3 (pc2 := 26) D67_23 rfl cT_5_38 rfl, aw_land (pc2 := 27) D67_26 rfl, aw_lastore (pc2 := 28) D67_27 rfl, aw_iinc_2 (pc2 := 31) (y := 1) D67_28 rfl (by decide), aw_goto (t := 2) D67_31 (by decide), refV_s, refV_n, psh_s, psh_n, kil_i, kil_r, kil_n, kil_l, cat_i, cat_r, iOK_1, iOK_5, jOK_2, jOK_6, wOK_e, lOK_1, lOK_2, lOK_3, lOK_4, lOK_5, lOK_6, catS_0, catS_1, catS_2, catS_3, catS_4, and_self, true_and, and_true, true_or, or_true, false_or, or_false, not_true_eq_false, not_false_eq_true, if_true, if_false, ite_int, ite_int0, au_10, eq_self, decide_true, decide_false, Bool.true_and, Bool.false_and, au_in, au_le, au_lt, au_eq, au_lt0, au_ge0, au_le0, au_gt0, au_eq0, au_leT, au_leF, au_ltT, au_ltF, au_eqT, au_eqF, nI_clamp, nI_1, nI_add, pk_mul, au_sub1, au_subc, au_up2e, au_up2n, lit_of, c1, c2, c3, h.1, show I c 3 = nI (wN N) from h.2.2.1, C_rowsWhere hJp hN h0 h1 h2 (show i < 64 by omega)]
      refine ihn _ (by omega) (fun a ha => by rw [up2_off ha]; exact hJ' a ha) (fun w hw3 => ?_) (fun w hw3 => ?_)
      · by_cases e : w = i
        · subst e
          simp (disch := omega) only [au_up2e]
          rw [hw2 w (Nat.le_refl _)]
        · simp (disch := omega) only [au_up2n]; exact hw w (by omega)
      · simp (disch := omega) only [au_up2n]; exact hw2 w (by omega)
  exact key (wN N) 0 _ (by omega) (fun _ _ => rfl) (fun w hw => absurd hw (Nat.not_lt_zero _)) (fun _ _ => rfl)
theorem word_ct {T : Nat → Bool} (h : RSet N c T I J) {w : Nat} (hw : w < wN N) : fb_ct (bt (J (c + 1) w)) 64 = fb_ct (fun i => decide (64 * w + i < 2 ^ N) && T (64 * w + i)) 64 := fb_ct_cong (fun i hi => h.wd hw hi)
theorem ct_words {T : Nat → Bool} (w : Nat) : fb_ct (fun r => decide (r < 2 ^ N) && T r) (64 * (w + 1)) = fb_ct (fun r => decide (r < 2 ^ N) && T r) (64 * w) + fb_ct (fun i => decide (64 * w + i < 2 ^ N) && T (64 * w + i)) 64 := by
  rw [show 64 * (w + 1) = 64 * w + 64 by omega, fb_ct_split]
theorem ct_cut {T : Nat → Bool} {r : Nat} (hr : r ≤ 2 ^ N) : fb_ct (fun q => decide (q < 2 ^ N) && T q) r = fb_ct T r := fb_ct_cong (fun q hq => by simp; intro _; omega)
theorem ct_beyond {T : Nat → Bool} {r : Nat} (hr : 2 ^ N ≤ r) : fb_ct (fun q => decide (q < 2 ^ N) && T q) r = fb_ct T (2 ^ N) := by
  obtain ⟨m, rfl⟩ : ∃ m, r = 2 ^ N + m := ⟨r - 2 ^ N, by omega⟩
  rw [fb_ct_split, ct_cut (Nat.le_refl _)]
  have z : fb_ct (fun k => decide (2 ^ N + k < 2 ^ N) && T (2 ^ N + k)) m = 0 := fb_ct_zero.mpr (fun i _ => by simp; intro q; omega)
  rw [z, Nat.add_zero]
theorem C_sizeBelow {T : Nat → Bool} {r : Nat} (hc : RF Ln c) (hN : N ≤ 12) (h : RSet N c T I J) (hr : r ≤ 2 ^ N) : ACall (d + 2) 69 [.ref c, .int (nI r)] (G0 Ln) I J K ↔ K (some (.int (nI (fb_ct T r)))) (G0 Ln) I J := by
  rw [ACall_0 (L0 := [.ref c, .int (nI r), nv, nv, nv]) (show mcs 69 = (0, 0) from rfl) (show entL 69 [.ref c, .int (nI r)] = _ from rfl) rfl (Nat.le_of_ble_eq_true rfl)]
  obtain ⟨w1, w2, w3, w4, w5, w6, -⟩ := wN_all N (by omega)
  obtain ⟨-, c1, c2, c3⟩ := hc
  have h3 : I c 3 = nI (wN N) := h.2.2.1
  have hmin : min (wN N) (r / 64) < 2 ^ 31 := by omega
  simp (disch := omega) only [aw_aload_0 (pc2 := 1) D69_0 rfl, aw_getI (pc2 := 4) (ci := 5) (fk := 3) D69_1 rfl fT_5_22 rfl, aw_iload_1 (pc2 := 5) D69_4 rfl, aw_bipush (pc2 := 7) (y := 6) D69_5 rfl (by decide), aw_ishr (pc2 := 8) D69_7 rfl, aw_mmin (pc2 := 11) D69_8 rfl cT_5_31, aw_istore_2 (pc2 := 12) D69_11 rfl, aw_iconst (pc2 := 13) (y := 0) D69_12 rfl (by decide), aw_istore_3 (pc2 := 14) D69_13 rfl, aw_iconst (pc2 := 15) (y := 0) D69_14 rfl (by decide), aw_istore_4 (pc2 := 17) D69_15 rfl, lit_6, lit_63, refV_s, refV_n, psh_s, psh_n, kil_i, kil_r, kil_n, kil_l, cat_i, cat_r, iOK_1, iOK_5, jOK_2, jOK_6, wOK_e, lOK_1, lOK_2, lOK_3, lOK_4, lOK_5, lOK_6, catS_0, catS_1, catS_2, catS_3, catS_4, and_self, true_and, and_true, true_or, or_true, false_or, or_false, not_true_eq_false, not_false_eq_true, if_true, if_false, ite_int, ite_int0, au_10, eq_self, decide_true, decide_false, Bool.true_and, Bool.false_and, au_in, au_le, au_lt, au_eq, au_lt0, au_ge0, au_le0, au_gt0, au_eq0, au_leT, au_leF, au_ltT, au_ltF, au_eqT, au_eqF, nI_clamp, nI_1, nI_add, pk_mul, au_sub1, au_subc, au_up2e, au_up2n, lit_of, c1, h3, shrI, show (2 : Nat) ^ 6 = 64 from rfl, au_minN]
  have hctl : ∀ q, fb_ct (fun r => decide (r < 2 ^ N) && T r) q ≤ q := fun q => fb_ct_le _ q
  have key : ∀ n i, i + n = min (wN N) (r / 64) → (AW (d + 1) ((G0 Ln).1, (G0 Ln).2.1) K 69 17 [.ref c, .int (nI r), .int (nI (min (wN N) (r / 64))), .int (nI (fb_ct (fun r => decide (r < 2 ^ N) && T r) (64 * i))), .int (nI i)] [] (G0 Ln) I J ↔ K (some (.int (nI (fb_ct T r)))) (G0 Ln) I J) := by
    intro n
    induction n with
    | zero =>
      intro i hi
      have e : i = min (wN N) (r / 64) := by omega
      by_cases hw : r / 64 < wN N
      · have e2 : min (wN N) (r / 64) = r / 64 := by omega
        rw [e2] at e ⊢
        rw [e]
        simp (disch := omega) only [aw_iload_4 (pc2 := 19) D69_17 rfl, aw_iload_2 (pc2 := 20) D69_19 rfl, aw_icmp_ge (pc2 := 23) (t := 42) D69_20 (by decide) rfl, aw_iload_2 (pc2 := 43) D69_42 rfl, aw_aload_0 (pc2 := 44) D69_43 rfl, aw_getI (pc2 := 47) (ci := 5) (fk := 3) D69_44 rfl fT_5_22 rfl, aw_icmp_ge (pc2 := 50) (t := 71) D69_47 (by decide) rfl, aw_iload_3 (pc2 := 51) D69_50 rfl, aw_aload_0 (pc2 := 52) D69_51 rfl, aw_getR (pc2 := 55) (ci := 5) (fk := 0) D69_52 rfl fT_5_9 rfl, aw_iload_2 (pc2 := 56) D69_55 rfl, aw_laload (pc2 := 57) D69_56 rfl, aw_lconst (pc2 := 58) (y := 1) D69_57 rfl (by decide), aw_iload_1 (pc2 := 59) D69_58 rfl, aw_bipush (pc2 := 61) (y := 63) D69_59 rfl (by decide), aw_iand (pc2 := 62) D69_61 rfl, aw_lshl (pc2 := 63) D69_62 rfl, aw_lconst (pc2 := 64) (y := 1) D69_63 rfl (by decide), aw_lsub (pc2 := 65) D69_64 rfl, aw_land (pc2 := 66) D69_65 rfl, aw_is1_2 (pc2 := 69) D69_66 rfl cT_5_46 rfl, aw_iadd (pc2 := 70) D69_69 rfl, aw_istore_3 (pc2 := 71) D69_70 rfl, aw_iload_3 (pc2 := 72) D69_71 rfl, aw_iret D69_72 rfl, lit_6, lit_63, refV_s, refV_n, psh_s, psh_n, kil_i, kil_r, kil_n, kil_l, cat_i, cat_r, iOK_1, iOK_5, jOK_2, jOK_6, wOK_e, lOK_1, lOK_2, lOK_3, lOK_4, lOK_5, lOK_6, catS_0, catS_1, catS_2, catS_3, catS_4, and_self, true_and, and_true, true_or, or_true, false_or, or_false, not_true_eq_false, not_false_eq_true, if_true, if_false, ite_int, ite_int0, au_10, eq_self, decide_true, decide_false, Bool.true_and, Bool.false_and, au_in, au_le, au_lt, au_eq, au_lt0, au_ge0, au_le0, au_gt0, au_eq0, au_leT, au_leF, au_ltT, au_ltF, au_eqT, au_eqF, nI_clamp, nI_1, nI_add, pk_mul, au_sub1, au_subc, au_up2e, au_up2n, lit_of, c1, c2, c3, h3, and63n, shl1L, mskL, P_long]
        have e3 : fb_ct (bt (J (c + 1) (r / 64) &&& lN (2 ^ (r % 64) - 1))) 64 = fb_ct (fun i => decide (64 * (r / 64) + i < 2 ^ N) && T (64 * (r / 64) + i)) (r % 64) := by
          rw [← ct_mask (show r % 64 ≤ 64 by omega)]
          exact fb_ct_cong (fun i hi => by rw [bt_and, h.wd hw hi, bt_msk hi])
        have e4 := fb_ct_split (fun r => decide (r < 2 ^ N) && T r) (64 * (r / 64)) (r % 64)
        rw [show 64 * (r / 64) + r % 64 = r by omega, ct_cut hr] at e4
        rw [e3, ← e4]
      · have e2 : min (wN N) (r / 64) = wN N := by omega
        rw [e2] at e ⊢
        rw [e]
        have e5 : r = 2 ^ N := by omega
        simp (disch := omega) only [aw_iload_4 (pc2 := 19) D69_17 rfl, aw_iload_2 (pc2 := 20) D69_19 rfl, aw_icmp_ge (pc2 := 23) (t := 42) D69_20 (by decide) rfl, aw_iload_2 (pc2 := 43) D69_42 rfl, aw_aload_0 (pc2 := 44) D69_43 rfl, aw_getI (pc2 := 47) (ci := 5) (fk := 3) D69_44 rfl fT_5_22 rfl, aw_icmp_ge (pc2 := 50) (t := 71) D69_47 (by decide) rfl, aw_iload_3 (pc2 := 72) D69_71 rfl, aw_iret D69_72 rfl, lit_6, lit_63, refV_s, refV_n, psh_s, psh_n, kil_i, kil_r, kil_n, kil_l, cat_i, cat_r, iOK_1, iOK_5, jOK_2, jOK_6, wOK_e, lOK_1, lOK_2, lOK_3, lOK_4, lOK_5, lOK_6, catS_0, catS_1, catS_2, catS_3, catS_4, and_self, true_and, and_true, true_or, or_true, false_or, or_false, not_true_eq_false, not_false_eq_true, if_true, if_false, ite_int, ite_int0, au_10, eq_self, decide_true, decide_false, Bool.true_and, Bool.false_and, au_in, au_le, au_lt, au_eq, au_lt0, au_ge0, au_le0, au_gt0, au_eq0, au_leT, au_leF, au_ltT, au_ltF, au_eqT, au_eqF, nI_clamp, nI_1, nI_add, pk_mul, au_sub1, au_subc, au_up2e, au_up2n, lit_of, c1, h3]
        rw [ct_beyond w3, e5]
    | succ n ih =>
      intro i hi
      have hw : i < wN N := by omega
      have ihn := ih (i + 1) (by omega)
      rw [ct_words, ← word_ct h hw] at ihn
      rw [aw_iload_4 (pc2 := 19) D69_17 rfl]
      simp (disch := omega) only [aw_iload_2 (pc2 := 20) D69_19 rfl, aw_icmp_ge (pc2 := 23) (t := 42) D69_20 (by decide) rfl, aw_iload_3 (pc2 := 24) D69_23 rfl, aw_aload_0 (pc2 := 25) D69_24 rfl, aw_getR (pc2 := 28) (ci := 5) (fk := 0) D69_25 rfl fT_5_9 rfl, aw_iload_4 (pc2 := 30) D69_28 rfl, aw_laload (pc2 := 31) D69_30 rfl, aw_is1_2 (pc2 := 34) D69_31 rfl cT_5_46 rfl, aw_iadd (pc2 := 35) D69_34 rfl, aw_istore_3 (pc2 := 36) D69_35 rfl, aw_iinc_4 (pc2 := 39) (y := 1) D69_36 rfl (by decide), aw_goto (t := 17) D69_39 (by decide), lit_6, lit_63, refV_s, refV_n, psh_s, psh_n, kil_i, kil_r, kil_n, kil_l, cat_i, cat_r, iOK_1, iOK_5, jOK_2, jOK_6, wOK_e, lOK_1, lOK_2, lOK_3, lOK_4, lOK_5, lOK_6, catS_0, catS_1, catS_2, catS_3, catS_4, and_self, true_and, and_true, true_or, or_true, false_or, or_false, not_true_eq_false, not_false_eq_true, if_true, if_false, ite_int, ite_int0, au_10, eq_self, decide_true, decide_false, Bool.true_and, Bool.false_and, au_in, au_le, au_lt, au_eq, au_lt0, au_ge0, au_le0, au_gt0, au_eq0, au_leT, au_leF, au_ltT, au_ltF, au_eqT, au_eqF, nI_clamp, nI_1, nI_add, pk_mul, au_sub1, au_subc, au_up2e, au_up2n, lit_of, c1, c2, c3, P_long]
      exact ihn
  exact key _ 0 (Nat.zero_add _)
theorem C_size {T : Nat → Bool} (hc : RF Ln c) (hN : N ≤ 12) (h : RSet N c T I J) : ACall (d + 3) 68 [.ref c] (G0 Ln) I J K ↔ K (some (.int (nI (fb_ct T (2 ^ N))))) (G0 Ln) I J := by
  rw [ACall_0 (L0 := [.ref c]) (show mcs 68 = (0, 0) from rfl) (show entL 68 [.ref c] = _ from rfl) rfl (Nat.le_of_ble_eq_true rfl)]
  simp (disch := omega) only [aw_aload_0 (pc2 := 1) D68_0 rfl, aw_aload_0 (pc2 := 2) D68_1 rfl, aw_getI (pc2 := 5) (ci := 5) (fk := 2) D68_2 rfl fT_5_19 rfl, aw_iv1_0 (pc2 := 8) (o := 5) D68_5 rfl cT_5_42 rfl rfl, aw_iret D68_8 rfl, refV_s, refV_n, psh_s, psh_n, kil_i, kil_r, kil_n, kil_l, cat_i, cat_r, iOK_1, iOK_5, jOK_2, jOK_6, wOK_e, lOK_1, lOK_2, lOK_3, lOK_4, lOK_5, lOK_6, catS_0, catS_1, catS_2, catS_3, catS_4, and_self, true_and, and_true, true_or, or_true, false_or, or_false, not_true_eq_false, not_false_eq_true, if_true, if_false, ite_int, ite_int0, au_10, eq_self, decide_true, decide_false, Bool.true_and, Bool.false_and, au_in, au_le, au_lt, au_eq, au_lt0, au_ge0, au_le0, au_gt0, au_eq0, au_leT, au_leF, au_ltT, au_ltF, au_eqT, au_eqF, nI_clamp, nI_1, nI_add, pk_mul, au_sub1, au_subc, au_up2e, au_up2n, lit_of, hc.2.1, h.2.1, C_sizeBelow hc hN h (Nat.le_refl _)]
theorem C_sizeWithout {o : Nat} {T U : Nat → Bool} (hc : RF Ln c) (ho : RF Ln o) (hN : N ≤ 12) (h : RSet N c T I J) (h2 : RSet N o U I J) : ACall (d + 2) 70 [.ref c, .ref o] (G0 Ln) I J K ↔ K (some (.int (nI (fb_ct (fun r => T r && !U r) (2 ^ N))))) (G0 Ln) I J := by
  rw [ACall_0 (L0 := [.ref c, .ref o, nv, nv]) (show mcs 70 = (0, 0) from rfl) (show entL 70 [.ref c, .ref o] = _ from rfl) rfl (Nat.le_of_ble_eq_true rfl)]
  obtain ⟨w1, w2, w3, w4, w5, w6, -⟩ := wN_all N (by omega)
  obtain ⟨-, c1, c2, c3⟩ := hc
  obtain ⟨-, o1, o2, o3⟩ := ho
  have h3 : I c 3 = nI (wN N) := h.2.2.1
  simp (disch := omega) only [aw_iconst (pc2 := 1) (y := 0) D70_0 rfl (by decide), aw_istore_2 (pc2 := 2) D70_1 rfl, aw_iconst (pc2 := 3) (y := 0) D70_2 rfl (by decide), aw_istore_3 (pc2 := 4) D70_3 rfl, refV_s, refV_n, psh_s, psh_n, kil_i, kil_r, kil_n, kil_l, cat_i, cat_r, iOK_1, iOK_5, jOK_2, jOK_6, wOK_e, lOK_1, lOK_2, lOK_3, lOK_4, lOK_5, lOK_6, catS_0, catS_1, catS_2, catS_3, catS_4, and_self, true_and, and_true, true_or, or_true, false_or, or_false, not_true_eq_false, not_false_eq_true, if_true, if_false, ite_int, ite_int0, au_10, eq_self, decide_true, decide_false, Bool.true_and, Bool.false_and, au_in, au_le, au_lt, au_eq, au_lt0, au_ge0, au_le0, au_gt0, au_eq0, au_leT, au_leF, au_ltT, au_ltF, au_eqT, au_eqF, nI_clamp, nI_1, nI_add, pk_mul, au_sub1, au_subc, au_up2e, au_up2n, lit_of]
  have key : ∀ n i, i + n = wN N → (AW (d + 1) ((G0 Ln).1, (G0 Ln).2.1) K 70 4 [.ref c, .ref o, .int (nI (fb_ct (fun r => decide (r < 2 ^ N) && (T r && !U r)) (64 * i))), .int (nI i)] [] (G0 Ln) I J ↔ K (some (.int (nI (fb_ct (fun r => T r && !U r) (2 ^ N))))) (G0 Ln) I J) := by
    intro n
    induction n with
    | zero =>
      intro i hi
      have e : i = wN N := by omega
      subst e
      simp (disch := omega) only [aw_iload_3 (pc2 := 5) D70_4 rfl, aw_aload_0 (pc2 := 6) D70_5 rfl, aw_getI (pc2 := 9) (ci := 5) (fk := 3) D70_6 rfl fT_5_22 rfl, aw_icmp_ge (pc2 := 12) (t := 41) D70_9 (by decide) rfl, aw_iload_2 (pc2 := 42) D70_41 rfl, aw_iret D70_42 rfl, refV_s, refV_n, psh_s, psh_n, kil_i, kil_r, kil_n, kil_l, cat_i, cat_r, iOK_1, iOK_5, jOK_2, jOK_6, wOK_e, lOK_1, lOK_2, lOK_3, lOK_4, lOK_5, lOK_6, catS_0, catS_1, catS_2, catS_3, catS_4, and_self, true_and, and_true, true_or, or_true, false_or, or_false, not_true_eq_false, not_false_eq_true, if_true, if_false, ite_int, ite_int0, au_10, eq_self, decide_true, decide_false, Bool.true_and, Bool.false_and, au_in, au_le, au_lt, au_eq, au_lt0, au_ge0, au_le0, au_gt0, au_eq0, au_leT, au_leF, au_ltT, au_ltF, au_eqT, au_eqF, nI_clamp, nI_1, nI_add, pk_mul, au_sub1, au_subc, au_up2e, au_up2n, lit_of, c1, h3]
      rw [ct_beyond (T := fun r => T r && !U r) w3]
    | succ n ih =>
      intro i hi
      have hw : i < wN N := by omega
      have ihn := ih (i + 1) (by omega)
      have e : fb_ct (bt (J (c + 1) i &&& (J (o + 1) i ^^^ -1))) 64 = fb_ct (fun q => decide (64 * i + q < 2 ^ N) && (T (64 * i + q) && !U (64 * i + q))) 64 := fb_ct_cong (fun q hq => by
        rw [bt_and, bt_not hq, h.wd hw hq, h2.wd hw hq]
        by_cases z : 64 * i + q < 2 ^ N
        · simp [z]
        · simp [z])
      rw [ct_words (T := fun r => T r && !U r), ← e] at ihn
      rw [aw_iload_3 (pc2 := 5) D70_4 rfl]
      simp (disch := omega) only [aw_aload_0 (pc2 := 6) D70_5 rfl, aw_getI (pc2 := 9) (ci := 5) (fk := 3) D70_6 rfl fT_5_22 rfl, aw_icmp_ge (pc2 := 12) (t := 41) D70_9 (by decide) rfl, aw_iload_2 (pc2 := 13) D70_12 rfl, aw_aload_0 (pc2 := 14) D70_13 rfl, aw_getR (pc2 := 17) (ci := 5) (fk := 0) D70_14 rfl fT_5_9 rfl, aw_iload_3 (pc2 := 18) D70_17 rfl, aw_laload (pc2 := 19) D70_18 rfl, aw_aload_1 (pc2 := 20) D70_19 rfl, aw_getR (pc2 := 23) (ci := 5) (fk := 0) D70_20 rfl fT_5_9 rfl, aw_iload_3 (pc2 := 24) D70_23 rfl, aw_laload (pc2 := 25) D70_24 rfl, aw_ldc2_w (pc2 := 28) (v := -1) D70_25 rfl (by decide), aw_lxor (pc2 := 29) D70_28 rfl, aw_land (pc2 := 30) D70_29 rfl, aw_is1_2 (pc2 := 33) D70_30 rfl cT_5_46 rfl, aw_iadd (pc2 := 34) D70_33 rfl, aw_istore_2 (pc2 := 35) D70_34 rfl, aw_iinc_3 (pc2 := 38) (y := 1) D70_35 rfl (by decide), aw_goto (t := 4) D70_38 (by decide), refV_s, refV_n, psh_s, psh_n, kil_i, kil_r, kil_n, kil_l, cat_i, cat_r, iOK_1, iOK_5, jOK_2, jOK_6, wOK_e, lOK_1, lOK_2, lOK_3, lOK_4, lOK_5, lOK_6, catS_0, catS_1, catS_2, catS_3, catS_4, and_self, true_and, and_true, true_or, or_true, false_or, or_false, not_true_eq_false, not_false_eq_true, if_true, if_false, ite_int, ite_int0, au_10, eq_self, decide_true, decide_false, Bool.true_and, Bool.false_and, au_in, au_le, au_lt, au_eq, au_lt0, au_ge0, au_le0, au_gt0, au_eq0, au_leT, au_leF, au_ltT, au_ltF, au_eqT, au_eqF, nI_clamp, nI_1, nI_add, pk_mul, au_sub1, au_subc, au_up2e, au_up2n, lit_of, c1, c2, c3, o1, o2, o3, h3, P_long]
      exact ihn
  exact key (wN N) 0 (by omega)
theorem bI_0 {b : Bool} : (bI b = 0) ↔ b = false := by cases b <;> decide
theorem max0N {a : Nat} : (if 0 < a then nI a else 0) = nI a := by
  by_cases h : 0 < a
  · rw [if_pos h]
  · rw [if_neg h, show a = 0 by omega]; rfl
theorem C_leastFrom {T : Nat → Bool} {r : Nat} (hc : RF Ln c) (hN : N ≤ 12) (h : RSet N c T I J) (hr : r ≤ 2 ^ N) : ACall (d + 2) 71 [.ref c, .int (nI r)] (G0 Ln) I J K ↔ K (some (.int (scan T (2 ^ N - r) r))) (G0 Ln) I J := by
  rw [ACall_0 (L0 := [.ref c, .int (nI r), nv]) (show mcs 71 = (0, 0) from rfl) (show entL 71 [.ref c, .int (nI r)] = _ from rfl) rfl (Nat.le_of_ble_eq_true rfl)]
  obtain ⟨-, -, -, -, -, w6, -⟩ := wN_all N (by omega)
  simp (disch := omega) only [aw_iconst (pc2 := 1) (y := 0) D71_0 rfl (by decide), aw_iload_1 (pc2 := 2) D71_1 rfl, aw_mmax (pc2 := 5) D71_2 rfl cT_5_25, aw_istore_2 (pc2 := 6) D71_5 rfl, refV_s, refV_n, psh_s, psh_n, kil_i, kil_r, kil_n, kil_l, cat_i, cat_r, iOK_1, iOK_5, jOK_2, jOK_6, wOK_e, lOK_1, lOK_2, lOK_3, lOK_4, lOK_5, lOK_6, catS_0, catS_1, catS_2, catS_3, catS_4, and_self, true_and, and_true, true_or, or_true, false_or, or_false, not_true_eq_false, not_false_eq_true, if_true, if_false, ite_int, ite_int0, au_10, eq_self, decide_true, decide_false, Bool.true_and, Bool.false_and, au_in, au_le, au_lt, au_eq, au_lt0, au_ge0, au_le0, au_gt0, au_eq0, au_leT, au_leF, au_ltT, au_ltF, au_eqT, au_eqF, nI_clamp, nI_1, nI_add, pk_mul, au_sub1, au_subc, au_up2e, au_up2n, lit_of, max0N]
  have key : ∀ n i, i + n = 2 ^ N → (AW (d + 1) ((G0 Ln).1, (G0 Ln).2.1) K 71 6 [.ref c, .int (nI r), .int (nI i)] [] (G0 Ln) I J ↔ K (some (.int (scan T n i))) (G0 Ln) I J) := by
    intro n
    induction n with
    | zero =>
      intro i hi
      have e : i = 2 ^ N := by omega
      rw [e]
      simp (disch := omega) only [aw_iload_2 (pc2 := 7) D71_6 rfl, aw_aload_0 (pc2 := 8) D71_7 rfl, aw_getI (pc2 := 11) (ci := 5) (fk := 2) D71_8 rfl fT_5_19 rfl, aw_icmp_ge (pc2 := 14) (t := 30) D71_11 (by decide) rfl, aw_iconst (pc2 := 31) (y := -1) D71_30 rfl (by decide), aw_iret D71_31 rfl, refV_s, refV_n, psh_s, psh_n, kil_i, kil_r, kil_n, kil_l, cat_i, cat_r, iOK_1, iOK_5, jOK_2, jOK_6, wOK_e, lOK_1, lOK_2, lOK_3, lOK_4, lOK_5, lOK_6, catS_0, catS_1, catS_2, catS_3, catS_4, and_self, true_and, and_true, true_or, or_true, false_or, or_false, not_true_eq_false, not_false_eq_true, if_true, if_false, ite_int, ite_int0, au_10, eq_self, decide_true, decide_false, Bool.true_and, Bool.false_and, au_in, au_le, au_lt, au_eq, au_lt0, au_ge0, au_le0, au_gt0, au_eq0, au_leT, au_leF, au_ltT, au_ltF, au_eqT, au_eqF, nI_clamp, nI_1, nI_add, pk_mul, au_sub1, au_subc, au_up2e, au_up2n, lit_of, hc.2.1, h.2.1]
      exact Iff.rfl
    | succ n ih =>
      intro i hi
      have ihn := ih (i + 1) (by omega)
      rw [aw_iload_2 (pc2 := 7) D71_6 rfl, scan]
      simp (disch := omega) only [aw_aload_0 (pc2 := 8) D71_7 rfl, aw_getI (pc2 := 11) (ci := 5) (fk := 2) D71_8 rfl fT_5_19 rfl, aw_icmp_ge (pc2 := 14) (t := 30) D71_11 (by decide) rfl, aw_aload_0 (pc2 := 15) D71_14 rfl, aw_iload_2 (pc2 := 16) D71_15 rfl, aw_iv1_0 (pc2 := 19) (o := 5) D71_16 rfl cT_5_54 rfl rfl, aw_if_eq (pc2 := 22) (t := 24) D71_19 (by decide) rfl, aw_iload_2 (pc2 := 23) D71_22 rfl, aw_iret D71_23 rfl, aw_iinc_2 (pc2 := 27) (y := 1) D71_24 rfl (by decide), aw_goto (t := 6) D71_27 (by decide), refV_s, refV_n, psh_s, psh_n, kil_i, kil_r, kil_n, kil_l, cat_i, cat_r, iOK_1, iOK_5, jOK_2, jOK_6, wOK_e, lOK_1, lOK_2, lOK_3, lOK_4, lOK_5, lOK_6, catS_0, catS_1, catS_2, catS_3, catS_4, and_self, true_and, and_true, true_or, or_true, false_or, or_false, not_true_eq_false, not_false_eq_true, if_true, if_false, ite_int, ite_int0, au_10, eq_self, decide_true, decide_false, Bool.true_and, Bool.false_and, au_in, au_le, au_lt, au_eq, au_lt0, au_ge0, au_le0, au_gt0, au_eq0, au_leT, au_leF, au_ltT, au_ltF, au_eqT, au_eqF, nI_clamp, nI_1, nI_add, pk_mul, au_sub1, au_subc, au_up2e, au_up2n, lit_of, hc.2.1, h.2.1, C_has hc hN h (show i < 2 ^ 31 by omega), bI_0]
      cases e : T i
      · rw [if_pos rfl, if_neg (by decide)]; exact ihn
      · rw [if_neg (by decide), if_pos rfl]
  exact key (2 ^ N - r) r (by omega)
theorem C_rowOfRankFrom {T : Nat → Bool} {r k : Nat} (hc : RF Ln c) (hN : N ≤ 12) (h : RSet N c T I J) (hr : r ≤ 2 ^ N) (hk : k < 2 ^ 31) : ACall (d + 2) 73 [.ref c, .int (nI r), .int (nI k)] (G0 Ln) I J K ↔ K (some (.int (scanK T (2 ^ N - r) r k))) (G0 Ln) I J := by
  rw [ACall_0 (L0 := [.ref c, .int (nI r), .int (nI k), nv, nv]) (show mcs 73 = (0, 0) from rfl) (show entL 73 [.ref c, .int (nI r), .int (nI k)] = _ from rfl) rfl (Nat.le_of_ble_eq_true rfl)]
  obtain ⟨-, -, -, -, -, w6, -⟩ := wN_all N (by omega)
  simp (disch := omega) only [aw_iload_2 (pc2 := 1) D73_0 rfl, aw_istore_3 (pc2 := 2) D73_1 rfl, aw_iload_1 (pc2 := 3) D73_2 rfl, aw_istore_4 (pc2 := 5) D73_3 rfl, refV_s, refV_n, psh_s, psh_n, kil_i, kil_r, kil_n, kil_l, cat_i, cat_r, iOK_1, iOK_5, jOK_2, jOK_6, wOK_e, lOK_1, lOK_2, lOK_3, lOK_4, lOK_5, lOK_6, catS_0, catS_1, catS_2, catS_3, catS_4, and_self, true_and, and_true, true_or, or_true, false_or, or_false, not_true_eq_false, not_false_eq_true, if_true, if_false, ite_int, ite_int0, au_10, eq_self, decide_true, decide_false, Bool.true_and, Bool.false_and, au_in, au_le, au_lt, au_eq, au_lt0, au_ge0, au_le0, au_gt0, au_eq0, au_leT, au_leF, au_ltT, au_ltF, au_eqT, au_eqF, nI_clamp, nI_1, nI_add, pk_mul, au_sub1, au_subc, au_up2e, au_up2n, lit_of]
  have key : ∀ n i q, i + n = 2 ^ N → q < 2 ^ 31 → (AW (d + 1) ((G0 Ln).1, (G0 Ln).2.1) K 73 5 [.ref c, .int (nI r), .int (nI k), .int (nI q), .int (nI i)] [] (G0 Ln) I J ↔ K (some (.int (scanK T n i q))) (G0 Ln) I J) := by
    intro n
    induction n with
    | zero =>
      intro i q hi hq
      have e : i = 2 ^ N := by omega
      rw [e]
      simp (disch := omega) only [aw_iload_4 (pc2 := 7) D73_5 rfl, aw_aload_0 (pc2 := 8) D73_7 rfl, aw_getI (pc2 := 11) (ci := 5) (fk := 2) D73_8 rfl fT_5_19 rfl, aw_icmp_ge (pc2 := 14) (t := 39) D73_11 (by decide) rfl, aw_iconst (pc2 := 40) (y := -1) D73_39 rfl (by decide), aw_iret D73_40 rfl, refV_s, refV_n, psh_s, psh_n, kil_i, kil_r, kil_n, kil_l, cat_i, cat_r, iOK_1, iOK_5, jOK_2, jOK_6, wOK_e, lOK_1, lOK_2, lOK_3, lOK_4, lOK_5, lOK_6, catS_0, catS_1, catS_2, catS_3, catS_4, and_self, true_and, and_true, true_or, or_true, false_or, or_false, not_true_eq_false, not_false_eq_true, if_true, if_false, ite_int, ite_int0, au_10, eq_self, decide_true, decide_false, Bool.true_and, Bool.false_and, au_in, au_le, au_lt, au_eq, au_lt0, au_ge0, au_le0, au_gt0, au_eq0, au_leT, au_leF, au_ltT, au_ltF, au_eqT, au_eqF, nI_clamp, nI_1, nI_add, pk_mul, au_sub1, au_subc, au_up2e, au_up2n, lit_of, hc.2.1, h.2.1]
      exact Iff.rfl
    | succ n ih =>
      intro i q hi hq
      rw [aw_iload_4 (pc2 := 7) D73_5 rfl, scanK]
      simp (disch := omega) only [aw_aload_0 (pc2 := 8) D73_7 rfl, aw_getI (pc2 := 11) (ci := 5) (fk := 2) D73_8 rfl fT_5_19 rfl, aw_icmp_ge (pc2 := 14) (t := 39) D73_11 (by decide) rfl, aw_aload_0 (pc2 := 15) D73_14 rfl, aw_iload_4 (pc2 := 17) D73_15 rfl, aw_iv1_0 (pc2 := 20) (o := 5) D73_17 rfl cT_5_54 rfl rfl, aw_if_eq (pc2 := 23) (t := 33) D73_20 (by decide) rfl, aw_iload_3 (pc2 := 24) D73_23 rfl, aw_if_ne (pc2 := 27) (t := 30) D73_24 (by decide) rfl, refV_s, refV_n, psh_s, psh_n, kil_i, kil_r, kil_n, kil_l, cat_i, cat_r, iOK_1, iOK_5, jOK_2, jOK_6, wOK_e, lOK_1, lOK_2, lOK_3, lOK_4, lOK_5, lOK_6, catS_0, catS_1, catS_2, catS_3, catS_4, and_self, true_and, and_true, true_or, or_true, false_or, or_false, not_true_eq_false, not_false_eq_true, if_true, if_false, ite_int, ite_int0, au_10, eq_self, decide_true, decide_false, Bool.true_and, Bool.false_and, au_in, au_le, au_lt, au_eq, au_lt0, au_ge0, au_le0, au_gt0, au_eq0, au_leT, au_leF, au_ltT, au_ltF, au_eqT, au_eqF, nI_clamp, nI_1, nI_add, pk_mul, au_sub1, au_subc, au_up2e, au_up2n, lit_of, hc.2.1, h.2.1, C_has hc hN h (show i < 2 ^ 31 by omega), bI_0]
      cases e : T i
      · rw [if_pos rfl, if_neg (by decide)]
        simp (disch := omega) only [aw_iinc_4 (pc2 := 36) (y := 1) D73_33 rfl (by decide), aw_goto (t := 5) D73_36 (by decide), refV_s, refV_n, psh_s, psh_n, kil_i, kil_r, kil_n, kil_l, cat_i, cat_r, iOK_1, iOK_5, jOK_2, jOK_6, wOK_e, lOK_1, lOK_2, lOK_3, lOK_4, lOK_5, lOK_6, catS_0, catS_1, catS_2, catS_3, catS_4, and_self, true_and, and_true, true_or, or_true, false_or, or_false, not_true_eq_false, not_false_eq_true, if_true, if_false, ite_int, ite_int0, au_10, eq_self, decide_true, decide_false, Bool.true_and, Bool.false_and, au_in, au_le, au_lt, au_eq, au_lt0, au_ge0, au_le0, au_gt0, au_eq0, au_leT, au_leF, au_ltT, au_ltF, au_eqT, au_eqF, nI_clamp, nI_1, nI_add, pk_mul, au_sub1, au_subc, au_up2e, au_up2n, lit_of]
        exact ih (i + 1) q (by omega) hq
      · rw [if_neg (by decide), if_pos rfl]
        by_cases hq0 : q = 0
        · subst hq0
          simp (disch := omega) only [aw_iload_4 (pc2 := 29) D73_27 rfl, aw_iret D73_29 rfl, refV_s, refV_n, psh_s, psh_n, kil_i, kil_r, kil_n, kil_l, cat_i, cat_r, iOK_1, iOK_5, jOK_2, jOK_6, wOK_e, lOK_1, lOK_2, lOK_3, lOK_4, lOK_5, lOK_6, catS_0, catS_1, catS_2, catS_3, catS_4, and_self, true_and, and_true, true_or, or_true, false_or, or_false, not_true_eq_false, not_false_eq_true, if_true, if_false, ite_int, ite_int0, au_10, eq_self, decide_true, decide_false, Bool.true_and, Bool.false_and, au_in, au_le, au_lt, au_eq, au_lt0, au_ge0, au_le0, au_gt0, au_eq0, au_leT, au_leF, au_ltT, au_ltF, au_eqT, au_eqF, nI_clamp, nI_1, nI_add, pk_mul, au_sub1, au_subc, au_up2e, au_up2n, lit_of]
        · obtain ⟨q', rfl⟩ : ∃ q', q = q' + 1 := ⟨q - 1, by omega⟩
          have em : nI (q' + 1) + -1 = nI q' := pk_m1 q'
          simp (disch := omega) only [aw_iinc_3 (pc2 := 33) (y := -1) D73_30 rfl (by decide), aw_iinc_4 (pc2 := 36) (y := 1) D73_33 rfl (by decide), aw_goto (t := 5) D73_36 (by decide), refV_s, refV_n, psh_s, psh_n, kil_i, kil_r, kil_n, kil_l, cat_i, cat_r, iOK_1, iOK_5, jOK_2, jOK_6, wOK_e, lOK_1, lOK_2, lOK_3, lOK_4, lOK_5, lOK_6, catS_0, catS_1, catS_2, catS_3, catS_4, and_self, true_and, and_true, true_or, or_true, false_or, or_false, not_true_eq_false, not_false_eq_true, if_true, if_false, ite_int, ite_int0, au_10, eq_self, decide_true, decide_false, Bool.true_and, Bool.false_and, au_in, au_le, au_lt, au_eq, au_lt0, au_ge0, au_le0, au_gt0, au_eq0, au_leT, au_leF, au_ltT, au_ltF, au_eqT, au_eqF, nI_clamp, nI_1, nI_add, pk_mul, au_sub1, au_subc, au_up2e, au_up2n, lit_of, em, hq0, show q' + 1 - 1 = q' from rfl]
          exact ih (i + 1) q' (by omega) (by omega)
  exact key (2 ^ N - r) r k (by omega) hk
theorem scanK_none {T : Nat → Bool} : ∀ {n r k : Nat}, fb_ct (fun i => T (r + i)) n ≤ k → scanK T n r k = -1 := by
  intro n r k h
  have := scanK_skip (T := T) (a := n) (n := 0) (r := r) (k := k) (by omega)
  rw [Nat.add_zero] at this
  rw [this]
  rfl
theorem C_rowOfRank {T : Nat → Bool} {k : Nat} (hc : RF Ln c) (hN : N ≤ 12) (h : RSet N c T I J) (hk : k < 2 ^ 31) : ACall (d + 3) 72 [.ref c, .int (nI k)] (G0 Ln) I J K ↔ K (some (.int (scanK T (2 ^ N) 0 k))) (G0 Ln) I J := by
  rw [ACall_0 (L0 := [.ref c, .int (nI k), nv, nv, nv]) (show mcs 72 = (0, 0) from rfl) (show entL 72 [.ref c, .int (nI k)] = _ from rfl) rfl (Nat.le_of_ble_eq_true rfl)]
  obtain ⟨w1, w2, w3, w4, w5, w6, -⟩ := wN_all N (by omega)
  have h3 : I c 3 = nI (wN N) := h.2.2.1
  have hc' := hc
  obtain ⟨-, c1, c2, c3⟩ := hc
  simp (disch := omega) only [aw_iload_1 (pc2 := 1) D72_0 rfl, aw_istore_2 (pc2 := 2) D72_1 rfl, aw_iconst (pc2 := 3) (y := 0) D72_2 rfl (by decide), aw_istore_3 (pc2 := 4) D72_3 rfl, lit_6, refV_s, refV_n, psh_s, psh_n, kil_i, kil_r, kil_n, kil_l, cat_i, cat_r, iOK_1, iOK_5, jOK_2, jOK_6, wOK_e, lOK_1, lOK_2, lOK_3, lOK_4, lOK_5, lOK_6, catS_0, catS_1, catS_2, catS_3, catS_4, and_self, true_and, and_true, true_or, or_true, false_or, or_false, not_true_eq_false, not_false_eq_true, if_true, if_false, ite_int, ite_int0, au_10, eq_self, decide_true, decide_false, Bool.true_and, Bool.false_and, au_in, au_le, au_lt, au_eq, au_lt0, au_ge0, au_le0, au_gt0, au_eq0, au_leT, au_leF, au_ltT, au_ltF, au_eqT, au_eqF, nI_clamp, nI_1, nI_add, pk_mul, au_sub1, au_subc, au_up2e, au_up2n, lit_of]
  have key : ∀ n i q v, i + n = wN N → q ≤ k → kil v = v → (i = 0 → q = k) → (0 < i → n = 0 ∨ 64 * i ≤ 2 ^ N) → (0 < i → 2 ^ N < 64 → scanK T (2 ^ N) 0 k = -1) → ((64 ≤ 2 ^ N ∨ i = 0) → scanK T (2 ^ N) 0 k = scanK T (2 ^ N - 64 * i) (64 * i) q) → (AW (d + 2) ((G0 Ln).1, (G0 Ln).2.1) K 72 4 [.ref c, .int (nI k), .int (nI q), .int (nI i), v] [] (G0 Ln) I J ↔ K (some (.int (scanK T (2 ^ N) 0 k))) (G0 Ln) I J) := by
    intro n
    induction n with
    | zero =>
      intro i q v hi hq hv h0 hb hl hs
      have e : i = wN N := by omega
      have em : scanK T (2 ^ N) 0 k = -1 := by
        by_cases h6 : 2 ^ N < 64
        · exact hl (by omega) h6
        · rw [hs (Or.inl (by omega)), e, w5 (by omega), Nat.sub_self]; rfl
      simp (disch := omega) only [aw_iload_3 (pc2 := 5) D72_4 rfl, aw_aload_0 (pc2 := 6) D72_5 rfl, aw_getI (pc2 := 9) (ci := 5) (fk := 3) D72_6 rfl fT_5_22 rfl, aw_icmp_ge (pc2 := 12) (t := 50) D72_9 (by decide) rfl, aw_iconst (pc2 := 51) (y := -1) D72_50 rfl (by decide), aw_iret D72_51 rfl, lit_6, refV_s, refV_n, psh_s, psh_n, kil_i, kil_r, kil_n, kil_l, cat_i, cat_r, iOK_1, iOK_5, jOK_2, jOK_6, wOK_e, lOK_1, lOK_2, lOK_3, lOK_4, lOK_5, lOK_6, catS_0, catS_1, catS_2, catS_3, catS_4, and_self, true_and, and_true, true_or, or_true, false_or, or_false, not_true_eq_false, not_false_eq_true, if_true, if_false, ite_int, ite_int0, au_10, eq_self, decide_true, decide_false, Bool.true_and, Bool.false_and, au_in, au_le, au_lt, au_eq, au_lt0, au_ge0, au_le0, au_gt0, au_eq0, au_leT, au_leF, au_ltT, au_ltF, au_eqT, au_eqF, nI_clamp, nI_1, nI_add, pk_mul, au_sub1, au_subc, au_up2e, au_up2n, lit_of, c1, h3, e, em]
    | succ n ih =>
      intro i q v hi hq hv h0 hb hl hs
      have hw : i < wN N := by omega
      have hle := fb_ct_le (bt (J (c + 1) i)) 64
      have hor : 64 ≤ 2 ^ N ∨ i = 0 := by
        by_cases h6 : 2 ^ N < 64
        · have := w4 h6; omega
        · omega
      have hs := hs hor
      have h64 : 64 * i ≤ 2 ^ N := by
        rcases hor with z | z
        · have := w5 z; omega
        · rw [z, Nat.mul_zero]; exact Nat.zero_le _
      rw [aw_iload_3 (pc2 := 5) D72_4 rfl]
      simp (disch := omega) only [aw_aload_0 (pc2 := 6) D72_5 rfl, aw_getI (pc2 := 9) (ci := 5) (fk := 3) D72_6 rfl fT_5_22 rfl, aw_icmp_ge (pc2 := 12) (t := 50) D72_9 (by decide) rfl, aw_aload_0 (pc2 := 13) D72_12 rfl, aw_getR (pc2 := 16) (ci := 5) (fk := 0) D72_13 rfl fT_5_9 rfl, aw_iload_3 (pc2 := 17) D72_16 rfl, aw_laload (pc2 := 18) D72_17 rfl, aw_is1_2 (pc2 := 21) D72_18 rfl cT_5_46 rfl, aw_istore_4 (pc2 := 23) D72_21 rfl, aw_iload_2 (pc2 := 24) D72_23 rfl, aw_iload_4 (pc2 := 26) D72_24 rfl, aw_icmp_ge (pc2 := 29) (t := 39) D72_26 (by decide) rfl, lit_6, refV_s, refV_n, psh_s, psh_n, kil_i, kil_r, kil_n, kil_l, cat_i, cat_r, iOK_1, iOK_5, jOK_2, jOK_6, wOK_e, lOK_1, lOK_2, lOK_3, lOK_4, lOK_5, lOK_6, catS_0, catS_1, catS_2, catS_3, catS_4, and_self, true_and, and_true, true_or, or_true, false_or, or_false, not_true_eq_false, not_false_eq_true, if_true, if_false, ite_int, ite_int0, au_10, eq_self, decide_true, decide_false, Bool.true_and, Bool.false_and, au_in, au_le, au_lt, au_eq, au_lt0, au_ge0, au_le0, au_gt0, au_eq0, au_leT, au_leF, au_ltT, au_ltF, au_eqT, au_eqF, nI_clamp, nI_1, nI_add, pk_mul, au_sub1, au_subc, au_up2e, au_up2n, lit_of, c1, c2, c3, h3, P_long, hv]
      by_cases hq2 : q < fb_ct (bt (J (c + 1) i)) 64
      · rw [if_neg (by omega)]
        have hsh : nI i <<< (nI 6 &&& 31) = nI (64 * i) := by
          rw [shlI (by omega) (by omega), show (2 : Nat) ^ 6 = 64 from rfl, Nat.mul_comm]
        simp (disch := omega) only [aw_aload_0 (pc2 := 30) D72_29 rfl, aw_iload_3 (pc2 := 31) D72_30 rfl, aw_bipush (pc2 := 33) (y := 6) D72_31 rfl (by decide), aw_ishl (pc2 := 34) D72_33 rfl, aw_iload_2 (pc2 := 35) D72_34 rfl, aw_iv2_0 (pc2 := 38) (o := 5) D72_35 rfl cT_5_58 rfl rfl, aw_iret D72_38 rfl, lit_6, refV_s, refV_n, psh_s, psh_n, kil_i, kil_r, kil_n, kil_l, cat_i, cat_r, iOK_1, iOK_5, jOK_2, jOK_6, wOK_e, lOK_1, lOK_2, lOK_3, lOK_4, lOK_5, lOK_6, catS_0, catS_1, catS_2, catS_3, catS_4, and_self, true_and, and_true, true_or, or_true, false_or, or_false, not_true_eq_false, not_false_eq_true, if_true, if_false, ite_int, ite_int0, au_10, eq_self, decide_true, decide_false, Bool.true_and, Bool.false_and, au_in, au_le, au_lt, au_eq, au_lt0, au_ge0, au_le0, au_gt0, au_eq0, au_leT, au_leF, au_ltT, au_ltF, au_eqT, au_eqF, nI_clamp, nI_1, nI_add, pk_mul, au_sub1, au_subc, au_up2e, au_up2n, lit_of, c1, hsh, C_rowOfRankFrom hc' hN h h64 (show q < 2 ^ 31 by omega), hs]
      · rw [if_pos (by omega)]
        simp (disch := omega) only [aw_iload_2 (pc2 := 40) D72_39 rfl, aw_iload_4 (pc2 := 42) D72_40 rfl, aw_isub (pc2 := 43) D72_42 rfl, aw_istore_2 (pc2 := 44) D72_43 rfl, aw_iinc_3 (pc2 := 47) (y := 1) D72_44 rfl (by decide), aw_goto (t := 4) D72_47 (by decide), lit_6, refV_s, refV_n, psh_s, psh_n, kil_i, kil_r, kil_n, kil_l, cat_i, cat_r, iOK_1, iOK_5, jOK_2, jOK_6, wOK_e, lOK_1, lOK_2, lOK_3, lOK_4, lOK_5, lOK_6, catS_0, catS_1, catS_2, catS_3, catS_4, and_self, true_and, and_true, true_or, or_true, false_or, or_false, not_true_eq_false, not_false_eq_true, if_true, if_false, ite_int, ite_int0, au_10, eq_self, decide_true, decide_false, Bool.true_and, Bool.false_and, au_in, au_le, au_lt, au_eq, au_lt0, au_ge0, au_le0, au_gt0, au_eq0, au_leT, au_leF, au_ltT, au_ltF, au_eqT, au_eqF, nI_clamp, nI_1, nI_add, pk_mul, au_sub1, au_subc, au_up2e, au_up2n, lit_of]
        have hct := word_ct h hw
        refine ih (i + 1) (q - fb_ct (bt (J (c + 1) i)) 64) _ (by omega) (by omega) rfl (by omega) (fun _ => ?_) (fun _ h6 => ?_) (fun h6 => ?_)
        · by_cases h6 : 2 ^ N < 64
          · have := w4 h6; omega
          · have := w5 (by omega); omega
        · have hi0 : i = 0 := by have := w4 h6; omega
          subst hi0
          rw [h0 rfl] at hq2
          refine scanK_none ?_
          have e1 : fb_ct (fun i => T (0 + i)) (2 ^ N) = fb_ct T (2 ^ N) := fb_ct_cong (fun i _ => by rw [Nat.zero_add])
          have e2 : fb_ct (fun i => decide (64 * 0 + i < 2 ^ N) && T (64 * 0 + i)) 64 = fb_ct (fun r => decide (r < 2 ^ N) && T r) 64 := fb_ct_cong (fun i _ => by rw [Nat.mul_zero, Nat.zero_add])
          rw [e1]
          rw [hct, e2, ct_beyond (by omega)] at hq2
          omega
        · have h6 : 64 ≤ 2 ^ N := by omega
          have h7 := w5 h6
          have e2 : fb_ct (fun q => decide (64 * i + q < 2 ^ N) && T (64 * i + q)) 64 = fb_ct (fun q => T (64 * i + q)) 64 := fb_ct_cong (fun q hq3 => by rw [show decide (64 * i + q < 2 ^ N) = true by rw [decide_eq_true_eq]; omega, Bool.true_and])
          rw [hs, show 2 ^ N - 64 * i = 64 + (2 ^ N - 64 * (i + 1)) by omega, scanK_skip (by rw [← e2, ← hct]; exact hq2), ← e2, ← hct, show 64 * i + 64 = 64 * (i + 1) by omega]
  exact key (wN N) 0 k _ (by omega) (Nat.le_refl _) rfl (fun _ => rfl) (fun q => by omega) (fun q => by omega) (fun _ => by rw [Nat.mul_zero, Nat.sub_zero])
theorem C_put {T : Nat → Bool} {r : Nat} (hc : RF Ln c) (hN : N ≤ 12) (h : RSet N c T I J) (hr : r < 2 ^ N) : ACall (d + 1) 65 [.ref c, .int (nI r)] (G0 Ln) I J K ↔ K none (G0 Ln) I (up2 J (c + 1) (r / 64) (J (c + 1) (r / 64) ||| lN (2 ^ (r % 64)))) := by
  rw [ACall_0 (L0 := [.ref c, .int (nI r)]) (show mcs 65 = (0, 0) from rfl) (show entL 65 [.ref c, .int (nI r)] = _ from rfl) rfl (Nat.le_of_ble_eq_true rfl)]
  obtain ⟨w1, w2, w3, -, -, w6, -⟩ := wN_all N (by omega)
  obtain ⟨-, c1, c2, c3⟩ := hc
  simp (disch := omega) only [aw_iload_1 (pc2 := 1) D65_0 rfl, aw_if_lt (pc2 := 4) (t := 30) D65_1 (by decide) rfl, aw_iload_1 (pc2 := 5) D65_4 rfl, aw_aload_0 (pc2 := 6) D65_5 rfl, aw_getI (pc2 := 9) (ci := 5) (fk := 2) D65_6 rfl fT_5_19 rfl, aw_icmp_ge (pc2 := 12) (t := 30) D65_9 (by decide) rfl, aw_aload_0 (pc2 := 13) D65_12 rfl, aw_getR (pc2 := 16) (ci := 5) (fk := 0) D65_13 rfl fT_5_9 rfl, aw_iload_1 (pc2 := 17) D65_16 rfl, aw_bipush (pc2 := 19) (y := 6) D65_17 rfl (by decide), aw_ishr (pc2 := 20) D65_19 rfl, aw_dup2 (pc2 := 21) D65_20 rfl, aw_laload (pc2 := 22) D65_21 rfl, aw_lconst (pc2 := 23) (y := 1) D65_22 rfl (by decide), aw_iload_1 (pc2 := 24) D65_23 rfl, aw_bipush (pc2 := 26) (y := 63) D65_24 rfl (by decide), aw_iand (pc2 := 27) D65_26 rfl, aw_lshl (pc2 := 28) D65_27 rfl, aw_lor (pc2 := 29) D65_28 rfl, aw_lastore (pc2 := 30) D65_29 rfl, aw_vret D65_30 rfl, lit_6, lit_63, refV_s, refV_n, psh_s, psh_n, kil_i, kil_r, kil_n, kil_l, cat_i, cat_r, iOK_1, iOK_5, jOK_2, jOK_6, wOK_e, lOK_1, lOK_2, lOK_3, lOK_4, lOK_5, lOK_6, catS_0, catS_1, catS_2, catS_3, catS_4, and_self, true_and, and_true, true_or, or_true, false_or, or_false, not_true_eq_false, not_false_eq_true, if_true, if_false, ite_int, ite_int0, au_10, eq_self, decide_true, decide_false, Bool.true_and, Bool.false_and, au_in, au_le, au_lt, au_eq, au_lt0, au_ge0, au_le0, au_gt0, au_eq0, au_leT, au_leF, au_ltT, au_ltF, au_eqT, au_eqF, nI_clamp, nI_1, nI_add, pk_mul, au_sub1, au_subc, au_up2e, au_up2n, lit_of, c1, c2, c3, h.2.1, shrI, show (2 : Nat) ^ 6 = 64 from rfl, and63n, shl1L]
theorem RSet_put {T : Nat → Bool} {r : Nat} (hN : N ≤ 12) (h : RSet N c T I J) (hr : r < 2 ^ N) : RSet N c (fun v => T v || decide (v = r)) I (up2 J (c + 1) (r / 64) (J (c + 1) (r / 64) ||| lN (2 ^ (r % 64)))) := by
  refine RSet.mk h.1 h.2.1 h.2.2.1 (fun w i hw hi => ?_)
  by_cases e : w = r / 64
  · subst e
    rw [au_up2, bt_or, h.wd hw hi, bt_one hi]
    by_cases e2 : r % 64 = i
    · subst e2
      have : 64 * (r / 64) + r % 64 = r := by omega
      rw [this]
      simp [hr]
    · have : ¬ 64 * (r / 64) + i = r := by omega
      simp [e2, this]
  · rw [au_up2k e, h.wd hw hi]
    have : ¬ 64 * w + i = r := by omega
    simp [this]
end RSets2
