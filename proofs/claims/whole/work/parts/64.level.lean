/-! the class's levels -/
def lvl (d : Nat) : Nat := 39 + 6 * d
def LF (Ln q : Nat) : Prop := (39 ≤ q ∧ q + 5 < 117) ∧ (shp (G0 Ln) q = (0, 2) ∧ shp (G0 Ln) (q + 1) = (1, 40) ∧ shp (G0 Ln) (q + 2) = (1, 40) ∧ shp (G0 Ln) (q + 3) = (1, 40) ∧ shp (G0 Ln) (q + 4) = (1, 12) ∧ shp (G0 Ln) (q + 5) = (1, 12)) ∧ ((G0 Ln).2.2.2 q 0 = some (q + 1) ∧ (G0 Ln).2.2.2 q 1 = some (q + 2) ∧ (G0 Ln).2.2.2 q 2 = some (q + 3) ∧ (G0 Ln).2.2.2 q 3 = some (q + 4) ∧ (G0 Ln).2.2.2 q 4 = some (q + 5))
theorem lv_f {Ln d : Nat} (hd : d < 13) : LF Ln (lvl d) := by
  rcases (show d = 0 ∨ d = 1 ∨ d = 2 ∨ d = 3 ∨ d = 4 ∨ d = 5 ∨ d = 6 ∨ d = 7 ∨ d = 8 ∨ d = 9 ∨ d = 10 ∨ d = 11 ∨ d = 12 by omega) with rfl | rfl | rfl | rfl | rfl | rfl | rfl | rfl | rfl | rfl | rfl | rfl | rfl
  · exact ⟨⟨by decide, by decide⟩, ⟨rfl, rfl, rfl, rfl, rfl, rfl⟩, ⟨rfl, rfl, rfl, rfl, rfl⟩⟩
  · exact ⟨⟨by decide, by decide⟩, ⟨rfl, rfl, rfl, rfl, rfl, rfl⟩, ⟨rfl, rfl, rfl, rfl, rfl⟩⟩
  · exact ⟨⟨by decide, by decide⟩, ⟨rfl, rfl, rfl, rfl, rfl, rfl⟩, ⟨rfl, rfl, rfl, rfl, rfl⟩⟩
  · exact ⟨⟨by decide, by decide⟩, ⟨rfl, rfl, rfl, rfl, rfl, rfl⟩, ⟨rfl, rfl, rfl, rfl, rfl⟩⟩
  · exact ⟨⟨by decide, by decide⟩, ⟨rfl, rfl, rfl, rfl, rfl, rfl⟩, ⟨rfl, rfl, rfl, rfl, rfl⟩⟩
  · exact ⟨⟨by decide, by decide⟩, ⟨rfl, rfl, rfl, rfl, rfl, rfl⟩, ⟨rfl, rfl, rfl, rfl, rfl⟩⟩
  · exact ⟨⟨by decide, by decide⟩, ⟨rfl, rfl, rfl, rfl, rfl, rfl⟩, ⟨rfl, rfl, rfl, rfl, rfl⟩⟩
  · exact ⟨⟨by decide, by decide⟩, ⟨rfl, rfl, rfl, rfl, rfl, rfl⟩, ⟨rfl, rfl, rfl, rfl, rfl⟩⟩
  · exact ⟨⟨by decide, by decide⟩, ⟨rfl, rfl, rfl, rfl, rfl, rfl⟩, ⟨rfl, rfl, rfl, rfl, rfl⟩⟩
  · exact ⟨⟨by decide, by decide⟩, ⟨rfl, rfl, rfl, rfl, rfl, rfl⟩, ⟨rfl, rfl, rfl, rfl, rfl⟩⟩
  · exact ⟨⟨by decide, by decide⟩, ⟨rfl, rfl, rfl, rfl, rfl, rfl⟩, ⟨rfl, rfl, rfl, rfl, rfl⟩⟩
  · exact ⟨⟨by decide, by decide⟩, ⟨rfl, rfl, rfl, rfl, rfl, rfl⟩, ⟨rfl, rfl, rfl, rfl, rfl⟩⟩
  · exact ⟨⟨by decide, by decide⟩, ⟨rfl, rfl, rfl, rfl, rfl, rfl⟩, ⟨rfl, rfl, rfl, rfl, rfl⟩⟩
theorem lv_r {Ln d : Nat} (hd : d < 13) : (G0 Ln).2.2.2 30 d = some (lvl d) := by
  rcases (show d = 0 ∨ d = 1 ∨ d = 2 ∨ d = 3 ∨ d = 4 ∨ d = 5 ∨ d = 6 ∨ d = 7 ∨ d = 8 ∨ d = 9 ∨ d = 10 ∨ d = 11 ∨ d = 12 by omega) with rfl | rfl | rfl | rfl | rfl | rfl | rfl | rfl | rfl | rfl | rfl | rfl | rfl <;> rfl

theorem lsA_0 {c : Nat} {l : List Nat} {I : IT} (h : lsA c 0 l I) {i : Nat} (hi : i < l.length) : I c i = nI (l.getD i 0) := by
  have := h i hi
  rwa [Nat.zero_add] at this
section Level
variable {d Ln q : Nat} {I : IT} {J : JT} {K : KT}
theorem C_hasCW {l : List Nat} (hq : LF Ln q) (hl : lsOK l) (h5 : I q 5 = nI l.length) (h1 : lsA (q + 1) 0 l I) : ACall (d + 1) 40 [.ref q] (G0 Ln) I J K ↔ K (some (.int (bI (decide (0 ∈ l))))) (G0 Ln) I J := by
  rw [ACall_0 (L0 := [.ref q, nv]) (show mcs 40 = (0, 0) from rfl) (show entL 40 [.ref q] = _ from rfl) rfl (Nat.le_of_ble_eq_true rfl)]
  have h40 := hl.1
  simp only [aw_iconst (pc2 := 1) (y := 0) D40_0 rfl (by decide), aw_istore_1 (pc2 := 2) D40_1 rfl, refV_s, refV_n, psh_s, psh_n, kil_i, kil_r, kil_n, kil_l, cat_i, cat_r, iOK_1, iOK_5, jOK_2, jOK_6, wOK_e, lOK_1, lOK_2, lOK_3, lOK_4, lOK_5, lOK_6, catS_0, catS_1, catS_2, catS_3, catS_4, and_self, true_and, and_true, true_or, or_true, false_or, or_false, not_true_eq_false, not_false_eq_true, if_true, if_false, ite_int, ite_int0, au_10, eq_self, decide_true, decide_false, Bool.true_and, Bool.false_and]
  have key : ∀ n i, i + n = l.length → (∀ j, j < i → l.getD j 0 ≠ 0) → (AW d ((G0 Ln).1, (G0 Ln).2.1) K 40 2 [.ref q, .int (nI i)] [] (G0 Ln) I J ↔ K (some (.int (bI (decide (0 ∈ l))))) (G0 Ln) I J) := by
    intro n
    induction n with
    | zero =>
      intro i hi hj
      have e : i = l.length := by omega
      subst e
      have : ¬ 0 ∈ l := fun h => by
        obtain ⟨k, hk, e⟩ := mem_ix.mp h
        exact hj k hk e
      simp (disch := omega) only [aw_iload_1 (pc2 := 3) D40_2 rfl, aw_aload_0 (pc2 := 4) D40_3 rfl, aw_getI (pc2 := 7) (ci := 2) (fk := 5) D40_4 rfl fT_2_27 rfl, aw_icmp_ge (pc2 := 10) (t := 27) D40_7 (by decide) rfl, aw_iconst (pc2 := 28) (y := 0) D40_27 rfl (by decide), aw_zret D40_28 rfl, refV_s, refV_n, psh_s, psh_n, kil_i, kil_r, kil_n, kil_l, cat_i, cat_r, iOK_1, iOK_5, jOK_2, jOK_6, wOK_e, lOK_1, lOK_2, lOK_3, lOK_4, lOK_5, lOK_6, catS_0, catS_1, catS_2, catS_3, catS_4, and_self, true_and, and_true, true_or, or_true, false_or, or_false, not_true_eq_false, not_false_eq_true, if_true, if_false, ite_int, ite_int0, au_10, eq_self, decide_true, decide_false, Bool.true_and, Bool.false_and, au_in, au_le, au_lt, au_eq, au_lt0, au_ge0, au_le0, au_gt0, au_eq0, au_leT, au_leF, au_ltT, au_ltF, au_eqT, au_eqF, nI_clamp, nI_1, nI_add, pk_mul, au_sub1, au_subc, au_up2e, au_up2n, lit_of, hq.2.1.1, hq.2.1.2.1, hq.2.1.2.2.1, hq.2.1.2.2.2.1, hq.2.1.2.2.2.2.1, hq.2.1.2.2.2.2.2, hq.2.2.1, hq.2.2.2.1, hq.2.2.2.2.1, hq.2.2.2.2.2.1, hq.2.2.2.2.2.2, h5]
      simp [this, bI]
    | succ n ih =>
      intro i hi hj
      have hil : i < l.length := by omega
      have hc := (hl.2 _ (getD_mem hil)).1
      have ihn := ih (i + 1) (by omega)
      rw [aw_iload_1 (pc2 := 3) D40_2 rfl]
      simp (disch := omega) only [aw_aload_0 (pc2 := 4) D40_3 rfl, aw_getI (pc2 := 7) (ci := 2) (fk := 5) D40_4 rfl fT_2_27 rfl, aw_icmp_ge (pc2 := 10) (t := 27) D40_7 (by decide) rfl, aw_aload_0 (pc2 := 11) D40_10 rfl, aw_getR (pc2 := 14) (ci := 2) (fk := 0) D40_11 rfl fT_2_9 rfl, aw_iload_1 (pc2 := 15) D40_14 rfl, aw_iaload (pc2 := 16) D40_15 rfl, aw_if_ne (pc2 := 19) (t := 21) D40_16 (by decide) rfl, refV_s, refV_n, psh_s, psh_n, kil_i, kil_r, kil_n, kil_l, cat_i, cat_r, iOK_1, iOK_5, jOK_2, jOK_6, wOK_e, lOK_1, lOK_2, lOK_3, lOK_4, lOK_5, lOK_6, catS_0, catS_1, catS_2, catS_3, catS_4, and_self, true_and, and_true, true_or, or_true, false_or, or_false, not_true_eq_false, not_false_eq_true, if_true, if_false, ite_int, ite_int0, au_10, eq_self, decide_true, decide_false, Bool.true_and, Bool.false_and, au_in, au_le, au_lt, au_eq, au_lt0, au_ge0, au_le0, au_gt0, au_eq0, au_leT, au_leF, au_ltT, au_ltF, au_eqT, au_eqF, nI_clamp, nI_1, nI_add, pk_mul, au_sub1, au_subc, au_up2e, au_up2n, lit_of, hq.2.1.1, hq.2.1.2.1, hq.2.1.2.2.1, hq.2.1.2.2.2.1, hq.2.1.2.2.2.2.1, hq.2.1.2.2.2.2.2, hq.2.2.1, hq.2.2.2.1, hq.2.2.2.2.1, hq.2.2.2.2.2.1, hq.2.2.2.2.2.2, h5, lsA_0 h1 hil]
      by_cases hz : l.getD i 0 = 0
      · rw [if_neg (fun z => z hz)]
        have : 0 ∈ l := mem_ix.mpr ⟨i, hil, hz⟩
        simp (disch := omega) only [aw_iconst (pc2 := 20) (y := 1) D40_19 rfl (by decide), aw_zret D40_20 rfl, refV_s, refV_n, psh_s, psh_n, kil_i, kil_r, kil_n, kil_l, cat_i, cat_r, iOK_1, iOK_5, jOK_2, jOK_6, wOK_e, lOK_1, lOK_2, lOK_3, lOK_4, lOK_5, lOK_6, catS_0, catS_1, catS_2, catS_3, catS_4, and_self, true_and, and_true, true_or, or_true, false_or, or_false, not_true_eq_false, not_false_eq_true, if_true, if_false, ite_int, ite_int0, au_10, eq_self, decide_true, decide_false, Bool.true_and, Bool.false_and, au_in, au_le, au_lt, au_eq, au_lt0, au_ge0, au_le0, au_gt0, au_eq0, au_leT, au_leF, au_ltT, au_ltF, au_eqT, au_eqF, nI_clamp, nI_1, nI_add, pk_mul, au_sub1, au_subc, au_up2e, au_up2n, lit_of, hq.2.1.1, hq.2.1.2.1, hq.2.1.2.2.1, hq.2.1.2.2.2.1, hq.2.1.2.2.2.2.1, hq.2.1.2.2.2.2.2, hq.2.2.1, hq.2.2.2.1, hq.2.2.2.2.1, hq.2.2.2.2.2.1, hq.2.2.2.2.2.2, h5]
        simp [this, bI]
      · rw [if_pos hz]
        simp (disch := omega) only [aw_iinc_1 (pc2 := 24) (y := 1) D40_21 rfl (by decide), aw_goto (t := 2) D40_24 (by decide), refV_s, refV_n, psh_s, psh_n, kil_i, kil_r, kil_n, kil_l, cat_i, cat_r, iOK_1, iOK_5, jOK_2, jOK_6, wOK_e, lOK_1, lOK_2, lOK_3, lOK_4, lOK_5, lOK_6, catS_0, catS_1, catS_2, catS_3, catS_4, and_self, true_and, and_true, true_or, or_true, false_or, or_false, not_true_eq_false, not_false_eq_true, if_true, if_false, ite_int, ite_int0, au_10, eq_self, decide_true, decide_false, Bool.true_and, Bool.false_and, au_in, au_le, au_lt, au_eq, au_lt0, au_ge0, au_le0, au_gt0, au_eq0, au_leT, au_leF, au_ltT, au_ltF, au_eqT, au_eqF, nI_clamp, nI_1, nI_add, pk_mul, au_sub1, au_subc, au_up2e, au_up2n, lit_of]
        exact ihn (fun j hj2 => by
          by_cases e : j = i
          · rw [e]; exact hz
          · exact hj j (by omega))
  exact key l.length 0 (by omega) (fun j hj => absurd hj (Nat.not_lt_zero _))
def loneI (l : List Nat) : Int32 := match lone l with
  | none => 0
  | some s => nI s
theorem C_firstLone {l : List Nat} (hq : LF Ln q) (hl : lsOK l) (h5 : I q 5 = nI l.length) (h1 : lsA (q + 1) 0 l I) : ACall (d + 2) 41 [.ref q] (G0 Ln) I J K ↔ K (some (.int (loneI l))) (G0 Ln) I J := by
  rw [ACall_0 (L0 := [.ref q, nv]) (show mcs 41 = (0, 0) from rfl) (show entL 41 [.ref q] = _ from rfl) rfl (Nat.le_of_ble_eq_true rfl)]
  have h40 := hl.1
  simp only [aw_iconst (pc2 := 1) (y := 0) D41_0 rfl (by decide), aw_istore_1 (pc2 := 2) D41_1 rfl, refV_s, refV_n, psh_s, psh_n, kil_i, kil_r, kil_n, kil_l, cat_i, cat_r, iOK_1, iOK_5, jOK_2, jOK_6, wOK_e, lOK_1, lOK_2, lOK_3, lOK_4, lOK_5, lOK_6, catS_0, catS_1, catS_2, catS_3, catS_4, and_self, true_and, and_true, true_or, or_true, false_or, or_false, not_true_eq_false, not_false_eq_true, if_true, if_false, ite_int, ite_int0, au_10, eq_self, decide_true, decide_false, Bool.true_and, Bool.false_and]
  have key : ∀ n i, i + n = l.length → (∀ j, j < i → (fun c => decide (pc24 c = 1)) (l.getD j 0) = false) → (AW (d + 1) ((G0 Ln).1, (G0 Ln).2.1) K 41 2 [.ref q, .int (nI i)] [] (G0 Ln) I J ↔ K (some (.int (loneI l))) (G0 Ln) I J) := by
    intro n
    induction n with
    | zero =>
      intro i hi hj
      have e : i = l.length := by omega
      subst e
      have : lone l = none := find_no hj
      simp (disch := omega) only [aw_iload_1 (pc2 := 3) D41_2 rfl, aw_aload_0 (pc2 := 4) D41_3 rfl, aw_getI (pc2 := 7) (ci := 2) (fk := 5) D41_4 rfl fT_2_27 rfl, aw_icmp_ge (pc2 := 10) (t := 36) D41_7 (by decide) rfl, aw_iconst (pc2 := 37) (y := 0) D41_36 rfl (by decide), aw_iret D41_37 rfl, refV_s, refV_n, psh_s, psh_n, kil_i, kil_r, kil_n, kil_l, cat_i, cat_r, iOK_1, iOK_5, jOK_2, jOK_6, wOK_e, lOK_1, lOK_2, lOK_3, lOK_4, lOK_5, lOK_6, catS_0, catS_1, catS_2, catS_3, catS_4, and_self, true_and, and_true, true_or, or_true, false_or, or_false, not_true_eq_false, not_false_eq_true, if_true, if_false, ite_int, ite_int0, au_10, eq_self, decide_true, decide_false, Bool.true_and, Bool.false_and, au_in, au_le, au_lt, au_eq, au_lt0, au_ge0, au_le0, au_gt0, au_eq0, au_leT, au_leF, au_ltT, au_ltF, au_eqT, au_eqF, nI_clamp, nI_1, nI_add, pk_mul, au_sub1, au_subc, au_up2e, au_up2n, lit_of, hq.2.1.1, hq.2.1.2.1, hq.2.1.2.2.1, hq.2.1.2.2.2.1, hq.2.1.2.2.2.2.1, hq.2.1.2.2.2.2.2, hq.2.2.1, hq.2.2.2.1, hq.2.2.2.2.1, hq.2.2.2.2.2.1, hq.2.2.2.2.2.2, h5]
      unfold loneI
      rw [this]
    | succ n ih =>
      intro i hi hj
      have hil : i < l.length := by omega
      have hc := (hl.2 _ (getD_mem hil)).1
      have hpc := pc_le (m := l.getD i 0)
      have ihn := ih (i + 1) (by omega)
      have e1 : (1 : Int32) = nI 1 := rfl
      rw [aw_iload_1 (pc2 := 3) D41_2 rfl]
      simp (disch := omega) only [aw_aload_0 (pc2 := 4) D41_3 rfl, aw_getI (pc2 := 7) (ci := 2) (fk := 5) D41_4 rfl fT_2_27 rfl, aw_icmp_ge (pc2 := 10) (t := 36) D41_7 (by decide) rfl, aw_aload_0 (pc2 := 11) D41_10 rfl, aw_getR (pc2 := 14) (ci := 2) (fk := 0) D41_11 rfl fT_2_9 rfl, aw_iload_1 (pc2 := 15) D41_14 rfl, aw_iaload (pc2 := 16) D41_15 rfl, aw_is1_2 (pc2 := 19) D41_16 rfl cT_2_60 rfl, aw_iconst (pc2 := 20) (y := 1) D41_19 rfl (by decide), aw_icmp_ne (pc2 := 23) (t := 30) D41_20 (by decide) rfl, refV_s, refV_n, psh_s, psh_n, kil_i, kil_r, kil_n, kil_l, cat_i, cat_r, iOK_1, iOK_5, jOK_2, jOK_6, wOK_e, lOK_1, lOK_2, lOK_3, lOK_4, lOK_5, lOK_6, catS_0, catS_1, catS_2, catS_3, catS_4, and_self, true_and, and_true, true_or, or_true, false_or, or_false, not_true_eq_false, not_false_eq_true, if_true, if_false, ite_int, ite_int0, au_10, eq_self, decide_true, decide_false, Bool.true_and, Bool.false_and, au_in, au_le, au_lt, au_eq, au_lt0, au_ge0, au_le0, au_gt0, au_eq0, au_leT, au_leF, au_ltT, au_ltF, au_eqT, au_eqF, nI_clamp, nI_1, nI_add, pk_mul, au_sub1, au_subc, au_up2e, au_up2n, lit_of, hq.2.1.1, hq.2.1.2.1, hq.2.1.2.2.1, hq.2.1.2.2.2.1, hq.2.1.2.2.2.2.1, hq.2.1.2.2.2.2.2, hq.2.2.1, hq.2.2.2.1, hq.2.2.2.2.1, hq.2.2.2.2.2.1, hq.2.2.2.2.2.2, h5, lsA_0 h1 hil, P_int (show l.getD i 0 < 2 ^ 32 by omega), pc_32 hc]
      rw [e1]
      by_cases hz : pc24 (l.getD i 0) = 1
      · rw [if_neg (fun z => z (by rw [hz]))]
        have : lone l = some (l.getD i 0) := find_at hil hj (decide_eq_true hz)
        simp (disch := omega) only [aw_aload_0 (pc2 := 24) D41_23 rfl, aw_getR (pc2 := 27) (ci := 2) (fk := 0) D41_24 rfl fT_2_9 rfl, aw_iload_1 (pc2 := 28) D41_27 rfl, aw_iaload (pc2 := 29) D41_28 rfl, aw_iret D41_29 rfl, refV_s, refV_n, psh_s, psh_n, kil_i, kil_r, kil_n, kil_l, cat_i, cat_r, iOK_1, iOK_5, jOK_2, jOK_6, wOK_e, lOK_1, lOK_2, lOK_3, lOK_4, lOK_5, lOK_6, catS_0, catS_1, catS_2, catS_3, catS_4, and_self, true_and, and_true, true_or, or_true, false_or, or_false, not_true_eq_false, not_false_eq_true, if_true, if_false, ite_int, ite_int0, au_10, eq_self, decide_true, decide_false, Bool.true_and, Bool.false_and, au_in, au_le, au_lt, au_eq, au_lt0, au_ge0, au_le0, au_gt0, au_eq0, au_leT, au_leF, au_ltT, au_ltF, au_eqT, au_eqF, nI_clamp, nI_1, nI_add, pk_mul, au_sub1, au_subc, au_up2e, au_up2n, lit_of, hq.2.1.1, hq.2.1.2.1, hq.2.1.2.2.1, hq.2.1.2.2.2.1, hq.2.1.2.2.2.2.1, hq.2.1.2.2.2.2.2, hq.2.2.1, hq.2.2.2.1, hq.2.2.2.2.1, hq.2.2.2.2.2.1, hq.2.2.2.2.2.2, h5, lsA_0 h1 hil]
        unfold loneI
        rw [this]
      · rw [if_pos (fun z => hz ((nI_eq (by omega) (by decide)).mp z))]
        simp (disch := omega) only [aw_iinc_1 (pc2 := 33) (y := 1) D41_30 rfl (by decide), aw_goto (t := 2) D41_33 (by decide), refV_s, refV_n, psh_s, psh_n, kil_i, kil_r, kil_n, kil_l, cat_i, cat_r, iOK_1, iOK_5, jOK_2, jOK_6, wOK_e, lOK_1, lOK_2, lOK_3, lOK_4, lOK_5, lOK_6, catS_0, catS_1, catS_2, catS_3, catS_4, and_self, true_and, and_true, true_or, or_true, false_or, or_false, not_true_eq_false, not_false_eq_true, if_true, if_false, ite_int, ite_int0, au_10, eq_self, decide_true, decide_false, Bool.true_and, Bool.false_and, au_in, au_le, au_lt, au_eq, au_lt0, au_ge0, au_le0, au_gt0, au_eq0, au_leT, au_leF, au_ltT, au_ltF, au_eqT, au_eqF, nI_clamp, nI_1, nI_add, pk_mul, au_sub1, au_subc, au_up2e, au_up2n, lit_of]
        exact ihn (fun j hj2 => by
          by_cases e : j = i
          · rw [e]; exact decide_eq_false hz
          · exact hj j (by omega))
  exact key l.length 0 (by omega) (fun j hj => absurd hj (Nat.not_lt_zero _))
theorem C_addUnlike {acc : List Nat} {c : Nat} (hq : LF Ln q) (hacc : ∀ x, x ∈ acc → x < 2 ^ 24) (hc : c < 2 ^ 24) (hlen : acc.length < 40) (h5 : I q 5 = nI acc.length) (h1 : lsA (q + 1) 0 acc I) (hk : ∀ I', (∀ a, a ≠ q → a ≠ q + 1 → I' a = I a) → (∀ k, k ≠ 5 → I' q k = I q k) → I' q 5 = nI (addU acc c).length → lsA (q + 1) 0 (addU acc c) I' → (∀ j, acc.length < j → I' (q + 1) j = I (q + 1) j) → K none (G0 Ln) I' J) : ACall (d + 1) 38 [.ref q, .int (nI c)] (G0 Ln) I J K := by
  rw [ACall_0 (L0 := [.ref q, .int (nI c), nv]) (show mcs 38 = (0, 0) from rfl) (show entL 38 [.ref q, .int (nI c)] = _ from rfl) rfl (Nat.le_of_ble_eq_true rfl)]
  simp only [aw_iconst (pc2 := 1) (y := 0) D38_0 rfl (by decide), aw_istore_2 (pc2 := 2) D38_1 rfl, refV_s, refV_n, psh_s, psh_n, kil_i, kil_r, kil_n, kil_l, cat_i, cat_r, iOK_1, iOK_5, jOK_2, jOK_6, wOK_e, lOK_1, lOK_2, lOK_3, lOK_4, lOK_5, lOK_6, catS_0, catS_1, catS_2, catS_3, catS_4, and_self, true_and, and_true, true_or, or_true, false_or, or_false, not_true_eq_false, not_false_eq_true, if_true, if_false, ite_int, ite_int0, au_10, eq_self, decide_true, decide_false, Bool.true_and, Bool.false_and]
  have key : ∀ n i, i + n = acc.length → (∀ j, j < i → acc.getD j 0 ≠ c) → AW d ((G0 Ln).1, (G0 Ln).2.1) K 38 2 [.ref q, .int (nI c), .int (nI i)] [] (G0 Ln) I J := by
    intro n
    induction n with
    | zero =>
      intro i hi hj
      have e : i = acc.length := by omega
      subst e
      have hn : ¬ c ∈ acc := fun h => by
        obtain ⟨k, hk, e⟩ := mem_ix.mp h
        exact hj k hk e
      have ha : addU acc c = acc ++ [c] := by unfold addU; rw [if_neg hn]
      rw [ha] at hk
      simp (disch := omega) only [aw_iload_2 (pc2 := 3) D38_2 rfl, aw_aload_0 (pc2 := 4) D38_3 rfl, aw_getI (pc2 := 7) (ci := 2) (fk := 5) D38_4 rfl fT_2_27 rfl, aw_icmp_ge (pc2 := 10) (t := 27) D38_7 (by decide) rfl, aw_aload_0 (pc2 := 28) D38_27 rfl, aw_getI (pc2 := 31) (ci := 2) (fk := 5) D38_28 rfl fT_2_27 rfl, aw_aload_0 (pc2 := 32) D38_31 rfl, aw_getR (pc2 := 35) (ci := 2) (fk := 0) D38_32 rfl fT_2_9 rfl, aw_alen (pc2 := 36) D38_35 rfl, aw_icmp_ge (pc2 := 39) (t := 59) D38_36 (by decide) rfl, aw_aload_0 (pc2 := 40) D38_39 rfl, aw_getR (pc2 := 43) (ci := 2) (fk := 0) D38_40 rfl fT_2_9 rfl, aw_aload_0 (pc2 := 44) D38_43 rfl, aw_getI (pc2 := 47) (ci := 2) (fk := 5) D38_44 rfl fT_2_27 rfl, aw_iload_1 (pc2 := 48) D38_47 rfl, aw_iastore (pc2 := 49) D38_48 rfl, aw_aload_0 (pc2 := 50) D38_49 rfl, aw_dup (pc2 := 51) D38_50 rfl, aw_getI (pc2 := 54) (ci := 2) (fk := 5) D38_51 rfl fT_2_27 rfl, aw_iconst (pc2 := 55) (y := 1) D38_54 rfl (by decide), aw_iadd (pc2 := 56) D38_55 rfl, aw_putI (pc2 := 59) (ci := 2) (fk := 5) D38_56 rfl fT_2_27 rfl, aw_vret D38_59 rfl, refV_s, refV_n, psh_s, psh_n, kil_i, kil_r, kil_n, kil_l, cat_i, cat_r, iOK_1, iOK_5, jOK_2, jOK_6, wOK_e, lOK_1, lOK_2, lOK_3, lOK_4, lOK_5, lOK_6, catS_0, catS_1, catS_2, catS_3, catS_4, and_self, true_and, and_true, true_or, or_true, false_or, or_false, not_true_eq_false, not_false_eq_true, if_true, if_false, ite_int, ite_int0, au_10, eq_self, decide_true, decide_false, Bool.true_and, Bool.false_and, au_in, au_le, au_lt, au_eq, au_lt0, au_ge0, au_le0, au_gt0, au_eq0, au_leT, au_leF, au_ltT, au_ltF, au_eqT, au_eqF, nI_clamp, nI_1, nI_add, pk_mul, au_sub1, au_subc, au_up2e, au_up2n, lit_of, hq.2.1.1, hq.2.1.2.1, hq.2.1.2.2.1, hq.2.1.2.2.2.1, hq.2.1.2.2.2.2.1, hq.2.1.2.2.2.2.2, hq.2.2.1, hq.2.2.2.1, hq.2.2.2.2.1, hq.2.2.2.2.2.1, hq.2.2.2.2.2.2, h5]
      refine hk _ (fun a a1 a2 => by rw [au_up2c a1, au_up2c a2]) (fun k hk2 => ?_) ?_ (fun i hi2 => ?_) (fun j hj2 => ?_)
      · simp (disch := omega) only [au_up2n]
      · rw [List.length_append]
        simp (disch := omega) only [au_up2e]
        rfl
      · rw [List.length_append] at hi2
        simp at hi2
        rw [Nat.zero_add, get_snoc hi2]
        by_cases e : i = acc.length
        · simp (disch := omega) only [e, au_up2e, au_up2n, if_true]
        · simp (disch := omega) only [e, au_up2n, if_false]
          exact lsA_0 h1 (by omega)
      · simp (disch := omega) only [au_up2n]
    | succ n ih =>
      intro i hi hj
      have hil : i < acc.length := by omega
      have hx := hacc _ (getD_mem hil)
      rw [aw_iload_2 (pc2 := 3) D38_2 rfl]
      simp (disch := omega) only [aw_aload_0 (pc2 := 4) D38_3 rfl, aw_getI (pc2 := 7) (ci := 2) (fk := 5) D38_4 rfl fT_2_27 rfl, aw_icmp_ge (pc2 := 10) (t := 27) D38_7 (by decide) rfl, aw_aload_0 (pc2 := 11) D38_10 rfl, aw_getR (pc2 := 14) (ci := 2) (fk := 0) D38_11 rfl fT_2_9 rfl, aw_iload_2 (pc2 := 15) D38_14 rfl, aw_iaload (pc2 := 16) D38_15 rfl, aw_iload_1 (pc2 := 17) D38_16 rfl, aw_icmp_ne (pc2 := 20) (t := 21) D38_17 (by decide) rfl, refV_s, refV_n, psh_s, psh_n, kil_i, kil_r, kil_n, kil_l, cat_i, cat_r, iOK_1, iOK_5, jOK_2, jOK_6, wOK_e, lOK_1, lOK_2, lOK_3, lOK_4, lOK_5, lOK_6, catS_0, catS_1, catS_2, catS_3, catS_4, and_self, true_and, and_true, true_or, or_true, false_or, or_false, not_true_eq_false, not_false_eq_true, if_true, if_false, ite_int, ite_int0, au_10, eq_self, decide_true, decide_false, Bool.true_and, Bool.false_and, au_in, au_le, au_lt, au_eq, au_lt0, au_ge0, au_le0, au_gt0, au_eq0, au_leT, au_leF, au_ltT, au_ltF, au_eqT, au_eqF, nI_clamp, nI_1, nI_add, pk_mul, au_sub1, au_subc, au_up2e, au_up2n, lit_of, hq.2.1.1, hq.2.1.2.1, hq.2.1.2.2.1, hq.2.1.2.2.2.1, hq.2.1.2.2.2.2.1, hq.2.1.2.2.2.2.2, hq.2.2.1, hq.2.2.2.1, hq.2.2.2.2.1, hq.2.2.2.2.2.1, hq.2.2.2.2.2.2, h5, lsA_0 h1 hil]
      by_cases hz : acc.getD i 0 = c
      · rw [if_neg (fun z => z hz)]
        have hm : c ∈ acc := mem_ix.mpr ⟨i, hil, hz⟩
        have ha : addU acc c = acc := by unfold addU; rw [if_pos hm]
        rw [ha] at hk
        simp (disch := omega) only [aw_vret D38_20 rfl, refV_s, refV_n, psh_s, psh_n, kil_i, kil_r, kil_n, kil_l, cat_i, cat_r, iOK_1, iOK_5, jOK_2, jOK_6, wOK_e, lOK_1, lOK_2, lOK_3, lOK_4, lOK_5, lOK_6, catS_0, catS_1, catS_2, catS_3, catS_4, and_self, true_and, and_true, true_or, or_true, false_or, or_false, not_true_eq_false, not_false_eq_true, if_true, if_false, ite_int, ite_int0, au_10, eq_self, decide_true, decide_false, Bool.true_and, Bool.false_and, au_in, au_le, au_lt, au_eq, au_lt0, au_ge0, au_le0, au_gt0, au_eq0, au_leT, au_leF, au_ltT, au_ltF, au_eqT, au_eqF, nI_clamp, nI_1, nI_add, pk_mul, au_sub1, au_subc, au_up2e, au_up2n, lit_of]
        exact hk I (fun _ _ _ => rfl) (fun _ _ => rfl) h5 h1 (fun _ _ => rfl)
      · rw [if_pos hz]
        simp (disch := omega) only [aw_iinc_2 (pc2 := 24) (y := 1) D38_21 rfl (by decide), aw_goto (t := 2) D38_24 (by decide), refV_s, refV_n, psh_s, psh_n, kil_i, kil_r, kil_n, kil_l, cat_i, cat_r, iOK_1, iOK_5, jOK_2, jOK_6, wOK_e, lOK_1, lOK_2, lOK_3, lOK_4, lOK_5, lOK_6, catS_0, catS_1, catS_2, catS_3, catS_4, and_self, true_and, and_true, true_or, or_true, false_or, or_false, not_true_eq_false, not_false_eq_true, if_true, if_false, ite_int, ite_int0, au_10, eq_self, decide_true, decide_false, Bool.true_and, Bool.false_and, au_in, au_le, au_lt, au_eq, au_lt0, au_ge0, au_le0, au_gt0, au_eq0, au_leT, au_leF, au_ltT, au_ltF, au_eqT, au_eqF, nI_clamp, nI_1, nI_add, pk_mul, au_sub1, au_subc, au_up2e, au_up2n, lit_of]
        exact ih (i + 1) (by omega) (fun j hj2 => by
          by_cases e : j = i
          · rw [e]; exact hz
          · exact hj j (by omega))
  exact key acc.length 0 (by omega) (fun j hj => absurd hj (Nat.not_lt_zero _))
theorem den_lt {s : Nat} (hs : s = 0 ∨ ∃ p, p < 24 ∧ s = 2 ^ p) : s < 2 ^ 24 ∧ denC (nI s) = nI (denN s) := by
  rcases hs with rfl | ⟨p, hp, rfl⟩
  · exact ⟨by decide, denC_0⟩
  · exact ⟨Nat.pow_lt_pow_right (by decide) hp, (denC_ok p hp).1⟩
theorem C_take {f M s : Nat} {l : List Nat} (hq : LF Ln q) (hs : s = 0 ∨ ∃ p, p < 24 ∧ s = 2 ^ p) (hl : lsOK l) (hf : shp (G0 Ln) f = (1, M)) (hM : l.length ≤ M) (hM2 : M < 2 ^ 20) (hfq : f ≠ q) (h1 : lsA f 0 l I) (hk : ∀ I', (∀ a, a ≠ q → a ≠ q + 1 → I' a = I a) → (∀ k, k ≠ 5 → I' q k = I q k) → I' q 5 = nI (tkS s l).length → lsA (q + 1) 0 (tkS s l) I' → K none (G0 Ln) I' J) : ACall (d + 2) 37 [.ref q, .ref f, .int (nI l.length), .int (nI s)] (G0 Ln) I J K := by
  rw [ACall_0 (L0 := [.ref q, .ref f, .int (nI l.length), .int (nI s), nv, nv]) (show mcs 37 = (0, 0) from rfl) (show entL 37 [.ref q, .ref f, .int (nI l.length), .int (nI s)] = _ from rfl) rfl (Nat.le_of_ble_eq_true rfl)]
  obtain ⟨s24, hden⟩ := den_lt hs
  have h40 := hl.1
  simp (disch := omega) only [aw_iload_3 (pc2 := 1) D37_0 rfl, aw_is1_3 (pc2 := 4) D37_1 rfl cT_2_44 rfl, aw_istore_4 (pc2 := 6) D37_4 rfl, aw_aload_0 (pc2 := 7) D37_6 rfl, aw_iconst (pc2 := 8) (y := 0) D37_7 rfl (by decide), aw_putI (pc2 := 11) (ci := 2) (fk := 5) D37_8 rfl fT_2_27 rfl, aw_iconst (pc2 := 12) (y := 0) D37_11 rfl (by decide), aw_istore_5 (pc2 := 14) D37_12 rfl, refV_s, refV_n, psh_s, psh_n, kil_i, kil_r, kil_n, kil_l, cat_i, cat_r, iOK_1, iOK_5, jOK_2, jOK_6, wOK_e, lOK_1, lOK_2, lOK_3, lOK_4, lOK_5, lOK_6, catS_0, catS_1, catS_2, catS_3, catS_4, and_self, true_and, and_true, true_or, or_true, false_or, or_false, not_true_eq_false, not_false_eq_true, if_true, if_false, ite_int, ite_int0, au_10, eq_self, decide_true, decide_false, Bool.true_and, Bool.false_and, au_in, au_le, au_lt, au_eq, au_lt0, au_ge0, au_le0, au_gt0, au_eq0, au_leT, au_leF, au_ltT, au_ltF, au_eqT, au_eqF, nI_clamp, nI_1, nI_add, pk_mul, au_sub1, au_subc, au_up2e, au_up2n, lit_of, hq.2.1.1, hq.2.1.2.1, hq.2.1.2.2.1, hq.2.1.2.2.2.1, hq.2.1.2.2.2.2.1, hq.2.1.2.2.2.2.2, hq.2.2.1, hq.2.2.2.1, hq.2.2.2.2.1, hq.2.2.2.2.2.1, hq.2.2.2.2.2.2, C_denialOf, hden]
  have key : ∀ n i I', i + n = l.length → (∀ a, a ≠ q → a ≠ q + 1 → I' a = I a) → (∀ k, k ≠ 5 → I' q k = I q k) → I' q 5 = nI ((l.take i).foldl (tk1 s) []).length → lsA (q + 1) 0 ((l.take i).foldl (tk1 s) []) I' → (∀ j, i ≤ j → j < l.length → I' f j = nI (l.getD j 0)) → AW (d + 1) ((G0 Ln).1, (G0 Ln).2.1) K 37 14 [.ref q, .ref f, .int (nI l.length), .int (nI s), .int (nI (denN s)), .int (nI i)] [] (G0 Ln) I' J := by
    intro n
    induction n with
    | zero =>
      intro i I' hi ho o5 o55 ol of
      have e : i = l.length := by omega
      subst e
      rw [List.take_length] at o55 ol
      simp (disch := omega) only [aw_iload_5 (pc2 := 16) D37_14 rfl, aw_iload_2 (pc2 := 17) D37_16 rfl, aw_icmp_ge (pc2 := 20) (t := 55) D37_17 (by decide) rfl, aw_vret D37_55 rfl, refV_s, refV_n, psh_s, psh_n, kil_i, kil_r, kil_n, kil_l, cat_i, cat_r, iOK_1, iOK_5, jOK_2, jOK_6, wOK_e, lOK_1, lOK_2, lOK_3, lOK_4, lOK_5, lOK_6, catS_0, catS_1, catS_2, catS_3, catS_4, and_self, true_and, and_true, true_or, or_true, false_or, or_false, not_true_eq_false, not_false_eq_true, if_true, if_false, ite_int, ite_int0, au_10, eq_self, decide_true, decide_false, Bool.true_and, Bool.false_and, au_in, au_le, au_lt, au_eq, au_lt0, au_ge0, au_le0, au_gt0, au_eq0, au_leT, au_leF, au_ltT, au_ltF, au_eqT, au_eqF, nI_clamp, nI_1, nI_add, pk_mul, au_sub1, au_subc, au_up2e, au_up2n, lit_of]
      exact hk I' ho o5 o55 ol
    | succ n ih =>
      intro i I' hi ho o5 o55 ol of
      have hil : i < l.length := by omega
      have hc := (hl.2 _ (getD_mem hil))
      have hfi := of i (Nat.le_refl _) hil
      have ihn := ih (i + 1)
      rw [fold_take_succ s hil] at ihn
      have hal : ((l.take i).foldl (tk1 s) []).length ≤ i := by
        have := tk_fold_len s (l.take i) []
        rw [List.length_nil, List.length_take] at this
        omega
      have hax : ∀ x, x ∈ (l.take i).foldl (tk1 s) [] → x < 2 ^ 24 := fun x hx => by
        rcases (tk_fold_mem s x (l.take i) []).mp hx with h | ⟨c, h1, -, h3⟩
        · cases h
        · rw [h3]; exact (clC_sub (hl.2 c (List.mem_of_mem_take h1))).1
      have hn24 := (clC_sub (e := denN s) hc).1
      have hand : l.getD i 0 &&& s < 2 ^ 31 := Nat.lt_of_le_of_lt Nat.and_le_left (by have := hc.1; omega)
      rw [aw_iload_5 (pc2 := 16) D37_14 rfl]
      simp (disch := omega) only [aw_iload_2 (pc2 := 17) D37_16 rfl, aw_icmp_ge (pc2 := 20) (t := 55) D37_17 (by decide) rfl, aw_iload_5 (pc2 := 22) D37_20 rfl, aw_aload_1 (pc2 := 23) D37_22 rfl, aw_alen (pc2 := 24) D37_23 rfl, aw_icmp_ge (pc2 := 27) (t := 55) D37_24 (by decide) rfl, aw_aload_1 (pc2 := 28) D37_27 rfl, aw_iload_5 (pc2 := 30) D37_28 rfl, aw_iaload (pc2 := 31) D37_30 rfl, aw_iload_3 (pc2 := 32) D37_31 rfl, aw_iand (pc2 := 33) D37_32 rfl, aw_if_ne (pc2 := 36) (t := 49) D37_33 (by decide) rfl, refV_s, refV_n, psh_s, psh_n, kil_i, kil_r, kil_n, kil_l, cat_i, cat_r, iOK_1, iOK_5, jOK_2, jOK_6, wOK_e, lOK_1, lOK_2, lOK_3, lOK_4, lOK_5, lOK_6, catS_0, catS_1, catS_2, catS_3, catS_4, and_self, true_and, and_true, true_or, or_true, false_or, or_false, not_true_eq_false, not_false_eq_true, if_true, if_false, ite_int, ite_int0, au_10, eq_self, decide_true, decide_false, Bool.true_and, Bool.false_and, au_in, au_le, au_lt, au_eq, au_lt0, au_ge0, au_le0, au_gt0, au_eq0, au_leT, au_leF, au_ltT, au_ltF, au_eqT, au_eqF, nI_clamp, nI_1, nI_add, pk_mul, au_sub1, au_subc, au_up2e, au_up2n, lit_of, hf, hfi, fa_and]
      by_cases hz : l.getD i 0 &&& s = 0
      · rw [if_neg (fun z => z hz)]
        have ht1 : tk1 s ((l.take i).foldl (tk1 s) []) (l.getD i 0) = addU ((l.take i).foldl (tk1 s) []) (nclr (l.getD i 0) (denN s)) := by unfold tk1; rw [if_pos hz]
        rw [ht1] at ihn
        simp (disch := omega) only [aw_aload_0 (pc2 := 37) D37_36 rfl, aw_aload_1 (pc2 := 38) D37_37 rfl, aw_iload_5 (pc2 := 40) D37_38 rfl, aw_iaload (pc2 := 41) D37_40 rfl, aw_iload_4 (pc2 := 43) D37_41 rfl, aw_iconst (pc2 := 44) (y := -1) D37_43 rfl (by decide), aw_ixor (pc2 := 45) D37_44 rfl, aw_iand (pc2 := 46) D37_45 rfl, aw_iv1_0 (pc2 := 49) (o := 2) D37_46 rfl cT_2_48 rfl rfl, refV_s, refV_n, psh_s, psh_n, kil_i, kil_r, kil_n, kil_l, cat_i, cat_r, iOK_1, iOK_5, jOK_2, jOK_6, wOK_e, lOK_1, lOK_2, lOK_3, lOK_4, lOK_5, lOK_6, catS_0, catS_1, catS_2, catS_3, catS_4, and_self, true_and, and_true, true_or, or_true, false_or, or_false, not_true_eq_false, not_false_eq_true, if_true, if_false, ite_int, ite_int0, au_10, eq_self, decide_true, decide_false, Bool.true_and, Bool.false_and, au_in, au_le, au_lt, au_eq, au_lt0, au_ge0, au_le0, au_gt0, au_eq0, au_leT, au_leF, au_ltT, au_ltF, au_eqT, au_eqF, nI_clamp, nI_1, nI_add, pk_mul, au_sub1, au_subc, au_up2e, au_up2n, lit_of, hf, hfi, nI_nclr, hq.2.1.1, hq.2.1.2.1, hq.2.1.2.2.1, hq.2.1.2.2.2.1, hq.2.1.2.2.2.2.1, hq.2.1.2.2.2.2.2, hq.2.2.1, hq.2.2.2.1, hq.2.2.2.2.1, hq.2.2.2.2.2.1, hq.2.2.2.2.2.2]
        refine C_addUnlike hq hax hn24 (by omega) o55 ol (fun I'' p1 p2 p3 p4 p5 => ?_)
        simp (disch := omega) only [aw_iinc_5 (pc2 := 52) (y := 1) D37_49 rfl (by decide), aw_goto (t := 14) D37_52 (by decide), refV_s, refV_n, psh_s, psh_n, kil_i, kil_r, kil_n, kil_l, cat_i, cat_r, iOK_1, iOK_5, jOK_2, jOK_6, wOK_e, lOK_1, lOK_2, lOK_3, lOK_4, lOK_5, lOK_6, catS_0, catS_1, catS_2, catS_3, catS_4, and_self, true_and, and_true, true_or, or_true, false_or, or_false, not_true_eq_false, not_false_eq_true, if_true, if_false, ite_int, ite_int0, au_10, eq_self, decide_true, decide_false, Bool.true_and, Bool.false_and, au_in, au_le, au_lt, au_eq, au_lt0, au_ge0, au_le0, au_gt0, au_eq0, au_leT, au_leF, au_ltT, au_ltF, au_eqT, au_eqF, nI_clamp, nI_1, nI_add, pk_mul, au_sub1, au_subc, au_up2e, au_up2n, lit_of]
        refine ihn I'' (by omega) (fun a a1 a2 => by rw [p1 a a1 a2]; exact ho a a1 a2) (fun k hk2 => by rw [p2 k hk2]; exact o5 k hk2) p3 p4 (fun j hj hjl => ?_)
        by_cases efq : f = q + 1
        · subst efq
          rw [p5 j (by omega)]; exact of j (by omega) hjl
        · rw [p1 f hfq efq]; exact of j (by omega) hjl
      · rw [if_pos hz]
        have ht1 : tk1 s ((l.take i).foldl (tk1 s) []) (l.getD i 0) = (l.take i).foldl (tk1 s) [] := by unfold tk1; rw [if_neg hz]
        rw [ht1] at ihn
        simp (disch := omega) only [aw_iinc_5 (pc2 := 52) (y := 1) D37_49 rfl (by decide), aw_goto (t := 14) D37_52 (by decide), refV_s, refV_n, psh_s, psh_n, kil_i, kil_r, kil_n, kil_l, cat_i, cat_r, iOK_1, iOK_5, jOK_2, jOK_6, wOK_e, lOK_1, lOK_2, lOK_3, lOK_4, lOK_5, lOK_6, catS_0, catS_1, catS_2, catS_3, catS_4, and_self, true_and, and_true, true_or, or_true, false_or, or_false, not_true_eq_false, not_false_eq_true, if_true, if_false, ite_int, ite_int0, au_10, eq_self, decide_true, decide_false, Bool.true_and, Bool.false_and, au_in, au_le, au_lt, au_eq, au_lt0, au_ge0, au_le0, au_gt0, au_eq0, au_leT, au_leF, au_ltT, au_ltF, au_eqT, au_eqF, nI_clamp, nI_1, nI_add, pk_mul, au_sub1, au_subc, au_up2e, au_up2n, lit_of]
        exact ihn I' (by omega) ho o5 o55 ol (fun j hj hjl => of j (by omega) hjl)
  refine key l.length 0 _ (by omega) (fun a a1 a2 => au_up2c a1) (fun k hk2 => au_up2k hk2) ?_ (fun i hi => absurd hi (Nat.not_lt_zero _)) (fun j _ hj => ?_)
  · rw [au_up2]; rfl
  · rw [au_up2c hfq]; exact lsA_0 h1 hj
theorem C_load {f M s : Nat} {l : List Nat} (hq : LF Ln q) (hs : s = 0 ∨ ∃ p, p < 24 ∧ s = 2 ^ p) (hl : lsOK l) (hf : shp (G0 Ln) f = (1, M)) (hM : l.length ≤ M) (hM2 : M < 2 ^ 20) (hfq : f ≠ q) (h1 : lsA f 0 l I) (hk : ∀ I', (∀ a, a ≠ q → a ≠ q + 1 → I' a = I a) → I' q 7 = 0 → I' q 8 = 0 → I' q 5 = nI (tkS s l).length → lsA (q + 1) 0 (tkS s l) I' → K none (G0 Ln) I' J) : ACall (d + 3) 36 [.ref q, .ref f, .int (nI l.length), .int (nI s)] (G0 Ln) I J K := by
  rw [ACall_0 (L0 := [.ref q, .ref f, .int (nI l.length), .int (nI s)]) (show mcs 36 = (0, 0) from rfl) (show entL 36 [.ref q, .ref f, .int (nI l.length), .int (nI s)] = _ from rfl) rfl (Nat.le_of_ble_eq_true rfl)]
  simp (disch := omega) only [aw_aload_0 (pc2 := 1) D36_0 rfl, aw_iconst (pc2 := 2) (y := 0) D36_1 rfl (by decide), aw_putI (pc2 := 5) (ci := 2) (fk := 7) D36_2 rfl fT_2_34 rfl, aw_aload_0 (pc2 := 6) D36_5 rfl, aw_iconst (pc2 := 7) (y := 0) D36_6 rfl (by decide), aw_putI (pc2 := 10) (ci := 2) (fk := 8) D36_7 rfl fT_2_37 rfl, aw_aload_0 (pc2 := 11) D36_10 rfl, aw_aload_1 (pc2 := 12) D36_11 rfl, aw_iload_2 (pc2 := 13) D36_12 rfl, aw_iload_3 (pc2 := 14) D36_13 rfl, aw_iv3_0 (pc2 := 17) (o := 2) D36_14 rfl cT_2_40 rfl rfl, refV_s, refV_n, psh_s, psh_n, kil_i, kil_r, kil_n, kil_l, cat_i, cat_r, iOK_1, iOK_5, jOK_2, jOK_6, wOK_e, lOK_1, lOK_2, lOK_3, lOK_4, lOK_5, lOK_6, catS_0, catS_1, catS_2, catS_3, catS_4, and_self, true_and, and_true, true_or, or_true, false_or, or_false, not_true_eq_false, not_false_eq_true, if_true, if_false, ite_int, ite_int0, au_10, eq_self, decide_true, decide_false, Bool.true_and, Bool.false_and, au_in, au_le, au_lt, au_eq, au_lt0, au_ge0, au_le0, au_gt0, au_eq0, au_leT, au_leF, au_ltT, au_ltF, au_eqT, au_eqF, nI_clamp, nI_1, nI_add, pk_mul, au_sub1, au_subc, au_up2e, au_up2n, lit_of, hq.2.1.1, hq.2.1.2.1, hq.2.1.2.2.1, hq.2.1.2.2.2.1, hq.2.1.2.2.2.2.1, hq.2.1.2.2.2.2.2, hq.2.2.1, hq.2.2.2.1, hq.2.2.2.2.1, hq.2.2.2.2.2.1, hq.2.2.2.2.2.2]
  refine C_take hq hs hl hf hM hM2 hfq (fun i hi => ?_) (fun I' p1 p2 p3 p4 => ?_)
  · rw [au_up2c hfq, au_up2c hfq]; exact h1 i hi
  · simp (disch := omega) only [aw_vret D36_17 rfl, refV_s, refV_n, psh_s, psh_n, kil_i, kil_r, kil_n, kil_l, cat_i, cat_r, iOK_1, iOK_5, jOK_2, jOK_6, wOK_e, lOK_1, lOK_2, lOK_3, lOK_4, lOK_5, lOK_6, catS_0, catS_1, catS_2, catS_3, catS_4, and_self, true_and, and_true, true_or, or_true, false_or, or_false, not_true_eq_false, not_false_eq_true, if_true, if_false, ite_int, ite_int0, au_10, eq_self, decide_true, decide_false, Bool.true_and, Bool.false_and, au_in, au_le, au_lt, au_eq, au_lt0, au_ge0, au_le0, au_gt0, au_eq0, au_leT, au_leF, au_ltT, au_ltF, au_eqT, au_eqF, nI_clamp, nI_1, nI_add, pk_mul, au_sub1, au_subc, au_up2e, au_up2n, lit_of]
    refine hk I' (fun a a1 a2 => by rw [p1 a a1 a2, au_up2c a1, au_up2c a1]) ?_ ?_ p3 p4
    · rw [p2 7 (by omega)]; simp (disch := omega) only [au_up2n, au_up2e]
    · rw [p2 8 (by omega)]; simp (disch := omega) only [au_up2n, au_up2e]
theorem C_takeLone {l : List Nat} (hq : LF Ln q) (hl : lsOK l) (h5 : I q 5 = nI l.length) (h1 : lsA (q + 1) 0 l I) (h7 : I q 7 = 0) (hk0 : ∀ I', (∀ a, a ≠ q → a ≠ q + 1 → a ≠ q + 4 → I' a = I a) → sim 13 l [] = none → K (some (.int 0)) (G0 Ln) I' J) (hk1 : ∀ I' l' t', (∀ a, a ≠ q → a ≠ q + 1 → a ≠ q + 4 → I' a = I a) → sim 13 l [] = some (l', t') → I' q 8 = I q 8 → I' q 5 = nI l'.length → lsA (q + 1) 0 l' I' → I' q 7 = nI t'.length → lsA (q + 4) 0 t' I' → K (some (.int 1)) (G0 Ln) I' J) : ACall (d + 3) 39 [.ref q] (G0 Ln) I J K := by
  rw [ACall_0 (L0 := [.ref q, nv, nv]) (show mcs 39 = (0, 0) from rfl) (show entL 39 [.ref q] = _ from rfl) rfl (Nat.le_of_ble_eq_true rfl)]
  simp only [aw_iconst (pc2 := 1) (y := 0) D39_0 rfl (by decide), aw_istore_1 (pc2 := 2) D39_1 rfl, lit_12, refV_s, refV_n, psh_s, psh_n, kil_i, kil_r, kil_n, kil_l, cat_i, cat_r, iOK_1, iOK_5, jOK_2, jOK_6, wOK_e, lOK_1, lOK_2, lOK_3, lOK_4, lOK_5, lOK_6, catS_0, catS_1, catS_2, catS_3, catS_4, and_self, true_and, and_true, true_or, or_true, false_or, or_false, not_true_eq_false, not_false_eq_true, if_true, if_false, ite_int, ite_int0, au_10, eq_self, decide_true, decide_false, Bool.true_and, Bool.false_and]
  have hlc := lc_le (l := l)
  have key : ∀ n m t i I' v, i + n = 13 → kil v = v → lsOK m → lc m < n → t.length + lc m ≤ 12 → (∀ s, s ∈ t → ∃ p, p < 24 ∧ s = 2 ^ p) → sim 13 l [] = sim n m t → (∀ a, a ≠ q → a ≠ q + 1 → a ≠ q + 4 → I' a = I a) → I' q 8 = I q 8 → I' q 5 = nI m.length → lsA (q + 1) 0 m I' → I' q 7 = nI t.length → lsA (q + 4) 0 t I' → AW (d + 2) ((G0 Ln).1, (G0 Ln).2.1) K 39 2 [.ref q, .int (nI i), v] [] (G0 Ln) I' J := by
    intro n
    induction n with
    | zero => intro m t i I' v _ _ _ hlt; exact absurd hlt (Nat.not_lt_zero _)
    | succ n ih =>
      intro m t i I' v hi hv hm hlt htl ht hsim ho o8 o5 ol o7 ot
      have hst : sim (n + 1) m t = (if 0 ∈ m then none else (match lone m with
        | none => some (m, t)
        | some s => sim n (tkS s m) (t ++ [s]))) := rfl
      rw [hst] at hsim
      rw [aw_iload_1 (pc2 := 3) D39_2 rfl]
      simp (disch := omega) only [aw_bipush (pc2 := 5) (y := 12) D39_3 rfl (by decide), aw_icmp_gt (pc2 := 8) (t := 79) D39_5 (by decide) rfl, aw_aload_0 (pc2 := 9) D39_8 rfl, aw_iv0_0 (pc2 := 12) (o := 2) D39_9 rfl cT_2_52 rfl rfl, aw_if_eq (pc2 := 15) (t := 17) D39_12 (by decide) rfl, lit_12, refV_s, refV_n, psh_s, psh_n, kil_i, kil_r, kil_n, kil_l, cat_i, cat_r, iOK_1, iOK_5, jOK_2, jOK_6, wOK_e, lOK_1, lOK_2, lOK_3, lOK_4, lOK_5, lOK_6, catS_0, catS_1, catS_2, catS_3, catS_4, and_self, true_and, and_true, true_or, or_true, false_or, or_false, not_true_eq_false, not_false_eq_true, if_true, if_false, ite_int, ite_int0, au_10, eq_self, decide_true, decide_false, Bool.true_and, Bool.false_and, au_in, au_le, au_lt, au_eq, au_lt0, au_ge0, au_le0, au_gt0, au_eq0, au_leT, au_leF, au_ltT, au_ltF, au_eqT, au_eqF, nI_clamp, nI_1, nI_add, pk_mul, au_sub1, au_subc, au_up2e, au_up2n, lit_of, hq.2.1.1, hq.2.1.2.1, hq.2.1.2.2.1, hq.2.1.2.2.2.1, hq.2.1.2.2.2.2.1, hq.2.1.2.2.2.2.2, hq.2.2.1, hq.2.2.2.1, hq.2.2.2.2.1, hq.2.2.2.2.2.1, hq.2.2.2.2.2.2, C_hasCW hq hm o5 ol, bI_0]
      by_cases h0 : 0 ∈ m
      · rw [if_pos h0] at hsim
        rw [decide_eq_true h0, if_neg (by decide)]
        simp (disch := omega) only [aw_iconst (pc2 := 16) (y := 0) D39_15 rfl (by decide), aw_zret D39_16 rfl, lit_12, refV_s, refV_n, psh_s, psh_n, kil_i, kil_r, kil_n, kil_l, cat_i, cat_r, iOK_1, iOK_5, jOK_2, jOK_6, wOK_e, lOK_1, lOK_2, lOK_3, lOK_4, lOK_5, lOK_6, catS_0, catS_1, catS_2, catS_3, catS_4, and_self, true_and, and_true, true_or, or_true, false_or, or_false, not_true_eq_false, not_false_eq_true, if_true, if_false, ite_int, ite_int0, au_10, eq_self, decide_true, decide_false, Bool.true_and, Bool.false_and, au_in, au_le, au_lt, au_eq, au_lt0, au_ge0, au_le0, au_gt0, au_eq0, au_leT, au_leF, au_ltT, au_ltF, au_eqT, au_eqF, nI_clamp, nI_1, nI_add, pk_mul, au_sub1, au_subc, au_up2e, au_up2n, lit_of]
        exact hk0 I' ho hsim
      · rw [if_neg h0] at hsim
        rw [decide_eq_false h0, if_pos rfl]
        simp (disch := omega) only [aw_aload_0 (pc2 := 18) D39_17 rfl, aw_iv0_0 (pc2 := 21) (o := 2) D39_18 rfl cT_2_56 rfl rfl, aw_istore_2 (pc2 := 22) D39_21 rfl, aw_iload_2 (pc2 := 23) D39_22 rfl, aw_if_ne (pc2 := 26) (t := 28) D39_23 (by decide) rfl, lit_12, refV_s, refV_n, psh_s, psh_n, kil_i, kil_r, kil_n, kil_l, cat_i, cat_r, iOK_1, iOK_5, jOK_2, jOK_6, wOK_e, lOK_1, lOK_2, lOK_3, lOK_4, lOK_5, lOK_6, catS_0, catS_1, catS_2, catS_3, catS_4, and_self, true_and, and_true, true_or, or_true, false_or, or_false, not_true_eq_false, not_false_eq_true, if_true, if_false, ite_int, ite_int0, au_10, eq_self, decide_true, decide_false, Bool.true_and, Bool.false_and, au_in, au_le, au_lt, au_eq, au_lt0, au_ge0, au_le0, au_gt0, au_eq0, au_leT, au_leF, au_ltT, au_ltF, au_eqT, au_eqF, nI_clamp, nI_1, nI_add, pk_mul, au_sub1, au_subc, au_up2e, au_up2n, lit_of, hq.2.1.1, hq.2.1.2.1, hq.2.1.2.2.1, hq.2.1.2.2.2.1, hq.2.1.2.2.2.2.1, hq.2.1.2.2.2.2.2, hq.2.2.1, hq.2.2.2.1, hq.2.2.2.2.1, hq.2.2.2.2.2.1, hq.2.2.2.2.2.2, C_firstLone hq hm o5 ol, hv]
        cases e : lone m with
        | none =>
          rw [e] at hsim
          have eI : loneI m = 0 := by unfold loneI; rw [e]
          simp (disch := omega) only [aw_iconst (pc2 := 27) (y := 1) D39_26 rfl (by decide), aw_zret D39_27 rfl, lit_12, refV_s, refV_n, psh_s, psh_n, kil_i, kil_r, kil_n, kil_l, cat_i, cat_r, iOK_1, iOK_5, jOK_2, jOK_6, wOK_e, lOK_1, lOK_2, lOK_3, lOK_4, lOK_5, lOK_6, catS_0, catS_1, catS_2, catS_3, catS_4, and_self, true_and, and_true, true_or, or_true, false_or, or_false, not_true_eq_false, not_false_eq_true, if_true, if_false, ite_int, ite_int0, au_10, eq_self, decide_true, decide_false, Bool.true_and, Bool.false_and, au_in, au_le, au_lt, au_eq, au_lt0, au_ge0, au_le0, au_gt0, au_eq0, au_leT, au_leF, au_ltT, au_ltF, au_eqT, au_eqF, nI_clamp, nI_1, nI_add, pk_mul, au_sub1, au_subc, au_up2e, au_up2n, lit_of, eI]
          exact hk1 I' m t ho hsim o8 o5 ol o7 ot
        | some s =>
          rw [e] at hsim
          obtain ⟨hsm, p, hp, hs⟩ := lone_some hm e
          have hs24 := (hm.2 s hsm).1
          have hs0 : s ≠ 0 := by rw [hs]; exact Nat.ne_of_gt (Nat.two_pow_pos p)
          have eI : loneI m = nI s := by unfold loneI; rw [e]
          have hd : lc (tkS s m) + 1 ≤ lc m := by rw [hs]; exact tk_lc hp (lone_lt hp (hs ▸ hsm))
          simp (disch := omega) only [aw_aload_0 (pc2 := 29) D39_28 rfl, aw_getI (pc2 := 32) (ci := 2) (fk := 7) D39_29 rfl fT_2_34 rfl, aw_aload_0 (pc2 := 33) D39_32 rfl, aw_getR (pc2 := 36) (ci := 2) (fk := 3) D39_33 rfl fT_2_21 rfl, aw_alen (pc2 := 37) D39_36 rfl, aw_icmp_ge (pc2 := 40) (t := 60) D39_37 (by decide) rfl, aw_aload_0 (pc2 := 41) D39_40 rfl, aw_getR (pc2 := 44) (ci := 2) (fk := 3) D39_41 rfl fT_2_21 rfl, aw_aload_0 (pc2 := 45) D39_44 rfl, aw_getI (pc2 := 48) (ci := 2) (fk := 7) D39_45 rfl fT_2_34 rfl, aw_iload_2 (pc2 := 49) D39_48 rfl, aw_iastore (pc2 := 50) D39_49 rfl, aw_aload_0 (pc2 := 51) D39_50 rfl, aw_dup (pc2 := 52) D39_51 rfl, aw_getI (pc2 := 55) (ci := 2) (fk := 7) D39_52 rfl fT_2_34 rfl, aw_iconst (pc2 := 56) (y := 1) D39_55 rfl (by decide), aw_iadd (pc2 := 57) D39_56 rfl, aw_putI (pc2 := 60) (ci := 2) (fk := 7) D39_57 rfl fT_2_34 rfl, aw_aload_0 (pc2 := 61) D39_60 rfl, aw_aload_0 (pc2 := 62) D39_61 rfl, aw_getR (pc2 := 65) (ci := 2) (fk := 0) D39_62 rfl fT_2_9 rfl, aw_aload_0 (pc2 := 66) D39_65 rfl, aw_getI (pc2 := 69) (ci := 2) (fk := 5) D39_66 rfl fT_2_27 rfl, aw_iload_2 (pc2 := 70) D39_69 rfl, aw_iv3_0 (pc2 := 73) (o := 2) D39_70 rfl cT_2_40 rfl rfl, lit_12, refV_s, refV_n, psh_s, psh_n, kil_i, kil_r, kil_n, kil_l, cat_i, cat_r, iOK_1, iOK_5, jOK_2, jOK_6, wOK_e, lOK_1, lOK_2, lOK_3, lOK_4, lOK_5, lOK_6, catS_0, catS_1, catS_2, catS_3, catS_4, and_self, true_and, and_true, true_or, or_true, false_or, or_false, not_true_eq_false, not_false_eq_true, if_true, if_false, ite_int, ite_int0, au_10, eq_self, decide_true, decide_false, Bool.true_and, Bool.false_and, au_in, au_le, au_lt, au_eq, au_lt0, au_ge0, au_le0, au_gt0, au_eq0, au_leT, au_leF, au_ltT, au_ltF, au_eqT, au_eqF, nI_clamp, nI_1, nI_add, pk_mul, au_sub1, au_subc, au_up2e, au_up2n, lit_of, hq.2.1.1, hq.2.1.2.1, hq.2.1.2.2.1, hq.2.1.2.2.2.1, hq.2.1.2.2.2.2.1, hq.2.1.2.2.2.2.2, hq.2.2.1, hq.2.2.2.1, hq.2.2.2.2.1, hq.2.2.2.2.2.1, hq.2.2.2.2.2.2, eI, hs0, o7, o5]
          have ol2 : lsA (q + 1) 0 m (up2 (up2 I' (q + 4) t.length (nI s)) q 7 (nI (t.length + 1))) := fun j hj => by
            simp (disch := omega) only [au_up2n]; exact ol j hj
          refine C_take (f := q + 1) (M := 40) hq (Or.inr ⟨p, hp, hs⟩) hm hq.2.1.2.1 hm.1 (by decide) (by omega) ol2 (fun I'' p1 p2 p3 p4 => ?_)
          simp (disch := omega) only [aw_iinc_1 (pc2 := 76) (y := 1) D39_73 rfl (by decide), aw_goto (t := 2) D39_76 (by decide), lit_12, refV_s, refV_n, psh_s, psh_n, kil_i, kil_r, kil_n, kil_l, cat_i, cat_r, iOK_1, iOK_5, jOK_2, jOK_6, wOK_e, lOK_1, lOK_2, lOK_3, lOK_4, lOK_5, lOK_6, catS_0, catS_1, catS_2, catS_3, catS_4, and_self, true_and, and_true, true_or, or_true, false_or, or_false, not_true_eq_false, not_false_eq_true, if_true, if_false, ite_int, ite_int0, au_10, eq_self, decide_true, decide_false, Bool.true_and, Bool.false_and, au_in, au_le, au_lt, au_eq, au_lt0, au_ge0, au_le0, au_gt0, au_eq0, au_leT, au_leF, au_ltT, au_ltF, au_eqT, au_eqF, nI_clamp, nI_1, nI_add, pk_mul, au_sub1, au_subc, au_up2e, au_up2n, lit_of]
          refine ih (tkS s m) (t ++ [s]) (i + 1) I'' _ (by omega) rfl (tk_ok hm) (by omega) (by rw [List.length_append, List.length_singleton]; omega) (fun s' hs' => ?_) hsim (fun a a1 a2 a3 => ?_) ?_ p3 p4 ?_ (fun j hj => ?_)
          · rcases List.mem_append.mp hs' with z | z
            · exact ht s' z
            · rw [List.mem_singleton] at z; exact ⟨p, hp, z.trans hs⟩
          · rw [p1 a a1 a2, au_up2c a1, au_up2c a3]; exact ho a a1 a2 a3
          · rw [p2 8 (by omega)]; simp (disch := omega) only [au_up2n]; exact o8
          · rw [p2 7 (by omega), List.length_append, List.length_singleton, au_up2]
          · rw [List.length_append, List.length_singleton] at hj
            rw [p1 (q + 4) (by omega) (by omega), Nat.zero_add, get_snoc hj]
            by_cases ej : j = t.length
            · simp (disch := omega) only [ej, au_up2e, au_up2n, if_true]
            · simp (disch := omega) only [ej, au_up2n, if_false]
              exact lsA_0 ot (by omega)
  exact key 13 l [] 0 I nv rfl rfl hl (by omega) (by rw [List.length_nil]; omega) (fun s hs => by cases hs) rfl (fun _ _ _ _ => rfl) rfl h5 h1 h7 (fun i hi => absurd hi (Nat.not_lt_zero _))
end Level
