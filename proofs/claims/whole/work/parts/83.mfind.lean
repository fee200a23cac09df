/-! the model: pieces are found -/
theorem mk_ge {o : Option Nat} (ho : ∀ j, o = some j → j < 2 ^ 31) : ((0 : Int32) ≤ mkI o) = (o ≠ none) := by
  cases o with
  | none => rw [show mkI none = -1 from rfl, m1_ge]; exact (eq_false (fun h => h rfl)).symm
  | some j => rw [show mkI (some j) = nI j from rfl, au_ge0 (ho j rfl)]; exact (eq_true (fun h => by cases h)).symm
theorem mk_lt {o : Option Nat} (ho : ∀ j, o = some j → j < 2 ^ 31) : (mkI o < (0 : Int32)) = (o = none) := by
  cases o with
  | none => rw [show mkI none = -1 from rfl, m1_lt]; exact (eq_true rfl).symm
  | some j => rw [show mkI (some j) = nI j from rfl, au_lt0 (ho j rfl)]; exact (eq_false (fun h => by cases h)).symm
def unm (f n : Nat) (I : IT) : Nat := fb_ct (fun j => decide (I 145 (40 * f + j) = -1)) n
section MFind
variable {d Ln f : Nat} {I : IT} {J : JT} {K : KT}
theorem M_findPieces {l : List Nat} (hf : f < 14) (hl : lsOK l) (hz : ∀ c, c ∈ l → ltN c ≠ 0) (h5 : I 142 f = nI l.length) (h1 : lsA 141 (40 * f) l I) (hK : ∀ I' m, fS (chP f) I I' → mkOK l m (pcs l.length l).length l.length → (∀ i, i < l.length → I' 145 (40 * f + i) = mkI (m i)) → I' 146 f = nI (pcs l.length l).length → K none (G0 Ln) I' J) : ACall (d + 2) 151 [.ref 122, .int (nI f)] (G0 Ln) I J K := by
  rw [ACall_0 (L0 := [.ref 122, .int (nI f), nv, nv, nv, nv, nv]) (show mcs 151 = (0, 0) from rfl) (show entL 151 [.ref 122, .int (nI f)] = _ from rfl) rfl (Nat.le_of_ble_eq_true rfl)]
  have h40 := hl.1
  have hlet : ∀ i, i < l.length → letC (nI (l.getD i 0)) = nI (ltN (l.getD i 0)) := fun i hi => letC_nI (hl.2 _ (getD_mem hi)).1
  have hlt : ∀ i, ltN (l.getD i 0) < 4096 := fun i => ltN_lt _
  simp (disch := omega) only [aw_bipush (pc2 := 2) (y := 40) D151_0 rfl (by decide), aw_iload_1 (pc2 := 3) D151_2 rfl, aw_imul (pc2 := 4) D151_3 rfl, aw_istore_2 (pc2 := 5) D151_4 rfl, aw_aload_0 (pc2 := 6) D151_5 rfl, aw_getR (pc2 := 9) (ci := 7) (fk := 24) D151_6 rfl fT_7_80 rfl, aw_iload_1 (pc2 := 10) D151_9 rfl, aw_iconst (pc2 := 11) (y := 0) D151_10 rfl (by decide), aw_iastore (pc2 := 12) D151_11 rfl, aw_iload_2 (pc2 := 13) D151_12 rfl, aw_istore_3 (pc2 := 14) D151_13 rfl, sh_122, lit_40, rf_122_24, sh_146, rf_122_20, sh_142, rf_122_23, sh_145, rf_122_19, sh_141, refV_s, refV_n, psh_s, psh_n, kil_i, kil_r, kil_n, kil_l, cat_i, cat_r, iOK_1, iOK_5, jOK_2, jOK_6, wOK_e, lOK_1, lOK_2, lOK_3, lOK_4, lOK_5, lOK_6, catS_0, catS_1, catS_2, catS_3, catS_4, and_self, true_and, and_true, true_or, or_true, false_or, or_false, not_true_eq_false, not_false_eq_true, if_true, if_false, ite_int, ite_int0, au_10, eq_self, decide_true, decide_false, Bool.true_and, Bool.false_and, au_in, au_le, au_lt, au_eq, au_lt0, au_ge0, au_le0, au_gt0, au_eq0, au_leT, au_leF, au_ltT, au_ltF, au_eqT, au_eqF, nI_clamp, nI_1, nI_add, pk_mul, au_sub1, au_subc, au_up2e, au_up2n, lit_of]
  have fill : ∀ n i I', i + n = l.length → fS (chP f) I I' → I' 146 f = 0 → (∀ j, j < i → I' 145 (40 * f + j) = -1) → (∀ I'', fS (chP f) I I'' → I'' 146 f = 0 → (∀ j, j < l.length → I'' 145 (40 * f + j) = -1) → ∀ v3, kil v3 = v3 → AW (d + 1) ((G0 Ln).1, (G0 Ln).2.1) K 151 39 [.ref 122, .int (nI f), .int (nI (40 * f)), v3, nv, nv, nv] [] (G0 Ln) I'' J) → AW (d + 1) ((G0 Ln).1, (G0 Ln).2.1) K 151 14 [.ref 122, .int (nI f), .int (nI (40 * f)), .int (nI (40 * f + i)), nv, nv, nv] [] (G0 Ln) I' J := by
    intro n
    induction n with
    | zero =>
      intro i I' hi ho h6 hj hend
      have e : i = l.length := by omega
      subst e
      simp (disch := omega) only [aw_iload_3 (pc2 := 15) D151_14 rfl, aw_iload_2 (pc2 := 16) D151_15 rfl, aw_aload_0 (pc2 := 17) D151_16 rfl, aw_getR (pc2 := 20) (ci := 7) (fk := 20) D151_17 rfl fT_7_68 rfl, aw_iload_1 (pc2 := 21) D151_20 rfl, aw_iaload (pc2 := 22) D151_21 rfl, aw_iadd (pc2 := 23) D151_22 rfl, aw_icmp_ge (pc2 := 26) (t := 39) D151_23 (by decide) rfl, sh_122, lit_40, rf_122_24, sh_146, rf_122_20, sh_142, rf_122_23, sh_145, rf_122_19, sh_141, refV_s, refV_n, psh_s, psh_n, kil_i, kil_r, kil_n, kil_l, cat_i, cat_r, iOK_1, iOK_5, jOK_2, jOK_6, wOK_e, lOK_1, lOK_2, lOK_3, lOK_4, lOK_5, lOK_6, catS_0, catS_1, catS_2, catS_3, catS_4, and_self, true_and, and_true, true_or, or_true, false_or, or_false, not_true_eq_false, not_false_eq_true, if_true, if_false, ite_int, ite_int0, au_10, eq_self, decide_true, decide_false, Bool.true_and, Bool.false_and, au_in, au_le, au_lt, au_eq, au_lt0, au_ge0, au_le0, au_gt0, au_eq0, au_leT, au_leF, au_ltT, au_ltF, au_eqT, au_eqF, nI_clamp, nI_1, nI_add, pk_mul, au_sub1, au_subc, au_up2e, au_up2n, lit_of, ho 142 f (by unfold chP; omega), h5]
      exact hend I' ho h6 hj _ rfl
    | succ n ih =>
      intro i I' hi ho h6 hj hend
      have ihn := ih (i + 1)
      rw [aw_iload_3 (pc2 := 15) D151_14 rfl]
      simp (disch := omega) only [aw_iload_2 (pc2 := 16) D151_15 rfl, aw_aload_0 (pc2 := 17) D151_16 rfl, aw_getR (pc2 := 20) (ci := 7) (fk := 20) D151_17 rfl fT_7_68 rfl, aw_iload_1 (pc2 := 21) D151_20 rfl, aw_iaload (pc2 := 22) D151_21 rfl, aw_iadd (pc2 := 23) D151_22 rfl, aw_icmp_ge (pc2 := 26) (t := 39) D151_23 (by decide) rfl, aw_aload_0 (pc2 := 27) D151_26 rfl, aw_getR (pc2 := 30) (ci := 7) (fk := 23) D151_27 rfl fT_7_77 rfl, aw_iload_3 (pc2 := 31) D151_30 rfl, aw_iconst (pc2 := 32) (y := -1) D151_31 rfl (by decide), aw_iastore (pc2 := 33) D151_32 rfl, aw_iinc_3 (pc2 := 36) (y := 1) D151_33 rfl (by decide), aw_goto (t := 14) D151_36 (by decide), sh_122, lit_40, rf_122_24, sh_146, rf_122_20, sh_142, rf_122_23, sh_145, rf_122_19, sh_141, refV_s, refV_n, psh_s, psh_n, kil_i, kil_r, kil_n, kil_l, cat_i, cat_r, iOK_1, iOK_5, jOK_2, jOK_6, wOK_e, lOK_1, lOK_2, lOK_3, lOK_4, lOK_5, lOK_6, catS_0, catS_1, catS_2, catS_3, catS_4, and_self, true_and, and_true, true_or, or_true, false_or, or_false, not_true_eq_false, not_false_eq_true, if_true, if_false, ite_int, ite_int0, au_10, eq_self, decide_true, decide_false, Bool.true_and, Bool.false_and, au_in, au_le, au_lt, au_eq, au_lt0, au_ge0, au_le0, au_gt0, au_eq0, au_leT, au_leF, au_ltT, au_ltF, au_eqT, au_eqF, nI_clamp, nI_1, nI_add, pk_mul, au_sub1, au_subc, au_up2e, au_up2n, lit_of, ho 142 f (by unfold chP; omega), h5]
      refine ihn _ (by omega) (ho.tr (fS.up (by unfold chP; omega))) (by simp (disch := omega) only [au_up2n]; exact h6) (fun j hj2 => ?_) hend
      by_cases e : j = i
      · simp (disch := omega) only [e, au_up2e]
      · simp (disch := omega) only [au_up2n]; exact hj j (by omega)
  refine fill l.length 0 _ (by omega) (fS.up (by unfold chP; omega)) (au_up2e ⟨rfl, rfl⟩) (fun j hj => absurd hj (Nat.not_lt_zero _)) (fun I1 o1 m6 m1 v3 hv3 => ?_)
  simp (disch := omega) only [aw_iload_2 (pc2 := 40) D151_39 rfl, aw_istore_3 (pc2 := 41) D151_40 rfl, sh_122, lit_40, rf_122_24, sh_146, rf_122_20, sh_142, rf_122_23, sh_145, rf_122_19, sh_141, refV_s, refV_n, psh_s, psh_n, kil_i, kil_r, kil_n, kil_l, cat_i, cat_r, iOK_1, iOK_5, jOK_2, jOK_6, wOK_e, lOK_1, lOK_2, lOK_3, lOK_4, lOK_5, lOK_6, catS_0, catS_1, catS_2, catS_3, catS_4, and_self, true_and, and_true, true_or, or_true, false_or, or_false, not_true_eq_false, not_false_eq_true, if_true, if_false, ite_int, ite_int0, au_10, eq_self, decide_true, decide_false, Bool.true_and, Bool.false_and, au_in, au_le, au_lt, au_eq, au_lt0, au_ge0, au_le0, au_gt0, au_eq0, au_leT, au_leF, au_ltT, au_ltF, au_eqT, au_eqF, nI_clamp, nI_1, nI_add, pk_mul, au_sub1, au_subc, au_up2e, au_up2n, lit_of, hv3]
  have key : ∀ fu k n m I' v4 v5 v6, kil v4 = v4 → kil v5 = v5 → kil v6 = v6 → k + fu = l.length → mkOK l m n k → n ≤ k → fS (chP f) I I' → I' 146 f = nI n → (∀ i, i < l.length → I' 145 (40 * f + i) = mkI (m i)) → AW (d + 1) ((G0 Ln).1, (G0 Ln).2.1) K 151 41 [.ref 122, .int (nI f), .int (nI (40 * f)), .int (nI (40 * f + k)), v4, v5, v6] [] (G0 Ln) I' J := by
    intro fu
    induction fu with
    | zero =>
      intro k n m I' v4 v5 v6 k4 k5 k6 hk hm hnk ho h6 hi
      have e : k = l.length := by omega
      subst e
      have hlen : (pcs l.length l).length = n := by
        have h2 := hm.2.1
        have hu : selL l (fun i => isN (m i)) = [] := by
          cases e : selL l (fun i => isN (m i)) with
          | nil => rfl
          | cons c r =>
            exfalso
            obtain ⟨i, hi2, hn, -⟩ := selL_mem.mp (show c ∈ selL l (fun i => isN (m i)) by rw [e]; exact List.mem_cons_self ..)
            exact hm.1 i hi2 hi2 (isN_iff.mp hn)
        have hp : pcs l.length ([] : List Nat) = [] := by cases l.length <;> rfl
        rw [hu, hp, List.append_nil] at h2
        rw [h2, List.length_map, List.length_range]
      rw [← hlen] at hm h6
      simp (disch := omega) only [aw_iload_3 (pc2 := 42) D151_41 rfl, aw_iload_2 (pc2 := 43) D151_42 rfl, aw_aload_0 (pc2 := 44) D151_43 rfl, aw_getR (pc2 := 47) (ci := 7) (fk := 20) D151_44 rfl fT_7_68 rfl, aw_iload_1 (pc2 := 48) D151_47 rfl, aw_iaload (pc2 := 49) D151_48 rfl, aw_iadd (pc2 := 50) D151_49 rfl, aw_icmp_ge (pc2 := 53) (t := 188) D151_50 (by decide) rfl, aw_vret D151_188 rfl, sh_122, lit_40, rf_122_24, sh_146, rf_122_20, sh_142, rf_122_23, sh_145, rf_122_19, sh_141, refV_s, refV_n, psh_s, psh_n, kil_i, kil_r, kil_n, kil_l, cat_i, cat_r, iOK_1, iOK_5, jOK_2, jOK_6, wOK_e, lOK_1, lOK_2, lOK_3, lOK_4, lOK_5, lOK_6, catS_0, catS_1, catS_2, catS_3, catS_4, and_self, true_and, and_true, true_or, or_true, false_or, or_false, not_true_eq_false, not_false_eq_true, if_true, if_false, ite_int, ite_int0, au_10, eq_self, decide_true, decide_false, Bool.true_and, Bool.false_and, au_in, au_le, au_lt, au_eq, au_lt0, au_ge0, au_le0, au_gt0, au_eq0, au_leT, au_leF, au_ltT, au_ltF, au_eqT, au_eqF, nI_clamp, nI_1, nI_add, pk_mul, au_sub1, au_subc, au_up2e, au_up2n, lit_of, ho 142 f (by unfold chP; omega), h5]
      exact hK I' m ho hm hi h6
    | succ fu ih =>
      intro k n m I' v4 v5 v6 k4 k5 k6 hk hm hnk ho h6 hi
      have hkl : k < l.length := by omega
      have hmb : ∀ i j, i < l.length → m i = some j → j < 2 ^ 31 := fun i j hi hj => by have := hm.2.2.2 i j hi hj; omega
      have ihn := ih (k + 1)
      have hik := hi k hkl
      have hkx := h1 k hkl
      rw [aw_iload_3 (pc2 := 42) D151_41 rfl]
      simp (disch := omega) only [aw_iload_2 (pc2 := 43) D151_42 rfl, aw_aload_0 (pc2 := 44) D151_43 rfl, aw_getR (pc2 := 47) (ci := 7) (fk := 20) D151_44 rfl fT_7_68 rfl, aw_iload_1 (pc2 := 48) D151_47 rfl, aw_iaload (pc2 := 49) D151_48 rfl, aw_iadd (pc2 := 50) D151_49 rfl, aw_icmp_ge (pc2 := 53) (t := 188) D151_50 (by decide) rfl, aw_aload_0 (pc2 := 54) D151_53 rfl, aw_getR (pc2 := 57) (ci := 7) (fk := 23) D151_54 rfl fT_7_77 rfl, aw_iload_3 (pc2 := 58) D151_57 rfl, aw_iaload (pc2 := 59) D151_58 rfl, aw_if_lt (pc2 := 62) (t := 65) D151_59 (by decide) rfl, sh_122, lit_40, rf_122_24, sh_146, rf_122_20, sh_142, rf_122_23, sh_145, rf_122_19, sh_141, refV_s, refV_n, psh_s, psh_n, kil_i, kil_r, kil_n, kil_l, cat_i, cat_r, iOK_1, iOK_5, jOK_2, jOK_6, wOK_e, lOK_1, lOK_2, lOK_3, lOK_4, lOK_5, lOK_6, catS_0, catS_1, catS_2, catS_3, catS_4, and_self, true_and, and_true, true_or, or_true, false_or, or_false, not_true_eq_false, not_false_eq_true, if_true, if_false, ite_int, ite_int0, au_10, eq_self, decide_true, decide_false, Bool.true_and, Bool.false_and, au_in, au_le, au_lt, au_eq, au_lt0, au_ge0, au_le0, au_gt0, au_eq0, au_leT, au_leF, au_ltT, au_ltF, au_eqT, au_eqF, nI_clamp, nI_1, nI_add, pk_mul, au_sub1, au_subc, au_up2e, au_up2n, lit_of, ho 142 f (by unfold chP; omega), h5, hik, mk_lt (hmb k · hkl)]
      cases e : m k with
      | some j =>
        rw [if_neg (fun z => by cases z)]
        simp (disch := omega) only [aw_goto (t := 182) D151_62 (by decide), aw_iinc_3 (pc2 := 185) (y := 1) D151_182 rfl (by decide), aw_goto (t := 41) D151_185 (by decide), sh_122, lit_40, rf_122_24, sh_146, rf_122_20, sh_142, rf_122_23, sh_145, rf_122_19, sh_141, refV_s, refV_n, psh_s, psh_n, kil_i, kil_r, kil_n, kil_l, cat_i, cat_r, iOK_1, iOK_5, jOK_2, jOK_6, wOK_e, lOK_1, lOK_2, lOK_3, lOK_4, lOK_5, lOK_6, catS_0, catS_1, catS_2, catS_3, catS_4, and_self, true_and, and_true, true_or, or_true, false_or, or_false, not_true_eq_false, not_false_eq_true, if_true, if_false, ite_int, ite_int0, au_10, eq_self, decide_true, decide_false, Bool.true_and, Bool.false_and, au_in, au_le, au_lt, au_eq, au_lt0, au_ge0, au_le0, au_gt0, au_eq0, au_leT, au_leF, au_ltT, au_ltF, au_eqT, au_eqF, nI_clamp, nI_1, nI_add, pk_mul, au_sub1, au_subc, au_up2e, au_up2n, lit_of, k4, k5, k6]
        exact ihn n m I' _ _ _ k4 k5 k6 (by omega) (mkOK_skip hm (by rw [e]; exact fun q => by cases q)) (by omega) ho h6 hi
      | none =>
        rw [if_pos rfl]
        have hkz := hz _ (getD_mem hkl)
        simp (disch := omega) only [aw_aload_0 (pc2 := 66) D151_65 rfl, aw_getR (pc2 := 69) (ci := 7) (fk := 19) D151_66 rfl fT_7_65 rfl, aw_iload_3 (pc2 := 70) D151_69 rfl, aw_iaload (pc2 := 71) D151_70 rfl, aw_is1_2 (pc2 := 74) D151_71 rfl cT_7_183 rfl, aw_istore_4 (pc2 := 76) D151_74 rfl, aw_iconst (pc2 := 77) (y := 1) D151_76 rfl (by decide), aw_istore_5 (pc2 := 79) D151_77 rfl, sh_122, lit_40, rf_122_24, sh_146, rf_122_20, sh_142, rf_122_23, sh_145, rf_122_19, sh_141, refV_s, refV_n, psh_s, psh_n, kil_i, kil_r, kil_n, kil_l, cat_i, cat_r, iOK_1, iOK_5, jOK_2, jOK_6, wOK_e, lOK_1, lOK_2, lOK_3, lOK_4, lOK_5, lOK_6, catS_0, catS_1, catS_2, catS_3, catS_4, and_self, true_and, and_true, true_or, or_true, false_or, or_false, not_true_eq_false, not_false_eq_true, if_true, if_false, ite_int, ite_int0, au_10, eq_self, decide_true, decide_false, Bool.true_and, Bool.false_and, au_in, au_le, au_lt, au_eq, au_lt0, au_ge0, au_le0, au_gt0, au_eq0, au_leT, au_leF, au_ltT, au_ltF, au_eqT, au_eqF, nI_clamp, nI_1, nI_add, pk_mul, au_sub1, au_subc, au_up2e, au_up2n, lit_of, k6, M_lettersOf, ho 141 _ (show ¬ chP f 141 (40 * f + k) by unfold chP; omega), hkx, hlet k hkl, psh]
        have head : ∀ fu2 L I2 v6, kil v6 = v6 → unm f l.length I2 < fu2 → L < 4096 → (∀ j, (ltN (l.getD k 0)).testBit j = true → L.testBit j = true) → (∀ j, L.testBit j = true → cloP (selL l (fun i => isN (m i))) (ltN (l.getD k 0)) j) → fS (chP f) I I2 → I2 146 f = nI n → (∀ j, j < l.length → I2 145 (40 * f + j) = mkI (m j) ∨ (I2 145 (40 * f + j) = nI n ∧ k ≤ j ∧ m j = none ∧ ∀ z, (ltN (l.getD j 0)).testBit z = true → L.testBit z = true)) → AW (d + 1) ((G0 Ln).1, (G0 Ln).2.1) K 151 79 [.ref 122, .int (nI f), .int (nI (40 * f)), .int (nI (40 * f + k)), .int (nI L), .int 1, v6] [] (G0 Ln) I2 J := by
          intro fu2
          induction fu2 with
          | zero => intro L I2 v6 _ hlt2; exact absurd hlt2 (Nat.not_lt_zero _)
          | succ fu2 ih2 =>
            intro L I2 v6 k6 hcn hL hA hC ho2 h62 hw
            rw [aw_iload_5 (pc2 := 81) D151_79 rfl]
            simp (disch := omega) only [aw_if_eq (pc2 := 84) (t := 172) D151_81 (by decide) rfl, aw_iconst (pc2 := 85) (y := 0) D151_84 rfl (by decide), aw_istore_5 (pc2 := 87) D151_85 rfl, aw_iload_3 (pc2 := 88) D151_87 rfl, aw_istore_6 (pc2 := 90) D151_88 rfl, sh_122, lit_40, rf_122_24, sh_146, rf_122_20, sh_142, rf_122_23, sh_145, rf_122_19, sh_141, refV_s, refV_n, psh_s, psh_n, kil_i, kil_r, kil_n, kil_l, cat_i, cat_r, iOK_1, iOK_5, jOK_2, jOK_6, wOK_e, lOK_1, lOK_2, lOK_3, lOK_4, lOK_5, lOK_6, catS_0, catS_1, catS_2, catS_3, catS_4, and_self, true_and, and_true, true_or, or_true, false_or, or_false, not_true_eq_false, not_false_eq_true, if_true, if_false, ite_int, ite_int0, au_10, eq_self, decide_true, decide_false, Bool.true_and, Bool.false_and, au_in, au_le, au_lt, au_eq, au_lt0, au_ge0, au_le0, au_gt0, au_eq0, au_leT, au_leF, au_ltT, au_ltF, au_eqT, au_eqF, nI_clamp, nI_1, nI_add, pk_mul, au_sub1, au_subc, au_up2e, au_up2n, lit_of, k6]
            have inner : ∀ f3 i L3 I3 (mo : Bool), i + f3 = l.length → k ≤ i → L3 < 4096 → (∀ z, L.testBit z = true → L3.testBit z = true) → (∀ j, L3.testBit j = true → cloP (selL l (fun i => isN (m i))) (ltN (l.getD k 0)) j) → fS (chP f) I I3 → I3 146 f = nI n → (∀ j, j < l.length → I3 145 (40 * f + j) = mkI (m j) ∨ (I3 145 (40 * f + j) = nI n ∧ k ≤ j ∧ m j = none ∧ ∀ z, (ltN (l.getD j 0)).testBit z = true → L3.testBit z = true)) → (mo = false → L3 = L ∧ I3 = I2 ∧ ∀ j, k ≤ j → j < i → (∃ z, (ltN (l.getD j 0)).testBit z = true ∧ L.testBit z = true) → I2 145 (40 * f + j) ≠ -1) → (mo = true → unm f l.length I3 + 1 ≤ unm f l.length I2) → AW (d + 1) ((G0 Ln).1, (G0 Ln).2.1) K 151 90 [.ref 122, .int (nI f), .int (nI (40 * f)), .int (nI (40 * f + k)), .int (nI L3), .int (bI mo), .int (nI (40 * f + i))] [] (G0 Ln) I3 J := by
              intro f3
              induction f3 with
              | zero =>
                intro i L3 I3 mo hi3 hki hL3 hsub hC3 ho3 h63 hw3 hF hT
                have ei : i = l.length := by omega
                subst ei
                simp (disch := omega) only [aw_iload_6 (pc2 := 92) D151_90 rfl, aw_iload_2 (pc2 := 93) D151_92 rfl, aw_aload_0 (pc2 := 94) D151_93 rfl, aw_getR (pc2 := 97) (ci := 7) (fk := 20) D151_94 rfl fT_7_68 rfl, aw_iload_1 (pc2 := 98) D151_97 rfl, aw_iaload (pc2 := 99) D151_98 rfl, aw_iadd (pc2 := 100) D151_99 rfl, aw_icmp_ge (pc2 := 103) (t := 169) D151_100 (by decide) rfl, aw_goto (t := 79) D151_169 (by decide), sh_122, lit_40, rf_122_24, sh_146, rf_122_20, sh_142, rf_122_23, sh_145, rf_122_19, sh_141, refV_s, refV_n, psh_s, psh_n, kil_i, kil_r, kil_n, kil_l, cat_i, cat_r, iOK_1, iOK_5, jOK_2, jOK_6, wOK_e, lOK_1, lOK_2, lOK_3, lOK_4, lOK_5, lOK_6, catS_0, catS_1, catS_2, catS_3, catS_4, and_self, true_and, and_true, true_or, or_true, false_or, or_false, not_true_eq_false, not_false_eq_true, if_true, if_false, ite_int, ite_int0, au_10, eq_self, decide_true, decide_false, Bool.true_and, Bool.false_and, au_in, au_le, au_lt, au_eq, au_lt0, au_ge0, au_le0, au_gt0, au_eq0, au_leT, au_leF, au_ltT, au_ltF, au_eqT, au_eqF, nI_clamp, nI_1, nI_add, pk_mul, au_sub1, au_subc, au_up2e, au_up2n, lit_of, ho3 142 f (by unfold chP; omega), h5]
                cases mo with
                | true =>
                  have := hT rfl
                  exact ih2 L3 I3 _ rfl (by omega) hL3 (fun j hj => hsub j (hA j hj)) hC3 ho3 h63 hw3
                | false =>
                  obtain ⟨e1, e2, hD⟩ := hF rfl
                  subst e1 e2
                  rw [aw_iload_5 (pc2 := 81) D151_79 rfl]
                  simp (disch := omega) only [aw_if_eq (pc2 := 84) (t := 172) D151_81 (by decide) rfl, aw_aload_0 (pc2 := 173) D151_172 rfl, aw_getR (pc2 := 176) (ci := 7) (fk := 24) D151_173 rfl fT_7_80 rfl, aw_iload_1 (pc2 := 177) D151_176 rfl, aw_dup2 (pc2 := 178) D151_177 rfl, aw_iaload (pc2 := 179) D151_178 rfl, aw_iconst (pc2 := 180) (y := 1) D151_179 rfl (by decide), aw_iadd (pc2 := 181) D151_180 rfl, aw_iastore (pc2 := 182) D151_181 rfl, aw_iinc_3 (pc2 := 185) (y := 1) D151_182 rfl (by decide), aw_goto (t := 41) D151_185 (by decide), sh_122, lit_40, rf_122_24, sh_146, rf_122_20, sh_142, rf_122_23, sh_145, rf_122_19, sh_141, refV_s, refV_n, psh_s, psh_n, kil_i, kil_r, kil_n, kil_l, cat_i, cat_r, iOK_1, iOK_5, jOK_2, jOK_6, wOK_e, lOK_1, lOK_2, lOK_3, lOK_4, lOK_5, lOK_6, catS_0, catS_1, catS_2, catS_3, catS_4, and_self, true_and, and_true, true_or, or_true, false_or, or_false, not_true_eq_false, not_false_eq_true, if_true, if_false, ite_int, ite_int0, au_10, eq_self, decide_true, decide_false, Bool.true_and, Bool.false_and, au_in, au_le, au_lt, au_eq, au_lt0, au_ge0, au_le0, au_gt0, au_eq0, au_leT, au_leF, au_ltT, au_ltF, au_eqT, au_eqF, nI_clamp, nI_1, nI_add, pk_mul, au_sub1, au_subc, au_up2e, au_up2n, lit_of, bI, h63]
                  refine ihn (n + 1) (mkN l m n k) _ _ _ _ rfl rfl rfl (by omega) (mkOK_step hz hm hkl e) (by omega) (ho3.tr (fS.up (by unfold chP; omega))) (au_up2e ⟨rfl, rfl⟩) (fun i hi4 => ?_)
                  rw [au_up2c (by omega)]
                  have hUk : l.getD k 0 ∈ selL l (fun i => isN (m i)) := selL_mem.mpr ⟨k, hkl, isN_iff.mpr e, rfl⟩
                  refine spread_fin (w := fun j => I3 145 (40 * f + j)) hm hkl e hA hC3 (fun j hj => ?_) (fun j hkj hj hsh => ?_) i hi4
                  · rcases hw3 j hj with h | ⟨a1, a2, a3, a4⟩
                    · exact Or.inl h
                    · obtain ⟨z, hzz⟩ := ne0_bit (hz _ (getD_mem hj))
                      exact Or.inr ⟨a1, a2, z, hzz, a4 z hzz⟩
                  · have hne := hD j hkj hj hsh
                    rcases hw3 j hj with h | ⟨a1, a2, a3, a4⟩
                    · exfalso
                      rw [h] at hne
                      cases em : m j with
                      | none => rw [em] at hne; exact hne rfl
                      | some j' =>
                        obtain ⟨z0, y1, y2⟩ := hsh
                        obtain ⟨c, hc, hzc⟩ := ltU_mem.mp (cloP_sub (fun j hj => ltU_mem.mpr ⟨_, hUk, hj⟩) (hC3 z0 y2))
                        obtain ⟨i', hi', hn', e'⟩ := selL_mem.mp hc
                        rw [← e'] at hzc
                        exact absurd ⟨y1, hzc⟩ (hm.2.2.1 j i' hj hi' (by rw [em]; exact fun q => by cases q) (isN_iff.mp hn') z0)
                    · exact ⟨a1, a4⟩
              | succ f3 ih3 =>
                intro i L3 I3 mo hi3 hki hL3 hsub hC3 ho3 h63 hw3 hF hT
                have hil : i < l.length := by omega
                have hli : I3 141 (40 * f + i) = nI (l.getD i 0) := by rw [ho3 141 _ (by unfold chP; omega)]; exact h1 i hil
                have hlti := hlt i
                have hand : ltN (l.getD i 0) &&& L3 < 2 ^ 31 := Nat.lt_of_le_of_lt Nat.and_le_left (by omega)
                have ih3n := ih3 (i + 1)
                have hge : (0 ≤ I3 145 (40 * f + i)) = ¬ I3 145 (40 * f + i) = -1 := by
                  rcases hw3 i hil with h | ⟨a1, -, -, -⟩
                  · rw [h, mk_ge (hmb i · hil)]
                    cases em : m i with
                    | none => exact propext ⟨fun q => absurd rfl q, fun q => absurd rfl q⟩
                    | some j' =>
                      have := hmb i j' hil em
                      rw [show mkI (some j') = nI j' from rfl, au_m1 this]
                      exact propext ⟨fun _ => not_false, fun _ q => by cases q⟩
                  · rw [a1, au_ge0 (by omega), au_m1 (by omega)]
                    exact propext ⟨fun _ => not_false, fun _ => trivial⟩
                rw [aw_iload_6 (pc2 := 92) D151_90 rfl]
                simp (disch := omega) only [aw_iload_2 (pc2 := 93) D151_92 rfl, aw_aload_0 (pc2 := 94) D151_93 rfl, aw_getR (pc2 := 97) (ci := 7) (fk := 20) D151_94 rfl fT_7_68 rfl, aw_iload_1 (pc2 := 98) D151_97 rfl, aw_iaload (pc2 := 99) D151_98 rfl, aw_iadd (pc2 := 100) D151_99 rfl, aw_icmp_ge (pc2 := 103) (t := 169) D151_100 (by decide) rfl, aw_aload_0 (pc2 := 104) D151_103 rfl, aw_getR (pc2 := 107) (ci := 7) (fk := 23) D151_104 rfl fT_7_77 rfl, aw_iload_6 (pc2 := 109) D151_107 rfl, aw_iaload (pc2 := 110) D151_109 rfl, aw_if_ge (pc2 := 113) (t := 163) D151_110 (by decide) rfl, sh_122, lit_40, rf_122_24, sh_146, rf_122_20, sh_142, rf_122_23, sh_145, rf_122_19, sh_141, refV_s, refV_n, psh_s, psh_n, kil_i, kil_r, kil_n, kil_l, cat_i, cat_r, iOK_1, iOK_5, jOK_2, jOK_6, wOK_e, lOK_1, lOK_2, lOK_3, lOK_4, lOK_5, lOK_6, catS_0, catS_1, catS_2, catS_3, catS_4, and_self, true_and, and_true, true_or, or_true, false_or, or_false, not_true_eq_false, not_false_eq_true, if_true, if_false, ite_int, ite_int0, au_10, eq_self, decide_true, decide_false, Bool.true_and, Bool.false_and, au_in, au_le, au_lt, au_eq, au_lt0, au_ge0, au_le0, au_gt0, au_eq0, au_leT, au_leF, au_ltT, au_ltF, au_eqT, au_eqF, nI_clamp, nI_1, nI_add, pk_mul, au_sub1, au_subc, au_up2e, au_up2n, lit_of, ho3 142 f (by unfold chP; omega), h5, hge]
                by_cases hun : I3 145 (40 * f + i) = -1
                · rw [if_neg (fun q => q hun)]
                  simp (disch := omega) only [aw_aload_0 (pc2 := 114) D151_113 rfl, aw_getR (pc2 := 117) (ci := 7) (fk := 19) D151_114 rfl fT_7_65 rfl, aw_iload_6 (pc2 := 119) D151_117 rfl, aw_iaload (pc2 := 120) D151_119 rfl, aw_is1_2 (pc2 := 123) D151_120 rfl cT_7_183 rfl, aw_iload_4 (pc2 := 125) D151_123 rfl, aw_iand (pc2 := 126) D151_125 rfl, aw_if_ne (pc2 := 129) (t := 132) D151_126 (by decide) rfl, sh_122, lit_40, rf_122_24, sh_146, rf_122_20, sh_142, rf_122_23, sh_145, rf_122_19, sh_141, refV_s, refV_n, psh_s, psh_n, kil_i, kil_r, kil_n, kil_l, cat_i, cat_r, iOK_1, iOK_5, jOK_2, jOK_6, wOK_e, lOK_1, lOK_2, lOK_3, lOK_4, lOK_5, lOK_6, catS_0, catS_1, catS_2, catS_3, catS_4, and_self, true_and, and_true, true_or, or_true, false_or, or_false, not_true_eq_false, not_false_eq_true, if_true, if_false, ite_int, ite_int0, au_10, eq_self, decide_true, decide_false, Bool.true_and, Bool.false_and, au_in, au_le, au_lt, au_eq, au_lt0, au_ge0, au_le0, au_gt0, au_eq0, au_leT, au_leF, au_ltT, au_ltF, au_eqT, au_eqF, nI_clamp, nI_1, nI_add, pk_mul, au_sub1, au_subc, au_up2e, au_up2n, lit_of, hli, M_lettersOf, hlet i hil, fa_and, psh]
                  by_cases hs : ltN (l.getD i 0) &&& L3 = 0
                  · rw [if_neg (fun q => q hs)]
                    simp (disch := omega) only [aw_goto (t := 163) D151_129 (by decide), aw_iinc_6 (pc2 := 166) (y := 1) D151_163 rfl (by decide), aw_goto (t := 90) D151_166 (by decide), sh_122, lit_40, rf_122_24, sh_146, rf_122_20, sh_142, rf_122_23, sh_145, rf_122_19, sh_141, refV_s, refV_n, psh_s, psh_n, kil_i, kil_r, kil_n, kil_l, cat_i, cat_r, iOK_1, iOK_5, jOK_2, jOK_6, wOK_e, lOK_1, lOK_2, lOK_3, lOK_4, lOK_5, lOK_6, catS_0, catS_1, catS_2, catS_3, catS_4, and_self, true_and, and_true, true_or, or_true, false_or, or_false, not_true_eq_false, not_false_eq_true, if_true, if_false, ite_int, ite_int0, au_10, eq_self, decide_true, decide_false, Bool.true_and, Bool.false_and, au_in, au_le, au_lt, au_eq, au_lt0, au_ge0, au_le0, au_gt0, au_eq0, au_leT, au_leF, au_ltT, au_ltF, au_eqT, au_eqF, nI_clamp, nI_1, nI_add, pk_mul, au_sub1, au_subc, au_up2e, au_up2n, lit_of]
                    refine ih3n L3 I3 mo (by omega) (by omega) hL3 hsub hC3 ho3 h63 hw3 (fun em => ?_) hT
                    obtain ⟨e1, e2, hD⟩ := hF em
                    refine ⟨e1, e2, fun j hj hj2 hsh => ?_⟩
                    by_cases ej : j = i
                    · subst ej
                      obtain ⟨z, z1, z2⟩ := hsh
                      exact absurd hs (and_ne0.mpr ⟨z, z1, hsub z z2⟩)
                    · exact hD j hj (by omega) hsh
                  · rw [if_pos hs]
                    obtain ⟨z0, y1, y2⟩ := and_ne0.mp hs
                    simp (disch := omega) only [aw_aload_0 (pc2 := 133) D151_132 rfl, aw_getR (pc2 := 136) (ci := 7) (fk := 23) D151_133 rfl fT_7_77 rfl, aw_iload_6 (pc2 := 138) D151_136 rfl, aw_aload_0 (pc2 := 139) D151_138 rfl, aw_getR (pc2 := 142) (ci := 7) (fk := 24) D151_139 rfl fT_7_80 rfl, aw_iload_1 (pc2 := 143) D151_142 rfl, aw_iaload (pc2 := 144) D151_143 rfl, aw_iastore (pc2 := 145) D151_144 rfl, aw_iload_4 (pc2 := 147) D151_145 rfl, aw_aload_0 (pc2 := 148) D151_147 rfl, aw_getR (pc2 := 151) (ci := 7) (fk := 19) D151_148 rfl fT_7_65 rfl, aw_iload_6 (pc2 := 153) D151_151 rfl, aw_iaload (pc2 := 154) D151_153 rfl, aw_is1_2 (pc2 := 157) D151_154 rfl cT_7_183 rfl, aw_ior (pc2 := 158) D151_157 rfl, aw_istore_4 (pc2 := 160) D151_158 rfl, aw_iconst (pc2 := 161) (y := 1) D151_160 rfl (by decide), aw_istore_5 (pc2 := 163) D151_161 rfl, aw_iinc_6 (pc2 := 166) (y := 1) D151_163 rfl (by decide), aw_goto (t := 90) D151_166 (by decide), sh_122, lit_40, rf_122_24, sh_146, rf_122_20, sh_142, rf_122_23, sh_145, rf_122_19, sh_141, refV_s, refV_n, psh_s, psh_n, kil_i, kil_r, kil_n, kil_l, cat_i, cat_r, iOK_1, iOK_5, jOK_2, jOK_6, wOK_e, lOK_1, lOK_2, lOK_3, lOK_4, lOK_5, lOK_6, catS_0, catS_1, catS_2, catS_3, catS_4, and_self, true_and, and_true, true_or, or_true, false_or, or_false, not_true_eq_false, not_false_eq_true, if_true, if_false, ite_int, ite_int0, au_10, eq_self, decide_true, decide_false, Bool.true_and, Bool.false_and, au_in, au_le, au_lt, au_eq, au_lt0, au_ge0, au_le0, au_gt0, au_eq0, au_leT, au_leF, au_ltT, au_ltF, au_eqT, au_eqF, nI_clamp, nI_1, nI_add, pk_mul, au_sub1, au_subc, au_up2e, au_up2n, lit_of, hli, h63, M_lettersOf, hlet i hil, fa_or, psh]
                    have hmi : m i = none := by
                      rcases hw3 i hil with h | ⟨a1, -, a3, -⟩
                      · cases em : m i with
                        | none => rfl
                        | some j' =>
                          rw [h, em] at hun
                          have hun : nI j' = -1 := hun
                          rw [au_m1 (hmb i j' hil em)] at hun
                          exact hun.elim
                      · exact a3
                    have hor : ∀ z, (L3 ||| ltN (l.getD i 0)).testBit z = true ↔ L3.testBit z = true ∨ (ltN (l.getD i 0)).testBit z = true := fun z => by rw [Nat.testBit_or, Bool.or_eq_true]
                    have hUi : l.getD i 0 ∈ selL l (fun i => isN (m i)) := selL_mem.mpr ⟨i, hil, isN_iff.mpr hmi, rfl⟩
                    have hcnt : unm f l.length (up2 I3 145 (40 * f + i) (nI n)) + 1 = unm f l.length I3 := by
                      unfold unm
                      have hu := fb_ct_upd (fun j => decide (I3 145 (40 * f + j) = -1)) false hil
                      rw [decide_eq_true hun, if_pos rfl, if_neg (by decide)] at hu
                      have hcg : fb_ct (fun j => decide (up2 I3 145 (40 * f + i) (nI n) 145 (40 * f + j) = -1)) l.length = fb_ct (fun j => if j = i then false else decide (I3 145 (40 * f + j) = -1)) l.length := fb_ct_cong (fun j hj => by
                        by_cases ej : j = i
                        · rw [if_pos ej, au_up2e ⟨rfl, by rw [ej]⟩]
                          exact decide_eq_false (by rw [au_m1 (by omega)]; exact not_false)
                        · rw [if_neg ej, au_up2n (by omega)])
                      omega
                    have hle : unm f l.length I3 ≤ unm f l.length I2 := by
                      cases mo with
                      | true => have := hT rfl; omega
                      | false => rw [(hF rfl).2.1]; exact Nat.le_refl _
                    refine ih3n _ _ true (by omega) (by omega) (Nat.or_lt_two_pow (n := 12) hL3 hlti) (fun z hz2 => (hor z).mpr (Or.inl (hsub z hz2))) (fun j hj => ?_) (ho3.tr (fS.up (by unfold chP; omega))) (by rw [au_up2c (by omega)]; exact h63) (fun j hj => ?_) (fun q => by cases q) (fun _ => by omega)
                    · rcases (hor j).mp hj with h | h
                      · exact hC3 j h
                      · exact cloP_step hUi ⟨z0, y1, hC3 z0 y2⟩ h
                    · by_cases ej : j = i
                      · subst ej
                        exact Or.inr ⟨au_up2, hki, hmi, fun z hz3 => (hor z).mpr (Or.inr hz3)⟩
                      · rw [au_up2n (by omega)]
                        rcases hw3 j hj with h | ⟨h1', h2', h3', h4'⟩
                        · exact Or.inl h
                        · exact Or.inr ⟨h1', h2', h3', fun z hz3 => (hor z).mpr (Or.inl (h4' z hz3))⟩
                · rw [if_pos hun]
                  simp (disch := omega) only [aw_iinc_6 (pc2 := 166) (y := 1) D151_163 rfl (by decide), aw_goto (t := 90) D151_166 (by decide), sh_122, lit_40, rf_122_24, sh_146, rf_122_20, sh_142, rf_122_23, sh_145, rf_122_19, sh_141, refV_s, refV_n, psh_s, psh_n, kil_i, kil_r, kil_n, kil_l, cat_i, cat_r, iOK_1, iOK_5, jOK_2, jOK_6, wOK_e, lOK_1, lOK_2, lOK_3, lOK_4, lOK_5, lOK_6, catS_0, catS_1, catS_2, catS_3, catS_4, and_self, true_and, and_true, true_or, or_true, false_or, or_false, not_true_eq_false, not_false_eq_true, if_true, if_false, ite_int, ite_int0, au_10, eq_self, decide_true, decide_false, Bool.true_and, Bool.false_and, au_in, au_le, au_lt, au_eq, au_lt0, au_ge0, au_le0, au_gt0, au_eq0, au_leT, au_leF, au_ltT, au_ltF, au_eqT, au_eqF, nI_clamp, nI_1, nI_add, pk_mul, au_sub1, au_subc, au_up2e, au_up2n, lit_of]
                  refine ih3n L3 I3 mo (by omega) (by omega) hL3 hsub hC3 ho3 h63 hw3 (fun em => ?_) hT
                  obtain ⟨e1, e2, hD⟩ := hF em
                  refine ⟨e1, e2, fun j hj hj2 hsh => ?_⟩
                  by_cases ej : j = i
                  · rw [ej, ← e2]; exact hun
                  · exact hD j hj (by omega) hsh
            exact inner (l.length - k) k L I2 false (by omega) (Nat.le_refl _) hL (fun _ h => h) hC ho2 h62 hw (fun _ => ⟨rfl, rfl, fun j hj hj2 => by omega⟩) (fun q => by cases q)
        exact head (unm f l.length I' + 1) (ltN (l.getD k 0)) I' v6 k6 (by omega) (hlt k) (fun _ h => h) (fun j hj => cloP_of hj) ho h6 (fun j hj => Or.inl (hi j hj))
  exact key l.length 0 0 (fun _ => none) I1 nv nv nv rfl rfl rfl (by omega) (mkOK_0 l) (Nat.le_refl _) o1 m6 (fun i hi => m1 i hi)
end MFind
