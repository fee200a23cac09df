/-! the model: signs get nodes, a list is closed -/
theorem sg_lit : ∀ p, p < 24 → (¬ p < 12 → nI 11 - nI p = iI (sgOf p)) ∧ (p < 12 → nI (p + 1) = iI (sgOf p)) := by decide
theorem pw_bit : ∀ p, p < 24 → ∀ k, k < 24 → ((2 ^ p).testBit k = true ↔ k = p) := by decide
def chS (b a k : Nat) : Prop := chG b a k ∨ (a = 133 ∧ k = b) ∨ (a = 122 ∧ (k = 18 ∨ k = 36 ∨ k = 37)) ∨ a = 140 ∨ (154 ≤ a ∧ a ≤ 157)
def chLi (b a k : Nat) : Prop := chG b a k ∨ a = 140 ∨ (a = 122 ∧ k = 18)
def chC (b f a k : Nat) : Prop := chLi b a k ∨ (a = 143 ∧ 12 * f ≤ k ∧ k < 12 * f + 12) ∨ (a = 122 ∧ (k = 38 ∨ k = 39))
theorem po_cap {N : Nat} {S : ST} (hS : stC N S) : ∀ i, i < S.1.length → poN (gN S.1) i + (nodeAt (gN S.1) i).2.2.length ≤ 40000 := fun i hi => by
  have h1 := po_in hi
  have h2 : poN (gN S.1) S.1.length ≤ 12 * S.1.length := po_leM (g := gN S.1) (nds_12 hS.2.2.1) S.1.length (Nat.le_refl _)
  have := hS.1
  omega
theorem cstM_cong {N b : Nat} {S : ST} {I I' : IT} (hS : stC N S) (h : ∀ a k, chS b a k → I' a k = I a k) (hm : cstM b S I) : cstM b S I' := by
  obtain ⟨c1, c2, c3, c4, c5⟩ := hm
  refine ⟨grM_cong (fun a k q => h a k (Or.inl q)) hS.1 (po_cap hS) c1, by rw [h 133 b (by unfold chS; omega)]; exact c2, by rw [h 122 18 (by unfold chS; omega)]; exact c3, fun i hi => by rw [h 140 i (by unfold chS; omega)]; exact c4 i hi, mtM_cong (h 122 36 (by unfold chS; omega)) (h 122 37 (by unfold chS; omega)) (fun a a1 a2 => funext (fun k => h a k (by unfold chS; omega))) c5⟩
section MClose
variable {d Ln b f : Nat} {I : IT} {J : JT} {K : KT}
theorem M_litK {p : Nat} (hp : p < 24) {v1 : Value} : ∀ n k, k + n = p → AW (d + 1) ((G0 Ln).1, (G0 Ln).2.1) K 157 16 [.ref 122, v1, .int (nI (2 ^ p)), .int (nI p)] [] (G0 Ln) I J → AW (d + 1) ((G0 Ln).1, (G0 Ln).2.1) K 157 2 [.ref 122, v1, .int (nI (2 ^ p)), .int (nI k)] [] (G0 Ln) I J := by
  have hp2 : 2 ^ p < 2 ^ 24 := Nat.pow_lt_pow_right (by decide) hp
  intro n
  induction n with
  | zero =>
    intro k hk h
    have e : k = p := by omega
    subst e
    have hb := (pw_bit k hp k hp).mpr rfl
    simp (disch := omega) only [aw_iload_2 (pc2 := 3) D157_2 rfl, aw_iload_3 (pc2 := 4) D157_3 rfl, aw_ishr (pc2 := 5) D157_4 rfl, aw_iconst (pc2 := 6) (y := 1) D157_5 rfl (by decide), aw_iand (pc2 := 7) D157_6 rfl, aw_if_ne (pc2 := 10) (t := 16) D157_7 (by decide) rfl, sh_122, rf_122_17, sh_140, lit_2, lit_12, lit_11, refV_s, refV_n, psh_s, psh_n, kil_i, kil_r, kil_n, kil_l, cat_i, cat_r, iOK_1, iOK_5, jOK_2, jOK_6, wOK_e, lOK_1, lOK_2, lOK_3, lOK_4, lOK_5, lOK_6, catS_0, catS_1, catS_2, catS_3, catS_4, and_self, true_and, and_true, true_or, or_true, false_or, or_false, not_true_eq_false, not_false_eq_true, if_true, if_false, ite_int, ite_int0, au_10, eq_self, decide_true, decide_false, Bool.true_and, Bool.false_and, au_in, au_le, au_lt, au_eq, au_lt0, au_ge0, au_le0, au_gt0, au_eq0, au_leT, au_leF, au_ltT, au_ltF, au_eqT, au_eqF, nI_clamp, nI_1, nI_add, pk_mul, au_sub1, au_subc, au_up2e, au_up2n, lit_of, shr_bit, hb]
    first | exact h | (rw [if_pos (by decide)]; exact h)
  | succ n ih =>
    intro k hk h
    have hb : (2 ^ p).testBit k = false := by
      cases e : (2 ^ p).testBit k
      · rfl
      · have := (pw_bit p hp k (by omega)).mp e; omega
    have ihn := ih (k + 1) (by omega) h
    rw [aw_iload_2 (pc2 := 3) D157_2 rfl]
    simp (disch := omega) only [aw_iload_3 (pc2 := 4) D157_3 rfl, aw_ishr (pc2 := 5) D157_4 rfl, aw_iconst (pc2 := 6) (y := 1) D157_5 rfl (by decide), aw_iand (pc2 := 7) D157_6 rfl, aw_if_ne (pc2 := 10) (t := 16) D157_7 (by decide) rfl, aw_iinc_3 (pc2 := 13) (y := 1) D157_10 rfl (by decide), aw_goto (t := 2) D157_13 (by decide), sh_122, rf_122_17, sh_140, lit_2, lit_12, lit_11, refV_s, refV_n, psh_s, psh_n, kil_i, kil_r, kil_n, kil_l, cat_i, cat_r, iOK_1, iOK_5, jOK_2, jOK_6, wOK_e, lOK_1, lOK_2, lOK_3, lOK_4, lOK_5, lOK_6, catS_0, catS_1, catS_2, catS_3, catS_4, and_self, true_and, and_true, true_or, or_true, false_or, or_false, not_true_eq_false, not_false_eq_true, if_true, if_false, ite_int, ite_int0, au_10, eq_self, decide_true, decide_false, Bool.true_and, Bool.false_and, au_in, au_le, au_lt, au_eq, au_lt0, au_ge0, au_le0, au_gt0, au_eq0, au_leT, au_leF, au_ltT, au_ltF, au_eqT, au_eqF, nI_clamp, nI_1, nI_add, pk_mul, au_sub1, au_subc, au_up2e, au_up2n, lit_of, shr_bit, hb]
    first | exact ihn | (rw [if_neg (by decide)]; exact ihn)
theorem M_litOf {N : Nat} {S : ST} {p : Nat} (hb : b < 2) (hp : p < 24) (hS : stC N S) (h : cstM b S I) (hs : ∀ n S' I', litP (2 ^ p) S = some (n, S') → fS (chLi b) I I' → cstM b S' I' → K (some (.int (nI n))) (G0 Ln) I' J) (hx : ∀ v I', litP (2 ^ p) S = none → fS (chLi b) I I' → sptM b I' → K (some (.int v)) (G0 Ln) I' J) : ACall (d + 2) 157 [.ref 122, .int (nI b), .int (nI (2 ^ p))] (G0 Ln) I J K := by
  rw [ACall_0 (L0 := [.ref 122, .int (nI b), .int (nI (2 ^ p)), nv]) (show mcs 157 = (0, 0) from rfl) (show entL 157 [.ref 122, .int (nI b), .int (nI (2 ^ p))] = _ from rfl) rfl (Nat.le_of_ble_eq_true rfl)]
  obtain ⟨h1, h2, h3, h4, h5⟩ := id h
  have hlg := (pc_pow p hp).2.1
  have hlit : litP (2 ^ p) S = (match S.2.2.1 p with
    | some n => some (n, S)
    | none => match comes (2, sgOf p, []) S with
      | none => none
      | some (n, S1) => some (n, (S1.1, S1.2.1, up1 S1.2.2.1 p (some n), S1.2.2.2))) := by unfold litP; rw [hlg]; rfl
  obtain ⟨g3, g4⟩ := sg_lit p hp
  have h15 := hS.1
  simp (disch := omega) only [aw_iconst (pc2 := 1) (y := 0) D157_0 rfl (by decide), aw_istore_3 (pc2 := 2) D157_1 rfl, sh_122, rf_122_17, sh_140, lit_2, lit_12, lit_11, refV_s, refV_n, psh_s, psh_n, kil_i, kil_r, kil_n, kil_l, cat_i, cat_r, iOK_1, iOK_5, jOK_2, jOK_6, wOK_e, lOK_1, lOK_2, lOK_3, lOK_4, lOK_5, lOK_6, catS_0, catS_1, catS_2, catS_3, catS_4, and_self, true_and, and_true, true_or, or_true, false_or, or_false, not_true_eq_false, not_false_eq_true, if_true, if_false, ite_int, ite_int0, au_10, eq_self, decide_true, decide_false, Bool.true_and, Bool.false_and, au_in, au_le, au_lt, au_eq, au_lt0, au_ge0, au_le0, au_gt0, au_eq0, au_leT, au_leF, au_ltT, au_ltF, au_eqT, au_eqF, nI_clamp, nI_1, nI_add, pk_mul, au_sub1, au_subc, au_up2e, au_up2n, lit_of]
  refine M_litK hp p 0 (by omega) ?_
  have e4 := h4 p hp
  cases e : S.2.2.1 p with
  | some n =>
    rw [e] at hlit e4
    have hn2 := hS.2.2.2 p n hp e
    have e4 : I 140 p = nI n := e4
    simp (disch := omega) only [aw_aload_0 (pc2 := 17) D157_16 rfl, aw_getR (pc2 := 20) (ci := 7) (fk := 17) D157_17 rfl fT_7_62 rfl, aw_iload_3 (pc2 := 21) D157_20 rfl, aw_iaload (pc2 := 22) D157_21 rfl, aw_if_ge (pc2 := 25) (t := 53) D157_22 (by decide) rfl, aw_aload_0 (pc2 := 54) D157_53 rfl, aw_getR (pc2 := 57) (ci := 7) (fk := 17) D157_54 rfl fT_7_62 rfl, aw_iload_3 (pc2 := 58) D157_57 rfl, aw_iaload (pc2 := 59) D157_58 rfl, aw_iret D157_59 rfl, sh_122, rf_122_17, sh_140, lit_2, lit_12, lit_11, refV_s, refV_n, psh_s, psh_n, kil_i, kil_r, kil_n, kil_l, cat_i, cat_r, iOK_1, iOK_5, jOK_2, jOK_6, wOK_e, lOK_1, lOK_2, lOK_3, lOK_4, lOK_5, lOK_6, catS_0, catS_1, catS_2, catS_3, catS_4, and_self, true_and, and_true, true_or, or_true, false_or, or_false, not_true_eq_false, not_false_eq_true, if_true, if_false, ite_int, ite_int0, au_10, eq_self, decide_true, decide_false, Bool.true_and, Bool.false_and, au_in, au_le, au_lt, au_eq, au_lt0, au_ge0, au_le0, au_gt0, au_eq0, au_leT, au_leF, au_ltT, au_ltF, au_eqT, au_eqF, nI_clamp, nI_1, nI_add, pk_mul, au_sub1, au_subc, au_up2e, au_up2n, lit_of, e4]
    exact hs n S I hlit fS.rf h
  | none =>
    rw [e] at hlit e4
    have e4 : I 140 p = -1 := e4
    have key : ∀ x, x = iI (sgOf p) → ACall (d + 1) 145 [.ref 122, .int (nI b), .int (nI 2), .int x] (G0 Ln) I J (fun v G I J => AW (d + 1) ((G0 Ln).1, (G0 Ln).2.1) K 157 52 [.ref 122, .int (nI b), .int (nI (2 ^ p)), .int (nI p)] (psh v [.int (nI p), .ref 140]) G I J) := by
      intro x hx2
      by_cases h15 : S.1.length = 1500
      · have hlit : litP (2 ^ p) S = none := by rw [hlit]; unfold comes; rw [if_pos h15]
        rw [M_comesF hb h15 h1.1]
        simp (disch := omega) only [aw_iastore (pc2 := 53) D157_52 rfl, aw_aload_0 (pc2 := 54) D157_53 rfl, aw_getR (pc2 := 57) (ci := 7) (fk := 17) D157_54 rfl fT_7_62 rfl, aw_iload_3 (pc2 := 58) D157_57 rfl, aw_iaload (pc2 := 59) D157_58 rfl, aw_iret D157_59 rfl, sh_122, rf_122_17, sh_140, lit_2, lit_12, lit_11, refV_s, refV_n, psh_s, psh_n, kil_i, kil_r, kil_n, kil_l, cat_i, cat_r, iOK_1, iOK_5, jOK_2, jOK_6, wOK_e, lOK_1, lOK_2, lOK_3, lOK_4, lOK_5, lOK_6, catS_0, catS_1, catS_2, catS_3, catS_4, and_self, true_and, and_true, true_or, or_true, false_or, or_false, not_true_eq_false, not_false_eq_true, if_true, if_false, ite_int, ite_int0, au_10, eq_self, decide_true, decide_false, Bool.true_and, Bool.false_and, au_in, au_le, au_lt, au_eq, au_lt0, au_ge0, au_le0, au_gt0, au_eq0, au_leT, au_leF, au_ltT, au_ltF, au_eqT, au_eqF, nI_clamp, nI_1, nI_add, pk_mul, au_sub1, au_subc, au_up2e, au_up2n, lit_of, psh]
        refine hx _ _ hlit ((fS.up (by unfold chLi; omega)).tr (fS.up (by unfold chLi; omega))) ⟨?_, ?_⟩
        · simp (disch := omega) only [au_up2n, au_up2e]
        · simp (disch := omega) only [au_up2n]; rw [h1.1, h15]
      · have hlit : litP (2 ^ p) S = some (S.1.length, (S.1 ++ [(2, sgOf p, [])], S.2.1, up1 S.2.2.1 p (some S.1.length), S.2.2.2)) := by rw [hlit]; unfold comes; rw [if_neg h15]
        refine M_comes (k := 2) hb (by omega) (nds_12 hS.2.2.1) (by decide) hx2 h1 (fun I' f1 f3 => ?_)
        simp (disch := omega) only [aw_iastore (pc2 := 53) D157_52 rfl, aw_aload_0 (pc2 := 54) D157_53 rfl, aw_getR (pc2 := 57) (ci := 7) (fk := 17) D157_54 rfl fT_7_62 rfl, aw_iload_3 (pc2 := 58) D157_57 rfl, aw_iaload (pc2 := 59) D157_58 rfl, aw_iret D157_59 rfl, sh_122, rf_122_17, sh_140, lit_2, lit_12, lit_11, refV_s, refV_n, psh_s, psh_n, kil_i, kil_r, kil_n, kil_l, cat_i, cat_r, iOK_1, iOK_5, jOK_2, jOK_6, wOK_e, lOK_1, lOK_2, lOK_3, lOK_4, lOK_5, lOK_6, catS_0, catS_1, catS_2, catS_3, catS_4, and_self, true_and, and_true, true_or, or_true, false_or, or_false, not_true_eq_false, not_false_eq_true, if_true, if_false, ite_int, ite_int0, au_10, eq_self, decide_true, decide_false, Bool.true_and, Bool.false_and, au_in, au_le, au_lt, au_eq, au_lt0, au_ge0, au_le0, au_gt0, au_eq0, au_leT, au_leF, au_ltT, au_ltF, au_eqT, au_eqF, nI_clamp, nI_1, nI_add, pk_mul, au_sub1, au_subc, au_up2e, au_up2n, lit_of, psh]
        refine hs _ _ _ hlit ((f1.wk (fun a k q => Or.inl q)).tr (fS.up (Or.inr (Or.inl rfl)))) ⟨?_, ?_, ?_, fun i hi => ?_, ?_⟩
        · have hlen : (S.1 ++ [(2, sgOf p, [])]).length = S.1.length + 1 := by rw [List.length_append]; rfl
          obtain ⟨q1, q2, q3⟩ := f3
          exact ⟨by simp (disch := omega) only [au_up2c]; exact q1, by simp (disch := omega) only [au_up2c]; exact q2, fun i hi => by
            rw [au_up2c (by omega), au_up2c (by omega), au_up2c (by omega), au_up2c (by omega), au_up2c (by omega)]
            exact q3 i hi⟩
        · simp (disch := omega) only [au_up2c]; rw [f1 133 b (by unfold chG; omega)]; exact h2
        · simp (disch := omega) only [au_up2c]; rw [f1 122 18 (by unfold chG; omega)]; exact h3
        · show _ = litI (up1 S.2.2.1 p (some S.1.length) i)
          unfold up1
          by_cases ei : i = p
          · rw [if_pos ei]; simp (disch := omega) only [ei, au_up2e]; rfl
          · rw [if_neg ei]; simp (disch := omega) only [au_up2n]; rw [f1 140 i (by unfold chG; omega)]; exact h4 i hi
        · refine mtM_cong ?_ ?_ (fun a _ _ => ?_) h5
          · simp (disch := omega) only [au_up2c]; exact f1 122 36 (by unfold chG; omega)
          · simp (disch := omega) only [au_up2c]; exact f1 122 37 (by unfold chG; omega)
          · simp (disch := omega) only [au_up2c]; exact funext (fun k => f1 a k (by unfold chG; omega))
    simp (disch := omega) only [aw_aload_0 (pc2 := 17) D157_16 rfl, aw_getR (pc2 := 20) (ci := 7) (fk := 17) D157_17 rfl fT_7_62 rfl, aw_iload_3 (pc2 := 21) D157_20 rfl, aw_iaload (pc2 := 22) D157_21 rfl, aw_if_ge (pc2 := 25) (t := 53) D157_22 (by decide) rfl, aw_aload_0 (pc2 := 26) D157_25 rfl, aw_getR (pc2 := 29) (ci := 7) (fk := 17) D157_26 rfl fT_7_62 rfl, aw_iload_3 (pc2 := 30) D157_29 rfl, aw_aload_0 (pc2 := 31) D157_30 rfl, aw_iload_1 (pc2 := 32) D157_31 rfl, aw_iconst (pc2 := 33) (y := 2) D157_32 rfl (by decide), aw_iload_3 (pc2 := 34) D157_33 rfl, aw_bipush (pc2 := 36) (y := 12) D157_34 rfl (by decide), aw_icmp_ge (pc2 := 39) (t := 45) D157_36 (by decide) rfl, sh_122, rf_122_17, sh_140, lit_2, lit_12, lit_11, refV_s, refV_n, psh_s, psh_n, kil_i, kil_r, kil_n, kil_l, cat_i, cat_r, iOK_1, iOK_5, jOK_2, jOK_6, wOK_e, lOK_1, lOK_2, lOK_3, lOK_4, lOK_5, lOK_6, catS_0, catS_1, catS_2, catS_3, catS_4, and_self, true_and, and_true, true_or, or_true, false_or, or_false, not_true_eq_false, not_false_eq_true, if_true, if_false, ite_int, ite_int0, au_10, eq_self, decide_true, decide_false, Bool.true_and, Bool.false_and, au_in, au_le, au_lt, au_eq, au_lt0, au_ge0, au_le0, au_gt0, au_eq0, au_leT, au_leF, au_ltT, au_ltF, au_eqT, au_eqF, nI_clamp, nI_1, nI_add, pk_mul, au_sub1, au_subc, au_up2e, au_up2n, lit_of, e4, m1_lt]
    by_cases h12 : p < 12
    · have k1 := key _ (g4 h12)
      simp (disch := omega) only [aw_iload_3 (pc2 := 40) D157_39 rfl, aw_iconst (pc2 := 41) (y := 1) D157_40 rfl (by decide), aw_iadd (pc2 := 42) D157_41 rfl, aw_goto (t := 49) D157_42 (by decide), aw_bipush (pc2 := 47) (y := 11) D157_45 rfl (by decide), aw_iload_3 (pc2 := 48) D157_47 rfl, aw_isub (pc2 := 49) D157_48 rfl, aw_iv3_0 (pc2 := 52) (o := 7) D157_49 rfl cT_7_228 rfl rfl, sh_122, rf_122_17, sh_140, lit_2, lit_12, lit_11, refV_s, refV_n, psh_s, psh_n, kil_i, kil_r, kil_n, kil_l, cat_i, cat_r, iOK_1, iOK_5, jOK_2, jOK_6, wOK_e, lOK_1, lOK_2, lOK_3, lOK_4, lOK_5, lOK_6, catS_0, catS_1, catS_2, catS_3, catS_4, and_self, true_and, and_true, true_or, or_true, false_or, or_false, not_true_eq_false, not_false_eq_true, if_true, if_false, ite_int, ite_int0, au_10, eq_self, decide_true, decide_false, Bool.true_and, Bool.false_and, au_in, au_le, au_lt, au_eq, au_lt0, au_ge0, au_le0, au_gt0, au_eq0, au_leT, au_leF, au_ltT, au_ltF, au_eqT, au_eqF, nI_clamp, nI_1, nI_add, pk_mul, au_sub1, au_subc, au_up2e, au_up2n, lit_of, m1_lt]
      first | exact k1 | (rw [if_neg (by omega)]; exact k1) | (rw [if_pos (by omega)]; exact k1)
    · have k1 := key _ (g3 h12)
      simp (disch := omega) only [aw_bipush (pc2 := 47) (y := 11) D157_45 rfl (by decide), aw_iload_3 (pc2 := 48) D157_47 rfl, aw_isub (pc2 := 49) D157_48 rfl, aw_iv3_0 (pc2 := 52) (o := 7) D157_49 rfl cT_7_228 rfl rfl, sh_122, rf_122_17, sh_140, lit_2, lit_12, lit_11, refV_s, refV_n, psh_s, psh_n, kil_i, kil_r, kil_n, kil_l, cat_i, cat_r, iOK_1, iOK_5, jOK_2, jOK_6, wOK_e, lOK_1, lOK_2, lOK_3, lOK_4, lOK_5, lOK_6, catS_0, catS_1, catS_2, catS_3, catS_4, and_self, true_and, and_true, true_or, or_true, false_or, or_false, not_true_eq_false, not_false_eq_true, if_true, if_false, ite_int, ite_int0, au_10, eq_self, decide_true, decide_false, Bool.true_and, Bool.false_and, au_in, au_le, au_lt, au_eq, au_lt0, au_ge0, au_le0, au_gt0, au_eq0, au_leT, au_leF, au_ltT, au_ltF, au_eqT, au_eqF, nI_clamp, nI_1, nI_add, pk_mul, au_sub1, au_subc, au_up2e, au_up2n, lit_of, m1_lt]
      first | exact k1 | (rw [if_neg (by omega)]; exact k1) | (rw [if_pos (by omega)]; exact k1)
theorem M_litOfS {p : Nat} (hb : b < 2) (hp : p < 24) (h : sptM b I) (hx : ∀ v I', fS (chLi b) I I' → sptM b I' → K (some (.int v)) (G0 Ln) I' J) : ACall (d + 2) 157 [.ref 122, .int (nI b), .int (nI (2 ^ p))] (G0 Ln) I J K := by
  rw [ACall_0 (L0 := [.ref 122, .int (nI b), .int (nI (2 ^ p)), nv]) (show mcs 157 = (0, 0) from rfl) (show entL 157 [.ref 122, .int (nI b), .int (nI (2 ^ p))] = _ from rfl) rfl (Nat.le_of_ble_eq_true rfl)]
  simp (disch := omega) only [aw_iconst (pc2 := 1) (y := 0) D157_0 rfl (by decide), aw_istore_3 (pc2 := 2) D157_1 rfl, sh_122, rf_122_17, sh_140, lit_2, lit_12, lit_11, refV_s, refV_n, psh_s, psh_n, kil_i, kil_r, kil_n, kil_l, cat_i, cat_r, iOK_1, iOK_5, jOK_2, jOK_6, wOK_e, lOK_1, lOK_2, lOK_3, lOK_4, lOK_5, lOK_6, catS_0, catS_1, catS_2, catS_3, catS_4, and_self, true_and, and_true, true_or, or_true, false_or, or_false, not_true_eq_false, not_false_eq_true, if_true, if_false, ite_int, ite_int0, au_10, eq_self, decide_true, decide_false, Bool.true_and, Bool.false_and, au_in, au_le, au_lt, au_eq, au_lt0, au_ge0, au_le0, au_gt0, au_eq0, au_leT, au_leF, au_ltT, au_ltF, au_eqT, au_eqF, nI_clamp, nI_1, nI_add, pk_mul, au_sub1, au_subc, au_up2e, au_up2n, lit_of]
  refine M_litK hp p 0 (by omega) ?_
  simp (disch := omega) only [aw_aload_0 (pc2 := 17) D157_16 rfl, aw_getR (pc2 := 20) (ci := 7) (fk := 17) D157_17 rfl fT_7_62 rfl, aw_iload_3 (pc2 := 21) D157_20 rfl, aw_iaload (pc2 := 22) D157_21 rfl, aw_if_ge (pc2 := 25) (t := 53) D157_22 (by decide) rfl, sh_122, rf_122_17, sh_140, lit_2, lit_12, lit_11, refV_s, refV_n, psh_s, psh_n, kil_i, kil_r, kil_n, kil_l, cat_i, cat_r, iOK_1, iOK_5, jOK_2, jOK_6, wOK_e, lOK_1, lOK_2, lOK_3, lOK_4, lOK_5, lOK_6, catS_0, catS_1, catS_2, catS_3, catS_4, and_self, true_and, and_true, true_or, or_true, false_or, or_false, not_true_eq_false, not_false_eq_true, if_true, if_false, ite_int, ite_int0, au_10, eq_self, decide_true, decide_false, Bool.true_and, Bool.false_and, au_in, au_le, au_lt, au_eq, au_lt0, au_ge0, au_le0, au_gt0, au_eq0, au_leT, au_leF, au_ltT, au_ltF, au_eqT, au_eqF, nI_clamp, nI_1, nI_add, pk_mul, au_sub1, au_subc, au_up2e, au_up2n, lit_of]
  by_cases e : 0 ≤ I 140 p
  · first | rw [if_pos e] | rw [if_neg (fun q => q e)]
    simp (disch := omega) only [aw_aload_0 (pc2 := 54) D157_53 rfl, aw_getR (pc2 := 57) (ci := 7) (fk := 17) D157_54 rfl fT_7_62 rfl, aw_iload_3 (pc2 := 58) D157_57 rfl, aw_iaload (pc2 := 59) D157_58 rfl, aw_iret D157_59 rfl, sh_122, rf_122_17, sh_140, lit_2, lit_12, lit_11, refV_s, refV_n, psh_s, psh_n, kil_i, kil_r, kil_n, kil_l, cat_i, cat_r, iOK_1, iOK_5, jOK_2, jOK_6, wOK_e, lOK_1, lOK_2, lOK_3, lOK_4, lOK_5, lOK_6, catS_0, catS_1, catS_2, catS_3, catS_4, and_self, true_and, and_true, true_or, or_true, false_or, or_false, not_true_eq_false, not_false_eq_true, if_true, if_false, ite_int, ite_int0, au_10, eq_self, decide_true, decide_false, Bool.true_and, Bool.false_and, au_in, au_le, au_lt, au_eq, au_lt0, au_ge0, au_le0, au_gt0, au_eq0, au_leT, au_leF, au_ltT, au_ltF, au_eqT, au_eqF, nI_clamp, nI_1, nI_add, pk_mul, au_sub1, au_subc, au_up2e, au_up2n, lit_of]
    exact hx _ I fS.rf h
  · first | rw [if_neg e] | rw [if_pos e]
    have key : ∀ x, ACall (d + 1) 145 [.ref 122, .int (nI b), .int (nI 2), .int x] (G0 Ln) I J (fun v G I J => AW (d + 1) ((G0 Ln).1, (G0 Ln).2.1) K 157 52 [.ref 122, .int (nI b), .int (nI (2 ^ p)), .int (nI p)] (psh v [.int (nI p), .ref 140]) G I J) := by
      intro x
      rw [M_comesF hb rfl h.2]
      simp (disch := omega) only [aw_iastore (pc2 := 53) D157_52 rfl, aw_aload_0 (pc2 := 54) D157_53 rfl, aw_getR (pc2 := 57) (ci := 7) (fk := 17) D157_54 rfl fT_7_62 rfl, aw_iload_3 (pc2 := 58) D157_57 rfl, aw_iaload (pc2 := 59) D157_58 rfl, aw_iret D157_59 rfl, sh_122, rf_122_17, sh_140, lit_2, lit_12, lit_11, refV_s, refV_n, psh_s, psh_n, kil_i, kil_r, kil_n, kil_l, cat_i, cat_r, iOK_1, iOK_5, jOK_2, jOK_6, wOK_e, lOK_1, lOK_2, lOK_3, lOK_4, lOK_5, lOK_6, catS_0, catS_1, catS_2, catS_3, catS_4, and_self, true_and, and_true, true_or, or_true, false_or, or_false, not_true_eq_false, not_false_eq_true, if_true, if_false, ite_int, ite_int0, au_10, eq_self, decide_true, decide_false, Bool.true_and, Bool.false_and, au_in, au_le, au_lt, au_eq, au_lt0, au_ge0, au_le0, au_gt0, au_eq0, au_leT, au_leF, au_ltT, au_ltF, au_eqT, au_eqF, nI_clamp, nI_1, nI_add, pk_mul, au_sub1, au_subc, au_up2e, au_up2n, lit_of, psh]
      refine hx _ _ ((fS.up (by unfold chLi; omega)).tr (fS.up (by unfold chLi; omega))) ⟨?_, ?_⟩
      · simp (disch := omega) only [au_up2n, au_up2e]
      · simp (disch := omega) only [au_up2n]; exact h.2
    simp (disch := omega) only [aw_aload_0 (pc2 := 26) D157_25 rfl, aw_getR (pc2 := 29) (ci := 7) (fk := 17) D157_26 rfl fT_7_62 rfl, aw_iload_3 (pc2 := 30) D157_29 rfl, aw_aload_0 (pc2 := 31) D157_30 rfl, aw_iload_1 (pc2 := 32) D157_31 rfl, aw_iconst (pc2 := 33) (y := 2) D157_32 rfl (by decide), aw_iload_3 (pc2 := 34) D157_33 rfl, aw_bipush (pc2 := 36) (y := 12) D157_34 rfl (by decide), aw_icmp_ge (pc2 := 39) (t := 45) D157_36 (by decide) rfl, sh_122, rf_122_17, sh_140, lit_2, lit_12, lit_11, refV_s, refV_n, psh_s, psh_n, kil_i, kil_r, kil_n, kil_l, cat_i, cat_r, iOK_1, iOK_5, jOK_2, jOK_6, wOK_e, lOK_1, lOK_2, lOK_3, lOK_4, lOK_5, lOK_6, catS_0, catS_1, catS_2, catS_3, catS_4, and_self, true_and, and_true, true_or, or_true, false_or, or_false, not_true_eq_false, not_false_eq_true, if_true, if_false, ite_int, ite_int0, au_10, eq_self, decide_true, decide_false, Bool.true_and, Bool.false_and, au_in, au_le, au_lt, au_eq, au_lt0, au_ge0, au_le0, au_gt0, au_eq0, au_leT, au_leF, au_ltT, au_ltF, au_eqT, au_eqF, nI_clamp, nI_1, nI_add, pk_mul, au_sub1, au_subc, au_up2e, au_up2n, lit_of]
    by_cases h12 : p < 12
    · have k1 := key (nI (p + 1))
      simp (disch := omega) only [aw_iload_3 (pc2 := 40) D157_39 rfl, aw_iconst (pc2 := 41) (y := 1) D157_40 rfl (by decide), aw_iadd (pc2 := 42) D157_41 rfl, aw_goto (t := 49) D157_42 (by decide), aw_bipush (pc2 := 47) (y := 11) D157_45 rfl (by decide), aw_iload_3 (pc2 := 48) D157_47 rfl, aw_isub (pc2 := 49) D157_48 rfl, aw_iv3_0 (pc2 := 52) (o := 7) D157_49 rfl cT_7_228 rfl rfl, sh_122, rf_122_17, sh_140, lit_2, lit_12, lit_11, refV_s, refV_n, psh_s, psh_n, kil_i, kil_r, kil_n, kil_l, cat_i, cat_r, iOK_1, iOK_5, jOK_2, jOK_6, wOK_e, lOK_1, lOK_2, lOK_3, lOK_4, lOK_5, lOK_6, catS_0, catS_1, catS_2, catS_3, catS_4, and_self, true_and, and_true, true_or, or_true, false_or, or_false, not_true_eq_false, not_false_eq_true, if_true, if_false, ite_int, ite_int0, au_10, eq_self, decide_true, decide_false, Bool.true_and, Bool.false_and, au_in, au_le, au_lt, au_eq, au_lt0, au_ge0, au_le0, au_gt0, au_eq0, au_leT, au_leF, au_ltT, au_ltF, au_eqT, au_eqF, nI_clamp, nI_1, nI_add, pk_mul, au_sub1, au_subc, au_up2e, au_up2n, lit_of]
      first | exact k1 | (rw [if_neg (by omega)]; exact k1) | (rw [if_pos (by omega)]; exact k1)
    · have k1 := key (nI 11 - nI p)
      simp (disch := omega) only [aw_bipush (pc2 := 47) (y := 11) D157_45 rfl (by decide), aw_iload_3 (pc2 := 48) D157_47 rfl, aw_isub (pc2 := 49) D157_48 rfl, aw_iv3_0 (pc2 := 52) (o := 7) D157_49 rfl cT_7_228 rfl rfl, sh_122, rf_122_17, sh_140, lit_2, lit_12, lit_11, refV_s, refV_n, psh_s, psh_n, kil_i, kil_r, kil_n, kil_l, cat_i, cat_r, iOK_1, iOK_5, jOK_2, jOK_6, wOK_e, lOK_1, lOK_2, lOK_3, lOK_4, lOK_5, lOK_6, catS_0, catS_1, catS_2, catS_3, catS_4, and_self, true_and, and_true, true_or, or_true, false_or, or_false, not_true_eq_false, not_false_eq_true, if_true, if_false, ite_int, ite_int0, au_10, eq_self, decide_true, decide_false, Bool.true_and, Bool.false_and, au_in, au_le, au_lt, au_eq, au_lt0, au_ge0, au_le0, au_gt0, au_eq0, au_leT, au_leF, au_ltT, au_ltF, au_eqT, au_eqF, nI_clamp, nI_1, nI_add, pk_mul, au_sub1, au_subc, au_up2e, au_up2n, lit_of]
      first | exact k1 | (rw [if_neg (by omega)]; exact k1) | (rw [if_pos (by omega)]; exact k1)
end MClose
