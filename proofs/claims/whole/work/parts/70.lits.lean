/-! signs get nodes, in the class -/
def litI : Option Nat → Int32
  | none => -1
  | some n => nI n
def litC (L : Nat → Option Nat) (I : IT) : Prop := ∀ i, i < 24 → I 38 i = litI (L i)
theorem lit_pl : ∀ p, p < 24 → fb_ct (fun k => (2 ^ p - 1).testBit k) 32 = p := by decide
def plI (p : Nat) : Int32 := if p < 12 then nI (p % 12 + 1) else -(nI (p % 12 + 1))
theorem lit_sg : ∀ p, p < 24 → plI p = iI (sgOf p) ∧ nI (2 ^ (p % 12)) = nI (ownL (sgOf p)) := by decide
theorem lit_it : ∀ p, p < 24 → nI p - nI p / 12 * 12 + 1 = nI (p % 12 + 1) ∧ (1 <<< (nI (p % 12 + 1) - 1 &&& 31) : Int32) = nI (ownL (sgOf p)) ∧ (12 ≤ nI p → -(nI (p % 12 + 1)) = iI (sgOf p)) ∧ (¬ 12 ≤ nI p → nI (p % 12 + 1) = iI (sgOf p)) := by decide
theorem mtC_cong {m : MT} {I I' : IT} (h : ∀ a, 31 ≤ a → a ≤ 37 → I' a = I a) (hm : mtC m I) : mtC m I' := by
  obtain ⟨a, b, c, e⟩ := hm
  refine ⟨by rw [h 31 (by omega) (by omega)]; exact a, by rw [h 31 (by omega) (by omega)]; exact b, fun i hi => ?_, fun z hz => by rw [h 37 (by omega) (by omega)]; exact e z hz⟩
  rw [h 33 (by omega) (by omega), h 34 (by omega) (by omega), h 35 (by omega) (by omega), h 36 (by omega) (by omega)]
  obtain ⟨c1, c2, c3, c4, c5⟩ := c i hi
  exact ⟨c1, c2, c3, c4, fun j hj => by rw [h 32 (by omega) (by omega)]; exact c5 j hj⟩
theorem grC_cong {B : Nat} {nds : List (Nat × Int × List Nat)} {I I' : IT} (h : ∀ a, B + 4 ≤ a → a ≤ B + 8 → I' a = I a) (h8 : I' (B + 3) 8 = I (B + 3) 8) (hm : grC B nds I) : grC B nds I' := by
  obtain ⟨a, b⟩ := hm
  refine ⟨h8.trans a, fun i hi => ?_⟩
  rw [h (B + 4) (by omega) (by omega), h (B + 5) (by omega) (by omega), h (B + 6) (by omega) (by omega), h (B + 7) (by omega) (by omega), h (B + 8) (by omega) (by omega)]
  exact b i hi
section Lits
variable {d Ln B : Nat} {I : IT} {J : JT} {K : KT}
/-- what stays while a graph is made: d is the level -/
def frM (B d : Nat) (I I' : IT) : Prop := (∀ a, (a < B + 3 ∨ B + 8 < a) → (a < 31 ∨ (39 ≤ a ∧ a < lvl d) ∨ 117 ≤ a) → I' a = I a) ∧ ∀ k, k ≠ 8 → k ≠ 10 → k ≠ 11 → I' (B + 3) k = I (B + 3) k
/-- the room is used up -/
def spt (B : Nat) (I : IT) : Prop := I (B + 3) 11 = 1 ∧ I (B + 3) 8 = nI 1500
/-- the state of what is made -/
def cst (B : Nat) (S : ST) (I : IT) : Prop := grC B S.1 I ∧ I (B + 3) 10 = nI S.2.1 ∧ I (B + 3) 11 = 0 ∧ litC S.2.2.1 I ∧ mtC S.2.2.2 I
theorem frM.rf {B d : Nat} {I : IT} : frM B d I I := ⟨fun _ _ _ => rfl, fun _ _ _ _ => rfl⟩
theorem frM.tr {B d : Nat} {I I' I'' : IT} (h : frM B d I I') (g : frM B d I' I'') : frM B d I I'' := ⟨fun a a1 a2 => (g.1 a a1 a2).trans (h.1 a a1 a2), fun k k1 k2 k3 => (g.2 k k1 k2 k3).trans (h.2 k k1 k2 k3)⟩
theorem frM.wk {B d d' : Nat} {I I' : IT} (h : frM B d I I') (hd : d' ≤ d) : frM B d' I I' := ⟨fun a a1 a2 => h.1 a a1 (by unfold lvl at *; omega), h.2⟩
theorem frM.gr {B d : Nat} {I I' : IT} (h : frG B I I') : frM B d I I' := ⟨fun a a1 a2 => h.1 a (by omega) (by omega) (by omega) (by omega) (by omega) (by omega), fun k k1 _ k3 => h.2 k k1 k3⟩
theorem C_litOf {S : ST} {p : Nat} (hB : BF Ln B) (hBl : B + 13 < 29) (hp : p < 24) (hn : S.1.length ≤ 1500) (hL : ∀ i n, i < 24 → S.2.2.1 i = some n → n < 1500) (h : cst B S I) (hs : ∀ n S' I', litP (2 ^ p) S = some (n, S') → (∀ a, a ≠ 38 → (a < B + 3 ∨ B + 8 < a) → I' a = I a) → (∀ k, k ≠ 8 → I' (B + 3) k = I (B + 3) k) → cst B S' I' → K (some (.int (nI n))) (G0 Ln) I' J) (hx : ∀ v I', litP (2 ^ p) S = none → (∀ a, a ≠ 38 → (a < B + 3 ∨ B + 8 < a) → I' a = I a) → (∀ k, k ≠ 11 → I' (B + 3) k = I (B + 3) k) → spt B I' → K (some (.int v)) (G0 Ln) I' J) : ACall (d + 2) 54 [.ref 29, .ref (B + 3), .int (nI (2 ^ p))] (G0 Ln) I J K := by
  rw [ACall_0 (L0 := [.ref 29, .ref (B + 3), .int (nI (2 ^ p)), nv, nv, nv]) (show mcs 54 = (0, 0) from rfl) (show entL 54 [.ref 29, .ref (B + 3), .int (nI (2 ^ p))] = _ from rfl) rfl (Nat.le_of_ble_eq_true rfl)]
  obtain ⟨h1, h2, h3, h4, h5⟩ := h
  have hp2 : 2 ^ p < 2 ^ 24 := Nat.pow_lt_pow_right (by decide) hp
  have hp3 : 0 < 2 ^ p := Nat.two_pow_pos p
  have hl4 := h4 p hp
  have hlg := (pc_pow p hp).2.1
  simp (disch := omega) only [aw_iload_2 (pc2 := 1) D54_0 rfl, aw_iconst (pc2 := 2) (y := 1) D54_1 rfl (by decide), aw_isub (pc2 := 3) D54_2 rfl, aw_is1_2 (pc2 := 6) D54_3 rfl cT_3_142 rfl, aw_istore_3 (pc2 := 7) D54_6 rfl, aw_iload_3 (pc2 := 8) D54_7 rfl, aw_aload_0 (pc2 := 9) D54_8 rfl, aw_getR (pc2 := 12) (ci := 3) (fk := 2) D54_9 rfl fT_3_24 rfl, aw_alen (pc2 := 13) D54_12 rfl, aw_icmp_lt (pc2 := 16) (t := 18) D54_13 (by decide) rfl, aw_iconst (pc2 := 17) (y := 1) D54_16 rfl (by decide), aw_iret D54_17 rfl, aw_aload_0 (pc2 := 19) D54_18 rfl, aw_getR (pc2 := 22) (ci := 3) (fk := 2) D54_19 rfl fT_3_24 rfl, aw_iload_3 (pc2 := 23) D54_22 rfl, aw_iaload (pc2 := 24) D54_23 rfl, aw_iconst (pc2 := 25) (y := -1) D54_24 rfl (by decide), refV_s, refV_n, psh_s, psh_n, kil_i, kil_r, kil_n, kil_l, cat_i, cat_r, iOK_1, iOK_5, jOK_2, jOK_6, wOK_e, lOK_1, lOK_2, lOK_3, lOK_4, lOK_5, lOK_6, catS_0, catS_1, catS_2, catS_3, catS_4, and_self, true_and, and_true, true_or, or_true, false_or, or_false, not_true_eq_false, not_false_eq_true, if_true, if_false, ite_int, ite_int0, au_10, eq_self, decide_true, decide_false, Bool.true_and, Bool.false_and, au_in, au_le, au_lt, au_eq, au_lt0, au_ge0, au_le0, au_gt0, au_eq0, au_leT, au_leF, au_ltT, au_ltF, au_eqT, au_eqF, nI_clamp, nI_1, nI_add, pk_mul, au_sub1, au_subc, au_up2e, au_up2n, lit_of, P_int, lit_pl p hp, rf_29_2, sh_38, sh_29, h4 p hp]
  have hlit : litP (2 ^ p) S = (match S.2.2.1 p with
    | some n => some (n, S)
    | none => match comes (2, sgOf p, []) S with
      | none => none
      | some (n, S1) => some (n, (S1.1, S1.2.1, up1 S1.2.2.1 p (some n), S1.2.2.2))) := by unfold litP; rw [hlg]; rfl
  cases e : S.2.2.1 p with
  | some n =>
    rw [e] at hlit
    have hn2 := hL p n hp e
    have e2 : I 38 p = nI n := by rw [hl4, e]; rfl
    simp (disch := omega) only [aw_icmp_ne (pc2 := 28) (t := 71) D54_25 (by decide) rfl, aw_iload_3 (pc2 := 29) D54_28 rfl, aw_aload_0 (pc2 := 72) D54_71 rfl, aw_getR (pc2 := 75) (ci := 3) (fk := 2) D54_72 rfl fT_3_24 rfl, aw_iload_3 (pc2 := 76) D54_75 rfl, aw_iaload (pc2 := 77) D54_76 rfl, aw_iret D54_77 rfl, refV_s, refV_n, psh_s, psh_n, kil_i, kil_r, kil_n, kil_l, cat_i, cat_r, iOK_1, iOK_5, jOK_2, jOK_6, wOK_e, lOK_1, lOK_2, lOK_3, lOK_4, lOK_5, lOK_6, catS_0, catS_1, catS_2, catS_3, catS_4, and_self, true_and, and_true, true_or, or_true, false_or, or_false, not_true_eq_false, not_false_eq_true, if_true, if_false, ite_int, ite_int0, au_10, eq_self, decide_true, decide_false, Bool.true_and, Bool.false_and, au_in, au_le, au_lt, au_eq, au_lt0, au_ge0, au_le0, au_gt0, au_eq0, au_leT, au_leF, au_ltT, au_ltF, au_eqT, au_eqF, nI_clamp, nI_1, nI_add, pk_mul, au_sub1, au_subc, au_up2e, au_up2n, lit_of, rf_29_2, sh_38, sh_29, litI, e2]
    rw [if_pos (by rw [au_m1 (show n < 2 ^ 31 by omega)]; exact not_false)]
    exact hs n S I hlit (fun a _ _ => rfl) (fun k _ => rfl) ⟨h1, h2, h3, h4, h5⟩
  | none =>
    rw [e] at hlit
    obtain ⟨g1, g2⟩ := lit_sg p hp
    simp (disch := omega) only [aw_icmp_ne (pc2 := 28) (t := 71) D54_25 (by decide) rfl, aw_iload_3 (pc2 := 29) D54_28 rfl, aw_bipush (pc2 := 31) (y := 12) D54_29 rfl (by decide), aw_irem (pc2 := 32) D54_31 rfl, aw_iconst (pc2 := 33) (y := 1) D54_32 rfl (by decide), aw_iadd (pc2 := 34) D54_33 rfl, aw_istore_4 (pc2 := 36) D54_34 rfl, aw_iload_3 (pc2 := 37) D54_36 rfl, aw_bipush (pc2 := 39) (y := 12) D54_37 rfl (by decide), aw_icmp_ge (pc2 := 42) (t := 47) D54_39 (by decide) rfl, aw_iload_4 (pc2 := 44) D54_42 rfl, aw_goto (t := 50) D54_44 (by decide), aw_iload_4 (pc2 := 49) D54_47 rfl, aw_ineg (pc2 := 50) D54_49 rfl, aw_istore_5 (pc2 := 52) D54_50 rfl, aw_aload_0 (pc2 := 53) D54_52 rfl, aw_getR (pc2 := 56) (ci := 3) (fk := 2) D54_53 rfl fT_3_24 rfl, aw_iload_3 (pc2 := 57) D54_56 rfl, aw_aload_1 (pc2 := 58) D54_57 rfl, aw_iconst (pc2 := 59) (y := 2) D54_58 rfl (by decide), aw_iload_5 (pc2 := 61) D54_59 rfl, aw_iconst (pc2 := 62) (y := 1) D54_61 rfl (by decide), aw_iload_4 (pc2 := 64) D54_62 rfl, aw_iconst (pc2 := 65) (y := 1) D54_64 rfl (by decide), aw_isub (pc2 := 66) D54_65 rfl, aw_ishl (pc2 := 67) D54_66 rfl, aw_iv3_0 (pc2 := 70) (o := 1) D54_67 rfl cT_3_115 rfl rfl, refV_s, refV_n, psh_s, psh_n, kil_i, kil_r, kil_n, kil_l, cat_i, cat_r, iOK_1, iOK_5, jOK_2, jOK_6, wOK_e, lOK_1, lOK_2, lOK_3, lOK_4, lOK_5, lOK_6, catS_0, catS_1, catS_2, catS_3, catS_4, and_self, true_and, and_true, true_or, or_true, false_or, or_false, not_true_eq_false, not_false_eq_true, if_true, if_false, ite_int, ite_int0, au_10, eq_self, decide_true, decide_false, Bool.true_and, Bool.false_and, au_in, au_le, au_lt, au_eq, au_lt0, au_ge0, au_le0, au_gt0, au_eq0, au_leT, au_leF, au_ltT, au_ltF, au_eqT, au_eqF, nI_clamp, nI_1, nI_add, pk_mul, au_sub1, au_subc, au_up2e, au_up2n, lit_of, rf_29_2, sh_38, sh_29, litI]
    obtain ⟨g1, g2, g3, g4⟩ := lit_it p hp
    rw [g1, g2]
    have key : ∀ x, x = iI (sgOf p) → ACall (d + 1) 22 [.ref (B + 3), .int 2, .int x, .int (nI (ownL (sgOf p)))] (G0 Ln) I J (fun v G I J => AW (d + 1) ((G0 Ln).1, (G0 Ln).2.1) K 54 70 [.ref 29, .ref (B + 3), .int (nI (2 ^ p)), .int (nI p), .int (nI (p % 12 + 1)), .int x] (psh v [.int (nI p), .ref 38]) G I J) := by
      intro x hx2
      by_cases h15 : S.1.length = 1500
      · have hlit : litP (2 ^ p) S = none := by rw [hlit]; unfold comes; rw [if_pos h15]
        rw [C_addNodeF hB h15 h1.1]
        simp (disch := omega) only [aw_iastore (pc2 := 71) D54_70 rfl, aw_aload_0 (pc2 := 72) D54_71 rfl, aw_getR (pc2 := 75) (ci := 3) (fk := 2) D54_72 rfl fT_3_24 rfl, aw_iload_3 (pc2 := 76) D54_75 rfl, aw_iaload (pc2 := 77) D54_76 rfl, aw_iret D54_77 rfl, refV_s, refV_n, psh_s, psh_n, kil_i, kil_r, kil_n, kil_l, cat_i, cat_r, iOK_1, iOK_5, jOK_2, jOK_6, wOK_e, lOK_1, lOK_2, lOK_3, lOK_4, lOK_5, lOK_6, catS_0, catS_1, catS_2, catS_3, catS_4, and_self, true_and, and_true, true_or, or_true, false_or, or_false, not_true_eq_false, not_false_eq_true, if_true, if_false, ite_int, ite_int0, au_10, eq_self, decide_true, decide_false, Bool.true_and, Bool.false_and, au_in, au_le, au_lt, au_eq, au_lt0, au_ge0, au_le0, au_gt0, au_eq0, au_leT, au_leF, au_ltT, au_ltF, au_eqT, au_eqF, nI_clamp, nI_1, nI_add, pk_mul, au_sub1, au_subc, au_up2e, au_up2n, lit_of, rf_29_2, sh_38, sh_29, psh]
        refine hx _ _ hlit (fun a a1 a2 => by simp (disch := omega) only [au_up2c]) (fun k k1 => by simp (disch := omega) only [au_up2n]) ⟨?_, ?_⟩
        · simp (disch := omega) only [au_up2n, au_up2e]
        · simp (disch := omega) only [au_up2n]; rw [h1.1, h15]
      · have hlit : litP (2 ^ p) S = some (S.1.length, (S.1 ++ [(2, sgOf p, [])], S.2.1, up1 S.2.2.1 p (some S.1.length), S.2.2.2)) := by rw [hlit]; unfold comes; rw [if_neg h15]
        refine C_addNode (k := 2) hB (by omega) (by decide) hx2 h1 (fun I' f1 f2 f3 => ?_)
        simp (disch := omega) only [aw_iastore (pc2 := 71) D54_70 rfl, aw_aload_0 (pc2 := 72) D54_71 rfl, aw_getR (pc2 := 75) (ci := 3) (fk := 2) D54_72 rfl fT_3_24 rfl, aw_iload_3 (pc2 := 76) D54_75 rfl, aw_iaload (pc2 := 77) D54_76 rfl, aw_iret D54_77 rfl, refV_s, refV_n, psh_s, psh_n, kil_i, kil_r, kil_n, kil_l, cat_i, cat_r, iOK_1, iOK_5, jOK_2, jOK_6, wOK_e, lOK_1, lOK_2, lOK_3, lOK_4, lOK_5, lOK_6, catS_0, catS_1, catS_2, catS_3, catS_4, and_self, true_and, and_true, true_or, or_true, false_or, or_false, not_true_eq_false, not_false_eq_true, if_true, if_false, ite_int, ite_int0, au_10, eq_self, decide_true, decide_false, Bool.true_and, Bool.false_and, au_in, au_le, au_lt, au_eq, au_lt0, au_ge0, au_le0, au_gt0, au_eq0, au_leT, au_leF, au_ltT, au_ltF, au_eqT, au_eqF, nI_clamp, nI_1, nI_add, pk_mul, au_sub1, au_subc, au_up2e, au_up2n, lit_of, rf_29_2, sh_38, sh_29, psh]
        refine hs _ _ _ hlit (fun a a1 a2 => ?_) (fun k k1 => ?_) ⟨?_, ?_, ?_, fun i hi => ?_, ?_⟩
        · simp (disch := omega) only [au_up2c]; exact f1.1 a (by omega) (by omega) (by omega) (by omega) (by omega) (by omega)
        · simp (disch := omega) only [au_up2c]
          by_cases k11 : k = 11
          · rw [k11]; exact f2
          · exact f1.2 k k1 k11
        · exact grC_cong (fun a _ _ => by simp (disch := omega) only [au_up2c]) (by simp (disch := omega) only [au_up2c]) f3
        · simp (disch := omega) only [au_up2c]; rw [f1.2 10 (by decide) (by decide)]; exact h2
        · simp (disch := omega) only [au_up2c]; rw [f2]; exact h3
        · show _ = litI (up1 S.2.2.1 p (some S.1.length) i)
          unfold up1
          by_cases ei : i = p
          · rw [if_pos ei]; simp (disch := omega) only [ei, au_up2e]; rfl
          · rw [if_neg ei]; simp (disch := omega) only [au_up2n]; rw [f1.1 38 (by omega) (by omega) (by omega) (by omega) (by omega) (by omega)]; exact h4 i hi
        · exact mtC_cong (fun a _ _ => by simp (disch := omega) only [au_up2c]; exact f1.1 a (by omega) (by omega) (by omega) (by omega) (by omega) (by omega)) h5
    by_cases h12 : (12 : Int32) ≤ nI p
    · rw [if_pos h12]
      exact ⟨by decide, hB.1.2.2.2.1, key _ (g3 h12)⟩
    · rw [if_neg h12]
      exact ⟨by decide, hB.1.2.2.2.1, key _ (g4 h12)⟩
theorem C_litOfS {p : Nat} (hB : BF Ln B) (hBl : B + 13 < 29) (hp : p < 24) (h : spt B I) (hx : ∀ v I', (∀ a, a ≠ 38 → (a < B + 3 ∨ B + 8 < a) → I' a = I a) → (∀ k, k ≠ 11 → I' (B + 3) k = I (B + 3) k) → spt B I' → K (some (.int v)) (G0 Ln) I' J) : ACall (d + 2) 54 [.ref 29, .ref (B + 3), .int (nI (2 ^ p))] (G0 Ln) I J K := by
  rw [ACall_0 (L0 := [.ref 29, .ref (B + 3), .int (nI (2 ^ p)), nv, nv, nv]) (show mcs 54 = (0, 0) from rfl) (show entL 54 [.ref 29, .ref (B + 3), .int (nI (2 ^ p))] = _ from rfl) rfl (Nat.le_of_ble_eq_true rfl)]
  have hp2 : 2 ^ p < 2 ^ 24 := Nat.pow_lt_pow_right (by decide) hp
  have hp3 : 0 < 2 ^ p := Nat.two_pow_pos p
  simp (disch := omega) only [aw_iload_2 (pc2 := 1) D54_0 rfl, aw_iconst (pc2 := 2) (y := 1) D54_1 rfl (by decide), aw_isub (pc2 := 3) D54_2 rfl, aw_is1_2 (pc2 := 6) D54_3 rfl cT_3_142 rfl, aw_istore_3 (pc2 := 7) D54_6 rfl, aw_iload_3 (pc2 := 8) D54_7 rfl, aw_aload_0 (pc2 := 9) D54_8 rfl, aw_getR (pc2 := 12) (ci := 3) (fk := 2) D54_9 rfl fT_3_24 rfl, aw_alen (pc2 := 13) D54_12 rfl, aw_icmp_lt (pc2 := 16) (t := 18) D54_13 (by decide) rfl, aw_iconst (pc2 := 17) (y := 1) D54_16 rfl (by decide), aw_iret D54_17 rfl, aw_aload_0 (pc2 := 19) D54_18 rfl, aw_getR (pc2 := 22) (ci := 3) (fk := 2) D54_19 rfl fT_3_24 rfl, aw_iload_3 (pc2 := 23) D54_22 rfl, aw_iaload (pc2 := 24) D54_23 rfl, aw_iconst (pc2 := 25) (y := -1) D54_24 rfl (by decide), aw_icmp_ne (pc2 := 28) (t := 71) D54_25 (by decide) rfl, refV_s, refV_n, psh_s, psh_n, kil_i, kil_r, kil_n, kil_l, cat_i, cat_r, iOK_1, iOK_5, jOK_2, jOK_6, wOK_e, lOK_1, lOK_2, lOK_3, lOK_4, lOK_5, lOK_6, catS_0, catS_1, catS_2, catS_3, catS_4, and_self, true_and, and_true, true_or, or_true, false_or, or_false, not_true_eq_false, not_false_eq_true, if_true, if_false, ite_int, ite_int0, au_10, eq_self, decide_true, decide_false, Bool.true_and, Bool.false_and, au_in, au_le, au_lt, au_eq, au_lt0, au_ge0, au_le0, au_gt0, au_eq0, au_leT, au_leF, au_ltT, au_ltF, au_eqT, au_eqF, nI_clamp, nI_1, nI_add, pk_mul, au_sub1, au_subc, au_up2e, au_up2n, lit_of, P_int, lit_pl p hp, rf_29_2, sh_38, sh_29]
  by_cases e : I 38 p = -1
  · rw [if_neg (fun q => q e)]
    simp (disch := omega) only [aw_iload_3 (pc2 := 29) D54_28 rfl, aw_bipush (pc2 := 31) (y := 12) D54_29 rfl (by decide), aw_irem (pc2 := 32) D54_31 rfl, aw_iconst (pc2 := 33) (y := 1) D54_32 rfl (by decide), aw_iadd (pc2 := 34) D54_33 rfl, aw_istore_4 (pc2 := 36) D54_34 rfl, aw_iload_3 (pc2 := 37) D54_36 rfl, aw_bipush (pc2 := 39) (y := 12) D54_37 rfl (by decide), aw_icmp_ge (pc2 := 42) (t := 47) D54_39 (by decide) rfl, aw_iload_4 (pc2 := 44) D54_42 rfl, aw_goto (t := 50) D54_44 (by decide), aw_iload_4 (pc2 := 49) D54_47 rfl, aw_ineg (pc2 := 50) D54_49 rfl, aw_istore_5 (pc2 := 52) D54_50 rfl, aw_aload_0 (pc2 := 53) D54_52 rfl, aw_getR (pc2 := 56) (ci := 3) (fk := 2) D54_53 rfl fT_3_24 rfl, aw_iload_3 (pc2 := 57) D54_56 rfl, aw_aload_1 (pc2 := 58) D54_57 rfl, aw_iconst (pc2 := 59) (y := 2) D54_58 rfl (by decide), aw_iload_5 (pc2 := 61) D54_59 rfl, aw_iconst (pc2 := 62) (y := 1) D54_61 rfl (by decide), aw_iload_4 (pc2 := 64) D54_62 rfl, aw_iconst (pc2 := 65) (y := 1) D54_64 rfl (by decide), aw_isub (pc2 := 66) D54_65 rfl, aw_ishl (pc2 := 67) D54_66 rfl, aw_iv3_0 (pc2 := 70) (o := 1) D54_67 rfl cT_3_115 rfl rfl, refV_s, refV_n, psh_s, psh_n, kil_i, kil_r, kil_n, kil_l, cat_i, cat_r, iOK_1, iOK_5, jOK_2, jOK_6, wOK_e, lOK_1, lOK_2, lOK_3, lOK_4, lOK_5, lOK_6, catS_0, catS_1, catS_2, catS_3, catS_4, and_self, true_and, and_true, true_or, or_true, false_or, or_false, not_true_eq_false, not_false_eq_true, if_true, if_false, ite_int, ite_int0, au_10, eq_self, decide_true, decide_false, Bool.true_and, Bool.false_and, au_in, au_le, au_lt, au_eq, au_lt0, au_ge0, au_le0, au_gt0, au_eq0, au_leT, au_leF, au_ltT, au_ltF, au_eqT, au_eqF, nI_clamp, nI_1, nI_add, pk_mul, au_sub1, au_subc, au_up2e, au_up2n, lit_of, rf_29_2, sh_38, sh_29]
    have key : ∀ x y, ACall (d + 1) 22 [.ref (B + 3), .int 2, .int x, .int y] (G0 Ln) I J (fun v G I J => AW (d + 1) ((G0 Ln).1, (G0 Ln).2.1) K 54 70 [.ref 29, .ref (B + 3), .int (nI (2 ^ p)), .int (nI p), .int (nI p - nI p / 12 * 12 + 1), .int x] (psh v [.int (nI p), .ref 38]) G I J) := by
      intro x y
      rw [C_addNodeF hB rfl h.2]
      simp (disch := omega) only [aw_iastore (pc2 := 71) D54_70 rfl, aw_aload_0 (pc2 := 72) D54_71 rfl, aw_getR (pc2 := 75) (ci := 3) (fk := 2) D54_72 rfl fT_3_24 rfl, aw_iload_3 (pc2 := 76) D54_75 rfl, aw_iaload (pc2 := 77) D54_76 rfl, aw_iret D54_77 rfl, refV_s, refV_n, psh_s, psh_n, kil_i, kil_r, kil_n, kil_l, cat_i, cat_r, iOK_1, iOK_5, jOK_2, jOK_6, wOK_e, lOK_1, lOK_2, lOK_3, lOK_4, lOK_5, lOK_6, catS_0, catS_1, catS_2, catS_3, catS_4, and_self, true_and, and_true, true_or, or_true, false_or, or_false, not_true_eq_false, not_false_eq_true, if_true, if_false, ite_int, ite_int0, au_10, eq_self, decide_true, decide_false, Bool.true_and, Bool.false_and, au_in, au_le, au_lt, au_eq, au_lt0, au_ge0, au_le0, au_gt0, au_eq0, au_leT, au_leF, au_ltT, au_ltF, au_eqT, au_eqF, nI_clamp, nI_1, nI_add, pk_mul, au_sub1, au_subc, au_up2e, au_up2n, lit_of, rf_29_2, sh_38, sh_29, psh]
      refine hx _ _ (fun a a1 a2 => by simp (disch := omega) only [au_up2c]) (fun k k1 => by simp (disch := omega) only [au_up2n]) ⟨?_, ?_⟩
      · simp (disch := omega) only [au_up2n, au_up2e]
      · simp (disch := omega) only [au_up2n]; exact h.2
    by_cases h12 : (12 : Int32) ≤ nI p
    · rw [if_pos h12]
      exact ⟨by decide, hB.1.2.2.2.1, key _ _⟩
    · rw [if_neg h12]
      exact ⟨by decide, hB.1.2.2.2.1, key _ _⟩
  · rw [if_pos e]
    simp (disch := omega) only [aw_aload_0 (pc2 := 72) D54_71 rfl, aw_getR (pc2 := 75) (ci := 3) (fk := 2) D54_72 rfl fT_3_24 rfl, aw_iload_3 (pc2 := 76) D54_75 rfl, aw_iaload (pc2 := 77) D54_76 rfl, aw_iret D54_77 rfl, refV_s, refV_n, psh_s, psh_n, kil_i, kil_r, kil_n, kil_l, cat_i, cat_r, iOK_1, iOK_5, jOK_2, jOK_6, wOK_e, lOK_1, lOK_2, lOK_3, lOK_4, lOK_5, lOK_6, catS_0, catS_1, catS_2, catS_3, catS_4, and_self, true_and, and_true, true_or, or_true, false_or, or_false, not_true_eq_false, not_false_eq_true, if_true, if_false, ite_int, ite_int0, au_10, eq_self, decide_true, decide_false, Bool.true_and, Bool.false_and, au_in, au_le, au_lt, au_eq, au_lt0, au_ge0, au_le0, au_gt0, au_eq0, au_leT, au_leF, au_ltT, au_ltF, au_eqT, au_eqF, nI_clamp, nI_1, nI_add, pk_mul, au_sub1, au_subc, au_up2e, au_up2n, lit_of, rf_29_2, sh_38, sh_29]
    exact hx _ I (fun a _ _ => rfl) (fun k _ => rfl) h
theorem C_graphAnew (hB : BF Ln B) (hK : ∀ I', (∀ a, (a < B + 3 ∨ B + 8 < a) → I' a = I a) → (∀ k, k ≠ 7 → k ≠ 8 → k ≠ 9 → k ≠ 10 → k ≠ 11 → I' (B + 3) k = I (B + 3) k) → I' (B + 3) 7 = 1 → I' (B + 3) 10 = 0 → I' (B + 3) 11 = 0 → grC B ST0.1 I' → K none (G0 Ln) I' J) : ACall (d + 2) 20 [.ref (B + 3)] (G0 Ln) I J K := by
  rw [ACall_0 (L0 := [.ref (B + 3)]) (show mcs 20 = (0, 0) from rfl) (show entL 20 [.ref (B + 3)] = _ from rfl) rfl (Nat.le_of_ble_eq_true rfl)]
  simp (disch := omega) only [aw_aload_0 (pc2 := 1) D20_0 rfl, aw_iconst (pc2 := 2) (y := 0) D20_1 rfl (by decide), aw_putI (pc2 := 5) (ci := 1) (fk := 8) D20_2 rfl fT_1_42 rfl, aw_aload_0 (pc2 := 6) D20_5 rfl, aw_iconst (pc2 := 7) (y := 0) D20_6 rfl (by decide), aw_putI (pc2 := 10) (ci := 1) (fk := 9) D20_7 rfl fT_1_46 rfl, aw_aload_0 (pc2 := 11) D20_10 rfl, aw_iconst (pc2 := 12) (y := 0) D20_11 rfl (by decide), aw_putI (pc2 := 15) (ci := 1) (fk := 10) D20_12 rfl fT_1_49 rfl, aw_aload_0 (pc2 := 16) D20_15 rfl, aw_iconst (pc2 := 17) (y := 0) D20_16 rfl (by decide), aw_putZ (pc2 := 20) (ci := 1) (fk := 11) D20_17 rfl fT_1_52 rfl, aw_aload_0 (pc2 := 21) D20_20 rfl, aw_iconst (pc2 := 22) (y := 1) D20_21 rfl (by decide), aw_putZ (pc2 := 25) (ci := 1) (fk := 7) D20_22 rfl fT_1_38 rfl, aw_aload_0 (pc2 := 26) D20_25 rfl, aw_iconst (pc2 := 27) (y := 0) D20_26 rfl (by decide), aw_iconst (pc2 := 28) (y := 0) D20_27 rfl (by decide), aw_iconst (pc2 := 29) (y := 0) D20_28 rfl (by decide), aw_iv3_0 (pc2 := 32) (o := 1) D20_29 rfl cT_1_55 rfl rfl, refV_s, refV_n, psh_s, psh_n, kil_i, kil_r, kil_n, kil_l, cat_i, cat_r, iOK_1, iOK_5, jOK_2, jOK_6, wOK_e, lOK_1, lOK_2, lOK_3, lOK_4, lOK_5, lOK_6, catS_0, catS_1, catS_2, catS_3, catS_4, and_self, true_and, and_true, true_or, or_true, false_or, or_false, not_true_eq_false, not_false_eq_true, if_true, if_false, ite_int, ite_int0, au_10, eq_self, decide_true, decide_false, Bool.true_and, Bool.false_and, au_in, au_le, au_lt, au_eq, au_lt0, au_ge0, au_le0, au_gt0, au_eq0, au_leT, au_leF, au_ltT, au_ltF, au_eqT, au_eqF, nI_clamp, nI_1, nI_add, pk_mul, au_sub1, au_subc, au_up2e, au_up2n, lit_of, hB.1.1, hB.1.2.1, hB.1.2.2.1, hB.1.2.2.2.1, hB.1.2.2.2.2.1, hB.1.2.2.2.2.2.1, hB.1.2.2.2.2.2.2.1, hB.1.2.2.2.2.2.2.2.1, hB.1.2.2.2.2.2.2.2.2.1, hB.1.2.2.2.2.2.2.2.2.2.1, hB.1.2.2.2.2.2.2.2.2.2.2.1, hB.1.2.2.2.2.2.2.2.2.2.2.2.1, hB.1.2.2.2.2.2.2.2.2.2.2.2.2.1, hB.1.2.2.2.2.2.2.2.2.2.2.2.2.2, hB.2.1, hB.2.2.1, hB.2.2.2.1, hB.2.2.2.2.1, hB.2.2.2.2.2.1, hB.2.2.2.2.2.2.1, hB.2.2.2.2.2.2.2.1, hB.2.2.2.2.2.2.2.2.1, hB.2.2.2.2.2.2.2.2.2.1, hB.2.2.2.2.2.2.2.2.2.2.1, hB.2.2.2.2.2.2.2.2.2.2.2.1, hB.2.2.2.2.2.2.2.2.2.2.2.2.1, hB.2.2.2.2.2.2.2.2.2.2.2.2.2]
  refine C_addNode (k := 0) (s := 0) (nds := []) hB (by decide) (by decide) rfl ⟨?_, fun i hi => absurd hi (Nat.not_lt_zero _)⟩ (fun I1 f1 f2 f3 => ?_)
  · simp (disch := omega) only [au_up2n, au_up2e]; rfl
  simp (disch := omega) only [aw_pop (pc2 := 33) D20_32 rfl, aw_aload_0 (pc2 := 34) D20_33 rfl, aw_iconst (pc2 := 35) (y := 1) D20_34 rfl (by decide), aw_iconst (pc2 := 36) (y := 0) D20_35 rfl (by decide), aw_iconst (pc2 := 37) (y := 0) D20_36 rfl (by decide), aw_iv3_0 (pc2 := 40) (o := 1) D20_37 rfl cT_1_55 rfl rfl, refV_s, refV_n, psh_s, psh_n, kil_i, kil_r, kil_n, kil_l, cat_i, cat_r, iOK_1, iOK_5, jOK_2, jOK_6, wOK_e, lOK_1, lOK_2, lOK_3, lOK_4, lOK_5, lOK_6, catS_0, catS_1, catS_2, catS_3, catS_4, and_self, true_and, and_true, true_or, or_true, false_or, or_false, not_true_eq_false, not_false_eq_true, if_true, if_false, ite_int, ite_int0, au_10, eq_self, decide_true, decide_false, Bool.true_and, Bool.false_and, au_in, au_le, au_lt, au_eq, au_lt0, au_ge0, au_le0, au_gt0, au_eq0, au_leT, au_leF, au_ltT, au_ltF, au_eqT, au_eqF, nI_clamp, nI_1, nI_add, pk_mul, au_sub1, au_subc, au_up2e, au_up2n, lit_of, psh, hB.1.1, hB.1.2.1, hB.1.2.2.1, hB.1.2.2.2.1, hB.1.2.2.2.2.1, hB.1.2.2.2.2.2.1, hB.1.2.2.2.2.2.2.1, hB.1.2.2.2.2.2.2.2.1, hB.1.2.2.2.2.2.2.2.2.1, hB.1.2.2.2.2.2.2.2.2.2.1, hB.1.2.2.2.2.2.2.2.2.2.2.1, hB.1.2.2.2.2.2.2.2.2.2.2.2.1, hB.1.2.2.2.2.2.2.2.2.2.2.2.2.1, hB.1.2.2.2.2.2.2.2.2.2.2.2.2.2, hB.2.1, hB.2.2.1, hB.2.2.2.1, hB.2.2.2.2.1, hB.2.2.2.2.2.1, hB.2.2.2.2.2.2.1, hB.2.2.2.2.2.2.2.1, hB.2.2.2.2.2.2.2.2.1, hB.2.2.2.2.2.2.2.2.2.1, hB.2.2.2.2.2.2.2.2.2.2.1, hB.2.2.2.2.2.2.2.2.2.2.2.1, hB.2.2.2.2.2.2.2.2.2.2.2.2.1, hB.2.2.2.2.2.2.2.2.2.2.2.2.2]
  refine C_addNode (k := 1) (s := 0) hB (by decide) (by decide) rfl f3 (fun I2 g1 g2 g3 => ?_)
  simp (disch := omega) only [aw_pop (pc2 := 41) D20_40 rfl, aw_vret D20_41 rfl, refV_s, refV_n, psh_s, psh_n, kil_i, kil_r, kil_n, kil_l, cat_i, cat_r, iOK_1, iOK_5, jOK_2, jOK_6, wOK_e, lOK_1, lOK_2, lOK_3, lOK_4, lOK_5, lOK_6, catS_0, catS_1, catS_2, catS_3, catS_4, and_self, true_and, and_true, true_or, or_true, false_or, or_false, not_true_eq_false, not_false_eq_true, if_true, if_false, ite_int, ite_int0, au_10, eq_self, decide_true, decide_false, Bool.true_and, Bool.false_and, au_in, au_le, au_lt, au_eq, au_lt0, au_ge0, au_le0, au_gt0, au_eq0, au_leT, au_leF, au_ltT, au_ltF, au_eqT, au_eqF, nI_clamp, nI_1, nI_add, pk_mul, au_sub1, au_subc, au_up2e, au_up2n, lit_of, psh, hB.1.1, hB.1.2.1, hB.1.2.2.1, hB.1.2.2.2.1, hB.1.2.2.2.2.1, hB.1.2.2.2.2.2.1, hB.1.2.2.2.2.2.2.1, hB.1.2.2.2.2.2.2.2.1, hB.1.2.2.2.2.2.2.2.2.1, hB.1.2.2.2.2.2.2.2.2.2.1, hB.1.2.2.2.2.2.2.2.2.2.2.1, hB.1.2.2.2.2.2.2.2.2.2.2.2.1, hB.1.2.2.2.2.2.2.2.2.2.2.2.2.1, hB.1.2.2.2.2.2.2.2.2.2.2.2.2.2, hB.2.1, hB.2.2.1, hB.2.2.2.1, hB.2.2.2.2.1, hB.2.2.2.2.2.1, hB.2.2.2.2.2.2.1, hB.2.2.2.2.2.2.2.1, hB.2.2.2.2.2.2.2.2.1, hB.2.2.2.2.2.2.2.2.2.1, hB.2.2.2.2.2.2.2.2.2.2.1, hB.2.2.2.2.2.2.2.2.2.2.2.1, hB.2.2.2.2.2.2.2.2.2.2.2.2.1, hB.2.2.2.2.2.2.2.2.2.2.2.2.2]
  refine hK _ (fun a a1 => ?_) (fun k k1 k2 k3 k4 k5 => ?_) ?_ ?_ ?_ g3
  · rw [g1.1 a (by omega) (by omega) (by omega) (by omega) (by omega) (by omega), f1.1 a (by omega) (by omega) (by omega) (by omega) (by omega) (by omega)]
    simp (disch := omega) only [au_up2c]
  · rw [g1.2 k k2 k5, f1.2 k k2 k5]
    simp (disch := omega) only [au_up2n]
  · rw [g1.2 7 (by decide) (by decide), f1.2 7 (by decide) (by decide)]
    simp (disch := omega) only [au_up2n, au_up2e]
  · rw [g1.2 10 (by decide) (by decide), f1.2 10 (by decide) (by decide)]
    simp (disch := omega) only [au_up2n, au_up2e]
  · rw [g2, f2]
    simp (disch := omega) only [au_up2n, au_up2e]
end Lits
