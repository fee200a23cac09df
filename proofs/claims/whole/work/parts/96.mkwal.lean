/-! a new TruthWalk, at any geometry -/
theorem gBoo_1 {G : GT} {c : Nat} : (gBoo G c).1 = G.1 + 13 := rfl
theorem gBoo_2 {G : GT} {c : Nat} : (gBoo G c).2.1 = G.2.1 + 25712 := by
  have e := gGra_2 (G := gBoo0 G c) (c := G.1 + 2)
  have z0 : (gBoo0 G c).2.1 = G.2.1 + 76 := rfl
  show (gGra (gBoo0 G c) (G.1 + 2)).2.1 + 4 + 64 = _
  omega
theorem sh_gBoo {G : GT} {c a : Nat} (h : a < G.1) : shp (gBoo G c) a = shp G a := by
  have e0 : (gBoo0 G c).1 = G.1 + 3 := rfl
  have e1 : (gBoo1 G c).1 = G.1 + 12 := rfl
  unfold gBoo
  rw [sh_pR, sh_gRow (by rw [e1]; omega)]
  unfold gBoo1
  rw [sh_nO (by rw [pR_1, gGra_1, e0]; omega), sh_pR, sh_gGra (by rw [e0]; omega)]
  unfold gBoo0
  rw [sh_nO (by rw [pR_1, nA_1, pR_1, nA_1]; omega), sh_pR, sh_nA (by rw [pR_1, nA_1]; omega), sh_pR, sh_nA h]
def gWal1 (G : GT) (c : Nat) : GT := putR (gBoo (newO G 0) G.1) c 0 G.1
def gWal2 (G : GT) (c : Nat) : GT := putR (gBoo (newO (gWal1 G c) 0) (G.1 + 14)) c 1 (G.1 + 14)
def gWal3 (G : GT) (c : Nat) : GT := putR (gMakL (newO (gWal2 G c) 3) (G.1 + 28) 13) c 2 (G.1 + 28)
def gWal4 (G : GT) (c : Nat) : GT := newO (putR (newA (gWal3 G c) 2 4096) c 3 (G.1 + 116)) 5
def gWal5 (G : GT) (c : Nat) : GT := putR (gRow (gWal4 G c) (G.1 + 117)) c 4 (G.1 + 117)
def gWal (G : GT) (c : Nat) : GT := putR (newA (putR (newA (gWal5 G c) 1 5) c 5 (G.1 + 119)) 1 10) c 6 (G.1 + 120)
theorem gWal_n {G : GT} {c : Nat} : (gWal1 G c).1 = G.1 + 14 ∧ (gWal2 G c).1 = G.1 + 28 ∧ (gWal3 G c).1 = G.1 + 116 ∧ (gWal4 G c).1 = G.1 + 118 ∧ (gWal5 G c).1 = G.1 + 119 ∧ (gWal1 G c).2.1 = G.2.1 + 25721 ∧ (gWal2 G c).2.1 = G.2.1 + 51442 ∧ (gWal3 G c).2.1 = G.2.1 + 96700 ∧ (gWal4 G c).2.1 = G.2.1 + 100800 ∧ (gWal5 G c).2.1 = G.2.1 + 100864 := by
  have a1 : (gWal1 G c).1 = G.1 + 14 := rfl
  have a2 : (gWal2 G c).1 = G.1 + 28 := rfl
  have a3 : (gWal3 G c).1 = G.1 + 116 := by
    have := gMakL_1 (G := newO (gWal2 G c) 3) (c := G.1 + 28) 13
    have z : (newO (gWal2 G c) 3).1 = G.1 + 28 + 1 := rfl
    show (gMakL (newO (gWal2 G c) 3) (G.1 + 28) 13).1 = _
    omega
  have a4 : (gWal4 G c).1 = G.1 + 118 := by
    show (gWal3 G c).1 + 1 + 1 = _
    omega
  have a5 : (gWal5 G c).1 = G.1 + 119 := by
    show (gWal4 G c).1 + 1 = _
    omega
  have b1 : (gWal1 G c).2.1 = G.2.1 + 25721 := by
    have := gBoo_2 (G := newO G 0) (c := G.1)
    have z : (newO G 0).2.1 = G.2.1 + 9 := rfl
    show (gBoo (newO G 0) G.1).2.1 = _
    omega
  have b2 : (gWal2 G c).2.1 = G.2.1 + 51442 := by
    have := gBoo_2 (G := newO (gWal1 G c) 0) (c := G.1 + 14)
    have z : (newO (gWal1 G c) 0).2.1 = (gWal1 G c).2.1 + 9 := rfl
    show (gBoo (newO (gWal1 G c) 0) (G.1 + 14)).2.1 = _
    omega
  have b3 : (gWal3 G c).2.1 = G.2.1 + 96700 := by
    have := gMakL_2 (G := newO (gWal2 G c) 3) (c := G.1 + 28) 13
    have z : (newO (gWal2 G c) 3).2.1 = (gWal2 G c).2.1 + 4 := rfl
    show (gMakL (newO (gWal2 G c) 3) (G.1 + 28) 13).2.1 = _
    omega
  have b4 : (gWal4 G c).2.1 = G.2.1 + 100800 := by
    show (gWal3 G c).2.1 + 4096 + 4 = _
    omega
  have b5 : (gWal5 G c).2.1 = G.2.1 + 100864 := by
    show (gWal4 G c).2.1 + 64 = _
    omega
  exact ⟨a1, a2, a3, a4, a5, b1, b2, b3, b4, b5⟩
theorem gWal_s {G : GT} {c a : Nat} (h : a < G.1) (hc : c < G.1) : shp (gWal1 G c) a = shp G a ∧ shp (gWal2 G c) a = shp G a ∧ shp (gWal3 G c) a = shp G a ∧ shp (gWal4 G c) a = shp G a ∧ shp (gWal5 G c) a = shp G a := by
  obtain ⟨n1, n2, n3, n4, n5, -⟩ := gWal_n (G := G) (c := c)
  have a1 : shp (gWal1 G c) a = shp G a := by
    unfold gWal1
    rw [sh_pR, sh_gBoo (by rw [nO_1]; omega), sh_nO h]
  have a2 : shp (gWal2 G c) a = shp G a := by
    unfold gWal2
    rw [sh_pR, sh_gBoo (by rw [nO_1, n1]; omega), sh_nO (by omega), a1]
  have a3 : shp (gWal3 G c) a = shp G a := by
    unfold gWal3
    rw [sh_pR, (gMakL_s (G := newO (gWal2 G c) 3) (c := G.1 + 28) (by rw [nO_1, n2]; omega) 13).1 a (by rw [nO_1, n2]; omega), sh_nO (by omega), a2]
  have a4 : shp (gWal4 G c) a = shp G a := by
    unfold gWal4
    rw [sh_nO (by rw [pR_1, nA_1, n3]; omega), sh_pR, sh_nA (by omega), a3]
  have a5 : shp (gWal5 G c) a = shp G a := by
    unfold gWal5
    rw [sh_pR, sh_gRow (by omega), a4]
  exact ⟨a1, a2, a3, a4, a5⟩
section MkWal
variable {d c : Nat} {G : GT} {I : IT} {J : JT} {K : KT}
theorem N_wal (hG : G.1 < 1000) (hc : shp G c = (0, 6)) (hlt : c < G.1) (hk : ∀ I' J', frI G.1 c I I' → frJ G.1 J J' → (∀ B, B = G.1 ∨ B = G.1 + 14 → I' B 4 = 8 ∧ I' B 5 = 0 ∧ I' B 6 = 0 ∧ I' B 7 = 0 ∧ I' B 8 = 0 ∧ ∀ p, p < 24 → I' (B + 2) p = 1) → I' c 8 = 0 → I' c 9 = -1 → (∀ k, I' (G.1 + 120) k = 0) → K none (gWal G c) I' J') : ACall (d + 4) 74 [.ref c] G I J K := by
  refine ACall_entry.mpr ⟨⟨rfl, Nat.le_of_ble_eq_true rfl⟩, ?_⟩
  rw [show entL 74 [.ref c] = [.ref c] from rfl]
  obtain ⟨n1, n2, n3, n4, n5, m1, m2, m3, m4, m5⟩ := gWal_n (G := G) (c := c)
  obtain ⟨s1, s2, s3, s4, s5⟩ := gWal_s hlt hlt
  rw [hc] at s1 s2 s3 s4 s5
  simp (disch := first | omega | (simp only [nA_1, nO_1, pR_1]; omega)) only [Nat.reduceAdd, aw_aload_0 (pc2 := 1) D74_0 rfl, aw_aloadN_0 (pc2 := 1) D74_0 rfl, aw_obj (pc2 := 4) D74_1 rfl cT_6_3, aw_aload_0 (pc2 := 5) D74_4 rfl, aw_aloadN_0 (pc2 := 5) D74_4 rfl, aw_new (pc2 := 8) (ci := 0) D74_5 rfl (by decide), aw_dup (pc2 := 9) D74_8 rfl, aw_ii0_4 (pc2 := 12) D74_9 rfl cT_6_11 rfl, refV_s, refV_n, psh_s, psh_n, kil_i, kil_r, kil_n, kil_l, cat_i, cat_r, iOK_1, iOK_5, jOK_2, jOK_6, wOK_e, lOK_1, lOK_2, lOK_3, lOK_4, lOK_5, lOK_6, catS_0, catS_1, catS_2, catS_3, catS_4, and_self, true_and, and_true, true_or, or_true, false_or, or_false, not_true_eq_false, not_false_eq_true, if_true, if_false, ite_int, ite_int0, au_10, eq_self, decide_true, decide_false, Bool.true_and, Bool.false_and, au_in, au_le, au_lt, au_eq, au_lt0, au_ge0, au_le0, au_gt0, au_eq0, au_leT, au_leF, au_ltT, au_ltF, au_eqT, au_eqF, nI_clamp, nI_1, nI_add, pk_mul, au_sub1, au_subc, au_up2e, au_up2n, lit_of, nA_1, nA_2, nO_1, nO_2, pR_1, pR_2, sh_pR, sh_nA, sh_nAe, mc_74, mc_0, nf_0, hc, Nat.add_assoc]
  refine N_boo (d := d) (G := newO G 0) (c := G.1) (by rw [nO_1]; omega) (sh_nOe rfl) (by rw [nO_1]; omega) (fun I1 J1 f1 g1 p4 p5 p6 p7 p8 pw => ?_)
  have u1 : shp (gBoo (newO G 0) G.1) c = (0, 6) := s1
  have v1 : putR (gBoo (newO G 0) G.1) c 0 G.1 = gWal1 G c := rfl
  simp (disch := first | omega | (simp only [nA_1, nO_1, pR_1]; omega)) only [Nat.reduceAdd, aw_putR (pc2 := 15) (ci := 6) (fk := 0) D74_12 rfl fT_6_12 ⟨rfl, rfl, rfl⟩, aw_aload_0 (pc2 := 16) D74_15 rfl, aw_aloadN_0 (pc2 := 16) D74_15 rfl, aw_new (pc2 := 19) (ci := 0) D74_16 rfl (by decide), aw_dup (pc2 := 20) D74_19 rfl, aw_ii0_4 (pc2 := 23) D74_20 rfl cT_6_11 rfl, refV_s, refV_n, psh_s, psh_n, kil_i, kil_r, kil_n, kil_l, cat_i, cat_r, iOK_1, iOK_5, jOK_2, jOK_6, wOK_e, lOK_1, lOK_2, lOK_3, lOK_4, lOK_5, lOK_6, catS_0, catS_1, catS_2, catS_3, catS_4, and_self, true_and, and_true, true_or, or_true, false_or, or_false, not_true_eq_false, not_false_eq_true, if_true, if_false, ite_int, ite_int0, au_10, eq_self, decide_true, decide_false, Bool.true_and, Bool.false_and, au_in, au_le, au_lt, au_eq, au_lt0, au_ge0, au_le0, au_gt0, au_eq0, au_leT, au_leF, au_ltT, au_ltF, au_eqT, au_eqF, nI_clamp, nI_1, nI_add, pk_mul, au_sub1, au_subc, au_up2e, au_up2n, lit_of, psh, u1, v1, n1, m1, nO_1, nO_2, mc_74, mc_0, nf_0, Nat.add_assoc]
  refine N_boo (d := d) (G := newO (gWal1 G c) 0) (c := G.1 + 14) (by rw [nO_1, n1]; omega) (sh_nOe n1.symm) (by rw [nO_1, n1]; omega) (fun I2 J2 f2 g2 q4 q5 q6 q7 q8 qw => ?_)
  have u2 : shp (gBoo (newO (gWal1 G c) 0) (G.1 + 14)) c = (0, 6) := s2
  have v2 : putR (gBoo (newO (gWal1 G c) 0) (G.1 + 14)) c 1 (G.1 + 14) = gWal2 G c := rfl
  simp (disch := first | omega | (simp only [nA_1, nO_1, pR_1]; omega)) only [Nat.reduceAdd, aw_putR (pc2 := 26) (ci := 6) (fk := 1) D74_23 rfl fT_6_16 ⟨rfl, rfl, rfl⟩, aw_aload_0 (pc2 := 27) D74_26 rfl, aw_aloadN_0 (pc2 := 27) D74_26 rfl, aw_new (pc2 := 30) (ci := 3) D74_27 rfl (by decide), aw_dup (pc2 := 31) D74_30 rfl, aw_ii0_4 (pc2 := 34) D74_31 rfl cT_6_21 rfl, refV_s, refV_n, psh_s, psh_n, kil_i, kil_r, kil_n, kil_l, cat_i, cat_r, iOK_1, iOK_5, jOK_2, jOK_6, wOK_e, lOK_1, lOK_2, lOK_3, lOK_4, lOK_5, lOK_6, catS_0, catS_1, catS_2, catS_3, catS_4, and_self, true_and, and_true, true_or, or_true, false_or, or_false, not_true_eq_false, not_false_eq_true, if_true, if_false, ite_int, ite_int0, au_10, eq_self, decide_true, decide_false, Bool.true_and, Bool.false_and, au_in, au_le, au_lt, au_eq, au_lt0, au_ge0, au_le0, au_gt0, au_eq0, au_leT, au_leF, au_ltT, au_ltF, au_eqT, au_eqF, nI_clamp, nI_1, nI_add, pk_mul, au_sub1, au_subc, au_up2e, au_up2n, lit_of, psh, u2, v2, n2, m2, nO_1, nO_2, mc_74, mc_48, nf_3, Nat.add_assoc]
  refine N_mak (d := d + 1) (G := newO (gWal2 G c) 3) (c := G.1 + 28) (by rw [nO_1, n2]; omega) (sh_nOe n2.symm) (by rw [nO_1, n2]; omega) (fun I3 f3 => ?_)
  have u3 : shp (gMakL (newO (gWal2 G c) 3) (G.1 + 28) 13) c = (0, 6) := s3
  have v3 : putR (gMakL (newO (gWal2 G c) 3) (G.1 + 28) 13) c 2 (G.1 + 28) = gWal3 G c := rfl
  simp (disch := first | omega | (simp only [nA_1, nO_1, pR_1, n3]; omega)) only [Nat.reduceAdd, aw_putR (pc2 := 37) (ci := 6) (fk := 2) D74_34 rfl fT_6_22 ⟨rfl, rfl, rfl⟩, aw_aload_0 (pc2 := 38) D74_37 rfl, aw_aloadN_0 (pc2 := 38) D74_37 rfl, aw_sipush (pc2 := 41) (y := 4096) D74_38 rfl (by decide), aw_newa_long (pc2 := 43) (x := 4096) (N := 4096) D74_41 rfl (by decide) (by decide), aw_putR (pc2 := 46) (ci := 6) (fk := 3) D74_43 rfl fT_6_26 ⟨rfl, rfl, rfl⟩, aw_aload_0 (pc2 := 47) D74_46 rfl, aw_aloadN_0 (pc2 := 47) D74_46 rfl, aw_new (pc2 := 50) (ci := 5) D74_47 rfl (by decide), aw_dup (pc2 := 51) D74_50 rfl, aw_ii0_5 (pc2 := 54) D74_51 rfl cT_6_32 rfl, refV_s, refV_n, psh_s, psh_n, kil_i, kil_r, kil_n, kil_l, cat_i, cat_r, iOK_1, iOK_5, jOK_2, jOK_6, wOK_e, lOK_1, lOK_2, lOK_3, lOK_4, lOK_5, lOK_6, catS_0, catS_1, catS_2, catS_3, catS_4, and_self, true_and, and_true, true_or, or_true, false_or, or_false, not_true_eq_false, not_false_eq_true, if_true, if_false, ite_int, ite_int0, au_10, eq_self, decide_true, decide_false, Bool.true_and, Bool.false_and, au_in, au_le, au_lt, au_eq, au_lt0, au_ge0, au_le0, au_gt0, au_eq0, au_leT, au_leF, au_ltT, au_ltF, au_eqT, au_eqF, nI_clamp, nI_1, nI_add, pk_mul, au_sub1, au_subc, au_up2e, au_up2n, lit_of, psh, u3, v3, s3, n3, m3, nA_1, nA_2, nO_1, nO_2, pR_1, pR_2, sh_pR, sh_nA, sh_nAe, mc_74, mc_61, nf_5, Nat.add_assoc]
  refine N_row (d := d + 2) (G := gWal4 G c) (c := G.1 + 117) (by omega) (sh_nOe (by rw [pR_1, nA_1, n3])) (by omega) (fun I4 J4 f4 g4 => ?_)
  have u4 : shp (gRow (gWal4 G c) (G.1 + 117)) c = (0, 6) := s5
  have v4 : putR (gRow (gWal4 G c) (G.1 + 117)) c 4 (G.1 + 117) = gWal5 G c := rfl
  have hz : G.2.1 + 100864 + 5 + 10 = G.2.1 + 100879 := by omega
  simp (disch := first | omega | (simp only [nA_1, nO_1, pR_1, n5]; omega)) only [Nat.reduceAdd, aw_putR (pc2 := 57) (ci := 6) (fk := 4) D74_54 rfl fT_6_33 ⟨rfl, rfl, rfl⟩, aw_aload_0 (pc2 := 58) D74_57 rfl, aw_aloadN_0 (pc2 := 58) D74_57 rfl, aw_iconst (pc2 := 59) (y := 5) D74_58 rfl (by decide), aw_newa_int (pc2 := 61) (x := 5) (N := 5) D74_59 rfl (by decide) (by decide), aw_putR (pc2 := 64) (ci := 6) (fk := 5) D74_61 rfl fT_6_37 ⟨rfl, rfl, rfl⟩, aw_aload_0 (pc2 := 65) D74_64 rfl, aw_aloadN_0 (pc2 := 65) D74_64 rfl, aw_bipush (pc2 := 67) (y := 10) D74_65 rfl (by decide), aw_newa_int (pc2 := 69) (x := 10) (N := 10) D74_67 rfl (by decide) (by decide), aw_putR (pc2 := 72) (ci := 6) (fk := 6) D74_69 rfl fT_6_41 ⟨rfl, rfl, rfl⟩, aw_aload_0 (pc2 := 73) D74_72 rfl, aw_aloadN_0 (pc2 := 73) D74_72 rfl, aw_iconst (pc2 := 74) (y := 0) D74_73 rfl (by decide), aw_putI (pc2 := 77) (ci := 6) (fk := 7) D74_74 rfl fT_6_44 rfl, aw_aload_0 (pc2 := 78) D74_77 rfl, aw_aloadN_0 (pc2 := 78) D74_77 rfl, aw_iconst (pc2 := 79) (y := 0) D74_78 rfl (by decide), aw_putZ (pc2 := 82) (ci := 6) (fk := 8) D74_79 rfl fT_6_48 rfl, aw_aload_0 (pc2 := 83) D74_82 rfl, aw_aloadN_0 (pc2 := 83) D74_82 rfl, aw_iconst (pc2 := 84) (y := -1) D74_83 rfl (by decide), aw_putI (pc2 := 87) (ci := 6) (fk := 9) D74_84 rfl fT_6_52 rfl, aw_vret D74_87 rfl, refV_s, refV_n, psh_s, psh_n, kil_i, kil_r, kil_n, kil_l, cat_i, cat_r, iOK_1, iOK_5, jOK_2, jOK_6, wOK_e, lOK_1, lOK_2, lOK_3, lOK_4, lOK_5, lOK_6, catS_0, catS_1, catS_2, catS_3, catS_4, and_self, true_and, and_true, true_or, or_true, false_or, or_false, not_true_eq_false, not_false_eq_true, if_true, if_false, ite_int, ite_int0, au_10, eq_self, decide_true, decide_false, Bool.true_and, Bool.false_and, au_in, au_le, au_lt, au_eq, au_lt0, au_ge0, au_le0, au_gt0, au_eq0, au_leT, au_leF, au_ltT, au_ltF, au_eqT, au_eqF, nI_clamp, nI_1, nI_add, pk_mul, au_sub1, au_subc, au_up2e, au_up2n, lit_of, psh, u4, v4, s5, n5, m5, nA_1, nA_2, nO_1, nO_2, pR_1, pR_2, sh_pR, sh_nA, sh_nAe, mc_74, Nat.add_assoc]
  have k4 : ∀ a, (a < G.1 + 118 ∨ a = scrC) → a ≠ G.1 + 117 → I4 a = (up1 I3 (G.1 + 117) (fun _ => 0)) a := fun a a1 a2 => f4 a (by rw [n4]; exact a1) a2
  have k3 : ∀ a, (a < G.1 + 29 ∨ a = scrC) → a ≠ G.1 + 28 → I3 a = (up1 I2 (G.1 + 28) (fun _ => 0)) a := fun a a1 a2 => f3 a (by rw [nO_1, n2]; exact a1) a2
  have k2 : ∀ a, (a < G.1 + 15 ∨ a = scrC) → a ≠ G.1 + 14 → I2 a = (up1 I1 (G.1 + 14) (fun _ => 0)) a := fun a a1 a2 => f2 a (by rw [nO_1, n1]; exact a1) a2
  have k1 : ∀ a, (a < G.1 + 1 ∨ a = scrC) → a ≠ G.1 → I1 a = (up1 I G.1 (fun _ => 0)) a := fun a a1 a2 => f1 a (by rw [nO_1]; exact a1) a2
  have e2 : ∀ a, (a < G.1 + 28 ∨ a = scrC) → I4 a = I2 a := fun a a1 => by
    unfold scrC at *
    rw [k4 a (by omega) (by omega), up1_off (by omega), k3 a (by omega) (by omega), up1_off (by omega)]
  have e1 : ∀ a, (a < G.1 + 14 ∨ a = scrC) → I4 a = I1 a := fun a a1 => by
    unfold scrC at *
    rw [e2 a (by omega), k2 a (by omega) (by omega), up1_off (by omega)]
  have e0 : ∀ a, (a < G.1 ∨ a = scrC) → I4 a = I a := fun a a1 => by
    unfold scrC at *
    rw [e1 a (by omega), k1 a (by omega) (by omega), up1_off (by omega)]
  refine hk _ _ (fun a a1 a2 => ?_) (fun a a1 => ?_) (fun B hB => ?_) ?_ ?_ (fun k => ?_)
  · rw [up2_off a2, up2_off a2, up2_off a2]
    have := e0 a a1
    unfold scrC at a1
    simp (disch := omega) only [up1_off, this]
  · unfold patC at a1
    rw [g4 a (by unfold patC; omega), up1_off (by omega), g2 a (by unfold patC; rw [nO_1, n1]; omega), g1 a (by unfold patC; rw [nO_1]; omega)]
  · rcases hB with rfl | rfl
    · refine ⟨?_, ?_, ?_, ?_, ?_, fun p hp => ?_⟩
      · simp (disch := omega) only [up2_off, up1_off]; rw [e1 _ (by omega)]; exact p4
      · simp (disch := omega) only [up2_off, up1_off]; rw [e1 _ (by omega)]; exact p5
      · simp (disch := omega) only [up2_off, up1_off]; rw [e1 _ (by omega)]; exact p6
      · simp (disch := omega) only [up2_off, up1_off]; rw [e1 _ (by omega)]; exact p7
      · simp (disch := omega) only [up2_off, up1_off]; rw [e1 _ (by omega)]; exact p8
      · simp (disch := omega) only [up2_off, up1_off]; rw [e1 _ (by omega)]; exact pw p hp
    · refine ⟨?_, ?_, ?_, ?_, ?_, fun p hp => ?_⟩
      · simp (disch := omega) only [up2_off, up1_off]; rw [e2 _ (by omega)]; exact q4
      · simp (disch := omega) only [up2_off, up1_off]; rw [e2 _ (by omega)]; exact q5
      · simp (disch := omega) only [up2_off, up1_off]; rw [e2 _ (by omega)]; exact q6
      · simp (disch := omega) only [up2_off, up1_off]; rw [e2 _ (by omega)]; exact q7
      · simp (disch := omega) only [up2_off, up1_off]; rw [e2 _ (by omega)]; exact q8
      · simp (disch := omega) only [up2_off, up1_off]; rw [e2 _ (by omega)]
        have := qw p hp
        rw [nO_1, n1] at this
        exact this
  · simp (disch := omega) only [au_up2n, au_up2e]
  · simp (disch := omega) only [au_up2n, au_up2e]
  · simp (disch := omega) only [up2_off, up1_at]
end MkWal
