/-! a new maker, at any geometry -/
def gMak0 (G : GT) (c : Nat) : GT := newO (putR (newA G 4 13) c 0 G.1) 4
def gMak1 (G : GT) (c : Nat) : GT := putR (newA (putR (gMet (gMak0 G c) (G.1 + 1)) c 1 (G.1 + 1)) 1 24) c 2 (G.1 + 8)
def gMakL (G : GT) (c : Nat) : Nat → GT
  | 0 => gMak1 G c
  | i + 1 => putR (gLev (newO (gMakL G c i) 2) (G.1 + 9 + 6 * i)) G.1 i (G.1 + 9 + 6 * i)
theorem gMakL_1 {G : GT} {c : Nat} : ∀ i, (gMakL G c i).1 = G.1 + 9 + 6 * i
  | 0 => rfl
  | i + 1 => by
    have := gMakL_1 (G := G) (c := c) i
    show (gMakL G c i).1 + 1 + 5 = _
    omega
theorem gMakL_2 {G : GT} {c : Nat} : ∀ i, (gMakL G c i).2.1 = G.2.1 + 43265 + 153 * i
  | 0 => by
    have e := gMet_2 (G := gMak0 G c) (c := G.1 + 1)
    have z : (gMak0 G c).2.1 = G.2.1 + 13 + 8 := rfl
    show (gMet (gMak0 G c) (G.1 + 1)).2.1 + 24 = _
    omega
  | i + 1 => by
    have := gMakL_2 (G := G) (c := c) i
    have e := gLev_2 (G := newO (gMakL G c i) 2) (c := G.1 + 9 + 6 * i)
    have z : (newO (gMakL G c i) 2).2.1 = (gMakL G c i).2.1 + 9 := rfl
    show (gLev (newO (gMakL G c i) 2) (G.1 + 9 + 6 * i)).2.1 = _
    omega
theorem gMakL_s {G : GT} {c : Nat} (hlt : c < G.1) : ∀ i, (∀ a, a < G.1 → shp (gMakL G c i) a = shp G a) ∧ shp (gMakL G c i) G.1 = (4, 13) ∧ (gMakL G c i).2.2.2 c 0 = some G.1
  | 0 => by
    have e0 : (gMak0 G c).1 = G.1 + 2 := rfl
    refine ⟨fun a ha => ?_, ?_, ?_⟩
    · show shp (gMak1 G c) a = _
      unfold gMak1
      rw [sh_pR, sh_nA (by rw [pR_1, gMet_1, e0]; omega), sh_pR, sh_gMet (by rw [e0]; omega)]
      unfold gMak0
      rw [sh_nO (by rw [pR_1, nA_1]; omega), sh_pR, sh_nA ha]
    · show shp (gMak1 G c) G.1 = _
      unfold gMak1
      rw [sh_pR, sh_nA (by rw [pR_1, gMet_1, e0]; omega), sh_pR, sh_gMet (by rw [e0]; omega)]
      unfold gMak0
      rw [sh_nO (by rw [pR_1, nA_1]; omega), sh_pR]
      exact sh_nAe rfl
    · show (gMak1 G c).2.2.2 c 0 = _
      unfold gMak1
      rw [rR_n (Or.inr (by decide)), rA_n (by rw [pR_1, gMet_1, e0]; omega), rR_n (Or.inr (by decide)), rf_gMet (by rw [e0]; omega) (by omega)]
      unfold gMak0
      rw [rO_n (by rw [pR_1, nA_1]; omega), rR_e]
  | i + 1 => by
    obtain ⟨a1, a2, a3⟩ := gMakL_s (G := G) hlt i
    have e := gMakL_1 (G := G) (c := c) i
    refine ⟨fun a ha => ?_, ?_, ?_⟩
    · show shp (putR (gLev (newO (gMakL G c i) 2) (G.1 + 9 + 6 * i)) G.1 i (G.1 + 9 + 6 * i)) a = _
      rw [sh_pR, sh_gLev (by rw [nO_1, e]; omega), sh_nO (by rw [e]; omega), a1 a ha]
    · show shp (putR (gLev (newO (gMakL G c i) 2) (G.1 + 9 + 6 * i)) G.1 i (G.1 + 9 + 6 * i)) G.1 = _
      rw [sh_pR, sh_gLev (by rw [nO_1, e]; omega), sh_nO (by rw [e]; omega), a2]
    · show (putR (gLev (newO (gMakL G c i) 2) (G.1 + 9 + 6 * i)) G.1 i (G.1 + 9 + 6 * i)).2.2.2 c 0 = _
      rw [rR_n (Or.inl (by omega)), rf_gLev (by rw [nO_1, e]; omega) (by omega), rO_n (by rw [e]; omega), a3]
section MkMak
variable {d c : Nat} {G : GT} {I : IT} {J : JT} {K : KT}
theorem N_mak (hG : G.1 < 700000) (hc : shp G c = (0, 3)) (hlt : c < G.1) (hk : ∀ I', frI G.1 c I I' → K none (gMakL G c 13) I' J) : ACall (d + 2) 48 [.ref c] G I J K := by
  refine ACall_entry.mpr ⟨⟨rfl, Nat.le_of_ble_eq_true rfl⟩, ?_⟩
  rw [show entL 48 [.ref c] = [.ref c, nv] from rfl]
  have e0 : (gMak0 G c).1 = G.1 + 2 := rfl
  have z0 : (gMak0 G c).2.1 = G.2.1 + 21 := rfl
  simp (disch := first | omega | (simp only [nA_1, nO_1, pR_1]; omega)) only [Nat.reduceAdd, aw_aload_0 (pc2 := 1) D48_0 rfl, aw_obj (pc2 := 4) D48_1 rfl cT_3_3, aw_aload_0 (pc2 := 5) D48_4 rfl, aw_bipush (pc2 := 7) (y := 13) D48_5 rfl (by decide), aw_newq (pc2 := 10) (x := 13) (N := 13) D48_7 rfl (by decide) (by decide) (by decide), aw_putR (pc2 := 13) (ci := 3) (fk := 0) D48_10 rfl fT_3_11 ⟨rfl, rfl, rfl⟩, aw_aload_0 (pc2 := 14) D48_13 rfl, aw_new (pc2 := 17) (ci := 4) D48_14 rfl (by decide), aw_dup (pc2 := 18) D48_17 rfl, aw_ii0_5 (pc2 := 21) D48_18 rfl cT_3_19 rfl, refV_s, refV_n, psh_s, psh_n, kil_i, kil_r, kil_n, kil_l, cat_i, cat_r, iOK_1, iOK_5, jOK_2, jOK_6, wOK_e, lOK_1, lOK_2, lOK_3, lOK_4, lOK_5, lOK_6, catS_0, catS_1, catS_2, catS_3, catS_4, and_self, true_and, and_true, true_or, or_true, false_or, or_false, not_true_eq_false, not_false_eq_true, if_true, if_false, ite_int, ite_int0, au_10, eq_self, decide_true, decide_false, Bool.true_and, Bool.false_and, au_in, au_le, au_lt, au_eq, au_lt0, au_ge0, au_le0, au_gt0, au_eq0, au_leT, au_leF, au_ltT, au_ltF, au_eqT, au_eqF, nI_clamp, nI_1, nI_add, pk_mul, au_sub1, au_subc, au_up2e, au_up2n, lit_of, nA_1, nA_2, nO_1, nO_2, pR_1, pR_2, sh_pR, sh_nA, sh_nAe, mc_48, mc_55, nf_4, hc, Nat.add_assoc]
  refine N_met (d := d) (G := gMak0 G c) (c := G.1 + 1) (by rw [e0]; omega) (sh_nOe rfl) (by rw [e0]; omega) (fun I1 f1 => ?_)
  have h0 : shp (gMet (gMak0 G c) (G.1 + 1)) c = (0, 3) := by
    rw [sh_gMet (by rw [e0]; omega)]
    unfold gMak0
    rw [sh_nO (by rw [pR_1, nA_1]; omega), sh_pR, sh_nA hlt, hc]
  simp (disch := first | omega | (simp only [nA_1, nO_1, pR_1, gMet_1, e0]; omega)) only [Nat.reduceAdd, aw_putR (pc2 := 24) (ci := 3) (fk := 1) D48_21 rfl fT_3_20 ⟨rfl, rfl, rfl⟩, aw_aload_0 (pc2 := 25) D48_24 rfl, aw_bipush (pc2 := 27) (y := 24) D48_25 rfl (by decide), aw_newa_int (pc2 := 29) (x := 24) (N := 24) D48_27 rfl (by decide) (by decide), aw_putR (pc2 := 32) (ci := 3) (fk := 2) D48_29 rfl fT_3_24 ⟨rfl, rfl, rfl⟩, aw_aload_0 (pc2 := 33) D48_32 rfl, aw_iconst (pc2 := 34) (y := 0) D48_33 rfl (by decide), aw_putI (pc2 := 37) (ci := 3) (fk := 3) D48_34 rfl fT_3_28 rfl, aw_iconst (pc2 := 38) (y := 0) D48_37 rfl (by decide), aw_istore_1 (pc2 := 39) D48_38 rfl, refV_s, refV_n, psh_s, psh_n, kil_i, kil_r, kil_n, kil_l, cat_i, cat_r, iOK_1, iOK_5, jOK_2, jOK_6, wOK_e, lOK_1, lOK_2, lOK_3, lOK_4, lOK_5, lOK_6, catS_0, catS_1, catS_2, catS_3, catS_4, and_self, true_and, and_true, true_or, or_true, false_or, or_false, not_true_eq_false, not_false_eq_true, if_true, if_false, ite_int, ite_int0, au_10, eq_self, decide_true, decide_false, Bool.true_and, Bool.false_and, au_in, au_le, au_lt, au_eq, au_lt0, au_ge0, au_le0, au_gt0, au_eq0, au_leT, au_leF, au_ltT, au_ltF, au_eqT, au_eqF, nI_clamp, nI_1, nI_add, pk_mul, au_sub1, au_subc, au_up2e, au_up2n, lit_of, psh, nA_1, nA_2, nO_1, nO_2, pR_1, pR_2, sh_pR, sh_nA, sh_nAe, gMet_1, gMet_2, e0, z0, mc_48, h0, Nat.add_assoc]
  have key : ∀ n i I', i + n = 13 → frI G.1 c I I' → AW (d + 1) (G.1 + 87, G.2.1 + 45254) K 48 39 [.ref c, .int (nI i)] [] (gMakL G c i) I' J := by
    intro n
    induction n with
    | zero =>
      intro i I' hi f
      have e : i = 13 := by omega
      subst e
      obtain ⟨a1, a2, a3⟩ := gMakL_s (G := G) hlt 13
      have e1 := gMakL_1 (G := G) (c := c) 13
      have e2 := gMakL_2 (G := G) (c := c) 13
      have hc' := (a1 c hlt).trans hc
      simp (disch := omega) only [aw_iload_1 (pc2 := 40) D48_39 rfl, aw_aload_0 (pc2 := 41) D48_40 rfl, aw_getR (pc2 := 44) (ci := 3) (fk := 0) D48_41 rfl fT_3_11 rfl, aw_alen (pc2 := 45) D48_44 rfl, aw_icmp_ge (pc2 := 48) (t := 67) D48_45 (by decide) rfl, aw_vret D48_67 rfl, refV_s, refV_n, psh_s, psh_n, kil_i, kil_r, kil_n, kil_l, cat_i, cat_r, iOK_1, iOK_5, jOK_2, jOK_6, wOK_e, lOK_1, lOK_2, lOK_3, lOK_4, lOK_5, lOK_6, catS_0, catS_1, catS_2, catS_3, catS_4, and_self, true_and, and_true, true_or, or_true, false_or, or_false, not_true_eq_false, not_false_eq_true, if_true, if_false, ite_int, ite_int0, au_10, eq_self, decide_true, decide_false, Bool.true_and, Bool.false_and, au_in, au_le, au_lt, au_eq, au_lt0, au_ge0, au_le0, au_gt0, au_eq0, au_leT, au_leF, au_ltT, au_ltF, au_eqT, au_eqF, nI_clamp, nI_1, nI_add, pk_mul, au_sub1, au_subc, au_up2e, au_up2n, lit_of, hc', a2, a3, e1, e2]
      exact hk I' f
    | succ n ih =>
      intro i I' hi f
      obtain ⟨a1, a2, a3⟩ := gMakL_s (G := G) hlt i
      have e1 := gMakL_1 (G := G) (c := c) i
      have e2 := gMakL_2 (G := G) (c := c) i
      have hc' := (a1 c hlt).trans hc
      have ihn := ih (i + 1)
      rw [aw_iload_1 (pc2 := 40) D48_39 rfl]
      simp (disch := omega) only [aw_aload_0 (pc2 := 41) D48_40 rfl, aw_getR (pc2 := 44) (ci := 3) (fk := 0) D48_41 rfl fT_3_11 rfl, aw_alen (pc2 := 45) D48_44 rfl, aw_icmp_ge (pc2 := 48) (t := 67) D48_45 (by decide) rfl, aw_aload_0 (pc2 := 49) D48_48 rfl, aw_getR (pc2 := 52) (ci := 3) (fk := 0) D48_49 rfl fT_3_11 rfl, aw_iload_1 (pc2 := 53) D48_52 rfl, aw_new (pc2 := 56) (ci := 2) D48_53 rfl (by decide), aw_dup (pc2 := 57) D48_56 rfl, aw_ii0_5 (pc2 := 60) D48_57 rfl cT_3_32 rfl, refV_s, refV_n, psh_s, psh_n, kil_i, kil_r, kil_n, kil_l, cat_i, cat_r, iOK_1, iOK_5, jOK_2, jOK_6, wOK_e, lOK_1, lOK_2, lOK_3, lOK_4, lOK_5, lOK_6, catS_0, catS_1, catS_2, catS_3, catS_4, and_self, true_and, and_true, true_or, or_true, false_or, or_false, not_true_eq_false, not_false_eq_true, if_true, if_false, ite_int, ite_int0, au_10, eq_self, decide_true, decide_false, Bool.true_and, Bool.false_and, au_in, au_le, au_lt, au_eq, au_lt0, au_ge0, au_le0, au_gt0, au_eq0, au_leT, au_leF, au_ltT, au_ltF, au_eqT, au_eqF, nI_clamp, nI_1, nI_add, pk_mul, au_sub1, au_subc, au_up2e, au_up2n, lit_of, hc', a2, a3, e1, e2, nO_1, nO_2, nf_2, mc_35]
      refine N_lev (d := d) (G := newO (gMakL G c i) 2) (c := G.1 + 9 + 6 * i) (by rw [nO_1, e1]; omega) (sh_nOe e1.symm) (by rw [nO_1, e1]; omega) (fun I2 f2 => ?_)
      have s1 : shp (gLev (newO (gMakL G c i) 2) (G.1 + 9 + 6 * i)) G.1 = (4, 13) := by rw [sh_gLev (by rw [nO_1, e1]; omega), sh_nO (by rw [e1]; omega), a2]
      have s2 : shp (gLev (newO (gMakL G c i) 2) (G.1 + 9 + 6 * i)) (G.1 + 9 + 6 * i) = (0, 2) := by rw [sh_gLev (by rw [nO_1, e1]; omega)]; exact sh_nOe e1.symm
      simp (disch := omega) only [aw_aastore (pc2 := 61) D48_60 rfl, aw_iinc_1 (pc2 := 64) (y := 1) D48_61 rfl (by decide), aw_goto (t := 39) D48_64 (by decide), refV_s, refV_n, psh_s, psh_n, kil_i, kil_r, kil_n, kil_l, cat_i, cat_r, iOK_1, iOK_5, jOK_2, jOK_6, wOK_e, lOK_1, lOK_2, lOK_3, lOK_4, lOK_5, lOK_6, catS_0, catS_1, catS_2, catS_3, catS_4, and_self, true_and, and_true, true_or, or_true, false_or, or_false, not_true_eq_false, not_false_eq_true, if_true, if_false, ite_int, ite_int0, au_10, eq_self, decide_true, decide_false, Bool.true_and, Bool.false_and, au_in, au_le, au_lt, au_eq, au_lt0, au_ge0, au_le0, au_gt0, au_eq0, au_leT, au_leF, au_ltT, au_ltF, au_eqT, au_eqF, nI_clamp, nI_1, nI_add, pk_mul, au_sub1, au_subc, au_up2e, au_up2n, lit_of, psh, s1, s2]
      refine ihn _ (by omega) (fun a a1 a2 => ?_)
      rw [f2 a (by unfold scrC at *; rw [nO_1, e1]; omega) (by unfold scrC at a1; omega), up1_off (by unfold scrC at a1; omega)]
      exact f a a1 a2
  refine key 13 0 _ rfl (fun a a1 a2 => ?_)
  have b1 : a ≠ G.1 + 1 := by unfold scrC at a1; omega
  rw [up2_off a2, up1_off (by unfold scrC at a1; omega), f1 a (by unfold scrC at *; rw [e0]; omega) b1]
  unfold scrC at a1
  simp (disch := omega) only [up1_off]
end MkMak
