/-! new books and a new maker, at any geometry -/
theorem sh_gRow {G : GT} {c a : Nat} (h : a < G.1) : shp (gRow G c) a = shp G a := by
  unfold gRow
  rw [sh_pR, sh_nA h]
theorem rf_gRow {G : GT} {c a j : Nat} (h : a < G.1) (hc : a ≠ c) : (gRow G c).2.2.2 a j = G.2.2.2 a j := by
  unfold gRow
  rw [rR_n (Or.inl hc), rA_n (by omega)]
theorem gRow_1 {G : GT} {c : Nat} : (gRow G c).1 = G.1 + 1 := rfl
theorem gLev_1 {G : GT} {c : Nat} : (gLev G c).1 = G.1 + 5 := rfl
theorem gMet_1 {G : GT} {c : Nat} : (gMet G c).1 = G.1 + 6 := rfl
theorem gGra_1 {G : GT} {c : Nat} : (gGra G c).1 = G.1 + 8 := rfl
theorem gRow_2 {G : GT} {c : Nat} : (gRow G c).2.1 = G.2.1 + 64 := rfl
theorem gLev_2 {G : GT} {c : Nat} : (gLev G c).2.1 = G.2.1 + 144 := by
  show G.2.1 + 40 + 40 + 40 + 12 + 12 = _
  omega
theorem gMet_2 {G : GT} {c : Nat} : (gMet G c).2.1 = G.2.1 + 43220 := by
  show G.2.1 + 34776 + 2047 + 2047 + 2047 + 2047 + 256 = _
  omega
theorem gGra_2 {G : GT} {c : Nat} : (gGra G c).2.1 = G.2.1 + 25568 := by
  show G.2.1 + 1500 + 1500 + 1500 + 1500 + 18000 + 1500 + 4 + 64 = G.2.1 + 25568
  omega
theorem sh_gLev {G : GT} {c a : Nat} (h : a < G.1) : shp (gLev G c) a = shp G a := by
  unfold gLev
  simp (disch := first | omega | (simp only [nA_1, nO_1, pR_1]; omega)) only [sh_pR, sh_nA]
theorem sh_gMet {G : GT} {c a : Nat} (h : a < G.1) : shp (gMet G c) a = shp G a := by
  unfold gMet
  simp (disch := first | omega | (simp only [nA_1, nO_1, pR_1]; omega)) only [sh_pR, sh_nA]
theorem sh_gGra {G : GT} {c a : Nat} (h : a < G.1) : shp (gGra G c) a = shp G a := by
  unfold gGra gRow gGra0
  simp (disch := first | omega | (simp only [nA_1, nO_1, pR_1]; omega)) only [sh_pR, sh_nA, sh_nO]
theorem rf_gLev {G : GT} {c a j : Nat} (h : a < G.1) (hc : a ≠ c) : (gLev G c).2.2.2 a j = G.2.2.2 a j := by
  unfold gLev
  simp (disch := first | omega | (simp only [nA_1, nO_1, pR_1]; omega)) only [rR_n, rA_n]
theorem rf_gMet {G : GT} {c a j : Nat} (h : a < G.1) (hc : a ≠ c) : (gMet G c).2.2.2 a j = G.2.2.2 a j := by
  unfold gMet
  simp (disch := first | omega | (simp only [nA_1, nO_1, pR_1]; omega)) only [rR_n, rA_n]
theorem rf_gGra {G : GT} {c a j : Nat} (h : a < G.1) (hc : a ≠ c) : (gGra G c).2.2.2 a j = G.2.2.2 a j := by
  unfold gGra gRow gGra0
  simp (disch := first | omega | (simp only [nA_1, nO_1, pR_1]; omega)) only [rR_n, rA_n, rO_n]
def gBoo0 (G : GT) (c : Nat) : GT := newO (putR (newA (putR (newA G 1 40) c 0 G.1) 1 24) c 1 (G.1 + 1)) 1
def gBoo1 (G : GT) (c : Nat) : GT := newO (putR (gGra (gBoo0 G c) (G.1 + 2)) c 2 (G.1 + 2)) 5
def gBoo (G : GT) (c : Nat) : GT := putR (gRow (gBoo1 G c) (G.1 + 11)) c 3 (G.1 + 11)
section MkBook
variable {d c : Nat} {G : GT} {I : IT} {J : JT} {K : KT}
theorem N_boo (hG : G.1 < 700000) (hc : shp G c = (0, 0)) (hlt : c < G.1) (hk : ∀ I' J', frI G.1 c I I' → frJ G.1 J J' → I' c 4 = 8 → I' c 5 = 0 → I' c 6 = 0 → I' c 7 = 0 → I' c 8 = 0 → (∀ p, p < 24 → I' (G.1 + 1) p = 1) → K none (gBoo G c) I' J') : ACall (d + 3) 0 [.ref c] G I J K := by
  refine ACall_entry.mpr ⟨⟨rfl, Nat.le_of_ble_eq_true rfl⟩, ?_⟩
  rw [show entL 0 [.ref c] = [.ref c] from rfl]
  have e0 : (gBoo0 G c).1 = G.1 + 3 := rfl
  have e1 : (gBoo1 G c).1 = G.1 + 12 := rfl
  simp (disch := first | omega | (simp only [nA_1, nO_1, pR_1]; omega)) only [Nat.reduceAdd, aw_aload_0 (pc2 := 1) D0_0 rfl, aw_obj (pc2 := 4) D0_1 rfl cT_0_3, aw_aload_0 (pc2 := 5) D0_4 rfl, aw_bipush (pc2 := 7) (y := 40) D0_5 rfl (by decide), aw_newa_int (pc2 := 9) (x := 40) (N := 40) D0_7 rfl (by decide) (by decide), aw_putR (pc2 := 12) (ci := 0) (fk := 0) D0_9 rfl fT_0_9 ⟨rfl, rfl, rfl⟩, aw_aload_0 (pc2 := 13) D0_12 rfl, aw_bipush (pc2 := 15) (y := 24) D0_13 rfl (by decide), aw_newa_int (pc2 := 17) (x := 24) (N := 24) D0_15 rfl (by decide) (by decide), aw_putR (pc2 := 20) (ci := 0) (fk := 1) D0_17 rfl fT_0_15 ⟨rfl, rfl, rfl⟩, aw_aload_0 (pc2 := 21) D0_20 rfl, aw_new (pc2 := 24) (ci := 1) D0_21 rfl (by decide), aw_dup (pc2 := 25) D0_24 rfl, aw_ii0_5 (pc2 := 28) D0_25 rfl cT_0_20 rfl, refV_s, refV_n, psh_s, psh_n, kil_i, kil_r, kil_n, kil_l, cat_i, cat_r, iOK_1, iOK_5, jOK_2, jOK_6, wOK_e, lOK_1, lOK_2, lOK_3, lOK_4, lOK_5, lOK_6, catS_0, catS_1, catS_2, catS_3, catS_4, and_self, true_and, and_true, true_or, or_true, false_or, or_false, not_true_eq_false, not_false_eq_true, if_true, if_false, ite_int, ite_int0, au_10, eq_self, decide_true, decide_false, Bool.true_and, Bool.false_and, au_in, au_le, au_lt, au_eq, au_lt0, au_ge0, au_le0, au_gt0, au_eq0, au_leT, au_leF, au_ltT, au_ltF, au_eqT, au_eqF, nI_clamp, nI_1, nI_add, pk_mul, au_sub1, au_subc, au_up2e, au_up2n, lit_of, nA_1, nA_2, nO_1, nO_2, pR_1, pR_2, sh_pR, sh_nA, sh_nAe, mc_0, mc_19, nf_1, hc, Nat.add_assoc]
  refine N_gra (d := d) (G := gBoo0 G c) (c := G.1 + 2) (by rw [e0]; omega) (sh_nOe rfl) (by rw [e0]; omega) (fun I' J' f g => ?_)
  have h0 : shp (gBoo0 G c) c = (0, 0) := by
    unfold gBoo0
    simp (disch := first | omega | (simp only [nA_1, nO_1, pR_1]; omega)) only [sh_pR, sh_nA, sh_nO, hc]
  have h1 : shp (gGra (gBoo0 G c) (G.1 + 2)) c = (0, 0) := by rw [sh_gGra (by rw [e0]; omega), h0]
  have z0 : (gBoo0 G c).2.1 = G.2.1 + 76 := rfl
  simp (disch := first | omega | (simp only [nA_1, nO_1, pR_1]; omega)) only [Nat.reduceAdd, aw_putR (pc2 := 31) (ci := 0) (fk := 2) D0_28 rfl fT_0_21 ⟨rfl, rfl, rfl⟩, aw_aload_0 (pc2 := 32) D0_31 rfl, aw_new (pc2 := 35) (ci := 5) D0_32 rfl (by decide), aw_dup (pc2 := 36) D0_35 rfl, aw_ii0_5 (pc2 := 39) D0_36 rfl cT_0_27 rfl, refV_s, refV_n, psh_s, psh_n, kil_i, kil_r, kil_n, kil_l, cat_i, cat_r, iOK_1, iOK_5, jOK_2, jOK_6, wOK_e, lOK_1, lOK_2, lOK_3, lOK_4, lOK_5, lOK_6, catS_0, catS_1, catS_2, catS_3, catS_4, and_self, true_and, and_true, true_or, or_true, false_or, or_false, not_true_eq_false, not_false_eq_true, if_true, if_false, ite_int, ite_int0, au_10, eq_self, decide_true, decide_false, Bool.true_and, Bool.false_and, au_in, au_le, au_lt, au_eq, au_lt0, au_ge0, au_le0, au_gt0, au_eq0, au_leT, au_leF, au_ltT, au_ltF, au_eqT, au_eqF, nI_clamp, nI_1, nI_add, pk_mul, au_sub1, au_subc, au_up2e, au_up2n, lit_of, psh, nA_1, nA_2, nO_1, nO_2, pR_1, pR_2, sh_pR, sh_nA, sh_nAe, gGra_1, gGra_2, e0, z0, mc_0, mc_61, nf_5, h1, Nat.add_assoc]
  refine N_row (d := d + 1) (G := gBoo1 G c) (c := G.1 + 11) (by rw [e1]; omega) (sh_nOe rfl) (by rw [e1]; omega) (fun I2 J2 f2 g2 => ?_)
  have h2 : shp (gBoo G c) c = (0, 0) := by
    unfold gBoo
    rw [sh_pR, sh_gRow (by rw [e1]; omega)]
    unfold gBoo1
    rw [sh_nO (by rw [pR_1, gGra_1, e0]; omega), sh_pR, h1]
  have h2' : shp (gRow (gBoo1 G c) (G.1 + 11)) c = (0, 0) := h2
  simp (disch := first | omega | (simp only [nA_1, nO_1, pR_1]; omega)) only [Nat.reduceAdd, aw_putR (pc2 := 42) (ci := 0) (fk := 3) D0_39 rfl fT_0_28 ⟨rfl, rfl, rfl⟩, aw_aload_0 (pc2 := 43) D0_42 rfl, aw_iconst (pc2 := 44) (y := 0) D0_43 rfl (by decide), aw_putI (pc2 := 47) (ci := 0) (fk := 4) D0_44 rfl fT_0_32 rfl, aw_aload_0 (pc2 := 48) D0_47 rfl, aw_iconst (pc2 := 49) (y := 0) D0_48 rfl (by decide), aw_putI (pc2 := 52) (ci := 0) (fk := 5) D0_49 rfl fT_0_36 rfl, aw_aload_0 (pc2 := 53) D0_52 rfl, aw_iconst (pc2 := 54) (y := 0) D0_53 rfl (by decide), aw_putI (pc2 := 57) (ci := 0) (fk := 6) D0_54 rfl fT_0_39 rfl, aw_aload_0 (pc2 := 58) D0_57 rfl, aw_iconst (pc2 := 59) (y := 0) D0_58 rfl (by decide), aw_putI (pc2 := 62) (ci := 0) (fk := 7) D0_59 rfl fT_0_42 rfl, aw_aload_0 (pc2 := 63) D0_62 rfl, aw_iconst (pc2 := 64) (y := 0) D0_63 rfl (by decide), aw_putZ (pc2 := 67) (ci := 0) (fk := 8) D0_64 rfl fT_0_45 rfl, aw_aload_0 (pc2 := 68) D0_67 rfl, aw_bipush (pc2 := 70) (y := 8) D0_68 rfl (by decide), aw_iv1_0 (pc2 := 73) (o := 0) D0_70 rfl cT_0_49 rfl rfl, refV_s, refV_n, psh_s, psh_n, kil_i, kil_r, kil_n, kil_l, cat_i, cat_r, iOK_1, iOK_5, jOK_2, jOK_6, wOK_e, lOK_1, lOK_2, lOK_3, lOK_4, lOK_5, lOK_6, catS_0, catS_1, catS_2, catS_3, catS_4, and_self, true_and, and_true, true_or, or_true, false_or, or_false, not_true_eq_false, not_false_eq_true, if_true, if_false, ite_int, ite_int0, au_10, eq_self, decide_true, decide_false, Bool.true_and, Bool.false_and, au_in, au_le, au_lt, au_eq, au_lt0, au_ge0, au_le0, au_gt0, au_eq0, au_leT, au_leF, au_ltT, au_ltF, au_eqT, au_eqF, nI_clamp, nI_1, nI_add, pk_mul, au_sub1, au_subc, au_up2e, au_up2n, lit_of, psh, sh_pR, h2']
  have hw : shp (gBoo G c) (G.1 + 1) = (1, 24) := by
    unfold gBoo
    rw [sh_pR, sh_gRow (by rw [e1]; omega)]
    unfold gBoo1
    rw [sh_nO (by rw [pR_1, gGra_1, e0]; omega), sh_pR, sh_gGra (by rw [e0]; omega)]
    unfold gBoo0
    rw [sh_nO (by rw [pR_1, nA_1, pR_1, nA_1]; omega), sh_pR]
    exact sh_nAe rfl
  have hr : (gBoo G c).2.2.2 c 1 = some (G.1 + 1) := by
    unfold gBoo
    rw [rR_n (Or.inr (by decide)), rf_gRow (by rw [e1]; omega) (by omega)]
    unfold gBoo1
    rw [rO_n (by rw [pR_1, gGra_1, e0]; omega), rR_n (Or.inr (by decide)), rf_gGra (by rw [e0]; omega) (by omega)]
    unfold gBoo0
    rw [rO_n (by rw [pR_1, nA_1, pR_1, nA_1]; omega), rR_e]
  have hz : (gBoo G c).2.1 = G.2.1 + 25712 := by
    have e := gGra_2 (G := gBoo0 G c) (c := G.1 + 2)
    show (gGra (gBoo0 G c) (G.1 + 2)).2.1 + 4 + 64 = _
    omega
  rw [C_startAnew (G := putR (gRow (gBoo1 G c) (G.1 + 11)) c 3 (G.1 + 11)) h2 hw hr (by omega)]
  simp (disch := omega) only [aw_vret D0_73 rfl, refV_s, refV_n, psh_s, psh_n, kil_i, kil_r, kil_n, kil_l, cat_i, cat_r, iOK_1, iOK_5, jOK_2, jOK_6, wOK_e, lOK_1, lOK_2, lOK_3, lOK_4, lOK_5, lOK_6, catS_0, catS_1, catS_2, catS_3, catS_4, and_self, true_and, and_true, true_or, or_true, false_or, or_false, not_true_eq_false, not_false_eq_true, if_true, if_false, ite_int, ite_int0, au_10, eq_self, decide_true, decide_false, Bool.true_and, Bool.false_and, psh]
  refine ⟨⟨rfl, hz⟩, hk _ _ (fun a a1 a2 => ?_) (fun a a1 => ?_) ?_ ?_ ?_ ?_ ?_ (fun p hp => fil_at hp)⟩
  · have b1 : a ≠ G.1 + 1 := by unfold scrC at a1; omega
    have b2 : a ≠ G.1 + 11 := by unfold scrC at a1; omega
    have b3 : a ≠ G.1 + 2 := by unfold scrC at a1; omega
    rw [fil_off b1]
    simp (disch := exact a2) only [up2_off]
    rw [f2 a (by unfold scrC at *; rw [e1]; omega) b2]
    rw [up1_off (by unfold scrC at a1; omega), f a (by unfold scrC at *; rw [e0]; omega) b3]
    unfold scrC at a1
    simp (disch := omega) only [up1_off]
  · unfold patC at a1
    rw [g2 a (by unfold patC; rw [e1]; omega), g a (by unfold patC; rw [e0]; omega)]
  all_goals (rw [fil_off (by omega)]; simp [up2_f])
end MkBook
