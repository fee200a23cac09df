/-! new objects, at any geometry -/
theorem nA_1 {G : GT} {t N : Nat} : (newA G t N).1 = G.1 + 1 := rfl
theorem nA_2 {G : GT} {t N : Nat} : (newA G t N).2.1 = G.2.1 + N := rfl
theorem nO_1 {G : GT} {t : Nat} : (newO G t).1 = G.1 + 1 := rfl
theorem nO_2 {G : GT} {t : Nat} : (newO G t).2.1 = G.2.1 + nfs t := rfl
theorem pR_1 {G : GT} {c k v : Nat} : (putR G c k v).1 = G.1 := rfl
theorem pR_2 {G : GT} {c k v : Nat} : (putR G c k v).2.1 = G.2.1 := rfl
theorem sh_pR {G : GT} {c k v a : Nat} : shp (putR G c k v) a = shp G a := rfl
theorem sh_nA {G : GT} {t N a : Nat} (h : a < G.1) : shp (newA G t N) a = shp G a := by
  unfold shp
  rw [nA_1, if_pos (Or.inl (by omega)), if_pos (Or.inl h)]
  show up1 G.2.2.1 G.1 (t, N) a = _
  rw [up1_off (by omega)]
theorem sh_nO {G : GT} {t a : Nat} (h : a < G.1) : shp (newO G t) a = shp G a := by
  unfold shp
  rw [nO_1, if_pos (Or.inl (by omega)), if_pos (Or.inl h)]
  show up1 G.2.2.1 G.1 (0, t) a = _
  rw [up1_off (by omega)]
theorem sh_nAe {G : GT} {t N a : Nat} (h : a = G.1) : shp (newA G t N) a = (t, N) := by
  subst h
  unfold shp
  rw [nA_1, if_pos (Or.inl (by omega))]
  show up1 G.2.2.1 G.1 (t, N) G.1 = _
  rw [up1_at]
theorem sh_nOe {G : GT} {t a : Nat} (h : a = G.1) : shp (newO G t) a = (0, t) := by
  subst h
  unfold shp
  rw [nO_1, if_pos (Or.inl (by omega))]
  show up1 G.2.2.1 G.1 (0, t) G.1 = _
  rw [up1_at]
theorem rR_e {G : GT} {c k v : Nat} : (putR G c k v).2.2.2 c k = some v := au_up2
theorem rR_n {G : GT} {c k v a j : Nat} (h : a ≠ c ∨ j ≠ k) : (putR G c k v).2.2.2 a j = G.2.2.2 a j := au_up2n h
theorem rA_n {G : GT} {t N a j : Nat} (h : a ≠ G.1) : (newA G t N).2.2.2 a j = G.2.2.2 a j := by
  show up1 G.2.2.2 G.1 _ a j = _
  rw [up1_off h]
theorem rO_n {G : GT} {t a j : Nat} (h : a ≠ G.1) : (newO G t).2.2.2 a j = G.2.2.2 a j := by
  show up1 G.2.2.2 G.1 _ a j = _
  rw [up1_off h]
def frI (n c : Nat) (I I' : IT) : Prop := ∀ a, (a < n ∨ a = scrC) → a ≠ c → I' a = I a
def frJ (n : Nat) (J J' : JT) : Prop := ∀ a, (a < n ∨ a = patC) → J' a = J a
theorem nf_0 : nfs 0 = 9 := rfl
theorem nf_1 : nfs 1 = 12 := rfl
theorem nf_2 : nfs 2 = 9 := rfl
theorem nf_3 : nfs 3 = 4 := rfl
theorem nf_4 : nfs 4 = 8 := rfl
theorem nf_5 : nfs 5 = 4 := rfl
theorem nf_6 : nfs 6 = 10 := rfl
theorem nf_7 : nfs 7 = 49 := rfl
theorem mc_0 : mcs 0 = (13, 25712) := rfl
theorem mc_19 : mcs 19 = (8, 25568) := rfl
theorem mc_35 : mcs 35 = (5, 144) := rfl
theorem mc_48 : mcs 48 = (87, 45254) := rfl
theorem mc_55 : mcs 55 = (6, 43220) := rfl
theorem mc_61 : mcs 61 = (1, 64) := rfl
theorem mc_74 : mcs 74 = (121, 100879) := rfl
theorem mc_123 : mcs 123 = (42, 290208) := rfl
def gRow (G : GT) (c : Nat) : GT := putR (newA G 2 64) c 0 G.1
def gLev (G : GT) (c : Nat) : GT := putR (newA (putR (newA (putR (newA (putR (newA (putR (newA G 1 40) c 0 G.1) 1 40) c 1 (G.1 + 1)) 1 40) c 2 (G.1 + 2)) 1 12) c 3 (G.1 + 3)) 1 12) c 4 (G.1 + 4)
def gMet (G : GT) (c : Nat) : GT := putR (newA (putR (newA (putR (newA (putR (newA (putR (newA (putR (newA G 1 34776) c 0 G.1) 1 2047) c 1 (G.1 + 1)) 1 2047) c 2 (G.1 + 2)) 1 2047) c 3 (G.1 + 3)) 1 2047) c 4 (G.1 + 4)) 1 256) c 5 (G.1 + 5)
def gGra0 (G : GT) (c : Nat) : GT := newO (putR (newA (putR (newA (putR (newA (putR (newA (putR (newA (putR (newA G 1 1500) c 0 G.1) 1 1500) c 1 (G.1 + 1)) 1 1500) c 2 (G.1 + 2)) 1 1500) c 3 (G.1 + 3)) 1 18000) c 4 (G.1 + 4)) 2 1500) c 5 (G.1 + 5)) 5
def gGra (G : GT) (c : Nat) : GT := putR (gRow (gGra0 G c) (G.1 + 6)) c 6 (G.1 + 6)
section MkNew
variable {d c : Nat} {G : GT} {I : IT} {J : JT} {K : KT}
theorem N_row (hG : G.1 < 900000) (hc : shp G c = (0, 5)) (hlt : c < G.1) (hk : ∀ I' J', frI G.1 c I I' → frJ G.1 J J' → K none (gRow G c) I' J') : ACall (d + 1) 61 [.ref c] G I J K := by
  refine ACall_entry.mpr ⟨⟨rfl, Nat.le_of_ble_eq_true rfl⟩, ?_⟩
  rw [show entL 61 [.ref c] = [.ref c] from rfl]
  simp (disch := omega) only [aw_aload_0 (pc2 := 1) D61_0 rfl, aw_obj (pc2 := 4) D61_1 rfl cT_5_3, aw_aload_0 (pc2 := 5) D61_4 rfl, aw_bipush (pc2 := 7) (y := 64) D61_5 rfl (by decide), aw_newa_long (pc2 := 9) (x := 64) (N := 64) D61_7 rfl (by decide) (by decide), aw_putR (pc2 := 12) (ci := 5) (fk := 0) D61_9 rfl fT_5_9 ⟨rfl, rfl, rfl⟩, aw_aload_0 (pc2 := 13) D61_12 rfl, aw_iconst (pc2 := 14) (y := 0) D61_13 rfl (by decide), aw_putI (pc2 := 17) (ci := 5) (fk := 1) D61_14 rfl fT_5_15 rfl, aw_aload_0 (pc2 := 18) D61_17 rfl, aw_iconst (pc2 := 19) (y := 1) D61_18 rfl (by decide), aw_putI (pc2 := 22) (ci := 5) (fk := 2) D61_19 rfl fT_5_19 rfl, aw_aload_0 (pc2 := 23) D61_22 rfl, aw_iconst (pc2 := 24) (y := 1) D61_23 rfl (by decide), aw_putI (pc2 := 27) (ci := 5) (fk := 3) D61_24 rfl fT_5_22 rfl, aw_vret D61_27 rfl, refV_s, refV_n, psh_s, psh_n, kil_i, kil_r, kil_n, kil_l, cat_i, cat_r, iOK_1, iOK_5, jOK_2, jOK_6, wOK_e, lOK_1, lOK_2, lOK_3, lOK_4, lOK_5, lOK_6, catS_0, catS_1, catS_2, catS_3, catS_4, and_self, true_and, and_true, true_or, or_true, false_or, or_false, not_true_eq_false, not_false_eq_true, if_true, if_false, ite_int, ite_int0, au_10, eq_self, decide_true, decide_false, Bool.true_and, Bool.false_and, au_in, au_le, au_lt, au_eq, au_lt0, au_ge0, au_le0, au_gt0, au_eq0, au_leT, au_leF, au_ltT, au_ltF, au_eqT, au_eqF, nI_clamp, nI_1, nI_add, pk_mul, au_sub1, au_subc, au_up2e, au_up2n, lit_of, nA_1, nA_2, nO_1, nO_2, pR_1, pR_2, sh_pR, sh_nA, sh_nAe, mc_61, hc]
  refine hk _ _ (fun a a1 a2 => ?_) (fun a a1 => ?_)
  · rw [up2_off a2, up2_off a2, up2_off a2]
  · rw [up1_off (by unfold patC at a1; omega)]
theorem N_lev (hG : G.1 < 900000) (hc : shp G c = (0, 2)) (hlt : c < G.1) (hk : ∀ I', frI G.1 c I I' → K none (gLev G c) I' J) : ACall (d + 1) 35 [.ref c] G I J K := by
  refine ACall_entry.mpr ⟨⟨rfl, Nat.le_of_ble_eq_true rfl⟩, ?_⟩
  rw [show entL 35 [.ref c] = [.ref c] from rfl]
  simp (disch := first | omega | (simp only [nA_1, nO_1, pR_1]; omega)) only [Nat.reduceAdd, aw_aload_0 (pc2 := 1) D35_0 rfl, aw_obj (pc2 := 4) D35_1 rfl cT_2_3, aw_aload_0 (pc2 := 5) D35_4 rfl, aw_bipush (pc2 := 7) (y := 40) D35_5 rfl (by decide), aw_newa_int (pc2 := 9) (x := 40) (N := 40) D35_7 rfl (by decide) (by decide), aw_putR (pc2 := 12) (ci := 2) (fk := 0) D35_9 rfl fT_2_9 ⟨rfl, rfl, rfl⟩, aw_aload_0 (pc2 := 13) D35_12 rfl, aw_bipush (pc2 := 15) (y := 40) D35_13 rfl (by decide), aw_newa_int (pc2 := 17) (x := 40) (N := 40) D35_15 rfl (by decide) (by decide), aw_putR (pc2 := 20) (ci := 2) (fk := 1) D35_17 rfl fT_2_15 ⟨rfl, rfl, rfl⟩, aw_aload_0 (pc2 := 21) D35_20 rfl, aw_bipush (pc2 := 23) (y := 40) D35_21 rfl (by decide), aw_newa_int (pc2 := 25) (x := 40) (N := 40) D35_23 rfl (by decide) (by decide), aw_putR (pc2 := 28) (ci := 2) (fk := 2) D35_25 rfl fT_2_18 ⟨rfl, rfl, rfl⟩, aw_aload_0 (pc2 := 29) D35_28 rfl, aw_bipush (pc2 := 31) (y := 12) D35_29 rfl (by decide), aw_newa_int (pc2 := 33) (x := 12) (N := 12) D35_31 rfl (by decide) (by decide), aw_putR (pc2 := 36) (ci := 2) (fk := 3) D35_33 rfl fT_2_21 ⟨rfl, rfl, rfl⟩, aw_aload_0 (pc2 := 37) D35_36 rfl, aw_bipush (pc2 := 39) (y := 12) D35_37 rfl (by decide), aw_newa_int (pc2 := 41) (x := 12) (N := 12) D35_39 rfl (by decide) (by decide), aw_putR (pc2 := 44) (ci := 2) (fk := 4) D35_41 rfl fT_2_24 ⟨rfl, rfl, rfl⟩, aw_aload_0 (pc2 := 45) D35_44 rfl, aw_iconst (pc2 := 46) (y := 0) D35_45 rfl (by decide), aw_putI (pc2 := 49) (ci := 2) (fk := 5) D35_46 rfl fT_2_27 rfl, aw_aload_0 (pc2 := 50) D35_49 rfl, aw_iconst (pc2 := 51) (y := 0) D35_50 rfl (by decide), aw_putI (pc2 := 54) (ci := 2) (fk := 6) D35_51 rfl fT_2_31 rfl, aw_aload_0 (pc2 := 55) D35_54 rfl, aw_iconst (pc2 := 56) (y := 0) D35_55 rfl (by decide), aw_putI (pc2 := 59) (ci := 2) (fk := 7) D35_56 rfl fT_2_34 rfl, aw_aload_0 (pc2 := 60) D35_59 rfl, aw_iconst (pc2 := 61) (y := 0) D35_60 rfl (by decide), aw_putI (pc2 := 64) (ci := 2) (fk := 8) D35_61 rfl fT_2_37 rfl, aw_vret D35_64 rfl, refV_s, refV_n, psh_s, psh_n, kil_i, kil_r, kil_n, kil_l, cat_i, cat_r, iOK_1, iOK_5, jOK_2, jOK_6, wOK_e, lOK_1, lOK_2, lOK_3, lOK_4, lOK_5, lOK_6, catS_0, catS_1, catS_2, catS_3, catS_4, and_self, true_and, and_true, true_or, or_true, false_or, or_false, not_true_eq_false, not_false_eq_true, if_true, if_false, ite_int, ite_int0, au_10, eq_self, decide_true, decide_false, Bool.true_and, Bool.false_and, au_in, au_le, au_lt, au_eq, au_lt0, au_ge0, au_le0, au_gt0, au_eq0, au_leT, au_leF, au_ltT, au_ltF, au_eqT, au_eqF, nI_clamp, nI_1, nI_add, pk_mul, au_sub1, au_subc, au_up2e, au_up2n, lit_of, nA_1, nA_2, nO_1, nO_2, pR_1, pR_2, sh_pR, sh_nA, sh_nAe, mc_35, hc, Nat.add_assoc]
  refine hk _ (fun a a1 a2 => ?_)
  unfold scrC at a1
  simp (disch := omega) only [up2_off, up1_off]
theorem N_met (hG : G.1 < 900000) (hc : shp G c = (0, 4)) (hlt : c < G.1) (hk : ∀ I', frI G.1 c I I' → K none (gMet G c) I' J) : ACall (d + 1) 55 [.ref c] G I J K := by
  refine ACall_entry.mpr ⟨⟨rfl, Nat.le_of_ble_eq_true rfl⟩, ?_⟩
  rw [show entL 55 [.ref c] = [.ref c] from rfl]
  simp (disch := first | omega | (simp only [nA_1, nO_1, pR_1]; omega)) only [Nat.reduceAdd, aw_aload_0 (pc2 := 1) D55_0 rfl, aw_obj (pc2 := 4) D55_1 rfl cT_4_3, aw_aload_0 (pc2 := 5) D55_4 rfl, aw_ldc (pc2 := 7) (v := 34776) D55_5 rfl (by decide), aw_newa_int (pc2 := 9) (x := 34776) (N := 34776) D55_7 rfl (by decide) (by decide), aw_putR (pc2 := 12) (ci := 4) (fk := 0) D55_9 rfl fT_4_10 ⟨rfl, rfl, rfl⟩, aw_aload_0 (pc2 := 13) D55_12 rfl, aw_sipush (pc2 := 16) (y := 2047) D55_13 rfl (by decide), aw_newa_int (pc2 := 18) (x := 2047) (N := 2047) D55_16 rfl (by decide) (by decide), aw_putR (pc2 := 21) (ci := 4) (fk := 1) D55_18 rfl fT_4_16 ⟨rfl, rfl, rfl⟩, aw_aload_0 (pc2 := 22) D55_21 rfl, aw_sipush (pc2 := 25) (y := 2047) D55_22 rfl (by decide), aw_newa_int (pc2 := 27) (x := 2047) (N := 2047) D55_25 rfl (by decide) (by decide), aw_putR (pc2 := 30) (ci := 4) (fk := 2) D55_27 rfl fT_4_19 ⟨rfl, rfl, rfl⟩, aw_aload_0 (pc2 := 31) D55_30 rfl, aw_sipush (pc2 := 34) (y := 2047) D55_31 rfl (by decide), aw_newa_int (pc2 := 36) (x := 2047) (N := 2047) D55_34 rfl (by decide) (by decide), aw_putR (pc2 := 39) (ci := 4) (fk := 3) D55_36 rfl fT_4_22 ⟨rfl, rfl, rfl⟩, aw_aload_0 (pc2 := 40) D55_39 rfl, aw_sipush (pc2 := 43) (y := 2047) D55_40 rfl (by decide), aw_newa_int (pc2 := 45) (x := 2047) (N := 2047) D55_43 rfl (by decide) (by decide), aw_putR (pc2 := 48) (ci := 4) (fk := 4) D55_45 rfl fT_4_25 ⟨rfl, rfl, rfl⟩, aw_aload_0 (pc2 := 49) D55_48 rfl, aw_sipush (pc2 := 52) (y := 256) D55_49 rfl (by decide), aw_newa_int (pc2 := 54) (x := 256) (N := 256) D55_52 rfl (by decide) (by decide), aw_putR (pc2 := 57) (ci := 4) (fk := 5) D55_54 rfl fT_4_28 ⟨rfl, rfl, rfl⟩, aw_aload_0 (pc2 := 58) D55_57 rfl, aw_iconst (pc2 := 59) (y := 0) D55_58 rfl (by decide), aw_putI (pc2 := 62) (ci := 4) (fk := 6) D55_59 rfl fT_4_31 rfl, aw_aload_0 (pc2 := 63) D55_62 rfl, aw_iconst (pc2 := 64) (y := 0) D55_63 rfl (by decide), aw_putI (pc2 := 67) (ci := 4) (fk := 7) D55_64 rfl fT_4_35 rfl, aw_vret D55_67 rfl, refV_s, refV_n, psh_s, psh_n, kil_i, kil_r, kil_n, kil_l, cat_i, cat_r, iOK_1, iOK_5, jOK_2, jOK_6, wOK_e, lOK_1, lOK_2, lOK_3, lOK_4, lOK_5, lOK_6, catS_0, catS_1, catS_2, catS_3, catS_4, and_self, true_and, and_true, true_or, or_true, false_or, or_false, not_true_eq_false, not_false_eq_true, if_true, if_false, ite_int, ite_int0, au_10, eq_self, decide_true, decide_false, Bool.true_and, Bool.false_and, au_in, au_le, au_lt, au_eq, au_lt0, au_ge0, au_le0, au_gt0, au_eq0, au_leT, au_leF, au_ltT, au_ltF, au_eqT, au_eqF, nI_clamp, nI_1, nI_add, pk_mul, au_sub1, au_subc, au_up2e, au_up2n, lit_of, nA_1, nA_2, nO_1, nO_2, pR_1, pR_2, sh_pR, sh_nA, sh_nAe, mc_55, hc, Nat.add_assoc]
  refine hk _ (fun a a1 a2 => ?_)
  unfold scrC at a1
  simp (disch := omega) only [up2_off, up1_off]
theorem N_gra (hG : G.1 < 800000) (hc : shp G c = (0, 1)) (hlt : c < G.1) (hk : ∀ I' J', frI G.1 c I I' → frJ G.1 J J' → K none (gGra G c) I' J') : ACall (d + 2) 19 [.ref c] G I J K := by
  refine ACall_entry.mpr ⟨⟨rfl, Nat.le_of_ble_eq_true rfl⟩, ?_⟩
  rw [show entL 19 [.ref c] = [.ref c] from rfl]
  have e1 : (gGra0 G c).1 = G.1 + 7 := rfl
  simp (disch := first | omega | (simp only [nA_1, nO_1, pR_1]; omega)) only [Nat.reduceAdd, aw_aload_0 (pc2 := 1) D19_0 rfl, aw_obj (pc2 := 4) D19_1 rfl cT_1_3, aw_aload_0 (pc2 := 5) D19_4 rfl, aw_sipush (pc2 := 8) (y := 1500) D19_5 rfl (by decide), aw_newa_int (pc2 := 10) (x := 1500) (N := 1500) D19_8 rfl (by decide) (by decide), aw_putR (pc2 := 13) (ci := 1) (fk := 0) D19_10 rfl fT_1_9 ⟨rfl, rfl, rfl⟩, aw_aload_0 (pc2 := 14) D19_13 rfl, aw_sipush (pc2 := 17) (y := 1500) D19_14 rfl (by decide), aw_newa_int (pc2 := 19) (x := 1500) (N := 1500) D19_17 rfl (by decide) (by decide), aw_putR (pc2 := 22) (ci := 1) (fk := 1) D19_19 rfl fT_1_15 ⟨rfl, rfl, rfl⟩, aw_aload_0 (pc2 := 23) D19_22 rfl, aw_sipush (pc2 := 26) (y := 1500) D19_23 rfl (by decide), aw_newa_int (pc2 := 28) (x := 1500) (N := 1500) D19_26 rfl (by decide) (by decide), aw_putR (pc2 := 31) (ci := 1) (fk := 2) D19_28 rfl fT_1_18 ⟨rfl, rfl, rfl⟩, aw_aload_0 (pc2 := 32) D19_31 rfl, aw_sipush (pc2 := 35) (y := 1500) D19_32 rfl (by decide), aw_newa_int (pc2 := 37) (x := 1500) (N := 1500) D19_35 rfl (by decide) (by decide), aw_putR (pc2 := 40) (ci := 1) (fk := 3) D19_37 rfl fT_1_21 ⟨rfl, rfl, rfl⟩, aw_aload_0 (pc2 := 41) D19_40 rfl, aw_sipush (pc2 := 44) (y := 18000) D19_41 rfl (by decide), aw_newa_int (pc2 := 46) (x := 18000) (N := 18000) D19_44 rfl (by decide) (by decide), aw_putR (pc2 := 49) (ci := 1) (fk := 4) D19_46 rfl fT_1_24 ⟨rfl, rfl, rfl⟩, aw_aload_0 (pc2 := 50) D19_49 rfl, aw_sipush (pc2 := 53) (y := 1500) D19_50 rfl (by decide), aw_newa_long (pc2 := 55) (x := 1500) (N := 1500) D19_53 rfl (by decide) (by decide), aw_putR (pc2 := 58) (ci := 1) (fk := 5) D19_55 rfl fT_1_27 ⟨rfl, rfl, rfl⟩, aw_aload_0 (pc2 := 59) D19_58 rfl, aw_new (pc2 := 62) (ci := 5) D19_59 rfl (by decide), aw_dup (pc2 := 63) D19_62 rfl, aw_ii0_5 (pc2 := 66) D19_63 rfl cT_1_33 rfl, refV_s, refV_n, psh_s, psh_n, kil_i, kil_r, kil_n, kil_l, cat_i, cat_r, iOK_1, iOK_5, jOK_2, jOK_6, wOK_e, lOK_1, lOK_2, lOK_3, lOK_4, lOK_5, lOK_6, catS_0, catS_1, catS_2, catS_3, catS_4, and_self, true_and, and_true, true_or, or_true, false_or, or_false, not_true_eq_false, not_false_eq_true, if_true, if_false, ite_int, ite_int0, au_10, eq_self, decide_true, decide_false, Bool.true_and, Bool.false_and, au_in, au_le, au_lt, au_eq, au_lt0, au_ge0, au_le0, au_gt0, au_eq0, au_leT, au_leF, au_ltT, au_ltF, au_eqT, au_eqF, nI_clamp, nI_1, nI_add, pk_mul, au_sub1, au_subc, au_up2e, au_up2n, lit_of, nA_1, nA_2, nO_1, nO_2, pR_1, pR_2, sh_pR, sh_nA, sh_nAe, mc_19, mc_61, nf_5, hc, Nat.add_assoc]
  refine N_row (d := d) (G := gGra0 G c) (c := G.1 + 6) (by rw [e1]; omega) ?_ (by rw [e1]; omega) (fun I' J' f g => ?_)
  · exact sh_nOe rfl
  · have hs : shp (gRow (gGra0 G c) (G.1 + 6)) c = (0, 1) := by
      unfold gRow gGra0
      simp (disch := first | omega | (simp only [nA_1, nO_1, pR_1]; omega)) only [Nat.reduceAdd, nA_1, nO_1, pR_1, sh_pR, sh_nA, sh_nO, hc]
    simp (disch := first | omega | (simp only [nA_1, nO_1, pR_1]; omega)) only [Nat.reduceAdd, aw_putR (pc2 := 69) (ci := 1) (fk := 6) D19_66 rfl fT_1_34 ⟨rfl, rfl, rfl⟩, aw_aload_0 (pc2 := 70) D19_69 rfl, aw_iconst (pc2 := 71) (y := 1) D19_70 rfl (by decide), aw_putZ (pc2 := 74) (ci := 1) (fk := 7) D19_71 rfl fT_1_38 rfl, aw_aload_0 (pc2 := 75) D19_74 rfl, aw_iconst (pc2 := 76) (y := 0) D19_75 rfl (by decide), aw_putI (pc2 := 79) (ci := 1) (fk := 8) D19_76 rfl fT_1_42 rfl, aw_aload_0 (pc2 := 80) D19_79 rfl, aw_iconst (pc2 := 81) (y := 0) D19_80 rfl (by decide), aw_putI (pc2 := 84) (ci := 1) (fk := 9) D19_81 rfl fT_1_46 rfl, aw_aload_0 (pc2 := 85) D19_84 rfl, aw_iconst (pc2 := 86) (y := 0) D19_85 rfl (by decide), aw_putI (pc2 := 89) (ci := 1) (fk := 10) D19_86 rfl fT_1_49 rfl, aw_aload_0 (pc2 := 90) D19_89 rfl, aw_iconst (pc2 := 91) (y := 0) D19_90 rfl (by decide), aw_putZ (pc2 := 94) (ci := 1) (fk := 11) D19_91 rfl fT_1_52 rfl, aw_vret D19_94 rfl, refV_s, refV_n, psh_s, psh_n, kil_i, kil_r, kil_n, kil_l, cat_i, cat_r, iOK_1, iOK_5, jOK_2, jOK_6, wOK_e, lOK_1, lOK_2, lOK_3, lOK_4, lOK_5, lOK_6, catS_0, catS_1, catS_2, catS_3, catS_4, and_self, true_and, and_true, true_or, or_true, false_or, or_false, not_true_eq_false, not_false_eq_true, if_true, if_false, ite_int, ite_int0, au_10, eq_self, decide_true, decide_false, Bool.true_and, Bool.false_and, au_in, au_le, au_lt, au_eq, au_lt0, au_ge0, au_le0, au_gt0, au_eq0, au_leT, au_leF, au_ltT, au_ltF, au_eqT, au_eqF, nI_clamp, nI_1, nI_add, pk_mul, au_sub1, au_subc, au_up2e, au_up2n, lit_of, psh, sh_pR, hs]
    refine ⟨⟨rfl, ?_⟩, hk _ _ (fun a a1 a2 => ?_) (fun a a1 => ?_)⟩
    · show G.2.1 + 1500 + 1500 + 1500 + 1500 + 18000 + 1500 + 4 + 64 = G.2.1 + 25568
      omega
    · unfold scrC at a1
      rw [up2_off a2, up2_off a2, up2_off a2, up2_off a2, up2_off a2, f a (by unfold scrC; rw [e1]; omega) (by omega)]
      simp (disch := omega) only [up2_off, up1_off]
    · unfold patC at a1
      rw [g a (by unfold patC; rw [e1]; omega)]
      simp (disch := omega) only [up1_off]
end MkNew
