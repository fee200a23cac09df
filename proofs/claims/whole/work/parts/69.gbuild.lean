/-! nodes come, in the class -/
def gN (nds : List (Nat × Int × List Nat)) : GR := (nds, 0, 0)
def grC (B : Nat) (nds : List (Nat × Int × List Nat)) (I : IT) : Prop := I (B + 3) 8 = nI nds.length ∧ ∀ i, i < nds.length → I (B + 4) i = nI (nodeAt (gN nds) i).1 ∧ I (B + 5) i = iI (nodeAt (gN nds) i).2.1 ∧ I (B + 6) i = nI (nodeAt (gN nds) i).2.2.length ∧ I (B + 7) i = nI (lts (gN nds) i) ∧ ∀ j, j < (nodeAt (gN nds) i).2.2.length → I (B + 8) (12 * i + j) = nI ((nodeAt (gN nds) i).2.2.getD j 0)
def ndsOK (N : Nat) (nds : List (Nat × Int × List Nat)) : Prop := ∀ i x, nds[i]? = some x → ndOK N i x
theorem node_app {nds : List (Nat × Int × List Nat)} {x : Nat × Int × List Nat} {i : Nat} (hi : i < nds.length + 1) : nodeAt (gN (nds ++ [x])) i = if i = nds.length then x else nodeAt (gN nds) i := by
  show (nds ++ [x]).getD i (0, 0, []) = if i = nds.length then x else nds.getD i (0, 0, [])
  rw [List.getD_eq_getElem?_getD, List.getD_eq_getElem?_getD]
  by_cases e : i = nds.length
  · subst e; simp
  · rw [if_neg e, List.getElem?_append_left (by omega)]
theorem lts_app {nds : List (Nat × Int × List Nat)} {x : Nat × Int × List Nat} {i : Nat} (hi : i < nds.length) : lts (gN (nds ++ [x])) i = lts (gN nds) i := lts_cong (fun k hk => by rw [node_app (by omega), if_neg (by omega)])
theorem lts_last {nds : List (Nat × Int × List Nat)} {k : Nat} {s : Int} {ps : List Nat} (hp : ∀ p, p ∈ ps → p < nds.length) : lts (gN (nds ++ [(k, s, ps)])) nds.length = ps.foldl (fun a p => a ||| lts (gN nds) p) (ownL s) := by
  have hn : nodeAt (gN (nds ++ [(k, s, ps)])) nds.length = (k, s, ps) := by rw [node_app (by omega), if_pos rfl]
  rw [lts_step (by rw [hn]; exact hp), hn]
  exact foldl_cong (fun a p hp2 => by rw [lts_app (hp p hp2)])
theorem get_app1n {l : List Nat} {v i : Nat} (hi : i < l.length + 1) : (l ++ [v]).getD i 0 = if i = l.length then v else l.getD i 0 := get_snoc hi
/-- what stays when nodes come -/
def frG (B : Nat) (I I' : IT) : Prop := (∀ a, a ≠ B + 3 → a ≠ B + 4 → a ≠ B + 5 → a ≠ B + 6 → a ≠ B + 7 → a ≠ B + 8 → I' a = I a) ∧ ∀ k, k ≠ 8 → k ≠ 11 → I' (B + 3) k = I (B + 3) k
theorem frG.rf {B : Nat} {I : IT} : frG B I I := ⟨fun _ _ _ _ _ _ _ => rfl, fun _ _ _ => rfl⟩
theorem frG.tr {B : Nat} {I I' I'' : IT} (h : frG B I I') (g : frG B I' I'') : frG B I I'' := ⟨fun a a1 a2 a3 a4 a5 a6 => (g.1 a a1 a2 a3 a4 a5 a6).trans (h.1 a a1 a2 a3 a4 a5 a6), fun k k1 k2 => (g.2 k k1 k2).trans (h.2 k k1 k2)⟩
section GBuild
variable {d Ln B : Nat} {I : IT} {J : JT} {K : KT}
theorem C_addNode {nds : List (Nat × Int × List Nat)} {k : Nat} {s : Int} {x : Int32} (hB : BF Ln B) (hn : nds.length < 1500) (hk4 : k < 5) (hx : x = iI s) (h : grC B nds I) (hK : ∀ I', frG B I I' → I' (B + 3) 11 = I (B + 3) 11 → grC B (nds ++ [(k, s, [])]) I' → K (some (.int (nI nds.length))) (G0 Ln) I' J) : ACall (d + 1) 22 [.ref (B + 3), .int (nI k), .int x, .int (nI (ownL s))] (G0 Ln) I J K := by
  rw [ACall_0 (L0 := [.ref (B + 3), .int (nI k), .int x, .int (nI (ownL s)), nv]) (show mcs 22 = (0, 0) from rfl) (show entL 22 [.ref (B + 3), .int (nI k), .int x, .int (nI (ownL s))] = _ from rfl) rfl (Nat.le_of_ble_eq_true rfl)]
  obtain ⟨h8, hnd⟩ := h
  simp (disch := omega) only [aw_aload_0 (pc2 := 1) D22_0 rfl, aw_getI (pc2 := 4) (ci := 1) (fk := 8) D22_1 rfl fT_1_42 rfl, aw_sipush (pc2 := 7) (y := 1500) D22_4 rfl (by decide), aw_icmp_lt (pc2 := 10) (t := 17) D22_7 (by decide) rfl, aw_aload_0 (pc2 := 11) D22_10 rfl, aw_iconst (pc2 := 12) (y := 1) D22_11 rfl (by decide), aw_putZ (pc2 := 15) (ci := 1) (fk := 11) D22_12 rfl fT_1_52 rfl, aw_iconst (pc2 := 16) (y := -1) D22_15 rfl (by decide), aw_iret D22_16 rfl, aw_aload_0 (pc2 := 18) D22_17 rfl, aw_getI (pc2 := 21) (ci := 1) (fk := 8) D22_18 rfl fT_1_42 rfl, aw_istore_4 (pc2 := 23) D22_21 rfl, aw_aload_0 (pc2 := 24) D22_23 rfl, aw_dup (pc2 := 25) D22_24 rfl, aw_getI (pc2 := 28) (ci := 1) (fk := 8) D22_25 rfl fT_1_42 rfl, aw_iconst (pc2 := 29) (y := 1) D22_28 rfl (by decide), aw_iadd (pc2 := 30) D22_29 rfl, aw_putI (pc2 := 33) (ci := 1) (fk := 8) D22_30 rfl fT_1_42 rfl, aw_aload_0 (pc2 := 34) D22_33 rfl, aw_getR (pc2 := 37) (ci := 1) (fk := 0) D22_34 rfl fT_1_9 rfl, aw_iload_4 (pc2 := 39) D22_37 rfl, aw_iload_1 (pc2 := 40) D22_39 rfl, aw_iastore (pc2 := 41) D22_40 rfl, aw_aload_0 (pc2 := 42) D22_41 rfl, aw_getR (pc2 := 45) (ci := 1) (fk := 1) D22_42 rfl fT_1_15 rfl, aw_iload_4 (pc2 := 47) D22_45 rfl, aw_iload_2 (pc2 := 48) D22_47 rfl, aw_iastore (pc2 := 49) D22_48 rfl, aw_aload_0 (pc2 := 50) D22_49 rfl, aw_getR (pc2 := 53) (ci := 1) (fk := 2) D22_50 rfl fT_1_18 rfl, aw_iload_4 (pc2 := 55) D22_53 rfl, aw_iconst (pc2 := 56) (y := 0) D22_55 rfl (by decide), aw_iastore (pc2 := 57) D22_56 rfl, aw_aload_0 (pc2 := 58) D22_57 rfl, aw_getR (pc2 := 61) (ci := 1) (fk := 3) D22_58 rfl fT_1_21 rfl, aw_iload_4 (pc2 := 63) D22_61 rfl, aw_iload_3 (pc2 := 64) D22_63 rfl, aw_iastore (pc2 := 65) D22_64 rfl, aw_iload_4 (pc2 := 67) D22_65 rfl, aw_iret D22_67 rfl, lit_1500, refV_s, refV_n, psh_s, psh_n, kil_i, kil_r, kil_n, kil_l, cat_i, cat_r, iOK_1, iOK_5, jOK_2, jOK_6, wOK_e, lOK_1, lOK_2, lOK_3, lOK_4, lOK_5, lOK_6, catS_0, catS_1, catS_2, catS_3, catS_4, and_self, true_and, and_true, true_or, or_true, false_or, or_false, not_true_eq_false, not_false_eq_true, if_true, if_false, ite_int, ite_int0, au_10, eq_self, decide_true, decide_false, Bool.true_and, Bool.false_and, au_in, au_le, au_lt, au_eq, au_lt0, au_ge0, au_le0, au_gt0, au_eq0, au_leT, au_leF, au_ltT, au_ltF, au_eqT, au_eqF, nI_clamp, nI_1, nI_add, pk_mul, au_sub1, au_subc, au_up2e, au_up2n, lit_of, lit_1500, hB.1.1, hB.1.2.1, hB.1.2.2.1, hB.1.2.2.2.1, hB.1.2.2.2.2.1, hB.1.2.2.2.2.2.1, hB.1.2.2.2.2.2.2.1, hB.1.2.2.2.2.2.2.2.1, hB.1.2.2.2.2.2.2.2.2.1, hB.1.2.2.2.2.2.2.2.2.2.1, hB.1.2.2.2.2.2.2.2.2.2.2.1, hB.1.2.2.2.2.2.2.2.2.2.2.2.1, hB.1.2.2.2.2.2.2.2.2.2.2.2.2.1, hB.1.2.2.2.2.2.2.2.2.2.2.2.2.2, hB.2.1, hB.2.2.1, hB.2.2.2.1, hB.2.2.2.2.1, hB.2.2.2.2.2.1, hB.2.2.2.2.2.2.1, hB.2.2.2.2.2.2.2.1, hB.2.2.2.2.2.2.2.2.1, hB.2.2.2.2.2.2.2.2.2.1, hB.2.2.2.2.2.2.2.2.2.2.1, hB.2.2.2.2.2.2.2.2.2.2.2.1, hB.2.2.2.2.2.2.2.2.2.2.2.2.1, hB.2.2.2.2.2.2.2.2.2.2.2.2.2, h8]
  have hlen : (nds ++ [(k, s, [])]).length = nds.length + 1 := by rw [List.length_append]; rfl
  refine hK _ ⟨fun a a1 a2 a3 a4 a5 a6 => by simp (disch := omega) only [au_up2c], fun z z1 z2 => by simp (disch := omega) only [au_up2n]⟩ (by simp (disch := omega) only [au_up2n]) ⟨?_, fun i hi => ?_⟩
  · rw [hlen]; simp (disch := omega) only [au_up2n, au_up2e]
  · rw [hlen] at hi
    rw [node_app hi]
    by_cases e : i = nds.length
    · have hl : lts (gN (nds ++ [(k, s, [])])) nds.length = ownL s := lts_last (fun p hp => by cases hp)
      rw [if_pos e, e, hl]
      refine ⟨?_, ?_, ?_, ?_, fun j hj => absurd hj (Nat.not_lt_zero _)⟩
      · simp (disch := omega) only [au_up2n, au_up2e]
      · simp (disch := omega) only [au_up2n, au_up2e]; exact hx
      · simp (disch := omega) only [au_up2n, au_up2e]; rfl
      · simp (disch := omega) only [au_up2n, au_up2e]
    · rw [if_neg e, lts_app (by omega)]
      obtain ⟨q1, q2, q3, q4, q5⟩ := hnd i (by omega)
      refine ⟨?_, ?_, ?_, ?_, fun j hj => ?_⟩
      · simp (disch := omega) only [au_up2n]; exact q1
      · simp (disch := omega) only [au_up2n]; exact q2
      · simp (disch := omega) only [au_up2n]; exact q3
      · simp (disch := omega) only [au_up2n]; exact q4
      · simp (disch := omega) only [au_up2n]; exact q5 j hj
theorem C_addNodeF {n : Nat} {k x y : Int32} (hB : BF Ln B) (hn : n = 1500) (h : I (B + 3) 8 = nI n) : ACall (d + 1) 22 [.ref (B + 3), .int k, .int x, .int y] (G0 Ln) I J K ↔ K (some (.int (-1))) (G0 Ln) (up2 I (B + 3) 11 1) J := by
  subst hn
  rw [ACall_0 (L0 := [.ref (B + 3), .int k, .int x, .int y, nv]) (show mcs 22 = (0, 0) from rfl) (show entL 22 [.ref (B + 3), .int k, .int x, .int y] = _ from rfl) rfl (Nat.le_of_ble_eq_true rfl)]
  simp (disch := omega) only [aw_aload_0 (pc2 := 1) D22_0 rfl, aw_getI (pc2 := 4) (ci := 1) (fk := 8) D22_1 rfl fT_1_42 rfl, aw_sipush (pc2 := 7) (y := 1500) D22_4 rfl (by decide), aw_icmp_lt (pc2 := 10) (t := 17) D22_7 (by decide) rfl, aw_aload_0 (pc2 := 11) D22_10 rfl, aw_iconst (pc2 := 12) (y := 1) D22_11 rfl (by decide), aw_putZ (pc2 := 15) (ci := 1) (fk := 11) D22_12 rfl fT_1_52 rfl, aw_iconst (pc2 := 16) (y := -1) D22_15 rfl (by decide), aw_iret D22_16 rfl, lit_1500, refV_s, refV_n, psh_s, psh_n, kil_i, kil_r, kil_n, kil_l, cat_i, cat_r, iOK_1, iOK_5, jOK_2, jOK_6, wOK_e, lOK_1, lOK_2, lOK_3, lOK_4, lOK_5, lOK_6, catS_0, catS_1, catS_2, catS_3, catS_4, and_self, true_and, and_true, true_or, or_true, false_or, or_false, not_true_eq_false, not_false_eq_true, if_true, if_false, ite_int, ite_int0, au_10, eq_self, decide_true, decide_false, Bool.true_and, Bool.false_and, au_in, au_le, au_lt, au_eq, au_lt0, au_ge0, au_le0, au_gt0, au_eq0, au_leT, au_leF, au_ltT, au_ltF, au_eqT, au_eqF, nI_clamp, nI_1, nI_add, pk_mul, au_sub1, au_subc, au_up2e, au_up2n, lit_of, lit_1500, hB.1.1, hB.1.2.1, hB.1.2.2.1, hB.1.2.2.2.1, hB.1.2.2.2.2.1, hB.1.2.2.2.2.2.1, hB.1.2.2.2.2.2.2.1, hB.1.2.2.2.2.2.2.2.1, hB.1.2.2.2.2.2.2.2.2.1, hB.1.2.2.2.2.2.2.2.2.2.1, hB.1.2.2.2.2.2.2.2.2.2.2.1, hB.1.2.2.2.2.2.2.2.2.2.2.2.1, hB.1.2.2.2.2.2.2.2.2.2.2.2.2.1, hB.1.2.2.2.2.2.2.2.2.2.2.2.2.2, hB.2.1, hB.2.2.1, hB.2.2.2.1, hB.2.2.2.2.1, hB.2.2.2.2.2.1, hB.2.2.2.2.2.2.1, hB.2.2.2.2.2.2.2.1, hB.2.2.2.2.2.2.2.2.1, hB.2.2.2.2.2.2.2.2.2.1, hB.2.2.2.2.2.2.2.2.2.2.1, hB.2.2.2.2.2.2.2.2.2.2.2.1, hB.2.2.2.2.2.2.2.2.2.2.2.2.1, hB.2.2.2.2.2.2.2.2.2.2.2.2.2, h]
theorem C_addPart {nds : List (Nat × Int × List Nat)} {k x : Nat} {s : Int} {ps : List Nat} (hB : BF Ln B) (hn : nds.length < 1500) (h12 : ∀ i, i < nds.length → (nodeAt (gN nds) i).2.2.length ≤ 12) (hps : ∀ p, p ∈ ps → p < nds.length) (hx : x < nds.length) (hl : ps.length < 12) (h : grC B (nds ++ [(k, s, ps)]) I) (hK : ∀ I', frG B I I' → I' (B + 3) 11 = I (B + 3) 11 → grC B (nds ++ [(k, s, ps ++ [x])]) I' → K none (G0 Ln) I' J) : ACall (d + 2) 23 [.ref (B + 3), .int (nI nds.length), .int (nI x)] (G0 Ln) I J K := by
  rw [ACall_0 (L0 := [.ref (B + 3), .int (nI nds.length), .int (nI x)]) (show mcs 23 = (0, 0) from rfl) (show entL 23 [.ref (B + 3), .int (nI nds.length), .int (nI x)] = _ from rfl) rfl (Nat.le_of_ble_eq_true rfl)]
  obtain ⟨h8, hnd⟩ := h
  have hlen : ∀ q, (nds ++ [(k, s, q)]).length = nds.length + 1 := fun q => by rw [List.length_append]; rfl
  rw [hlen] at h8 hnd
  have hlast := hnd nds.length (by omega)
  rw [node_app (by omega), if_pos rfl] at hlast
  obtain ⟨q1, q2, q3, q4, q5⟩ := hlast
  have q3 : I (B + 6) nds.length = nI ps.length := q3
  have hxl := (hnd x (by omega)).2.2.2.1
  have hx' : lts (gN (nds ++ [(k, s, ps)])) x = lts (gN nds) x := lts_app hx
  rw [hx'] at hxl
  rw [lts_last hps] at q4
  simp (disch := omega) only [aw_aload_0 (pc2 := 1) D23_0 rfl, aw_iload_1 (pc2 := 2) D23_1 rfl, aw_iv1_0 (pc2 := 5) (o := 1) D23_2 rfl cT_1_59 rfl rfl, aw_if_eq (pc2 := 8) (t := 27) D23_5 (by decide) rfl, aw_aload_0 (pc2 := 9) D23_8 rfl, aw_iload_2 (pc2 := 10) D23_9 rfl, aw_iv1_0 (pc2 := 13) (o := 1) D23_10 rfl cT_1_59 rfl rfl, aw_if_eq (pc2 := 16) (t := 27) D23_13 (by decide) rfl, aw_aload_0 (pc2 := 17) D23_16 rfl, aw_getR (pc2 := 20) (ci := 1) (fk := 2) D23_17 rfl fT_1_18 rfl, aw_iload_1 (pc2 := 21) D23_20 rfl, aw_iaload (pc2 := 22) D23_21 rfl, aw_bipush (pc2 := 24) (y := 12) D23_22 rfl (by decide), aw_icmp_lt (pc2 := 27) (t := 28) D23_24 (by decide) rfl, aw_vret D23_27 rfl, aw_aload_0 (pc2 := 29) D23_28 rfl, aw_getR (pc2 := 32) (ci := 1) (fk := 4) D23_29 rfl fT_1_24 rfl, aw_iload_1 (pc2 := 33) D23_32 rfl, aw_bipush (pc2 := 35) (y := 12) D23_33 rfl (by decide), aw_imul (pc2 := 36) D23_35 rfl, aw_aload_0 (pc2 := 37) D23_36 rfl, aw_getR (pc2 := 40) (ci := 1) (fk := 2) D23_37 rfl fT_1_18 rfl, aw_iload_1 (pc2 := 41) D23_40 rfl, aw_iaload (pc2 := 42) D23_41 rfl, aw_iadd (pc2 := 43) D23_42 rfl, aw_iload_2 (pc2 := 44) D23_43 rfl, aw_iastore (pc2 := 45) D23_44 rfl, aw_aload_0 (pc2 := 46) D23_45 rfl, aw_getR (pc2 := 49) (ci := 1) (fk := 2) D23_46 rfl fT_1_18 rfl, aw_iload_1 (pc2 := 50) D23_49 rfl, aw_dup2 (pc2 := 51) D23_50 rfl, aw_iaload (pc2 := 52) D23_51 rfl, aw_iconst (pc2 := 53) (y := 1) D23_52 rfl (by decide), aw_iadd (pc2 := 54) D23_53 rfl, aw_iastore (pc2 := 55) D23_54 rfl, aw_aload_0 (pc2 := 56) D23_55 rfl, aw_getR (pc2 := 59) (ci := 1) (fk := 3) D23_56 rfl fT_1_21 rfl, aw_iload_1 (pc2 := 60) D23_59 rfl, aw_dup2 (pc2 := 61) D23_60 rfl, aw_iaload (pc2 := 62) D23_61 rfl, aw_aload_0 (pc2 := 63) D23_62 rfl, aw_getR (pc2 := 66) (ci := 1) (fk := 3) D23_63 rfl fT_1_21 rfl, aw_iload_2 (pc2 := 67) D23_66 rfl, aw_iaload (pc2 := 68) D23_67 rfl, aw_ior (pc2 := 69) D23_68 rfl, aw_iastore (pc2 := 70) D23_69 rfl, aw_vret D23_70 rfl, lit_12, refV_s, refV_n, psh_s, psh_n, kil_i, kil_r, kil_n, kil_l, cat_i, cat_r, iOK_1, iOK_5, jOK_2, jOK_6, wOK_e, lOK_1, lOK_2, lOK_3, lOK_4, lOK_5, lOK_6, catS_0, catS_1, catS_2, catS_3, catS_4, and_self, true_and, and_true, true_or, or_true, false_or, or_false, not_true_eq_false, not_false_eq_true, if_true, if_false, ite_int, ite_int0, au_10, eq_self, decide_true, decide_false, Bool.true_and, Bool.false_and, au_in, au_le, au_lt, au_eq, au_lt0, au_ge0, au_le0, au_gt0, au_eq0, au_leT, au_leF, au_ltT, au_ltF, au_eqT, au_eqF, nI_clamp, nI_1, nI_add, pk_mul, au_sub1, au_subc, au_up2e, au_up2n, lit_of, hB.1.1, hB.1.2.1, hB.1.2.2.1, hB.1.2.2.2.1, hB.1.2.2.2.2.1, hB.1.2.2.2.2.2.1, hB.1.2.2.2.2.2.2.1, hB.1.2.2.2.2.2.2.2.1, hB.1.2.2.2.2.2.2.2.2.1, hB.1.2.2.2.2.2.2.2.2.2.1, hB.1.2.2.2.2.2.2.2.2.2.2.1, hB.1.2.2.2.2.2.2.2.2.2.2.2.1, hB.1.2.2.2.2.2.2.2.2.2.2.2.2.1, hB.1.2.2.2.2.2.2.2.2.2.2.2.2.2, hB.2.1, hB.2.2.1, hB.2.2.2.1, hB.2.2.2.2.1, hB.2.2.2.2.2.1, hB.2.2.2.2.2.2.1, hB.2.2.2.2.2.2.2.1, hB.2.2.2.2.2.2.2.2.1, hB.2.2.2.2.2.2.2.2.2.1, hB.2.2.2.2.2.2.2.2.2.2.1, hB.2.2.2.2.2.2.2.2.2.2.2.1, hB.2.2.2.2.2.2.2.2.2.2.2.2.1, hB.2.2.2.2.2.2.2.2.2.2.2.2.2, C_hasNode hB h8 (show nds.length + 1 ≤ 1500 by omega), q3, q4, hxl, fa_or, show nds.length * 12 + ps.length = 12 * nds.length + ps.length by omega]
  refine hK _ ⟨fun a a1 a2 a3 a4 a5 a6 => by simp (disch := omega) only [au_up2c], fun z z1 z2 => by simp (disch := omega) only [au_up2n]⟩ (by simp (disch := omega) only [au_up2n]) ⟨?_, fun i hi => ?_⟩
  · rw [hlen]; simp (disch := omega) only [au_up2n]; exact h8
  · rw [hlen] at hi
    rw [node_app hi]
    by_cases e : i = nds.length
    · have hl2 : lts (gN (nds ++ [(k, s, ps ++ [x])])) nds.length = ps.foldl (fun a p => a ||| lts (gN nds) p) (ownL s) ||| lts (gN nds) x := by
        rw [lts_last (fun p hp => by
          rcases List.mem_append.mp hp with z | z
          · exact hps p z
          · rw [List.mem_singleton] at z; omega), List.foldl_append]
        rfl
      rw [if_pos e, e, hl2]
      refine ⟨?_, ?_, ?_, ?_, fun j hj => ?_⟩
      · simp (disch := omega) only [au_up2n]; exact q1
      · simp (disch := omega) only [au_up2n]; exact q2
      · show _ = nI (ps ++ [x]).length
        rw [List.length_append]
        simp (disch := omega) only [au_up2n, au_up2e]
        rfl
      · simp (disch := omega) only [au_up2n, au_up2e]
      · have hj : j < (ps ++ [x]).length := hj
        rw [List.length_append] at hj
        simp at hj
        show _ = nI ((ps ++ [x]).getD j 0)
        rw [get_snoc hj]
        by_cases ej : j = ps.length
        · simp (disch := omega) only [ej, au_up2n, au_up2e, if_true]
        · simp (disch := omega) only [ej, au_up2n, if_false]
          exact q5 j (by show j < ps.length; omega)
    · have hlo : lts (gN (nds ++ [(k, s, ps)])) i = lts (gN nds) i := lts_app (by omega)
      obtain ⟨r1, r2, r3, r4, r5⟩ := hnd i (by omega)
      rw [node_app (by omega), if_neg e] at r1 r2 r3 r5
      rw [hlo] at r4
      rw [if_neg e, lts_app (by omega)]
      refine ⟨?_, ?_, ?_, ?_, fun j hj => ?_⟩
      · simp (disch := omega) only [au_up2n]; exact r1
      · simp (disch := omega) only [au_up2n]; exact r2
      · simp (disch := omega) only [au_up2n]; exact r3
      · simp (disch := omega) only [au_up2n]; exact r4
      · have hj' : j < (nodeAt (gN nds) i).2.2.length := hj
        have := h12 i (by omega)
        simp (disch := omega) only [au_up2n]; exact r5 j hj'
theorem C_addPartN {x : Int32} {n : Nat} (hB : BF Ln B) (hn : I (B + 3) 8 = nI n) (h15 : n ≤ 1500) : ACall (d + 2) 23 [.ref (B + 3), .int (-1), .int x] (G0 Ln) I J K ↔ K none (G0 Ln) I J := by
  rw [ACall_0 (L0 := [.ref (B + 3), .int (-1), .int x]) (show mcs 23 = (0, 0) from rfl) (show entL 23 [.ref (B + 3), .int (-1), .int x] = _ from rfl) rfl (Nat.le_of_ble_eq_true rfl)]
  simp (disch := omega) only [aw_aload_0 (pc2 := 1) D23_0 rfl, aw_iload_1 (pc2 := 2) D23_1 rfl, aw_iv1_0 (pc2 := 5) (o := 1) D23_2 rfl cT_1_59 rfl rfl, aw_if_eq (pc2 := 8) (t := 27) D23_5 (by decide) rfl, aw_aload_0 (pc2 := 9) D23_8 rfl, aw_iload_2 (pc2 := 10) D23_9 rfl, aw_iv1_0 (pc2 := 13) (o := 1) D23_10 rfl cT_1_59 rfl rfl, aw_if_eq (pc2 := 16) (t := 27) D23_13 (by decide) rfl, aw_aload_0 (pc2 := 17) D23_16 rfl, aw_getR (pc2 := 20) (ci := 1) (fk := 2) D23_17 rfl fT_1_18 rfl, aw_iload_1 (pc2 := 21) D23_20 rfl, aw_iaload (pc2 := 22) D23_21 rfl, aw_bipush (pc2 := 24) (y := 12) D23_22 rfl (by decide), aw_icmp_lt (pc2 := 27) (t := 28) D23_24 (by decide) rfl, aw_vret D23_27 rfl, lit_12, refV_s, refV_n, psh_s, psh_n, kil_i, kil_r, kil_n, kil_l, cat_i, cat_r, iOK_1, iOK_5, jOK_2, jOK_6, wOK_e, lOK_1, lOK_2, lOK_3, lOK_4, lOK_5, lOK_6, catS_0, catS_1, catS_2, catS_3, catS_4, and_self, true_and, and_true, true_or, or_true, false_or, or_false, not_true_eq_false, not_false_eq_true, if_true, if_false, ite_int, ite_int0, au_10, eq_self, decide_true, decide_false, Bool.true_and, Bool.false_and, au_in, au_le, au_lt, au_eq, au_lt0, au_ge0, au_le0, au_gt0, au_eq0, au_leT, au_leF, au_ltT, au_ltF, au_eqT, au_eqF, nI_clamp, nI_1, nI_add, pk_mul, au_sub1, au_subc, au_up2e, au_up2n, lit_of, hB.1.1, hB.1.2.1, hB.1.2.2.1, hB.1.2.2.2.1, hB.1.2.2.2.2.1, hB.1.2.2.2.2.2.1, hB.1.2.2.2.2.2.2.1, hB.1.2.2.2.2.2.2.2.1, hB.1.2.2.2.2.2.2.2.2.1, hB.1.2.2.2.2.2.2.2.2.2.1, hB.1.2.2.2.2.2.2.2.2.2.2.1, hB.1.2.2.2.2.2.2.2.2.2.2.2.1, hB.1.2.2.2.2.2.2.2.2.2.2.2.2.1, hB.1.2.2.2.2.2.2.2.2.2.2.2.2.2, hB.2.1, hB.2.2.1, hB.2.2.2.1, hB.2.2.2.2.1, hB.2.2.2.2.2.1, hB.2.2.2.2.2.2.1, hB.2.2.2.2.2.2.2.1, hB.2.2.2.2.2.2.2.2.1, hB.2.2.2.2.2.2.2.2.2.1, hB.2.2.2.2.2.2.2.2.2.2.1, hB.2.2.2.2.2.2.2.2.2.2.2.1, hB.2.2.2.2.2.2.2.2.2.2.2.2.1, hB.2.2.2.2.2.2.2.2.2.2.2.2.2, C_hasNode hB hn h15, if_neg (show ¬ (0 ≤ (-1 : Int32) ∧ (-1 : Int32) < nI n) from fun q => absurd q.1 (by decide))]
end GBuild
