/-! the model: what changes, and nodes that come -/
def fS (P : Nat → Nat → Prop) (I I' : IT) : Prop := ∀ a k, ¬ P a k → I' a k = I a k
theorem fS.rf {P : Nat → Nat → Prop} {I : IT} : fS P I I := fun _ _ _ => rfl
theorem fS.tr {P : Nat → Nat → Prop} {I I' I'' : IT} (h : fS P I I') (g : fS P I' I'') : fS P I I'' := fun a k q => (g a k q).trans (h a k q)
theorem fS.wk {P Q : Nat → Nat → Prop} {I I' : IT} (h : fS P I I') (hq : ∀ a k, P a k → Q a k) : fS Q I I' := fun a k q => h a k (fun p => q (hq a k p))
theorem fS.up {P : Nat → Nat → Prop} {I : IT} {c k : Nat} {v : Int32} (h : P c k) : fS P I (up2 I c k v) := fun a j q => au_up2n (by
  by_cases e : a = c
  · refine Or.inr (fun e2 => q ?_)
    rw [e, e2]; exact h
  · exact Or.inl e)
def chG (b a k : Nat) : Prop := (a = 131 ∧ k = b) ∨ ((134 ≤ a ∧ a ≤ 137) ∧ 1500 * b ≤ k ∧ k < 1500 * b + 1500) ∨ (a = 138 ∧ 40000 * b ≤ k ∧ k < 40000 * b + 40000) ∨ (a = 139 ∧ k = b)
/-- what may change while a graph is made, frames from f on -/
def mch (b f a k : Nat) : Prop := (a = 122 ∧ (k = 18 ∨ (36 ≤ k ∧ k ≤ 39))) ∨ (a = 133 ∧ k = b) ∨ chG b a k ∨ a = 140 ∨ ((a = 141 ∨ a = 145 ∨ a = 149) ∧ 40 * f ≤ k) ∨ ((a = 143 ∨ a = 148) ∧ 12 * f ≤ k) ∨ ((a = 142 ∨ a = 144 ∨ a = 146 ∨ a = 147 ∨ (150 ≤ a ∧ a ≤ 153)) ∧ f ≤ k) ∨ (154 ≤ a ∧ a ≤ 157)
def grM (b : Nat) (nds : List (Nat × Int × List Nat)) (I : IT) : Prop := I 131 b = nI nds.length ∧ I 139 b = nI (poN (gN nds) nds.length) ∧ ∀ i, i < nds.length → I 134 (1500 * b + i) = nI (nodeAt (gN nds) i).1 ∧ I 135 (1500 * b + i) = iI (nodeAt (gN nds) i).2.1 ∧ I 137 (1500 * b + i) = nI (nodeAt (gN nds) i).2.2.length ∧ I 136 (1500 * b + i) = nI (40000 * b + poN (gN nds) i) ∧ ∀ j, j < (nodeAt (gN nds) i).2.2.length → I 138 (40000 * b + poN (gN nds) i + j) = nI ((nodeAt (gN nds) i).2.2.getD j 0)
def mtM (m : MT) (I : IT) : Prop := I 122 36 = nI m.length ∧ I 122 37 = nI (stM m m.length) ∧ ∀ i, i < m.length → I 154 i = nI (stM m i) ∧ I 155 i = nI (mAt m i).1.length ∧ I 156 i = nI (mAt m i).2 ∧ lsA 157 (stM m i) (mAt m i).1 I
def litM (L : Nat → Option Nat) (I : IT) : Prop := ∀ i, i < 24 → I 140 i = litI (L i)
def cstM (b : Nat) (S : ST) (I : IT) : Prop := grM b S.1 I ∧ I 133 b = nI S.2.1 ∧ I 122 18 = 0 ∧ litM S.2.2.1 I ∧ mtM S.2.2.2 I
def sptM (b : Nat) (I : IT) : Prop := I 122 18 = 1 ∧ I 131 b = nI 1500
theorem grM_cong {b : Nat} {nds : List (Nat × Int × List Nat)} {I I' : IT} (h : ∀ a k, chG b a k → I' a k = I a k) (hl : nds.length ≤ 1500) (h12 : ∀ i, i < nds.length → poN (gN nds) i + (nodeAt (gN nds) i).2.2.length ≤ 40000) (hm : grM b nds I) : grM b nds I' := by
  obtain ⟨a, c, e⟩ := hm
  refine ⟨by rw [h 131 b (by unfold chG; omega)]; exact a, by rw [h 139 b (by unfold chG; omega)]; exact c, fun i hi => ?_⟩
  have hi2 := h12 i hi
  rw [h 134 _ (by unfold chG; omega), h 135 _ (by unfold chG; omega), h 136 _ (by unfold chG; omega), h 137 _ (by unfold chG; omega)]
  obtain ⟨e1, e2, e3, e4, e5⟩ := e i hi
  exact ⟨e1, e2, e3, e4, fun j hj => by rw [h 138 _ (by unfold chG; omega)]; exact e5 j hj⟩
theorem mtM_cong {m : MT} {I I' : IT} (h1 : I' 122 36 = I 122 36) (h2 : I' 122 37 = I 122 37) (h : ∀ a, 154 ≤ a → a ≤ 157 → I' a = I a) (hm : mtM m I) : mtM m I' := by
  obtain ⟨a, c, e⟩ := hm
  refine ⟨h1.trans a, h2.trans c, fun i hi => ?_⟩
  obtain ⟨e1, e2, e3, e4⟩ := e i hi
  rw [h 154 (by omega) (by omega), h 155 (by omega) (by omega), h 156 (by omega) (by omega)]
  exact ⟨e1, e2, e3, fun j hj => by rw [h 157 (by omega) (by omega)]; exact e4 j hj⟩
/-- how many parts there are in all -/
theorem po_leM {g : GR} (h : ∀ i, i < g.1.length → (nodeAt g i).2.2.length ≤ 12) : ∀ i, i ≤ g.1.length → poN g i ≤ 12 * i
  | 0, _ => Nat.le_refl _
  | i + 1, hi => by
    have ih := po_leM h i (by omega)
    have := h i (by omega)
    show poN g i + (nodeAt g i).2.2.length ≤ _
    omega
theorem po_app {nds : List (Nat × Int × List Nat)} {x : Nat × Int × List Nat} {i : Nat} (hi : i ≤ nds.length) : poN (gN (nds ++ [x])) i = poN (gN nds) i := fb_sm_cong (fun k hk => by rw [node_app (by omega), if_neg (by omega)])
theorem po_snoc {nds : List (Nat × Int × List Nat)} {x : Nat × Int × List Nat} : poN (gN (nds ++ [x])) (nds.length + 1) = poN (gN nds) nds.length + x.2.2.length := by
  show poN (gN (nds ++ [x])) nds.length + (nodeAt (gN (nds ++ [x])) nds.length).2.2.length = _
  rw [po_app (Nat.le_refl _), node_app (by omega), if_pos rfl]
theorem po_in {nds : List (Nat × Int × List Nat)} {i : Nat} (hi : i < nds.length) : poN (gN nds) i + (nodeAt (gN nds) i).2.2.length ≤ poN (gN nds) nds.length := fb_sm_part (fun k => (nodeAt (gN nds) k).2.2.length) hi
section MDef
variable {d Ln b : Nat} {I : IT} {J : JT} {K : KT}
theorem M_comes {nds : List (Nat × Int × List Nat)} {k : Nat} {s : Int} {x : Int32} (hb : b < 2) (hn : nds.length < 1500) (h12 : ∀ i, i < nds.length → (nodeAt (gN nds) i).2.2.length ≤ 12) (hk4 : k < 5) (hx : x = iI s) (h : grM b nds I) (hK : ∀ I', fS (chG b) I I' → grM b (nds ++ [(k, s, [])]) I' → K (some (.int (nI nds.length))) (G0 Ln) I' J) : ACall (d + 1) 145 [.ref 122, .int (nI b), .int (nI k), .int x] (G0 Ln) I J K := by
  rw [ACall_0 (L0 := [.ref 122, .int (nI b), .int (nI k), .int x, nv]) (show mcs 145 = (0, 0) from rfl) (show entL 145 [.ref 122, .int (nI b), .int (nI k), .int x] = _ from rfl) rfl (Nat.le_of_ble_eq_true rfl)]
  obtain ⟨h1, h2, h3⟩ := h
  have hpo : poN (gN nds) nds.length ≤ 12 * nds.length := po_leM (g := gN nds) h12 nds.length (Nat.le_refl _)
  simp (disch := omega) only [aw_aload_0 (pc2 := 1) D145_0 rfl, aw_getR (pc2 := 4) (ci := 7) (fk := 8) D145_1 rfl fT_7_34 rfl, aw_iload_1 (pc2 := 5) D145_4 rfl, aw_iaload (pc2 := 6) D145_5 rfl, aw_sipush (pc2 := 9) (y := 1500) D145_6 rfl (by decide), aw_icmp_ne (pc2 := 12) (t := 19) D145_9 (by decide) rfl, aw_sipush (pc2 := 22) (y := 1500) D145_19 rfl (by decide), aw_iload_1 (pc2 := 23) D145_22 rfl, aw_imul (pc2 := 24) D145_23 rfl, aw_aload_0 (pc2 := 25) D145_24 rfl, aw_getR (pc2 := 28) (ci := 7) (fk := 8) D145_25 rfl fT_7_34 rfl, aw_iload_1 (pc2 := 29) D145_28 rfl, aw_iaload (pc2 := 30) D145_29 rfl, aw_iadd (pc2 := 31) D145_30 rfl, aw_istore_4 (pc2 := 33) D145_31 rfl, aw_aload_0 (pc2 := 34) D145_33 rfl, aw_getR (pc2 := 37) (ci := 7) (fk := 11) D145_34 rfl fT_7_43 rfl, aw_iload_4 (pc2 := 39) D145_37 rfl, aw_iload_2 (pc2 := 40) D145_39 rfl, aw_iastore (pc2 := 41) D145_40 rfl, aw_aload_0 (pc2 := 42) D145_41 rfl, aw_getR (pc2 := 45) (ci := 7) (fk := 12) D145_42 rfl fT_7_46 rfl, aw_iload_4 (pc2 := 47) D145_45 rfl, aw_iload_3 (pc2 := 48) D145_47 rfl, aw_iastore (pc2 := 49) D145_48 rfl, aw_aload_0 (pc2 := 50) D145_49 rfl, aw_getR (pc2 := 53) (ci := 7) (fk := 13) D145_50 rfl fT_7_49 rfl, aw_iload_4 (pc2 := 55) D145_53 rfl, aw_ldc (pc2 := 57) (v := 40000) D145_55 rfl (by decide), aw_iload_1 (pc2 := 58) D145_57 rfl, aw_imul (pc2 := 59) D145_58 rfl, aw_aload_0 (pc2 := 60) D145_59 rfl, aw_getR (pc2 := 63) (ci := 7) (fk := 16) D145_60 rfl fT_7_59 rfl, aw_iload_1 (pc2 := 64) D145_63 rfl, aw_iaload (pc2 := 65) D145_64 rfl, aw_iadd (pc2 := 66) D145_65 rfl, aw_iastore (pc2 := 67) D145_66 rfl, aw_aload_0 (pc2 := 68) D145_67 rfl, aw_getR (pc2 := 71) (ci := 7) (fk := 14) D145_68 rfl fT_7_52 rfl, aw_iload_4 (pc2 := 73) D145_71 rfl, aw_iconst (pc2 := 74) (y := 0) D145_73 rfl (by decide), aw_iastore (pc2 := 75) D145_74 rfl, aw_aload_0 (pc2 := 76) D145_75 rfl, aw_getR (pc2 := 79) (ci := 7) (fk := 8) D145_76 rfl fT_7_34 rfl, aw_iload_1 (pc2 := 80) D145_79 rfl, aw_dup2 (pc2 := 81) D145_80 rfl, aw_iaload (pc2 := 82) D145_81 rfl, aw_iconst (pc2 := 83) (y := 1) D145_82 rfl (by decide), aw_iadd (pc2 := 84) D145_83 rfl, aw_iastore (pc2 := 85) D145_84 rfl, aw_aload_0 (pc2 := 86) D145_85 rfl, aw_getR (pc2 := 89) (ci := 7) (fk := 8) D145_86 rfl fT_7_34 rfl, aw_iload_1 (pc2 := 90) D145_89 rfl, aw_iaload (pc2 := 91) D145_90 rfl, aw_iconst (pc2 := 92) (y := 1) D145_91 rfl (by decide), aw_isub (pc2 := 93) D145_92 rfl, aw_iret D145_93 rfl, sh_122, rf_122_8, sh_131, lit_1500, rf_122_11, sh_134, rf_122_12, sh_135, rf_122_13, sh_136, lit_40000, rf_122_16, sh_139, rf_122_14, sh_137, refV_s, refV_n, psh_s, psh_n, kil_i, kil_r, kil_n, kil_l, cat_i, cat_r, iOK_1, iOK_5, jOK_2, jOK_6, wOK_e, lOK_1, lOK_2, lOK_3, lOK_4, lOK_5, lOK_6, catS_0, catS_1, catS_2, catS_3, catS_4, and_self, true_and, and_true, true_or, or_true, false_or, or_false, not_true_eq_false, not_false_eq_true, if_true, if_false, ite_int, ite_int0, au_10, eq_self, decide_true, decide_false, Bool.true_and, Bool.false_and, au_in, au_le, au_lt, au_eq, au_lt0, au_ge0, au_le0, au_gt0, au_eq0, au_leT, au_leF, au_ltT, au_ltF, au_eqT, au_eqF, nI_clamp, nI_1, nI_add, pk_mul, au_sub1, au_subc, au_up2e, au_up2n, lit_of, h1, h2]
  have hlen : (nds ++ [(k, s, [])]).length = nds.length + 1 := by rw [List.length_append]; rfl
  refine hK _ (fun a j q => ?_) ⟨?_, ?_, fun i hi => ?_⟩
  · unfold chG at q
    simp (disch := omega) only [au_up2n]
  · rw [hlen]; simp (disch := omega) only [au_up2n, au_up2e]
  · rw [hlen, po_snoc]; simp (disch := omega) only [au_up2n, au_up2e]; exact h2
  · rw [hlen] at hi
    rw [node_app hi]
    by_cases e : i = nds.length
    · rw [if_pos e, e, po_app (Nat.le_refl _)]
      refine ⟨?_, ?_, ?_, ?_, fun j hj => absurd hj (Nat.not_lt_zero _)⟩
      · simp (disch := omega) only [au_up2n, au_up2e]
      · simp (disch := omega) only [au_up2n, au_up2e]; exact hx
      · simp (disch := omega) only [au_up2n, au_up2e]; rfl
      · simp (disch := omega) only [au_up2n, au_up2e]
    · rw [if_neg e, po_app (by omega)]
      obtain ⟨q1, q2, q3, q4, q5⟩ := h3 i (by omega)
      have hpi := po_in (nds := nds) (i := i) (by omega)
      refine ⟨?_, ?_, ?_, ?_, fun j hj => ?_⟩
      · simp (disch := omega) only [au_up2n]; exact q1
      · simp (disch := omega) only [au_up2n]; exact q2
      · simp (disch := omega) only [au_up2n]; exact q3
      · simp (disch := omega) only [au_up2n]; exact q4
      · simp (disch := omega) only [au_up2n]; exact q5 j hj
theorem M_comesF {n : Nat} {k x : Int32} (hb : b < 2) (hn : n = 1500) (h : I 131 b = nI n) : ACall (d + 1) 145 [.ref 122, .int (nI b), .int k, .int x] (G0 Ln) I J K ↔ K (some (.int 1)) (G0 Ln) (up2 I 122 18 1) J := by
  subst hn
  rw [ACall_0 (L0 := [.ref 122, .int (nI b), .int k, .int x, nv]) (show mcs 145 = (0, 0) from rfl) (show entL 145 [.ref 122, .int (nI b), .int k, .int x] = _ from rfl) rfl (Nat.le_of_ble_eq_true rfl)]
  simp (disch := omega) only [aw_aload_0 (pc2 := 1) D145_0 rfl, aw_getR (pc2 := 4) (ci := 7) (fk := 8) D145_1 rfl fT_7_34 rfl, aw_iload_1 (pc2 := 5) D145_4 rfl, aw_iaload (pc2 := 6) D145_5 rfl, aw_sipush (pc2 := 9) (y := 1500) D145_6 rfl (by decide), aw_icmp_ne (pc2 := 12) (t := 19) D145_9 (by decide) rfl, aw_aload_0 (pc2 := 13) D145_12 rfl, aw_iconst (pc2 := 14) (y := 1) D145_13 rfl (by decide), aw_putZ (pc2 := 17) (ci := 7) (fk := 18) D145_14 rfl fT_7_191 rfl, aw_iconst (pc2 := 18) (y := 1) D145_17 rfl (by decide), aw_iret D145_18 rfl, sh_122, rf_122_8, sh_131, lit_1500, rf_122_11, sh_134, rf_122_12, sh_135, rf_122_13, sh_136, lit_40000, rf_122_16, sh_139, rf_122_14, sh_137, refV_s, refV_n, psh_s, psh_n, kil_i, kil_r, kil_n, kil_l, cat_i, cat_r, iOK_1, iOK_5, jOK_2, jOK_6, wOK_e, lOK_1, lOK_2, lOK_3, lOK_4, lOK_5, lOK_6, catS_0, catS_1, catS_2, catS_3, catS_4, and_self, true_and, and_true, true_or, or_true, false_or, or_false, not_true_eq_false, not_false_eq_true, if_true, if_false, ite_int, ite_int0, au_10, eq_self, decide_true, decide_false, Bool.true_and, Bool.false_and, au_in, au_le, au_lt, au_eq, au_lt0, au_ge0, au_le0, au_gt0, au_eq0, au_leT, au_leF, au_ltT, au_ltF, au_eqT, au_eqF, nI_clamp, nI_1, nI_add, pk_mul, au_sub1, au_subc, au_up2e, au_up2n, lit_of, h]
theorem M_addPart {nds : List (Nat × Int × List Nat)} {k x : Nat} {s : Int} {ps : List Nat} (hb : b < 2) (hn : nds.length < 1500) (h12 : ∀ i, i < nds.length → (nodeAt (gN nds) i).2.2.length ≤ 12) (hl : ps.length < 12) (h : grM b (nds ++ [(k, s, ps)]) I) (hK : ∀ I', fS (chG b) I I' → grM b (nds ++ [(k, s, ps ++ [x])]) I' → K none (G0 Ln) I' J) : ACall (d + 1) 146 [.ref 122, .int (nI b), .int (nI nds.length), .int (nI x)] (G0 Ln) I J K := by
  rw [ACall_0 (L0 := [.ref 122, .int (nI b), .int (nI nds.length), .int (nI x), nv]) (show mcs 146 = (0, 0) from rfl) (show entL 146 [.ref 122, .int (nI b), .int (nI nds.length), .int (nI x)] = _ from rfl) rfl (Nat.le_of_ble_eq_true rfl)]
  obtain ⟨h1, h2, h3⟩ := h
  have hpo : poN (gN nds) nds.length ≤ 12 * nds.length := po_leM (g := gN nds) h12 nds.length (Nat.le_refl _)
  have hlen : ∀ q, (nds ++ [(k, s, q)]).length = nds.length + 1 := fun q => by rw [List.length_append]; rfl
  rw [hlen] at h1 h2 h3
  have hlast := h3 nds.length (by omega)
  rw [node_app (by omega), if_pos rfl, po_app (Nat.le_refl _)] at hlast
  obtain ⟨q1, q2, q3, q4, q5⟩ := hlast
  have q3 : I 137 (1500 * b + nds.length) = nI ps.length := q3
  rw [po_snoc] at h2
  have h2 : I 139 b = nI (poN (gN nds) nds.length + ps.length) := h2
  simp (disch := omega) only [aw_sipush (pc2 := 3) (y := 1500) D146_0 rfl (by decide), aw_iload_1 (pc2 := 4) D146_3 rfl, aw_imul (pc2 := 5) D146_4 rfl, aw_iload_2 (pc2 := 6) D146_5 rfl, aw_iadd (pc2 := 7) D146_6 rfl, aw_istore_4 (pc2 := 9) D146_7 rfl, aw_aload_0 (pc2 := 10) D146_9 rfl, aw_getR (pc2 := 13) (ci := 7) (fk := 15) D146_10 rfl fT_7_56 rfl, aw_aload_0 (pc2 := 14) D146_13 rfl, aw_getR (pc2 := 17) (ci := 7) (fk := 13) D146_14 rfl fT_7_49 rfl, aw_iload_4 (pc2 := 19) D146_17 rfl, aw_iaload (pc2 := 20) D146_19 rfl, aw_aload_0 (pc2 := 21) D146_20 rfl, aw_getR (pc2 := 24) (ci := 7) (fk := 14) D146_21 rfl fT_7_52 rfl, aw_iload_4 (pc2 := 26) D146_24 rfl, aw_iaload (pc2 := 27) D146_26 rfl, aw_iadd (pc2 := 28) D146_27 rfl, aw_iload_3 (pc2 := 29) D146_28 rfl, aw_iastore (pc2 := 30) D146_29 rfl, aw_aload_0 (pc2 := 31) D146_30 rfl, aw_getR (pc2 := 34) (ci := 7) (fk := 14) D146_31 rfl fT_7_52 rfl, aw_iload_4 (pc2 := 36) D146_34 rfl, aw_dup2 (pc2 := 37) D146_36 rfl, aw_iaload (pc2 := 38) D146_37 rfl, aw_iconst (pc2 := 39) (y := 1) D146_38 rfl (by decide), aw_iadd (pc2 := 40) D146_39 rfl, aw_iastore (pc2 := 41) D146_40 rfl, aw_aload_0 (pc2 := 42) D146_41 rfl, aw_getR (pc2 := 45) (ci := 7) (fk := 16) D146_42 rfl fT_7_59 rfl, aw_iload_1 (pc2 := 46) D146_45 rfl, aw_dup2 (pc2 := 47) D146_46 rfl, aw_iaload (pc2 := 48) D146_47 rfl, aw_iconst (pc2 := 49) (y := 1) D146_48 rfl (by decide), aw_iadd (pc2 := 50) D146_49 rfl, aw_iastore (pc2 := 51) D146_50 rfl, aw_vret D146_51 rfl, sh_122, lit_1500, rf_122_15, sh_138, rf_122_13, sh_136, rf_122_14, sh_137, rf_122_16, sh_139, refV_s, refV_n, psh_s, psh_n, kil_i, kil_r, kil_n, kil_l, cat_i, cat_r, iOK_1, iOK_5, jOK_2, jOK_6, wOK_e, lOK_1, lOK_2, lOK_3, lOK_4, lOK_5, lOK_6, catS_0, catS_1, catS_2, catS_3, catS_4, and_self, true_and, and_true, true_or, or_true, false_or, or_false, not_true_eq_false, not_false_eq_true, if_true, if_false, ite_int, ite_int0, au_10, eq_self, decide_true, decide_false, Bool.true_and, Bool.false_and, au_in, au_le, au_lt, au_eq, au_lt0, au_ge0, au_le0, au_gt0, au_eq0, au_leT, au_leF, au_ltT, au_ltF, au_eqT, au_eqF, nI_clamp, nI_1, nI_add, pk_mul, au_sub1, au_subc, au_up2e, au_up2n, lit_of, q3, q4, h2]
  refine hK _ (fun a j q => ?_) ⟨?_, ?_, fun i hi => ?_⟩
  · unfold chG at q
    simp (disch := omega) only [au_up2n]
  · rw [hlen]; simp (disch := omega) only [au_up2n]; exact h1
  · rw [hlen, po_snoc]
    show _ = nI (poN (gN nds) nds.length + (ps ++ [x]).length)
    rw [List.length_append]
    simp (disch := omega) only [au_up2n, au_up2e]
    rfl
  · rw [hlen] at hi
    rw [node_app hi]
    by_cases e : i = nds.length
    · rw [if_pos e, e, po_app (Nat.le_refl _)]
      refine ⟨?_, ?_, ?_, ?_, fun j hj => ?_⟩
      · simp (disch := omega) only [au_up2n]; exact q1
      · simp (disch := omega) only [au_up2n]; exact q2
      · show _ = nI (ps ++ [x]).length
        rw [List.length_append]
        simp (disch := omega) only [au_up2n, au_up2e]
        rfl
      · simp (disch := omega) only [au_up2n]; exact q4
      · have hj : j < (ps ++ [x]).length := hj
        rw [List.length_append] at hj
        simp at hj
        show _ = nI ((ps ++ [x]).getD j 0)
        rw [get_snoc hj]
        by_cases ej : j = ps.length
        · simp (disch := omega) only [ej, au_up2n, au_up2e, if_true]
        · simp (disch := omega) only [ej, au_up2n, if_false]
          exact q5 j (by show j < ps.length; omega)
    · obtain ⟨r1, r2, r3, r4, r5⟩ := h3 i (by omega)
      rw [node_app (by omega), if_neg e] at r1 r2 r3 r5
      rw [po_app (by omega)] at r4 r5
      rw [if_neg e, po_app (by omega)]
      have hpi := po_in (nds := nds) (i := i) (by omega)
      refine ⟨?_, ?_, ?_, ?_, fun j hj => ?_⟩
      · simp (disch := omega) only [au_up2n]; exact r1
      · simp (disch := omega) only [au_up2n]; exact r2
      · simp (disch := omega) only [au_up2n]; exact r3
      · simp (disch := omega) only [au_up2n]; exact r4
      · have hj' : j < (nodeAt (gN nds) i).2.2.length := hj
        simp (disch := omega) only [au_up2n]; exact r5 j hj'
end MDef
