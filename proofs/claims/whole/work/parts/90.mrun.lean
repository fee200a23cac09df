/-! the model: its stack of frames makes lists -/
theorem F_147 {b f : Nat} : ¬ chF b f 147 f := by
  rintro (h | h | h)
  · unfold chPk at h; omega
  · omega
  · unfold mch chG at h; omega
def stepH (Ln b D : Nat) (J : JT) (H : IT → Prop) : Prop := ∀ I f, f < 13 → I 122 38 = nI (f + 1) → I 122 18 = 0 → (∀ K' : KT, (∀ I'', H I'' → K' none (G0 Ln) I'' J) → ACall (D + 7) 162 [.ref 122, .int (nI b)] (G0 Ln) I J K') → H I
theorem M_run {Ln N ak b D : Nat} {J : JT} {H : IT → Prop} (hN : N ≤ 12) (hb : b < 2) (hak : ak < 4096) (hst : stepH Ln b D J H) : ∀ fuel f, f + fuel = 13 → ∀ (l : List Nat) (S : ST) (I : IT) (dd : Nat) (K' : KT), lsI N l → lc l < fuel → stV N S → room (lc l) S → I 122 38 = nI (f + 1) → I 142 f = nI l.length → lsA 141 (40 * f) l I → cstM b S I → I 126 b = nI ak → (∀ I'', H I'' → K' none (G0 Ln) I'' J) → (∀ n S' I', mkL ak fuel l S = some (n, S') → fS (mch b f) I I' → cstM b S' I' → I' 122 38 = nI f → I' 122 39 = nI n → H I') → (∀ I', mkL ak fuel l S = none → fS (mch b f) I I' → sptM b I' → H I') → ACall (dd + 4) 152 [.ref 122] (G0 Ln) I J K'
  | 0, f, _ => fun l S I dd K' _ hlc => absurd hlc (Nat.not_lt_zero _)
  | fuel + 1, f, hff => fun l S I dd K' hl hlc hS hr hd h5 h1 h ha hK' hgood hbad => by
    have ih := M_run (Ln := Ln) (D := D) (J := J) (H := H) hN hb hak hst fuel (f + 1) (by omega)
    have h12 : lc l ≤ 12 := lc_le
    refine M_opens (d := dd) hN (by omega) hl hd h5 h1 (fun I1 w hsim e1 e2 => ?_) (fun I1 l' t' m w hsim hm fr1 e7 e52 e38 => ?_)
    · refine hK' _ (hgood 1 S I1 (by unfold mkL; rw [hsim]) (w.wk chO_mch) (cstM_cong hS.1 (fun a k q => w a k (chS_O q)) h) e1 e2)
    · obtain ⟨p1, p2, p3, p4, p5, p6, p7⟩ := pcs_all hN hl hsim
      have hok := lsI_ok hN p1
      have p140 := p1.1
      have hsr := sum_room (ps := pcs l'.length l') (by omega)
      have m1 := room_le (sumF lc (pcs l'.length l')) (by omega) (lc l) (by omega) (by omega)
      obtain ⟨hr1, hr2⟩ := hr
      have hmk : ∀ r, mkPs (mkP ak (mkL ak fuel)) (pcs l'.length l') [] S = r → mkL ak (fuel + 1) l S = (match r with
        | none => none
        | some (none, S1) => some (1, S1)
        | some (some nds, S1) => nodeL t' nds S1) := fun r q => by
        rw [mkL, hsim]
        simp only
        rw [q]
        rfl
      refine hK' _ ?_
      have key : ∀ (rest : List (List Nat)) (a : List Nat) (S2 : ST) (I3 : IT), (pcs l'.length l').drop a.length = rest → mkPs (mkP ak (mkL ak fuel)) (pcs l'.length l') [] S = mkPs (mkP ak (mkL ak fuel)) rest a S2 → stV N S2 → S2.2.2.2.length + sumF (fun p => roomA (lc p)) rest ≤ 2047 → stM S2.2.2.2 S2.2.2.2.length + sumF (fun p => roomZ (lc p)) rest ≤ 34776 → (∀ x, x ∈ a → x < S2.1.length) → a.length + rest.length = (pcs l'.length l').length → frmM f l' t' m I3 → I3 147 f = nI a.length → lsA 148 (12 * f) a I3 → I3 152 f = 0 → I3 122 38 = nI (f + 1) → I3 126 b = nI ak → fS (mch b f) I I3 → cstM b S2 I3 → H I3 := by
        intro rest
        induction rest with
        | nil =>
          intro a S2 I3 hdr hpre g1 g2 g3 g4 g5 fr q7 q8 q52 q38 q26 w3 g
          have g5 : a.length = (pcs l'.length l').length := g5
          refine hst I3 f (by omega) q38 g.2.2.1 (fun K2 hK2 => ?_)
          rw [ACall_0 (L0 := [.ref 122, .int (nI b), nv]) (show mcs 162 = (0, 0) from rfl) (show entL 162 [.ref 122, .int (nI b)] = _ from rfl) rfl (Nat.le_of_ble_eq_true rfl)]
          have q46 : I3 146 f = nI a.length := by rw [g5]; exact fr.2.2.2.2.2
          simp (disch := omega) only [aw_aload_0 (pc2 := 1) D162_0 rfl, aw_getI (pc2 := 4) (ci := 7) (fk := 38) D162_1 rfl fT_7_206 rfl, aw_iconst (pc2 := 5) (y := 1) D162_4 rfl (by decide), aw_isub (pc2 := 6) D162_5 rfl, aw_istore_2 (pc2 := 7) D162_6 rfl, aw_aload_0 (pc2 := 8) D162_7 rfl, aw_getR (pc2 := 11) (ci := 7) (fk := 30) D162_8 rfl fT_7_98 rfl, aw_iload_2 (pc2 := 12) D162_11 rfl, aw_iaload (pc2 := 13) D162_12 rfl, aw_if_ne (pc2 := 16) (t := 49) D162_13 (by decide) rfl, aw_aload_0 (pc2 := 17) D162_16 rfl, aw_getR (pc2 := 20) (ci := 7) (fk := 25) D162_17 rfl fT_7_83 rfl, aw_iload_2 (pc2 := 21) D162_20 rfl, aw_iaload (pc2 := 22) D162_21 rfl, aw_aload_0 (pc2 := 23) D162_22 rfl, aw_getR (pc2 := 26) (ci := 7) (fk := 24) D162_23 rfl fT_7_80 rfl, aw_iload_2 (pc2 := 27) D162_26 rfl, aw_iaload (pc2 := 28) D162_27 rfl, aw_icmp_ne (pc2 := 31) (t := 40) D162_28 (by decide) rfl, aw_aload_0 (pc2 := 32) D162_31 rfl, aw_iload_1 (pc2 := 33) D162_32 rfl, aw_iload_2 (pc2 := 34) D162_33 rfl, aw_iv2_0 (pc2 := 37) (o := 7) D162_34 rfl cT_7_254 rfl rfl, sh_122, rf_122_30, sh_152, rf_122_25, sh_147, rf_122_24, sh_146, rf_122_31, sh_153, lit_2, lit_12, rf_122_29, sh_151, refV_s, refV_n, psh_s, psh_n, kil_i, kil_r, kil_n, kil_l, cat_i, cat_r, iOK_1, iOK_5, jOK_2, jOK_6, wOK_e, lOK_1, lOK_2, lOK_3, lOK_4, lOK_5, lOK_6, catS_0, catS_1, catS_2, catS_3, catS_4, and_self, true_and, and_true, true_or, or_true, false_or, or_false, not_true_eq_false, not_false_eq_true, if_true, if_false, ite_int, ite_int0, au_10, eq_self, decide_true, decide_false, Bool.true_and, Bool.false_and, au_in, au_le, au_lt, au_eq, au_lt0, au_ge0, au_le0, au_gt0, au_eq0, au_leT, au_leF, au_ltT, au_ltF, au_eqT, au_eqF, nI_clamp, nI_1, nI_add, pk_mul, au_sub1, au_subc, au_up2e, au_up2n, lit_of, Nat.add_sub_cancel, q38, q52, q7, q46]
          have hend := hmk _ (hpre.trans rfl)
          refine M_closes (d := D + 3) hN hb (by omega) (by omega) g1.1 p2 g4 fr.2.2.1 q46 fr.2.2.2.1 q8 q38 g (fun n S' I' z w4 g' e1 e2 => ?_) (fun I' z w4 g' => ?_)
          · simp (disch := omega) only [aw_goto (t := 105) D162_37 (by decide), aw_vret D162_105 rfl, sh_122, rf_122_30, sh_152, rf_122_25, sh_147, rf_122_24, sh_146, rf_122_31, sh_153, lit_2, lit_12, rf_122_29, sh_151, refV_s, refV_n, psh_s, psh_n, kil_i, kil_r, kil_n, kil_l, cat_i, cat_r, iOK_1, iOK_5, jOK_2, jOK_6, wOK_e, lOK_1, lOK_2, lOK_3, lOK_4, lOK_5, lOK_6, catS_0, catS_1, catS_2, catS_3, catS_4, and_self, true_and, and_true, true_or, or_true, false_or, or_false, not_true_eq_false, not_false_eq_true, if_true, if_false, ite_int, ite_int0, au_10, eq_self, decide_true, decide_false, Bool.true_and, Bool.false_and, au_in, au_le, au_lt, au_eq, au_lt0, au_ge0, au_le0, au_gt0, au_eq0, au_leT, au_leF, au_ltT, au_ltF, au_eqT, au_eqF, nI_clamp, nI_1, nI_add, pk_mul, au_sub1, au_subc, au_up2e, au_up2n, lit_of, psh]
            exact hK2 _ (hgood n S' I' (hend.trans z) (w3.tr (w4.wk chC_mch)) g' e1 e2)
          · simp (disch := omega) only [aw_goto (t := 105) D162_37 (by decide), aw_vret D162_105 rfl, sh_122, rf_122_30, sh_152, rf_122_25, sh_147, rf_122_24, sh_146, rf_122_31, sh_153, lit_2, lit_12, rf_122_29, sh_151, refV_s, refV_n, psh_s, psh_n, kil_i, kil_r, kil_n, kil_l, cat_i, cat_r, iOK_1, iOK_5, jOK_2, jOK_6, wOK_e, lOK_1, lOK_2, lOK_3, lOK_4, lOK_5, lOK_6, catS_0, catS_1, catS_2, catS_3, catS_4, and_self, true_and, and_true, true_or, or_true, false_or, or_false, not_true_eq_false, not_false_eq_true, if_true, if_false, ite_int, ite_int0, au_10, eq_self, decide_true, decide_false, Bool.true_and, Bool.false_and, au_in, au_le, au_lt, au_eq, au_lt0, au_ge0, au_le0, au_gt0, au_eq0, au_leT, au_leF, au_ltT, au_ltF, au_eqT, au_eqF, nI_clamp, nI_1, nI_add, pk_mul, au_sub1, au_subc, au_up2e, au_up2n, lit_of, psh]
            exact hK2 _ (hbad I' (hend.trans z) (w3.tr (w4.wk chC_mch)) g')
        | cons p rest ihr =>
          intro a S2 I3 hdr hpre g1 g2 g3 g4 g5 fr q7 q8 q52 q38 q26 w3 g
          rw [List.length_cons] at g5
          have hgp : (pcs l'.length l')[a.length]? = some p := by
            rw [← List.head?_drop, hdr]; rfl
          have hpm : p ∈ pcs l'.length l' := List.mem_of_getElem? hgp
          have hsel := mkOK_get hm rfl (j := a.length) (by omega)
          rw [hgp] at hsel
          have hsel : p = selL l' (fun i => isJ (m i) a.length) := Option.some.inj hsel
          obtain ⟨s1, s2, s3, s4⟩ := p7 p hpm
          have hsp := lsI_ok hN s1
          unfold sumF at g2 g3
          have ha12 : a.length < 12 := by omega
          have okP : ∀ n S' I', mkP ak (mkL ak fuel) p S2 = some (n, S') → fS (chX b f a.length) I3 I' → cstM b S' I' → (n ≠ 1 → I' 148 (12 * f + a.length) = nI n ∧ I' 147 f = nI (a.length + 1) ∧ I' 152 f = 0 ∧ I' 122 38 = nI (f + 1)) → (n = 1 → I' 122 38 = nI f ∧ I' 122 39 = 1) → H I' := by
            intro n S3 I' z w4 g' hne heq
            have hmp : mkPs (mkP ak (mkL ak fuel)) (pcs l'.length l') [] S = (if n = 1 then some (none, S3) else mkPs (mkP ak (mkL ak fuel)) rest (a ++ [n]) S3) := by
              rw [hpre, mkPs, z]
            obtain ⟨y1, y2⟩ := mkP_ok hN (fun l2 S n S' q1 q2 => mkL_ok (ak := ak) hN fuel l2 S n S' q1 (by omega)) s1 s2 s3 g1 z
            have y4 := y1.2.2.2.1
            have y5 := y1.2.2.2.2.1
            have y6 := y1.2.1
            by_cases n1 : n = 1
            · rw [if_pos n1] at hmp
              exact hgood 1 S3 I' (hmk _ hmp) (w3.tr (w4.wk (chX_mch))) g' (heq n1).1 (heq n1).2
            · rw [if_neg n1] at hmp
              obtain ⟨v1, v2, v3, v4⟩ := hne n1
              refine ihr (a ++ [n]) S3 I' (by rw [List.length_append, List.length_singleton, ← List.drop_drop, hdr]; rfl) hmp y1.1 (by omega) (by omega) (fun x hx => ?_) (by rw [List.length_append, List.length_singleton]; omega) (frm_X p140 (by omega) w4 fr) (by rw [List.length_append, List.length_singleton]; exact v2) (fun j hj => ?_) v3 v4 (by rw [w4 126 b X_126]; exact q26) (w3.tr (w4.wk (chX_mch))) g'
              · rcases List.mem_append.mp hx with q | q
                · exact Nat.lt_of_lt_of_le (g4 x q) y6
                · rw [List.mem_singleton] at q; omega
              · rw [List.length_append, List.length_singleton] at hj
                rw [get_snoc hj]
                by_cases ej : j = a.length
                · rw [if_pos ej, ej]; exact v1
                · rw [if_neg ej, w4 148 _ (X_148 (by omega) ha12)]
                  exact q8 j (by omega)
          have noP : ∀ I', mkP ak (mkL ak fuel) p S2 = none → fS (mch b f) I3 I' → sptM b I' → H I' := by
            intro I' z w4 g'
            exact hbad I' (hmk none (by rw [hpre, mkPs, z])) (w3.tr w4) g'
          have hmt := stV_mt hN g1 (by omega) (by omega)
          refine hst I3 f (by omega) q38 g.2.2.1 (fun K2 hK2 => ?_)
          rw [ACall_0 (L0 := [.ref 122, .int (nI b), nv]) (show mcs 162 = (0, 0) from rfl) (show entL 162 [.ref 122, .int (nI b)] = _ from rfl) rfl (Nat.le_of_ble_eq_true rfl)]
          simp (disch := omega) only [aw_aload_0 (pc2 := 1) D162_0 rfl, aw_getI (pc2 := 4) (ci := 7) (fk := 38) D162_1 rfl fT_7_206 rfl, aw_iconst (pc2 := 5) (y := 1) D162_4 rfl (by decide), aw_isub (pc2 := 6) D162_5 rfl, aw_istore_2 (pc2 := 7) D162_6 rfl, aw_aload_0 (pc2 := 8) D162_7 rfl, aw_getR (pc2 := 11) (ci := 7) (fk := 30) D162_8 rfl fT_7_98 rfl, aw_iload_2 (pc2 := 12) D162_11 rfl, aw_iaload (pc2 := 13) D162_12 rfl, aw_if_ne (pc2 := 16) (t := 49) D162_13 (by decide) rfl, aw_aload_0 (pc2 := 17) D162_16 rfl, aw_getR (pc2 := 20) (ci := 7) (fk := 25) D162_17 rfl fT_7_83 rfl, aw_iload_2 (pc2 := 21) D162_20 rfl, aw_iaload (pc2 := 22) D162_21 rfl, aw_aload_0 (pc2 := 23) D162_22 rfl, aw_getR (pc2 := 26) (ci := 7) (fk := 24) D162_23 rfl fT_7_80 rfl, aw_iload_2 (pc2 := 27) D162_26 rfl, aw_iaload (pc2 := 28) D162_27 rfl, aw_icmp_ne (pc2 := 31) (t := 40) D162_28 (by decide) rfl, aw_aload_0 (pc2 := 41) D162_40 rfl, aw_iload_1 (pc2 := 42) D162_41 rfl, aw_iload_2 (pc2 := 43) D162_42 rfl, aw_iv2_0 (pc2 := 46) (o := 7) D162_43 rfl cT_7_257 rfl rfl, sh_122, rf_122_30, sh_152, rf_122_25, sh_147, rf_122_24, sh_146, rf_122_31, sh_153, lit_2, lit_12, rf_122_29, sh_151, refV_s, refV_n, psh_s, psh_n, kil_i, kil_r, kil_n, kil_l, cat_i, cat_r, iOK_1, iOK_5, jOK_2, jOK_6, wOK_e, lOK_1, lOK_2, lOK_3, lOK_4, lOK_5, lOK_6, catS_0, catS_1, catS_2, catS_3, catS_4, and_self, true_and, and_true, true_or, or_true, false_or, or_false, not_true_eq_false, not_false_eq_true, if_true, if_false, ite_int, ite_int0, au_10, eq_self, decide_true, decide_false, Bool.true_and, Bool.false_and, au_in, au_le, au_lt, au_eq, au_lt0, au_ge0, au_le0, au_gt0, au_eq0, au_leT, au_leF, au_ltT, au_ltF, au_eqT, au_eqF, nI_clamp, nI_1, nI_add, pk_mul, au_sub1, au_subc, au_up2e, au_up2n, lit_of, Nat.add_sub_cancel, q38, q52, q7, fr.2.2.2.2.2]
          obtain ⟨c1, c2, c3, c4, c5⟩ := id g
          refine M_begins (d := D) (S := S2) (m := m) (i := a.length) (n := (pcs l'.length l').length) hN hb (by omega) hak hok (by omega) (by omega) hm.2.2.2 hsel s1 s2 fr.1 fr.2.1 fr.2.2.2.2.1 q7 q26 q38 g1 hmt g (fun nd I' hme hnd w4 e1 e2 e3 e4 e5 e6 => ?_) (fun I' hme w4 e1 e2 e3 => ?_) (fun hme K3 I4 hK3 w4 hpc e1 e2 e3 e4 e5 => ?_)
          · simp (disch := omega) only [aw_goto (t := 105) D162_46 (by decide), aw_vret D162_105 rfl, sh_122, rf_122_30, sh_152, rf_122_25, sh_147, rf_122_24, sh_146, rf_122_31, sh_153, lit_2, lit_12, rf_122_29, sh_151, refV_s, refV_n, psh_s, psh_n, kil_i, kil_r, kil_n, kil_l, cat_i, cat_r, iOK_1, iOK_5, jOK_2, jOK_6, wOK_e, lOK_1, lOK_2, lOK_3, lOK_4, lOK_5, lOK_6, catS_0, catS_1, catS_2, catS_3, catS_4, and_self, true_and, and_true, true_or, or_true, false_or, or_false, not_true_eq_false, not_false_eq_true, if_true, if_false, ite_int, ite_int0, au_10, eq_self, decide_true, decide_false, Bool.true_and, Bool.false_and, au_in, au_le, au_lt, au_eq, au_lt0, au_ge0, au_le0, au_gt0, au_eq0, au_leT, au_leF, au_ltT, au_ltF, au_eqT, au_eqF, nI_clamp, nI_1, nI_add, pk_mul, au_sub1, au_subc, au_up2e, au_up2n, lit_of, psh]
            refine hK2 _ (okP nd (S2.1, S2.2.1 + 1, S2.2.2) I' (by unfold mkP; rw [hme]) (w4.wk chB_X) ⟨grM_cong (fun a k q => w4 a k (chG_B q)) g1.1.1 (po_cap g1.1) c1, e1, by rw [w4 122 18 (by unfold chB chPk chTl; omega)]; exact c3, fun j hj => by rw [w4 140 j (by unfold chB chPk chTl; omega)]; exact c4 j hj, mtM_cong (w4 122 36 (by unfold chB chPk chTl; omega)) (w4 122 37 (by unfold chB chPk chTl; omega)) (fun a a1 a2 => funext (fun k => w4 a k (by unfold chB chPk chTl; omega))) c5⟩ (fun _ => ⟨e3, e4, e5, e6⟩) (fun q => absurd q e2))
          · simp (disch := omega) only [aw_goto (t := 105) D162_46 (by decide), aw_vret D162_105 rfl, sh_122, rf_122_30, sh_152, rf_122_25, sh_147, rf_122_24, sh_146, rf_122_31, sh_153, lit_2, lit_12, rf_122_29, sh_151, refV_s, refV_n, psh_s, psh_n, kil_i, kil_r, kil_n, kil_l, cat_i, cat_r, iOK_1, iOK_5, jOK_2, jOK_6, wOK_e, lOK_1, lOK_2, lOK_3, lOK_4, lOK_5, lOK_6, catS_0, catS_1, catS_2, catS_3, catS_4, and_self, true_and, and_true, true_or, or_true, false_or, or_false, not_true_eq_false, not_false_eq_true, if_true, if_false, ite_int, ite_int0, au_10, eq_self, decide_true, decide_false, Bool.true_and, Bool.false_and, au_in, au_le, au_lt, au_eq, au_lt0, au_ge0, au_le0, au_gt0, au_eq0, au_leT, au_leF, au_ltT, au_ltF, au_eqT, au_eqF, nI_clamp, nI_1, nI_add, pk_mul, au_sub1, au_subc, au_up2e, au_up2n, lit_of, psh]
            refine hK2 _ (okP 1 (S2.1, S2.2.1 + 1, S2.2.2) I' (by unfold mkP; rw [hme]) (w4.wk chB_X) ⟨grM_cong (fun a k q => w4 a k (chG_B q)) g1.1.1 (po_cap g1.1) c1, e1, by rw [w4 122 18 (by unfold chB chPk chTl; omega)]; exact c3, fun j hj => by rw [w4 140 j (by unfold chB chPk chTl; omega)]; exact c4 j hj, mtM_cong (w4 122 36 (by unfold chB chPk chTl; omega)) (w4 122 37 (by unfold chB chPk chTl; omega)) (fun a a1 a2 => funext (fun k => w4 a k (by unfold chB chPk chTl; omega))) c5⟩ (fun q => absurd rfl q) (fun _ => ⟨e2, e3⟩))
          · obtain ⟨k1, k2, k3⟩ := chL_ok (p := p) ak (by omega)
            have st := room_st (lc p - 1) (by have := lc_le (l := p); omega) (lc p) (by have := lc_le (l := p); omega) s2 (by omega)
            have u1 := tk_lc (p := chL ak p) (l := p) (by omega) (by rw [Nat.mod_eq_of_lt k1]; exact k2)
            have u2 := tk_lc (p := 12 + chL ak p) (l := p) (by omega) (by rw [show (12 + chL ak p) % 12 = chL ak p by omega]; exact k2)
            have hl12 := lc_le (l := p)
            have r3 := room_le (lc (tkS (2 ^ chL ak p) p)) (by omega) (lc p - 1) (by omega) (by omega)
            have r4 := room_le (lc (tkS (2 ^ (12 + chL ak p)) p)) (by omega) (lc p - 1) (by omega) (by omega)
            have w4F : fS (chF b f) I3 I4 := w4.wk chBn_F
            have g4' : cstM b S2 I4 := cstM_cong g1.1 (fun a k q => w4 a k (chS_Bn q)) g
            refine ih (tkS (2 ^ chL ak p) p) S2 I4 D K3 (tk_lsI s1) (by omega) g1 ⟨by omega, by omega⟩ e5 e3 e4 g4' (by rw [w4 126 b (by unfold chBn chPk chI chLs; omega)]; exact q26) (fun I'' z => hK3 I'' ?_) (fun y S3 I5 z1 w5 g5' d5 r5 => ?_) (fun I5 z1 w5 g5' => ?_)
            · simp (disch := omega) only [aw_goto (t := 105) D162_46 (by decide), aw_vret D162_105 rfl, sh_122, rf_122_30, sh_152, rf_122_25, sh_147, rf_122_24, sh_146, rf_122_31, sh_153, lit_2, lit_12, rf_122_29, sh_151, refV_s, refV_n, psh_s, psh_n, kil_i, kil_r, kil_n, kil_l, cat_i, cat_r, iOK_1, iOK_5, jOK_2, jOK_6, wOK_e, lOK_1, lOK_2, lOK_3, lOK_4, lOK_5, lOK_6, catS_0, catS_1, catS_2, catS_3, catS_4, and_self, true_and, and_true, true_or, or_true, false_or, or_false, not_true_eq_false, not_false_eq_true, if_true, if_false, ite_int, ite_int0, au_10, eq_self, decide_true, decide_false, Bool.true_and, Bool.false_and, au_in, au_le, au_lt, au_eq, au_lt0, au_ge0, au_le0, au_gt0, au_eq0, au_leT, au_leF, au_ltT, au_ltF, au_eqT, au_eqF, nI_clamp, nI_1, nI_add, pk_mul, au_sub1, au_subc, au_up2e, au_up2n, lit_of, psh]
              exact hK2 _ z
            · obtain ⟨a1, a2⟩ := mkL_ok (ak := ak) hN fuel _ _ _ _ (tk_lsI s1) (by omega) g1 z1
              have a5 := a1.2.2.2.1
              have a6 := a1.2.2.2.2.1
              have w5F : fS (chF b f) I3 I5 := w4F.tr (w5.wk (fun a k q => Or.inr (Or.inr q)))
              have x51 : I5 151 f = nI (chL ak p) := by rw [w5 151 f (m_15 (by omega))]; exact e1
              have x52 : I5 152 f = 1 := by rw [w5 152 f (m_15 (by omega))]; exact e2
              have xpc : pcM f p I5 := ⟨by rw [w5 150 f (m_15 (by omega))]; exact hpc.1, fun j hj => by rw [w5 149 _ (m_149 (by have := s1.1; omega))]; exact hpc.2 j hj⟩
              refine hst I5 f (by omega) d5 g5'.2.2.1 (fun K4 hK4 => ?_)
              rw [ACall_0 (L0 := [.ref 122, .int (nI b), nv]) (show mcs 162 = (0, 0) from rfl) (show entL 162 [.ref 122, .int (nI b)] = _ from rfl) rfl (Nat.le_of_ble_eq_true rfl)]
              simp (disch := omega) only [aw_aload_0 (pc2 := 1) D162_0 rfl, aw_getI (pc2 := 4) (ci := 7) (fk := 38) D162_1 rfl fT_7_206 rfl, aw_iconst (pc2 := 5) (y := 1) D162_4 rfl (by decide), aw_isub (pc2 := 6) D162_5 rfl, aw_istore_2 (pc2 := 7) D162_6 rfl, aw_aload_0 (pc2 := 8) D162_7 rfl, aw_getR (pc2 := 11) (ci := 7) (fk := 30) D162_8 rfl fT_7_98 rfl, aw_iload_2 (pc2 := 12) D162_11 rfl, aw_iaload (pc2 := 13) D162_12 rfl, aw_if_ne (pc2 := 16) (t := 49) D162_13 (by decide) rfl, aw_aload_0 (pc2 := 50) D162_49 rfl, aw_getR (pc2 := 53) (ci := 7) (fk := 30) D162_50 rfl fT_7_98 rfl, aw_iload_2 (pc2 := 54) D162_53 rfl, aw_iaload (pc2 := 55) D162_54 rfl, aw_iconst (pc2 := 56) (y := 1) D162_55 rfl (by decide), aw_icmp_ne (pc2 := 59) (t := 95) D162_56 (by decide) rfl, aw_aload_0 (pc2 := 60) D162_59 rfl, aw_getR (pc2 := 63) (ci := 7) (fk := 31) D162_60 rfl fT_7_101 rfl, aw_iload_2 (pc2 := 64) D162_63 rfl, aw_aload_0 (pc2 := 65) D162_64 rfl, aw_getI (pc2 := 68) (ci := 7) (fk := 39) D162_65 rfl fT_7_212 rfl, aw_iastore (pc2 := 69) D162_68 rfl, aw_aload_0 (pc2 := 70) D162_69 rfl, aw_getR (pc2 := 73) (ci := 7) (fk := 30) D162_70 rfl fT_7_98 rfl, aw_iload_2 (pc2 := 74) D162_73 rfl, aw_iconst (pc2 := 75) (y := 2) D162_74 rfl (by decide), aw_iastore (pc2 := 76) D162_75 rfl, aw_aload_0 (pc2 := 77) D162_76 rfl, aw_iload_2 (pc2 := 78) D162_77 rfl, aw_iconst (pc2 := 79) (y := 1) D162_78 rfl (by decide), aw_bipush (pc2 := 81) (y := 12) D162_79 rfl (by decide), aw_aload_0 (pc2 := 82) D162_81 rfl, aw_getR (pc2 := 85) (ci := 7) (fk := 29) D162_82 rfl fT_7_95 rfl, aw_iload_2 (pc2 := 86) D162_85 rfl, aw_iaload (pc2 := 87) D162_86 rfl, aw_iadd (pc2 := 88) D162_87 rfl, aw_ishl (pc2 := 89) D162_88 rfl, aw_iv2_0 (pc2 := 92) (o := 7) D162_89 rfl cT_7_248 rfl rfl, sh_122, rf_122_30, sh_152, rf_122_25, sh_147, rf_122_24, sh_146, rf_122_31, sh_153, lit_2, lit_12, rf_122_29, sh_151, refV_s, refV_n, psh_s, psh_n, kil_i, kil_r, kil_n, kil_l, cat_i, cat_r, iOK_1, iOK_5, jOK_2, jOK_6, wOK_e, lOK_1, lOK_2, lOK_3, lOK_4, lOK_5, lOK_6, catS_0, catS_1, catS_2, catS_3, catS_4, and_self, true_and, and_true, true_or, or_true, false_or, or_false, not_true_eq_false, not_false_eq_true, if_true, if_false, ite_int, ite_int0, au_10, eq_self, decide_true, decide_false, Bool.true_and, Bool.false_and, au_in, au_le, au_lt, au_eq, au_lt0, au_ge0, au_le0, au_gt0, au_eq0, au_leT, au_leF, au_ltT, au_ltF, au_eqT, au_eqF, nI_clamp, nI_1, nI_add, pk_mul, au_sub1, au_subc, au_up2e, au_up2n, lit_of, Nat.add_sub_cancel, d5, x52, x51, r5, shl1, au_up2n, au_up2e]
              have hd6 : up2 (up2 I5 153 f (nI y)) 152 f (nI 2) 122 38 = nI (f + 1) := by rw [au_up2c (by omega), au_up2c (by omega)]; exact d5
              have xpc6 : pcM f p (up2 (up2 I5 153 f (nI y)) 152 f (nI 2)) := ⟨by rw [au_up2c (by omega), au_up2c (by omega)]; exact xpc.1, fun j hj => by rw [au_up2c (by omega), au_up2c (by omega)]; exact xpc.2 j hj⟩
              have w6 : fS (chF b f) I3 (up2 (up2 I5 153 f (nI y)) 152 f (nI 2)) := fS.tr (P := chF b f) w5F (fS.tr (P := chF b f) (fS.up (Or.inr (Or.inl ⟨by omega, rfl⟩))) (fS.up (Or.inr (Or.inl ⟨by omega, rfl⟩))))
              have x26 : up2 (up2 I5 153 f (nI y)) 152 f (nI 2) 126 b = nI ak := by rw [w6 126 b (fun q => X_126 (i := 0) (Or.inl q))]; exact q26
              have x47 : up2 (up2 I5 153 f (nI y)) 152 f (nI 2) 147 f = nI a.length := by rw [w6 147 f F_147]; exact q7
              have c6 : cstM b S3 (up2 (up2 I5 153 f (nI y)) 152 f (nI 2)) := cstM_cong a1.1.1 (fun a k q => by
                unfold chS chG at q
                rw [au_up2c (by omega), au_up2c (by omega)]) g5'
              have x31 : up2 (up2 I5 153 f (nI y)) 152 f (nI 2) 153 f = nI y := by rw [au_up2c (by omega), au_up2]
              have x29 : up2 (up2 I5 153 f (nI y)) 152 f (nI 2) 151 f = nI (chL ak p) := by rw [au_up2c (by omega), au_up2c (by omega)]; exact x51
              have x30 : up2 (up2 I5 153 f (nI y)) 152 f (nI 2) 152 f = nI 2 := au_up2
              generalize up2 (up2 I5 153 f (nI y)) 152 f (nI 2) = I6 at hd6 xpc6 w6 x26 x47 c6 x31 x29 x30 ⊢
              refine M_goesInto (d := D + 1) (p := p) (s := 12 + chL ak p) (by omega) (by omega) hsp xpc6 hd6 (fun K5 I6' hK5 w7 o1 o2 o3 => ?_)
              refine ih (tkS (2 ^ (12 + chL ak p)) p) S3 I6' (D + 1) K5 (tk_lsI s1) (by omega) a1.1 ⟨by omega, by omega⟩ o3 o1 o2 (cstM_cong a1.1.1 (fun a k q => w7 a k (chS_I q)) c6) (by rw [w7 126 b (by unfold chI chLs; omega)]; exact x26) (fun I'' z => hK5 I'' ?_) (fun z S4 I7 z2 w8 g8 d8 r8 => ?_) (fun I7 z2 w8 g8 => ?_)
              · simp (disch := omega) only [aw_goto (t := 105) D162_92 (by decide), aw_vret D162_105 rfl, sh_122, rf_122_30, sh_152, rf_122_25, sh_147, rf_122_24, sh_146, rf_122_31, sh_153, lit_2, lit_12, rf_122_29, sh_151, refV_s, refV_n, psh_s, psh_n, kil_i, kil_r, kil_n, kil_l, cat_i, cat_r, iOK_1, iOK_5, jOK_2, jOK_6, wOK_e, lOK_1, lOK_2, lOK_3, lOK_4, lOK_5, lOK_6, catS_0, catS_1, catS_2, catS_3, catS_4, and_self, true_and, and_true, true_or, or_true, false_or, or_false, not_true_eq_false, not_false_eq_true, if_true, if_false, ite_int, ite_int0, au_10, eq_self, decide_true, decide_false, Bool.true_and, Bool.false_and, au_in, au_le, au_lt, au_eq, au_lt0, au_ge0, au_le0, au_gt0, au_eq0, au_leT, au_leF, au_ltT, au_ltF, au_eqT, au_eqF, nI_clamp, nI_1, nI_add, pk_mul, au_sub1, au_subc, au_up2e, au_up2n, lit_of, psh]
                exact hK4 _ z
              · obtain ⟨b1, b2⟩ := mkL_ok (ak := ak) hN fuel _ _ _ _ (tk_lsI s1) (by omega) a1.1 z2
                have b5 := b1.2.2.2.1
                have b6 := b1.2.2.2.2.1
                have b7 := b1.2.1
                have w7F : fS (chF b f) I3 I7 := fS.tr (P := chF b f) (w6.tr (w7.wk chI_F)) (w8.wk (fun a k q => Or.inr (Or.inr q)))
                have v47 : I7 147 f = nI a.length := by rw [w7F 147 f F_147]; exact q7
                have v31 : I7 153 f = nI y := by rw [w8 153 f (m_15 (by omega)), w7 153 f (by unfold chI chLs; omega)]; exact x31
                have v29 : I7 151 f = nI (chL ak p) := by rw [w8 151 f (m_15 (by omega)), w7 151 f (by unfold chI chLs; omega)]; exact x29
                have v30 : I7 152 f = nI 2 := by rw [w8 152 f (m_15 (by omega)), w7 152 f (by unfold chI chLs; omega)]; exact x30
                have vpc : pcM f p I7 := ⟨by rw [w8 150 f (m_15 (by omega)), w7 150 f (by unfold chI chLs; omega)]; exact xpc6.1, fun j hj => by rw [w8 149 _ (m_149 (by have := s1.1; omega)), w7 149 _ (by unfold chI chLs; omega)]; exact xpc6.2 j hj⟩
                have hzz := b1.1.1.1
                refine hst I7 f (by omega) d8 g8.2.2.1 (fun K6 hK6 => ?_)
                rw [ACall_0 (L0 := [.ref 122, .int (nI b), nv]) (show mcs 162 = (0, 0) from rfl) (show entL 162 [.ref 122, .int (nI b)] = _ from rfl) rfl (Nat.le_of_ble_eq_true rfl)]
                simp (disch := omega) only [aw_aload_0 (pc2 := 1) D162_0 rfl, aw_getI (pc2 := 4) (ci := 7) (fk := 38) D162_1 rfl fT_7_206 rfl, aw_iconst (pc2 := 5) (y := 1) D162_4 rfl (by decide), aw_isub (pc2 := 6) D162_5 rfl, aw_istore_2 (pc2 := 7) D162_6 rfl, aw_aload_0 (pc2 := 8) D162_7 rfl, aw_getR (pc2 := 11) (ci := 7) (fk := 30) D162_8 rfl fT_7_98 rfl, aw_iload_2 (pc2 := 12) D162_11 rfl, aw_iaload (pc2 := 13) D162_12 rfl, aw_if_ne (pc2 := 16) (t := 49) D162_13 (by decide) rfl, aw_aload_0 (pc2 := 50) D162_49 rfl, aw_getR (pc2 := 53) (ci := 7) (fk := 30) D162_50 rfl fT_7_98 rfl, aw_iload_2 (pc2 := 54) D162_53 rfl, aw_iaload (pc2 := 55) D162_54 rfl, aw_iconst (pc2 := 56) (y := 1) D162_55 rfl (by decide), aw_icmp_ne (pc2 := 59) (t := 95) D162_56 (by decide) rfl, aw_aload_0 (pc2 := 96) D162_95 rfl, aw_iload_1 (pc2 := 97) D162_96 rfl, aw_iload_2 (pc2 := 98) D162_97 rfl, aw_aload_0 (pc2 := 99) D162_98 rfl, aw_getI (pc2 := 102) (ci := 7) (fk := 39) D162_99 rfl fT_7_212 rfl, aw_iv3_0 (pc2 := 105) (o := 7) D162_102 rfl cT_7_260 rfl rfl, sh_122, rf_122_30, sh_152, rf_122_25, sh_147, rf_122_24, sh_146, rf_122_31, sh_153, lit_2, lit_12, rf_122_29, sh_151, refV_s, refV_n, psh_s, psh_n, kil_i, kil_r, kil_n, kil_l, cat_i, cat_r, iOK_1, iOK_5, jOK_2, jOK_6, wOK_e, lOK_1, lOK_2, lOK_3, lOK_4, lOK_5, lOK_6, catS_0, catS_1, catS_2, catS_3, catS_4, and_self, true_and, and_true, true_or, or_true, false_or, or_false, not_true_eq_false, not_false_eq_true, if_true, if_false, ite_int, ite_int0, au_10, eq_self, decide_true, decide_false, Bool.true_and, Bool.false_and, au_in, au_le, au_lt, au_eq, au_lt0, au_ge0, au_le0, au_gt0, au_eq0, au_leT, au_leF, au_ltT, au_ltF, au_eqT, au_eqF, nI_clamp, nI_1, nI_add, pk_mul, au_sub1, au_subc, au_up2e, au_up2n, lit_of, Nat.add_sub_cancel, d8, v30, r8, au_eq1]
                refine M_chooses (d := D + 4) (i := a.length) (y := y) (z := z) (l := chL ak p) (S := S4) (p := p) hb (by omega) ha12 hN k1 (lt_N s1 k2) (Nat.lt_of_lt_of_le a2 b7) b2 hsp b1.1.1 (by omega) (by omega) g8 vpc v31 v29 v47 d8 (fun n S5 I8 hc w9 g9 e1 e2 e3 e4 e5 => ?_) (fun S5 I8 hc w9 g9 e1 e2 => ?_) (fun I8 hc w9 g9 => ?_)
                · simp (disch := omega) only [aw_vret D162_105 rfl, sh_122, rf_122_30, sh_152, rf_122_25, sh_147, rf_122_24, sh_146, rf_122_31, sh_153, lit_2, lit_12, rf_122_29, sh_151, refV_s, refV_n, psh_s, psh_n, kil_i, kil_r, kil_n, kil_l, cat_i, cat_r, iOK_1, iOK_5, jOK_2, jOK_6, wOK_e, lOK_1, lOK_2, lOK_3, lOK_4, lOK_5, lOK_6, catS_0, catS_1, catS_2, catS_3, catS_4, and_self, true_and, and_true, true_or, or_true, false_or, or_false, not_true_eq_false, not_false_eq_true, if_true, if_false, ite_int, ite_int0, au_10, eq_self, decide_true, decide_false, Bool.true_and, Bool.false_and, au_in, au_le, au_lt, au_eq, au_lt0, au_ge0, au_le0, au_gt0, au_eq0, au_leT, au_leF, au_ltT, au_ltF, au_eqT, au_eqF, nI_clamp, nI_1, nI_add, pk_mul, au_sub1, au_subc, au_up2e, au_up2n, lit_of, psh]
                  exact hK6 _ (okP n _ I8 (by unfold mkP; rw [hme]; simp only [z1, z2, hc]) ((w7F.wk (fun a k q => Or.inl q)).tr (w9.wk chCh_X)) g9 (fun _ => ⟨e2, e3, e4, e5⟩) (fun q => absurd q e1))
                · simp (disch := omega) only [aw_vret D162_105 rfl, sh_122, rf_122_30, sh_152, rf_122_25, sh_147, rf_122_24, sh_146, rf_122_31, sh_153, lit_2, lit_12, rf_122_29, sh_151, refV_s, refV_n, psh_s, psh_n, kil_i, kil_r, kil_n, kil_l, cat_i, cat_r, iOK_1, iOK_5, jOK_2, jOK_6, wOK_e, lOK_1, lOK_2, lOK_3, lOK_4, lOK_5, lOK_6, catS_0, catS_1, catS_2, catS_3, catS_4, and_self, true_and, and_true, true_or, or_true, false_or, or_false, not_true_eq_false, not_false_eq_true, if_true, if_false, ite_int, ite_int0, au_10, eq_self, decide_true, decide_false, Bool.true_and, Bool.false_and, au_in, au_le, au_lt, au_eq, au_lt0, au_ge0, au_le0, au_gt0, au_eq0, au_leT, au_leF, au_ltT, au_ltF, au_eqT, au_eqF, nI_clamp, nI_1, nI_add, pk_mul, au_sub1, au_subc, au_up2e, au_up2n, lit_of, psh]
                  exact hK6 _ (okP 1 _ I8 (by unfold mkP; rw [hme]; simp only [z1, z2, hc]) ((w7F.wk (fun a k q => Or.inl q)).tr (w9.wk chCh_X)) g9 (fun q => absurd rfl q) (fun _ => ⟨e1, e2⟩))
                · simp (disch := omega) only [aw_vret D162_105 rfl, sh_122, rf_122_30, sh_152, rf_122_25, sh_147, rf_122_24, sh_146, rf_122_31, sh_153, lit_2, lit_12, rf_122_29, sh_151, refV_s, refV_n, psh_s, psh_n, kil_i, kil_r, kil_n, kil_l, cat_i, cat_r, iOK_1, iOK_5, jOK_2, jOK_6, wOK_e, lOK_1, lOK_2, lOK_3, lOK_4, lOK_5, lOK_6, catS_0, catS_1, catS_2, catS_3, catS_4, and_self, true_and, and_true, true_or, or_true, false_or, or_false, not_true_eq_false, not_false_eq_true, if_true, if_false, ite_int, ite_int0, au_10, eq_self, decide_true, decide_false, Bool.true_and, Bool.false_and, au_in, au_le, au_lt, au_eq, au_lt0, au_ge0, au_le0, au_gt0, au_eq0, au_leT, au_leF, au_ltT, au_ltF, au_eqT, au_eqF, nI_clamp, nI_1, nI_add, pk_mul, au_sub1, au_subc, au_up2e, au_up2n, lit_of, psh]
                  exact hK6 _ (noP I8 (by unfold mkP; rw [hme]; simp only [z1, z2, hc]) ((w7F.wk chF_mch).tr ((w9.wk chCh_X).wk chX_mch)) g9)
              · exact noP I7 (by unfold mkP; rw [hme]; simp only [z1, z2]) (((w6.tr (w7.wk chI_F)).wk chF_mch).tr (w8.wk (fun a k q => mch_mono (by omega) q))) g8
            · exact noP I5 (by unfold mkP; rw [hme]; simp only [z1]) ((w4F.wk chF_mch).tr (w5.wk (fun a k q => mch_mono (by omega) q))) g5'
      exact key _ [] S I1 (List.drop_zero ..) rfl hS (by omega) (by omega) (fun x hx => by cases hx) (by rw [List.length_nil]; omega) fr1 e7 (fun j hj => absurd hj (Nat.not_lt_zero _)) e52 e38 (by rw [w 126 b (by unfold chO chT chLs chP; omega)]; exact ha) (w.wk chO_mch) (cstM_cong hS.1 (fun a k q => w a k (chS_O q)) h)
