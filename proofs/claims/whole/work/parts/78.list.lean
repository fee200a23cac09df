/-! lists, in the class -/
theorem mkOK_get {l : List Nat} {m : Nat → Option Nat} {n : Nat} (h : mkOK l m n l.length) (hn : n = (pcs l.length l).length) {j : Nat} (hj : j < n) : (pcs l.length l)[j]? = some (selL l (fun i => isJ (m i) j)) := by
  have h2 := h.2.1
  have hlen : (pcs l.length (selL l (fun i => isN (m i)))).length = 0 := by
    have := congrArg List.length h2
    rw [List.length_append, List.length_map, List.length_range, ← hn] at this
    omega
  rw [List.eq_nil_of_length_eq_zero hlen, List.append_nil] at h2
  rw [h2, List.getElem?_map, List.getElem?_range hj]
  rfl
section ListS
variable {Ln B N ak : Nat}
theorem C_makeList {e0 : Nat} (hN : N ≤ 12) (hB : BF Ln B) (hBl : B + 13 < 29) (hak : ak < 4096) : ∀ f dl, dl + f = 13 → mlP Ln B N ak f dl (e0 + 3 * f + 8)
  | 0, dl, _ => fun l S I J K _ hlc => absurd hlc (Nat.not_lt_zero _)
  | f + 1, dl, hdl => fun l S I J K hl hlc hS hr hlv h ha hs hx => by
    have ih := C_makeList (e0 := e0) hN hB hBl hak f (dl + 1) (by omega)
    have hq := lv_f (Ln := Ln) (d := dl) (by omega)
    have r1 := lv_r (Ln := Ln) (d := dl) (by omega)
    have hl39 : 39 ≤ lvl dl := hq.1.1
    have hl117 : lvl dl + 5 < 117 := hq.1.2
    have e6 : lvl (dl + 1) = lvl dl + 6 := by unfold lvl; omega
    have h12 : lc l ≤ 12 := lc_le
    obtain ⟨l5, l1, l7, l8⟩ := hlv
    rw [show e0 + 3 * (f + 1) + 8 = (e0 + 3 * f) + 10 + 1 by omega]
    rw [ACall_0 (L0 := [.ref 29, .ref (B + 3), .int (nI dl), nv, nv, nv, nv]) (show mcs 50 = (0, 0) from rfl) (show entL 50 [.ref 29, .ref (B + 3), .int (nI dl)] = _ from rfl) rfl (Nat.le_of_ble_eq_true rfl)]
    simp (disch := omega) only [aw_aload_0 (pc2 := 1) D50_0 rfl, aw_getR (pc2 := 4) (ci := 3) (fk := 0) D50_1 rfl fT_3_11 rfl, aw_iload_2 (pc2 := 5) D50_4 rfl, aw_aaload (pc2 := 6) D50_5 rfl, aw_astore_3 (pc2 := 7) D50_6 rfl, aw_aload_3 (pc2 := 8) D50_7 rfl, aw_iv0_0 (pc2 := 11) (o := 2) D50_8 rfl cT_3_69 rfl rfl, refV_s, refV_n, psh_s, psh_n, kil_i, kil_r, kil_n, kil_l, cat_i, cat_r, iOK_1, iOK_5, jOK_2, jOK_6, wOK_e, lOK_1, lOK_2, lOK_3, lOK_4, lOK_5, lOK_6, catS_0, catS_1, catS_2, catS_3, catS_4, and_self, true_and, and_true, true_or, or_true, false_or, or_false, not_true_eq_false, not_false_eq_true, if_true, if_false, ite_int, ite_int0, au_10, eq_self, decide_true, decide_false, Bool.true_and, Bool.false_and, au_in, au_le, au_lt, au_eq, au_lt0, au_ge0, au_le0, au_gt0, au_eq0, au_leT, au_leF, au_ltT, au_ltF, au_eqT, au_eqF, nI_clamp, nI_1, nI_add, pk_mul, au_sub1, au_subc, au_up2e, au_up2n, lit_of, sh_29, sh_30, rf_29_0, hq.2.1.1, hq.2.1.2.1, hq.2.1.2.2.1, hq.2.1.2.2.2.1, hq.2.1.2.2.2.2.1, hq.2.1.2.2.2.2.2, hq.2.2.1, hq.2.2.2.1, hq.2.2.2.2.1, hq.2.2.2.2.2.1, hq.2.2.2.2.2.2, r1]
    refine C_takeLone hq (lsI_ok hN hl) l5 l1 l7 (fun I1 w hsim => ?_) (fun I1 l' t' w hsim w8 w5 w1 w7 w4 => ?_)
    · simp (disch := omega) only [aw_if_ne (pc2 := 14) (t := 16) D50_11 (by decide) rfl, aw_iconst (pc2 := 15) (y := 1) D50_14 rfl (by decide), aw_iret D50_15 rfl, refV_s, refV_n, psh_s, psh_n, kil_i, kil_r, kil_n, kil_l, cat_i, cat_r, iOK_1, iOK_5, jOK_2, jOK_6, wOK_e, lOK_1, lOK_2, lOK_3, lOK_4, lOK_5, lOK_6, catS_0, catS_1, catS_2, catS_3, catS_4, and_self, true_and, and_true, true_or, or_true, false_or, or_false, not_true_eq_false, not_false_eq_true, if_true, if_false, ite_int, ite_int0, au_10, eq_self, decide_true, decide_false, Bool.true_and, Bool.false_and, au_in, au_le, au_lt, au_eq, au_lt0, au_ge0, au_le0, au_gt0, au_eq0, au_leT, au_leF, au_ltT, au_ltF, au_eqT, au_eqF, nI_clamp, nI_1, nI_add, pk_mul, au_sub1, au_subc, au_up2e, au_up2n, lit_of, psh]
      exact hs 1 S I1 (by unfold mkL; rw [hsim]) ⟨fun a a1 a2 => w a (by omega) (by omega) (by omega), fun k _ _ _ => by rw [w (B + 3) (by omega) (by omega) (by omega)]⟩ (cst_cong (fun a a1 => w a (by omega) (by omega) (by omega)) h)
    · obtain ⟨p1, p2, p3, p4, p5, p6, p7⟩ := pcs_all hN hl hsim
      have hok := lsI_ok hN p1
      have hz := nz_of hok.2 p3
      have p140 := p1.1
      simp (disch := omega) only [aw_if_ne (pc2 := 14) (t := 16) D50_11 (by decide) rfl, aw_iconst (pc2 := 15) (y := 1) D50_14 rfl (by decide), aw_iret D50_15 rfl, aw_aload_3 (pc2 := 17) D50_16 rfl, aw_iv0_0 (pc2 := 20) (o := 2) D50_17 rfl cT_3_73 rfl rfl, refV_s, refV_n, psh_s, psh_n, kil_i, kil_r, kil_n, kil_l, cat_i, cat_r, iOK_1, iOK_5, jOK_2, jOK_6, wOK_e, lOK_1, lOK_2, lOK_3, lOK_4, lOK_5, lOK_6, catS_0, catS_1, catS_2, catS_3, catS_4, and_self, true_and, and_true, true_or, or_true, false_or, or_false, not_true_eq_false, not_false_eq_true, if_true, if_false, ite_int, ite_int0, au_10, eq_self, decide_true, decide_false, Bool.true_and, Bool.false_and, au_in, au_le, au_lt, au_eq, au_lt0, au_ge0, au_le0, au_gt0, au_eq0, au_leT, au_leF, au_ltT, au_ltF, au_eqT, au_eqF, nI_clamp, nI_1, nI_add, pk_mul, au_sub1, au_subc, au_up2e, au_up2n, lit_of, psh, hq.2.1.1, hq.2.1.2.1, hq.2.1.2.2.1, hq.2.1.2.2.2.1, hq.2.1.2.2.2.2.1, hq.2.1.2.2.2.2.2, hq.2.2.1, hq.2.2.2.1, hq.2.2.2.2.1, hq.2.2.2.2.2.1, hq.2.2.2.2.2.2]
      refine C_markPieces hq hok hz w5 w1 (fun I2 m v1 v2 v3 => ?_)
      simp (disch := omega) only [aw_istore_4 (pc2 := 22) D50_20 rfl, aw_iconst (pc2 := 23) (y := 0) D50_22 rfl (by decide), aw_istore_5 (pc2 := 25) D50_23 rfl, refV_s, refV_n, psh_s, psh_n, kil_i, kil_r, kil_n, kil_l, cat_i, cat_r, iOK_1, iOK_5, jOK_2, jOK_6, wOK_e, lOK_1, lOK_2, lOK_3, lOK_4, lOK_5, lOK_6, catS_0, catS_1, catS_2, catS_3, catS_4, and_self, true_and, and_true, true_or, or_true, false_or, or_false, not_true_eq_false, not_false_eq_true, if_true, if_false, ite_int, ite_int0, au_10, eq_self, decide_true, decide_false, Bool.true_and, Bool.false_and, au_in, au_le, au_lt, au_eq, au_lt0, au_ge0, au_le0, au_gt0, au_eq0, au_leT, au_leF, au_ltT, au_ltF, au_eqT, au_eqF, nI_clamp, nI_1, nI_add, pk_mul, au_sub1, au_subc, au_up2e, au_up2n, lit_of, psh]
      have hsr := sum_room (ps := pcs l'.length l') (by omega)
      have m1 := room_le (sumF lc (pcs l'.length l')) (by omega) (lc l) (by omega) (by omega)
      obtain ⟨hr1, hr2⟩ := hr
      have hmk : ∀ r, mkPs (mkP ak (mkL ak f)) (pcs l'.length l') [] S = r → mkL ak (f + 1) l S = (match r with
        | none => none
        | some (none, S1) => some (1, S1)
        | some (some nds, S1) => nodeL t' nds S1) := fun r q => by
        rw [mkL, hsim]
        simp only
        rw [q]
        rfl
      have key : ∀ (rest : List (List Nat)) (a : List Nat) (S2 : ST) (I3 : IT) (v6 : Value), kil v6 = v6 → (pcs l'.length l').drop a.length = rest → mkPs (mkP ak (mkL ak f)) (pcs l'.length l') [] S = mkPs (mkP ak (mkL ak f)) rest a S2 → stV N S2 → S2.2.2.2.length + sumF (fun p => roomA (lc p)) rest ≤ 2047 → stM S2.2.2.2 S2.2.2.2.length + sumF (fun p => roomZ (lc p)) rest ≤ 34776 → (∀ x, x ∈ a → x < S2.1.length) → a.length + rest.length = (pcs l'.length l').length → I3 (lvl dl) 5 = nI l'.length → lsA (lvl dl + 1) 0 l' I3 → (∀ i, i < l'.length → I3 (lvl dl + 2) i = mkI (m i)) → I3 (lvl dl) 7 = nI t'.length → lsA (lvl dl + 4) 0 t' I3 → I3 (lvl dl) 8 = nI a.length → lsA (lvl dl + 5) 0 a I3 → frM B dl I I3 → cst B S2 I3 → AW (e0 + 3 * f + 10) ((G0 Ln).1, (G0 Ln).2.1) K 50 25 [.ref 29, .ref (B + 3), .int (nI dl), .ref (lvl dl), .int (nI (pcs l'.length l').length), .int (nI a.length), v6] [] (G0 Ln) I3 J := by
        intro rest
        induction rest with
        | nil =>
          intro a S2 I3 v6 hv6 hdr hpre g1 g2 g3 g4 g5 c5 c1 c2 c7 c4 c8 c9 fr g
          have g5 : a.length = (pcs l'.length l').length := g5
          rw [← g5]
          simp (disch := omega) only [aw_iload_5 (pc2 := 27) D50_25 rfl, aw_iload_4 (pc2 := 29) D50_27 rfl, aw_icmp_ge (pc2 := 32) (t := 73) D50_29 (by decide) rfl, aw_aload_0 (pc2 := 74) D50_73 rfl, aw_aload_1 (pc2 := 75) D50_74 rfl, aw_aload_3 (pc2 := 76) D50_75 rfl, aw_iv2_0 (pc2 := 79) (o := 3) D50_76 rfl cT_3_87 rfl rfl, refV_s, refV_n, psh_s, psh_n, kil_i, kil_r, kil_n, kil_l, cat_i, cat_r, iOK_1, iOK_5, jOK_2, jOK_6, wOK_e, lOK_1, lOK_2, lOK_3, lOK_4, lOK_5, lOK_6, catS_0, catS_1, catS_2, catS_3, catS_4, and_self, true_and, and_true, true_or, or_true, false_or, or_false, not_true_eq_false, not_false_eq_true, if_true, if_false, ite_int, ite_int0, au_10, eq_self, decide_true, decide_false, Bool.true_and, Bool.false_and, au_in, au_le, au_lt, au_eq, au_lt0, au_ge0, au_le0, au_gt0, au_eq0, au_leT, au_leF, au_ltT, au_ltF, au_eqT, au_eqF, nI_clamp, nI_1, nI_add, pk_mul, au_sub1, au_subc, au_up2e, au_up2n, lit_of, hv6, sh_29]
          have hend := hmk _ (hpre.trans rfl)
          exact C_nodeOfList (d := e0 + 3 * f + 7) hN hq hB hBl (by omega) g1.1 p2 g4 c7 c8 c4 c9 g (fun n S' I' z f1 g' => by
            simp (disch := omega) only [aw_iret D50_79 rfl, refV_s, refV_n, psh_s, psh_n, kil_i, kil_r, kil_n, kil_l, cat_i, cat_r, iOK_1, iOK_5, jOK_2, jOK_6, wOK_e, lOK_1, lOK_2, lOK_3, lOK_4, lOK_5, lOK_6, catS_0, catS_1, catS_2, catS_3, catS_4, and_self, true_and, and_true, true_or, or_true, false_or, or_false, not_true_eq_false, not_false_eq_true, if_true, if_false, ite_int, ite_int0, au_10, eq_self, decide_true, decide_false, Bool.true_and, Bool.false_and, au_in, au_le, au_lt, au_eq, au_lt0, au_ge0, au_le0, au_gt0, au_eq0, au_leT, au_leF, au_ltT, au_ltF, au_eqT, au_eqF, nI_clamp, nI_1, nI_add, pk_mul, au_sub1, au_subc, au_up2e, au_up2n, lit_of, psh]
            exact hs n S' I' (hend.trans z) (fr.tr ⟨fun a a1 a2 => f1.1 a (by omega) (by omega) (by omega), fun k k1 k2 k3 => f1.2 k k1 k3⟩) g') (fun v I' z f1 g' => by
            simp (disch := omega) only [aw_iret D50_79 rfl, refV_s, refV_n, psh_s, psh_n, kil_i, kil_r, kil_n, kil_l, cat_i, cat_r, iOK_1, iOK_5, jOK_2, jOK_6, wOK_e, lOK_1, lOK_2, lOK_3, lOK_4, lOK_5, lOK_6, catS_0, catS_1, catS_2, catS_3, catS_4, and_self, true_and, and_true, true_or, or_true, false_or, or_false, not_true_eq_false, not_false_eq_true, if_true, if_false, ite_int, ite_int0, au_10, eq_self, decide_true, decide_false, Bool.true_and, Bool.false_and, au_in, au_le, au_lt, au_eq, au_lt0, au_ge0, au_le0, au_gt0, au_eq0, au_leT, au_leF, au_ltT, au_ltF, au_eqT, au_eqF, nI_clamp, nI_1, nI_add, pk_mul, au_sub1, au_subc, au_up2e, au_up2n, lit_of, psh]
            exact hx v I' (hend.trans z) (fr.tr ⟨fun a a1 a2 => f1.1 a (by omega) (by omega) (by omega), fun k k1 k2 k3 => f1.2 k k1 k3⟩) g')
        | cons p rest ihr =>
          intro a S2 I3 v6 hv6 hdr hpre g1 g2 g3 g4 g5 c5 c1 c2 c7 c4 c8 c9 fr g
          rw [List.length_cons] at g5
          have hgp : (pcs l'.length l')[a.length]? = some p := by
            rw [← List.head?_drop, hdr]; rfl
          have hpm : p ∈ pcs l'.length l' := List.mem_of_getElem? hgp
          have hsel := mkOK_get v2 rfl (j := a.length) (by omega)
          rw [hgp] at hsel
          have hsel : p = selL l' (fun i => isJ (m i) a.length) := Option.some.inj hsel
          obtain ⟨s1, s2, s3, s4⟩ := p7 p hpm
          rw [aw_iload_5 (pc2 := 27) D50_25 rfl]
          simp (disch := omega) only [aw_iload_4 (pc2 := 29) D50_27 rfl, aw_icmp_ge (pc2 := 32) (t := 73) D50_29 (by decide) rfl, aw_aload_3 (pc2 := 33) D50_32 rfl, aw_iload_5 (pc2 := 35) D50_33 rfl, aw_iv1_0 (pc2 := 38) (o := 2) D50_35 rfl cT_3_77 rfl rfl, refV_s, refV_n, psh_s, psh_n, kil_i, kil_r, kil_n, kil_l, cat_i, cat_r, iOK_1, iOK_5, jOK_2, jOK_6, wOK_e, lOK_1, lOK_2, lOK_3, lOK_4, lOK_5, lOK_6, catS_0, catS_1, catS_2, catS_3, catS_4, and_self, true_and, and_true, true_or, or_true, false_or, or_false, not_true_eq_false, not_false_eq_true, if_true, if_false, ite_int, ite_int0, au_10, eq_self, decide_true, decide_false, Bool.true_and, Bool.false_and, au_in, au_le, au_lt, au_eq, au_lt0, au_ge0, au_le0, au_gt0, au_eq0, au_leT, au_leF, au_ltT, au_ltF, au_eqT, au_eqF, nI_clamp, nI_1, nI_add, pk_mul, au_sub1, au_subc, au_up2e, au_up2n, lit_of, hv6, hq.2.1.1, hq.2.1.2.1, hq.2.1.2.2.1, hq.2.1.2.2.2.1, hq.2.1.2.2.2.2.1, hq.2.1.2.2.2.2.2, hq.2.2.1, hq.2.2.2.1, hq.2.2.2.2.1, hq.2.2.2.2.2.1, hq.2.2.2.2.2.2]
          refine C_pickPiece (d := e0 + 3 * f + 9) hq hok (show (pcs l'.length l').length < 2 ^ 20 by omega) (show a.length < (pcs l'.length l').length by omega) v2.2.2.2 c5 c1 c2 (fun I4 x1 x2 x3 x4 => ?_)
          rw [← hsel] at x3 x4
          simp (disch := omega) only [aw_aload_0 (pc2 := 39) D50_38 rfl, aw_aload_1 (pc2 := 40) D50_39 rfl, aw_iload_2 (pc2 := 41) D50_40 rfl, aw_iv2_0 (pc2 := 44) (o := 3) D50_41 rfl cT_3_81 rfl rfl, refV_s, refV_n, psh_s, psh_n, kil_i, kil_r, kil_n, kil_l, cat_i, cat_r, iOK_1, iOK_5, jOK_2, jOK_6, wOK_e, lOK_1, lOK_2, lOK_3, lOK_4, lOK_5, lOK_6, catS_0, catS_1, catS_2, catS_3, catS_4, and_self, true_and, and_true, true_or, or_true, false_or, or_false, not_true_eq_false, not_false_eq_true, if_true, if_false, ite_int, ite_int0, au_10, eq_self, decide_true, decide_false, Bool.true_and, Bool.false_and, au_in, au_le, au_lt, au_eq, au_lt0, au_ge0, au_le0, au_gt0, au_eq0, au_leT, au_leF, au_ltT, au_ltF, au_eqT, au_eqF, nI_clamp, nI_1, nI_add, pk_mul, au_sub1, au_subc, au_up2e, au_up2n, lit_of, psh, sh_29]
          unfold sumF at g2 g3
          have fr4 : frM B dl I I4 := fr.tr ⟨fun a a1 a2 => x1 a (by omega) (by omega), fun k _ _ _ => by rw [x1 (B + 3) (by omega) (by omega)]⟩
          refine C_makePiece (e := e0 + 3 * f) hN hB hBl (by omega) hak ih s1 s2 s3 (by omega) g1 ⟨by omega, by omega⟩ x3 x4 (cst_cong (fun a _ => x1 a (by omega) (by omega)) g) (by rw [fr4.1 29 (by omega) (by omega)]; exact ha) (fun n S3 I5 z f5 g' => ?_) (fun v I5 z f5 g' => ?_)
          · have hmp : mkPs (mkP ak (mkL ak f)) (pcs l'.length l') [] S = (if n = 1 then some (none, S3) else mkPs (mkP ak (mkL ak f)) rest (a ++ [n]) S3) := by
              rw [hpre, mkPs, z]
            have fr5 := fr4.tr (f5.wk (show dl ≤ dl + 1 by omega))
            obtain ⟨y1, y2⟩ := mkP_ok hN (fun l2 S n S' q1 q2 => mkL_ok (ak := ak) hN f l2 S n S' q1 (by omega)) s1 s2 s3 g1 z
            have y4 := y1.2.2.2.1
            have y5 := y1.2.2.2.2.1
            have y6 := y1.2.1
            have n15 := y1.1.1.1
            simp (disch := omega) only [aw_istore_6 (pc2 := 46) D50_44 rfl, aw_aload_1 (pc2 := 47) D50_46 rfl, aw_getI (pc2 := 50) (ci := 1) (fk := 11) D50_47 rfl fT_3_65 rfl, aw_if_ne (pc2 := 53) (t := 59) D50_50 (by decide) rfl, aw_iload_6 (pc2 := 55) D50_53 rfl, aw_iconst (pc2 := 56) (y := 1) D50_55 rfl (by decide), aw_icmp_ne (pc2 := 59) (t := 61) D50_56 (by decide) rfl, refV_s, refV_n, psh_s, psh_n, kil_i, kil_r, kil_n, kil_l, cat_i, cat_r, iOK_1, iOK_5, jOK_2, jOK_6, wOK_e, lOK_1, lOK_2, lOK_3, lOK_4, lOK_5, lOK_6, catS_0, catS_1, catS_2, catS_3, catS_4, and_self, true_and, and_true, true_or, or_true, false_or, or_false, not_true_eq_false, not_false_eq_true, if_true, if_false, ite_int, ite_int0, au_10, eq_self, decide_true, decide_false, Bool.true_and, Bool.false_and, au_in, au_le, au_lt, au_eq, au_lt0, au_ge0, au_le0, au_gt0, au_eq0, au_leT, au_leF, au_ltT, au_ltF, au_eqT, au_eqF, nI_clamp, nI_1, nI_add, pk_mul, au_sub1, au_subc, au_up2e, au_up2n, lit_of, psh, hB.1.1, hB.1.2.1, hB.1.2.2.1, hB.1.2.2.2.1, hB.1.2.2.2.2.1, hB.1.2.2.2.2.2.1, hB.1.2.2.2.2.2.2.1, hB.1.2.2.2.2.2.2.2.1, hB.1.2.2.2.2.2.2.2.2.1, hB.1.2.2.2.2.2.2.2.2.2.1, hB.1.2.2.2.2.2.2.2.2.2.2.1, hB.1.2.2.2.2.2.2.2.2.2.2.2.1, hB.1.2.2.2.2.2.2.2.2.2.2.2.2.1, hB.1.2.2.2.2.2.2.2.2.2.2.2.2.2, hB.2.1, hB.2.2.1, hB.2.2.2.1, hB.2.2.2.2.1, hB.2.2.2.2.2.1, hB.2.2.2.2.2.2.1, hB.2.2.2.2.2.2.2.1, hB.2.2.2.2.2.2.2.2.1, hB.2.2.2.2.2.2.2.2.2.1, hB.2.2.2.2.2.2.2.2.2.2.1, hB.2.2.2.2.2.2.2.2.2.2.2.1, hB.2.2.2.2.2.2.2.2.2.2.2.2.1, hB.2.2.2.2.2.2.2.2.2.2.2.2.2, g'.2.2.1, au_eq1]
            by_cases n1 : n = 1
            · rw [if_neg (fun q => q n1)]
              simp (disch := omega) only [aw_iconst (pc2 := 60) (y := 1) D50_59 rfl (by decide), aw_iret D50_60 rfl, refV_s, refV_n, psh_s, psh_n, kil_i, kil_r, kil_n, kil_l, cat_i, cat_r, iOK_1, iOK_5, jOK_2, jOK_6, wOK_e, lOK_1, lOK_2, lOK_3, lOK_4, lOK_5, lOK_6, catS_0, catS_1, catS_2, catS_3, catS_4, and_self, true_and, and_true, true_or, or_true, false_or, or_false, not_true_eq_false, not_false_eq_true, if_true, if_false, ite_int, ite_int0, au_10, eq_self, decide_true, decide_false, Bool.true_and, Bool.false_and, au_in, au_le, au_lt, au_eq, au_lt0, au_ge0, au_le0, au_gt0, au_eq0, au_leT, au_leF, au_ltT, au_ltF, au_eqT, au_eqF, nI_clamp, nI_1, nI_add, pk_mul, au_sub1, au_subc, au_up2e, au_up2n, lit_of]
              rw [if_pos n1] at hmp
              exact hs 1 S3 I5 (hmk _ hmp) fr5 g'
            · rw [if_pos n1]
              rw [if_neg n1] at hmp
              have k8 : I5 (lvl dl) 8 = nI a.length := by rw [f5.1 _ (by omega) (by omega), x2 8 (by decide)]; exact c8
              simp (disch := omega) only [aw_aload_3 (pc2 := 62) D50_61 rfl, aw_iload_6 (pc2 := 64) D50_62 rfl, aw_iv1_0 (pc2 := 67) (o := 2) D50_64 rfl cT_3_84 rfl rfl, refV_s, refV_n, psh_s, psh_n, kil_i, kil_r, kil_n, kil_l, cat_i, cat_r, iOK_1, iOK_5, jOK_2, jOK_6, wOK_e, lOK_1, lOK_2, lOK_3, lOK_4, lOK_5, lOK_6, catS_0, catS_1, catS_2, catS_3, catS_4, and_self, true_and, and_true, true_or, or_true, false_or, or_false, not_true_eq_false, not_false_eq_true, if_true, if_false, ite_int, ite_int0, au_10, eq_self, decide_true, decide_false, Bool.true_and, Bool.false_and, au_in, au_le, au_lt, au_eq, au_lt0, au_ge0, au_le0, au_gt0, au_eq0, au_leT, au_leF, au_ltT, au_ltF, au_eqT, au_eqF, nI_clamp, nI_1, nI_add, pk_mul, au_sub1, au_subc, au_up2e, au_up2n, lit_of, hq.2.1.1, hq.2.1.2.1, hq.2.1.2.2.1, hq.2.1.2.2.2.1, hq.2.1.2.2.2.2.1, hq.2.1.2.2.2.2.2, hq.2.2.1, hq.2.2.2.1, hq.2.2.2.2.1, hq.2.2.2.2.2.1, hq.2.2.2.2.2.2]
              rw [C_keepNode (d := e0 + 3 * f + 9) hq k8 (by omega)]
              simp (disch := omega) only [aw_iinc_5 (pc2 := 70) (y := 1) D50_67 rfl (by decide), aw_goto (t := 25) D50_70 (by decide), refV_s, refV_n, psh_s, psh_n, kil_i, kil_r, kil_n, kil_l, cat_i, cat_r, iOK_1, iOK_5, jOK_2, jOK_6, wOK_e, lOK_1, lOK_2, lOK_3, lOK_4, lOK_5, lOK_6, catS_0, catS_1, catS_2, catS_3, catS_4, and_self, true_and, and_true, true_or, or_true, false_or, or_false, not_true_eq_false, not_false_eq_true, if_true, if_false, ite_int, ite_int0, au_10, eq_self, decide_true, decide_false, Bool.true_and, Bool.false_and, au_in, au_le, au_lt, au_eq, au_lt0, au_ge0, au_le0, au_gt0, au_eq0, au_leT, au_leF, au_ltT, au_ltF, au_eqT, au_eqF, nI_clamp, nI_1, nI_add, pk_mul, au_sub1, au_subc, au_up2e, au_up2n, lit_of, psh]
              have := ihr (a ++ [n]) S3 (up2 (up2 I5 (lvl dl + 5) a.length (nI n)) (lvl dl) 8 (nI (a.length + 1))) (.int (nI n)) rfl (by rw [List.length_append, List.length_singleton, ← List.drop_drop, hdr]; rfl) hmp y1.1 (by omega) (by omega) (fun x hx => by
                rcases List.mem_append.mp hx with q | q
                · exact Nat.lt_of_lt_of_le (g4 x q) y6
                · rw [List.mem_singleton] at q; omega) (by rw [List.length_append, List.length_singleton]; omega) ?_ ?_ ?_ ?_ ?_ ?_ ?_ ?_ ?_
              · rw [List.length_append, List.length_singleton] at this
                exact this
              · rw [au_up2n (by omega), au_up2n (by omega), f5.1 _ (by omega) (by omega), x2 5 (by decide)]; exact c5
              · intro j hj; rw [au_up2c (by omega), au_up2c (by omega), f5.1 _ (by omega) (by omega), x1 _ (by omega) (by omega)]; exact c1 j hj
              · intro j hj; rw [au_up2c (by omega), au_up2c (by omega), f5.1 _ (by omega) (by omega), x1 _ (by omega) (by omega)]; exact c2 j hj
              · rw [au_up2n (by omega), au_up2n (by omega), f5.1 _ (by omega) (by omega), x2 7 (by decide)]; exact c7
              · intro j hj; rw [au_up2c (by omega), au_up2c (by omega), f5.1 _ (by omega) (by omega), x1 _ (by omega) (by omega)]; exact c4 j hj
              · rw [au_up2e ⟨rfl, rfl⟩, List.length_append, List.length_singleton]
              · intro j hj
                rw [List.length_append, List.length_singleton] at hj
                rw [au_up2c (by omega), Nat.zero_add, get_snoc hj]
                by_cases ej : j = a.length
                · rw [if_pos ej, au_up2e ⟨rfl, ej⟩]
                · rw [if_neg ej, au_up2n (Or.inr ej), f5.1 _ (by omega) (by omega), x1 _ (by omega) (by omega)]
                  have := c9 j (by omega)
                  rw [Nat.zero_add] at this
                  exact this
              · exact fr5.tr ⟨fun a a1 a2 => by rw [au_up2c (by omega), au_up2c (by omega)], fun k _ _ _ => by rw [au_up2c (by omega), au_up2c (by omega)]⟩
              · exact cst_cong (fun a _ => by rw [au_up2c (by omega), au_up2c (by omega)]) g'
          · simp (disch := omega) only [aw_istore_6 (pc2 := 46) D50_44 rfl, aw_aload_1 (pc2 := 47) D50_46 rfl, aw_getI (pc2 := 50) (ci := 1) (fk := 11) D50_47 rfl fT_3_65 rfl, aw_if_ne (pc2 := 53) (t := 59) D50_50 (by decide) rfl, aw_iconst (pc2 := 60) (y := 1) D50_59 rfl (by decide), aw_iret D50_60 rfl, refV_s, refV_n, psh_s, psh_n, kil_i, kil_r, kil_n, kil_l, cat_i, cat_r, iOK_1, iOK_5, jOK_2, jOK_6, wOK_e, lOK_1, lOK_2, lOK_3, lOK_4, lOK_5, lOK_6, catS_0, catS_1, catS_2, catS_3, catS_4, and_self, true_and, and_true, true_or, or_true, false_or, or_false, not_true_eq_false, not_false_eq_true, if_true, if_false, ite_int, ite_int0, au_10, eq_self, decide_true, decide_false, Bool.true_and, Bool.false_and, au_in, au_le, au_lt, au_eq, au_lt0, au_ge0, au_le0, au_gt0, au_eq0, au_leT, au_leF, au_ltT, au_ltF, au_eqT, au_eqF, nI_clamp, nI_1, nI_add, pk_mul, au_sub1, au_subc, au_up2e, au_up2n, lit_of, psh, hB.1.1, hB.1.2.1, hB.1.2.2.1, hB.1.2.2.2.1, hB.1.2.2.2.2.1, hB.1.2.2.2.2.2.1, hB.1.2.2.2.2.2.2.1, hB.1.2.2.2.2.2.2.2.1, hB.1.2.2.2.2.2.2.2.2.1, hB.1.2.2.2.2.2.2.2.2.2.1, hB.1.2.2.2.2.2.2.2.2.2.2.1, hB.1.2.2.2.2.2.2.2.2.2.2.2.1, hB.1.2.2.2.2.2.2.2.2.2.2.2.2.1, hB.1.2.2.2.2.2.2.2.2.2.2.2.2.2, hB.2.1, hB.2.2.1, hB.2.2.2.1, hB.2.2.2.2.1, hB.2.2.2.2.2.1, hB.2.2.2.2.2.2.1, hB.2.2.2.2.2.2.2.1, hB.2.2.2.2.2.2.2.2.1, hB.2.2.2.2.2.2.2.2.2.1, hB.2.2.2.2.2.2.2.2.2.2.1, hB.2.2.2.2.2.2.2.2.2.2.2.1, hB.2.2.2.2.2.2.2.2.2.2.2.2.1, hB.2.2.2.2.2.2.2.2.2.2.2.2.2, g'.1]
            exact hx _ I5 (hmk none (by rw [hpre, mkPs, z])) (fr4.tr (f5.wk (show dl ≤ dl + 1 by omega))) g'
      exact key _ [] S I2 nv rfl (List.drop_zero ..) rfl hS (by omega) (by omega) (fun x hx => by cases hx) (by rw [List.length_nil]; omega) (by rw [v1 _ (by omega)]; exact w5) (fun j hj => by rw [v1 _ (by omega)]; exact w1 j hj) v3 (by rw [v1 _ (by omega)]; exact w7) (fun j hj => by rw [v1 _ (by omega)]; exact w4 j hj) (by rw [v1 _ (by omega), w8]; exact l8) (fun j hj => absurd hj (Nat.not_lt_zero _)) ⟨fun a a1 a2 => by rw [v1 a (by omega)]; exact w a (by omega) (by omega) (by omega), fun k _ _ _ => by rw [v1 (B + 3) (by omega), w (B + 3) (by omega) (by omega) (by omega)]⟩ (cst_cong (fun a a1 => by rw [v1 a (by omega)]; exact w a (by omega) (by omega) (by omega)) h)
end ListS
