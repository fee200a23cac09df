theorem selF_snoc (l : List Nat) (f : Nat → Bool) : ∀ n k, selF l f (n + 1) k = selF l f n k ++ (if f (k + n) then [l.getD (k + n) 0] else [])
  | 0, k => by
    rw [selF, selF, Nat.add_zero]
    cases f k <;> rfl
  | n + 1, k => by
    rw [selF, selF_snoc l f n (k + 1), selF, show k + 1 + n = k + (n + 1) by omega]
    cases f k <;> simp
theorem ltU_snoc {p : List Nat} {i : Nat} (hi : i < p.length) : ltU (p.take (i + 1)) = ltU (p.take i) ||| ltN (p.getD i 0) := by
  unfold ltU
  rw [List.take_succ, List.getElem?_eq_getElem hi, List.foldl_append, List.getD_eq_getElem?_getD, List.getElem?_eq_getElem hi]
  rfl
theorem ltU_lt (l : List Nat) : ltU l < 4096 := by
  have : ltU l < 2 ^ 12 := by
    refine Nat.lt_pow_two_of_testBit _ (fun i hi => ?_)
    cases e : (ltU l).testBit i
    · rfl
    · obtain ⟨c, -, hc⟩ := ltU_mem.mp e
      have := ltN_12 hc
      omega
  exact this
def bestI : Option Nat → Int32
  | none => 0
  | some l => nI (l + 1)
theorem chs_bd (a : Nat) (p : List Nat) : ∀ n, (chs a p n).2 ≤ p.length ∧ ∀ l, (chs a p n).1 = some l → l < n ∧ a.testBit l = true
  | 0 => ⟨Nat.zero_le _, fun l h => by cases h⟩
  | n + 1 => by
    obtain ⟨h1, h2⟩ := chs_bd a p n
    rw [chs]
    split
    · rename_i hc
      exact ⟨fb_ct_le _ _, fun l h => by cases h; exact ⟨by omega, hc.1⟩⟩
    · exact ⟨h1, fun l h => by obtain ⟨x, y⟩ := h2 l h; exact ⟨by omega, y⟩⟩
section Level3
variable {d Ln q : Nat} {I : IT} {J : JT} {K : KT}
theorem C_pickPiece {l : List Nat} {m : Nat → Option Nat} {n j : Nat} (hq : LF Ln q) (hl : lsOK l) (hn : n < 2 ^ 20) (hj : j < n) (hm : ∀ i k, i < l.length → m i = some k → k < n) (h5 : I q 5 = nI l.length) (h1 : lsA (q + 1) 0 l I) (h2 : ∀ i, i < l.length → I (q + 2) i = mkI (m i)) (hK : ∀ I', (∀ a, a ≠ q → a ≠ q + 3 → I' a = I a) → (∀ k, k ≠ 6 → I' q k = I q k) → I' q 6 = nI (selL l (fun i => isJ (m i) j)).length → lsA (q + 3) 0 (selL l (fun i => isJ (m i) j)) I' → K none (G0 Ln) I' J) : ACall (d + 1) 44 [.ref q, .int (nI j)] (G0 Ln) I J K := by
  rw [ACall_0 (L0 := [.ref q, .int (nI j), nv]) (show mcs 44 = (0, 0) from rfl) (show entL 44 [.ref q, .int (nI j)] = _ from rfl) rfl (Nat.le_of_ble_eq_true rfl)]
  have h40 := hl.1
  simp (disch := omega) only [aw_aload_0 (pc2 := 1) D44_0 rfl, aw_iconst (pc2 := 2) (y := 0) D44_1 rfl (by decide), aw_putI (pc2 := 5) (ci := 2) (fk := 6) D44_2 rfl fT_2_31 rfl, aw_iconst (pc2 := 6) (y := 0) D44_5 rfl (by decide), aw_istore_2 (pc2 := 7) D44_6 rfl, refV_s, refV_n, psh_s, psh_n, kil_i, kil_r, kil_n, kil_l, cat_i, cat_r, iOK_1, iOK_5, jOK_2, jOK_6, wOK_e, lOK_1, lOK_2, lOK_3, lOK_4, lOK_5, lOK_6, catS_0, catS_1, catS_2, catS_3, catS_4, and_self, true_and, and_true, true_or, or_true, false_or, or_false, not_true_eq_false, not_false_eq_true, if_true, if_false, ite_int, ite_int0, au_10, eq_self, decide_true, decide_false, Bool.true_and, Bool.false_and, au_in, au_le, au_lt, au_eq, au_lt0, au_ge0, au_le0, au_gt0, au_eq0, au_leT, au_leF, au_ltT, au_ltF, au_eqT, au_eqF, nI_clamp, nI_1, nI_add, pk_mul, au_sub1, au_subc, au_up2e, au_up2n, lit_of, hq.2.1.1, hq.2.1.2.1, hq.2.1.2.2.1, hq.2.1.2.2.2.1, hq.2.1.2.2.2.2.1, hq.2.1.2.2.2.2.2, hq.2.2.1, hq.2.2.2.1, hq.2.2.2.2.1, hq.2.2.2.2.2.1, hq.2.2.2.2.2.2]
  have key : ∀ f i I', i + f = l.length → (∀ a, a ≠ q → a ≠ q + 3 → I' a = I a) → (∀ k, k ≠ 6 → I' q k = I q k) → I' q 6 = nI (selF l (fun i => isJ (m i) j) i 0).length → lsA (q + 3) 0 (selF l (fun i => isJ (m i) j) i 0) I' → AW d ((G0 Ln).1, (G0 Ln).2.1) K 44 7 [.ref q, .int (nI j), .int (nI i)] [] (G0 Ln) I' J := by
    intro f
    induction f with
    | zero =>
      intro i I' hi ho o6 o66 ol
      have e : i = l.length := by omega
      subst e
      simp (disch := omega) only [aw_iload_2 (pc2 := 8) D44_7 rfl, aw_aload_0 (pc2 := 9) D44_8 rfl, aw_getI (pc2 := 12) (ci := 2) (fk := 5) D44_9 rfl fT_2_27 rfl, aw_icmp_ge (pc2 := 15) (t := 56) D44_12 (by decide) rfl, aw_vret D44_56 rfl, refV_s, refV_n, psh_s, psh_n, kil_i, kil_r, kil_n, kil_l, cat_i, cat_r, iOK_1, iOK_5, jOK_2, jOK_6, wOK_e, lOK_1, lOK_2, lOK_3, lOK_4, lOK_5, lOK_6, catS_0, catS_1, catS_2, catS_3, catS_4, and_self, true_and, and_true, true_or, or_true, false_or, or_false, not_true_eq_false, not_false_eq_true, if_true, if_false, ite_int, ite_int0, au_10, eq_self, decide_true, decide_false, Bool.true_and, Bool.false_and, au_in, au_le, au_lt, au_eq, au_lt0, au_ge0, au_le0, au_gt0, au_eq0, au_leT, au_leF, au_ltT, au_ltF, au_eqT, au_eqF, nI_clamp, nI_1, nI_add, pk_mul, au_sub1, au_subc, au_up2e, au_up2n, lit_of, hq.2.1.1, hq.2.1.2.1, hq.2.1.2.2.1, hq.2.1.2.2.2.1, hq.2.1.2.2.2.2.1, hq.2.1.2.2.2.2.2, hq.2.2.1, hq.2.2.2.1, hq.2.2.2.2.1, hq.2.2.2.2.2.1, hq.2.2.2.2.2.2, o6 5 (by omega), h5]
      exact hK I' ho o6 o66 ol
    | succ f ih =>
      intro i I' hi ho o6 o66 ol
      have hil : i < l.length := by omega
      have hlen : (selF l (fun i => isJ (m i) j) i 0).length ≤ i := by
        have key : ∀ n k, (selF l (fun i => isJ (m i) j) n k).length ≤ n := by
          intro n
          induction n with
          | zero => intro k; exact Nat.le_refl _
          | succ n ih =>
            intro k
            rw [selF]
            split
            · rw [List.length_cons]; have := ih (k + 1); omega
            · have := ih (k + 1); omega
        exact key i 0
      have ihn := ih (i + 1)
      rw [selF_snoc, Nat.zero_add] at ihn
      have hmi : I' (q + 2) i = mkI (m i) := by rw [ho (q + 2) (by omega) (by omega)]; exact h2 i hil
      have hli : I' (q + 1) i = nI (l.getD i 0) := by rw [ho (q + 1) (by omega) (by omega)]; exact lsA_0 h1 hil
      rw [aw_iload_2 (pc2 := 8) D44_7 rfl]
      simp (disch := omega) only [aw_aload_0 (pc2 := 9) D44_8 rfl, aw_getI (pc2 := 12) (ci := 2) (fk := 5) D44_9 rfl fT_2_27 rfl, aw_icmp_ge (pc2 := 15) (t := 56) D44_12 (by decide) rfl, aw_aload_0 (pc2 := 16) D44_15 rfl, aw_getR (pc2 := 19) (ci := 2) (fk := 1) D44_16 rfl fT_2_15 rfl, aw_iload_2 (pc2 := 20) D44_19 rfl, aw_iaload (pc2 := 21) D44_20 rfl, aw_iload_1 (pc2 := 22) D44_21 rfl, aw_icmp_ne (pc2 := 25) (t := 50) D44_22 (by decide) rfl, refV_s, refV_n, psh_s, psh_n, kil_i, kil_r, kil_n, kil_l, cat_i, cat_r, iOK_1, iOK_5, jOK_2, jOK_6, wOK_e, lOK_1, lOK_2, lOK_3, lOK_4, lOK_5, lOK_6, catS_0, catS_1, catS_2, catS_3, catS_4, and_self, true_and, and_true, true_or, or_true, false_or, or_false, not_true_eq_false, not_false_eq_true, if_true, if_false, ite_int, ite_int0, au_10, eq_self, decide_true, decide_false, Bool.true_and, Bool.false_and, au_in, au_le, au_lt, au_eq, au_lt0, au_ge0, au_le0, au_gt0, au_eq0, au_leT, au_leF, au_ltT, au_ltF, au_eqT, au_eqF, nI_clamp, nI_1, nI_add, pk_mul, au_sub1, au_subc, au_up2e, au_up2n, lit_of, hq.2.1.1, hq.2.1.2.1, hq.2.1.2.2.1, hq.2.1.2.2.2.1, hq.2.1.2.2.2.2.1, hq.2.1.2.2.2.2.2, hq.2.2.1, hq.2.2.2.1, hq.2.2.2.2.1, hq.2.2.2.2.2.1, hq.2.2.2.2.2.2, o6 5 (by omega), h5, hmi]
      by_cases hmj : m i = some j
      · have hs : isJ (m i) j = true := decide_eq_true hmj
        rw [hs, if_pos rfl] at ihn
        rw [if_neg (fun z => z (by rw [hmj]; rfl))]
        simp (disch := omega) only [aw_aload_0 (pc2 := 26) D44_25 rfl, aw_getR (pc2 := 29) (ci := 2) (fk := 2) D44_26 rfl fT_2_18 rfl, aw_aload_0 (pc2 := 30) D44_29 rfl, aw_getI (pc2 := 33) (ci := 2) (fk := 6) D44_30 rfl fT_2_31 rfl, aw_aload_0 (pc2 := 34) D44_33 rfl, aw_getR (pc2 := 37) (ci := 2) (fk := 0) D44_34 rfl fT_2_9 rfl, aw_iload_2 (pc2 := 38) D44_37 rfl, aw_iaload (pc2 := 39) D44_38 rfl, aw_iastore (pc2 := 40) D44_39 rfl, aw_aload_0 (pc2 := 41) D44_40 rfl, aw_dup (pc2 := 42) D44_41 rfl, aw_getI (pc2 := 45) (ci := 2) (fk := 6) D44_42 rfl fT_2_31 rfl, aw_iconst (pc2 := 46) (y := 1) D44_45 rfl (by decide), aw_iadd (pc2 := 47) D44_46 rfl, aw_putI (pc2 := 50) (ci := 2) (fk := 6) D44_47 rfl fT_2_31 rfl, aw_iinc_2 (pc2 := 53) (y := 1) D44_50 rfl (by decide), aw_goto (t := 7) D44_53 (by decide), refV_s, refV_n, psh_s, psh_n, kil_i, kil_r, kil_n, kil_l, cat_i, cat_r, iOK_1, iOK_5, jOK_2, jOK_6, wOK_e, lOK_1, lOK_2, lOK_3, lOK_4, lOK_5, lOK_6, catS_0, catS_1, catS_2, catS_3, catS_4, and_self, true_and, and_true, true_or, or_true, false_or, or_false, not_true_eq_false, not_false_eq_true, if_true, if_false, ite_int, ite_int0, au_10, eq_self, decide_true, decide_false, Bool.true_and, Bool.false_and, au_in, au_le, au_lt, au_eq, au_lt0, au_ge0, au_le0, au_gt0, au_eq0, au_leT, au_leF, au_ltT, au_ltF, au_eqT, au_eqF, nI_clamp, nI_1, nI_add, pk_mul, au_sub1, au_subc, au_up2e, au_up2n, lit_of, hq.2.1.1, hq.2.1.2.1, hq.2.1.2.2.1, hq.2.1.2.2.2.1, hq.2.1.2.2.2.2.1, hq.2.1.2.2.2.2.2, hq.2.2.1, hq.2.2.2.1, hq.2.2.2.2.1, hq.2.2.2.2.2.1, hq.2.2.2.2.2.2, o66, hli]
        refine ihn _ (by omega) (fun a a1 a2 => by rw [up2_off a1, up2_off a2]; exact ho a a1 a2) (fun k hk => ?_) ?_ (fun z hz => ?_)
        · simp (disch := omega) only [au_up2n]; exact o6 k hk
        · rw [List.length_append]; simp (disch := omega) only [au_up2e]; rfl
        · rw [List.length_append] at hz
          simp at hz
          rw [Nat.zero_add, get_snoc hz]
          by_cases e : z = (selF l (fun i => isJ (m i) j) i 0).length
          · simp (disch := omega) only [e, au_up2e, au_up2n, if_true]
          · simp (disch := omega) only [e, au_up2n, if_false]
            exact lsA_0 ol (by omega)
      · have hs : isJ (m i) j = false := decide_eq_false hmj
        rw [hs, if_neg (by decide), List.append_nil] at ihn
        rw [if_pos (by rw [mkI_in hmj (by omega) (fun k hk => by have := hm i k hil hk; omega)]; exact not_false)]
        simp (disch := omega) only [aw_iinc_2 (pc2 := 53) (y := 1) D44_50 rfl (by decide), aw_goto (t := 7) D44_53 (by decide), refV_s, refV_n, psh_s, psh_n, kil_i, kil_r, kil_n, kil_l, cat_i, cat_r, iOK_1, iOK_5, jOK_2, jOK_6, wOK_e, lOK_1, lOK_2, lOK_3, lOK_4, lOK_5, lOK_6, catS_0, catS_1, catS_2, catS_3, catS_4, and_self, true_and, and_true, true_or, or_true, false_or, or_false, not_true_eq_false, not_false_eq_true, if_true, if_false, ite_int, ite_int0, au_10, eq_self, decide_true, decide_false, Bool.true_and, Bool.false_and, au_in, au_le, au_lt, au_eq, au_lt0, au_ge0, au_le0, au_gt0, au_eq0, au_leT, au_leF, au_ltT, au_ltF, au_eqT, au_eqF, nI_clamp, nI_1, nI_add, pk_mul, au_sub1, au_subc, au_up2e, au_up2n, lit_of]
        exact ihn I' (by omega) ho o6 o66 ol
  refine key l.length 0 _ (by omega) (fun a a1 _ => up2_off a1) (fun k hk => au_up2k hk) ?_ (fun i hi => absurd hi (Nat.not_lt_zero _))
  rw [au_up2]; rfl
theorem C_keepNode {n : Nat} {v : Int32} (hq : LF Ln q) (h8 : I q 8 = nI n) (hn : n < 12) : ACall (d + 1) 45 [.ref q, .int v] (G0 Ln) I J K ↔ K none (G0 Ln) (up2 (up2 I (q + 5) n v) q 8 (nI (n + 1))) J := by
  rw [ACall_0 (L0 := [.ref q, .int v]) (show mcs 45 = (0, 0) from rfl) (show entL 45 [.ref q, .int v] = _ from rfl) rfl (Nat.le_of_ble_eq_true rfl)]
  simp (disch := omega) only [aw_aload_0 (pc2 := 1) D45_0 rfl, aw_getI (pc2 := 4) (ci := 2) (fk := 8) D45_1 rfl fT_2_37 rfl, aw_aload_0 (pc2 := 5) D45_4 rfl, aw_getR (pc2 := 8) (ci := 2) (fk := 4) D45_5 rfl fT_2_24 rfl, aw_alen (pc2 := 9) D45_8 rfl, aw_icmp_ge (pc2 := 12) (t := 32) D45_9 (by decide) rfl, aw_aload_0 (pc2 := 13) D45_12 rfl, aw_getR (pc2 := 16) (ci := 2) (fk := 4) D45_13 rfl fT_2_24 rfl, aw_aload_0 (pc2 := 17) D45_16 rfl, aw_getI (pc2 := 20) (ci := 2) (fk := 8) D45_17 rfl fT_2_37 rfl, aw_iload_1 (pc2 := 21) D45_20 rfl, aw_iastore (pc2 := 22) D45_21 rfl, aw_aload_0 (pc2 := 23) D45_22 rfl, aw_dup (pc2 := 24) D45_23 rfl, aw_getI (pc2 := 27) (ci := 2) (fk := 8) D45_24 rfl fT_2_37 rfl, aw_iconst (pc2 := 28) (y := 1) D45_27 rfl (by decide), aw_iadd (pc2 := 29) D45_28 rfl, aw_putI (pc2 := 32) (ci := 2) (fk := 8) D45_29 rfl fT_2_37 rfl, aw_vret D45_32 rfl, refV_s, refV_n, psh_s, psh_n, kil_i, kil_r, kil_n, kil_l, cat_i, cat_r, iOK_1, iOK_5, jOK_2, jOK_6, wOK_e, lOK_1, lOK_2, lOK_3, lOK_4, lOK_5, lOK_6, catS_0, catS_1, catS_2, catS_3, catS_4, and_self, true_and, and_true, true_or, or_true, false_or, or_false, not_true_eq_false, not_false_eq_true, if_true, if_false, ite_int, ite_int0, au_10, eq_self, decide_true, decide_false, Bool.true_and, Bool.false_and, au_in, au_le, au_lt, au_eq, au_lt0, au_ge0, au_le0, au_gt0, au_eq0, au_leT, au_leF, au_ltT, au_ltF, au_eqT, au_eqF, nI_clamp, nI_1, nI_add, pk_mul, au_sub1, au_subc, au_up2e, au_up2n, lit_of, hq.2.1.1, hq.2.1.2.1, hq.2.1.2.2.1, hq.2.1.2.2.2.1, hq.2.1.2.2.2.2.1, hq.2.1.2.2.2.2.2, hq.2.2.1, hq.2.2.2.1, hq.2.2.2.2.1, hq.2.2.2.2.2.1, hq.2.2.2.2.2.2, h8]
theorem C_clausesWith {p : List Nat} {b : Nat} (hq : LF Ln q) (hp : lsOK p) (hb : b < 12) (h6 : I q 6 = nI p.length) (h3 : lsA (q + 3) 0 p I) : ACall (d + 2) 47 [.ref q, .int (nI (2 ^ b))] (G0 Ln) I J K ↔ K (some (.int (nI (cntL p b)))) (G0 Ln) I J := by
  rw [ACall_0 (L0 := [.ref q, .int (nI (2 ^ b)), nv, nv]) (show mcs 47 = (0, 0) from rfl) (show entL 47 [.ref q, .int (nI (2 ^ b))] = _ from rfl) rfl (Nat.le_of_ble_eq_true rfl)]
  have h40 := hp.1
  simp only [aw_iconst (pc2 := 1) (y := 0) D47_0 rfl (by decide), aw_istore_2 (pc2 := 2) D47_1 rfl, aw_iconst (pc2 := 3) (y := 0) D47_2 rfl (by decide), aw_istore_3 (pc2 := 4) D47_3 rfl, refV_s, refV_n, psh_s, psh_n, kil_i, kil_r, kil_n, kil_l, cat_i, cat_r, iOK_1, iOK_5, jOK_2, jOK_6, wOK_e, lOK_1, lOK_2, lOK_3, lOK_4, lOK_5, lOK_6, catS_0, catS_1, catS_2, catS_3, catS_4, and_self, true_and, and_true, true_or, or_true, false_or, or_false, not_true_eq_false, not_false_eq_true, if_true, if_false, ite_int, ite_int0, au_10, eq_self, decide_true, decide_false, Bool.true_and, Bool.false_and]
  have key : ∀ f i, i + f = p.length → (AW (d + 1) ((G0 Ln).1, (G0 Ln).2.1) K 47 4 [.ref q, .int (nI (2 ^ b)), .int (nI (fb_ct (fun j => (ltN (p.getD j 0)).testBit b) i)), .int (nI i)] [] (G0 Ln) I J ↔ K (some (.int (nI (cntL p b)))) (G0 Ln) I J) := by
    intro f
    induction f with
    | zero =>
      intro i hi
      have e : i = p.length := by omega
      subst e
      simp (disch := omega) only [aw_iload_3 (pc2 := 5) D47_4 rfl, aw_aload_0 (pc2 := 6) D47_5 rfl, aw_getI (pc2 := 9) (ci := 2) (fk := 6) D47_6 rfl fT_2_31 rfl, aw_icmp_ge (pc2 := 12) (t := 35) D47_9 (by decide) rfl, aw_iload_2 (pc2 := 36) D47_35 rfl, aw_iret D47_36 rfl, refV_s, refV_n, psh_s, psh_n, kil_i, kil_r, kil_n, kil_l, cat_i, cat_r, iOK_1, iOK_5, jOK_2, jOK_6, wOK_e, lOK_1, lOK_2, lOK_3, lOK_4, lOK_5, lOK_6, catS_0, catS_1, catS_2, catS_3, catS_4, and_self, true_and, and_true, true_or, or_true, false_or, or_false, not_true_eq_false, not_false_eq_true, if_true, if_false, ite_int, ite_int0, au_10, eq_self, decide_true, decide_false, Bool.true_and, Bool.false_and, au_in, au_le, au_lt, au_eq, au_lt0, au_ge0, au_le0, au_gt0, au_eq0, au_leT, au_leF, au_ltT, au_ltF, au_eqT, au_eqF, nI_clamp, nI_1, nI_add, pk_mul, au_sub1, au_subc, au_up2e, au_up2n, lit_of, hq.2.1.1, hq.2.1.2.1, hq.2.1.2.2.1, hq.2.1.2.2.2.1, hq.2.1.2.2.2.2.1, hq.2.1.2.2.2.2.2, hq.2.2.1, hq.2.2.2.1, hq.2.2.2.2.1, hq.2.2.2.2.2.1, hq.2.2.2.2.2.2, h6]
      exact Iff.rfl
    | succ f ih =>
      intro i hi
      have hil : i < p.length := by omega
      have ihn := ih (i + 1) (by omega)
      rw [fb_ct_succ] at ihn
      rw [aw_iload_3 (pc2 := 5) D47_4 rfl]
      simp (disch := omega) only [aw_aload_0 (pc2 := 6) D47_5 rfl, aw_getI (pc2 := 9) (ci := 2) (fk := 6) D47_6 rfl fT_2_31 rfl, aw_icmp_ge (pc2 := 12) (t := 35) D47_9 (by decide) rfl, aw_aload_0 (pc2 := 13) D47_12 rfl, aw_getR (pc2 := 16) (ci := 2) (fk := 2) D47_13 rfl fT_2_18 rfl, aw_iload_3 (pc2 := 17) D47_16 rfl, aw_iaload (pc2 := 18) D47_17 rfl, aw_is1_3 (pc2 := 21) D47_18 rfl cT_2_69 rfl, aw_iload_1 (pc2 := 22) D47_21 rfl, aw_iand (pc2 := 23) D47_22 rfl, aw_if_eq (pc2 := 26) (t := 29) D47_23 (by decide) rfl, refV_s, refV_n, psh_s, psh_n, kil_i, kil_r, kil_n, kil_l, cat_i, cat_r, iOK_1, iOK_5, jOK_2, jOK_6, wOK_e, lOK_1, lOK_2, lOK_3, lOK_4, lOK_5, lOK_6, catS_0, catS_1, catS_2, catS_3, catS_4, and_self, true_and, and_true, true_or, or_true, false_or, or_false, not_true_eq_false, not_false_eq_true, if_true, if_false, ite_int, ite_int0, au_10, eq_self, decide_true, decide_false, Bool.true_and, Bool.false_and, au_in, au_le, au_lt, au_eq, au_lt0, au_ge0, au_le0, au_gt0, au_eq0, au_leT, au_leF, au_ltT, au_ltF, au_eqT, au_eqF, nI_clamp, nI_1, nI_add, pk_mul, au_sub1, au_subc, au_up2e, au_up2n, lit_of, hq.2.1.1, hq.2.1.2.1, hq.2.1.2.2.1, hq.2.1.2.2.2.1, hq.2.1.2.2.2.2.1, hq.2.1.2.2.2.2.2, hq.2.2.1, hq.2.2.2.1, hq.2.2.2.2.1, hq.2.2.2.2.2.1, hq.2.2.2.2.2.2, h6, lsA_0 h3 hil, C_lettersOf, letC_nI (hp.2 _ (getD_mem hil)).1, bit_test (show b < 31 by omega)]
      cases t : (ltN (p.getD i 0)).testBit b
      · rw [if_pos rfl]
        rw [t, if_neg (by decide), Nat.add_zero] at ihn
        simp (disch := omega) only [aw_iinc_3 (pc2 := 32) (y := 1) D47_29 rfl (by decide), aw_goto (t := 4) D47_32 (by decide), refV_s, refV_n, psh_s, psh_n, kil_i, kil_r, kil_n, kil_l, cat_i, cat_r, iOK_1, iOK_5, jOK_2, jOK_6, wOK_e, lOK_1, lOK_2, lOK_3, lOK_4, lOK_5, lOK_6, catS_0, catS_1, catS_2, catS_3, catS_4, and_self, true_and, and_true, true_or, or_true, false_or, or_false, not_true_eq_false, not_false_eq_true, if_true, if_false, ite_int, ite_int0, au_10, eq_self, decide_true, decide_false, Bool.true_and, Bool.false_and, au_in, au_le, au_lt, au_eq, au_lt0, au_ge0, au_le0, au_gt0, au_eq0, au_leT, au_leF, au_ltT, au_ltF, au_eqT, au_eqF, nI_clamp, nI_1, nI_add, pk_mul, au_sub1, au_subc, au_up2e, au_up2n, lit_of]
        exact ihn
      · rw [if_neg (by decide)]
        rw [t, if_pos rfl] at ihn
        simp (disch := omega) only [aw_iinc_2 (pc2 := 29) (y := 1) D47_26 rfl (by decide), aw_iinc_3 (pc2 := 32) (y := 1) D47_29 rfl (by decide), aw_goto (t := 4) D47_32 (by decide), refV_s, refV_n, psh_s, psh_n, kil_i, kil_r, kil_n, kil_l, cat_i, cat_r, iOK_1, iOK_5, jOK_2, jOK_6, wOK_e, lOK_1, lOK_2, lOK_3, lOK_4, lOK_5, lOK_6, catS_0, catS_1, catS_2, catS_3, catS_4, and_self, true_and, and_true, true_or, or_true, false_or, or_false, not_true_eq_false, not_false_eq_true, if_true, if_false, ite_int, ite_int0, au_10, eq_self, decide_true, decide_false, Bool.true_and, Bool.false_and, au_in, au_le, au_lt, au_eq, au_lt0, au_ge0, au_le0, au_gt0, au_eq0, au_leT, au_leF, au_ltT, au_ltF, au_eqT, au_eqF, nI_clamp, nI_1, nI_add, pk_mul, au_sub1, au_subc, au_up2e, au_up2n, lit_of]
        exact ihn
  exact key p.length 0 (by omega)
theorem C_letterToChoose {p : List Nat} {ak : Nat} (hq : LF Ln q) (hp : lsOK p) (hak : ak < 4096) (h6 : I q 6 = nI p.length) (h3 : lsA (q + 3) 0 p I) : ACall (d + 3) 46 [.ref q, .int (nI ak)] (G0 Ln) I J K ↔ K (some (.int (bestI (chs (chA ak p) p 12).1))) (G0 Ln) I J := by
  rw [ACall_0 (L0 := [.ref q, .int (nI ak), nv, nv, nv, nv, nv]) (show mcs 46 = (0, 0) from rfl) (show entL 46 [.ref q, .int (nI ak)] = _ from rfl) rfl (Nat.le_of_ble_eq_true rfl)]
  have h40 := hp.1
  simp only [aw_iconst (pc2 := 1) (y := 0) D46_0 rfl (by decide), aw_istore_2 (pc2 := 2) D46_1 rfl, aw_iconst (pc2 := 3) (y := 0) D46_2 rfl (by decide), aw_istore_3 (pc2 := 4) D46_3 rfl, lit_12, refV_s, refV_n, psh_s, psh_n, kil_i, kil_r, kil_n, kil_l, cat_i, cat_r, iOK_1, iOK_5, jOK_2, jOK_6, wOK_e, lOK_1, lOK_2, lOK_3, lOK_4, lOK_5, lOK_6, catS_0, catS_1, catS_2, catS_3, catS_4, and_self, true_and, and_true, true_or, or_true, false_or, or_false, not_true_eq_false, not_false_eq_true, if_true, if_false, ite_int, ite_int0, au_10, eq_self, decide_true, decide_false, Bool.true_and, Bool.false_and]
  have hU := ltU_lt p
  have hA : chA ak p < 4096 := by
    unfold chA
    split
    · exact hU
    · exact Nat.lt_of_le_of_lt Nat.and_le_left hU
  have k2 : ∀ f l v, l + f = 12 → kil v = v → (AW (d + 2) ((G0 Ln).1, (G0 Ln).2.1) K 46 48 [.ref q, .int (nI ak), .int (nI (chA ak p)), .int (bestI (chs (chA ak p) p l).1), .int (nI (chs (chA ak p) p l).2), .int (nI (l + 1)), v] [] (G0 Ln) I J ↔ K (some (.int (bestI (chs (chA ak p) p 12).1))) (G0 Ln) I J) := by
    intro f
    induction f with
    | zero =>
      intro l v hl hv
      have e : l = 12 := by omega
      subst e
      simp (disch := omega) only [aw_iload_5 (pc2 := 50) D46_48 rfl, aw_bipush (pc2 := 52) (y := 12) D46_50 rfl (by decide), aw_icmp_gt (pc2 := 55) (t := 100) D46_52 (by decide) rfl, aw_iload_3 (pc2 := 101) D46_100 rfl, aw_iret D46_101 rfl, lit_12, refV_s, refV_n, psh_s, psh_n, kil_i, kil_r, kil_n, kil_l, cat_i, cat_r, iOK_1, iOK_5, jOK_2, jOK_6, wOK_e, lOK_1, lOK_2, lOK_3, lOK_4, lOK_5, lOK_6, catS_0, catS_1, catS_2, catS_3, catS_4, and_self, true_and, and_true, true_or, or_true, false_or, or_false, not_true_eq_false, not_false_eq_true, if_true, if_false, ite_int, ite_int0, au_10, eq_self, decide_true, decide_false, Bool.true_and, Bool.false_and, au_in, au_le, au_lt, au_eq, au_lt0, au_ge0, au_le0, au_gt0, au_eq0, au_leT, au_leF, au_ltT, au_ltF, au_eqT, au_eqF, nI_clamp, nI_1, nI_add, pk_mul, au_sub1, au_subc, au_up2e, au_up2n, lit_of]
    | succ f ih =>
      intro l v hl hv
      have hl12 : l < 12 := by omega
      have ihn := ih (l + 1)
      have hb1 := (lt_bits l hl12).1
      have hbd := (chs_bd (chA ak p) p l).1
      have hcn : cntL p l ≤ p.length := fb_ct_le _ _
      rw [aw_iload_5 (pc2 := 50) D46_48 rfl]
      simp (disch := omega) only [aw_bipush (pc2 := 52) (y := 12) D46_50 rfl (by decide), aw_icmp_gt (pc2 := 55) (t := 100) D46_52 (by decide) rfl, aw_iload_2 (pc2 := 56) D46_55 rfl, aw_iload_5 (pc2 := 58) D46_56 rfl, aw_is1_3 (pc2 := 61) D46_58 rfl cT_2_72 rfl, aw_iand (pc2 := 62) D46_61 rfl, aw_if_eq (pc2 := 65) (t := 77) D46_62 (by decide) rfl, lit_12, refV_s, refV_n, psh_s, psh_n, kil_i, kil_r, kil_n, kil_l, cat_i, cat_r, iOK_1, iOK_5, jOK_2, jOK_6, wOK_e, lOK_1, lOK_2, lOK_3, lOK_4, lOK_5, lOK_6, catS_0, catS_1, catS_2, catS_3, catS_4, and_self, true_and, and_true, true_or, or_true, false_or, or_false, not_true_eq_false, not_false_eq_true, if_true, if_false, ite_int, ite_int0, au_10, eq_self, decide_true, decide_false, Bool.true_and, Bool.false_and, au_in, au_le, au_lt, au_eq, au_lt0, au_ge0, au_le0, au_gt0, au_eq0, au_leT, au_leF, au_ltT, au_ltF, au_eqT, au_eqF, nI_clamp, nI_1, nI_add, pk_mul, au_sub1, au_subc, au_up2e, au_up2n, lit_of, C_bitOf, hb1, bit_test (show l < 31 by omega)]
      cases t : (chA ak p).testBit l
      · rw [if_pos rfl]
        have e : chs (chA ak p) p (l + 1) = chs (chA ak p) p l := by
          rw [chs, if_neg (fun z => by rw [t] at z; cases z.1)]
        rw [e] at ihn
        have hle : (0 : Int32) ≤ nI (chs (chA ak p) p l).2 := nI_pos' (by omega)
        simp (disch := omega) only [aw_iconst (pc2 := 78) (y := 0) D46_77 rfl (by decide), aw_istore_6 (pc2 := 80) D46_78 rfl, aw_iload_6 (pc2 := 82) D46_80 rfl, aw_iload_4 (pc2 := 84) D46_82 rfl, aw_icmp_le (pc2 := 87) (t := 94) D46_84 (by decide) rfl, lit_12, refV_s, refV_n, psh_s, psh_n, kil_i, kil_r, kil_n, kil_l, cat_i, cat_r, iOK_1, iOK_5, jOK_2, jOK_6, wOK_e, lOK_1, lOK_2, lOK_3, lOK_4, lOK_5, lOK_6, catS_0, catS_1, catS_2, catS_3, catS_4, and_self, true_and, and_true, true_or, or_true, false_or, or_false, not_true_eq_false, not_false_eq_true, if_true, if_false, ite_int, ite_int0, au_10, eq_self, decide_true, decide_false, Bool.true_and, Bool.false_and, au_in, au_le, au_lt, au_eq, au_lt0, au_ge0, au_le0, au_gt0, au_eq0, au_leT, au_leF, au_ltT, au_ltF, au_eqT, au_eqF, nI_clamp, nI_1, nI_add, pk_mul, au_sub1, au_subc, au_up2e, au_up2n, lit_of, hv, hle]
        simp (disch := omega) only [aw_iinc_5 (pc2 := 97) (y := 1) D46_94 rfl (by decide), aw_goto (t := 48) D46_97 (by decide), lit_12, refV_s, refV_n, psh_s, psh_n, kil_i, kil_r, kil_n, kil_l, cat_i, cat_r, iOK_1, iOK_5, jOK_2, jOK_6, wOK_e, lOK_1, lOK_2, lOK_3, lOK_4, lOK_5, lOK_6, catS_0, catS_1, catS_2, catS_3, catS_4, and_self, true_and, and_true, true_or, or_true, false_or, or_false, not_true_eq_false, not_false_eq_true, if_true, if_false, ite_int, ite_int0, au_10, eq_self, decide_true, decide_false, Bool.true_and, Bool.false_and, au_in, au_le, au_lt, au_eq, au_lt0, au_ge0, au_le0, au_gt0, au_eq0, au_leT, au_leF, au_ltT, au_ltF, au_eqT, au_eqF, nI_clamp, nI_1, nI_add, pk_mul, au_sub1, au_subc, au_up2e, au_up2n, lit_of]
        exact ihn _ (by omega) rfl
      · rw [if_neg (by decide)]
        simp (disch := omega) only [aw_aload_0 (pc2 := 66) D46_65 rfl, aw_iload_5 (pc2 := 68) D46_66 rfl, aw_is1_3 (pc2 := 71) D46_68 rfl cT_2_72 rfl, aw_iv1_0 (pc2 := 74) (o := 2) D46_71 rfl cT_2_75 rfl rfl, aw_goto (t := 78) D46_74 (by decide), aw_iconst (pc2 := 78) (y := 0) D46_77 rfl (by decide), aw_istore_6 (pc2 := 80) D46_78 rfl, aw_iload_6 (pc2 := 82) D46_80 rfl, aw_iload_4 (pc2 := 84) D46_82 rfl, aw_icmp_le (pc2 := 87) (t := 94) D46_84 (by decide) rfl, lit_12, refV_s, refV_n, psh_s, psh_n, kil_i, kil_r, kil_n, kil_l, cat_i, cat_r, iOK_1, iOK_5, jOK_2, jOK_6, wOK_e, lOK_1, lOK_2, lOK_3, lOK_4, lOK_5, lOK_6, catS_0, catS_1, catS_2, catS_3, catS_4, and_self, true_and, and_true, true_or, or_true, false_or, or_false, not_true_eq_false, not_false_eq_true, if_true, if_false, ite_int, ite_int0, au_10, eq_self, decide_true, decide_false, Bool.true_and, Bool.false_and, au_in, au_le, au_lt, au_eq, au_lt0, au_ge0, au_le0, au_gt0, au_eq0, au_leT, au_leF, au_ltT, au_ltF, au_eqT, au_eqF, nI_clamp, nI_1, nI_add, pk_mul, au_sub1, au_subc, au_up2e, au_up2n, lit_of, C_bitOf, hb1, hq.2.1.1, hq.2.1.2.1, hq.2.1.2.2.1, hq.2.1.2.2.2.1, hq.2.1.2.2.2.2.1, hq.2.1.2.2.2.2.2, hq.2.2.1, hq.2.2.2.1, hq.2.2.2.2.1, hq.2.2.2.2.2.1, hq.2.2.2.2.2.2, C_clausesWith hq hp hl12 h6 h3, hv]
        by_cases hc : cntL p l ≤ (chs (chA ak p) p l).2
        · have e : chs (chA ak p) p (l + 1) = chs (chA ak p) p l := by
            rw [chs, if_neg (fun z => by have := z.2; omega)]
          rw [e] at ihn
          rw [if_pos hc]
          simp (disch := omega) only [aw_iinc_5 (pc2 := 97) (y := 1) D46_94 rfl (by decide), aw_goto (t := 48) D46_97 (by decide), lit_12, refV_s, refV_n, psh_s, psh_n, kil_i, kil_r, kil_n, kil_l, cat_i, cat_r, iOK_1, iOK_5, jOK_2, jOK_6, wOK_e, lOK_1, lOK_2, lOK_3, lOK_4, lOK_5, lOK_6, catS_0, catS_1, catS_2, catS_3, catS_4, and_self, true_and, and_true, true_or, or_true, false_or, or_false, not_true_eq_false, not_false_eq_true, if_true, if_false, ite_int, ite_int0, au_10, eq_self, decide_true, decide_false, Bool.true_and, Bool.false_and, au_in, au_le, au_lt, au_eq, au_lt0, au_ge0, au_le0, au_gt0, au_eq0, au_leT, au_leF, au_ltT, au_ltF, au_eqT, au_eqF, nI_clamp, nI_1, nI_add, pk_mul, au_sub1, au_subc, au_up2e, au_up2n, lit_of]
          exact ihn _ (by omega) rfl
        · have e : chs (chA ak p) p (l + 1) = (some l, cntL p l) := by
            rw [chs, if_pos ⟨t, by omega⟩]
          rw [e] at ihn
          rw [if_neg hc]
          simp (disch := omega) only [aw_iload_5 (pc2 := 89) D46_87 rfl, aw_istore_3 (pc2 := 90) D46_89 rfl, aw_iload_6 (pc2 := 92) D46_90 rfl, aw_istore_4 (pc2 := 94) D46_92 rfl, aw_iinc_5 (pc2 := 97) (y := 1) D46_94 rfl (by decide), aw_goto (t := 48) D46_97 (by decide), lit_12, refV_s, refV_n, psh_s, psh_n, kil_i, kil_r, kil_n, kil_l, cat_i, cat_r, iOK_1, iOK_5, jOK_2, jOK_6, wOK_e, lOK_1, lOK_2, lOK_3, lOK_4, lOK_5, lOK_6, catS_0, catS_1, catS_2, catS_3, catS_4, and_self, true_and, and_true, true_or, or_true, false_or, or_false, not_true_eq_false, not_false_eq_true, if_true, if_false, ite_int, ite_int0, au_10, eq_self, decide_true, decide_false, Bool.true_and, Bool.false_and, au_in, au_le, au_lt, au_eq, au_lt0, au_ge0, au_le0, au_gt0, au_eq0, au_leT, au_leF, au_ltT, au_ltF, au_eqT, au_eqF, nI_clamp, nI_1, nI_add, pk_mul, au_sub1, au_subc, au_up2e, au_up2n, lit_of]
          exact ihn _ (by omega) rfl
  have k1 : ∀ f i, i + f = p.length → (AW (d + 2) ((G0 Ln).1, (G0 Ln).2.1) K 46 4 [.ref q, .int (nI ak), .int (nI (ltU (p.take i))), .int (nI i), nv, nv, nv] [] (G0 Ln) I J ↔ K (some (.int (bestI (chs (chA ak p) p 12).1))) (G0 Ln) I J) := by
    intro f
    induction f with
    | zero =>
      intro i hi
      have e : i = p.length := by omega
      subst e
      rw [List.take_length]
      have hand : ltU p &&& ak < 2 ^ 31 := Nat.lt_of_le_of_lt Nat.and_le_left (by omega)
      simp (disch := omega) only [aw_iload_3 (pc2 := 5) D46_4 rfl, aw_aload_0 (pc2 := 6) D46_5 rfl, aw_getI (pc2 := 9) (ci := 2) (fk := 6) D46_6 rfl fT_2_31 rfl, aw_icmp_ge (pc2 := 12) (t := 30) D46_9 (by decide) rfl, aw_iload_2 (pc2 := 31) D46_30 rfl, aw_iload_1 (pc2 := 32) D46_31 rfl, aw_iand (pc2 := 33) D46_32 rfl, aw_if_eq (pc2 := 36) (t := 40) D46_33 (by decide) rfl, lit_12, refV_s, refV_n, psh_s, psh_n, kil_i, kil_r, kil_n, kil_l, cat_i, cat_r, iOK_1, iOK_5, jOK_2, jOK_6, wOK_e, lOK_1, lOK_2, lOK_3, lOK_4, lOK_5, lOK_6, catS_0, catS_1, catS_2, catS_3, catS_4, and_self, true_and, and_true, true_or, or_true, false_or, or_false, not_true_eq_false, not_false_eq_true, if_true, if_false, ite_int, ite_int0, au_10, eq_self, decide_true, decide_false, Bool.true_and, Bool.false_and, au_in, au_le, au_lt, au_eq, au_lt0, au_ge0, au_le0, au_gt0, au_eq0, au_leT, au_leF, au_ltT, au_ltF, au_eqT, au_eqF, nI_clamp, nI_1, nI_add, pk_mul, au_sub1, au_subc, au_up2e, au_up2n, lit_of, hq.2.1.1, hq.2.1.2.1, hq.2.1.2.2.1, hq.2.1.2.2.2.1, hq.2.1.2.2.2.2.1, hq.2.1.2.2.2.2.2, hq.2.2.1, hq.2.2.2.1, hq.2.2.2.2.1, hq.2.2.2.2.2.1, hq.2.2.2.2.2.2, h6, fa_and]
      have k20 := k2 12 0 nv (by omega) rfl
      by_cases hz : ltU p &&& ak = 0
      · rw [if_pos hz]
        have e : chA ak p = ltU p := by unfold chA; rw [if_pos hz]
        rw [e] at k20 ⊢
        simp (disch := omega) only [aw_iconst (pc2 := 41) (y := 0) D46_40 rfl (by decide), aw_istore_3 (pc2 := 42) D46_41 rfl, aw_iconst (pc2 := 43) (y := 0) D46_42 rfl (by decide), aw_istore_4 (pc2 := 45) D46_43 rfl, aw_iconst (pc2 := 46) (y := 1) D46_45 rfl (by decide), aw_istore_5 (pc2 := 48) D46_46 rfl, lit_12, refV_s, refV_n, psh_s, psh_n, kil_i, kil_r, kil_n, kil_l, cat_i, cat_r, iOK_1, iOK_5, jOK_2, jOK_6, wOK_e, lOK_1, lOK_2, lOK_3, lOK_4, lOK_5, lOK_6, catS_0, catS_1, catS_2, catS_3, catS_4, and_self, true_and, and_true, true_or, or_true, false_or, or_false, not_true_eq_false, not_false_eq_true, if_true, if_false, ite_int, ite_int0, au_10, eq_self, decide_true, decide_false, Bool.true_and, Bool.false_and, au_in, au_le, au_lt, au_eq, au_lt0, au_ge0, au_le0, au_gt0, au_eq0, au_leT, au_leF, au_ltT, au_ltF, au_eqT, au_eqF, nI_clamp, nI_1, nI_add, pk_mul, au_sub1, au_subc, au_up2e, au_up2n, lit_of]
        exact k20
      · rw [if_neg hz]
        have e : chA ak p = ltU p &&& ak := by unfold chA; rw [if_neg hz]
        rw [e] at k20 ⊢
        simp (disch := omega) only [aw_iload_2 (pc2 := 37) D46_36 rfl, aw_iload_1 (pc2 := 38) D46_37 rfl, aw_iand (pc2 := 39) D46_38 rfl, aw_istore_2 (pc2 := 40) D46_39 rfl, aw_iconst (pc2 := 41) (y := 0) D46_40 rfl (by decide), aw_istore_3 (pc2 := 42) D46_41 rfl, aw_iconst (pc2 := 43) (y := 0) D46_42 rfl (by decide), aw_istore_4 (pc2 := 45) D46_43 rfl, aw_iconst (pc2 := 46) (y := 1) D46_45 rfl (by decide), aw_istore_5 (pc2 := 48) D46_46 rfl, lit_12, refV_s, refV_n, psh_s, psh_n, kil_i, kil_r, kil_n, kil_l, cat_i, cat_r, iOK_1, iOK_5, jOK_2, jOK_6, wOK_e, lOK_1, lOK_2, lOK_3, lOK_4, lOK_5, lOK_6, catS_0, catS_1, catS_2, catS_3, catS_4, and_self, true_and, and_true, true_or, or_true, false_or, or_false, not_true_eq_false, not_false_eq_true, if_true, if_false, ite_int, ite_int0, au_10, eq_self, decide_true, decide_false, Bool.true_and, Bool.false_and, au_in, au_le, au_lt, au_eq, au_lt0, au_ge0, au_le0, au_gt0, au_eq0, au_leT, au_leF, au_ltT, au_ltF, au_eqT, au_eqF, nI_clamp, nI_1, nI_add, pk_mul, au_sub1, au_subc, au_up2e, au_up2n, lit_of, fa_and]
        exact k20
    | succ f ih =>
      intro i hi
      have hil : i < p.length := by omega
      have ihn := ih (i + 1) (by omega)
      rw [ltU_snoc hil] at ihn
      rw [aw_iload_3 (pc2 := 5) D46_4 rfl]
      simp (disch := omega) only [aw_aload_0 (pc2 := 6) D46_5 rfl, aw_getI (pc2 := 9) (ci := 2) (fk := 6) D46_6 rfl fT_2_31 rfl, aw_icmp_ge (pc2 := 12) (t := 30) D46_9 (by decide) rfl, aw_iload_2 (pc2 := 13) D46_12 rfl, aw_aload_0 (pc2 := 14) D46_13 rfl, aw_getR (pc2 := 17) (ci := 2) (fk := 2) D46_14 rfl fT_2_18 rfl, aw_iload_3 (pc2 := 18) D46_17 rfl, aw_iaload (pc2 := 19) D46_18 rfl, aw_is1_3 (pc2 := 22) D46_19 rfl cT_2_69 rfl, aw_ior (pc2 := 23) D46_22 rfl, aw_istore_2 (pc2 := 24) D46_23 rfl, aw_iinc_3 (pc2 := 27) (y := 1) D46_24 rfl (by decide), aw_goto (t := 4) D46_27 (by decide), lit_12, refV_s, refV_n, psh_s, psh_n, kil_i, kil_r, kil_n, kil_l, cat_i, cat_r, iOK_1, iOK_5, jOK_2, jOK_6, wOK_e, lOK_1, lOK_2, lOK_3, lOK_4, lOK_5, lOK_6, catS_0, catS_1, catS_2, catS_3, catS_4, and_self, true_and, and_true, true_or, or_true, false_or, or_false, not_true_eq_false, not_false_eq_true, if_true, if_false, ite_int, ite_int0, au_10, eq_self, decide_true, decide_false, Bool.true_and, Bool.false_and, au_in, au_le, au_lt, au_eq, au_lt0, au_ge0, au_le0, au_gt0, au_eq0, au_leT, au_leF, au_ltT, au_ltF, au_eqT, au_eqF, nI_clamp, nI_1, nI_add, pk_mul, au_sub1, au_subc, au_up2e, au_up2n, lit_of, hq.2.1.1, hq.2.1.2.1, hq.2.1.2.2.1, hq.2.1.2.2.2.1, hq.2.1.2.2.2.2.1, hq.2.1.2.2.2.2.2, hq.2.2.1, hq.2.2.2.1, hq.2.2.2.2.1, hq.2.2.2.2.2.1, hq.2.2.2.2.2.2, h6, lsA_0 h3 hil, C_lettersOf, letC_nI (hp.2 _ (getD_mem hil)).1, fa_or]
      exact ihn
  exact k1 p.length 0 (by omega)
end Level3
