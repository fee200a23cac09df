section Level2
variable {d Ln q : Nat} {I : IT} {J : JT} {K : KT}
theorem mkI_in {o : Option Nat} {n : Nat} (h : o ≠ some n) (hn : n < 2 ^ 31) (ho : ∀ j, o = some j → j < 2 ^ 31) : (mkI o = nI n) = False := by
  refine eq_false (fun e => ?_)
  cases o with
  | none =>
    have : nI n = -1 := e.symm
    rw [au_m1 hn] at this
    exact this
  | some j => exact h (by rw [(nI_eq (ho j rfl) hn).mp e])
theorem nz_of {l : List Nat} (hl : ∀ c, c ∈ l → clC c) (h2 : ∀ c, c ∈ l → 2 ≤ pc24 c) : ∀ c, c ∈ l → ltN c ≠ 0 := by
  intro c hc h0
  have hp : 0 < fb_ct (fun k => c.testBit k) 24 := by have := h2 c hc; show 0 < pc24 c; omega
  obtain ⟨k, hk, hb⟩ := fb_ct_pos.mp hp
  have hb : c.testBit k = true := hb
  by_cases h12 : k < 12
  · have := lt_bit (c := c) h12
    rw [h0, hb, Nat.zero_testBit] at this
    simp at this
  · have := lt_bit (c := c) (show k - 12 < 12 by omega)
    rw [h0, show 12 + (k - 12) = k by omega, hb, Nat.zero_testBit] at this
    simp at this
theorem spread_fin {l : List Nat} {m : Nat → Option Nat} {n k L : Nat} {w : Nat → Int32} (hm : mkOK l m n k) (hk : k < l.length) (hmk : m k = none) (hA : ∀ j, (ltN (l.getD k 0)).testBit j = true → L.testBit j = true) (hC : ∀ j, L.testBit j = true → cloP (selL l (fun i => isN (m i))) (ltN (l.getD k 0)) j) (hw : ∀ j, j < l.length → w j = mkI (m j) ∨ (w j = nI n ∧ k ≤ j ∧ ∃ z, (ltN (l.getD j 0)).testBit z = true ∧ L.testBit z = true)) (hfin : ∀ j, k ≤ j → j < l.length → (∃ z, (ltN (l.getD j 0)).testBit z = true ∧ L.testBit z = true) → w j = nI n ∧ ∀ z, (ltN (l.getD j 0)).testBit z = true → L.testBit z = true) : ∀ i, i < l.length → w i = mkI (mkN l m n k i) := by
  have hUk : l.getD k 0 ∈ selL l (fun i => isN (m i)) := selL_mem.mpr ⟨k, hk, isN_iff.mpr hmk, rfl⟩
  have haU : ∀ j, (ltN (l.getD k 0)).testBit j = true → (ltU (selL l (fun i => isN (m i)))).testBit j = true := fun j hj => ltU_mem.mpr ⟨_, hUk, hj⟩
  have hge : ∀ i, i < l.length → m i = none → k ≤ i := fun i hi e => by
    by_cases q : k ≤ i
    · exact q
    · exact absurd e (hm.1 i (by omega) hi)
  have hcl : cloD (selL l (fun i => isN (m i))) L := fun c hc hs => by
    obtain ⟨i, hi, hn, e⟩ := selL_mem.mp hc
    rw [← e] at hs ⊢
    exact (hfin i (hge i hi (isN_iff.mp hn)) hi hs).2
  intro i hi
  cases e : m i with
  | none =>
    by_cases hs : shr (selL l (fun i => isN (m i))) (ltN (l.getD k 0)) (l.getD i 0) = true
    · obtain ⟨z, h1, h2⟩ := shr_iff.mp hs
      rw [(hfin i (hge i hi e) hi ⟨z, h1, h2 L hcl hA⟩).1]
      unfold mkN
      rw [if_pos ⟨e, hs⟩]
      rfl
    · have hx : mkN l m n k i = m i := by
        unfold mkN
        rw [if_neg (fun z => hs z.2)]
      rw [hx]
      rcases hw i hi with h | ⟨-, -, z, h1, h2⟩
      · exact h
      · exact absurd (shr_iff.mpr ⟨z, h1, hC z h2⟩) hs
  | some j =>
    have hx : mkN l m n k i = m i := by
      unfold mkN
      rw [if_neg (fun z => by rw [e] at z; cases z.1)]
    rw [hx]
    rcases hw i hi with h | ⟨-, -, z, h1, h2⟩
    · exact h
    · obtain ⟨c, hc, hz⟩ := ltU_mem.mp (cloP_sub haU (hC z h2))
      obtain ⟨i', hi', hn, e'⟩ := selL_mem.mp hc
      rw [← e'] at hz
      exact absurd ⟨h1, hz⟩ (hm.2.2.1 i i' hi hi' (by rw [e]; exact fun q => by cases q) (isN_iff.mp hn) z)
theorem sup_lt {a b : Nat} (ha : a < 4096) (hb : b < 4096) (h : ∀ z, a.testBit z = true → b.testBit z = true) (hne : b ≠ a) : fb_ct (fun i => a.testBit i) 12 + 1 ≤ fb_ct (fun i => b.testBit i) 12 := by
  have : ∃ z, a.testBit z = false ∧ b.testBit z = true := by
    by_cases q : ∃ z, a.testBit z = false ∧ b.testBit z = true
    · exact q
    · exfalso
      refine hne (Nat.eq_of_testBit_eq (fun z => ?_))
      cases e1 : a.testBit z
      · cases e2 : b.testBit z
        · rfl
        · exact absurd ⟨z, e1, e2⟩ q
      · exact h z e1
  obtain ⟨z, h1, h2⟩ := this
  have hz : z < 12 := by
    by_cases q : z < 12
    · exact q
    · rw [Nat.testBit_lt_two_pow (Nat.lt_of_lt_of_le (show b < 2 ^ 12 from hb) (Nat.pow_le_pow_right (by decide) (by omega)))] at h2
      cases h2
  exact ct_less hz (fun i _ hi => h i hi) h1 h2
theorem C_spread {l : List Nat} {m : Nat → Option Nat} {n k : Nat} (hq : LF Ln q) (hl : lsOK l) (hz : ∀ c, c ∈ l → ltN c ≠ 0) (hm : mkOK l m n k) (hk : k < l.length) (hmk : m k = none) (hn : n < 2 ^ 20) (h5 : I q 5 = nI l.length) (h1 : lsA (q + 1) 0 l I) (h2 : ∀ i, i < l.length → I (q + 2) i = mkI (m i)) (hK : ∀ I', (∀ a, a ≠ q + 2 → I' a = I a) → (∀ i, i < l.length → I' (q + 2) i = mkI (mkN l m n k i)) → K none (G0 Ln) I' J) : ACall (d + 2) 43 [.ref q, .int (nI k), .int (nI n)] (G0 Ln) I J K := by
  rw [ACall_0 (L0 := [.ref q, .int (nI k), .int (nI n), nv, nv, nv, nv]) (show mcs 43 = (0, 0) from rfl) (show entL 43 [.ref q, .int (nI k), .int (nI n)] = _ from rfl) rfl (Nat.le_of_ble_eq_true rfl)]
  have h40 := hl.1
  have hlet : ∀ i, i < l.length → letC (nI (l.getD i 0)) = nI (ltN (l.getD i 0)) := fun i hi => letC_nI (hl.2 _ (getD_mem hi)).1
  have hlt : ∀ i, ltN (l.getD i 0) < 4096 := fun i => ltN_lt _
  have hkz := hz _ (getD_mem hk)
  simp (disch := omega) only [aw_aload_0 (pc2 := 1) D43_0 rfl, aw_getR (pc2 := 4) (ci := 2) (fk := 0) D43_1 rfl fT_2_9 rfl, aw_iload_1 (pc2 := 5) D43_4 rfl, aw_iaload (pc2 := 6) D43_5 rfl, aw_is1_3 (pc2 := 9) D43_6 rfl cT_2_69 rfl, aw_istore_3 (pc2 := 10) D43_9 rfl, aw_iconst (pc2 := 11) (y := 0) D43_10 rfl (by decide), aw_istore_4 (pc2 := 13) D43_11 rfl, aw_iconst (pc2 := 14) (y := 0) D43_13 rfl (by decide), aw_istore_5 (pc2 := 16) D43_14 rfl, lit_12, refV_s, refV_n, psh_s, psh_n, kil_i, kil_r, kil_n, kil_l, cat_i, cat_r, iOK_1, iOK_5, jOK_2, jOK_6, wOK_e, lOK_1, lOK_2, lOK_3, lOK_4, lOK_5, lOK_6, catS_0, catS_1, catS_2, catS_3, catS_4, and_self, true_and, and_true, true_or, or_true, false_or, or_false, not_true_eq_false, not_false_eq_true, if_true, if_false, ite_int, ite_int0, au_10, eq_self, decide_true, decide_false, Bool.true_and, Bool.false_and, au_in, au_le, au_lt, au_eq, au_lt0, au_ge0, au_le0, au_gt0, au_eq0, au_leT, au_leF, au_ltT, au_ltF, au_eqT, au_eqF, nI_clamp, nI_1, nI_add, pk_mul, au_sub1, au_subc, au_up2e, au_up2n, lit_of, hq.2.1.1, hq.2.1.2.1, hq.2.1.2.2.1, hq.2.1.2.2.2.1, hq.2.1.2.2.2.2.1, hq.2.1.2.2.2.2.2, hq.2.2.1, hq.2.2.2.1, hq.2.2.2.2.1, hq.2.2.2.2.2.1, hq.2.2.2.2.2.2, lsA_0 h1 hk, C_lettersOf, hlet k hk]
  have head : ∀ f t L Bf I' v6, t + f = 13 → kil v6 = v6 → L < 4096 → Bf < 4096 → (L ≠ Bf → t + 1 ≤ fb_ct (fun i => L.testBit i) 12) → (∀ j, (ltN (l.getD k 0)).testBit j = true → L.testBit j = true) → (∀ j, L.testBit j = true → cloP (selL l (fun i => isN (m i))) (ltN (l.getD k 0)) j) → (∀ a, a ≠ q + 2 → I' a = I a) → (∀ j, j < l.length → I' (q + 2) j = mkI (m j) ∨ (I' (q + 2) j = nI n ∧ k ≤ j ∧ ∃ z, (ltN (l.getD j 0)).testBit z = true ∧ L.testBit z = true)) → (L = Bf → ∀ j, k ≤ j → j < l.length → (∃ z, (ltN (l.getD j 0)).testBit z = true ∧ L.testBit z = true) → I' (q + 2) j = nI n ∧ ∀ z, (ltN (l.getD j 0)).testBit z = true → L.testBit z = true) → AW (d + 1) ((G0 Ln).1, (G0 Ln).2.1) K 43 16 [.ref q, .int (nI k), .int (nI n), .int (nI L), .int (nI Bf), .int (nI t), v6] [] (G0 Ln) I' J := by
    intro f
    induction f with
    | zero =>
      intro t L Bf I' v6 ht k6 hL hB hct hA hC ho hw hfin
      have hle := fb_ct_le (fun i => L.testBit i) 12
      have e : L = Bf := by
        by_cases e : L = Bf
        · exact e
        · have := hct e; omega
      have et : t = 13 := by omega
      rw [et]
      simp (disch := omega) only [aw_iload_5 (pc2 := 18) D43_16 rfl, aw_bipush (pc2 := 20) (y := 12) D43_18 rfl (by decide), aw_icmp_gt (pc2 := 23) (t := 92) D43_20 (by decide) rfl, aw_vret D43_92 rfl, lit_12, refV_s, refV_n, psh_s, psh_n, kil_i, kil_r, kil_n, kil_l, cat_i, cat_r, iOK_1, iOK_5, jOK_2, jOK_6, wOK_e, lOK_1, lOK_2, lOK_3, lOK_4, lOK_5, lOK_6, catS_0, catS_1, catS_2, catS_3, catS_4, and_self, true_and, and_true, true_or, or_true, false_or, or_false, not_true_eq_false, not_false_eq_true, if_true, if_false, ite_int, ite_int0, au_10, eq_self, decide_true, decide_false, Bool.true_and, Bool.false_and, au_in, au_le, au_lt, au_eq, au_lt0, au_ge0, au_le0, au_gt0, au_eq0, au_leT, au_leF, au_ltT, au_ltF, au_eqT, au_eqF, nI_clamp, nI_1, nI_add, pk_mul, au_sub1, au_subc, au_up2e, au_up2n, lit_of]
      exact hK I' ho (spread_fin hm hk hmk hA hC hw (hfin e))
    | succ f ih =>
      intro t L Bf I' v6 ht k6 hL hB hct hA hC ho hw hfin
      rw [aw_iload_5 (pc2 := 18) D43_16 rfl]
      simp (disch := omega) only [aw_bipush (pc2 := 20) (y := 12) D43_18 rfl (by decide), aw_icmp_gt (pc2 := 23) (t := 92) D43_20 (by decide) rfl, aw_iload_3 (pc2 := 24) D43_23 rfl, aw_iload_4 (pc2 := 26) D43_24 rfl, aw_icmp_eq (pc2 := 29) (t := 92) D43_26 (by decide) rfl, lit_12, refV_s, refV_n, psh_s, psh_n, kil_i, kil_r, kil_n, kil_l, cat_i, cat_r, iOK_1, iOK_5, jOK_2, jOK_6, wOK_e, lOK_1, lOK_2, lOK_3, lOK_4, lOK_5, lOK_6, catS_0, catS_1, catS_2, catS_3, catS_4, and_self, true_and, and_true, true_or, or_true, false_or, or_false, not_true_eq_false, not_false_eq_true, if_true, if_false, ite_int, ite_int0, au_10, eq_self, decide_true, decide_false, Bool.true_and, Bool.false_and, au_in, au_le, au_lt, au_eq, au_lt0, au_ge0, au_le0, au_gt0, au_eq0, au_leT, au_leF, au_ltT, au_ltF, au_eqT, au_eqF, nI_clamp, nI_1, nI_add, pk_mul, au_sub1, au_subc, au_up2e, au_up2n, lit_of]
      by_cases e : L = Bf
      · rw [if_pos e]
        simp (disch := omega) only [aw_vret D43_92 rfl, lit_12, refV_s, refV_n, psh_s, psh_n, kil_i, kil_r, kil_n, kil_l, cat_i, cat_r, iOK_1, iOK_5, jOK_2, jOK_6, wOK_e, lOK_1, lOK_2, lOK_3, lOK_4, lOK_5, lOK_6, catS_0, catS_1, catS_2, catS_3, catS_4, and_self, true_and, and_true, true_or, or_true, false_or, or_false, not_true_eq_false, not_false_eq_true, if_true, if_false, ite_int, ite_int0, au_10, eq_self, decide_true, decide_false, Bool.true_and, Bool.false_and, au_in, au_le, au_lt, au_eq, au_lt0, au_ge0, au_le0, au_gt0, au_eq0, au_leT, au_leF, au_ltT, au_ltF, au_eqT, au_eqF, nI_clamp, nI_1, nI_add, pk_mul, au_sub1, au_subc, au_up2e, au_up2n, lit_of]
        exact hK I' ho (spread_fin hm hk hmk hA hC hw (hfin e))
      · rw [if_neg e]
        have hct := hct e
        simp (disch := omega) only [aw_iload_3 (pc2 := 30) D43_29 rfl, aw_istore_4 (pc2 := 32) D43_30 rfl, aw_iload_1 (pc2 := 33) D43_32 rfl, aw_istore_6 (pc2 := 35) D43_33 rfl, lit_12, refV_s, refV_n, psh_s, psh_n, kil_i, kil_r, kil_n, kil_l, cat_i, cat_r, iOK_1, iOK_5, jOK_2, jOK_6, wOK_e, lOK_1, lOK_2, lOK_3, lOK_4, lOK_5, lOK_6, catS_0, catS_1, catS_2, catS_3, catS_4, and_self, true_and, and_true, true_or, or_true, false_or, or_false, not_true_eq_false, not_false_eq_true, if_true, if_false, ite_int, ite_int0, au_10, eq_self, decide_true, decide_false, Bool.true_and, Bool.false_and, au_in, au_le, au_lt, au_eq, au_lt0, au_ge0, au_le0, au_gt0, au_eq0, au_leT, au_leF, au_ltT, au_ltF, au_eqT, au_eqF, nI_clamp, nI_1, nI_add, pk_mul, au_sub1, au_subc, au_up2e, au_up2n, lit_of, k6]
        have inner : ∀ f2 i L2 I2, i + f2 = l.length → k ≤ i → L2 < 4096 → (∀ z, L.testBit z = true → L2.testBit z = true) → (∀ j, L2.testBit j = true → cloP (selL l (fun i => isN (m i))) (ltN (l.getD k 0)) j) → (∀ a, a ≠ q + 2 → I2 a = I a) → (∀ j, j < l.length → I2 (q + 2) j = mkI (m j) ∨ (I2 (q + 2) j = nI n ∧ k ≤ j ∧ ∃ z, (ltN (l.getD j 0)).testBit z = true ∧ L2.testBit z = true)) → (∀ j, k ≤ j → j < i → (∃ z, (ltN (l.getD j 0)).testBit z = true ∧ L.testBit z = true) → I2 (q + 2) j = nI n ∧ ∀ z, (ltN (l.getD j 0)).testBit z = true → L2.testBit z = true) → AW (d + 1) ((G0 Ln).1, (G0 Ln).2.1) K 43 35 [.ref q, .int (nI k), .int (nI n), .int (nI L2), .int (nI L), .int (nI t), .int (nI i)] [] (G0 Ln) I2 J := by
          intro f2
          induction f2 with
          | zero =>
            intro i L2 I2 hi hki hL2 hsub hC2 ho2 hw2 hD
            have ei : i = l.length := by omega
            subst ei
            simp (disch := omega) only [aw_iload_6 (pc2 := 37) D43_35 rfl, aw_aload_0 (pc2 := 38) D43_37 rfl, aw_getI (pc2 := 41) (ci := 2) (fk := 5) D43_38 rfl fT_2_27 rfl, aw_icmp_ge (pc2 := 44) (t := 86) D43_41 (by decide) rfl, aw_iinc_5 (pc2 := 89) (y := 1) D43_86 rfl (by decide), aw_goto (t := 16) D43_89 (by decide), lit_12, refV_s, refV_n, psh_s, psh_n, kil_i, kil_r, kil_n, kil_l, cat_i, cat_r, iOK_1, iOK_5, jOK_2, jOK_6, wOK_e, lOK_1, lOK_2, lOK_3, lOK_4, lOK_5, lOK_6, catS_0, catS_1, catS_2, catS_3, catS_4, and_self, true_and, and_true, true_or, or_true, false_or, or_false, not_true_eq_false, not_false_eq_true, if_true, if_false, ite_int, ite_int0, au_10, eq_self, decide_true, decide_false, Bool.true_and, Bool.false_and, au_in, au_le, au_lt, au_eq, au_lt0, au_ge0, au_le0, au_gt0, au_eq0, au_leT, au_leF, au_ltT, au_ltF, au_eqT, au_eqF, nI_clamp, nI_1, nI_add, pk_mul, au_sub1, au_subc, au_up2e, au_up2n, lit_of, hq.2.1.1, hq.2.1.2.1, hq.2.1.2.2.1, hq.2.1.2.2.2.1, hq.2.1.2.2.2.2.1, hq.2.1.2.2.2.2.2, hq.2.2.1, hq.2.2.2.1, hq.2.2.2.2.1, hq.2.2.2.2.2.1, hq.2.2.2.2.2.2, ho2 q (by omega), h5]
            refine ih (t + 1) L2 L I2 _ (by omega) rfl hL2 hL (fun hne => ?_) (fun j hj => hsub j (hA j hj)) hC2 ho2 hw2 (fun e2 j hj hjl hs => ?_)
            · have := sup_lt hL hL2 hsub hne; omega
            · rw [e2] at hs
              exact hD j hj hjl hs
          | succ f2 ihf =>
            intro i L2 I2 hi hki hL2 hsub hC2 ho2 hw2 hD
            have hil : i < l.length := by omega
            have hli : I2 (q + 1) i = nI (l.getD i 0) := by rw [ho2 (q + 1) (by omega)]; exact lsA_0 h1 hil
            have hlti := hlt i
            have hand : ltN (l.getD i 0) &&& L2 < 2 ^ 31 := Nat.lt_of_le_of_lt Nat.and_le_left (by omega)
            rw [aw_iload_6 (pc2 := 37) D43_35 rfl]
            simp (disch := omega) only [aw_aload_0 (pc2 := 38) D43_37 rfl, aw_getI (pc2 := 41) (ci := 2) (fk := 5) D43_38 rfl fT_2_27 rfl, aw_icmp_ge (pc2 := 44) (t := 86) D43_41 (by decide) rfl, aw_aload_0 (pc2 := 45) D43_44 rfl, aw_getR (pc2 := 48) (ci := 2) (fk := 0) D43_45 rfl fT_2_9 rfl, aw_iload_6 (pc2 := 50) D43_48 rfl, aw_iaload (pc2 := 51) D43_50 rfl, aw_is1_3 (pc2 := 54) D43_51 rfl cT_2_69 rfl, aw_iload_3 (pc2 := 55) D43_54 rfl, aw_iand (pc2 := 56) D43_55 rfl, aw_if_eq (pc2 := 59) (t := 80) D43_56 (by decide) rfl, lit_12, refV_s, refV_n, psh_s, psh_n, kil_i, kil_r, kil_n, kil_l, cat_i, cat_r, iOK_1, iOK_5, jOK_2, jOK_6, wOK_e, lOK_1, lOK_2, lOK_3, lOK_4, lOK_5, lOK_6, catS_0, catS_1, catS_2, catS_3, catS_4, and_self, true_and, and_true, true_or, or_true, false_or, or_false, not_true_eq_false, not_false_eq_true, if_true, if_false, ite_int, ite_int0, au_10, eq_self, decide_true, decide_false, Bool.true_and, Bool.false_and, au_in, au_le, au_lt, au_eq, au_lt0, au_ge0, au_le0, au_gt0, au_eq0, au_leT, au_leF, au_ltT, au_ltF, au_eqT, au_eqF, nI_clamp, nI_1, nI_add, pk_mul, au_sub1, au_subc, au_up2e, au_up2n, lit_of, hq.2.1.1, hq.2.1.2.1, hq.2.1.2.2.1, hq.2.1.2.2.2.1, hq.2.1.2.2.2.2.1, hq.2.1.2.2.2.2.2, hq.2.2.1, hq.2.2.2.1, hq.2.2.2.2.1, hq.2.2.2.2.2.1, hq.2.2.2.2.2.2, ho2 q (by omega), h5, hli, C_lettersOf, hlet i hil, fa_and]
            by_cases hs : ltN (l.getD i 0) &&& L2 = 0
            · rw [if_pos hs]
              simp (disch := omega) only [aw_iinc_6 (pc2 := 83) (y := 1) D43_80 rfl (by decide), aw_goto (t := 35) D43_83 (by decide), lit_12, refV_s, refV_n, psh_s, psh_n, kil_i, kil_r, kil_n, kil_l, cat_i, cat_r, iOK_1, iOK_5, jOK_2, jOK_6, wOK_e, lOK_1, lOK_2, lOK_3, lOK_4, lOK_5, lOK_6, catS_0, catS_1, catS_2, catS_3, catS_4, and_self, true_and, and_true, true_or, or_true, false_or, or_false, not_true_eq_false, not_false_eq_true, if_true, if_false, ite_int, ite_int0, au_10, eq_self, decide_true, decide_false, Bool.true_and, Bool.false_and, au_in, au_le, au_lt, au_eq, au_lt0, au_ge0, au_le0, au_gt0, au_eq0, au_leT, au_leF, au_ltT, au_ltF, au_eqT, au_eqF, nI_clamp, nI_1, nI_add, pk_mul, au_sub1, au_subc, au_up2e, au_up2n, lit_of]
              refine ihf (i + 1) L2 I2 (by omega) (by omega) hL2 hsub hC2 ho2 hw2 (fun j hj hj2 hsh => ?_)
              by_cases ej : j = i
              · subst ej
                obtain ⟨z, z1, z2⟩ := hsh
                exact absurd hs (and_ne0.mpr ⟨z, z1, hsub z z2⟩)
              · exact hD j hj (by omega) hsh
            · rw [if_neg hs]
              obtain ⟨z0, y1, y2⟩ := and_ne0.mp hs
              simp (disch := omega) only [aw_aload_0 (pc2 := 60) D43_59 rfl, aw_getR (pc2 := 63) (ci := 2) (fk := 1) D43_60 rfl fT_2_15 rfl, aw_iload_6 (pc2 := 65) D43_63 rfl, aw_iload_2 (pc2 := 66) D43_65 rfl, aw_iastore (pc2 := 67) D43_66 rfl, aw_iload_3 (pc2 := 68) D43_67 rfl, aw_aload_0 (pc2 := 69) D43_68 rfl, aw_getR (pc2 := 72) (ci := 2) (fk := 0) D43_69 rfl fT_2_9 rfl, aw_iload_6 (pc2 := 74) D43_72 rfl, aw_iaload (pc2 := 75) D43_74 rfl, aw_is1_3 (pc2 := 78) D43_75 rfl cT_2_69 rfl, aw_ior (pc2 := 79) D43_78 rfl, aw_istore_3 (pc2 := 80) D43_79 rfl, aw_iinc_6 (pc2 := 83) (y := 1) D43_80 rfl (by decide), aw_goto (t := 35) D43_83 (by decide), lit_12, refV_s, refV_n, psh_s, psh_n, kil_i, kil_r, kil_n, kil_l, cat_i, cat_r, iOK_1, iOK_5, jOK_2, jOK_6, wOK_e, lOK_1, lOK_2, lOK_3, lOK_4, lOK_5, lOK_6, catS_0, catS_1, catS_2, catS_3, catS_4, and_self, true_and, and_true, true_or, or_true, false_or, or_false, not_true_eq_false, not_false_eq_true, if_true, if_false, ite_int, ite_int0, au_10, eq_self, decide_true, decide_false, Bool.true_and, Bool.false_and, au_in, au_le, au_lt, au_eq, au_lt0, au_ge0, au_le0, au_gt0, au_eq0, au_leT, au_leF, au_ltT, au_ltF, au_eqT, au_eqF, nI_clamp, nI_1, nI_add, pk_mul, au_sub1, au_subc, au_up2e, au_up2n, lit_of, hq.2.1.1, hq.2.1.2.1, hq.2.1.2.2.1, hq.2.1.2.2.2.1, hq.2.1.2.2.2.2.1, hq.2.1.2.2.2.2.2, hq.2.2.1, hq.2.2.2.1, hq.2.2.2.2.1, hq.2.2.2.2.2.1, hq.2.2.2.2.2.2, hli, C_lettersOf, hlet i hil, fa_or]
              have hor : ∀ z, (L2 ||| ltN (l.getD i 0)).testBit z = true ↔ L2.testBit z = true ∨ (ltN (l.getD i 0)).testBit z = true := fun z => by rw [Nat.testBit_or, Bool.or_eq_true]
              have hmi : m i = none := by
                cases em : m i with
                | none => rfl
                | some j' =>
                  have hUk : l.getD k 0 ∈ selL l (fun i => isN (m i)) := selL_mem.mpr ⟨k, hk, isN_iff.mpr hmk, rfl⟩
                  obtain ⟨c, hc, hzc⟩ := ltU_mem.mp (cloP_sub (fun j hj => ltU_mem.mpr ⟨_, hUk, hj⟩) (hC2 z0 y2))
                  obtain ⟨i', hi', hn', e'⟩ := selL_mem.mp hc
                  rw [← e'] at hzc
                  exact absurd ⟨y1, hzc⟩ (hm.2.2.1 i i' hil hi' (by rw [em]; exact fun q => by cases q) (isN_iff.mp hn') z0)
              have hUi : l.getD i 0 ∈ selL l (fun i => isN (m i)) := selL_mem.mpr ⟨i, hil, isN_iff.mpr hmi, rfl⟩
              refine ihf (i + 1) _ _ (by omega) (by omega) (Nat.or_lt_two_pow (n := 12) hL2 hlti) (fun z hz2 => (hor z).mpr (Or.inl (hsub z hz2))) (fun j hj => ?_) (fun a ha => by rw [up2_off ha]; exact ho2 a ha) (fun j hj => ?_) (fun j hj hj2 hsh => ?_)
              · rcases (hor j).mp hj with h | h
                · exact hC2 j h
                · exact cloP_step hUi ⟨z0, y1, hC2 z0 y2⟩ h
              · by_cases ej : j = i
                · subst ej
                  exact Or.inr ⟨au_up2, hki, z0, y1, (hor z0).mpr (Or.inl y2)⟩
                · rw [au_up2k ej]
                  rcases hw2 j hj with h | ⟨h1', h2', z, h3', h4'⟩
                  · exact Or.inl h
                  · exact Or.inr ⟨h1', h2', z, h3', (hor z).mpr (Or.inl h4')⟩
              · by_cases ej : j = i
                · subst ej
                  exact ⟨au_up2, fun z hz2 => (hor z).mpr (Or.inr hz2)⟩
                · rw [au_up2k ej]
                  obtain ⟨a1, a2⟩ := hD j hj (by omega) hsh
                  exact ⟨a1, fun z hz2 => (hor z).mpr (Or.inl (a2 z hz2))⟩
        exact inner (l.length - k) k L I' (by omega) (Nat.le_refl _) hL (fun _ h => h) hC ho hw (fun j hj hj2 => by omega)
  have hpos : 1 ≤ fb_ct (fun i => (ltN (l.getD k 0)).testBit i) 12 := by
    obtain ⟨i, hi⟩ := ne0_bit hkz
    exact fb_ct_pos.mpr ⟨i, ltN_12 hi, hi⟩
  exact head 13 0 (ltN (l.getD k 0)) 0 I nv (by omega) rfl (hlt k) (by omega) (fun _ => by omega) (fun _ h => h) (fun j hj => cloP_of hj) (fun _ _ => rfl) (fun j hj => Or.inl (h2 j hj)) (fun e => absurd e hkz)
theorem C_markPieces {l : List Nat} (hq : LF Ln q) (hl : lsOK l) (hz : ∀ c, c ∈ l → ltN c ≠ 0) (h5 : I q 5 = nI l.length) (h1 : lsA (q + 1) 0 l I) (hK : ∀ I' m, (∀ a, a ≠ q + 2 → I' a = I a) → mkOK l m (pcs l.length l).length l.length → (∀ i, i < l.length → I' (q + 2) i = mkI (m i)) → K (some (.int (nI (pcs l.length l).length))) (G0 Ln) I' J) : ACall (d + 3) 42 [.ref q] (G0 Ln) I J K := by
  rw [ACall_0 (L0 := [.ref q, nv, nv]) (show mcs 42 = (0, 0) from rfl) (show entL 42 [.ref q] = _ from rfl) rfl (Nat.le_of_ble_eq_true rfl)]
  have h40 := hl.1
  simp only [aw_iconst (pc2 := 1) (y := 0) D42_0 rfl (by decide), aw_istore_1 (pc2 := 2) D42_1 rfl, refV_s, refV_n, psh_s, psh_n, kil_i, kil_r, kil_n, kil_l, cat_i, cat_r, iOK_1, iOK_5, jOK_2, jOK_6, wOK_e, lOK_1, lOK_2, lOK_3, lOK_4, lOK_5, lOK_6, catS_0, catS_1, catS_2, catS_3, catS_4, and_self, true_and, and_true, true_or, or_true, false_or, or_false, not_true_eq_false, not_false_eq_true, if_true, if_false, ite_int, ite_int0, au_10, eq_self, decide_true, decide_false, Bool.true_and, Bool.false_and]
  have fill : ∀ n i I', i + n = l.length → (∀ a, a ≠ q + 2 → I' a = I a) → (∀ j, j < i → I' (q + 2) j = -1) → (∀ I'', (∀ a, a ≠ q + 2 → I'' a = I a) → (∀ j, j < l.length → I'' (q + 2) j = -1) → AW (d + 2) ((G0 Ln).1, (G0 Ln).2.1) K 42 23 [.ref q, .int (nI l.length), nv] [] (G0 Ln) I'' J) → AW (d + 2) ((G0 Ln).1, (G0 Ln).2.1) K 42 2 [.ref q, .int (nI i), nv] [] (G0 Ln) I' J := by
    intro n
    induction n with
    | zero =>
      intro i I' hi ho hj hend
      have e : i = l.length := by omega
      subst e
      simp (disch := omega) only [aw_iload_1 (pc2 := 3) D42_2 rfl, aw_aload_0 (pc2 := 4) D42_3 rfl, aw_getI (pc2 := 7) (ci := 2) (fk := 5) D42_4 rfl fT_2_27 rfl, aw_icmp_ge (pc2 := 10) (t := 23) D42_7 (by decide) rfl, refV_s, refV_n, psh_s, psh_n, kil_i, kil_r, kil_n, kil_l, cat_i, cat_r, iOK_1, iOK_5, jOK_2, jOK_6, wOK_e, lOK_1, lOK_2, lOK_3, lOK_4, lOK_5, lOK_6, catS_0, catS_1, catS_2, catS_3, catS_4, and_self, true_and, and_true, true_or, or_true, false_or, or_false, not_true_eq_false, not_false_eq_true, if_true, if_false, ite_int, ite_int0, au_10, eq_self, decide_true, decide_false, Bool.true_and, Bool.false_and, au_in, au_le, au_lt, au_eq, au_lt0, au_ge0, au_le0, au_gt0, au_eq0, au_leT, au_leF, au_ltT, au_ltF, au_eqT, au_eqF, nI_clamp, nI_1, nI_add, pk_mul, au_sub1, au_subc, au_up2e, au_up2n, lit_of, hq.2.1.1, hq.2.1.2.1, hq.2.1.2.2.1, hq.2.1.2.2.2.1, hq.2.1.2.2.2.2.1, hq.2.1.2.2.2.2.2, hq.2.2.1, hq.2.2.2.1, hq.2.2.2.2.1, hq.2.2.2.2.2.1, hq.2.2.2.2.2.2, ho q (by omega), h5]
      exact hend I' ho hj
    | succ n ih =>
      intro i I' hi ho hj hend
      have ihn := ih (i + 1)
      rw [aw_iload_1 (pc2 := 3) D42_2 rfl]
      simp (disch := omega) only [aw_aload_0 (pc2 := 4) D42_3 rfl, aw_getI (pc2 := 7) (ci := 2) (fk := 5) D42_4 rfl fT_2_27 rfl, aw_icmp_ge (pc2 := 10) (t := 23) D42_7 (by decide) rfl, aw_aload_0 (pc2 := 11) D42_10 rfl, aw_getR (pc2 := 14) (ci := 2) (fk := 1) D42_11 rfl fT_2_15 rfl, aw_iload_1 (pc2 := 15) D42_14 rfl, aw_iconst (pc2 := 16) (y := -1) D42_15 rfl (by decide), aw_iastore (pc2 := 17) D42_16 rfl, aw_iinc_1 (pc2 := 20) (y := 1) D42_17 rfl (by decide), aw_goto (t := 2) D42_20 (by decide), refV_s, refV_n, psh_s, psh_n, kil_i, kil_r, kil_n, kil_l, cat_i, cat_r, iOK_1, iOK_5, jOK_2, jOK_6, wOK_e, lOK_1, lOK_2, lOK_3, lOK_4, lOK_5, lOK_6, catS_0, catS_1, catS_2, catS_3, catS_4, and_self, true_and, and_true, true_or, or_true, false_or, or_false, not_true_eq_false, not_false_eq_true, if_true, if_false, ite_int, ite_int0, au_10, eq_self, decide_true, decide_false, Bool.true_and, Bool.false_and, au_in, au_le, au_lt, au_eq, au_lt0, au_ge0, au_le0, au_gt0, au_eq0, au_leT, au_leF, au_ltT, au_ltF, au_eqT, au_eqF, nI_clamp, nI_1, nI_add, pk_mul, au_sub1, au_subc, au_up2e, au_up2n, lit_of, hq.2.1.1, hq.2.1.2.1, hq.2.1.2.2.1, hq.2.1.2.2.2.1, hq.2.1.2.2.2.2.1, hq.2.1.2.2.2.2.2, hq.2.2.1, hq.2.2.2.1, hq.2.2.2.2.1, hq.2.2.2.2.2.1, hq.2.2.2.2.2.2, ho q (by omega), h5]
      refine ihn _ (by omega) (fun a ha => by rw [up2_off ha]; exact ho a ha) (fun j hj2 => ?_) hend
      by_cases e : j = i
      · simp (disch := omega) only [e, au_up2e]
      · simp (disch := omega) only [au_up2n]; exact hj j (by omega)
  refine fill l.length 0 I (by omega) (fun _ _ => rfl) (fun j hj => absurd hj (Nat.not_lt_zero _)) (fun I1 o1 m1 => ?_)
  simp only [aw_iconst (pc2 := 24) (y := 0) D42_23 rfl (by decide), aw_istore_1 (pc2 := 25) D42_24 rfl, aw_iconst (pc2 := 26) (y := 0) D42_25 rfl (by decide), aw_istore_2 (pc2 := 27) D42_26 rfl, refV_s, refV_n, psh_s, psh_n, kil_i, kil_r, kil_n, kil_l, cat_i, cat_r, iOK_1, iOK_5, jOK_2, jOK_6, wOK_e, lOK_1, lOK_2, lOK_3, lOK_4, lOK_5, lOK_6, catS_0, catS_1, catS_2, catS_3, catS_4, and_self, true_and, and_true, true_or, or_true, false_or, or_false, not_true_eq_false, not_false_eq_true, if_true, if_false, ite_int, ite_int0, au_10, eq_self, decide_true, decide_false, Bool.true_and, Bool.false_and]
  have key : ∀ f k n m I', k + f = l.length → mkOK l m n k → n ≤ k → (∀ a, a ≠ q + 2 → I' a = I a) → (∀ i, i < l.length → I' (q + 2) i = mkI (m i)) → AW (d + 2) ((G0 Ln).1, (G0 Ln).2.1) K 42 27 [.ref q, .int (nI n), .int (nI k)] [] (G0 Ln) I' J := by
    intro f
    induction f with
    | zero =>
      intro k n m I' hk hm hnk ho hi
      have e : k = l.length := by omega
      subst e
      have hlen : (pcs l.length l).length = n := by
        have h2 := hm.2.1
        have hu : selL l (fun i => isN (m i)) = [] := by
          cases e : selL l (fun i => isN (m i)) with
          | nil => rfl
          | cons c r =>
            exfalso
            obtain ⟨i, hi2, hn, -⟩ := selL_mem.mp (show c ∈ selL l (fun i => isN (m i)) by rw [e]; exact List.mem_cons_self ..)
            exact hm.1 i hi2 hi2 (isN_iff.mp hn)
        have hp : pcs l.length ([] : List Nat) = [] := by cases l.length <;> rfl
        rw [hu, hp, List.append_nil] at h2
        rw [h2, List.length_map, List.length_range]
      rw [← hlen] at hm ⊢
      simp (disch := omega) only [aw_iload_2 (pc2 := 28) D42_27 rfl, aw_aload_0 (pc2 := 29) D42_28 rfl, aw_getI (pc2 := 32) (ci := 2) (fk := 5) D42_29 rfl fT_2_27 rfl, aw_icmp_ge (pc2 := 35) (t := 60) D42_32 (by decide) rfl, aw_iload_1 (pc2 := 61) D42_60 rfl, aw_iret D42_61 rfl, refV_s, refV_n, psh_s, psh_n, kil_i, kil_r, kil_n, kil_l, cat_i, cat_r, iOK_1, iOK_5, jOK_2, jOK_6, wOK_e, lOK_1, lOK_2, lOK_3, lOK_4, lOK_5, lOK_6, catS_0, catS_1, catS_2, catS_3, catS_4, and_self, true_and, and_true, true_or, or_true, false_or, or_false, not_true_eq_false, not_false_eq_true, if_true, if_false, ite_int, ite_int0, au_10, eq_self, decide_true, decide_false, Bool.true_and, Bool.false_and, au_in, au_le, au_lt, au_eq, au_lt0, au_ge0, au_le0, au_gt0, au_eq0, au_leT, au_leF, au_ltT, au_ltF, au_eqT, au_eqF, nI_clamp, nI_1, nI_add, pk_mul, au_sub1, au_subc, au_up2e, au_up2n, lit_of, hq.2.1.1, hq.2.1.2.1, hq.2.1.2.2.1, hq.2.1.2.2.2.1, hq.2.1.2.2.2.2.1, hq.2.1.2.2.2.2.2, hq.2.2.1, hq.2.2.2.1, hq.2.2.2.2.1, hq.2.2.2.2.2.1, hq.2.2.2.2.2.2, ho q (by omega), h5]
      exact hK I' m ho hm hi
    | succ f ih =>
      intro k n m I' hk hm hnk ho hi
      have hkl : k < l.length := by omega
      rw [aw_iload_2 (pc2 := 28) D42_27 rfl]
      simp (disch := omega) only [aw_aload_0 (pc2 := 29) D42_28 rfl, aw_getI (pc2 := 32) (ci := 2) (fk := 5) D42_29 rfl fT_2_27 rfl, aw_icmp_ge (pc2 := 35) (t := 60) D42_32 (by decide) rfl, aw_aload_0 (pc2 := 36) D42_35 rfl, aw_getR (pc2 := 39) (ci := 2) (fk := 1) D42_36 rfl fT_2_15 rfl, aw_iload_2 (pc2 := 40) D42_39 rfl, aw_iaload (pc2 := 41) D42_40 rfl, aw_iconst (pc2 := 42) (y := -1) D42_41 rfl (by decide), aw_icmp_ne (pc2 := 45) (t := 54) D42_42 (by decide) rfl, refV_s, refV_n, psh_s, psh_n, kil_i, kil_r, kil_n, kil_l, cat_i, cat_r, iOK_1, iOK_5, jOK_2, jOK_6, wOK_e, lOK_1, lOK_2, lOK_3, lOK_4, lOK_5, lOK_6, catS_0, catS_1, catS_2, catS_3, catS_4, and_self, true_and, and_true, true_or, or_true, false_or, or_false, not_true_eq_false, not_false_eq_true, if_true, if_false, ite_int, ite_int0, au_10, eq_self, decide_true, decide_false, Bool.true_and, Bool.false_and, au_in, au_le, au_lt, au_eq, au_lt0, au_ge0, au_le0, au_gt0, au_eq0, au_leT, au_leF, au_ltT, au_ltF, au_eqT, au_eqF, nI_clamp, nI_1, nI_add, pk_mul, au_sub1, au_subc, au_up2e, au_up2n, lit_of, hq.2.1.1, hq.2.1.2.1, hq.2.1.2.2.1, hq.2.1.2.2.2.1, hq.2.1.2.2.2.2.1, hq.2.1.2.2.2.2.2, hq.2.2.1, hq.2.2.2.1, hq.2.2.2.2.1, hq.2.2.2.2.2.1, hq.2.2.2.2.2.2, ho q (by omega), h5, hi k hkl]
      cases e : m k with
      | none =>
        have e1 : mkI none = -1 := rfl
        rw [if_neg (fun z => z e1)]
        simp (disch := omega) only [aw_aload_0 (pc2 := 46) D42_45 rfl, aw_iload_2 (pc2 := 47) D42_46 rfl, aw_iload_1 (pc2 := 48) D42_47 rfl, aw_iv2_0 (pc2 := 51) (o := 2) D42_48 rfl cT_2_65 rfl rfl, refV_s, refV_n, psh_s, psh_n, kil_i, kil_r, kil_n, kil_l, cat_i, cat_r, iOK_1, iOK_5, jOK_2, jOK_6, wOK_e, lOK_1, lOK_2, lOK_3, lOK_4, lOK_5, lOK_6, catS_0, catS_1, catS_2, catS_3, catS_4, and_self, true_and, and_true, true_or, or_true, false_or, or_false, not_true_eq_false, not_false_eq_true, if_true, if_false, ite_int, ite_int0, au_10, eq_self, decide_true, decide_false, Bool.true_and, Bool.false_and, au_in, au_le, au_lt, au_eq, au_lt0, au_ge0, au_le0, au_gt0, au_eq0, au_leT, au_leF, au_ltT, au_ltF, au_eqT, au_eqF, nI_clamp, nI_1, nI_add, pk_mul, au_sub1, au_subc, au_up2e, au_up2n, lit_of, hq.2.1.1, hq.2.1.2.1, hq.2.1.2.2.1, hq.2.1.2.2.2.1, hq.2.1.2.2.2.2.1, hq.2.1.2.2.2.2.2, hq.2.2.1, hq.2.2.2.1, hq.2.2.2.2.1, hq.2.2.2.2.2.1, hq.2.2.2.2.2.2]
        refine C_spread hq hl hz hm hkl e (by omega) (by rw [ho q (by omega)]; exact h5) (fun j hj => by rw [ho (q + 1) (by omega)]; exact h1 j hj) hi (fun I2 o2 hi2 => ?_)
        simp (disch := omega) only [aw_iinc_1 (pc2 := 54) (y := 1) D42_51 rfl (by decide), aw_iinc_2 (pc2 := 57) (y := 1) D42_54 rfl (by decide), aw_goto (t := 27) D42_57 (by decide), refV_s, refV_n, psh_s, psh_n, kil_i, kil_r, kil_n, kil_l, cat_i, cat_r, iOK_1, iOK_5, jOK_2, jOK_6, wOK_e, lOK_1, lOK_2, lOK_3, lOK_4, lOK_5, lOK_6, catS_0, catS_1, catS_2, catS_3, catS_4, and_self, true_and, and_true, true_or, or_true, false_or, or_false, not_true_eq_false, not_false_eq_true, if_true, if_false, ite_int, ite_int0, au_10, eq_self, decide_true, decide_false, Bool.true_and, Bool.false_and, au_in, au_le, au_lt, au_eq, au_lt0, au_ge0, au_le0, au_gt0, au_eq0, au_leT, au_leF, au_ltT, au_ltF, au_eqT, au_eqF, nI_clamp, nI_1, nI_add, pk_mul, au_sub1, au_subc, au_up2e, au_up2n, lit_of]
        exact ih (k + 1) (n + 1) _ I2 (by omega) (mkOK_step hz hm hkl e) (by omega) (fun a ha => by rw [o2 a ha]; exact ho a ha) hi2
      | some j =>
        have hjn := hm.2.2.2 k j hkl e
        have e1 : ¬ mkI (some j) = -1 := by
          show ¬ nI j = -1
          rw [au_m1 (by omega)]; exact not_false
        rw [if_pos e1]
        simp (disch := omega) only [aw_iinc_2 (pc2 := 57) (y := 1) D42_54 rfl (by decide), aw_goto (t := 27) D42_57 (by decide), refV_s, refV_n, psh_s, psh_n, kil_i, kil_r, kil_n, kil_l, cat_i, cat_r, iOK_1, iOK_5, jOK_2, jOK_6, wOK_e, lOK_1, lOK_2, lOK_3, lOK_4, lOK_5, lOK_6, catS_0, catS_1, catS_2, catS_3, catS_4, and_self, true_and, and_true, true_or, or_true, false_or, or_false, not_true_eq_false, not_false_eq_true, if_true, if_false, ite_int, ite_int0, au_10, eq_self, decide_true, decide_false, Bool.true_and, Bool.false_and, au_in, au_le, au_lt, au_eq, au_lt0, au_ge0, au_le0, au_gt0, au_eq0, au_leT, au_leF, au_ltT, au_ltF, au_eqT, au_eqF, nI_clamp, nI_1, nI_add, pk_mul, au_sub1, au_subc, au_up2e, au_up2n, lit_of]
        exact ih (k + 1) n m I' (by omega) (mkOK_skip hm (by rw [e]; exact fun q => by cases q)) (by omega) ho hi
  exact key l.length 0 0 (fun _ => none) I1 (by omega) (mkOK_0 l) (Nat.le_refl _) o1 m1
end Level2
