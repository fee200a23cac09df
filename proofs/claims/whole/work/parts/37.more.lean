theorem pc_32 {m : Nat} (h : m < 2 ^ 24) : fb_ct (fun k => m.testBit k) 32 = pc24 m := by
  have e := fb_ct_split (fun k => m.testBit k) 24 8
  have z : fb_ct (fun k => m.testBit (24 + k)) 8 = 0 := fb_ct_zero.mpr (fun k _ => Nat.testBit_lt_two_pow (Nat.lt_of_lt_of_le h (Nat.pow_le_pow_right (by decide) (by omega))))
  rw [show 32 = 24 + 8 from rfl, e, z]
  rfl
theorem pc_or {m p : Nat} (hp : p < 24) (h : m.testBit p = false) : pc24 (m ||| 2 ^ p) = pc24 m + 1 := by
  have e := fb_ct_upd (fun k => m.testBit k) true hp
  have c : fb_ct (fun k => (m ||| 2 ^ p).testBit k) 24 = fb_ct (fun k => if k = p then true else m.testBit k) 24 := by
    refine fb_ct_cong (fun k _ => ?_)
    show (m ||| 2 ^ p).testBit k = if k = p then true else m.testBit k
    rw [fb_bit_set]
    by_cases e : k = p
    · simp [e]
    · simp [e]
  unfold pc24
  rw [c]
  rw [h] at e
  simpa using e
theorem pc_le {m : Nat} : pc24 m ≤ 24 := fb_ct_le _ _
theorem get_set {l : List Nat} {n v i : Nat} (h : n < l.length) : (l.set n v).getD i 0 = if i = n then v else l.getD i 0 := by
  rw [List.getD_eq_getElem?_getD, List.getD_eq_getElem?_getD, List.getElem?_set]
  by_cases e : n = i
  · subst e; simp [h]
  · rw [if_neg e, if_neg (fun q => e q.symm)]
/-- the last clause of a book -/
def lastC (k : BK) : Nat := k.cl.getD (k.cl.length - 1) 0
noncomputable def oMore (σ : SG) (x s : Int32) : Value × SG := match bkOf x with
  | none => (.int (-3), refS σ 3)
  | some b => @ite _ (okS (σ.1 b).N s) (Classical.propDecidable _) (if (σ.1 b).cl = [] then (.int (-2), refS σ 2) else if ((lastC (σ.1 b)).testBit (plN s.toInt) || (lastC (σ.1 b)).testBit (plN (-s.toInt))) = true then (.int (-7), refS σ 7) else if pc24 (lastC (σ.1 b)) = 5 then (.int (-8), refS σ 8) else (.int (nI (pc24 (lastC (σ.1 b)) + 1)), setB σ b ((σ.1 b).N, (σ.1 b).cl.set ((σ.1 b).cl.length - 1) (lastC (σ.1 b) ||| 2 ^ plN s.toInt), (σ.1 b).ak, (σ.1 b).fx, (σ.1 b).wt, none))) (.int (-3), refS σ 3)
theorem last_ok {σ : SG} {b n : Nat} (hs : sgOK σ) (hb : b < 2) (hn : (σ.1 b).cl.length = n + 1) : lastC (σ.1 b) = (σ.1 b).cl.getD n 0 ∧ clOK (σ.1 b).N (lastC (σ.1 b)) ∧ n < 40 := by
  have e : lastC (σ.1 b) = (σ.1 b).cl.getD n 0 := by unfold lastC; rw [hn]; rfl
  refine ⟨e, (hs.1 b hb).2.2.2.1 _ ?_, ?_⟩
  · rw [e, List.getD_eq_getElem?_getD, List.getElem?_eq_getElem (show n < (σ.1 b).cl.length by omega)]
    exact List.getElem_mem _
  · have := (hs.1 b hb).2.2.1; omega
theorem cl_len {σ : SG} {b : Nat} (h : ¬ (σ.1 b).cl = []) : ∃ n, (σ.1 b).cl.length = n + 1 := ⟨(σ.1 b).cl.length - 1, by have := List.length_pos_iff.mpr h; omega⟩
section More
variable {d Ln : Nat} {I : IT} {J : JT} {K : KT} {σ : SG}
theorem CO_more {x s : Int32} (hs : sgOK σ) (h : CInv σ I J) (hk : CPost Ln I J K (oMore σ x s)) : ACall (d + 3) 77 [.ref 0, .int x, .int s] (G0 Ln) I J K := by
  rw [ACall_0 (L0 := [.ref 0, .int x, .int s, nv, nv]) (show mcs 77 = (0, 0) from rfl) (show entL 77 [.ref 0, .int x, .int s] = _ from rfl) rfl (Nat.le_of_ble_eq_true rfl)]
  unfold oMore at hk
  cases hx : bkOf x with
  | none =>
    simp only [hx] at hk
    obtain ⟨x0, x1⟩ := bkOf_none hx
    simp only [aw_aload_0 (pc2 := 1) D77_0 rfl, aw_aloadN_0 (pc2 := 1) D77_0 rfl, aw_iload_1 (pc2 := 2) D77_1 rfl, aw_iv1_0 (pc2 := 5) (o := 6) D77_2 rfl cT_6_55 rfl rfl, aw_astore_3 (pc2 := 6) D77_5 rfl, aw_astoreN_3 (pc2 := 6) D77_5 rfl, aw_aload_3 (pc2 := 7) D77_6 rfl, aw_aloadN_3 (pc2 := 7) D77_6 rfl, aw_ifnull (pc2 := 10) D77_7 rfl, aw_ifnullN (t := 18) D77_7 (by decide), aw_aload_3 (pc2 := 11) D77_10 rfl, aw_aloadN_3 (pc2 := 11) D77_10 rfl, aw_iload_2 (pc2 := 12) D77_11 rfl, aw_iv1_0 (pc2 := 15) (o := 0) D77_12 rfl cT_6_81 rfl rfl, aw_if_ne (pc2 := 18) (t := 25) D77_15 (by decide) rfl, aw_aload_0 (pc2 := 19) D77_18 rfl, aw_aloadN_0 (pc2 := 19) D77_18 rfl, aw_bipush (pc2 := 21) (y := -3) D77_19 rfl (by decide), aw_iv1_0 (pc2 := 24) (o := 6) D77_21 rfl cT_6_59 rfl rfl, aw_iret D77_24 rfl, sh_0, lit_5, refV_s, refV_n, psh_s, psh_n, kil_i, kil_r, kil_n, kil_l, cat_i, cat_r, iOK_1, iOK_5, jOK_2, jOK_6, wOK_e, lOK_1, lOK_2, lOK_3, lOK_4, catS_0, catS_1, catS_2, catS_3, catS_4, and_self, true_and, and_true, true_or, or_true, false_or, or_false, not_true_eq_false, not_false_eq_true, if_true, if_false, ite_int, ite_int0, au_10, eq_self, C_bookAtN x0 x1, C_ref3]
    exact hk.ref h (by omega) (by omega)
  | some b =>
    simp only [hx] at hk
    obtain ⟨hb, rfl⟩ := bkOf_some hx
    have hB := bf (Ln := Ln) hb
    have hh := h.1 b hb
    have hN := (hs.1 b hb).2.1
    by_cases ho : okS (σ.1 b).N s
    · rw [ifT ho] at hk
      have ho' : ¬ s = 0 ∧ -(nI (σ.1 b).N) ≤ s ∧ s ≤ nI (σ.1 b).N := ho
      obtain ⟨q1, q2, q3, q4, q5, -, -, q8, -⟩ := sgn hN ho
      by_cases hc : (σ.1 b).cl = []
      · rw [if_pos hc] at hk
        have e5 : I (bkc b) 5 = 0 := by rw [hh.2.1, hc]; rfl
        simp only [aw_aload_0 (pc2 := 1) D77_0 rfl, aw_aloadN_0 (pc2 := 1) D77_0 rfl, aw_iload_1 (pc2 := 2) D77_1 rfl, aw_iv1_0 (pc2 := 5) (o := 6) D77_2 rfl cT_6_55 rfl rfl, aw_astore_3 (pc2 := 6) D77_5 rfl, aw_astoreN_3 (pc2 := 6) D77_5 rfl, aw_aload_3 (pc2 := 7) D77_6 rfl, aw_aloadN_3 (pc2 := 7) D77_6 rfl, aw_ifnull (pc2 := 10) D77_7 rfl, aw_ifnullN (t := 18) D77_7 (by decide), aw_aload_3 (pc2 := 11) D77_10 rfl, aw_aloadN_3 (pc2 := 11) D77_10 rfl, aw_iload_2 (pc2 := 12) D77_11 rfl, aw_iv1_0 (pc2 := 15) (o := 0) D77_12 rfl cT_6_81 rfl rfl, aw_if_ne (pc2 := 18) (t := 25) D77_15 (by decide) rfl, aw_aload_0 (pc2 := 19) D77_18 rfl, aw_aloadN_0 (pc2 := 19) D77_18 rfl, aw_bipush (pc2 := 21) (y := -3) D77_19 rfl (by decide), aw_iv1_0 (pc2 := 24) (o := 6) D77_21 rfl cT_6_59 rfl rfl, aw_iret D77_24 rfl, aw_aload_3 (pc2 := 26) D77_25 rfl, aw_aloadN_3 (pc2 := 26) D77_25 rfl, aw_getI (pc2 := 29) (ci := 0) (fk := 5) D77_26 rfl fT_6_84 rfl, aw_if_ne (pc2 := 32) (t := 39) D77_29 (by decide) rfl, aw_aload_0 (pc2 := 33) D77_32 rfl, aw_aloadN_0 (pc2 := 33) D77_32 rfl, aw_bipush (pc2 := 35) (y := -2) D77_33 rfl (by decide), aw_iv1_0 (pc2 := 38) (o := 6) D77_35 rfl cT_6_59 rfl rfl, aw_iret D77_38 rfl, sh_0, lit_5, refV_s, refV_n, psh_s, psh_n, kil_i, kil_r, kil_n, kil_l, cat_i, cat_r, iOK_1, iOK_5, jOK_2, jOK_6, wOK_e, lOK_1, lOK_2, lOK_3, lOK_4, catS_0, catS_1, catS_2, catS_3, catS_4, and_self, true_and, and_true, true_or, or_true, false_or, or_false, not_true_eq_false, not_false_eq_true, if_true, if_false, ite_int, ite_int0, au_10, eq_self, C_bookAt hb, C_hasSign hB, C_ref2, hB.1.1, hh.1, if_pos ho', e5]
        exact hk.ref h (by omega) (by omega)
      · rw [if_neg hc] at hk
        obtain ⟨n, hn⟩ := cl_len hc
        obtain ⟨el, hcl, hn40⟩ := last_ok hs hb hn
        have e5 : I (bkc b) 5 = nI (n + 1) := by rw [hh.2.1, hn]
        have e6 : I (bkc b + 1) n = nI (lastC (σ.1 b)) := by rw [el]; exact hh.2.2.1 n (by omega)
        have hc24 := hcl.1.1
        have hc5 := hcl.2.2
        rw [hn] at hk
        have hlt : lastC (σ.1 b) ||| 2 ^ plN s.toInt < 2 ^ 24 := or_lt24 hc24 (Nat.pow_lt_pow_right (by decide) q2)
        simp only [aw_aload_0 (pc2 := 1) D77_0 rfl, aw_aloadN_0 (pc2 := 1) D77_0 rfl, aw_iload_1 (pc2 := 2) D77_1 rfl, aw_iv1_0 (pc2 := 5) (o := 6) D77_2 rfl cT_6_55 rfl rfl, aw_astore_3 (pc2 := 6) D77_5 rfl, aw_astoreN_3 (pc2 := 6) D77_5 rfl, aw_aload_3 (pc2 := 7) D77_6 rfl, aw_aloadN_3 (pc2 := 7) D77_6 rfl, aw_ifnull (pc2 := 10) D77_7 rfl, aw_ifnullN (t := 18) D77_7 (by decide), aw_aload_3 (pc2 := 11) D77_10 rfl, aw_aloadN_3 (pc2 := 11) D77_10 rfl, aw_iload_2 (pc2 := 12) D77_11 rfl, aw_iv1_0 (pc2 := 15) (o := 0) D77_12 rfl cT_6_81 rfl rfl, aw_if_ne (pc2 := 18) (t := 25) D77_15 (by decide) rfl, aw_aload_0 (pc2 := 19) D77_18 rfl, aw_aloadN_0 (pc2 := 19) D77_18 rfl, aw_bipush (pc2 := 21) (y := -3) D77_19 rfl (by decide), aw_iv1_0 (pc2 := 24) (o := 6) D77_21 rfl cT_6_59 rfl rfl, aw_iret D77_24 rfl, aw_aload_3 (pc2 := 26) D77_25 rfl, aw_aloadN_3 (pc2 := 26) D77_25 rfl, aw_getI (pc2 := 29) (ci := 0) (fk := 5) D77_26 rfl fT_6_84 rfl, aw_if_ne (pc2 := 32) (t := 39) D77_29 (by decide) rfl, aw_aload_0 (pc2 := 33) D77_32 rfl, aw_aloadN_0 (pc2 := 33) D77_32 rfl, aw_bipush (pc2 := 35) (y := -2) D77_33 rfl (by decide), aw_iv1_0 (pc2 := 38) (o := 6) D77_35 rfl cT_6_59 rfl rfl, aw_iret D77_38 rfl, aw_aload_3 (pc2 := 40) D77_39 rfl, aw_aloadN_3 (pc2 := 40) D77_39 rfl, aw_aload_3 (pc2 := 41) D77_40 rfl, aw_aloadN_3 (pc2 := 41) D77_40 rfl, aw_getI (pc2 := 44) (ci := 0) (fk := 5) D77_41 rfl fT_6_84 rfl, aw_iconst (pc2 := 45) (y := 1) D77_44 rfl (by decide), aw_isub (pc2 := 46) D77_45 rfl, aw_iv1_0 (pc2 := 49) (o := 0) D77_46 rfl cT_6_87 rfl rfl, aw_istore_4 (pc2 := 51) D77_49 rfl, aw_iload_4 (pc2 := 53) D77_51 rfl, aw_iload_2 (pc2 := 54) D77_53 rfl, aw_is1_2 (pc2 := 57) D77_54 rfl cT_6_74 rfl, aw_iload_2 (pc2 := 58) D77_57 rfl, aw_ineg (pc2 := 59) D77_58 rfl, aw_is1_2 (pc2 := 62) D77_59 rfl cT_6_74 rfl, aw_ior (pc2 := 63) D77_62 rfl, aw_iand (pc2 := 64) D77_63 rfl, aw_if_eq (pc2 := 67) (t := 74) D77_64 (by decide) rfl, aw_aload_0 (pc2 := 68) D77_67 rfl, aw_aloadN_0 (pc2 := 68) D77_67 rfl, aw_bipush (pc2 := 70) (y := -7) D77_68 rfl (by decide), aw_iv1_0 (pc2 := 73) (o := 6) D77_70 rfl cT_6_59 rfl rfl, aw_iret D77_73 rfl, aw_iload_4 (pc2 := 76) D77_74 rfl, aw_is1_2 (pc2 := 79) D77_76 rfl cT_6_90 rfl, aw_iconst (pc2 := 80) (y := 5) D77_79 rfl (by decide), aw_icmp_lt (pc2 := 83) (t := 90) D77_80 (by decide) rfl, aw_aload_0 (pc2 := 84) D77_83 rfl, aw_aloadN_0 (pc2 := 84) D77_83 rfl, aw_bipush (pc2 := 86) (y := -8) D77_84 rfl (by decide), aw_iv1_0 (pc2 := 89) (o := 6) D77_86 rfl cT_6_59 rfl rfl, aw_iret D77_89 rfl, aw_aload_3 (pc2 := 91) D77_90 rfl, aw_aloadN_3 (pc2 := 91) D77_90 rfl, aw_iload_2 (pc2 := 92) D77_91 rfl, aw_is1_2 (pc2 := 95) D77_92 rfl cT_6_74 rfl, aw_iv1_0 (pc2 := 98) (o := 0) D77_95 rfl cT_6_95 rfl rfl, aw_iload_4 (pc2 := 100) D77_98 rfl, aw_is1_2 (pc2 := 103) D77_100 rfl cT_6_90 rfl, aw_iconst (pc2 := 104) (y := 1) D77_103 rfl (by decide), aw_iadd (pc2 := 105) D77_104 rfl, aw_iret D77_105 rfl, sh_0, lit_5, refV_s, refV_n, psh_s, psh_n, kil_i, kil_r, kil_n, kil_l, cat_i, cat_r, iOK_1, iOK_5, jOK_2, jOK_6, wOK_e, lOK_1, lOK_2, lOK_3, lOK_4, catS_0, catS_1, catS_2, catS_3, catS_4, and_self, true_and, and_true, true_or, or_true, false_or, or_false, not_true_eq_false, not_false_eq_true, if_true, if_false, ite_int, ite_int0, au_10, eq_self, C_bookAt hb, C_hasSign hB, C_ref2, C_ref7, C_ref8, C_clauseAt hB hn40, C_bitOf, q3, q4, P_int (show lastC (σ.1 b) < 2 ^ 32 by omega), C_widenLast hB e5 hn40, hB.1.1, hh.1, if_pos ho', e5, e6, nI_pred, fa_or, fa_and, or2_bits hc24, if_pos (nI_ne0 (show 0 < n + 1 by omega) (by omega)), pc_32 hc24, nI_1]
        by_cases hz : ((lastC (σ.1 b)).testBit (plN s.toInt) || (lastC (σ.1 b)).testBit (plN (-s.toInt))) = true
        · rw [if_pos hz] at hk
          rw [if_neg (by rw [hz]; decide)]
          exact hk.ref h (by omega) (by omega)
        · rw [if_neg hz] at hk
          rw [ifT (by cases e : ((lastC (σ.1 b)).testBit (plN s.toInt) || (lastC (σ.1 b)).testBit (plN (-s.toInt))); rfl; exact absurd e hz)]
          by_cases h5 : pc24 (lastC (σ.1 b)) = 5
          · rw [if_pos h5] at hk
            rw [if_neg (by rw [h5]; decide)]
            exact hk.ref h (by omega) (by omega)
          · rw [if_neg h5] at hk
            rw [if_pos (nI_lt (a := pc24 (lastC (σ.1 b))) (b := 5) (by omega) (by decide))]
            refine hk _ _ (h.setB hb ⟨?_, ?_, fun i hi => ?_, ?_, ?_, fun p hp => ?_, ?_⟩ (fun c hc => ?_)) (fun c hc => ?_) FrC.rf
            · simp (disch := omega) only [au_up2n]; exact hh.1
            · show _ = nI ((σ.1 b).cl.set (n + 1 - 1) (lastC (σ.1 b) ||| 2 ^ plN s.toInt)).length
              simp (disch := omega) only [au_up2n, List.length_set, e5, hn]
            · have hi : i < ((σ.1 b).cl.set (n + 1 - 1) (lastC (σ.1 b) ||| 2 ^ plN s.toInt)).length := hi
              rw [List.length_set] at hi
              show _ = nI (((σ.1 b).cl.set (n + 1 - 1) (lastC (σ.1 b) ||| 2 ^ plN s.toInt)).getD i 0)
              rw [get_set (by omega), show n + 1 - 1 = n from rfl]
              by_cases e : i = n
              · simp (disch := omega) only [au_up2e, au_up2n, e, if_true]
              · simp (disch := omega) only [au_up2n, e, if_false]
                exact hh.2.2.1 i (by omega)
            · simp (disch := omega) only [au_up2n]; exact hh.2.2.2.1
            · simp (disch := omega) only [au_up2n]; exact hh.2.2.2.2.1
            · simp (disch := omega) only [au_up2n]; exact hh.2.2.2.2.2.1 p hp
            · show up2 _ _ _ _ _ 8 = 0
              simp (disch := omega) only [au_up2e]
            · simp (disch := omega) only [au_up2c]
            · have : bkc b < 108 := by unfold bkc; omega
              simp (disch := omega) only [au_up2c]
    · rw [if_neg ho] at hk
      have ho' : ¬ (¬ s = 0 ∧ -(nI (σ.1 b).N) ≤ s ∧ s ≤ nI (σ.1 b).N) := ho
      simp only [aw_aload_0 (pc2 := 1) D77_0 rfl, aw_aloadN_0 (pc2 := 1) D77_0 rfl, aw_iload_1 (pc2 := 2) D77_1 rfl, aw_iv1_0 (pc2 := 5) (o := 6) D77_2 rfl cT_6_55 rfl rfl, aw_astore_3 (pc2 := 6) D77_5 rfl, aw_astoreN_3 (pc2 := 6) D77_5 rfl, aw_aload_3 (pc2 := 7) D77_6 rfl, aw_aloadN_3 (pc2 := 7) D77_6 rfl, aw_ifnull (pc2 := 10) D77_7 rfl, aw_ifnullN (t := 18) D77_7 (by decide), aw_aload_3 (pc2 := 11) D77_10 rfl, aw_aloadN_3 (pc2 := 11) D77_10 rfl, aw_iload_2 (pc2 := 12) D77_11 rfl, aw_iv1_0 (pc2 := 15) (o := 0) D77_12 rfl cT_6_81 rfl rfl, aw_if_ne (pc2 := 18) (t := 25) D77_15 (by decide) rfl, aw_aload_0 (pc2 := 19) D77_18 rfl, aw_aloadN_0 (pc2 := 19) D77_18 rfl, aw_bipush (pc2 := 21) (y := -3) D77_19 rfl (by decide), aw_iv1_0 (pc2 := 24) (o := 6) D77_21 rfl cT_6_59 rfl rfl, aw_iret D77_24 rfl, sh_0, lit_5, refV_s, refV_n, psh_s, psh_n, kil_i, kil_r, kil_n, kil_l, cat_i, cat_r, iOK_1, iOK_5, jOK_2, jOK_6, wOK_e, lOK_1, lOK_2, lOK_3, lOK_4, catS_0, catS_1, catS_2, catS_3, catS_4, and_self, true_and, and_true, true_or, or_true, false_or, or_false, not_true_eq_false, not_false_eq_true, if_true, if_false, ite_int, ite_int0, au_10, eq_self, C_bookAt hb, C_hasSign hB, C_ref3, hB.1.1, hh.1, if_neg ho']
      exact hk.ref h (by omega) (by omega)
theorem MO_more {x s : Int32} (hs : sgOK σ) (h : MInv σ I) (hk : MPost Ln I J K (oMore σ x s)) : ACall (d + 3) 136 [.ref 122, .int x, .int s] (G0 Ln) I J K := by
  rw [ACall_0 (L0 := [.ref 122, .int x, .int s, nv]) (show mcs 136 = (0, 0) from rfl) (show entL 136 [.ref 122, .int x, .int s] = _ from rfl) rfl (Nat.le_of_ble_eq_true rfl)]
  unfold oMore at hk
  cases hx : bkOf x with
  | none =>
    simp only [hx] at hk
    obtain ⟨x0, x1⟩ := bkOf_none hx
    simp only [aw_iload_1 (pc2 := 1) D136_0 rfl, aw_is1_2 (pc2 := 4) D136_1 rfl cT_7_150 rfl, aw_if_eq (pc2 := 7) (t := 16) D136_4 (by decide) rfl, aw_aload_0 (pc2 := 8) D136_7 rfl, aw_iload_1 (pc2 := 9) D136_8 rfl, aw_iload_2 (pc2 := 10) D136_9 rfl, aw_iv2_0 (pc2 := 13) (o := 7) D136_10 rfl cT_7_163 rfl rfl, aw_if_ne (pc2 := 16) (t := 23) D136_13 (by decide) rfl, aw_aload_0 (pc2 := 17) D136_16 rfl, aw_bipush (pc2 := 19) (y := -3) D136_17 rfl (by decide), aw_iv1_0 (pc2 := 22) (o := 7) D136_19 rfl cT_7_154 rfl rfl, aw_iret D136_22 rfl, sh_122, rf_122_2, sh_125, lit_40, rf_122_1, sh_124, lit_5, rf_122_8, sh_131, refV_s, refV_n, psh_s, psh_n, kil_i, kil_r, kil_n, kil_l, cat_i, cat_r, iOK_1, iOK_5, jOK_2, jOK_6, wOK_e, lOK_1, lOK_2, lOK_3, lOK_4, catS_0, catS_1, catS_2, catS_3, catS_4, and_self, true_and, and_true, true_or, or_true, false_or, or_false, not_true_eq_false, not_false_eq_true, if_true, if_false, ite_int, ite_int0, au_10, eq_self, M_isBook, M_no3, x0, x1, or_self]
    exact hk.ref h (by omega) (by omega)
  | some b =>
    simp only [hx] at hk
    obtain ⟨hb, rfl⟩ := bkOf_some hx
    have hh := h.1 b hb
    have hN := (hs.1 b hb).2.1
    by_cases ho : okS (σ.1 b).N s
    · rw [ifT ho] at hk
      obtain ⟨-, q2, -, -, q5, q6, q7, q8, -⟩ := sgn hN ho
      by_cases hc : (σ.1 b).cl = []
      · rw [if_pos hc] at hk
        have e5 : I 125 b = 0 := by rw [hh.2.1, hc]; rfl
        simp (disch := omega) only [aw_iload_1 (pc2 := 1) D136_0 rfl, aw_is1_2 (pc2 := 4) D136_1 rfl cT_7_150 rfl, aw_if_eq (pc2 := 7) (t := 16) D136_4 (by decide) rfl, aw_aload_0 (pc2 := 8) D136_7 rfl, aw_iload_1 (pc2 := 9) D136_8 rfl, aw_iload_2 (pc2 := 10) D136_9 rfl, aw_iv2_0 (pc2 := 13) (o := 7) D136_10 rfl cT_7_163 rfl rfl, aw_if_ne (pc2 := 16) (t := 23) D136_13 (by decide) rfl, aw_aload_0 (pc2 := 17) D136_16 rfl, aw_bipush (pc2 := 19) (y := -3) D136_17 rfl (by decide), aw_iv1_0 (pc2 := 22) (o := 7) D136_19 rfl cT_7_154 rfl rfl, aw_iret D136_22 rfl, aw_aload_0 (pc2 := 24) D136_23 rfl, aw_getR (pc2 := 27) (ci := 7) (fk := 2) D136_24 rfl fT_7_16 rfl, aw_iload_1 (pc2 := 28) D136_27 rfl, aw_iaload (pc2 := 29) D136_28 rfl, aw_if_ne (pc2 := 32) (t := 39) D136_29 (by decide) rfl, aw_aload_0 (pc2 := 33) D136_32 rfl, aw_bipush (pc2 := 35) (y := -2) D136_33 rfl (by decide), aw_iv1_0 (pc2 := 38) (o := 7) D136_35 rfl cT_7_154 rfl rfl, aw_iret D136_38 rfl, sh_122, rf_122_2, sh_125, lit_40, rf_122_1, sh_124, lit_5, rf_122_8, sh_131, refV_s, refV_n, psh_s, psh_n, kil_i, kil_r, kil_n, kil_l, cat_i, cat_r, iOK_1, iOK_5, jOK_2, jOK_6, wOK_e, lOK_1, lOK_2, lOK_3, lOK_4, catS_0, catS_1, catS_2, catS_3, catS_4, and_self, true_and, and_true, true_or, or_true, false_or, or_false, not_true_eq_false, not_false_eq_true, if_true, if_false, ite_int, ite_int0, au_10, eq_self, M_isBk hb, M_isSign hb hh.1, M_no2, ifT ho, e5, au_in, nI_clamp]
        exact hk.ref h (by omega) (by omega)
      · rw [if_neg hc] at hk
        obtain ⟨n, hn⟩ := cl_len hc
        obtain ⟨el, hcl, hn40⟩ := last_ok hs hb hn
        have e5 : I 125 b = nI (n + 1) := by rw [hh.2.1, hn]
        have e6 : I 124 (40 * b + n) = nI (lastC (σ.1 b)) := by rw [el]; exact hh.2.2.1 n (by omega)
        have hc24 := hcl.1.1
        have hc5 := hcl.2.2
        rw [hn] at hk
        have hlt : lastC (σ.1 b) ||| 2 ^ plN s.toInt < 2 ^ 24 := or_lt24 hc24 (Nat.pow_lt_pow_right (by decide) q2)
        have hpc := pc_le (m := lastC (σ.1 b))
        simp (disch := omega) only [aw_iload_1 (pc2 := 1) D136_0 rfl, aw_is1_2 (pc2 := 4) D136_1 rfl cT_7_150 rfl, aw_if_eq (pc2 := 7) (t := 16) D136_4 (by decide) rfl, aw_aload_0 (pc2 := 8) D136_7 rfl, aw_iload_1 (pc2 := 9) D136_8 rfl, aw_iload_2 (pc2 := 10) D136_9 rfl, aw_iv2_0 (pc2 := 13) (o := 7) D136_10 rfl cT_7_163 rfl rfl, aw_if_ne (pc2 := 16) (t := 23) D136_13 (by decide) rfl, aw_aload_0 (pc2 := 17) D136_16 rfl, aw_bipush (pc2 := 19) (y := -3) D136_17 rfl (by decide), aw_iv1_0 (pc2 := 22) (o := 7) D136_19 rfl cT_7_154 rfl rfl, aw_iret D136_22 rfl, aw_aload_0 (pc2 := 24) D136_23 rfl, aw_getR (pc2 := 27) (ci := 7) (fk := 2) D136_24 rfl fT_7_16 rfl, aw_iload_1 (pc2 := 28) D136_27 rfl, aw_iaload (pc2 := 29) D136_28 rfl, aw_if_ne (pc2 := 32) (t := 39) D136_29 (by decide) rfl, aw_aload_0 (pc2 := 33) D136_32 rfl, aw_bipush (pc2 := 35) (y := -2) D136_33 rfl (by decide), aw_iv1_0 (pc2 := 38) (o := 7) D136_35 rfl cT_7_154 rfl rfl, aw_iret D136_38 rfl, aw_bipush (pc2 := 41) (y := 40) D136_39 rfl (by decide), aw_iload_1 (pc2 := 42) D136_41 rfl, aw_imul (pc2 := 43) D136_42 rfl, aw_aload_0 (pc2 := 44) D136_43 rfl, aw_getR (pc2 := 47) (ci := 7) (fk := 2) D136_44 rfl fT_7_16 rfl, aw_iload_1 (pc2 := 48) D136_47 rfl, aw_iaload (pc2 := 49) D136_48 rfl, aw_iadd (pc2 := 50) D136_49 rfl, aw_iconst (pc2 := 51) (y := 1) D136_50 rfl (by decide), aw_isub (pc2 := 52) D136_51 rfl, aw_istore_3 (pc2 := 53) D136_52 rfl, aw_aload_0 (pc2 := 54) D136_53 rfl, aw_getR (pc2 := 57) (ci := 7) (fk := 1) D136_54 rfl fT_7_13 rfl, aw_iload_3 (pc2 := 58) D136_57 rfl, aw_iaload (pc2 := 59) D136_58 rfl, aw_iload_2 (pc2 := 60) D136_59 rfl, aw_is1_2 (pc2 := 63) D136_60 rfl cT_7_170 rfl, aw_iload_2 (pc2 := 64) D136_63 rfl, aw_ineg (pc2 := 65) D136_64 rfl, aw_is1_2 (pc2 := 68) D136_65 rfl cT_7_170 rfl, aw_ior (pc2 := 69) D136_68 rfl, aw_iand (pc2 := 70) D136_69 rfl, aw_if_eq (pc2 := 73) (t := 80) D136_70 (by decide) rfl, aw_aload_0 (pc2 := 74) D136_73 rfl, aw_bipush (pc2 := 76) (y := -7) D136_74 rfl (by decide), aw_iv1_0 (pc2 := 79) (o := 7) D136_76 rfl cT_7_154 rfl rfl, aw_iret D136_79 rfl, aw_aload_0 (pc2 := 81) D136_80 rfl, aw_getR (pc2 := 84) (ci := 7) (fk := 1) D136_81 rfl fT_7_13 rfl, aw_iload_3 (pc2 := 85) D136_84 rfl, aw_iaload (pc2 := 86) D136_85 rfl, aw_is1_2 (pc2 := 89) D136_86 rfl cT_7_177 rfl, aw_iconst (pc2 := 90) (y := 5) D136_89 rfl (by decide), aw_icmp_ne (pc2 := 93) (t := 100) D136_90 (by decide) rfl, aw_aload_0 (pc2 := 94) D136_93 rfl, aw_bipush (pc2 := 96) (y := -8) D136_94 rfl (by decide), aw_iv1_0 (pc2 := 99) (o := 7) D136_96 rfl cT_7_154 rfl rfl, aw_iret D136_99 rfl, aw_aload_0 (pc2 := 101) D136_100 rfl, aw_getR (pc2 := 104) (ci := 7) (fk := 1) D136_101 rfl fT_7_13 rfl, aw_iload_3 (pc2 := 105) D136_104 rfl, aw_dup2 (pc2 := 106) D136_105 rfl, aw_iaload (pc2 := 107) D136_106 rfl, aw_iload_2 (pc2 := 108) D136_107 rfl, aw_is1_2 (pc2 := 111) D136_108 rfl cT_7_170 rfl, aw_ior (pc2 := 112) D136_111 rfl, aw_iastore (pc2 := 113) D136_112 rfl, aw_aload_0 (pc2 := 114) D136_113 rfl, aw_getR (pc2 := 117) (ci := 7) (fk := 8) D136_114 rfl fT_7_34 rfl, aw_iload_1 (pc2 := 118) D136_117 rfl, aw_iconst (pc2 := 119) (y := 0) D136_118 rfl (by decide), aw_iastore (pc2 := 120) D136_119 rfl, aw_aload_0 (pc2 := 121) D136_120 rfl, aw_getR (pc2 := 124) (ci := 7) (fk := 1) D136_121 rfl fT_7_13 rfl, aw_iload_3 (pc2 := 125) D136_124 rfl, aw_iaload (pc2 := 126) D136_125 rfl, aw_is1_2 (pc2 := 129) D136_126 rfl cT_7_177 rfl, aw_iret D136_129 rfl, sh_122, rf_122_2, sh_125, lit_40, rf_122_1, sh_124, lit_5, rf_122_8, sh_131, refV_s, refV_n, psh_s, psh_n, kil_i, kil_r, kil_n, kil_l, cat_i, cat_r, iOK_1, iOK_5, jOK_2, jOK_6, wOK_e, lOK_1, lOK_2, lOK_3, lOK_4, catS_0, catS_1, catS_2, catS_3, catS_4, and_self, true_and, and_true, true_or, or_true, false_or, or_false, not_true_eq_false, not_false_eq_true, if_true, if_false, ite_int, ite_int0, au_10, eq_self, M_isBk hb, M_isSign hb hh.1, M_no2, M_no7, M_no8, ifT ho, e5, e6, au_in, nI_clamp, au_eq0, au_eqF, pk_mul, nI_add, show 40 * b + (n + 1) = (40 * b + n) + 1 by omega, nI_pred, M_bitOf, q6, q7, fa_or, fa_and, or2_bits hc24, M_many (show lastC (σ.1 b) < 2 ^ 31 by omega), M_many (show lastC (σ.1 b) ||| 2 ^ plN s.toInt < 2 ^ 31 by omega), au_eq, au_up2e, au_up2n]
        by_cases hz : ((lastC (σ.1 b)).testBit (plN s.toInt) || (lastC (σ.1 b)).testBit (plN (-s.toInt))) = true
        · rw [if_pos hz] at hk
          rw [if_neg (by rw [hz]; decide)]
          exact hk.ref h (by omega) (by omega)
        · rw [if_neg hz] at hk
          rw [ifT (by cases e : ((lastC (σ.1 b)).testBit (plN s.toInt) || (lastC (σ.1 b)).testBit (plN (-s.toInt))); rfl; exact absurd e hz)]
          have hz1 : (lastC (σ.1 b)).testBit (plN s.toInt) = false := by
            cases e : (lastC (σ.1 b)).testBit (plN s.toInt)
            · rfl
            · rw [e] at hz; exact absurd rfl hz
          by_cases h5 : pc24 (lastC (σ.1 b)) = 5
          · rw [if_pos h5] at hk
            rw [if_neg (by rw [h5]; decide)]
            exact hk.ref h (by omega) (by omega)
          · rw [if_neg h5] at hk
            rw [if_pos h5, pc_or q2 hz1]
            refine hk _ _ (h.setB hs hb ⟨?_, ?_, fun i hi => ?_, ?_, ?_, ?_, fun p hp => ?_, ?_⟩ (fun c hc hne => (SlM.up (by unfold inSl; omega)).tr (SlM.up (by unfold inSl; omega))) ?_ ?_ ?_) (fun c hc => ?_) FrM.rf
            · simp (disch := omega) only [au_up2n]; exact hh.1
            · show _ = nI ((σ.1 b).cl.set (n + 1 - 1) (lastC (σ.1 b) ||| 2 ^ plN s.toInt)).length
              simp (disch := omega) only [au_up2n, List.length_set, e5, hn]
            · have hi : i < ((σ.1 b).cl.set (n + 1 - 1) (lastC (σ.1 b) ||| 2 ^ plN s.toInt)).length := hi
              rw [List.length_set] at hi
              show _ = nI (((σ.1 b).cl.set (n + 1 - 1) (lastC (σ.1 b) ||| 2 ^ plN s.toInt)).getD i 0)
              rw [get_set (by omega), show n + 1 - 1 = n from rfl]
              by_cases e : i = n
              · simp (disch := omega) only [au_up2e, au_up2n, e, if_true]
              · simp (disch := omega) only [au_up2n, e, if_false]
                exact hh.2.2.1 i (by omega)
            · simp (disch := omega) only [au_up2n]; exact hh.2.2.2.1
            · simp (disch := omega) only [au_up2n]; exact hh.2.2.2.2.1
            · simp (disch := omega) only [au_up2n]; exact hh.2.2.2.2.2.1
            · simp (disch := omega) only [au_up2n]; exact hh.2.2.2.2.2.2.1 p hp
            · show up2 _ _ _ _ 131 b = 0
              simp (disch := omega) only [au_up2e]
            · simp (disch := omega) only [au_up2c]
            · simp (disch := omega) only [au_up2c]
            · simp (disch := omega) only [au_up2c]
            · simp (disch := omega) only [au_up2c]
    · rw [if_neg ho] at hk
      simp only [aw_iload_1 (pc2 := 1) D136_0 rfl, aw_is1_2 (pc2 := 4) D136_1 rfl cT_7_150 rfl, aw_if_eq (pc2 := 7) (t := 16) D136_4 (by decide) rfl, aw_aload_0 (pc2 := 8) D136_7 rfl, aw_iload_1 (pc2 := 9) D136_8 rfl, aw_iload_2 (pc2 := 10) D136_9 rfl, aw_iv2_0 (pc2 := 13) (o := 7) D136_10 rfl cT_7_163 rfl rfl, aw_if_ne (pc2 := 16) (t := 23) D136_13 (by decide) rfl, aw_aload_0 (pc2 := 17) D136_16 rfl, aw_bipush (pc2 := 19) (y := -3) D136_17 rfl (by decide), aw_iv1_0 (pc2 := 22) (o := 7) D136_19 rfl cT_7_154 rfl rfl, aw_iret D136_22 rfl, sh_122, rf_122_2, sh_125, lit_40, rf_122_1, sh_124, lit_5, rf_122_8, sh_131, refV_s, refV_n, psh_s, psh_n, kil_i, kil_r, kil_n, kil_l, cat_i, cat_r, iOK_1, iOK_5, jOK_2, jOK_6, wOK_e, lOK_1, lOK_2, lOK_3, lOK_4, catS_0, catS_1, catS_2, catS_3, catS_4, and_self, true_and, and_true, true_or, or_true, false_or, or_false, not_true_eq_false, not_false_eq_true, if_true, if_false, ite_int, ite_int0, au_10, eq_self, M_isBk hb, M_isSign hb hh.1, M_no3, if_neg ho]
      exact hk.ref h (by omega) (by omega)
end More
