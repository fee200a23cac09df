/-- both signs of a letter -/
def cfl (m : Nat) : Prop := ∃ i, i < 12 ∧ m.testBit i = true ∧ m.testBit (12 + i) = true
theorem zero_bits {a : Nat} (h : ∀ i, a.testBit i = false) : a = 0 := by
  apply Nat.eq_of_testBit_eq
  intro i
  rw [h i, Nat.zero_testBit]
theorem cfl_C {m : Nat} : ((m &&& m / 4096) % 4096 = 0) ↔ ¬ cfl m := by
  constructor
  · rintro h ⟨i, hi, h1, h2⟩
    have := congrArg (fun z => z.testBit i) h
    simp only [tb_mod, Nat.testBit_and, tb_div, h1, h2, Nat.zero_testBit, hi, decide_true, Bool.and_self] at this
    cases this
  · intro h
    apply zero_bits
    intro i
    rw [tb_mod, Nat.testBit_and, tb_div]
    by_cases hi : i < 12
    · cases e1 : m.testBit i
      · simp
      · cases e2 : m.testBit (12 + i)
        · simp
        · exact absurd ⟨i, hi, e1, e2⟩ h
    · simp [hi]
def denN (m : Nat) : Nat := m / 4096 % 4096 ||| m % 4096 * 4096
theorem tb_mul {a p : Nat} : (a * 4096).testBit p = (decide (12 ≤ p) && a.testBit (p - 12)) := by
  rw [show (4096 : Nat) = 2 ^ 12 from rfl, Nat.testBit_mul_two_pow]
theorem cfl_M {m : Nat} (hm : m < 2 ^ 24) : (m &&& denN m = 0) ↔ ¬ cfl m := by
  unfold denN
  constructor
  · rintro h ⟨i, hi, h1, h2⟩
    have := congrArg (fun z => z.testBit i) h
    simp only [tb_mod, Nat.testBit_and, Nat.testBit_or, tb_div, h1, h2, Nat.zero_testBit, hi, decide_true, Bool.and_self, Bool.true_or] at this
    cases this
  · intro h
    apply zero_bits
    intro i
    rw [Nat.testBit_and, Nat.testBit_or, tb_mod, tb_div, tb_mul, tb_mod]
    by_cases hi : i < 12
    · rw [show decide (12 ≤ i) = false by simp; omega]
      cases e1 : m.testBit i
      · simp
      · cases e2 : m.testBit (12 + i)
        · simp
        · exact absurd ⟨i, hi, e1, e2⟩ h
    · by_cases h24 : i < 24
      · cases e1 : m.testBit i
        · simp
        · cases e2 : m.testBit (i - 12)
          · simp [hi]
          · exact absurd ⟨i - 12, by omega, e2, by rw [show 12 + (i - 12) = i by omega]; exact e1⟩ h
      · rw [Nat.testBit_lt_two_pow (Nat.lt_of_lt_of_le hm (Nat.pow_le_pow_right (by decide) (by omega)))]
        rfl
theorem denM_nI {m : Nat} (hm : m < 2 ^ 24) : denM (nI m) = nI (denN m) := by
  unfold denM denN
  rw [pk_shrN (by omega) _ 12 (by decide), show (4095 : Int32) = nI (2 ^ 12 - 1) from rfl, fa_mask, fa_mask, pk_shlN _ 12 (by decide) (by omega), fa_or]
theorem denN_lt {m : Nat} : m &&& denN m ≤ m := Nat.and_le_left
/-- the bit of a sign, none for 0 -/
def bs (x : Int32) : Nat := if x = 0 then 0 else 2 ^ plN x.toInt
abbrev alS (N : Nat) (x : Int32) : Prop := -(nI N) ≤ x ∧ x ≤ nI N
theorem bs_ok {N : Nat} {x : Int32} (hN : N ≤ 12) (h : alS N x) : bitC x = nI (bs x) ∧ bs x < 2 ^ 24 ∧ (¬ x = 0 → bitM x = nI (bs x)) := by
  unfold bs
  by_cases h0 : x = 0
  · rw [if_pos h0]
    exact ⟨by rw [h0]; decide, by decide, fun q => absurd h0 q⟩
  · rw [if_neg h0]
    obtain ⟨-, q2, q3, -, -, q6, -⟩ := sgn hN (show okS N x from ⟨h0, h⟩)
    exact ⟨q3, Nat.pow_lt_pow_right (by decide) q2, fun _ => q6⟩
noncomputable def oPut (σ : SG) (b m : Nat) : Value × SG := @ite _ (m = 0 ∨ cfl m) (Classical.propDecidable _) (.int (-7), refS σ 7) (if (σ.1 b).cl.length = 40 then (.int (-8), refS σ 8) else (.int (nI (σ.1 b).cl.length), setB σ b ((σ.1 b).N, (σ.1 b).cl ++ [m], (σ.1 b).ak, (σ.1 b).fx, (σ.1 b).wt, none)))
noncomputable def oClause (σ : SG) (x s t u v : Int32) : Value × SG := match bkOf x with
  | none => (.int (-3), refS σ 3)
  | some b => @ite _ (alS (σ.1 b).N s ∧ alS (σ.1 b).N t ∧ alS (σ.1 b).N u ∧ alS (σ.1 b).N v) (Classical.propDecidable _) (oPut σ b (bs s ||| bs t ||| bs u ||| bs v)) (.int (-3), refS σ 3)
theorem or_lt24 {a b : Nat} (ha : a < 2 ^ 24) (hb : b < 2 ^ 24) : a ||| b < 2 ^ 24 := Nat.or_lt_two_pow ha hb
theorem get_snoc {l : List Nat} {m i : Nat} (hi : i < l.length + 1) : (l ++ [m]).getD i 0 = if i = l.length then m else l.getD i 0 := by
  rw [List.getD_eq_getElem?_getD, List.getD_eq_getElem?_getD]
  by_cases e : i = l.length
  · subst e; simp
  · rw [if_neg e, List.getElem?_append_left (by omega)]
section Clause
variable {d Ln : Nat} {I : IT} {J : JT} {K : KT} {σ : SG}
theorem oPut_int {b m : Nat} : ∃ z, (oPut σ b m).1 = .int z := by
  unfold oPut
  split
  · exact ⟨_, rfl⟩
  · split
    · exact ⟨_, rfl⟩
    · exact ⟨_, rfl⟩
theorem C_putClause {b m : Nat} (hb : b < 2) (hm : m < 2 ^ 24) (hs : sgOK σ) (h : CInv σ I J) (hk : CPost Ln I J K (oPut σ b m)) : ACall (d + 2) 113 [.ref 0, .ref (bkc b), .int (nI m)] (G0 Ln) I J K := by
  rw [ACall_0 (L0 := [.ref 0, .ref (bkc b), .int (nI m)]) (show mcs 113 = (0, 0) from rfl) (show entL 113 [.ref 0, .ref (bkc b), .int (nI m)] = _ from rfl) rfl (Nat.le_of_ble_eq_true rfl)]
  have hB := bf (Ln := Ln) hb
  have hh := h.1 b hb
  have hl := (hs.1 b hb).2.2.1
  have e0 : (nI m &&& nI m >>> ((12 : Int32) &&& 31)) &&& 4095 = nI ((m &&& m / 4096) % 4096) := by
    rw [pk_shrN (by omega) _ 12 (by decide), show (4095 : Int32) = nI (2 ^ 12 - 1) from rfl, fa_and, fa_mask]
  have hz : nI ((m &&& m / 4096) % 4096) = 0 ↔ ¬ cfl m := by rw [nI_zero (by omega), cfl_C]
  unfold oPut at hk
  by_cases hc : m = 0 ∨ cfl m
  · rw [ifT hc] at hk
    simp only [aw_iload_2 (pc2 := 1) D113_0 rfl, aw_if_eq (pc2 := 4) (t := 17) D113_1 (by decide) rfl, aw_iload_2 (pc2 := 5) D113_4 rfl, aw_iload_2 (pc2 := 6) D113_5 rfl, aw_bipush (pc2 := 8) (y := 12) D113_6 rfl (by decide), aw_ishr (pc2 := 9) D113_8 rfl, aw_iand (pc2 := 10) D113_9 rfl, aw_sipush (pc2 := 13) (y := 4095) D113_10 rfl (by decide), aw_iand (pc2 := 14) D113_13 rfl, aw_if_eq (pc2 := 17) (t := 24) D113_14 (by decide) rfl, aw_aload_0 (pc2 := 18) D113_17 rfl, aw_aloadN_0 (pc2 := 18) D113_17 rfl, aw_bipush (pc2 := 20) (y := -7) D113_18 rfl (by decide), aw_iv1_0 (pc2 := 23) (o := 6) D113_20 rfl cT_6_59 rfl rfl, aw_iret D113_23 rfl, C_ref7, sh_0, psh_s, catS_0, and_self, true_and, e0, hz]
    have key := hk.ref h (by omega) (by omega)
    by_cases hm0 : m = 0
    · subst hm0
      rw [if_pos nI_0]; exact key
    · rw [if_neg (nI_ne0 (by omega) (by omega)), if_neg (fun q => hz.mp q (hc.resolve_left hm0))]
      exact key
  · rw [if_neg hc] at hk
    have hm0 : ¬ m = 0 := fun q => hc (Or.inl q)
    have hcf : ¬ cfl m := fun q => hc (Or.inr q)
    by_cases hf : (σ.1 b).cl.length = 40
    · rw [if_pos hf] at hk
      simp only [aw_iload_2 (pc2 := 1) D113_0 rfl, aw_if_eq (pc2 := 4) (t := 17) D113_1 (by decide) rfl, aw_iload_2 (pc2 := 5) D113_4 rfl, aw_iload_2 (pc2 := 6) D113_5 rfl, aw_bipush (pc2 := 8) (y := 12) D113_6 rfl (by decide), aw_ishr (pc2 := 9) D113_8 rfl, aw_iand (pc2 := 10) D113_9 rfl, aw_sipush (pc2 := 13) (y := 4095) D113_10 rfl (by decide), aw_iand (pc2 := 14) D113_13 rfl, aw_if_eq (pc2 := 17) (t := 24) D113_14 (by decide) rfl, aw_aload_0 (pc2 := 18) D113_17 rfl, aw_aloadN_0 (pc2 := 18) D113_17 rfl, aw_bipush (pc2 := 20) (y := -7) D113_18 rfl (by decide), aw_iv1_0 (pc2 := 23) (o := 6) D113_20 rfl cT_6_59 rfl rfl, aw_iret D113_23 rfl, aw_aload_1 (pc2 := 25) D113_24 rfl, aw_aloadN_1 (pc2 := 25) D113_24 rfl, aw_getI (pc2 := 28) (ci := 0) (fk := 5) D113_25 rfl fT_6_84 rfl, aw_bipush (pc2 := 30) (y := 40) D113_28 rfl (by decide), aw_icmp_lt (pc2 := 33) (t := 40) D113_30 (by decide) rfl, aw_aload_0 (pc2 := 34) D113_33 rfl, aw_aloadN_0 (pc2 := 34) D113_33 rfl, aw_bipush (pc2 := 36) (y := -8) D113_34 rfl (by decide), aw_iv1_0 (pc2 := 39) (o := 6) D113_36 rfl cT_6_59 rfl rfl, aw_iret D113_39 rfl, C_ref7, C_ref8, sh_0, hB.1.1, psh_s, catS_0, and_self, true_and, e0, hz, hh.2.1, hf]
      rw [if_neg (nI_ne0 (by omega) (by omega)), if_pos (hz.mpr hcf), if_neg (by decide)]
      exact hk.ref h (by omega) (by omega)
    · rw [if_neg hf] at hk
      simp only [aw_iload_2 (pc2 := 1) D113_0 rfl, aw_if_eq (pc2 := 4) (t := 17) D113_1 (by decide) rfl, aw_iload_2 (pc2 := 5) D113_4 rfl, aw_iload_2 (pc2 := 6) D113_5 rfl, aw_bipush (pc2 := 8) (y := 12) D113_6 rfl (by decide), aw_ishr (pc2 := 9) D113_8 rfl, aw_iand (pc2 := 10) D113_9 rfl, aw_sipush (pc2 := 13) (y := 4095) D113_10 rfl (by decide), aw_iand (pc2 := 14) D113_13 rfl, aw_if_eq (pc2 := 17) (t := 24) D113_14 (by decide) rfl, aw_aload_0 (pc2 := 18) D113_17 rfl, aw_aloadN_0 (pc2 := 18) D113_17 rfl, aw_bipush (pc2 := 20) (y := -7) D113_18 rfl (by decide), aw_iv1_0 (pc2 := 23) (o := 6) D113_20 rfl cT_6_59 rfl rfl, aw_iret D113_23 rfl, aw_aload_1 (pc2 := 25) D113_24 rfl, aw_aloadN_1 (pc2 := 25) D113_24 rfl, aw_getI (pc2 := 28) (ci := 0) (fk := 5) D113_25 rfl fT_6_84 rfl, aw_bipush (pc2 := 30) (y := 40) D113_28 rfl (by decide), aw_icmp_lt (pc2 := 33) (t := 40) D113_30 (by decide) rfl, aw_aload_0 (pc2 := 34) D113_33 rfl, aw_aloadN_0 (pc2 := 34) D113_33 rfl, aw_bipush (pc2 := 36) (y := -8) D113_34 rfl (by decide), aw_iv1_0 (pc2 := 39) (o := 6) D113_36 rfl cT_6_59 rfl rfl, aw_iret D113_39 rfl, aw_aload_1 (pc2 := 41) D113_40 rfl, aw_aloadN_1 (pc2 := 41) D113_40 rfl, aw_iload_2 (pc2 := 42) D113_41 rfl, aw_iv1_0 (pc2 := 45) (o := 0) D113_42 rfl cT_6_233 rfl rfl, aw_aload_1 (pc2 := 46) D113_45 rfl, aw_aloadN_1 (pc2 := 46) D113_45 rfl, aw_getI (pc2 := 49) (ci := 0) (fk := 5) D113_46 rfl fT_6_84 rfl, aw_iconst (pc2 := 50) (y := 1) D113_49 rfl (by decide), aw_isub (pc2 := 51) D113_50 rfl, aw_iret D113_51 rfl, C_ref7, C_ref8, C_addClause hB hh.2.1 (show (σ.1 b).cl.length < 40 by omega), sh_0, hB.1.1, psh_s, psh_n, catS_0, and_self, true_and, e0, hz, hh.2.1, up2_f, nI_pred]
      rw [if_neg (nI_ne0 (by omega) (by omega)), if_pos (hz.mpr hcf), ifT (show nI (σ.1 b).cl.length < 40 from nI_lt (b := 40) (show (σ.1 b).cl.length < 40 by omega) (by decide))]
      simp only [show ¬ (5 = 8) by decide, if_false, if_true, nI_pred]
      refine hk _ _ (h.setB hb ⟨?_, ?_, fun i hi => ?_, ?_, ?_, fun p hp => ?_, ?_⟩ (fun c hc => ?_)) (fun c hc => ?_) FrC.rf
      · simp [up2_f, up2_lo]; exact hh.1
      · show _ = nI ((σ.1 b).cl ++ [m]).length
        simp [up2_f]
      · have hi : i < ((σ.1 b).cl ++ [m]).length := hi
        rw [List.length_append] at hi
        show _ = nI (((σ.1 b).cl ++ [m]).getD i 0)
        rw [up2_off (by omega), up2_off (by omega), up2_f, get_snoc (by simpa using hi)]
        by_cases e : i = (σ.1 b).cl.length
        · rw [if_pos e, if_pos e]
        · rw [if_neg e, if_neg e, hh.2.2.1 i (by simp at hi; omega)]
      · simp [up2_f, up2_lo]; exact hh.2.2.2.1
      · simp [up2_f, up2_lo]; exact hh.2.2.2.2.1
      · rw [up2_off (by omega), up2_off (by omega), up2_off (by omega)]; exact hh.2.2.2.2.2.1 p hp
      · show up2 _ _ _ _ _ 8 = 0
        simp [up2_f]
      · rw [up2_off (by omega), up2_off (by omega), up2_off (by omega)]
      · rw [up2_off (by unfold bkc; omega), up2_off (by unfold bkc; omega), up2_off (by unfold bkc; omega)]
theorem CO_clause {x s t u v : Int32} (hs : sgOK σ) (h : CInv σ I J) (hk : CPost Ln I J K (oClause σ x s t u v)) : ACall (d + 3) 76 [.ref 0, .int x, .int s, .int t, .int u, .int v] (G0 Ln) I J K := by
  rw [ACall_0 (L0 := [.ref 0, .int x, .int s, .int t, .int u, .int v, nv]) (show mcs 76 = (0, 0) from rfl) (show entL 76 [.ref 0, .int x, .int s, .int t, .int u, .int v] = _ from rfl) rfl (Nat.le_of_ble_eq_true rfl)]
  unfold oClause at hk
  cases hx : bkOf x with
  | none =>
    simp only [hx] at hk
    obtain ⟨x0, x1⟩ := bkOf_none hx
    simp only [aw_aload_0 (pc2 := 1) D76_0 rfl, aw_aloadN_0 (pc2 := 1) D76_0 rfl, aw_iload_1 (pc2 := 2) D76_1 rfl, aw_iv1_0 (pc2 := 5) (o := 6) D76_2 rfl cT_6_55 rfl rfl, aw_astore_6 (pc2 := 7) D76_5 rfl, aw_astoreN_6 (pc2 := 7) D76_5 rfl, aw_aload_6 (pc2 := 9) D76_7 rfl, aw_aloadN_6 (pc2 := 9) D76_7 rfl, aw_ifnonnull (t := 19) D76_9 (by decide), aw_ifnonnullN (pc2 := 12) D76_9 rfl, aw_aload_0 (pc2 := 13) D76_12 rfl, aw_aloadN_0 (pc2 := 13) D76_12 rfl, aw_bipush (pc2 := 15) (y := -3) D76_13 rfl (by decide), aw_iv1_0 (pc2 := 18) (o := 6) D76_15 rfl cT_6_59 rfl rfl, aw_iret D76_18 rfl, C_bookAtN x0 x1, C_ref3, sh_0, psh_s, kil_i, kil_r, kil_n, catS_0, and_self, true_and]
    exact hk.ref h (by omega) (by omega)
  | some b =>
    simp only [hx] at hk
    obtain ⟨hb, rfl⟩ := bkOf_some hx
    have hB := bf (Ln := Ln) hb
    have hh := h.1 b hb
    have hN := (hs.1 b hb).2.1
    have key : ¬ (alS (σ.1 b).N s ∧ alS (σ.1 b).N t ∧ alS (σ.1 b).N u ∧ alS (σ.1 b).N v) → K (some (.int (-3))) (G0 Ln) (up2 I 121 3 (I 121 3 + 1)) J := fun q => by
      rw [if_neg q] at hk
      exact hk.ref h (by omega) (by omega)
    simp only [aw_aload_0 (pc2 := 1) D76_0 rfl, aw_aloadN_0 (pc2 := 1) D76_0 rfl, aw_iload_1 (pc2 := 2) D76_1 rfl, aw_iv1_0 (pc2 := 5) (o := 6) D76_2 rfl cT_6_55 rfl rfl, aw_astore_6 (pc2 := 7) D76_5 rfl, aw_astoreN_6 (pc2 := 7) D76_5 rfl, aw_aload_6 (pc2 := 9) D76_7 rfl, aw_aloadN_6 (pc2 := 9) D76_7 rfl, aw_ifnonnull (t := 19) D76_9 (by decide), aw_ifnonnullN (pc2 := 12) D76_9 rfl, aw_aload_0 (pc2 := 13) D76_12 rfl, aw_aloadN_0 (pc2 := 13) D76_12 rfl, aw_bipush (pc2 := 15) (y := -3) D76_13 rfl (by decide), aw_iv1_0 (pc2 := 18) (o := 6) D76_15 rfl cT_6_59 rfl rfl, aw_iret D76_18 rfl, aw_aload_6 (pc2 := 21) D76_19 rfl, aw_aloadN_6 (pc2 := 21) D76_19 rfl, aw_iload_2 (pc2 := 22) D76_21 rfl, aw_iv1_0 (pc2 := 25) (o := 0) D76_22 rfl cT_6_70 rfl rfl, aw_if_eq (pc2 := 28) (t := 57) D76_25 (by decide) rfl, aw_aload_6 (pc2 := 30) D76_28 rfl, aw_aloadN_6 (pc2 := 30) D76_28 rfl, aw_iload_3 (pc2 := 31) D76_30 rfl, aw_iv1_0 (pc2 := 34) (o := 0) D76_31 rfl cT_6_70 rfl rfl, aw_if_eq (pc2 := 37) (t := 57) D76_34 (by decide) rfl, aw_aload_6 (pc2 := 39) D76_37 rfl, aw_aloadN_6 (pc2 := 39) D76_37 rfl, aw_iload_4 (pc2 := 41) D76_39 rfl, aw_iv1_0 (pc2 := 44) (o := 0) D76_41 rfl cT_6_70 rfl rfl, aw_if_eq (pc2 := 47) (t := 57) D76_44 (by decide) rfl, aw_aload_6 (pc2 := 49) D76_47 rfl, aw_aloadN_6 (pc2 := 49) D76_47 rfl, aw_iload_5 (pc2 := 51) D76_49 rfl, aw_iv1_0 (pc2 := 54) (o := 0) D76_51 rfl cT_6_70 rfl rfl, aw_if_ne (pc2 := 57) (t := 64) D76_54 (by decide) rfl, aw_aload_0 (pc2 := 58) D76_57 rfl, aw_aloadN_0 (pc2 := 58) D76_57 rfl, aw_bipush (pc2 := 60) (y := -3) D76_58 rfl (by decide), aw_iv1_0 (pc2 := 63) (o := 6) D76_60 rfl cT_6_59 rfl rfl, aw_iret D76_63 rfl, aw_aload_6 (pc2 := 67) D76_65 rfl, aw_aloadN_6 (pc2 := 67) D76_65 rfl, aw_iload_2 (pc2 := 68) D76_67 rfl, aw_is1_2 (pc2 := 71) D76_68 rfl cT_6_74 rfl, aw_iload_3 (pc2 := 72) D76_71 rfl, aw_is1_2 (pc2 := 75) D76_72 rfl cT_6_74 rfl, aw_ior (pc2 := 76) D76_75 rfl, aw_iload_4 (pc2 := 78) D76_76 rfl, aw_is1_2 (pc2 := 81) D76_78 rfl cT_6_74 rfl, aw_ior (pc2 := 82) D76_81 rfl, aw_iload_5 (pc2 := 84) D76_82 rfl, aw_is1_2 (pc2 := 87) D76_84 rfl cT_6_74 rfl, aw_ior (pc2 := 88) D76_87 rfl, aw_iv2_0 (pc2 := 91) (o := 6) D76_88 rfl cT_6_77 rfl rfl, aw_iret D76_91 rfl, C_bookAt hb, C_ref3, C_allows hB, hh.1, ite_int, ite_int0, sh_0, hB.1.1, psh_s, psh_n, kil_i, kil_r, kil_n, catS_0, and_self, true_and]
    by_cases h1 : alS (σ.1 b).N s
    · rw [ifT h1]
      by_cases h2 : alS (σ.1 b).N t
      · rw [ifT h2]
        by_cases h3 : alS (σ.1 b).N u
        · rw [ifT h3]
          by_cases h4 : alS (σ.1 b).N v
          · rw [ifT h4]
            rw [ifT (show alS (σ.1 b).N s ∧ alS (σ.1 b).N t ∧ alS (σ.1 b).N u ∧ alS (σ.1 b).N v from ⟨h1, h2, h3, h4⟩)] at hk
            obtain ⟨a1, a2, -⟩ := bs_ok hN h1
            obtain ⟨b1, b2, -⟩ := bs_ok hN h2
            obtain ⟨c1, c2, -⟩ := bs_ok hN h3
            obtain ⟨d1, d2, -⟩ := bs_ok hN h4
            simp only [aw_aload_0 (pc2 := 65) D76_64 rfl, aw_aloadN_0 (pc2 := 65) D76_64 rfl, aw_aload_6 (pc2 := 67) D76_65 rfl, aw_aloadN_6 (pc2 := 67) D76_65 rfl, aw_iload_2 (pc2 := 68) D76_67 rfl, aw_is1_2 (pc2 := 71) D76_68 rfl cT_6_74 rfl, aw_iload_3 (pc2 := 72) D76_71 rfl, aw_is1_2 (pc2 := 75) D76_72 rfl cT_6_74 rfl, aw_ior (pc2 := 76) D76_75 rfl, aw_iload_4 (pc2 := 78) D76_76 rfl, aw_is1_2 (pc2 := 81) D76_78 rfl cT_6_74 rfl, aw_ior (pc2 := 82) D76_81 rfl, aw_iload_5 (pc2 := 84) D76_82 rfl, aw_is1_2 (pc2 := 87) D76_84 rfl cT_6_74 rfl, aw_ior (pc2 := 88) D76_87 rfl, aw_iv2_0 (pc2 := 91) (o := 6) D76_88 rfl cT_6_77 rfl rfl, C_bitOf, a1, b1, c1, d1, fa_or, sh_0, psh_s, kil_i, kil_r, kil_n, cat_r, cat_i, catS_0, catS_1, catS_2, catS_3, and_self, true_and]
            refine C_putClause hb (or_lt24 (or_lt24 (or_lt24 a2 b2) c2) d2) hs h (fun I' J' q1 q2 q3 => ?_)
            have k1 := hk I' J' q1 q2 q3
            obtain ⟨z, hz⟩ := oPut_int (σ := σ) (b := b) (m := bs s ||| bs t ||| bs u ||| bs v)
            rw [hz] at k1 ⊢
            simp only [aw_iret D76_91 rfl, psh_s, and_self, true_and]
            exact k1
          · rw [if_neg h4]; exact key (fun q => h4 q.2.2.2)
        · rw [if_neg h3]; exact key (fun q => h3 q.2.2.1)
      · rw [if_neg h2]; exact key (fun q => h2 q.2.1)
    · rw [if_neg h1]; exact key (fun q => h1 q.1)
end Clause
