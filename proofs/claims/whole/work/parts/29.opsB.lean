section OpsB
variable {d Ln : Nat} {I : IT} {J : JT} {K : KT} {σ : SG}
theorem lt01 {n : Int32} (q : n < 0) : n < 1 := by
  rw [fa_lt] at q ⊢
  have a : (0 : Int32).toInt = 0 := by decide
  have b : (1 : Int32).toInt = 1 := by decide
  omega
theorem ifT {α : Type} {p : Prop} {D : Decidable p} {a b : α} (h : p) : @ite α p D a b = a := if_pos h
theorem CO_letters {x n : Int32} (hs : sgOK σ) (h : CInv σ I J) (hk : CPost Ln I J K (oLetters σ x n)) : ACall (d + 2) 75 [.ref 0, .int x, .int n] (G0 Ln) I J K := by
  rw [ACall_0 (L0 := [.ref 0, .int x, .int n, nv, nv]) (show mcs 75 = (0, 0) from rfl) (show entL 75 [.ref 0, .int x, .int n] = _ from rfl) rfl (Nat.le_of_ble_eq_true rfl)]
  unfold oLetters at hk
  cases hx : bkOf x with
  | none =>
    simp only [hx] at hk
    obtain ⟨x0, x1⟩ := bkOf_none hx
    simp only [aw_aload_0 (pc2 := 1) D75_0 rfl, aw_aloadN_0 (pc2 := 1) D75_0 rfl, aw_iload_1 (pc2 := 2) D75_1 rfl, aw_iv1_0 (pc2 := 5) (o := 6) D75_2 rfl cT_6_55 rfl rfl, aw_astore_3 (pc2 := 6) D75_5 rfl, aw_astoreN_3 (pc2 := 6) D75_5 rfl, aw_aload_3 (pc2 := 7) D75_6 rfl, aw_aloadN_3 (pc2 := 7) D75_6 rfl, aw_ifnonnull (t := 17) D75_7 (by decide), aw_ifnonnullN (pc2 := 10) D75_7 rfl, aw_aload_0 (pc2 := 11) D75_10 rfl, aw_aloadN_0 (pc2 := 11) D75_10 rfl, aw_bipush (pc2 := 13) (y := -3) D75_11 rfl (by decide), aw_iv1_0 (pc2 := 16) (o := 6) D75_13 rfl cT_6_59 rfl rfl, aw_iret D75_16 rfl, aw_iload_2 (pc2 := 18) D75_17 rfl, aw_iconst (pc2 := 19) (y := 1) D75_18 rfl (by decide), aw_icmp_lt (pc2 := 22) (t := 28) D75_19 (by decide) rfl, aw_iload_2 (pc2 := 23) D75_22 rfl, aw_bipush (pc2 := 25) (y := 12) D75_23 rfl (by decide), aw_icmp_le (pc2 := 28) (t := 35) D75_25 (by decide) rfl, aw_aload_0 (pc2 := 29) D75_28 rfl, aw_aloadN_0 (pc2 := 29) D75_28 rfl, aw_bipush (pc2 := 31) (y := -7) D75_29 rfl (by decide), aw_iv1_0 (pc2 := 34) (o := 6) D75_31 rfl cT_6_59 rfl rfl, aw_iret D75_34 rfl, aw_aload_3 (pc2 := 36) D75_35 rfl, aw_aloadN_3 (pc2 := 36) D75_35 rfl, aw_getI (pc2 := 39) (ci := 0) (fk := 4) D75_36 rfl fT_6_63 rfl, aw_istore_4 (pc2 := 41) D75_39 rfl, aw_aload_3 (pc2 := 42) D75_41 rfl, aw_aloadN_3 (pc2 := 42) D75_41 rfl, aw_iload_2 (pc2 := 43) D75_42 rfl, aw_iv1_0 (pc2 := 46) (o := 0) D75_43 rfl cT_6_66 rfl rfl, aw_iload_4 (pc2 := 48) D75_46 rfl, aw_iret D75_48 rfl, C_bookAtN x0 x1, C_ref3, sh_0, psh_s, kil_i, kil_r, kil_n, catS_0, and_self, true_and]
    exact hk.ref h (by omega) (by omega)
  | some b =>
    simp only [hx] at hk
    obtain ⟨hb, rfl⟩ := bkOf_some hx
    have hB := bf (Ln := Ln) hb
    simp only [aw_aload_0 (pc2 := 1) D75_0 rfl, aw_aloadN_0 (pc2 := 1) D75_0 rfl, aw_iload_1 (pc2 := 2) D75_1 rfl, aw_iv1_0 (pc2 := 5) (o := 6) D75_2 rfl cT_6_55 rfl rfl, aw_astore_3 (pc2 := 6) D75_5 rfl, aw_astoreN_3 (pc2 := 6) D75_5 rfl, aw_aload_3 (pc2 := 7) D75_6 rfl, aw_aloadN_3 (pc2 := 7) D75_6 rfl, aw_ifnonnull (t := 17) D75_7 (by decide), aw_ifnonnullN (pc2 := 10) D75_7 rfl, aw_aload_0 (pc2 := 11) D75_10 rfl, aw_aloadN_0 (pc2 := 11) D75_10 rfl, aw_bipush (pc2 := 13) (y := -3) D75_11 rfl (by decide), aw_iv1_0 (pc2 := 16) (o := 6) D75_13 rfl cT_6_59 rfl rfl, aw_iret D75_16 rfl, aw_iload_2 (pc2 := 18) D75_17 rfl, aw_iconst (pc2 := 19) (y := 1) D75_18 rfl (by decide), aw_icmp_lt (pc2 := 22) (t := 28) D75_19 (by decide) rfl, aw_iload_2 (pc2 := 23) D75_22 rfl, aw_bipush (pc2 := 25) (y := 12) D75_23 rfl (by decide), aw_icmp_le (pc2 := 28) (t := 35) D75_25 (by decide) rfl, aw_aload_0 (pc2 := 29) D75_28 rfl, aw_aloadN_0 (pc2 := 29) D75_28 rfl, aw_bipush (pc2 := 31) (y := -7) D75_29 rfl (by decide), aw_iv1_0 (pc2 := 34) (o := 6) D75_31 rfl cT_6_59 rfl rfl, aw_iret D75_34 rfl, aw_aload_3 (pc2 := 36) D75_35 rfl, aw_aloadN_3 (pc2 := 36) D75_35 rfl, aw_getI (pc2 := 39) (ci := 0) (fk := 4) D75_36 rfl fT_6_63 rfl, aw_istore_4 (pc2 := 41) D75_39 rfl, aw_aload_3 (pc2 := 42) D75_41 rfl, aw_aloadN_3 (pc2 := 42) D75_41 rfl, aw_iload_2 (pc2 := 43) D75_42 rfl, aw_iv1_0 (pc2 := 46) (o := 0) D75_43 rfl cT_6_66 rfl rfl, aw_iload_4 (pc2 := 48) D75_46 rfl, aw_iret D75_48 rfl, C_bookAt hb, C_ref7, C_startAnew hB.1.1 hB.1.2.2.1 hB.2.2.1 (show bkc b + 2 ≠ bkc b by omega), sh_0, hB.1.1, psh_s, psh_n, kil_i, kil_r, kil_n, catS_0, and_self, true_and]
    have hh := h.1 b hb
    by_cases h1 : n < 1
    · rw [if_pos h1]
      rw [if_neg (fun q => by have := q.1; rw [fa_lt] at h1; rw [fa_le] at this; omega)] at hk
      exact hk.ref h (by omega) (by omega)
    · rw [if_neg h1]
      by_cases h2 : n ≤ 12
      · rw [if_pos h2]
        rw [if_pos ⟨fa_of_nlt h1, h2⟩] at hk
        rw [hh.1]
        obtain ⟨j, hj, rfl⟩ := nI_of (fun q : n < 0 => h1 (lt01 q))
        rw [nI_clamp hj] at hk
        refine hk _ _ (h.setB hb ⟨?_, ?_, fun i hi => absurd hi (Nat.not_lt_zero _), ?_, ?_, fun p hp => ?_, ?_⟩ (fun c hc => ?_)) (fun c hc => ?_) FrC.rf
        · rw [fil_off (by omega)]; simp [up2_f]
        · rw [fil_off (by omega)]; simp [up2_f]; rfl
        · rw [fil_off (by omega)]; simp [up2_f]; rfl
        · rw [fil_off (by omega)]; simp [up2_f]; rfl
        · rw [fil_at hp]; rfl
        · show fil _ _ _ _ _ 8 = 0
          rw [fil_off (by omega)]; simp [up2_f]
        · rw [fil_off (by omega), up2_off (by omega), up2_off (by omega), up2_off (by omega), up2_off (by omega), up2_off (by omega)]
        · rw [fil_off (by unfold bkc; omega), up2_off (by unfold bkc; omega), up2_off (by unfold bkc; omega), up2_off (by unfold bkc; omega), up2_off (by unfold bkc; omega), up2_off (by unfold bkc; omega)]
      · rw [if_neg h2]
        rw [if_neg (fun q => h2 q.2)] at hk
        exact hk.ref h (by omega) (by omega)
theorem CO_drop {x : Int32} (hs : sgOK σ) (h : CInv σ I J) (hk : CPost Ln I J K (oDrop σ x)) : ACall (d + 2) 78 [.ref 0, .int x] (G0 Ln) I J K := by
  rw [ACall_0 (L0 := [.ref 0, .int x, nv]) (show mcs 78 = (0, 0) from rfl) (show entL 78 [.ref 0, .int x] = _ from rfl) rfl (Nat.le_of_ble_eq_true rfl)]
  unfold oDrop at hk
  cases hx : bkOf x with
  | none =>
    simp only [hx] at hk
    obtain ⟨x0, x1⟩ := bkOf_none hx
    simp only [aw_aload_0 (pc2 := 1) D78_0 rfl, aw_aloadN_0 (pc2 := 1) D78_0 rfl, aw_iload_1 (pc2 := 2) D78_1 rfl, aw_iv1_0 (pc2 := 5) (o := 6) D78_2 rfl cT_6_55 rfl rfl, aw_astore_2 (pc2 := 6) D78_5 rfl, aw_astoreN_2 (pc2 := 6) D78_5 rfl, aw_aload_2 (pc2 := 7) D78_6 rfl, aw_aloadN_2 (pc2 := 7) D78_6 rfl, aw_ifnonnull (t := 17) D78_7 (by decide), aw_ifnonnullN (pc2 := 10) D78_7 rfl, aw_aload_0 (pc2 := 11) D78_10 rfl, aw_aloadN_0 (pc2 := 11) D78_10 rfl, aw_bipush (pc2 := 13) (y := -3) D78_11 rfl (by decide), aw_iv1_0 (pc2 := 16) (o := 6) D78_13 rfl cT_6_59 rfl rfl, aw_iret D78_16 rfl, aw_aload_2 (pc2 := 18) D78_17 rfl, aw_aloadN_2 (pc2 := 18) D78_17 rfl, aw_getI (pc2 := 21) (ci := 0) (fk := 5) D78_18 rfl fT_6_84 rfl, aw_if_ne (pc2 := 24) (t := 31) D78_21 (by decide) rfl, aw_aload_0 (pc2 := 25) D78_24 rfl, aw_aloadN_0 (pc2 := 25) D78_24 rfl, aw_bipush (pc2 := 27) (y := -2) D78_25 rfl (by decide), aw_iv1_0 (pc2 := 30) (o := 6) D78_27 rfl cT_6_59 rfl rfl, aw_iret D78_30 rfl, aw_aload_2 (pc2 := 32) D78_31 rfl, aw_aloadN_2 (pc2 := 32) D78_31 rfl, aw_iv0_0 (pc2 := 35) (o := 0) D78_32 rfl cT_6_98 rfl rfl, aw_aload_2 (pc2 := 36) D78_35 rfl, aw_aloadN_2 (pc2 := 36) D78_35 rfl, aw_getI (pc2 := 39) (ci := 0) (fk := 5) D78_36 rfl fT_6_84 rfl, aw_iret D78_39 rfl, C_bookAtN x0 x1, C_ref3, sh_0, psh_s, kil_i, kil_r, kil_n, catS_0, and_self, true_and]
    exact hk.ref h (by omega) (by omega)
  | some b =>
    simp only [hx] at hk
    obtain ⟨hb, rfl⟩ := bkOf_some hx
    have hB := bf (Ln := Ln) hb
    have hh := h.1 b hb
    have hl := (hs.1 b hb).2.2.1
    by_cases hc : (σ.1 b).cl = []
    · rw [if_pos hc] at hk
      have e5 : I (bkc b) 5 = 0 := by rw [hh.2.1, hc]; rfl
      simp only [aw_aload_0 (pc2 := 1) D78_0 rfl, aw_aloadN_0 (pc2 := 1) D78_0 rfl, aw_iload_1 (pc2 := 2) D78_1 rfl, aw_iv1_0 (pc2 := 5) (o := 6) D78_2 rfl cT_6_55 rfl rfl, aw_astore_2 (pc2 := 6) D78_5 rfl, aw_astoreN_2 (pc2 := 6) D78_5 rfl, aw_aload_2 (pc2 := 7) D78_6 rfl, aw_aloadN_2 (pc2 := 7) D78_6 rfl, aw_ifnonnull (t := 17) D78_7 (by decide), aw_ifnonnullN (pc2 := 10) D78_7 rfl, aw_aload_0 (pc2 := 11) D78_10 rfl, aw_aloadN_0 (pc2 := 11) D78_10 rfl, aw_bipush (pc2 := 13) (y := -3) D78_11 rfl (by decide), aw_iv1_0 (pc2 := 16) (o := 6) D78_13 rfl cT_6_59 rfl rfl, aw_iret D78_16 rfl, aw_aload_2 (pc2 := 18) D78_17 rfl, aw_aloadN_2 (pc2 := 18) D78_17 rfl, aw_getI (pc2 := 21) (ci := 0) (fk := 5) D78_18 rfl fT_6_84 rfl, aw_if_ne (pc2 := 24) (t := 31) D78_21 (by decide) rfl, aw_aload_0 (pc2 := 25) D78_24 rfl, aw_aloadN_0 (pc2 := 25) D78_24 rfl, aw_bipush (pc2 := 27) (y := -2) D78_25 rfl (by decide), aw_iv1_0 (pc2 := 30) (o := 6) D78_27 rfl cT_6_59 rfl rfl, aw_iret D78_30 rfl, C_bookAt hb, C_ref2, sh_0, hB.1.1, psh_s, psh_n, kil_i, kil_r, kil_n, catS_0, and_self, true_and, e5, not_true_eq_false, if_false]
      exact hk.ref h (by omega) (by omega)
    · rw [if_neg hc] at hk
      obtain ⟨n, hn⟩ : ∃ n, (σ.1 b).cl.length = n + 1 := ⟨(σ.1 b).cl.length - 1, by have := List.length_pos_iff.mpr hc; omega⟩
      have e5 : I (bkc b) 5 = nI (n + 1) := by rw [hh.2.1, hn]
      simp only [aw_aload_0 (pc2 := 1) D78_0 rfl, aw_aloadN_0 (pc2 := 1) D78_0 rfl, aw_iload_1 (pc2 := 2) D78_1 rfl, aw_iv1_0 (pc2 := 5) (o := 6) D78_2 rfl cT_6_55 rfl rfl, aw_astore_2 (pc2 := 6) D78_5 rfl, aw_astoreN_2 (pc2 := 6) D78_5 rfl, aw_aload_2 (pc2 := 7) D78_6 rfl, aw_aloadN_2 (pc2 := 7) D78_6 rfl, aw_ifnonnull (t := 17) D78_7 (by decide), aw_ifnonnullN (pc2 := 10) D78_7 rfl, aw_aload_0 (pc2 := 11) D78_10 rfl, aw_aloadN_0 (pc2 := 11) D78_10 rfl, aw_bipush (pc2 := 13) (y := -3) D78_11 rfl (by decide), aw_iv1_0 (pc2 := 16) (o := 6) D78_13 rfl cT_6_59 rfl rfl, aw_iret D78_16 rfl, aw_aload_2 (pc2 := 18) D78_17 rfl, aw_aloadN_2 (pc2 := 18) D78_17 rfl, aw_getI (pc2 := 21) (ci := 0) (fk := 5) D78_18 rfl fT_6_84 rfl, aw_if_ne (pc2 := 24) (t := 31) D78_21 (by decide) rfl, aw_aload_0 (pc2 := 25) D78_24 rfl, aw_aloadN_0 (pc2 := 25) D78_24 rfl, aw_bipush (pc2 := 27) (y := -2) D78_25 rfl (by decide), aw_iv1_0 (pc2 := 30) (o := 6) D78_27 rfl cT_6_59 rfl rfl, aw_iret D78_30 rfl, aw_aload_2 (pc2 := 32) D78_31 rfl, aw_aloadN_2 (pc2 := 32) D78_31 rfl, aw_iv0_0 (pc2 := 35) (o := 0) D78_32 rfl cT_6_98 rfl rfl, aw_aload_2 (pc2 := 36) D78_35 rfl, aw_aloadN_2 (pc2 := 36) D78_35 rfl, aw_getI (pc2 := 39) (ci := 0) (fk := 5) D78_36 rfl fT_6_84 rfl, aw_iret D78_39 rfl, C_bookAt hb, C_ref2, C_dropLast hB e5 (by omega), sh_0, hB.1.1, psh_s, psh_n, kil_i, kil_r, kil_n, catS_0, and_self, true_and, e5, up2_f]
      rw [if_pos (nI_ne0 (by omega) (by omega))]
      rw [hn] at hk
      simp only [show ¬ (5 = 8) by decide, if_false, if_true]
      have hd : (σ.1 b).cl.dropLast.length = n := by rw [List.length_dropLast, hn]; rfl
      refine hk _ _ (h.setB hb ⟨?_, ?_, fun i hi => ?_, ?_, ?_, fun p hp => ?_, ?_⟩ (fun c hc => ?_)) (fun c hc => ?_) FrC.rf
      · simp [up2_f]; exact hh.1
      · simp [up2_f, hd]
      · rw [up2_off (by omega), up2_off (by omega)]
        have hi : i < (σ.1 b).cl.dropLast.length := hi
        rw [hh.2.2.1 i (by omega)]
        show _ = nI ((σ.1 b).cl.dropLast.getD i 0)
        rw [List.getD_eq_getElem?_getD, List.getD_eq_getElem?_getD, List.getElem?_dropLast, if_pos (by omega)]
      · simp [up2_f]; exact hh.2.2.2.1
      · simp [up2_f]; exact hh.2.2.2.2.1
      · rw [up2_off (by omega), up2_off (by omega)]; exact hh.2.2.2.2.2.1 p hp
      · show up2 _ _ _ _ _ 8 = 0
        simp [up2_f]
      · rw [up2_off (by omega), up2_off (by omega)]
      · rw [up2_off (by unfold bkc; omega), up2_off (by unfold bkc; omega)]
/-- the graph's part of a book, when the book's own cells alone are written -/
theorem CBg {b : BK} {B : Nat} {I I' : IT} {J : JT} (h : CB B b I J) (h8 : I' B 8 = I B 8) (ho : ∀ c, B + 3 ≤ c → c < B + 12 → I' c = I c) : CGo B b.N b.g I' J := by
  have h7 := h.2.2.2.2.2.2
  unfold CGo at h7 ⊢
  cases e : b.g with
  | none => rw [e] at h7; exact h8.trans h7
  | some g =>
    rw [e] at h7
    obtain ⟨a, h1, h2, h3, h4, h5⟩ := h7
    refine ⟨h8.trans a, by rw [ho _ (by omega) (by omega)]; exact h1, by rw [ho _ (by omega) (by omega)]; exact h2, by rw [ho _ (by omega) (by omega)]; exact h3, fun i hi => ?_, ?_⟩
    · rw [ho (B + 4) (by omega) (by omega), ho (B + 5) (by omega) (by omega), ho (B + 6) (by omega) (by omega), ho (B + 7) (by omega) (by omega), ho (B + 8) (by omega) (by omega)]; exact h4 i hi
    · rw [ho (B + 3) (by omega) (by omega)]
      rcases h5 with h5 | ⟨h5, h6⟩
      · exact Or.inl h5
      · exact Or.inr ⟨h5, h6.fr (ho _ (by omega) (by omega)) rfl⟩
theorem or_zero {a b : Nat} : a ||| b = 0 ↔ a = 0 ∧ b = 0 := by
  constructor
  · intro h
    constructor
    · apply Nat.eq_of_testBit_eq
      intro i
      have := congrArg (fun z => z.testBit i) h
      simp only [Nat.testBit_or, Nat.zero_testBit, Bool.or_eq_false_iff] at this
      rw [this.1, Nat.zero_testBit]
    · apply Nat.eq_of_testBit_eq
      intro i
      have := congrArg (fun z => z.testBit i) h
      simp only [Nat.testBit_or, Nat.zero_testBit, Bool.or_eq_false_iff] at this
      rw [this.2, Nat.zero_testBit]
  · rintro ⟨rfl, rfl⟩; rfl
theorem nI_zero {a : Nat} (h : a < 2 ^ 31) : nI a = 0 ↔ a = 0 := by
  rw [show (0 : Int32) = nI 0 from rfl]; exact nI_eq h (by decide)
theorem and_lt {a b n : Nat} (h : a < n) : a &&& b < n := Nat.lt_of_le_of_lt Nat.and_le_left h
theorem or2_bits {fx p q : Nat} (hf : fx < 2 ^ 24) : nI (fx &&& (2 ^ p ||| 2 ^ q)) = 0 ↔ (fx.testBit p || fx.testBit q) = false := by
  rw [nI_zero (Nat.lt_of_lt_of_le (and_lt hf) (by decide)), Nat.and_or_distrib_left, or_zero, fb_bit_nat, fb_bit_nat, Bool.or_eq_false_iff]
theorem bit_test {a p : Nat} (hp : p < 31) : (nI a &&& nI (2 ^ p) = 0) ↔ a.testBit p = false := fa_bit hp
theorem CO_weight {x s w : Int32} (hs : sgOK σ) (h : CInv σ I J) (hk : CPost Ln I J K (oWeight σ x s w)) : ACall (d + 4) 82 [.ref 0, .int x, .int s, .int w] (G0 Ln) I J K := by
  rw [ACall_0 (L0 := [.ref 0, .int x, .int s, .int w, nv, nv]) (show mcs 82 = (0, 0) from rfl) (show entL 82 [.ref 0, .int x, .int s, .int w] = _ from rfl) rfl (Nat.le_of_ble_eq_true rfl)]
  unfold oWeight at hk
  cases hx : bkOf x with
  | none =>
    simp only [hx] at hk
    obtain ⟨x0, x1⟩ := bkOf_none hx
    simp only [aw_aload_0 (pc2 := 1) D82_0 rfl, aw_aloadN_0 (pc2 := 1) D82_0 rfl, aw_iload_1 (pc2 := 2) D82_1 rfl, aw_iv1_0 (pc2 := 5) (o := 6) D82_2 rfl cT_6_55 rfl rfl, aw_astore_4 (pc2 := 7) D82_5 rfl, aw_astoreN_4 (pc2 := 7) D82_5 rfl, aw_aload_4 (pc2 := 9) D82_7 rfl, aw_aloadN_4 (pc2 := 9) D82_7 rfl, aw_ifnull (pc2 := 12) D82_9 rfl, aw_ifnullN (t := 21) D82_9 (by decide), aw_aload_4 (pc2 := 14) D82_12 rfl, aw_aloadN_4 (pc2 := 14) D82_12 rfl, aw_iload_2 (pc2 := 15) D82_14 rfl, aw_iv1_0 (pc2 := 18) (o := 0) D82_15 rfl cT_6_81 rfl rfl, aw_if_ne (pc2 := 21) (t := 28) D82_18 (by decide) rfl, aw_aload_0 (pc2 := 22) D82_21 rfl, aw_aloadN_0 (pc2 := 22) D82_21 rfl, aw_bipush (pc2 := 24) (y := -3) D82_22 rfl (by decide), aw_iv1_0 (pc2 := 27) (o := 6) D82_24 rfl cT_6_59 rfl rfl, aw_iret D82_27 rfl, aw_iload_3 (pc2 := 29) D82_28 rfl, aw_if_lt (pc2 := 32) (t := 38) D82_29 (by decide) rfl, aw_iload_3 (pc2 := 33) D82_32 rfl, aw_bipush (pc2 := 35) (y := 7) D82_33 rfl (by decide), aw_icmp_le (pc2 := 38) (t := 45) D82_35 (by decide) rfl, aw_aload_0 (pc2 := 39) D82_38 rfl, aw_aloadN_0 (pc2 := 39) D82_38 rfl, aw_bipush (pc2 := 41) (y := -7) D82_39 rfl (by decide), aw_iv1_0 (pc2 := 44) (o := 6) D82_41 rfl cT_6_59 rfl rfl, aw_iret D82_44 rfl, aw_aload_4 (pc2 := 47) D82_45 rfl, aw_aloadN_4 (pc2 := 47) D82_45 rfl, aw_iload_2 (pc2 := 48) D82_47 rfl, aw_iv1_0 (pc2 := 51) (o := 0) D82_48 rfl cT_6_113 rfl rfl, aw_istore_5 (pc2 := 53) D82_51 rfl, aw_aload_4 (pc2 := 55) D82_53 rfl, aw_aloadN_4 (pc2 := 55) D82_53 rfl, aw_iload_2 (pc2 := 56) D82_55 rfl, aw_iload_3 (pc2 := 57) D82_56 rfl, aw_iv2_0 (pc2 := 60) (o := 0) D82_57 rfl cT_6_116 rfl rfl, aw_iload_5 (pc2 := 62) D82_60 rfl, aw_iret D82_62 rfl, C_bookAtN x0 x1, C_ref3, sh_0, psh_s, kil_i, kil_r, kil_n, catS_0, and_self, true_and]
    exact hk.ref h (by omega) (by omega)
  | some b =>
    simp only [hx] at hk
    obtain ⟨hb, rfl⟩ := bkOf_some hx
    have hB := bf (Ln := Ln) hb
    have hh := h.1 b hb
    have hN := (hs.1 b hb).2.1
    by_cases ho : okS (σ.1 b).N s
    · rw [ifT ho] at hk
      obtain ⟨q1, q2, -⟩ := sgn hN ho
      have ho' : ¬ s = 0 ∧ -(I (bkc b) 4) ≤ s ∧ s ≤ I (bkc b) 4 := by rw [hh.1]; exact ho
      simp only [aw_aload_0 (pc2 := 1) D82_0 rfl, aw_aloadN_0 (pc2 := 1) D82_0 rfl, aw_iload_1 (pc2 := 2) D82_1 rfl, aw_iv1_0 (pc2 := 5) (o := 6) D82_2 rfl cT_6_55 rfl rfl, aw_astore_4 (pc2 := 7) D82_5 rfl, aw_astoreN_4 (pc2 := 7) D82_5 rfl, aw_aload_4 (pc2 := 9) D82_7 rfl, aw_aloadN_4 (pc2 := 9) D82_7 rfl, aw_ifnull (pc2 := 12) D82_9 rfl, aw_ifnullN (t := 21) D82_9 (by decide), aw_aload_4 (pc2 := 14) D82_12 rfl, aw_aloadN_4 (pc2 := 14) D82_12 rfl, aw_iload_2 (pc2 := 15) D82_14 rfl, aw_iv1_0 (pc2 := 18) (o := 0) D82_15 rfl cT_6_81 rfl rfl, aw_if_ne (pc2 := 21) (t := 28) D82_18 (by decide) rfl, aw_aload_0 (pc2 := 22) D82_21 rfl, aw_aloadN_0 (pc2 := 22) D82_21 rfl, aw_bipush (pc2 := 24) (y := -3) D82_22 rfl (by decide), aw_iv1_0 (pc2 := 27) (o := 6) D82_24 rfl cT_6_59 rfl rfl, aw_iret D82_27 rfl, aw_iload_3 (pc2 := 29) D82_28 rfl, aw_if_lt (pc2 := 32) (t := 38) D82_29 (by decide) rfl, aw_iload_3 (pc2 := 33) D82_32 rfl, aw_bipush (pc2 := 35) (y := 7) D82_33 rfl (by decide), aw_icmp_le (pc2 := 38) (t := 45) D82_35 (by decide) rfl, aw_aload_0 (pc2 := 39) D82_38 rfl, aw_aloadN_0 (pc2 := 39) D82_38 rfl, aw_bipush (pc2 := 41) (y := -7) D82_39 rfl (by decide), aw_iv1_0 (pc2 := 44) (o := 6) D82_41 rfl cT_6_59 rfl rfl, aw_iret D82_44 rfl, aw_aload_4 (pc2 := 47) D82_45 rfl, aw_aloadN_4 (pc2 := 47) D82_45 rfl, aw_iload_2 (pc2 := 48) D82_47 rfl, aw_iv1_0 (pc2 := 51) (o := 0) D82_48 rfl cT_6_113 rfl rfl, aw_istore_5 (pc2 := 53) D82_51 rfl, aw_aload_4 (pc2 := 55) D82_53 rfl, aw_aloadN_4 (pc2 := 55) D82_53 rfl, aw_iload_2 (pc2 := 56) D82_55 rfl, aw_iload_3 (pc2 := 57) D82_56 rfl, aw_iv2_0 (pc2 := 60) (o := 0) D82_57 rfl cT_6_116 rfl rfl, aw_iload_5 (pc2 := 62) D82_60 rfl, aw_iret D82_62 rfl, C_bookAt hb, C_ref7, C_ref3, C_hasSign hB, C_weightOf hB ho' q1 q2, C_setWeight hB ho' q1 q2, if_pos ho', sh_0, hB.1.1, psh_s, psh_n, kil_i, kil_r, kil_n, catS_0, and_self, true_and]
      rw [if_pos (by decide)]
      by_cases h1 : w < 0
      · rw [if_pos h1]
        rw [if_neg (fun q => by have := q.1; rw [fa_lt] at h1; rw [fa_le] at this; omega)] at hk
        exact hk.ref h (by omega) (by omega)
      · rw [if_neg h1]
        by_cases h2 : w ≤ 7
        · rw [if_pos h2]
          rw [if_pos ⟨fa_of_nlt h1, h2⟩] at hk
          obtain ⟨j, hj, rfl⟩ := nI_of h1
          rw [nI_clamp hj] at hk
          rw [hh.2.2.2.2.2.1 _ q2]
          refine hk _ _ (h.setB hb ⟨?_, ?_, fun i hi => ?_, ?_, ?_, fun p hp => ?_, ?_⟩ (fun c hc => ?_)) (fun c hc => ?_) FrC.rf
          · rw [up2_off (by omega)]; exact hh.1
          · rw [up2_off (by omega)]; exact hh.2.1
          · rw [up2_off (by omega)]; exact hh.2.2.1 i hi
          · rw [up2_off (by omega)]; exact hh.2.2.2.1
          · rw [up2_off (by omega)]; exact hh.2.2.2.2.1
          · rw [up2_f]
            show _ = nI (up1 (σ.1 b).wt (plN s.toInt) j p)
            unfold up1
            by_cases e : p = plN s.toInt
            · simp [e]
            · simp [e, hh.2.2.2.2.2.1 p hp]
          · exact (show CGo (bkc b) (σ.1 b).N (σ.1 b).g _ J from CBg hh (by rw [up2_off (by omega)]) (fun c _ _ => up2_off (by omega)))
          · rw [up2_off (by omega)]
          · rw [up2_off (by unfold bkc; omega)]
        · rw [if_neg h2]
          rw [if_neg (fun q => h2 q.2)] at hk
          exact hk.ref h (by omega) (by omega)
    · rw [if_neg ho] at hk
      have ho' : ¬ (¬ s = 0 ∧ -(I (bkc b) 4) ≤ s ∧ s ≤ I (bkc b) 4) := by rw [hh.1]; exact ho
      simp only [aw_aload_0 (pc2 := 1) D82_0 rfl, aw_aloadN_0 (pc2 := 1) D82_0 rfl, aw_iload_1 (pc2 := 2) D82_1 rfl, aw_iv1_0 (pc2 := 5) (o := 6) D82_2 rfl cT_6_55 rfl rfl, aw_astore_4 (pc2 := 7) D82_5 rfl, aw_astoreN_4 (pc2 := 7) D82_5 rfl, aw_aload_4 (pc2 := 9) D82_7 rfl, aw_aloadN_4 (pc2 := 9) D82_7 rfl, aw_ifnull (pc2 := 12) D82_9 rfl, aw_ifnullN (t := 21) D82_9 (by decide), aw_aload_4 (pc2 := 14) D82_12 rfl, aw_aloadN_4 (pc2 := 14) D82_12 rfl, aw_iload_2 (pc2 := 15) D82_14 rfl, aw_iv1_0 (pc2 := 18) (o := 0) D82_15 rfl cT_6_81 rfl rfl, aw_if_ne (pc2 := 21) (t := 28) D82_18 (by decide) rfl, aw_aload_0 (pc2 := 22) D82_21 rfl, aw_aloadN_0 (pc2 := 22) D82_21 rfl, aw_bipush (pc2 := 24) (y := -3) D82_22 rfl (by decide), aw_iv1_0 (pc2 := 27) (o := 6) D82_24 rfl cT_6_59 rfl rfl, aw_iret D82_27 rfl, C_bookAt hb, C_ref3, C_hasSign hB, if_neg ho', sh_0, hB.1.1, psh_s, psh_n, kil_i, kil_r, kil_n, catS_0, and_self, true_and]
      rw [if_neg (by decide)]
      exact hk.ref h (by omega) (by omega)
theorem CO_loose {x s : Int32} (hs : sgOK σ) (h : CInv σ I J) (hk : CPost Ln I J K (oLoose σ x s)) : ACall (d + 3) 81 [.ref 0, .int x, .int s] (G0 Ln) I J K := by
  rw [ACall_0 (L0 := [.ref 0, .int x, .int s, nv, nv, nv]) (show mcs 81 = (0, 0) from rfl) (show entL 81 [.ref 0, .int x, .int s] = _ from rfl) rfl (Nat.le_of_ble_eq_true rfl)]
  unfold oLoose at hk
  cases hx : bkOf x with
  | none =>
    simp only [hx] at hk
    obtain ⟨x0, x1⟩ := bkOf_none hx
    simp only [aw_aload_0 (pc2 := 1) D81_0 rfl, aw_aloadN_0 (pc2 := 1) D81_0 rfl, aw_iload_1 (pc2 := 2) D81_1 rfl, aw_iv1_0 (pc2 := 5) (o := 6) D81_2 rfl cT_6_55 rfl rfl, aw_astore_3 (pc2 := 6) D81_5 rfl, aw_astoreN_3 (pc2 := 6) D81_5 rfl, aw_aload_3 (pc2 := 7) D81_6 rfl, aw_aloadN_3 (pc2 := 7) D81_6 rfl, aw_ifnull (pc2 := 10) D81_7 rfl, aw_ifnullN (t := 18) D81_7 (by decide), aw_aload_3 (pc2 := 11) D81_10 rfl, aw_aloadN_3 (pc2 := 11) D81_10 rfl, aw_iload_2 (pc2 := 12) D81_11 rfl, aw_iv1_0 (pc2 := 15) (o := 0) D81_12 rfl cT_6_101 rfl rfl, aw_if_ne (pc2 := 18) (t := 25) D81_15 (by decide) rfl, aw_aload_0 (pc2 := 19) D81_18 rfl, aw_aloadN_0 (pc2 := 19) D81_18 rfl, aw_bipush (pc2 := 21) (y := -3) D81_19 rfl (by decide), aw_iv1_0 (pc2 := 24) (o := 6) D81_21 rfl cT_6_59 rfl rfl, aw_iret D81_24 rfl, C_bookAtN x0 x1, C_ref3, sh_0, psh_s, kil_i, kil_r, kil_n, catS_0, and_self, true_and]
    exact hk.ref h (by omega) (by omega)
  | some b =>
    simp only [hx] at hk
    obtain ⟨hb, rfl⟩ := bkOf_some hx
    have hB := bf (Ln := Ln) hb
    have hh := h.1 b hb
    have hN := (hs.1 b hb).2.1
    by_cases ho : 1 ≤ s ∧ s ≤ nI (σ.1 b).N
    · rw [if_pos ho] at hk
      obtain ⟨k1, k2, k3⟩ := letter_ok hN ho
      obtain ⟨q1, q2, q3, q4, q5, -, -, q8, -⟩ := sgn hN k1
      have ho' : 1 ≤ s ∧ s ≤ I (bkc b) 4 := by rw [hh.1]; exact ho
      simp only [aw_aload_0 (pc2 := 1) D81_0 rfl, aw_aloadN_0 (pc2 := 1) D81_0 rfl, aw_iload_1 (pc2 := 2) D81_1 rfl, aw_iv1_0 (pc2 := 5) (o := 6) D81_2 rfl cT_6_55 rfl rfl, aw_astore_3 (pc2 := 6) D81_5 rfl, aw_astoreN_3 (pc2 := 6) D81_5 rfl, aw_aload_3 (pc2 := 7) D81_6 rfl, aw_aloadN_3 (pc2 := 7) D81_6 rfl, aw_ifnull (pc2 := 10) D81_7 rfl, aw_ifnullN (t := 18) D81_7 (by decide), aw_aload_3 (pc2 := 11) D81_10 rfl, aw_aloadN_3 (pc2 := 11) D81_10 rfl, aw_iload_2 (pc2 := 12) D81_11 rfl, aw_iv1_0 (pc2 := 15) (o := 0) D81_12 rfl cT_6_101 rfl rfl, aw_if_ne (pc2 := 18) (t := 25) D81_15 (by decide) rfl, aw_aload_0 (pc2 := 19) D81_18 rfl, aw_aloadN_0 (pc2 := 19) D81_18 rfl, aw_bipush (pc2 := 21) (y := -3) D81_19 rfl (by decide), aw_iv1_0 (pc2 := 24) (o := 6) D81_21 rfl cT_6_59 rfl rfl, aw_iret D81_24 rfl, aw_iload_2 (pc2 := 26) D81_25 rfl, aw_is1_2 (pc2 := 29) D81_26 rfl cT_6_74 rfl, aw_iload_2 (pc2 := 30) D81_29 rfl, aw_ineg (pc2 := 31) D81_30 rfl, aw_is1_2 (pc2 := 34) D81_31 rfl cT_6_74 rfl, aw_ior (pc2 := 35) D81_34 rfl, aw_istore_4 (pc2 := 37) D81_35 rfl, aw_aload_3 (pc2 := 38) D81_37 rfl, aw_aloadN_3 (pc2 := 38) D81_37 rfl, aw_getI (pc2 := 41) (ci := 0) (fk := 7) D81_38 rfl fT_6_110 rfl, aw_iload_4 (pc2 := 43) D81_41 rfl, aw_iand (pc2 := 44) D81_43 rfl, aw_if_eq (pc2 := 47) (t := 51) D81_44 (by decide) rfl, aw_iconst (pc2 := 48) (y := 1) D81_47 rfl (by decide), aw_goto (t := 52) D81_48 (by decide), aw_iconst (pc2 := 52) (y := 0) D81_51 rfl (by decide), aw_istore_5 (pc2 := 54) D81_52 rfl, aw_aload_3 (pc2 := 55) D81_54 rfl, aw_aloadN_3 (pc2 := 55) D81_54 rfl, aw_dup (pc2 := 56) D81_55 rfl, aw_getI (pc2 := 59) (ci := 0) (fk := 7) D81_56 rfl fT_6_110 rfl, aw_iload_4 (pc2 := 61) D81_59 rfl, aw_iconst (pc2 := 62) (y := -1) D81_61 rfl (by decide), aw_ixor (pc2 := 63) D81_62 rfl, aw_iand (pc2 := 64) D81_63 rfl, aw_putI (pc2 := 67) (ci := 0) (fk := 7) D81_64 rfl fT_6_110 rfl, aw_iload_5 (pc2 := 69) D81_67 rfl, aw_if_eq (pc2 := 72) (t := 76) D81_69 (by decide) rfl, aw_iconst (pc2 := 73) (y := 1) D81_72 rfl (by decide), aw_goto (t := 77) D81_73 (by decide), aw_iconst (pc2 := 77) (y := 0) D81_76 rfl (by decide), aw_iret D81_77 rfl, C_bookAt hb, C_ref3, C_hasLetter hB, C_bitOf, q3, q4, fa_or, nI_nclr, fa_and, hh.2.2.2.2.1, if_pos ho', sh_0, hB.1.1, psh_s, psh_n, kil_i, kil_r, kil_n, cat_r, catS_0, catS_1, and_self, true_and]
      rw [if_pos (by decide)]
      have hc : CInv (setB σ b ((σ.1 b).N, (σ.1 b).cl, (σ.1 b).ak, nclr (σ.1 b).fx (2 ^ plN s.toInt ||| 2 ^ plN (-s.toInt)), (σ.1 b).wt, (σ.1 b).g)) (up2 I (bkc b) 7 (nI (nclr (σ.1 b).fx (2 ^ plN s.toInt ||| 2 ^ plN (-s.toInt))))) J := by
        refine h.setB hb ⟨?_, ?_, fun i hi => ?_, ?_, ?_, fun p hp => ?_, ?_⟩ (fun c hc => up2_off (by omega))
        · simp [up2_f]; exact hh.1
        · simp [up2_f]; exact hh.2.1
        · rw [up2_off (by omega)]; exact hh.2.2.1 i hi
        · simp [up2_f]; exact hh.2.2.2.1
        · simp [up2_f]
        · rw [up2_off (by omega)]; exact hh.2.2.2.2.2.1 p hp
        · exact (show CGo (bkc b) (σ.1 b).N (σ.1 b).g _ J from CBg hh (by simp [up2_f]) (fun c _ _ => up2_off (by omega)))
      have key := hk _ _ hc (FrC.up (by unfold bkc; omega)) FrC.rf
      have hf := (hs.1 b hb).2.2.2.2.2.1.1
      by_cases hz : nI ((σ.1 b).fx &&& (2 ^ plN s.toInt ||| 2 ^ plN (-s.toInt))) = 0
      · rw [if_pos hz, ifT trivial]
        rw [(or2_bits hf).mp hz] at key
        exact key
      · rw [if_neg hz, if_neg (by decide)]
        rw [show ((σ.1 b).fx.testBit (plN s.toInt) || (σ.1 b).fx.testBit (plN (-s.toInt))) = true by
          cases e : ((σ.1 b).fx.testBit (plN s.toInt) || (σ.1 b).fx.testBit (plN (-s.toInt)))
          · exact absurd ((or2_bits hf).mpr e) hz
          · rfl] at key
        exact key
    · rw [if_neg ho] at hk
      have ho' : ¬ (1 ≤ s ∧ s ≤ I (bkc b) 4) := by rw [hh.1]; exact ho
      simp only [aw_aload_0 (pc2 := 1) D81_0 rfl, aw_aloadN_0 (pc2 := 1) D81_0 rfl, aw_iload_1 (pc2 := 2) D81_1 rfl, aw_iv1_0 (pc2 := 5) (o := 6) D81_2 rfl cT_6_55 rfl rfl, aw_astore_3 (pc2 := 6) D81_5 rfl, aw_astoreN_3 (pc2 := 6) D81_5 rfl, aw_aload_3 (pc2 := 7) D81_6 rfl, aw_aloadN_3 (pc2 := 7) D81_6 rfl, aw_ifnull (pc2 := 10) D81_7 rfl, aw_ifnullN (t := 18) D81_7 (by decide), aw_aload_3 (pc2 := 11) D81_10 rfl, aw_aloadN_3 (pc2 := 11) D81_10 rfl, aw_iload_2 (pc2 := 12) D81_11 rfl, aw_iv1_0 (pc2 := 15) (o := 0) D81_12 rfl cT_6_101 rfl rfl, aw_if_ne (pc2 := 18) (t := 25) D81_15 (by decide) rfl, aw_aload_0 (pc2 := 19) D81_18 rfl, aw_aloadN_0 (pc2 := 19) D81_18 rfl, aw_bipush (pc2 := 21) (y := -3) D81_19 rfl (by decide), aw_iv1_0 (pc2 := 24) (o := 6) D81_21 rfl cT_6_59 rfl rfl, aw_iret D81_24 rfl, C_bookAt hb, C_ref3, C_hasLetter hB, if_neg ho', sh_0, hB.1.1, psh_s, psh_n, kil_i, kil_r, kil_n, catS_0, and_self, true_and]
      rw [if_neg (by decide)]
      exact hk.ref h (by omega) (by omega)
theorem CO_fix {x s : Int32} (hs : sgOK σ) (h : CInv σ I J) (hk : CPost Ln I J K (oFix σ x s)) : ACall (d + 3) 80 [.ref 0, .int x, .int s] (G0 Ln) I J K := by
  rw [ACall_0 (L0 := [.ref 0, .int x, .int s, nv, nv, nv, nv]) (show mcs 80 = (0, 0) from rfl) (show entL 80 [.ref 0, .int x, .int s] = _ from rfl) rfl (Nat.le_of_ble_eq_true rfl)]
  unfold oFix at hk
  cases hx : bkOf x with
  | none =>
    simp only [hx] at hk
    obtain ⟨x0, x1⟩ := bkOf_none hx
    simp only [aw_aload_0 (pc2 := 1) D80_0 rfl, aw_aloadN_0 (pc2 := 1) D80_0 rfl, aw_iload_1 (pc2 := 2) D80_1 rfl, aw_iv1_0 (pc2 := 5) (o := 6) D80_2 rfl cT_6_55 rfl rfl, aw_astore_3 (pc2 := 6) D80_5 rfl, aw_astoreN_3 (pc2 := 6) D80_5 rfl, aw_aload_3 (pc2 := 7) D80_6 rfl, aw_aloadN_3 (pc2 := 7) D80_6 rfl, aw_ifnull (pc2 := 10) D80_7 rfl, aw_ifnullN (t := 18) D80_7 (by decide), aw_aload_3 (pc2 := 11) D80_10 rfl, aw_aloadN_3 (pc2 := 11) D80_10 rfl, aw_iload_2 (pc2 := 12) D80_11 rfl, aw_iv1_0 (pc2 := 15) (o := 0) D80_12 rfl cT_6_81 rfl rfl, aw_if_ne (pc2 := 18) (t := 25) D80_15 (by decide) rfl, aw_aload_0 (pc2 := 19) D80_18 rfl, aw_aloadN_0 (pc2 := 19) D80_18 rfl, aw_bipush (pc2 := 21) (y := -3) D80_19 rfl (by decide), aw_iv1_0 (pc2 := 24) (o := 6) D80_21 rfl cT_6_59 rfl rfl, aw_iret D80_24 rfl, C_bookAtN x0 x1, C_ref3, sh_0, psh_s, kil_i, kil_r, kil_n, catS_0, and_self, true_and]
    exact hk.ref h (by omega) (by omega)
  | some b =>
    simp only [hx] at hk
    obtain ⟨hb, rfl⟩ := bkOf_some hx
    have hB := bf (Ln := Ln) hb
    have hh := h.1 b hb
    have hN := (hs.1 b hb).2.1
    by_cases ho : okS (σ.1 b).N s
    · rw [ifT ho] at hk
      obtain ⟨q1, q2, q3, q4, q5, -, -, q8, -⟩ := sgn hN ho
      have ho' : ¬ s = 0 ∧ -(I (bkc b) 4) ≤ s ∧ s ≤ I (bkc b) 4 := by rw [hh.1]; exact ho
      simp only [aw_aload_0 (pc2 := 1) D80_0 rfl, aw_aloadN_0 (pc2 := 1) D80_0 rfl, aw_iload_1 (pc2 := 2) D80_1 rfl, aw_iv1_0 (pc2 := 5) (o := 6) D80_2 rfl cT_6_55 rfl rfl, aw_astore_3 (pc2 := 6) D80_5 rfl, aw_astoreN_3 (pc2 := 6) D80_5 rfl, aw_aload_3 (pc2 := 7) D80_6 rfl, aw_aloadN_3 (pc2 := 7) D80_6 rfl, aw_ifnull (pc2 := 10) D80_7 rfl, aw_ifnullN (t := 18) D80_7 (by decide), aw_aload_3 (pc2 := 11) D80_10 rfl, aw_aloadN_3 (pc2 := 11) D80_10 rfl, aw_iload_2 (pc2 := 12) D80_11 rfl, aw_iv1_0 (pc2 := 15) (o := 0) D80_12 rfl cT_6_81 rfl rfl, aw_if_ne (pc2 := 18) (t := 25) D80_15 (by decide) rfl, aw_aload_0 (pc2 := 19) D80_18 rfl, aw_aloadN_0 (pc2 := 19) D80_18 rfl, aw_bipush (pc2 := 21) (y := -3) D80_19 rfl (by decide), aw_iv1_0 (pc2 := 24) (o := 6) D80_21 rfl cT_6_59 rfl rfl, aw_iret D80_24 rfl, aw_iload_2 (pc2 := 26) D80_25 rfl, aw_is1_2 (pc2 := 29) D80_26 rfl cT_6_74 rfl, aw_istore_4 (pc2 := 31) D80_29 rfl, aw_iload_2 (pc2 := 32) D80_31 rfl, aw_ineg (pc2 := 33) D80_32 rfl, aw_is1_2 (pc2 := 36) D80_33 rfl cT_6_74 rfl, aw_istore_5 (pc2 := 38) D80_36 rfl, aw_aload_3 (pc2 := 39) D80_38 rfl, aw_aloadN_3 (pc2 := 39) D80_38 rfl, aw_getI (pc2 := 42) (ci := 0) (fk := 7) D80_39 rfl fT_6_110 rfl, aw_iload_4 (pc2 := 44) D80_42 rfl, aw_iand (pc2 := 45) D80_44 rfl, aw_if_eq (pc2 := 48) (t := 50) D80_45 (by decide) rfl, aw_iconst (pc2 := 49) (y := 0) D80_48 rfl (by decide), aw_iret D80_49 rfl, aw_aload_3 (pc2 := 51) D80_50 rfl, aw_aloadN_3 (pc2 := 51) D80_50 rfl, aw_getI (pc2 := 54) (ci := 0) (fk := 7) D80_51 rfl fT_6_110 rfl, aw_iload_5 (pc2 := 56) D80_54 rfl, aw_iand (pc2 := 57) D80_56 rfl, aw_if_eq (pc2 := 60) (t := 64) D80_57 (by decide) rfl, aw_iconst (pc2 := 61) (y := 1) D80_60 rfl (by decide), aw_goto (t := 65) D80_61 (by decide), aw_iconst (pc2 := 65) (y := 0) D80_64 rfl (by decide), aw_istore_6 (pc2 := 67) D80_65 rfl, aw_aload_3 (pc2 := 68) D80_67 rfl, aw_aloadN_3 (pc2 := 68) D80_67 rfl, aw_aload_3 (pc2 := 69) D80_68 rfl, aw_aloadN_3 (pc2 := 69) D80_68 rfl, aw_getI (pc2 := 72) (ci := 0) (fk := 7) D80_69 rfl fT_6_110 rfl, aw_iload_5 (pc2 := 74) D80_72 rfl, aw_iconst (pc2 := 75) (y := -1) D80_74 rfl (by decide), aw_ixor (pc2 := 76) D80_75 rfl, aw_iand (pc2 := 77) D80_76 rfl, aw_iload_4 (pc2 := 79) D80_77 rfl, aw_ior (pc2 := 80) D80_79 rfl, aw_putI (pc2 := 83) (ci := 0) (fk := 7) D80_80 rfl fT_6_110 rfl, aw_iload_6 (pc2 := 85) D80_83 rfl, aw_if_eq (pc2 := 88) (t := 92) D80_85 (by decide) rfl, aw_iconst (pc2 := 89) (y := 2) D80_88 rfl (by decide), aw_goto (t := 93) D80_89 (by decide), aw_iconst (pc2 := 93) (y := 1) D80_92 rfl (by decide), aw_iret D80_93 rfl, C_bookAt hb, C_ref3, C_hasSign hB, C_bitOf, q3, q4, hh.2.2.2.2.1, if_pos ho', nI_nclr, fa_or, bit_test (show plN s.toInt < 31 by omega), bit_test (show plN (-s.toInt) < 31 by omega), sh_0, hB.1.1, psh_s, psh_n, kil_i, kil_r, kil_n, cat_r, catS_0, catS_1, and_self, true_and]
      rw [if_pos (by decide)]
      cases e1 : (σ.1 b).fx.testBit (plN s.toInt)
      · rw [e1, if_neg (by decide)] at hk
        rw [ifT rfl]
        have hc : CInv (setB σ b ((σ.1 b).N, (σ.1 b).cl, (σ.1 b).ak, nclr (σ.1 b).fx (2 ^ plN (-s.toInt)) ||| 2 ^ plN s.toInt, (σ.1 b).wt, (σ.1 b).g)) (up2 I (bkc b) 7 (nI (nclr (σ.1 b).fx (2 ^ plN (-s.toInt)) ||| 2 ^ plN s.toInt))) J := by
          refine h.setB hb ⟨?_, ?_, fun i hi => ?_, ?_, ?_, fun p hp => ?_, ?_⟩ (fun c hc => up2_off (by omega))
          · simp [up2_f]; exact hh.1
          · simp [up2_f]; exact hh.2.1
          · rw [up2_off (by omega)]; exact hh.2.2.1 i hi
          · simp [up2_f]; exact hh.2.2.2.1
          · simp [up2_f]
          · rw [up2_off (by omega)]; exact hh.2.2.2.2.2.1 p hp
          · exact (show CGo (bkc b) (σ.1 b).N (σ.1 b).g _ J from CBg hh (by simp [up2_f]) (fun c _ _ => up2_off (by omega)))
        have key := hk _ _ hc (FrC.up (by unfold bkc; omega)) FrC.rf
        cases e2 : (σ.1 b).fx.testBit (plN (-s.toInt))
        · rw [e2, if_neg (by decide)] at key
          rw [ifT rfl, ifT trivial]
          exact key
        · rw [e2, if_pos rfl] at key
          rw [if_neg (by decide), if_neg (by decide)]
          exact key
      · rw [e1, if_pos rfl] at hk
        rw [if_neg (by decide)]
        exact hk.same h
    · rw [if_neg ho] at hk
      have ho' : ¬ (¬ s = 0 ∧ -(I (bkc b) 4) ≤ s ∧ s ≤ I (bkc b) 4) := by rw [hh.1]; exact ho
      simp only [aw_aload_0 (pc2 := 1) D80_0 rfl, aw_aloadN_0 (pc2 := 1) D80_0 rfl, aw_iload_1 (pc2 := 2) D80_1 rfl, aw_iv1_0 (pc2 := 5) (o := 6) D80_2 rfl cT_6_55 rfl rfl, aw_astore_3 (pc2 := 6) D80_5 rfl, aw_astoreN_3 (pc2 := 6) D80_5 rfl, aw_aload_3 (pc2 := 7) D80_6 rfl, aw_aloadN_3 (pc2 := 7) D80_6 rfl, aw_ifnull (pc2 := 10) D80_7 rfl, aw_ifnullN (t := 18) D80_7 (by decide), aw_aload_3 (pc2 := 11) D80_10 rfl, aw_aloadN_3 (pc2 := 11) D80_10 rfl, aw_iload_2 (pc2 := 12) D80_11 rfl, aw_iv1_0 (pc2 := 15) (o := 0) D80_12 rfl cT_6_81 rfl rfl, aw_if_ne (pc2 := 18) (t := 25) D80_15 (by decide) rfl, aw_aload_0 (pc2 := 19) D80_18 rfl, aw_aloadN_0 (pc2 := 19) D80_18 rfl, aw_bipush (pc2 := 21) (y := -3) D80_19 rfl (by decide), aw_iv1_0 (pc2 := 24) (o := 6) D80_21 rfl cT_6_59 rfl rfl, aw_iret D80_24 rfl, C_bookAt hb, C_ref3, C_hasSign hB, if_neg ho', sh_0, hB.1.1, psh_s, psh_n, kil_i, kil_r, kil_n, catS_0, and_self, true_and]
      rw [if_neg (by decide)]
      exact hk.ref h (by omega) (by omega)
theorem xor_bit {a p : Nat} : nI a ^^^ nI (2 ^ p) = nI (a ^^^ 2 ^ p) := fb_xorI _ _
theorem CO_ask {x l : Int32} {is : Bool} (hs : sgOK σ) (h : CInv σ I J) (hk : CPost Ln I J K (oAsk σ x l is)) : ACall (d + 3) 79 [.ref 0, .int x, .int l, .int (bI is)] (G0 Ln) I J K := by
  rw [ACall_0 (L0 := [.ref 0, .int x, .int l, .int (bI is), nv, nv, nv]) (show mcs 79 = (0, 0) from rfl) (show entL 79 [.ref 0, .int x, .int l, .int (bI is)] = _ from rfl) rfl (Nat.le_of_ble_eq_true rfl)]
  unfold oAsk at hk
  cases hx : bkOf x with
  | none =>
    simp only [hx] at hk
    obtain ⟨x0, x1⟩ := bkOf_none hx
    simp only [aw_aload_0 (pc2 := 1) D79_0 rfl, aw_aloadN_0 (pc2 := 1) D79_0 rfl, aw_iload_1 (pc2 := 2) D79_1 rfl, aw_iv1_0 (pc2 := 5) (o := 6) D79_2 rfl cT_6_55 rfl rfl, aw_astore_4 (pc2 := 7) D79_5 rfl, aw_astoreN_4 (pc2 := 7) D79_5 rfl, aw_aload_4 (pc2 := 9) D79_7 rfl, aw_aloadN_4 (pc2 := 9) D79_7 rfl, aw_ifnull (pc2 := 12) D79_9 rfl, aw_ifnullN (t := 21) D79_9 (by decide), aw_aload_4 (pc2 := 14) D79_12 rfl, aw_aloadN_4 (pc2 := 14) D79_12 rfl, aw_iload_2 (pc2 := 15) D79_14 rfl, aw_iv1_0 (pc2 := 18) (o := 0) D79_15 rfl cT_6_101 rfl rfl, aw_if_ne (pc2 := 21) (t := 28) D79_18 (by decide) rfl, aw_aload_0 (pc2 := 22) D79_21 rfl, aw_aloadN_0 (pc2 := 22) D79_21 rfl, aw_bipush (pc2 := 24) (y := -3) D79_22 rfl (by decide), aw_iv1_0 (pc2 := 27) (o := 6) D79_24 rfl cT_6_59 rfl rfl, aw_iret D79_27 rfl, C_bookAtN x0 x1, C_ref3, sh_0, psh_s, kil_i, kil_r, kil_n, catS_0, and_self, true_and]
    exact hk.ref h (by omega) (by omega)
  | some b =>
    simp only [hx] at hk
    obtain ⟨hb, rfl⟩ := bkOf_some hx
    have hB := bf (Ln := Ln) hb
    have hh := h.1 b hb
    have hN := (hs.1 b hb).2.1
    by_cases ho : 1 ≤ l ∧ l ≤ nI (σ.1 b).N
    · rw [if_pos ho] at hk
      obtain ⟨k1, k2, k3⟩ := letter_ok hN ho
      obtain ⟨q1, q2, q3, -⟩ := sgn hN k1
      have ho' : 1 ≤ l ∧ l ≤ I (bkc b) 4 := by rw [hh.1]; exact ho
      rw [pl_pos k2] at q3 q2
      simp only [aw_aload_0 (pc2 := 1) D79_0 rfl, aw_aloadN_0 (pc2 := 1) D79_0 rfl, aw_iload_1 (pc2 := 2) D79_1 rfl, aw_iv1_0 (pc2 := 5) (o := 6) D79_2 rfl cT_6_55 rfl rfl, aw_astore_4 (pc2 := 7) D79_5 rfl, aw_astoreN_4 (pc2 := 7) D79_5 rfl, aw_aload_4 (pc2 := 9) D79_7 rfl, aw_aloadN_4 (pc2 := 9) D79_7 rfl, aw_ifnull (pc2 := 12) D79_9 rfl, aw_ifnullN (t := 21) D79_9 (by decide), aw_aload_4 (pc2 := 14) D79_12 rfl, aw_aloadN_4 (pc2 := 14) D79_12 rfl, aw_iload_2 (pc2 := 15) D79_14 rfl, aw_iv1_0 (pc2 := 18) (o := 0) D79_15 rfl cT_6_101 rfl rfl, aw_if_ne (pc2 := 21) (t := 28) D79_18 (by decide) rfl, aw_aload_0 (pc2 := 22) D79_21 rfl, aw_aloadN_0 (pc2 := 22) D79_21 rfl, aw_bipush (pc2 := 24) (y := -3) D79_22 rfl (by decide), aw_iv1_0 (pc2 := 27) (o := 6) D79_24 rfl cT_6_59 rfl rfl, aw_iret D79_27 rfl, aw_iload_2 (pc2 := 29) D79_28 rfl, aw_is1_2 (pc2 := 32) D79_29 rfl cT_6_74 rfl, aw_istore_5 (pc2 := 34) D79_32 rfl, aw_aload_4 (pc2 := 36) D79_34 rfl, aw_aloadN_4 (pc2 := 36) D79_34 rfl, aw_getI (pc2 := 39) (ci := 0) (fk := 6) D79_36 rfl fT_6_104 rfl, aw_iload_5 (pc2 := 41) D79_39 rfl, aw_iand (pc2 := 42) D79_41 rfl, aw_if_eq (pc2 := 45) (t := 49) D79_42 (by decide) rfl, aw_iconst (pc2 := 46) (y := 1) D79_45 rfl (by decide), aw_goto (t := 50) D79_46 (by decide), aw_iconst (pc2 := 50) (y := 0) D79_49 rfl (by decide), aw_istore_6 (pc2 := 52) D79_50 rfl, aw_iload_6 (pc2 := 54) D79_52 rfl, aw_iload_3 (pc2 := 55) D79_54 rfl, aw_icmp_eq (pc2 := 58) (t := 76) D79_55 (by decide) rfl, aw_aload_4 (pc2 := 60) D79_58 rfl, aw_aloadN_4 (pc2 := 60) D79_58 rfl, aw_dup (pc2 := 61) D79_60 rfl, aw_getI (pc2 := 64) (ci := 0) (fk := 6) D79_61 rfl fT_6_104 rfl, aw_iload_5 (pc2 := 66) D79_64 rfl, aw_ixor (pc2 := 67) D79_66 rfl, aw_putI (pc2 := 70) (ci := 0) (fk := 6) D79_67 rfl fT_6_104 rfl, aw_aload_4 (pc2 := 72) D79_70 rfl, aw_aloadN_4 (pc2 := 72) D79_70 rfl, aw_iconst (pc2 := 73) (y := 0) D79_72 rfl (by decide), aw_putZ (pc2 := 76) (ci := 0) (fk := 8) D79_73 rfl fT_6_107 rfl, aw_iload_6 (pc2 := 78) D79_76 rfl, aw_if_eq (pc2 := 81) (t := 85) D79_78 (by decide) rfl, aw_iconst (pc2 := 82) (y := 1) D79_81 rfl (by decide), aw_goto (t := 86) D79_82 (by decide), aw_iconst (pc2 := 86) (y := 0) D79_85 rfl (by decide), aw_iret D79_86 rfl, C_bookAt hb, C_ref3, C_hasLetter hB, C_bitOf, q3, hh.2.2.2.1, if_pos ho', xor_bit, bit_test (show l.toInt.toNat - 1 < 31 by omega), sh_0, hB.1.1, psh_s, psh_n, kil_i, kil_r, kil_n, cat_r, catS_0, catS_1, and_self, true_and, true_or]
      rw [if_pos (by decide)]
      have hc : CInv (setB σ b ((σ.1 b).N, (σ.1 b).cl, (σ.1 b).ak ^^^ 2 ^ (l.toInt.toNat - 1), (σ.1 b).fx, (σ.1 b).wt, none)) (up2 (up2 I (bkc b) 6 (nI ((σ.1 b).ak ^^^ 2 ^ (l.toInt.toNat - 1)))) (bkc b) 8 0) J := by
        refine h.setB hb ⟨?_, ?_, fun i hi => ?_, ?_, ?_, fun p hp => ?_, ?_⟩ (fun c hc => by rw [up2_off (by omega), up2_off (by omega)])
        · simp [up2_f]; exact hh.1
        · simp [up2_f]; exact hh.2.1
        · rw [up2_off (by omega), up2_off (by omega)]; exact hh.2.2.1 i hi
        · simp [up2_f]
        · simp [up2_f]; exact hh.2.2.2.2.1
        · rw [up2_off (by omega), up2_off (by omega)]; exact hh.2.2.2.2.2.1 p hp
        · show up2 _ _ _ _ _ 8 = 0
          simp [up2_f]
      have hfr : FrC I (up2 (up2 I (bkc b) 6 (nI ((σ.1 b).ak ^^^ 2 ^ (l.toInt.toNat - 1)))) (bkc b) 8 0) := (FrC.up (by unfold bkc; omega)).tr (FrC.up (by unfold bkc; omega))
      cases e1 : (σ.1 b).ak.testBit (l.toInt.toNat - 1) <;> cases is <;> rw [e1] at hk
      · rw [ifT rfl, if_pos (by decide), ifT trivial]
        rw [if_pos rfl] at hk
        exact hk.same h
      · rw [ifT rfl, if_neg (by decide), ifT trivial]
        rw [if_neg (by decide)] at hk
        exact hk _ _ hc hfr FrC.rf
      · rw [if_neg (by decide), if_neg (by decide), if_neg (by decide)]
        rw [if_neg (by decide)] at hk
        exact hk _ _ hc hfr FrC.rf
      · rw [if_neg (by decide), if_pos (by decide), if_neg (by decide)]
        rw [if_pos rfl] at hk
        exact hk.same h
    · rw [if_neg ho] at hk
      have ho' : ¬ (1 ≤ l ∧ l ≤ I (bkc b) 4) := by rw [hh.1]; exact ho
      simp only [aw_aload_0 (pc2 := 1) D79_0 rfl, aw_aloadN_0 (pc2 := 1) D79_0 rfl, aw_iload_1 (pc2 := 2) D79_1 rfl, aw_iv1_0 (pc2 := 5) (o := 6) D79_2 rfl cT_6_55 rfl rfl, aw_astore_4 (pc2 := 7) D79_5 rfl, aw_astoreN_4 (pc2 := 7) D79_5 rfl, aw_aload_4 (pc2 := 9) D79_7 rfl, aw_aloadN_4 (pc2 := 9) D79_7 rfl, aw_ifnull (pc2 := 12) D79_9 rfl, aw_ifnullN (t := 21) D79_9 (by decide), aw_aload_4 (pc2 := 14) D79_12 rfl, aw_aloadN_4 (pc2 := 14) D79_12 rfl, aw_iload_2 (pc2 := 15) D79_14 rfl, aw_iv1_0 (pc2 := 18) (o := 0) D79_15 rfl cT_6_101 rfl rfl, aw_if_ne (pc2 := 21) (t := 28) D79_18 (by decide) rfl, aw_aload_0 (pc2 := 22) D79_21 rfl, aw_aloadN_0 (pc2 := 22) D79_21 rfl, aw_bipush (pc2 := 24) (y := -3) D79_22 rfl (by decide), aw_iv1_0 (pc2 := 27) (o := 6) D79_24 rfl cT_6_59 rfl rfl, aw_iret D79_27 rfl, C_bookAt hb, C_ref3, C_hasLetter hB, if_neg ho', sh_0, hB.1.1, psh_s, psh_n, kil_i, kil_r, kil_n, catS_0, and_self, true_and]
      rw [if_neg (by decide)]
      exact hk.ref h (by omega) (by omega)
end OpsB
