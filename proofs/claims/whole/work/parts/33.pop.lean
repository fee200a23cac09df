def rep (c : Nat) : Nat → Nat
  | 0 => 0
  | k + 1 => 256 * rep c k + c
theorem and_step {a b M c : Nat} (hb : b < 256) (hc : c < 256) : (256 * a + b) &&& (256 * M + c) = 256 * (a &&& M) + (b &&& c) := by
  have hbc : b &&& c < 2 ^ 8 := Nat.lt_of_le_of_lt Nat.and_le_left hb
  apply Nat.eq_of_testBit_eq
  intro i
  rw [Nat.testBit_and, show (256 : Nat) = 2 ^ 8 from rfl, Nat.testBit_two_pow_mul_add a (show b < 2 ^ 8 from hb), Nat.testBit_two_pow_mul_add M (show c < 2 ^ 8 from hc), Nat.testBit_two_pow_mul_add _ hbc]
  split
  · rw [Nat.testBit_and]
  · rw [Nat.testBit_and]
def p1 (m k : Nat) : Nat := m - (m / 2 &&& rep 85 k)
def p2 (x k : Nat) : Nat := (x &&& rep 51 k) + (x / 4 &&& rep 51 k)
def p3 (x k : Nat) : Nat := (x + x / 16) &&& rep 15 k
def f1 (b : Nat) : Nat := b - (b / 2 &&& 85)
def f2 (b : Nat) : Nat := (b &&& 51) + (b / 4 &&& 51)
theorem byt1 : ∀ b, b < 256 → ∀ t, t < 2 → (128 * t + b / 2 &&& 85) = (b / 2 &&& 85) ∧ (b / 2 &&& 85) ≤ b := by decide +kernel
theorem byt2 : ∀ b, b < 256 → ∀ t, t < 4 → (64 * t + b / 4 &&& 51) = (b / 4 &&& 51) := by decide +kernel
theorem byt3 : ∀ b, b < 256 → f1 b < 256 ∧ f2 (f1 b) % 16 ≤ 4 ∧ f2 (f1 b) / 16 ≤ 4 ∧ f2 (f1 b) % 16 + f2 (f1 b) / 16 = fb_ct (fun k => b.testBit k) 8 := by decide +kernel
theorem and15 : ∀ b, b < 256 → (b &&& 15) = b % 16 := by decide +kernel
theorem p1_step {a b k : Nat} (hb : b < 256) : p1 (256 * a + b) (k + 1) = 256 * p1 a k + f1 b := by
  unfold p1 f1
  have e : (256 * a + b) / 2 = 256 * (a / 2) + (128 * (a % 2) + b / 2) := by omega
  have h := byt1 b hb (a % 2) (by omega)
  rw [e, rep, and_step (by omega) (by omega), h.1]
  have h2 : (a / 2 &&& rep 85 k) ≤ a / 2 := Nat.and_le_left
  have h3 := h.2
  omega
theorem p2_step {a b k : Nat} (hb : b < 256) : p2 (256 * a + b) (k + 1) = 256 * p2 a k + f2 b := by
  unfold p2 f2
  have e : (256 * a + b) / 4 = 256 * (a / 4) + (64 * (a % 4) + b / 4) := by omega
  have h := byt2 b hb (a % 4) (by omega)
  rw [e, rep, and_step (by omega) (by omega), and_step (by omega) (by omega), h]
  omega
theorem p3_step {a b k : Nat} (h1 : b % 16 ≤ 4) (h2 : b / 16 ≤ 4) (h3 : a % 16 ≤ 4) : p3 (256 * a + b) (k + 1) = 256 * p3 a k + (b % 16 + b / 16) := by
  unfold p3
  have e : 256 * a + b + (256 * a + b) / 16 = 256 * (a + a / 16) + (b + 16 * (a % 16) + b / 16) := by omega
  rw [e, rep, and_step (by omega) (by omega), and15 _ (by omega)]
  omega
theorem pP_step {a b k : Nat} (hb : b < 256) : p2 (p1 (256 * a + b) (k + 1)) (k + 1) = 256 * p2 (p1 a k) k + f2 (f1 b) := by
  rw [p1_step hb, p2_step (byt3 b hb).1]
theorem pP_mod {k : Nat} : ∀ m, m < 256 ^ k → p2 (p1 m k) k % 16 ≤ 4 := by
  intro m hm
  cases k with
  | zero =>
    have : m = 0 := by simpa using hm
    subst this; decide
  | succ k =>
    have e : m = 256 * (m / 256) + m % 256 := by omega
    rw [e, pP_step (by omega)]
    have := (byt3 (m % 256) (by omega)).2.1
    omega
theorem pQ_step {a b k : Nat} (hb : b < 256) (ha : a < 256 ^ k) : p3 (p2 (p1 (256 * a + b) (k + 1)) (k + 1)) (k + 1) = 256 * p3 (p2 (p1 a k) k) k + fb_ct (fun k => b.testBit k) 8 := by
  have h := byt3 b hb
  rw [pP_step hb, p3_step h.2.1 h.2.2.1 (pP_mod a ha), h.2.2.2]
theorem ct_step {a b n : Nat} (hb : b < 256) : fb_ct (fun k => (256 * a + b).testBit k) (8 + n) = fb_ct (fun k => b.testBit k) 8 + fb_ct (fun k => a.testBit k) n := by
  rw [fb_ct_split]
  have e : ∀ j, (256 * a + b).testBit j = if j < 8 then b.testBit j else a.testBit (j - 8) := fun j => Nat.testBit_two_pow_mul_add a (show b < 2 ^ 8 from hb) j
  have u : fb_ct (fun k => (256 * a + b).testBit k) 8 = fb_ct (fun k => b.testBit k) 8 := fb_ct_cong (fun k hk => by rw [e, if_pos hk])
  have v : fb_ct (fun k => (256 * a + b).testBit (8 + k)) n = fb_ct (fun k => a.testBit k) n := fb_ct_cong (fun k hk => by rw [e, if_neg (by omega), show 8 + k - 8 = k by omega])
  rw [u, v]
theorem sum4 {a b c d : Nat} (ha : a ≤ 8) (hb : b ≤ 8) (hc : c ≤ 8) (hd : d ≤ 8) : 256 * (256 * (256 * (256 * 0 + d) + c) + b) + a < 2 ^ 32 ∧ (((256 * (256 * (256 * (256 * 0 + d) + c) + b) + a) + (256 * (256 * (256 * (256 * 0 + d) + c) + b) + a) / 256) + ((256 * (256 * (256 * (256 * 0 + d) + c) + b) + a) + (256 * (256 * (256 * (256 * 0 + d) + c) + b) + a) / 256) / 65536) % 64 = a + (b + (c + d)) := by
  have e1 : (256 * (256 * (256 * (256 * 0 + d) + c) + b) + a) / 256 = 65536 * d + 256 * c + b := by omega
  rw [e1]
  have e2 : (256 * (256 * (256 * (256 * 0 + d) + c) + b) + a + (65536 * d + 256 * c + b)) / 65536 = 256 * d + (c + d) := by omega
  rw [e2]
  refine ⟨by omega, by omega⟩
theorem p1_lt {m k n : Nat} (h : m < n) : p1 m k < n := by unfold p1; omega
theorem rep_lt {c : Nat} (hc : c < 256) : ∀ k, rep c k < 256 ^ k
  | 0 => Nat.zero_lt_one
  | k + 1 => by have := rep_lt hc k; rw [rep, Nat.pow_succ]; omega
theorem pop4 {m : Nat} (hm : m < 2 ^ 32) : ∃ x, p3 (p2 (p1 m 4) 4) 4 = x ∧ x < 2 ^ 32 ∧ ((x + x / 256) + (x + x / 256) / 65536) % 64 = fb_ct (fun k => m.testBit k) 32 := by
  have e0 : m = 256 * (m / 256) + m % 256 := by omega
  have e1 : m / 256 = 256 * (m / 65536) + m / 256 % 256 := by omega
  have e2 : m / 65536 = 256 * (m / 16777216) + m / 65536 % 256 := by omega
  have e3 : m / 16777216 = 256 * 0 + m / 16777216 := by omega
  have b0 : m % 256 < 256 := by omega
  have b1 : m / 256 % 256 < 256 := by omega
  have b2 : m / 65536 % 256 < 256 := by omega
  have b3 : m / 16777216 < 256 := by omega
  have q0 : p3 (p2 (p1 m 4) 4) 4 = 256 * p3 (p2 (p1 (m / 256) 3) 3) 3 + fb_ct (fun k => (m % 256).testBit k) 8 := by
    conv => lhs; rw [e0]
    exact pQ_step b0 (by omega)
  have q1 : p3 (p2 (p1 (m / 256) 3) 3) 3 = 256 * p3 (p2 (p1 (m / 65536) 2) 2) 2 + fb_ct (fun k => (m / 256 % 256).testBit k) 8 := by
    conv => lhs; rw [e1]
    exact pQ_step b1 (by omega)
  have q2 : p3 (p2 (p1 (m / 65536) 2) 2) 2 = 256 * p3 (p2 (p1 (m / 16777216) 1) 1) 1 + fb_ct (fun k => (m / 65536 % 256).testBit k) 8 := by
    conv => lhs; rw [e2]
    exact pQ_step b2 (by omega)
  have q3 : p3 (p2 (p1 (m / 16777216) 1) 1) 1 = 256 * p3 (p2 (p1 0 0) 0) 0 + fb_ct (fun k => (m / 16777216).testBit k) 8 := by
    conv => lhs; rw [e3]
    exact pQ_step b3 (by decide)
  have z : p3 (p2 (p1 0 0) 0) 0 = 0 := by decide
  have c0 : fb_ct (fun k => m.testBit k) 32 = fb_ct (fun k => (m % 256).testBit k) 8 + fb_ct (fun k => (m / 256).testBit k) 24 := by
    conv => lhs; rw [e0]
    exact ct_step (n := 24) b0
  have c1 : fb_ct (fun k => (m / 256).testBit k) 24 = fb_ct (fun k => (m / 256 % 256).testBit k) 8 + fb_ct (fun k => (m / 65536).testBit k) 16 := by
    conv => lhs; rw [e1]
    exact ct_step (n := 16) b1
  have c2 : fb_ct (fun k => (m / 65536).testBit k) 16 = fb_ct (fun k => (m / 65536 % 256).testBit k) 8 + fb_ct (fun k => (m / 16777216).testBit k) 8 := by
    conv => lhs; rw [e2]
    exact ct_step (n := 8) b2
  have l0 := fb_ct_le (fun k => (m % 256).testBit k) 8
  have l1 := fb_ct_le (fun k => (m / 256 % 256).testBit k) 8
  have l2 := fb_ct_le (fun k => (m / 65536 % 256).testBit k) 8
  have l3 := fb_ct_le (fun k => (m / 16777216).testBit k) 8
  rw [z] at q3
  rw [q3] at q2
  rw [q2] at q1
  rw [q1] at q0
  rw [c2] at c1
  rw [c1] at c0
  rw [c0]
  exact ⟨_, q0, (sum4 l0 l1 l2 l3).1, (sum4 l0 l1 l2 l3).2⟩
theorem ushrI {m k : Nat} {c : Int32} (hm : m < 2 ^ 32) (hc : (c.toUInt32 &&& Int32.toUInt32 31).toNat % 32 = k) : ((nI m).toUInt32 >>> (c.toUInt32 &&& Int32.toUInt32 31)).toInt32 = nI (m / 2 ^ k) := by
  apply Int32.toBitVec_inj.mp
  show ((nI m).toUInt32 >>> (c.toUInt32 &&& Int32.toUInt32 31)).toBitVec = BitVec.ofNat 32 (m / 2 ^ k)
  apply BitVec.eq_of_toNat_eq
  show ((nI m).toUInt32 >>> (c.toUInt32 &&& Int32.toUInt32 31)).toNat = _
  rw [UInt32.toNat_shiftRight, hc, Nat.shiftRight_eq_div_pow, BitVec.toNat_ofNat]
  have e : (nI m).toUInt32.toNat = m % 2 ^ 32 := rfl
  rw [e, Nat.mod_eq_of_lt hm, Nat.mod_eq_of_lt (Nat.lt_of_le_of_lt (Nat.div_le_self _ _) hm)]
theorem nI_subW {a b : Nat} (h : b ≤ a) : nI a - nI b = nI (a - b) := by
  apply Int32.toBitVec_inj.mp
  show BitVec.ofNat 32 a - BitVec.ofNat 32 b = BitVec.ofNat 32 (a - b)
  apply BitVec.eq_of_toNat_eq
  rw [BitVec.toNat_sub, BitVec.toNat_ofNat, BitVec.toNat_ofNat, BitVec.toNat_ofNat]
  omega
section Pop
variable {d Ln : Nat} {G : GT} {I : IT} {J : JT} {K : KT}
theorem P_int {m : Nat} (hm : m < 2 ^ 32) : ACall (d + 1) 203 [.int (nI m)] G I J K ↔ K (some (.int (nI (fb_ct (fun k => m.testBit k) 32)))) G I J := by
  rw [ACall_0 (L0 := [.int (nI m)]) (show mcs 203 = (0, 0) from rfl) (show entL 203 [.int (nI m)] = _ from rfl) rfl (Nat.le_of_ble_eq_true rfl)]
  obtain ⟨x, hx, hl, hr⟩ := pop4 hm
  have h1 : p1 m 4 < 2 ^ 32 := p1_lt hm
  have e1 : nI m - (((nI m).toUInt32 >>> ((1 : Int32).toUInt32 &&& Int32.toUInt32 31)).toInt32 &&& 1431655765) = nI (p1 m 4) := by
    rw [ushrI hm (k := 1) (by decide), show (1431655765 : Int32) = nI (rep 85 4) by decide, fa_and, nI_subW (Nat.le_trans Nat.and_le_left (Nat.div_le_self _ _))]
    rfl
  have h2 : p2 (p1 m 4) 4 < 2 ^ 32 := by
    have a : (p1 m 4 &&& rep 51 4) ≤ rep 51 4 := Nat.and_le_right
    have b : (p1 m 4 / 4 &&& rep 51 4) ≤ rep 51 4 := Nat.and_le_right
    have c : rep 51 4 = 858993459 := by decide
    unfold p2
    omega
  have e2 : (nI (p1 m 4) &&& 858993459) + (((nI (p1 m 4)).toUInt32 >>> ((2 : Int32).toUInt32 &&& Int32.toUInt32 31)).toInt32 &&& 858993459) = nI (p2 (p1 m 4) 4) := by
    rw [ushrI h1 (k := 2) (by decide), show (858993459 : Int32) = nI (rep 51 4) by decide, fa_and, fa_and, nI_add]
    rfl
  have e3 : (nI (p2 (p1 m 4) 4) + ((nI (p2 (p1 m 4) 4)).toUInt32 >>> ((4 : Int32).toUInt32 &&& Int32.toUInt32 31)).toInt32) &&& 252645135 = nI x := by
    rw [ushrI h2 (k := 4) (by decide), show (252645135 : Int32) = nI (rep 15 4) by decide, nI_add, fa_and, ← hx]
    rfl
  have hx2 : x ≤ 252645135 := by rw [← hx]; exact Nat.le_trans Nat.and_le_right (by decide)
  have e4 : nI x + ((nI x).toUInt32 >>> ((8 : Int32).toUInt32 &&& Int32.toUInt32 31)).toInt32 = nI (x + x / 256) := by
    rw [ushrI hl (k := 8) (by decide), nI_add]
  have e5 : nI (x + x / 256) + ((nI (x + x / 256)).toUInt32 >>> ((16 : Int32).toUInt32 &&& Int32.toUInt32 31)).toInt32 = nI ((x + x / 256) + (x + x / 256) / 65536) := by
    rw [ushrI (m := x + x / 256) (by omega) (k := 16) (by decide), nI_add]
  simp only [aw_iload_0 (pc2 := 1) D203_0 rfl, aw_iload_0 (pc2 := 2) D203_1 rfl, aw_iconst (pc2 := 3) (y := 1) D203_2 rfl (by decide), aw_iushr (pc2 := 4) D203_3 rfl, aw_ldc_w (pc2 := 7) (v := 1431655765) D203_4 rfl (by decide), aw_iand (pc2 := 8) D203_7 rfl, aw_isub (pc2 := 9) D203_8 rfl, aw_istore_0 (pc2 := 10) D203_9 rfl, aw_iload_0 (pc2 := 11) D203_10 rfl, aw_ldc_w (pc2 := 14) (v := 858993459) D203_11 rfl (by decide), aw_iand (pc2 := 15) D203_14 rfl, aw_iload_0 (pc2 := 16) D203_15 rfl, aw_iconst (pc2 := 17) (y := 2) D203_16 rfl (by decide), aw_iushr (pc2 := 18) D203_17 rfl, aw_ldc_w (pc2 := 21) (v := 858993459) D203_18 rfl (by decide), aw_iand (pc2 := 22) D203_21 rfl, aw_iadd (pc2 := 23) D203_22 rfl, aw_istore_0 (pc2 := 24) D203_23 rfl, aw_iload_0 (pc2 := 25) D203_24 rfl, aw_iload_0 (pc2 := 26) D203_25 rfl, aw_iconst (pc2 := 27) (y := 4) D203_26 rfl (by decide), aw_iushr (pc2 := 28) D203_27 rfl, aw_iadd (pc2 := 29) D203_28 rfl, aw_ldc_w (pc2 := 32) (v := 252645135) D203_29 rfl (by decide), aw_iand (pc2 := 33) D203_32 rfl, aw_istore_0 (pc2 := 34) D203_33 rfl, aw_iload_0 (pc2 := 35) D203_34 rfl, aw_iload_0 (pc2 := 36) D203_35 rfl, aw_bipush (pc2 := 38) (y := 8) D203_36 rfl (by decide), aw_iushr (pc2 := 39) D203_38 rfl, aw_iadd (pc2 := 40) D203_39 rfl, aw_istore_0 (pc2 := 41) D203_40 rfl, aw_iload_0 (pc2 := 42) D203_41 rfl, aw_iload_0 (pc2 := 43) D203_42 rfl, aw_bipush (pc2 := 45) (y := 16) D203_43 rfl (by decide), aw_iushr (pc2 := 46) D203_45 rfl, aw_iadd (pc2 := 47) D203_46 rfl, aw_istore_0 (pc2 := 48) D203_47 rfl, aw_iload_0 (pc2 := 49) D203_48 rfl, aw_bipush (pc2 := 51) (y := 63) D203_49 rfl (by decide), aw_iand (pc2 := 52) D203_51 rfl, aw_iret D203_52 rfl, kil_i, kil_n, and_self, true_and, e1, e2, e3, e4, e5]
  rw [show (63 : Int32) = nI (2 ^ 6 - 1) from rfl, fa_mask, show (2 : Nat) ^ 6 = 64 from rfl, hr]
end Pop
