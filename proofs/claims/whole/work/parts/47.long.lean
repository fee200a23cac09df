def bt (x : Int64) (i : Nat) : Bool := x.toBitVec.getLsbD i
theorem zq_dK {K x X c : Nat} (hK : 0 < K) (h : x = K * X + c) (hc : c < K) : x / K = X := by
  rw [h, Nat.mul_add_div hK, Nat.div_eq_of_lt hc, Nat.add_zero]
theorem zq_bd {x X c Q : Nat} (h : x = 256 * X + c) (hc : c ≤ 8) (hX : X < 16 * Q) : x < 16 * (256 * Q) := by omega
theorem zq_mod {x X c : Nat} (h : x = 256 * X + c) (hc : c < 128) : x % 128 = c := by omega
theorem zq_sum {x0 x1 x2 x3 x4 x5 x6 x7 c0 c1 c2 c3 c4 c5 c6 c7 : Nat} (e0 : x0 = 256 * x1 + c0) (e1 : x1 = 256 * x2 + c1) (e2 : x2 = 256 * x3 + c2) (e3 : x3 = 256 * x4 + c3) (e4 : x4 = 256 * x5 + c4) (e5 : x5 = 256 * x6 + c5) (e6 : x6 = 256 * x7 + c6) (e7 : x7 = c7) (h0 : c0 ≤ 8) (h1 : c1 ≤ 8) (h2 : c2 ≤ 8) (h3 : c3 ≤ 8) (h4 : c4 ≤ 8) (h5 : c5 ≤ 8) (h6 : c6 ≤ 8) (h7 : c7 ≤ 8) : x0 < 2 ^ 60 ∧ ∀ y z, y = x0 + x0 / 256 → z = y + y / 65536 → y < 2 ^ 63 ∧ z < 2 ^ 63 ∧ (z + z / 4294967296) % 128 = c0 + c1 + c2 + c3 + c4 + c5 + c6 + c7 := by
  have b7 : x7 < 16 * 1 := by omega
  have b6 := zq_bd e6 h6 b7
  have b5 := zq_bd e5 h5 b6
  have b4 := zq_bd e4 h4 b5
  have b3 := zq_bd e3 h3 b4
  have b2 := zq_bd e2 h2 b3
  have b1 := zq_bd e1 h1 b2
  have b0 := zq_bd e0 h0 b1
  have b : x0 < 2 ^ 60 := Nat.lt_of_lt_of_le b0 (Nat.le_of_ble_eq_true rfl)
  have m1 : x1 ≤ x0 := by clear b b0 b1 b2 b3 b4 b5 b6 b7; omega
  have m2 : x2 ≤ x0 := by clear b b0 b1 b2 b3 b4 b5 b6 b7; omega
  have m3 : x3 ≤ x0 := by clear b b0 b1 b2 b3 b4 b5 b6 b7; omega
  clear b0 b1 b2 b3 b4 b5 b6 b7
  refine ⟨b, fun y z hy hz => ?_⟩
  rw [zq_dK (by decide) e0 (show c0 < 256 by clear b; omega)] at hy
  have e2 : y / 65536 = x2 + x3 := zq_dK (by decide) (c := (256 * c1 + c0) + (256 * c2 + c1)) (by clear b hz; omega) (by clear b hz hy; omega)
  rw [e2] at hz
  have e3 : z / 65536 = x2 + x3 + x4 + x5 := zq_dK (by decide) (c := (256 * c1 + c0) + (256 * c2 + c1) + (256 * c3 + c2) + (256 * c4 + c3)) (by clear b; omega) (by clear b hz hy e2; omega)
  have e4 : (x2 + x3 + x4 + x5) / 65536 = x4 + x5 + x6 + x7 := zq_dK (by decide) (c := (256 * c3 + c2) + (256 * c4 + c3) + (256 * c5 + c4) + (256 * c6 + c5)) (by clear b hz hy e2 e3; omega) (by clear b hz hy e2 e3; omega)
  have e5 : z / 4294967296 = x4 + x5 + x6 + x7 := by
    rw [← e4, ← e3, Nat.div_div_eq_div_mul]
  have q : 2 ^ 60 + 2 ^ 60 + 2 ^ 60 + 2 ^ 60 ≤ 2 ^ 63 := Nat.le_of_ble_eq_true rfl
  generalize 2 ^ 60 = M at b q
  generalize 2 ^ 63 = M' at q ⊢
  refine ⟨by clear e2 e3 e4 e5; omega, by clear e2 e3 e4 e5; omega, ?_⟩
  rw [e5, hz, hy]
  exact zq_mod (X := x1 + x2 + x3 + x4 + x5 + x6 + x7) (by clear b q e2 e3 e4 e5 hz hy m1 m2 m3; omega) (by clear b q e2 e3 e4 e5 hz hy m1 m2 m3; omega)
theorem zq_div {m k k' : Nat} (e : k' = k + 1) (h : m < 256 ^ k') : p3 (p2 (p1 m k') k') k' = 256 * p3 (p2 (p1 (m / 256) k) k) k + fb_ct (fun i => (m % 256).testBit i) 8 ∧ m / 256 < 256 ^ k := by
  subst e
  have h2 : m / 256 < 256 ^ k := Nat.div_lt_of_lt_mul (by rw [Nat.mul_comm, ← Nat.pow_succ]; exact h)
  have := pQ_step (a := m / 256) (b := m % 256) (k := k) (Nat.mod_lt _ (by decide)) h2
  rw [Nat.div_add_mod] at this
  exact ⟨this, h2⟩
theorem zq_ct {m n n' : Nat} (e : n' = 8 + n) : fb_ct (fun i => m.testBit i) n' = fb_ct (fun i => (m % 256).testBit i) 8 + fb_ct (fun i => (m / 256).testBit i) n := by
  subst e
  have := ct_step (a := m / 256) (b := m % 256) (n := n) (Nat.mod_lt _ (by decide))
  rw [Nat.div_add_mod] at this
  exact this
theorem zq_pop {m : Nat} (hm : m < 2 ^ 64) : ∃ x, p3 (p2 (p1 m 8) 8) 8 = x ∧ x < 2 ^ 60 ∧ ∀ y z, y = x + x / 256 → z = y + y / 65536 → y < 2 ^ 63 ∧ z < 2 ^ 63 ∧ (z + z / 4294967296) % 128 = fb_ct (fun k => m.testBit k) 64 := by
  have g0 : m < 256 ^ 8 := Nat.lt_of_lt_of_le hm (Nat.le_of_ble_eq_true rfl)
  obtain ⟨q0, g1⟩ := zq_div (m := m) (k := 7) (k' := 8) rfl g0
  have k0 := zq_ct (m := m) (n := 56) (n' := 64) rfl
  obtain ⟨q1, g2⟩ := zq_div (m := (m / 256)) (k := 6) (k' := 7) rfl g1
  have k1 := zq_ct (m := (m / 256)) (n := 48) (n' := 56) rfl
  obtain ⟨q2, g3⟩ := zq_div (m := ((m / 256) / 256)) (k := 5) (k' := 6) rfl g2
  have k2 := zq_ct (m := ((m / 256) / 256)) (n := 40) (n' := 48) rfl
  obtain ⟨q3, g4⟩ := zq_div (m := (((m / 256) / 256) / 256)) (k := 4) (k' := 5) rfl g3
  have k3 := zq_ct (m := (((m / 256) / 256) / 256)) (n := 32) (n' := 40) rfl
  obtain ⟨q4, g5⟩ := zq_div (m := ((((m / 256) / 256) / 256) / 256)) (k := 3) (k' := 4) rfl g4
  have k4 := zq_ct (m := ((((m / 256) / 256) / 256) / 256)) (n := 24) (n' := 32) rfl
  obtain ⟨q5, g6⟩ := zq_div (m := (((((m / 256) / 256) / 256) / 256) / 256)) (k := 2) (k' := 3) rfl g5
  have k5 := zq_ct (m := (((((m / 256) / 256) / 256) / 256) / 256)) (n := 16) (n' := 24) rfl
  obtain ⟨q6, g7⟩ := zq_div (m := ((((((m / 256) / 256) / 256) / 256) / 256) / 256)) (k := 1) (k' := 2) rfl g6
  have k6 := zq_ct (m := ((((((m / 256) / 256) / 256) / 256) / 256) / 256)) (n := 8) (n' := 16) rfl
  obtain ⟨q7, g8⟩ := zq_div (m := (((((((m / 256) / 256) / 256) / 256) / 256) / 256) / 256)) (k := 0) (k' := 1) rfl g7
  have k7 := zq_ct (m := (((((((m / 256) / 256) / 256) / 256) / 256) / 256) / 256)) (n := 0) (n' := 8) rfl
  have z7 : ((((((((m / 256) / 256) / 256) / 256) / 256) / 256) / 256) / 256) = 0 := by
    have z : ((((((((m / 256) / 256) / 256) / 256) / 256) / 256) / 256) / 256) < 1 := g8
    exact Nat.lt_one_iff.mp z
  have q7' : p3 (p2 (p1 (((((((m / 256) / 256) / 256) / 256) / 256) / 256) / 256) 1) 1) 1 = fb_ct (fun i => ((((((((m / 256) / 256) / 256) / 256) / 256) / 256) / 256) % 256).testBit i) 8 := by
    rw [q7, z7]
    rw [show p3 (p2 (p1 0 0) 0) 0 = 0 by decide, Nat.mul_zero, Nat.zero_add]
  have k7' : fb_ct (fun i => (((((((m / 256) / 256) / 256) / 256) / 256) / 256) / 256).testBit i) 8 = fb_ct (fun i => ((((((((m / 256) / 256) / 256) / 256) / 256) / 256) / 256) % 256).testBit i) 8 := by
    rw [k7]; rfl
  have h := zq_sum q0 q1 q2 q3 q4 q5 q6 q7' (fb_ct_le (fun i => (m % 256).testBit i) 8) (fb_ct_le (fun i => ((m / 256) % 256).testBit i) 8) (fb_ct_le (fun i => (((m / 256) / 256) % 256).testBit i) 8) (fb_ct_le (fun i => ((((m / 256) / 256) / 256) % 256).testBit i) 8) (fb_ct_le (fun i => (((((m / 256) / 256) / 256) / 256) % 256).testBit i) 8) (fb_ct_le (fun i => ((((((m / 256) / 256) / 256) / 256) / 256) % 256).testBit i) 8) (fb_ct_le (fun i => (((((((m / 256) / 256) / 256) / 256) / 256) / 256) % 256).testBit i) 8) (fb_ct_le (fun i => ((((((((m / 256) / 256) / 256) / 256) / 256) / 256) / 256) % 256).testBit i) 8)
  refine ⟨_, rfl, h.1, fun y z hy hz => ?_⟩
  have h2 := h.2 y z hy hz
  refine ⟨h2.1, h2.2.1, ?_⟩
  rw [h2.2.2, k0, k1, k2, k3, k4, k5, k6, k7']
  simp only [Nat.add_assoc]
theorem ushrL {m k : Nat} {c : Int32} (hm : m < 2 ^ 64) (hc : (c.toInt64.toUInt64 &&& Int64.toUInt64 63).toNat % 64 = k) : ((lN m).toUInt64 >>> (c.toInt64.toUInt64 &&& Int64.toUInt64 63)).toInt64 = lN (m / 2 ^ k) := by
  apply Int64.toBitVec_inj.mp
  show ((lN m).toUInt64 >>> (c.toInt64.toUInt64 &&& Int64.toUInt64 63)).toBitVec = BitVec.ofNat 64 (m / 2 ^ k)
  apply BitVec.eq_of_toNat_eq
  show ((lN m).toUInt64 >>> (c.toInt64.toUInt64 &&& Int64.toUInt64 63)).toNat = _
  rw [UInt64.toNat_shiftRight, hc, Nat.shiftRight_eq_div_pow, BitVec.toNat_ofNat]
  have e : (lN m).toUInt64.toNat = m % 2 ^ 64 := rfl
  rw [e, Nat.mod_eq_of_lt hm, Nat.mod_eq_of_lt (Nat.lt_of_le_of_lt (Nat.div_le_self _ _) hm)]
theorem lN_self (x : Int64) : lN x.toBitVec.toNat = x := by
  apply Int64.toBitVec_inj.mp
  show BitVec.ofNat 64 x.toBitVec.toNat = x.toBitVec
  apply BitVec.eq_of_toNat_eq
  rw [BitVec.toNat_ofNat, Nat.mod_eq_of_lt x.toBitVec.isLt]
theorem bt_nat (x : Int64) (i : Nat) : x.toBitVec.toNat.testBit i = bt x i := rfl
theorem bt_lN {m i : Nat} (hi : i < 64) : bt (lN m) i = m.testBit i := by
  show (BitVec.ofNat 64 m).getLsbD i = _
  rw [BitVec.getLsbD_ofNat]
  simp [hi]
theorem bt_and {x y : Int64} {i : Nat} : bt (x &&& y) i = (bt x i && bt y i) := by
  show (x.toBitVec &&& y.toBitVec).getLsbD i = _
  exact BitVec.getLsbD_and
theorem bt_or {x y : Int64} {i : Nat} : bt (x ||| y) i = (bt x i || bt y i) := by
  show (x.toBitVec ||| y.toBitVec).getLsbD i = _
  exact BitVec.getLsbD_or
theorem bt_xor {x y : Int64} {i : Nat} : bt (x ^^^ y) i = (bt x i ^^ bt y i) := by
  show (x.toBitVec ^^^ y.toBitVec).getLsbD i = _
  exact BitVec.getLsbD_xor
theorem bt_m1 {i : Nat} (hi : i < 64) : bt (-1) i = true := by
  revert i; decide
theorem bt_0 {i : Nat} : bt 0 i = false := by
  show (0 : BitVec 64).getLsbD i = false
  exact BitVec.getLsbD_zero
theorem bt_not {x : Int64} {i : Nat} (hi : i < 64) : bt (x ^^^ -1) i = !bt x i := by
  rw [bt_xor, bt_m1 hi, Bool.xor_true]
theorem bt_pat {j i : Nat} (hj : j < 6) (hi : i < 64) : bt (pat j) i = i.testBit j := by
  have : ∀ j, j < 6 → ∀ i, i < 64 → bt (pat j) i = i.testBit j := by decide +kernel
  exact this j hj i hi
theorem shl1L {k : Nat} (hk : k < 64) : (1 : Int64) <<< ((nI k).toInt64 &&& 63) = lN (2 ^ k) := by
  revert k; decide +kernel
theorem shm {k : Nat} (hk : k < 64) : (((nI k).toInt64 &&& 63).toBitVec.smod 64).toNat = k := by
  revert k; decide +kernel
theorem bt_shr {x : Int64} {k i : Nat} (h : k + i < 64) : bt (x >>> ((nI k).toInt64 &&& 63)) i = bt x (k + i) := by
  show (x.toBitVec.sshiftRight' (((nI k).toInt64 &&& 63).toBitVec.smod 64)).getLsbD i = _
  rw [BitVec.sshiftRight', shm (by omega), BitVec.getLsbD_sshiftRight, if_pos h]
  rw [show decide (64 ≤ i) = false by simp; omega]
  rfl
theorem and1_0 {x : Int64} : (x &&& 1 = 0) ↔ bt x 0 = false := by
  rw [← lN_self x, show (1 : Int64) = lN (2 ^ 0) from rfl, fb_bitL (by decide), lN_self]
  exact Iff.rfl
theorem sh1_0 {x : Int64} {k : Nat} (hk : k < 64) : (x >>> ((nI k).toInt64 &&& 63) &&& 1 = 0) ↔ bt x k = false := by
  rw [and1_0, bt_shr (by omega)]
  rfl
theorem mskL {k : Nat} : lN (2 ^ k) - 1 = lN (2 ^ k - 1) := lN_sub (b := 1) (Nat.one_le_two_pow)
theorem bt_msk {k i : Nat} (hi : i < 64) : bt (lN (2 ^ k - 1)) i = decide (i < k) := by
  rw [bt_lN hi, Nat.testBit_two_pow_sub_one]
theorem bt_one {k i : Nat} (hi : i < 64) : bt (lN (2 ^ k)) i = decide (k = i) := by
  rw [bt_lN hi, Nat.testBit_two_pow]
section PopL
variable {d Ln : Nat} {G : GT} {I : IT} {J : JT} {K : KT}
theorem P_longN {m : Nat} (hm : m < 2 ^ 64) : ACall (d + 1) 204 [.long (lN m)] G I J K ↔ K (some (.int (nI (fb_ct (fun k => m.testBit k) 64)))) G I J := by
  rw [ACall_0 (L0 := [.long (lN m), nv]) (show mcs 204 = (0, 0) from rfl) (show entL 204 [.long (lN m)] = _ from rfl) rfl (Nat.le_of_ble_eq_true rfl)]
  obtain ⟨x, hx, hl, hr⟩ := zq_pop hm
  obtain ⟨y1, z1, hr⟩ := hr _ _ rfl rfl
  have h1 : p1 m 8 < 2 ^ 64 := p1_lt hm
  have e1 : lN m - (((lN m).toUInt64 >>> ((1 : Int32).toInt64.toUInt64 &&& Int64.toUInt64 63)).toInt64 &&& 6148914691236517205) = lN (p1 m 8) := by
    rw [ushrL hm (k := 1) (by decide), show (6148914691236517205 : Int64) = lN (rep 85 8) by decide, fb_andL, lN_sub (Nat.le_trans Nat.and_le_left (Nat.div_le_self _ _))]
    rfl
  have h2 : p2 (p1 m 8) 8 < 2 ^ 64 := by
    have a : (p1 m 8 &&& rep 51 8) ≤ rep 51 8 := Nat.and_le_right
    have b : (p1 m 8 / 4 &&& rep 51 8) ≤ rep 51 8 := Nat.and_le_right
    have c : rep 51 8 = 3689348814741910323 := by decide
    unfold p2
    omega
  have e2 : (lN (p1 m 8) &&& 3689348814741910323) + (((lN (p1 m 8)).toUInt64 >>> ((2 : Int32).toInt64.toUInt64 &&& Int64.toUInt64 63)).toInt64 &&& 3689348814741910323) = lN (p2 (p1 m 8) 8) := by
    rw [ushrL h1 (k := 2) (by decide), show (3689348814741910323 : Int64) = lN (rep 51 8) by decide, fb_andL, fb_andL, lN_add]
    rfl
  have e3 : (lN (p2 (p1 m 8) 8) + ((lN (p2 (p1 m 8) 8)).toUInt64 >>> ((4 : Int32).toInt64.toUInt64 &&& Int64.toUInt64 63)).toInt64) &&& 1085102592571150095 = lN x := by
    rw [ushrL h2 (k := 4) (by decide), show (1085102592571150095 : Int64) = lN (rep 15 8) by decide, lN_add, fb_andL, ← hx]
    rfl
  have e4 : lN x + ((lN x).toUInt64 >>> ((8 : Int32).toInt64.toUInt64 &&& Int64.toUInt64 63)).toInt64 = lN (x + x / 256) := by
    rw [ushrL (m := x) (by omega) (k := 8) (by decide), lN_add]
  generalize hy : x + x / 256 = y at e4 y1 z1 hr
  have e5 : lN y + ((lN y).toUInt64 >>> ((16 : Int32).toInt64.toUInt64 &&& Int64.toUInt64 63)).toInt64 = lN (y + y / 65536) := by
    rw [ushrL (m := y) (by omega) (k := 16) (by decide), lN_add]
  generalize hz : y + y / 65536 = z at e5 z1 hr
  have e6 : lN z + ((lN z).toUInt64 >>> ((32 : Int32).toInt64.toUInt64 &&& Int64.toUInt64 63)).toInt64 = lN (z + z / 4294967296) := by
    rw [ushrL (m := z) (by omega) (k := 32) (by decide), lN_add]
  simp only [aw_lload_0 (pc2 := 1) D204_0 rfl, aw_lload_0 (pc2 := 2) D204_1 rfl, aw_iconst (pc2 := 3) (y := 1) D204_2 rfl (by decide), aw_lushr (pc2 := 4) D204_3 rfl, aw_ldc2_w (pc2 := 7) (v := 6148914691236517205) D204_4 rfl (by decide), aw_land (pc2 := 8) D204_7 rfl, aw_lsub (pc2 := 9) D204_8 rfl, aw_lstore_0 (pc2 := 10) D204_9 rfl, aw_lload_0 (pc2 := 11) D204_10 rfl, aw_ldc2_w (pc2 := 14) (v := 3689348814741910323) D204_11 rfl (by decide), aw_land (pc2 := 15) D204_14 rfl, aw_lload_0 (pc2 := 16) D204_15 rfl, aw_iconst (pc2 := 17) (y := 2) D204_16 rfl (by decide), aw_lushr (pc2 := 18) D204_17 rfl, aw_ldc2_w (pc2 := 21) (v := 3689348814741910323) D204_18 rfl (by decide), aw_land (pc2 := 22) D204_21 rfl, aw_ladd (pc2 := 23) D204_22 rfl, aw_lstore_0 (pc2 := 24) D204_23 rfl, aw_lload_0 (pc2 := 25) D204_24 rfl, aw_lload_0 (pc2 := 26) D204_25 rfl, aw_iconst (pc2 := 27) (y := 4) D204_26 rfl (by decide), aw_lushr (pc2 := 28) D204_27 rfl, aw_ladd (pc2 := 29) D204_28 rfl, aw_ldc2_w (pc2 := 32) (v := 1085102592571150095) D204_29 rfl (by decide), aw_land (pc2 := 33) D204_32 rfl, aw_lstore_0 (pc2 := 34) D204_33 rfl, aw_lload_0 (pc2 := 35) D204_34 rfl, aw_lload_0 (pc2 := 36) D204_35 rfl, aw_bipush (pc2 := 38) (y := 8) D204_36 rfl (by decide), aw_lushr (pc2 := 39) D204_38 rfl, aw_ladd (pc2 := 40) D204_39 rfl, aw_lstore_0 (pc2 := 41) D204_40 rfl, aw_lload_0 (pc2 := 42) D204_41 rfl, aw_lload_0 (pc2 := 43) D204_42 rfl, aw_bipush (pc2 := 45) (y := 16) D204_43 rfl (by decide), aw_lushr (pc2 := 46) D204_45 rfl, aw_ladd (pc2 := 47) D204_46 rfl, aw_lstore_0 (pc2 := 48) D204_47 rfl, aw_lload_0 (pc2 := 49) D204_48 rfl, aw_lload_0 (pc2 := 50) D204_49 rfl, aw_bipush (pc2 := 52) (y := 32) D204_50 rfl (by decide), aw_lushr (pc2 := 53) D204_52 rfl, aw_ladd (pc2 := 54) D204_53 rfl, aw_lstore_0 (pc2 := 55) D204_54 rfl, aw_lload_0 (pc2 := 56) D204_55 rfl, aw_l2i (pc2 := 57) D204_56 rfl, aw_bipush (pc2 := 59) (y := 127) D204_57 rfl (by decide), aw_iand (pc2 := 60) D204_59 rfl, aw_iret D204_60 rfl, kil_i, kil_n, kil_l, and_self, true_and, e1, e2, e3, e4, e5, e6, lN_i]
  rw [show (127 : Int32) = nI (2 ^ 7 - 1) from rfl, fa_mask, show (2 : Nat) ^ 7 = 128 from rfl, hr]
theorem P_long {x : Int64} : ACall (d + 1) 204 [.long x] G I J K ↔ K (some (.int (nI (fb_ct (bt x) 64)))) G I J := by
  have h := P_longN (d := d) (G := G) (I := I) (J := J) (K := K) x.toBitVec.isLt
  rw [lN_self] at h
  exact h
end PopL
