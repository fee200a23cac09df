section Leaf
variable {d Ln : Nat} {G : GT} {I : IT} {J : JT} {K : KT}
theorem or_10 : ((1 : Int32) = 0 ∨ True) = True := by simp
def plc (x : Int32) : Int32 := if x ≤ 0 then 11 - x else x - 1
def bitC (x : Int32) : Int32 := if x = 0 then 0 else 1 <<< (plc x &&& 31)
def denC (x : Int32) : Int32 := if 4095 < x then x >>> (12 &&& 31) else x <<< (12 &&& 31)
def letC (x : Int32) : Int32 := (x ||| x >>> (12 &&& 31)) &&& 4095
def denM (x : Int32) : Int32 := ((x >>> ((12 : Int32) &&& 31)) &&& 4095) ||| ((x &&& 4095) <<< ((12 : Int32) &&& 31))
def bitM (x : Int32) : Int32 := 1 <<< (plc x &&& 31)
theorem C_placeOf {x : Int32} : ACall (d + 1) 118 [.int x] G I J K ↔ K (some (.int (plc x))) G I J := by
  rw [ACall_0 (L0 := [.int x]) (show mcs 118 = (0, 0) from rfl) (show entL 118 [.int x] = _ from rfl) rfl (Nat.le_of_ble_eq_true rfl)]
  simp only [aw_iload_0 (pc2 := 1) D118_0 rfl, aw_if_le (pc2 := 4) (t := 10) D118_1 (by decide) rfl, aw_iload_0 (pc2 := 5) D118_4 rfl, aw_iconst (pc2 := 6) (y := 1) D118_5 rfl (by decide), aw_isub (pc2 := 7) D118_6 rfl, aw_goto (t := 14) D118_7 (by decide), aw_bipush (pc2 := 12) (y := 11) D118_10 rfl (by decide), aw_iload_0 (pc2 := 13) D118_12 rfl, aw_isub (pc2 := 14) D118_13 rfl, aw_iret D118_14 rfl, and_self, true_and]
  unfold plc
  split <;> rfl
theorem C_bitOf {x : Int32} : ACall (d + 2) 119 [.int x] G I J K ↔ K (some (.int (bitC x))) G I J := by
  rw [ACall_0 (L0 := [.int x]) (show mcs 119 = (0, 0) from rfl) (show entL 119 [.int x] = _ from rfl) rfl (Nat.le_of_ble_eq_true rfl)]
  simp only [aw_iload_0 (pc2 := 1) D119_0 rfl, aw_if_ne (pc2 := 4) (t := 8) D119_1 (by decide) rfl, aw_iconst (pc2 := 5) (y := 0) D119_4 rfl (by decide), aw_goto (t := 14) D119_5 (by decide), aw_iconst (pc2 := 9) (y := 1) D119_8 rfl (by decide), aw_iload_0 (pc2 := 10) D119_9 rfl, aw_is1_2 (pc2 := 13) D119_10 rfl cT_6_248 rfl, aw_ishl (pc2 := 14) D119_13 rfl, aw_iret D119_14 rfl, C_placeOf, psh_s, catS_0, catS_1, catS_2, and_self, true_and]
  unfold bitC
  by_cases h : x = 0
  · simp [h]
  · simp [h]
theorem C_denialOf {x : Int32} : ACall (d + 1) 120 [.int x] G I J K ↔ K (some (.int (denC x))) G I J := by
  rw [ACall_0 (L0 := [.int x]) (show mcs 120 = (0, 0) from rfl) (show entL 120 [.int x] = _ from rfl) rfl (Nat.le_of_ble_eq_true rfl)]
  simp only [aw_iload_0 (pc2 := 1) D120_0 rfl, aw_sipush (pc2 := 4) (y := 4095) D120_1 rfl (by decide), aw_icmp_gt (pc2 := 7) (t := 14) D120_4 (by decide) rfl, aw_iload_0 (pc2 := 8) D120_7 rfl, aw_bipush (pc2 := 10) (y := 12) D120_8 rfl (by decide), aw_ishl (pc2 := 11) D120_10 rfl, aw_goto (t := 18) D120_11 (by decide), aw_iload_0 (pc2 := 15) D120_14 rfl, aw_bipush (pc2 := 17) (y := 12) D120_15 rfl (by decide), aw_ishr (pc2 := 18) D120_17 rfl, aw_iret D120_18 rfl, and_self, true_and]
  unfold denC
  split <;> rfl
theorem C_lettersOf {x : Int32} : ACall (d + 1) 121 [.int x] G I J K ↔ K (some (.int (letC x))) G I J := by
  rw [ACall_0 (L0 := [.int x]) (show mcs 121 = (0, 0) from rfl) (show entL 121 [.int x] = _ from rfl) rfl (Nat.le_of_ble_eq_true rfl)]
  simp only [aw_iload_0 (pc2 := 1) D121_0 rfl, aw_iload_0 (pc2 := 2) D121_1 rfl, aw_bipush (pc2 := 4) (y := 12) D121_2 rfl (by decide), aw_ishr (pc2 := 5) D121_4 rfl, aw_ior (pc2 := 6) D121_5 rfl, aw_sipush (pc2 := 9) (y := 4095) D121_6 rfl (by decide), aw_iand (pc2 := 10) D121_9 rfl, aw_iret D121_10 rfl, and_self, true_and]
  rfl
theorem M_lettersOf {x : Int32} : ACall (d + 1) 131 [.int x] G I J K ↔ K (some (.int (letC x))) G I J := by
  rw [ACall_0 (L0 := [.int x]) (show mcs 131 = (0, 0) from rfl) (show entL 131 [.int x] = _ from rfl) rfl (Nat.le_of_ble_eq_true rfl)]
  simp only [aw_iload_0 (pc2 := 1) D131_0 rfl, aw_iload_0 (pc2 := 2) D131_1 rfl, aw_bipush (pc2 := 4) (y := 12) D131_2 rfl (by decide), aw_ishr (pc2 := 5) D131_4 rfl, aw_ior (pc2 := 6) D131_5 rfl, aw_sipush (pc2 := 9) (y := 4095) D131_6 rfl (by decide), aw_iand (pc2 := 10) D131_9 rfl, aw_iret D131_10 rfl, and_self, true_and]
  rfl
theorem M_denied {x : Int32} : ACall (d + 1) 130 [.int x] G I J K ↔ K (some (.int (denM x))) G I J := by
  rw [ACall_0 (L0 := [.int x]) (show mcs 130 = (0, 0) from rfl) (show entL 130 [.int x] = _ from rfl) rfl (Nat.le_of_ble_eq_true rfl)]
  simp only [aw_iload_0 (pc2 := 1) D130_0 rfl, aw_bipush (pc2 := 3) (y := 12) D130_1 rfl (by decide), aw_ishr (pc2 := 4) D130_3 rfl, aw_sipush (pc2 := 7) (y := 4095) D130_4 rfl (by decide), aw_iand (pc2 := 8) D130_7 rfl, aw_iload_0 (pc2 := 9) D130_8 rfl, aw_sipush (pc2 := 12) (y := 4095) D130_9 rfl (by decide), aw_iand (pc2 := 13) D130_12 rfl, aw_bipush (pc2 := 15) (y := 12) D130_13 rfl (by decide), aw_ishl (pc2 := 16) D130_15 rfl, aw_ior (pc2 := 17) D130_16 rfl, aw_iret D130_17 rfl, and_self, true_and]
  rfl
theorem M_bitOf {x : Int32} : ACall (d + 1) 128 [.int x] G I J K ↔ K (some (.int (bitM x))) G I J := by
  rw [ACall_0 (L0 := [.int x]) (show mcs 128 = (0, 0) from rfl) (show entL 128 [.int x] = _ from rfl) rfl (Nat.le_of_ble_eq_true rfl)]
  simp only [aw_iload_0 (pc2 := 1) D128_0 rfl, aw_if_le (pc2 := 4) (t := 12) D128_1 (by decide) rfl, aw_iconst (pc2 := 5) (y := 1) D128_4 rfl (by decide), aw_iload_0 (pc2 := 6) D128_5 rfl, aw_iconst (pc2 := 7) (y := 1) D128_6 rfl (by decide), aw_isub (pc2 := 8) D128_7 rfl, aw_ishl (pc2 := 9) D128_8 rfl, aw_goto (t := 18) D128_9 (by decide), aw_iconst (pc2 := 13) (y := 1) D128_12 rfl (by decide), aw_bipush (pc2 := 15) (y := 11) D128_13 rfl (by decide), aw_iload_0 (pc2 := 16) D128_15 rfl, aw_isub (pc2 := 17) D128_16 rfl, aw_ishl (pc2 := 18) D128_17 rfl, aw_iret D128_18 rfl, and_self, true_and]
  unfold bitM plc
  split <;> rfl
theorem M_weightAt {b x : Int32} : ACall (d + 1) 142 [.int b, .int x] G I J K ↔ K (some (.int (24 * b + plc x))) G I J := by
  rw [ACall_0 (L0 := [.int b, .int x]) (show mcs 142 = (0, 0) from rfl) (show entL 142 [.int b, .int x] = _ from rfl) rfl (Nat.le_of_ble_eq_true rfl)]
  simp only [aw_bipush (pc2 := 2) (y := 24) D142_0 rfl (by decide), aw_iload_0 (pc2 := 3) D142_2 rfl, aw_imul (pc2 := 4) D142_3 rfl, aw_iload_1 (pc2 := 5) D142_4 rfl, aw_if_le (pc2 := 8) (t := 14) D142_5 (by decide) rfl, aw_iload_1 (pc2 := 9) D142_8 rfl, aw_iconst (pc2 := 10) (y := 1) D142_9 rfl (by decide), aw_isub (pc2 := 11) D142_10 rfl, aw_goto (t := 18) D142_11 (by decide), aw_bipush (pc2 := 16) (y := 11) D142_14 rfl (by decide), aw_iload_1 (pc2 := 17) D142_16 rfl, aw_isub (pc2 := 18) D142_17 rfl, aw_iadd (pc2 := 19) D142_18 rfl, aw_iret D142_19 rfl, and_self, true_and]
  unfold plc
  split <;> rfl
theorem M_isBook {x : Int32} : ACall (d + 1) 126 [.int x] G I J K ↔ K (some (.int (if x = 0 ∨ x = 1 then 1 else 0))) G I J := by
  rw [ACall_0 (L0 := [.int x]) (show mcs 126 = (0, 0) from rfl) (show entL 126 [.int x] = _ from rfl) rfl (Nat.le_of_ble_eq_true rfl)]
  simp only [aw_iload_0 (pc2 := 1) D126_0 rfl, aw_if_eq (pc2 := 4) (t := 9) D126_1 (by decide) rfl, aw_iload_0 (pc2 := 5) D126_4 rfl, aw_iconst (pc2 := 6) (y := 1) D126_5 rfl (by decide), aw_icmp_ne (pc2 := 9) (t := 13) D126_6 (by decide) rfl, aw_iconst (pc2 := 10) (y := 1) D126_9 rfl (by decide), aw_goto (t := 14) D126_10 (by decide), aw_iconst (pc2 := 14) (y := 0) D126_13 rfl (by decide), aw_zret D126_14 rfl, and_self, true_and, true_or, or_true]
  by_cases h : x = 0
  · simp [h]
  · by_cases h1 : x = 1
    · simp [h1]
    · simp [h, h1]
theorem M_isIn {v a b : Int64} : ACall (d + 1) 124 [.long v, .long a, .long b] G I J K ↔ K (some (.int (if a ≤ v ∧ v ≤ b then 1 else 0))) G I J := by
  rw [ACall_0 (L0 := [.long v, nv, .long a, nv, .long b, nv]) (show mcs 124 = (0, 0) from rfl) (show entL 124 [.long v, .long a, .long b] = _ from rfl) rfl (Nat.le_of_ble_eq_true rfl)]
  simp only [aw_lload_0 (pc2 := 1) D124_0 rfl, aw_lload_2 (pc2 := 2) D124_1 rfl, aw_lcmp (pc2 := 3) D124_2 rfl, aw_if_lt (pc2 := 6) (t := 17) D124_3 (by decide) rfl, aw_lload_0 (pc2 := 7) D124_6 rfl, aw_lload_4 (pc2 := 9) D124_7 rfl, aw_lcmp (pc2 := 10) D124_9 rfl, aw_if_gt (pc2 := 13) (t := 17) D124_10 (by decide) rfl, aw_iconst (pc2 := 14) (y := 1) D124_13 rfl (by decide), aw_goto (t := 18) D124_14 (by decide), aw_iconst (pc2 := 18) (y := 0) D124_17 rfl (by decide), aw_zret D124_18 rfl, and_self, true_and, true_or, or_true, lg_cmp_lt, lg_cmp_gt]
  by_cases h : v < a
  · have : ¬ a ≤ v := by rw [fa_lt64] at h; rw [fa_le64]; omega
    simp [h, this]
  · have h1 : a ≤ v := by rw [fa_lt64] at h; rw [fa_le64]; omega
    by_cases h2 : b < v
    · have : ¬ v ≤ b := by rw [fa_lt64] at h2; rw [fa_le64]; omega
      simp [h, h2, this]
    · have : v ≤ b := by rw [fa_lt64] at h2; rw [fa_le64]; omega
      simp [h, h2, h1, this]
/-- bits of a set below 24, counted -/
def pc24 (m : Nat) : Nat := fb_ct (fun k => m.testBit k) 24
theorem shr_bit {m k : Nat} (hm : m < 2 ^ 31) (hk : k < 32) : (nI m >>> (nI k &&& 31)) &&& 1 = nI (if m.testBit k then 1 else 0) := by
  have h1 : ((nI k &&& 31).toBitVec.smod 32).toNat = k := by
    revert k; decide
  rw [pk_shrN hm _ k h1, show (1 : Int32) = nI 1 from rfl, fa_and]
  congr 1
  rw [Nat.and_one_is_mod, Nat.testBit_eq_decide_div_mod_eq]
  by_cases h : m / 2 ^ k % 2 = 1
  · simp [h]
  · simp [h]; omega
theorem M_many {m : Nat} (hm : m < 2 ^ 31) : ACall (d + 1) 129 [.int (nI m)] G I J K ↔ K (some (.int (nI (pc24 m)))) G I J := by
  rw [ACall_0 (L0 := [.int (nI m), nv, nv]) (show mcs 129 = (0, 0) from rfl) (show entL 129 [.int (nI m)] = _ from rfl) rfl (Nat.le_of_ble_eq_true rfl)]
  simp only [aw_iconst (pc2 := 1) (y := 0) D129_0 rfl (by decide), aw_istore_1 (pc2 := 2) D129_1 rfl, aw_iconst (pc2 := 3) (y := 0) D129_2 rfl (by decide), aw_istore_2 (pc2 := 4) D129_3 rfl, aw_bipush (pc2 := 7) (y := 24) D129_5 rfl (by decide), aw_icmp_ge (pc2 := 10) (t := 24) D129_7 (by decide) rfl, aw_iload_1 (pc2 := 11) D129_10 rfl, aw_iload_0 (pc2 := 12) D129_11 rfl, aw_iload_2 (pc2 := 13) D129_12 rfl, aw_ishr (pc2 := 14) D129_13 rfl, aw_iconst (pc2 := 15) (y := 1) D129_14 rfl (by decide), aw_iand (pc2 := 16) D129_15 rfl, aw_iadd (pc2 := 17) D129_16 rfl, aw_istore_1 (pc2 := 18) D129_17 rfl, aw_iinc_2 (pc2 := 21) (y := 1) D129_18 rfl (by decide), aw_goto (t := 4) D129_21 (by decide), aw_iload_1 (pc2 := 25) D129_24 rfl, aw_iret D129_25 rfl, kil_i, kil_n, and_self, true_and]
  have key : ∀ n k, k + n = 24 → (AW d (G.1, G.2.1) K 129 4 [.int (nI m), .int (nI (fb_ct (fun k => m.testBit k) k)), .int (nI k)] [] G I J ↔ K (some (.int (nI (pc24 m)))) G I J) := by
    intro n
    induction n with
    | zero =>
      intro k hk
      have : k = 24 := by omega
      subst this
      simp only [aw_iconst (pc2 := 1) (y := 0) D129_0 rfl (by decide), aw_istore_1 (pc2 := 2) D129_1 rfl, aw_iconst (pc2 := 3) (y := 0) D129_2 rfl (by decide), aw_istore_2 (pc2 := 4) D129_3 rfl, aw_iload_2 (pc2 := 5) D129_4 rfl, aw_bipush (pc2 := 7) (y := 24) D129_5 rfl (by decide), aw_icmp_ge (pc2 := 10) (t := 24) D129_7 (by decide) rfl, aw_iload_1 (pc2 := 11) D129_10 rfl, aw_iload_0 (pc2 := 12) D129_11 rfl, aw_iload_2 (pc2 := 13) D129_12 rfl, aw_ishr (pc2 := 14) D129_13 rfl, aw_iconst (pc2 := 15) (y := 1) D129_14 rfl (by decide), aw_iand (pc2 := 16) D129_15 rfl, aw_iadd (pc2 := 17) D129_16 rfl, aw_istore_1 (pc2 := 18) D129_17 rfl, aw_iinc_2 (pc2 := 21) (y := 1) D129_18 rfl (by decide), aw_goto (t := 4) D129_21 (by decide), aw_iload_1 (pc2 := 25) D129_24 rfl, aw_iret D129_25 rfl, and_self, true_and]
      rw [if_pos (by decide)]
      rfl
    | succ n ih =>
      intro k hk
      have h2 : ¬ (24 : Int32) ≤ nI k := nI_ge (b := 24) (by omega) (by decide)
      have hi := ih (k + 1) (by omega)
      rw [fb_ct_succ] at hi
      rw [aw_iload_2 (pc2 := 5) D129_4 rfl]
      simp only [aw_iconst (pc2 := 1) (y := 0) D129_0 rfl (by decide), aw_istore_1 (pc2 := 2) D129_1 rfl, aw_iconst (pc2 := 3) (y := 0) D129_2 rfl (by decide), aw_istore_2 (pc2 := 4) D129_3 rfl, aw_bipush (pc2 := 7) (y := 24) D129_5 rfl (by decide), aw_icmp_ge (pc2 := 10) (t := 24) D129_7 (by decide) rfl, aw_iload_1 (pc2 := 11) D129_10 rfl, aw_iload_0 (pc2 := 12) D129_11 rfl, aw_iload_2 (pc2 := 13) D129_12 rfl, aw_ishr (pc2 := 14) D129_13 rfl, aw_iconst (pc2 := 15) (y := 1) D129_14 rfl (by decide), aw_iand (pc2 := 16) D129_15 rfl, aw_iadd (pc2 := 17) D129_16 rfl, aw_istore_1 (pc2 := 18) D129_17 rfl, aw_iinc_2 (pc2 := 21) (y := 1) D129_18 rfl (by decide), aw_goto (t := 4) D129_21 (by decide), aw_iload_1 (pc2 := 25) D129_24 rfl, aw_iret D129_25 rfl, if_neg h2, kil_i, shr_bit hm (show k < 32 by omega), nI_add, nI_1]
      exact hi
  exact key 24 0 rfl
end Leaf
