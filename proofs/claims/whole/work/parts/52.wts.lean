/-! weights of rows -/
def wq (wt : Nat → Nat) (N r l : Nat) : Nat := wt (if hld N ((l : Int) + 1) r then l else 12 + l)
def wSeg (wt : Nat → Nat) (N r a : Nat) : Nat → Nat
  | 0 => 1
  | n + 1 => wSeg wt N r a n * wq wt N r (a + n)
def wRow (k : BK) (r : Nat) : Nat := wSeg k.wt k.N r 0 k.N
theorem wSeg_left (wt : Nat → Nat) (N r : Nat) : ∀ n a, wSeg wt N r a (n + 1) = wq wt N r a * wSeg wt N r (a + 1) n
  | 0, a => by rw [wSeg, wSeg, wSeg, Nat.one_mul, Nat.mul_one, Nat.add_zero]
  | n + 1, a => by
    rw [wSeg, wSeg_left wt N r n a, wSeg, Nat.mul_assoc, show a + (n + 1) = a + 1 + n by omega]
theorem hld_pos {N l r : Nat} : hld N ((l : Int) + 1) r = r.testBit (N - (l + 1)) := by
  unfold hld
  rw [if_pos (by omega), show ((l : Int) + 1).toNat = l + 1 by omega]
theorem hld_neg {N l r : Nat} : hld N (-((l : Int) + 1)) r = !r.testBit (N - (l + 1)) := by
  unfold hld
  rw [if_neg (by omega), show (- -((l : Int) + 1)).toNat = l + 1 by omega]
theorem wSeg_bits {wt : Nat → Nat} {N r r' : Nat} : ∀ {n a : Nat}, (∀ l, a ≤ l → l < a + n → r.testBit (N - (l + 1)) = r'.testBit (N - (l + 1))) → wSeg wt N r a n = wSeg wt N r' a n
  | 0, _, _ => rfl
  | n + 1, a, h => by
    rw [wSeg, wSeg, wSeg_bits (n := n) (fun l h1 h2 => h l h1 (by omega))]
    unfold wq
    rw [hld_pos, hld_pos, h (a + n) (by omega) (by omega)]
theorem wSeg_le {wt : Nat → Nat} (hw : ∀ p, wt p ≤ 7) (N r a : Nat) : ∀ n, wSeg wt N r a n ≤ 7 ^ n
  | 0 => Nat.le_refl _
  | n + 1 => by
    rw [wSeg, Nat.pow_succ]
    exact Nat.mul_le_mul (wSeg_le hw N r a n) (hw _)
theorem wRow_le {k : BK} (hk : bkOK k) (r : Nat) : wRow k r ≤ 7 ^ 12 := Nat.le_trans (wSeg_le hk.2.2.2.2.2.2.1 _ _ _ _) (Nat.pow_le_pow_right (by decide) hk.2.1)
theorem wRow_lt {k : BK} (hk : bkOK k) (r : Nat) : wRow k r < 2 ^ 34 := Nat.lt_of_le_of_lt (wRow_le hk r) (Nat.le_of_ble_eq_true rfl)
theorem wRow_lt63 {k : BK} (hk : bkOK k) (r : Nat) : wRow k r < 2 ^ 63 := Nat.lt_of_le_of_lt (wRow_le hk r) (Nat.le_of_ble_eq_true rfl)
theorem pl_bits : ∀ l, l < 12 → plc (nI (l + 1)) = nI l ∧ plc (-(nI (l + 1))) = nI (12 + l) := by decide
theorem ok_bits : ∀ N, N < 13 → ∀ l, l < N → (¬ nI (l + 1) = 0 ∧ -(nI N) ≤ nI (l + 1) ∧ nI (l + 1) ≤ nI N) ∧ (¬ -(nI (l + 1)) = 0 ∧ -(nI N) ≤ -(nI (l + 1)) ∧ -(nI (l + 1)) ≤ nI N) := by decide
/-- a sum over rows of a set -/
def sumW (w : Nat → Nat) (T : Nat → Bool) (n : Nat) : Nat := fb_sm (fun r => if T r then w r else 0) n
theorem sumW_succ (w : Nat → Nat) (T : Nat → Bool) (n : Nat) : sumW w T (n + 1) = sumW w T n + (if T n then w n else 0) := rfl
theorem sumW_le {w : Nat → Nat} {M : Nat} (hw : ∀ r, w r ≤ M) (T : Nat → Bool) (n : Nat) : sumW w T n ≤ n * M := fb_sm_bound (fun k _ => by
  split
  · exact hw k
  · exact Nat.zero_le _)
theorem sumW_lt {k : BK} (hk : bkOK k) (T : Nat → Bool) {n : Nat} (hn : n ≤ 4096) : sumW (wRow k) T n < 2 ^ 62 := Nat.lt_of_le_of_lt (Nat.le_trans (sumW_le (wRow_le hk) T n) (Nat.mul_le_mul_right _ hn)) (Nat.le_of_ble_eq_true rfl)
/-- the first of a set whose weight is the greatest (the least) -/
def bst (T : Nat → Bool) (w : Nat → Nat) (least : Bool) : Nat → Option Nat
  | 0 => none
  | n + 1 => if T n then (match bst T w least n with
    | none => some n
    | some m => if (if least then w n < w m else w m < w n) then some n else some m) else bst T w least n
def bstI : Option Nat → Int32
  | none => -1
  | some m => nI m
section Wts
variable {d Ln B N : Nat} {I : IT} {J : JT} {K : KT}
theorem C_wtPos {k : BK} {l : Nat} (hB : BF Ln B) (hk : bkOK k) (h : CB B k I J) (hl : l < k.N) : ACall (d + 3) 10 [.ref B, .int (nI (l + 1))] (G0 Ln) I J K ↔ K (some (.int (nI (k.wt l)))) (G0 Ln) I J := by
  have hN := hk.2.1
  rw [C_weightOf hB (by rw [h.1]; exact (ok_bits _ (by omega) l hl).1) (pl_bits l (by omega)).1 (by omega), h.2.2.2.2.2.1 l (by omega)]
theorem C_wtNeg {k : BK} {l : Nat} (hB : BF Ln B) (hk : bkOK k) (h : CB B k I J) (hl : l < k.N) : ACall (d + 3) 10 [.ref B, .int (-(nI (l + 1)))] (G0 Ln) I J K ↔ K (some (.int (nI (k.wt (12 + l))))) (G0 Ln) I J := by
  have hN := hk.2.1
  rw [C_weightOf hB (by rw [h.1]; exact (ok_bits _ (by omega) l hl).2) (pl_bits l (by omega)).2 (by omega), h.2.2.2.2.2.1 (12 + l) (by omega)]
theorem C_weightOfRow {k : BK} {r : Nat} (hB : BF Ln B) (hk : bkOK k) (h : CB B k I J) (hr : r < 2 ^ 31) : ACall (d + 4) 12 [.ref B, .int (nI r)] (G0 Ln) I J K ↔ K (some (.long (lN (wRow k r)))) (G0 Ln) I J := by
  rw [ACall_0 (L0 := [.ref B, .int (nI r), nv, nv, nv, nv]) (show mcs 12 = (0, 0) from rfl) (show entL 12 [.ref B, .int (nI r)] = _ from rfl) rfl (Nat.le_of_ble_eq_true rfl)]
  have hN := hk.2.1
  have hw := hk.2.2.2.2.2.2.1
  simp (disch := omega) only [aw_lconst (pc2 := 1) (y := 1) D12_0 rfl (by decide), aw_lstore_2 (pc2 := 2) D12_1 rfl, aw_iconst (pc2 := 3) (y := 1) D12_2 rfl (by decide), aw_istore_4 (pc2 := 5) D12_3 rfl, refV_s, refV_n, psh_s, psh_n, kil_i, kil_r, kil_n, kil_l, cat_i, cat_r, iOK_1, iOK_5, jOK_2, jOK_6, wOK_e, lOK_1, lOK_2, lOK_3, lOK_4, lOK_5, lOK_6, catS_0, catS_1, catS_2, catS_3, catS_4, and_self, true_and, and_true, true_or, or_true, false_or, or_false, not_true_eq_false, not_false_eq_true, if_true, if_false, ite_int, ite_int0, au_10, eq_self, decide_true, decide_false, Bool.true_and, Bool.false_and, au_in, au_le, au_lt, au_eq, au_lt0, au_ge0, au_le0, au_gt0, au_eq0, au_leT, au_leF, au_ltT, au_ltF, au_eqT, au_eqF, nI_clamp, nI_1, nI_add, pk_mul, au_sub1, au_subc, au_up2e, au_up2n, lit_of]
  have key : ∀ n l v, l + n = k.N → kil v = v → (AW (d + 3) ((G0 Ln).1, (G0 Ln).2.1) K 12 5 [.ref B, .int (nI r), .long (lN (wSeg k.wt k.N r 0 l)), nv, .int (nI (l + 1)), v] [] (G0 Ln) I J ↔ K (some (.long (lN (wRow k r)))) (G0 Ln) I J) := by
    intro n
    induction n with
    | zero =>
      intro l v hl hv
      have e : l = k.N := by omega
      subst e
      simp (disch := omega) only [aw_iload_4 (pc2 := 7) D12_5 rfl, aw_aload_0 (pc2 := 8) D12_7 rfl, aw_getI (pc2 := 11) (ci := 0) (fk := 4) D12_8 rfl fT_0_32 rfl, aw_icmp_gt (pc2 := 14) (t := 62) D12_11 (by decide) rfl, aw_lload_2 (pc2 := 63) D12_62 rfl, aw_lret D12_63 rfl, refV_s, refV_n, psh_s, psh_n, kil_i, kil_r, kil_n, kil_l, cat_i, cat_r, iOK_1, iOK_5, jOK_2, jOK_6, wOK_e, lOK_1, lOK_2, lOK_3, lOK_4, lOK_5, lOK_6, catS_0, catS_1, catS_2, catS_3, catS_4, and_self, true_and, and_true, true_or, or_true, false_or, or_false, not_true_eq_false, not_false_eq_true, if_true, if_false, ite_int, ite_int0, au_10, eq_self, decide_true, decide_false, Bool.true_and, Bool.false_and, au_in, au_le, au_lt, au_eq, au_lt0, au_ge0, au_le0, au_gt0, au_eq0, au_leT, au_leF, au_ltT, au_ltF, au_eqT, au_eqF, nI_clamp, nI_1, nI_add, pk_mul, au_sub1, au_subc, au_up2e, au_up2n, lit_of, hB.1.1, h.1]
      exact Iff.rfl
    | succ n ih =>
      intro l v hl hv
      have ihn := ih (l + 1) (.int (if r.testBit (k.N - (l + 1)) then 1 else 0)) (by omega) rfl
      rw [wSeg, Nat.zero_add] at ihn
      have hq : wq k.wt k.N r l = k.wt (if r.testBit (k.N - (l + 1)) then l else 12 + l) := by unfold wq; rw [hld_pos]
      have h7a := hw l
      have h7b := hw (12 + l)
      rw [hq] at ihn
      rw [aw_iload_4 (pc2 := 7) D12_5 rfl]
      simp (disch := omega) only [aw_aload_0 (pc2 := 8) D12_7 rfl, aw_getI (pc2 := 11) (ci := 0) (fk := 4) D12_8 rfl fT_0_32 rfl, aw_icmp_gt (pc2 := 14) (t := 62) D12_11 (by decide) rfl, aw_iload_1 (pc2 := 15) D12_14 rfl, aw_aload_0 (pc2 := 16) D12_15 rfl, aw_getI (pc2 := 19) (ci := 0) (fk := 4) D12_16 rfl fT_0_32 rfl, aw_iload_4 (pc2 := 21) D12_19 rfl, aw_isub (pc2 := 22) D12_21 rfl, aw_ishr (pc2 := 23) D12_22 rfl, aw_iconst (pc2 := 24) (y := 1) D12_23 rfl (by decide), aw_iand (pc2 := 25) D12_24 rfl, aw_if_eq (pc2 := 28) (t := 32) D12_25 (by decide) rfl, refV_s, refV_n, psh_s, psh_n, kil_i, kil_r, kil_n, kil_l, cat_i, cat_r, iOK_1, iOK_5, jOK_2, jOK_6, wOK_e, lOK_1, lOK_2, lOK_3, lOK_4, lOK_5, lOK_6, catS_0, catS_1, catS_2, catS_3, catS_4, and_self, true_and, and_true, true_or, or_true, false_or, or_false, not_true_eq_false, not_false_eq_true, if_true, if_false, ite_int, ite_int0, au_10, eq_self, decide_true, decide_false, Bool.true_and, Bool.false_and, au_in, au_le, au_lt, au_eq, au_lt0, au_ge0, au_le0, au_gt0, au_eq0, au_leT, au_leF, au_ltT, au_ltF, au_eqT, au_eqF, nI_clamp, nI_1, nI_add, pk_mul, au_sub1, au_subc, au_up2e, au_up2n, lit_of, hB.1.1, h.1, shr_bit, nI_bit]
      cases t : r.testBit (k.N - (l + 1))
      · rw [t] at ihn
        rw [if_pos rfl]
        simp (disch := omega) only [aw_iconst (pc2 := 33) (y := 0) D12_32 rfl (by decide), aw_istore_5 (pc2 := 35) D12_33 rfl, aw_lload_2 (pc2 := 36) D12_35 rfl, aw_aload_0 (pc2 := 37) D12_36 rfl, aw_iload_5 (pc2 := 39) D12_37 rfl, aw_if_eq (pc2 := 42) (t := 47) D12_39 (by decide) rfl, aw_iload_4 (pc2 := 44) D12_42 rfl, aw_goto (t := 50) D12_44 (by decide), aw_iload_4 (pc2 := 49) D12_47 rfl, aw_ineg (pc2 := 50) D12_49 rfl, aw_iv1_0 (pc2 := 53) (o := 0) D12_50 rfl cT_0_64 rfl rfl, aw_i2l (pc2 := 54) D12_53 rfl, aw_lmul (pc2 := 55) D12_54 rfl, aw_lstore_2 (pc2 := 56) D12_55 rfl, aw_iinc_4 (pc2 := 59) (y := 1) D12_56 rfl (by decide), aw_goto (t := 5) D12_59 (by decide), refV_s, refV_n, psh_s, psh_n, kil_i, kil_r, kil_n, kil_l, cat_i, cat_r, iOK_1, iOK_5, jOK_2, jOK_6, wOK_e, lOK_1, lOK_2, lOK_3, lOK_4, lOK_5, lOK_6, catS_0, catS_1, catS_2, catS_3, catS_4, and_self, true_and, and_true, true_or, or_true, false_or, or_false, not_true_eq_false, not_false_eq_true, if_true, if_false, ite_int, ite_int0, au_10, eq_self, decide_true, decide_false, Bool.true_and, Bool.false_and, au_in, au_le, au_lt, au_eq, au_lt0, au_ge0, au_le0, au_gt0, au_eq0, au_leT, au_leF, au_ltT, au_ltF, au_eqT, au_eqF, nI_clamp, nI_1, nI_add, pk_mul, au_sub1, au_subc, au_up2e, au_up2n, lit_of, hB.1.1, hv, C_wtNeg hB hk h (show l < k.N by omega), nI_l, lN_mul]
        simpa using ihn
      · rw [t] at ihn
        rw [if_neg (by decide)]
        simp (disch := omega) only [aw_iconst (pc2 := 29) (y := 1) D12_28 rfl (by decide), aw_goto (t := 33) D12_29 (by decide), aw_iconst (pc2 := 33) (y := 0) D12_32 rfl (by decide), aw_istore_5 (pc2 := 35) D12_33 rfl, aw_lload_2 (pc2 := 36) D12_35 rfl, aw_aload_0 (pc2 := 37) D12_36 rfl, aw_iload_5 (pc2 := 39) D12_37 rfl, aw_if_eq (pc2 := 42) (t := 47) D12_39 (by decide) rfl, aw_iload_4 (pc2 := 44) D12_42 rfl, aw_goto (t := 50) D12_44 (by decide), aw_iload_4 (pc2 := 49) D12_47 rfl, aw_ineg (pc2 := 50) D12_49 rfl, aw_iv1_0 (pc2 := 53) (o := 0) D12_50 rfl cT_0_64 rfl rfl, aw_i2l (pc2 := 54) D12_53 rfl, aw_lmul (pc2 := 55) D12_54 rfl, aw_lstore_2 (pc2 := 56) D12_55 rfl, aw_iinc_4 (pc2 := 59) (y := 1) D12_56 rfl (by decide), aw_goto (t := 5) D12_59 (by decide), refV_s, refV_n, psh_s, psh_n, kil_i, kil_r, kil_n, kil_l, cat_i, cat_r, iOK_1, iOK_5, jOK_2, jOK_6, wOK_e, lOK_1, lOK_2, lOK_3, lOK_4, lOK_5, lOK_6, catS_0, catS_1, catS_2, catS_3, catS_4, and_self, true_and, and_true, true_or, or_true, false_or, or_false, not_true_eq_false, not_false_eq_true, if_true, if_false, ite_int, ite_int0, au_10, eq_self, decide_true, decide_false, Bool.true_and, Bool.false_and, au_in, au_le, au_lt, au_eq, au_lt0, au_ge0, au_le0, au_gt0, au_eq0, au_leT, au_leF, au_ltT, au_ltF, au_eqT, au_eqF, nI_clamp, nI_1, nI_add, pk_mul, au_sub1, au_subc, au_up2e, au_up2n, lit_of, hB.1.1, hv, C_wtPos hB hk h (show l < k.N by omega), nI_l, lN_mul]
        simpa using ihn
  exact key k.N 0 nv (by omega) rfl
theorem C_weighAllRows {k : BK} (hB : BF Ln B) (hB9 : B < 100) (hk : bkOK k) (h : CB B k I J) (hq : ∀ J', (∀ a, a ≠ 117 → J' a = J a) → (∀ r, r < 2 ^ k.N → J' 117 r = lN (wRow k r)) → K none (G0 Ln) I J') : ACall (d + 4) 13 [.ref B, .ref 117] (G0 Ln) I J K := by
  rw [ACall_0 (L0 := [.ref B, .ref 117, nv, nv, nv, nv, nv]) (show mcs 13 = (0, 0) from rfl) (show entL 13 [.ref B, .ref 117] = _ from rfl) rfl (Nat.le_of_ble_eq_true rfl)]
  have hN := hk.2.1
  have hN1 := hk.1
  have hw := hk.2.2.2.2.2.2.1
  obtain ⟨-, -, -, -, -, w6, w7, -⟩ := wN_all k.N (by omega)
  have hfr : ∀ J', (∀ a, a ≠ 117 → J' a = J a) → CB B k I J' := fun J' hJ' => h.fr (fun _ _ _ => rfl) (fun c _ _ => hJ' c (by omega))
  have z0 : (0 : Int32).toNatClampNeg = 0 := by decide
  have zv : vp_in 0 4096 := vp_in_nI (n := 0) (by decide) (by decide)
  simp (disch := omega) only [aw_aload_1 (pc2 := 1) D13_0 rfl, aw_alen (pc2 := 2) D13_1 rfl, aw_aload_0 (pc2 := 3) D13_2 rfl, aw_iv0_0 (pc2 := 6) (o := 0) D13_3 rfl cT_0_67 rfl rfl, aw_icmp_ge (pc2 := 9) (t := 10) D13_6 (by decide) rfl, aw_vret D13_9 rfl, aw_aload_1 (pc2 := 11) D13_10 rfl, aw_iconst (pc2 := 12) (y := 0) D13_11 rfl (by decide), aw_lconst (pc2 := 13) (y := 1) D13_12 rfl (by decide), aw_lastore (pc2 := 14) D13_13 rfl, aw_iconst (pc2 := 15) (y := 1) D13_14 rfl (by decide), aw_istore_2 (pc2 := 16) D13_15 rfl, aw_aload_0 (pc2 := 17) D13_16 rfl, aw_getI (pc2 := 20) (ci := 0) (fk := 4) D13_17 rfl fT_0_32 rfl, aw_istore_3 (pc2 := 21) D13_20 rfl, lit_2, refV_s, refV_n, psh_s, psh_n, kil_i, kil_r, kil_n, kil_l, cat_i, cat_r, iOK_1, iOK_5, jOK_2, jOK_6, wOK_e, lOK_1, lOK_2, lOK_3, lOK_4, lOK_5, lOK_6, catS_0, catS_1, catS_2, catS_3, catS_4, and_self, true_and, and_true, true_or, or_true, false_or, or_false, not_true_eq_false, not_false_eq_true, if_true, if_false, ite_int, ite_int0, au_10, eq_self, decide_true, decide_false, Bool.true_and, Bool.false_and, au_in, au_le, au_lt, au_eq, au_lt0, au_ge0, au_le0, au_gt0, au_eq0, au_leT, au_leF, au_ltT, au_ltF, au_eqT, au_eqF, nI_clamp, nI_1, nI_add, pk_mul, au_sub1, au_subc, au_up2e, au_up2n, lit_of, hB.1.1, h.1, C_rowCount hB, shl1, sh_117, zv, z0]
  have outer : ∀ n m J' v4 v5 v6, m + n = k.N → (∀ a, a ≠ 117 → J' a = J a) → (∀ r, r < 2 ^ m → J' 117 r = lN (wSeg k.wt k.N r n m)) → kil v4 = v4 → kil v5 = v5 → kil v6 = v6 → AW (d + 3) ((G0 Ln).1, (G0 Ln).2.1) K 13 21 [.ref B, .ref 117, .int (nI (2 ^ m)), .int (nI n), v4, v5, v6] [] (G0 Ln) I J' := by
    intro n
    induction n with
    | zero =>
      intro m J' v4 v5 v6 hm hJ' hr k4 k5 k6
      have e : m = k.N := by omega
      subst e
      have e1 : nI 0 < 1 := by decide
      simp only [aw_iload_3 (pc2 := 22) D13_21 rfl, aw_iconst (pc2 := 23) (y := 1) D13_22 rfl (by decide), aw_icmp_lt (pc2 := 26) (t := 90) D13_23 (by decide) rfl, aw_vret D13_90 rfl, lit_2, refV_s, refV_n, psh_s, psh_n, kil_i, kil_r, kil_n, kil_l, cat_i, cat_r, iOK_1, iOK_5, jOK_2, jOK_6, wOK_e, lOK_1, lOK_2, lOK_3, lOK_4, lOK_5, lOK_6, catS_0, catS_1, catS_2, catS_3, catS_4, and_self, true_and, and_true, true_or, or_true, false_or, or_false, not_true_eq_false, not_false_eq_true, if_true, if_false, ite_int, ite_int0, au_10, eq_self, decide_true, decide_false, Bool.true_and, Bool.false_and, if_pos e1]
      exact hq J' hJ' hr
    | succ n ih =>
      intro m J' v4 v5 v6 hm hJ' hr k4 k5 k6
      have hmN : m < k.N := by omega
      have hpm : 2 ^ (m + 1) ≤ 4096 := Nat.le_trans (Nat.pow_le_pow_right (n := 2) (by decide) (show m + 1 ≤ k.N by omega)) w6
      have hp2 : 2 ^ (m + 1) = 2 * 2 ^ m := by rw [Nat.pow_succ, Nat.mul_comm]
      have h7a := hw n
      have h7b := hw (12 + n)
      have e1 : ¬ nI (n + 1) < 1 := nI_nlt (a := n + 1) (b := 1) (by omega) (by omega)
      rw [aw_iload_3 (pc2 := 22) D13_21 rfl]
      simp (disch := omega) only [aw_iconst (pc2 := 23) (y := 1) D13_22 rfl (by decide), aw_icmp_lt (pc2 := 26) (t := 90) D13_23 (by decide) rfl, aw_aload_0 (pc2 := 27) D13_26 rfl, aw_iload_3 (pc2 := 28) D13_27 rfl, aw_iv1_0 (pc2 := 31) (o := 0) D13_28 rfl cT_0_64 rfl rfl, aw_istore_4 (pc2 := 33) D13_31 rfl, aw_aload_0 (pc2 := 34) D13_33 rfl, aw_iload_3 (pc2 := 35) D13_34 rfl, aw_ineg (pc2 := 36) D13_35 rfl, aw_iv1_0 (pc2 := 39) (o := 0) D13_36 rfl cT_0_64 rfl rfl, aw_istore_5 (pc2 := 41) D13_39 rfl, aw_iconst (pc2 := 42) (y := 0) D13_41 rfl (by decide), aw_istore_6 (pc2 := 44) D13_42 rfl, lit_2, refV_s, refV_n, psh_s, psh_n, kil_i, kil_r, kil_n, kil_l, cat_i, cat_r, iOK_1, iOK_5, jOK_2, jOK_6, wOK_e, lOK_1, lOK_2, lOK_3, lOK_4, lOK_5, lOK_6, catS_0, catS_1, catS_2, catS_3, catS_4, and_self, true_and, and_true, true_or, or_true, false_or, or_false, not_true_eq_false, not_false_eq_true, if_true, if_false, ite_int, ite_int0, au_10, eq_self, decide_true, decide_false, Bool.true_and, Bool.false_and, au_in, au_le, au_lt, au_eq, au_lt0, au_ge0, au_le0, au_gt0, au_eq0, au_leT, au_leF, au_ltT, au_ltF, au_eqT, au_eqF, nI_clamp, nI_1, nI_add, pk_mul, au_sub1, au_subc, au_up2e, au_up2n, lit_of, hB.1.1, e1, C_wtPos hB hk (hfr J' hJ') (show n < k.N by omega), C_wtNeg hB hk (hfr J' hJ') (show n < k.N by omega), k4, k5, k6]
      have inner : ∀ q i J'', i + q = 2 ^ m → (∀ a, a ≠ 117 → J'' a = J a) → (∀ r, r < i → J'' 117 r = lN (wSeg k.wt k.N r (n + 1) m * k.wt (12 + n)) ∧ J'' 117 (2 ^ m + r) = lN (wSeg k.wt k.N r (n + 1) m * k.wt n)) → (∀ r, i ≤ r → r < 2 ^ m → J'' 117 r = lN (wSeg k.wt k.N r (n + 1) m)) → AW (d + 3) ((G0 Ln).1, (G0 Ln).2.1) K 13 44 [.ref B, .ref 117, .int (nI (2 ^ m)), .int (nI (n + 1)), .int (nI (k.wt n)), .int (nI (k.wt (12 + n))), .int (nI i)] [] (G0 Ln) I J'' := by
        intro q
        induction q with
        | zero =>
          intro i J'' hi hJ'' h1 h2
          have e : i = 2 ^ m := by omega
          have ihn := ih (m + 1)
          rw [hp2, show 2 * 2 ^ m = 2 ^ m * 2 by omega] at ihn
          have em : nI (n + 1) + -1 = nI n := pk_m1 n
          rw [e] at h1 ⊢
          simp (disch := omega) only [aw_iload_6 (pc2 := 46) D13_44 rfl, aw_iload_2 (pc2 := 47) D13_46 rfl, aw_icmp_ge (pc2 := 50) (t := 80) D13_47 (by decide) rfl, aw_iload_2 (pc2 := 81) D13_80 rfl, aw_iconst (pc2 := 82) (y := 2) D13_81 rfl (by decide), aw_imul (pc2 := 83) D13_82 rfl, aw_istore_2 (pc2 := 84) D13_83 rfl, aw_iinc_3 (pc2 := 87) (y := -1) D13_84 rfl (by decide), aw_goto (t := 21) D13_87 (by decide), lit_2, refV_s, refV_n, psh_s, psh_n, kil_i, kil_r, kil_n, kil_l, cat_i, cat_r, iOK_1, iOK_5, jOK_2, jOK_6, wOK_e, lOK_1, lOK_2, lOK_3, lOK_4, lOK_5, lOK_6, catS_0, catS_1, catS_2, catS_3, catS_4, and_self, true_and, and_true, true_or, or_true, false_or, or_false, not_true_eq_false, not_false_eq_true, if_true, if_false, ite_int, ite_int0, au_10, eq_self, decide_true, decide_false, Bool.true_and, Bool.false_and, au_in, au_le, au_lt, au_eq, au_lt0, au_ge0, au_le0, au_gt0, au_eq0, au_leT, au_leF, au_ltT, au_ltF, au_eqT, au_eqF, nI_clamp, nI_1, nI_add, pk_mul, au_sub1, au_subc, au_up2e, au_up2n, lit_of, em]
          refine ihn J'' _ _ _ (by omega) hJ'' (fun r hr2 => ?_) rfl rfl rfl
          rw [wSeg_left]
          by_cases hlt : r < 2 ^ m
          · rw [(h1 r hlt).1]
            unfold wq
            rw [hld_pos, show k.N - (n + 1) = m by omega, Nat.testBit_lt_two_pow hlt, if_neg (by decide), Nat.mul_comm]
          · obtain ⟨r', rfl⟩ : ∃ r', r = 2 ^ m + r' := ⟨r - 2 ^ m, by omega⟩
            have hr' : r' < 2 ^ m := by omega
            rw [(h1 r' hr').2]
            have e2 : wSeg k.wt k.N (2 ^ m + r') (n + 1) m = wSeg k.wt k.N r' (n + 1) m := wSeg_bits (fun l l1 l2 => Nat.testBit_two_pow_add_gt (show k.N - (l + 1) < m by omega) r')
            rw [e2]
            unfold wq
            rw [hld_pos, show k.N - (n + 1) = m by omega, Nat.testBit_two_pow_add_eq, Nat.testBit_lt_two_pow hr', Bool.not_false, if_pos rfl, Nat.mul_comm]
        | succ q ihq =>
          intro i J'' hi hJ'' h1 h2
          have ihn := ihq (i + 1)
          rw [aw_iload_6 (pc2 := 46) D13_44 rfl]
          simp (disch := omega) only [aw_iload_2 (pc2 := 47) D13_46 rfl, aw_icmp_ge (pc2 := 50) (t := 80) D13_47 (by decide) rfl, aw_aload_1 (pc2 := 51) D13_50 rfl, aw_iload_2 (pc2 := 52) D13_51 rfl, aw_iload_6 (pc2 := 54) D13_52 rfl, aw_iadd (pc2 := 55) D13_54 rfl, aw_aload_1 (pc2 := 56) D13_55 rfl, aw_iload_6 (pc2 := 58) D13_56 rfl, aw_laload (pc2 := 59) D13_58 rfl, aw_iload_4 (pc2 := 61) D13_59 rfl, aw_i2l (pc2 := 62) D13_61 rfl, aw_lmul (pc2 := 63) D13_62 rfl, aw_lastore (pc2 := 64) D13_63 rfl, aw_aload_1 (pc2 := 65) D13_64 rfl, aw_iload_6 (pc2 := 67) D13_65 rfl, aw_dup2 (pc2 := 68) D13_67 rfl, aw_laload (pc2 := 69) D13_68 rfl, aw_iload_5 (pc2 := 71) D13_69 rfl, aw_i2l (pc2 := 72) D13_71 rfl, aw_lmul (pc2 := 73) D13_72 rfl, aw_lastore (pc2 := 74) D13_73 rfl, aw_iinc_6 (pc2 := 77) (y := 1) D13_74 rfl (by decide), aw_goto (t := 44) D13_77 (by decide), lit_2, refV_s, refV_n, psh_s, psh_n, kil_i, kil_r, kil_n, kil_l, cat_i, cat_r, iOK_1, iOK_5, jOK_2, jOK_6, wOK_e, lOK_1, lOK_2, lOK_3, lOK_4, lOK_5, lOK_6, catS_0, catS_1, catS_2, catS_3, catS_4, and_self, true_and, and_true, true_or, or_true, false_or, or_false, not_true_eq_false, not_false_eq_true, if_true, if_false, ite_int, ite_int0, au_10, eq_self, decide_true, decide_false, Bool.true_and, Bool.false_and, au_in, au_le, au_lt, au_eq, au_lt0, au_ge0, au_le0, au_gt0, au_eq0, au_leT, au_leF, au_ltT, au_ltF, au_eqT, au_eqF, nI_clamp, nI_1, nI_add, pk_mul, au_sub1, au_subc, au_up2e, au_up2n, lit_of, sh_117, h2 i (Nat.le_refl _) (show i < 2 ^ m by omega), nI_l, lN_mul]
          refine ihn _ (by omega) (fun a ha => by rw [up2_off ha, up2_off ha]; exact hJ'' a ha) (fun r hr2 => ?_) (fun r hr2 hr3 => ?_)
          · by_cases e : r = i
            · subst e
              constructor
              · simp (disch := omega) only [au_up2e]
              · simp (disch := omega) only [au_up2e, au_up2n]
            · obtain ⟨g1, g2⟩ := h1 r (by omega)
              constructor
              · simp (disch := omega) only [au_up2n]; exact g1
              · simp (disch := omega) only [au_up2n]; exact g2
          · simp (disch := omega) only [au_up2n]; exact h2 r (by omega) hr3
      exact inner (2 ^ m) 0 J' (by omega) hJ' (fun r hr2 => absurd hr2 (Nat.not_lt_zero _)) (fun r _ hr2 => hr r hr2)
  refine outer k.N 0 _ _ _ _ (by omega) (fun a ha => up2_off ha) (fun r hr => ?_) rfl rfl rfl
  have hr0 : r = 0 := by have : r < 1 := hr; omega
  subst hr0
  simp (disch := omega) only [au_up2e]
  rfl
theorem C_weightOfAll {c : Nat} {T : Nat → Bool} {w : Nat → Nat} (hc : RF Ln c) (hN : N ≤ 12) (h : RSet N c T I J) (hw : ∀ r, r < 2 ^ N → J 117 r = lN (w r)) : ACall (d + 2) 115 [.ref 0, .ref c] (G0 Ln) I J K ↔ K (some (.long (lN (sumW w T (2 ^ N))))) (G0 Ln) I J := by
  rw [ACall_0 (L0 := [.ref 0, .ref c, nv, nv, nv]) (show mcs 115 = (0, 0) from rfl) (show entL 115 [.ref 0, .ref c] = _ from rfl) rfl (Nat.le_of_ble_eq_true rfl)]
  obtain ⟨-, -, -, -, -, w6, -⟩ := wN_all N (by omega)
  simp (disch := omega) only [aw_lconst (pc2 := 1) (y := 0) D115_0 rfl (by decide), aw_lstore_2 (pc2 := 2) D115_1 rfl, aw_iconst (pc2 := 3) (y := 0) D115_2 rfl (by decide), aw_istore_4 (pc2 := 5) D115_3 rfl, sh_0, rf_0_3, sh_117, refV_s, refV_n, psh_s, psh_n, kil_i, kil_r, kil_n, kil_l, cat_i, cat_r, iOK_1, iOK_5, jOK_2, jOK_6, wOK_e, lOK_1, lOK_2, lOK_3, lOK_4, lOK_5, lOK_6, catS_0, catS_1, catS_2, catS_3, catS_4, and_self, true_and, and_true, true_or, or_true, false_or, or_false, not_true_eq_false, not_false_eq_true, if_true, if_false, ite_int, ite_int0, au_10, eq_self, decide_true, decide_false, Bool.true_and, Bool.false_and, au_in, au_le, au_lt, au_eq, au_lt0, au_ge0, au_le0, au_gt0, au_eq0, au_leT, au_leF, au_ltT, au_ltF, au_eqT, au_eqF, nI_clamp, nI_1, nI_add, pk_mul, au_sub1, au_subc, au_up2e, au_up2n, lit_of]
  have key : ∀ n i, i + n = 2 ^ N → (AW (d + 1) ((G0 Ln).1, (G0 Ln).2.1) K 115 5 [.ref 0, .ref c, .long (lN (sumW w T i)), nv, .int (nI i)] [] (G0 Ln) I J ↔ K (some (.long (lN (sumW w T (2 ^ N))))) (G0 Ln) I J) := by
    intro n
    induction n with
    | zero =>
      intro i hi
      have e : i = 2 ^ N := by omega
      rw [e]
      by_cases h4 : 2 ^ N = 4096
      · simp (disch := omega) only [aw_iload_4 (pc2 := 7) D115_5 rfl, aw_aload_0 (pc2 := 8) D115_7 rfl, aw_aloadN_0 (pc2 := 8) D115_7 rfl, aw_getR (pc2 := 11) (ci := 6) (fk := 3) D115_8 rfl fT_6_26 rfl, aw_alen (pc2 := 12) D115_11 rfl, aw_icmp_ge (pc2 := 15) (t := 49) D115_12 (by decide) rfl, aw_iload_4 (pc2 := 17) D115_15 rfl, aw_aload_1 (pc2 := 18) D115_17 rfl, aw_aloadN_1 (pc2 := 18) D115_17 rfl, aw_getI (pc2 := 21) (ci := 5) (fk := 2) D115_18 rfl fT_6_245 rfl, aw_icmp_ge (pc2 := 24) (t := 49) D115_21 (by decide) rfl, aw_lload_2 (pc2 := 50) D115_49 rfl, aw_lret D115_50 rfl, sh_0, rf_0_3, sh_117, refV_s, refV_n, psh_s, psh_n, kil_i, kil_r, kil_n, kil_l, cat_i, cat_r, iOK_1, iOK_5, jOK_2, jOK_6, wOK_e, lOK_1, lOK_2, lOK_3, lOK_4, lOK_5, lOK_6, catS_0, catS_1, catS_2, catS_3, catS_4, and_self, true_and, and_true, true_or, or_true, false_or, or_false, not_true_eq_false, not_false_eq_true, if_true, if_false, ite_int, ite_int0, au_10, eq_self, decide_true, decide_false, Bool.true_and, Bool.false_and, au_in, au_le, au_lt, au_eq, au_lt0, au_ge0, au_le0, au_gt0, au_eq0, au_leT, au_leF, au_ltT, au_ltF, au_eqT, au_eqF, nI_clamp, nI_1, nI_add, pk_mul, au_sub1, au_subc, au_up2e, au_up2n, lit_of, hc.2.1, h.2.1, h4]
      · simp (disch := omega) only [aw_iload_4 (pc2 := 7) D115_5 rfl, aw_aload_0 (pc2 := 8) D115_7 rfl, aw_aloadN_0 (pc2 := 8) D115_7 rfl, aw_getR (pc2 := 11) (ci := 6) (fk := 3) D115_8 rfl fT_6_26 rfl, aw_alen (pc2 := 12) D115_11 rfl, aw_icmp_ge (pc2 := 15) (t := 49) D115_12 (by decide) rfl, aw_iload_4 (pc2 := 17) D115_15 rfl, aw_aload_1 (pc2 := 18) D115_17 rfl, aw_aloadN_1 (pc2 := 18) D115_17 rfl, aw_getI (pc2 := 21) (ci := 5) (fk := 2) D115_18 rfl fT_6_245 rfl, aw_icmp_ge (pc2 := 24) (t := 49) D115_21 (by decide) rfl, aw_lload_2 (pc2 := 50) D115_49 rfl, aw_lret D115_50 rfl, sh_0, rf_0_3, sh_117, refV_s, refV_n, psh_s, psh_n, kil_i, kil_r, kil_n, kil_l, cat_i, cat_r, iOK_1, iOK_5, jOK_2, jOK_6, wOK_e, lOK_1, lOK_2, lOK_3, lOK_4, lOK_5, lOK_6, catS_0, catS_1, catS_2, catS_3, catS_4, and_self, true_and, and_true, true_or, or_true, false_or, or_false, not_true_eq_false, not_false_eq_true, if_true, if_false, ite_int, ite_int0, au_10, eq_self, decide_true, decide_false, Bool.true_and, Bool.false_and, au_in, au_le, au_lt, au_eq, au_lt0, au_ge0, au_le0, au_gt0, au_eq0, au_leT, au_leF, au_ltT, au_ltF, au_eqT, au_eqF, nI_clamp, nI_1, nI_add, pk_mul, au_sub1, au_subc, au_up2e, au_up2n, lit_of, hc.2.1, h.2.1]
    | succ n ih =>
      intro i hi
      have ihn := ih (i + 1) (by omega)
      rw [sumW_succ] at ihn
      rw [aw_iload_4 (pc2 := 7) D115_5 rfl]
      simp (disch := omega) only [aw_aload_0 (pc2 := 8) D115_7 rfl, aw_aloadN_0 (pc2 := 8) D115_7 rfl, aw_getR (pc2 := 11) (ci := 6) (fk := 3) D115_8 rfl fT_6_26 rfl, aw_alen (pc2 := 12) D115_11 rfl, aw_icmp_ge (pc2 := 15) (t := 49) D115_12 (by decide) rfl, aw_iload_4 (pc2 := 17) D115_15 rfl, aw_aload_1 (pc2 := 18) D115_17 rfl, aw_aloadN_1 (pc2 := 18) D115_17 rfl, aw_getI (pc2 := 21) (ci := 5) (fk := 2) D115_18 rfl fT_6_245 rfl, aw_icmp_ge (pc2 := 24) (t := 49) D115_21 (by decide) rfl, aw_aload_1 (pc2 := 25) D115_24 rfl, aw_aloadN_1 (pc2 := 25) D115_24 rfl, aw_iload_4 (pc2 := 27) D115_25 rfl, aw_iv1_0 (pc2 := 30) (o := 5) D115_27 rfl cT_6_182 rfl rfl, aw_if_eq (pc2 := 33) (t := 43) D115_30 (by decide) rfl, sh_0, rf_0_3, sh_117, refV_s, refV_n, psh_s, psh_n, kil_i, kil_r, kil_n, kil_l, cat_i, cat_r, iOK_1, iOK_5, jOK_2, jOK_6, wOK_e, lOK_1, lOK_2, lOK_3, lOK_4, lOK_5, lOK_6, catS_0, catS_1, catS_2, catS_3, catS_4, and_self, true_and, and_true, true_or, or_true, false_or, or_false, not_true_eq_false, not_false_eq_true, if_true, if_false, ite_int, ite_int0, au_10, eq_self, decide_true, decide_false, Bool.true_and, Bool.false_and, au_in, au_le, au_lt, au_eq, au_lt0, au_ge0, au_le0, au_gt0, au_eq0, au_leT, au_leF, au_ltT, au_ltF, au_eqT, au_eqF, nI_clamp, nI_1, nI_add, pk_mul, au_sub1, au_subc, au_up2e, au_up2n, lit_of, hc.2.1, h.2.1, C_has hc hN h (show i < 2 ^ 31 by omega), bI_0, show decide (i < 2 ^ N) = true by rw [decide_eq_true_eq]; omega, Bool.true_and]
      cases t : T i
      · rw [t] at ihn
        rw [if_pos rfl]
        simp (disch := omega) only [aw_iinc_4 (pc2 := 46) (y := 1) D115_43 rfl (by decide), aw_goto (t := 5) D115_46 (by decide), sh_0, rf_0_3, sh_117, refV_s, refV_n, psh_s, psh_n, kil_i, kil_r, kil_n, kil_l, cat_i, cat_r, iOK_1, iOK_5, jOK_2, jOK_6, wOK_e, lOK_1, lOK_2, lOK_3, lOK_4, lOK_5, lOK_6, catS_0, catS_1, catS_2, catS_3, catS_4, and_self, true_and, and_true, true_or, or_true, false_or, or_false, not_true_eq_false, not_false_eq_true, if_true, if_false, ite_int, ite_int0, au_10, eq_self, decide_true, decide_false, Bool.true_and, Bool.false_and, au_in, au_le, au_lt, au_eq, au_lt0, au_ge0, au_le0, au_gt0, au_eq0, au_leT, au_leF, au_ltT, au_ltF, au_eqT, au_eqF, nI_clamp, nI_1, nI_add, pk_mul, au_sub1, au_subc, au_up2e, au_up2n, lit_of]
        simpa using ihn
      · rw [t] at ihn
        rw [if_neg (by decide)]
        simp (disch := omega) only [aw_lload_2 (pc2 := 34) D115_33 rfl, aw_aload_0 (pc2 := 35) D115_34 rfl, aw_aloadN_0 (pc2 := 35) D115_34 rfl, aw_getR (pc2 := 38) (ci := 6) (fk := 3) D115_35 rfl fT_6_26 rfl, aw_iload_4 (pc2 := 40) D115_38 rfl, aw_laload (pc2 := 41) D115_40 rfl, aw_ladd (pc2 := 42) D115_41 rfl, aw_lstore_2 (pc2 := 43) D115_42 rfl, aw_iinc_4 (pc2 := 46) (y := 1) D115_43 rfl (by decide), aw_goto (t := 5) D115_46 (by decide), sh_0, rf_0_3, sh_117, refV_s, refV_n, psh_s, psh_n, kil_i, kil_r, kil_n, kil_l, cat_i, cat_r, iOK_1, iOK_5, jOK_2, jOK_6, wOK_e, lOK_1, lOK_2, lOK_3, lOK_4, lOK_5, lOK_6, catS_0, catS_1, catS_2, catS_3, catS_4, and_self, true_and, and_true, true_or, or_true, false_or, or_false, not_true_eq_false, not_false_eq_true, if_true, if_false, ite_int, ite_int0, au_10, eq_self, decide_true, decide_false, Bool.true_and, Bool.false_and, au_in, au_le, au_lt, au_eq, au_lt0, au_ge0, au_le0, au_gt0, au_eq0, au_leT, au_leF, au_ltT, au_ltF, au_eqT, au_eqF, nI_clamp, nI_1, nI_add, pk_mul, au_sub1, au_subc, au_up2e, au_up2n, lit_of, hw i (by omega), lN_add]
        simpa using ihn
  exact key (2 ^ N) 0 (by omega)
theorem C_gcd : ∀ (f s a b : Nat) (v9 v10 : Value) (x y : Int64), f ≤ 63 → b < 2 ^ f → s + (2 * f + 1) ≤ 200 → a < 2 ^ 63 → (AW d ((G0 Ln).1, (G0 Ln).2.1) K 117 9 [.long x, nv, .long y, nv, .long (lN a), nv, .long (lN b), nv, .int (nI s), v9, v10] [] (G0 Ln) I J ↔ K (some (.long (lN (Nat.gcd a b)))) (G0 Ln) I J) := by
  have e0 : lN 0 = 0 := rfl
  have hz : ∀ b, b < 2 ^ 63 → ((lN b = 0) = (b = 0)) := fun b hb => by
    rw [← e0]
    exact propext (fb_lN_inj hb (by decide))
  have done0 : ∀ (s a : Nat) (v9 v10 : Value) (x y : Int64), s < 200 → (AW d ((G0 Ln).1, (G0 Ln).2.1) K 117 9 [.long x, nv, .long y, nv, .long (lN a), nv, .long (lN 0), nv, .int (nI s), v9, v10] [] (G0 Ln) I J ↔ K (some (.long (lN (Nat.gcd a 0)))) (G0 Ln) I J) := by
    intro s a v9 v10 x y hs
    simp (disch := omega) only [aw_iload_8 (pc2 := 11) D117_9 rfl, aw_sipush (pc2 := 14) (y := 200) D117_11 rfl (by decide), aw_icmp_ge (pc2 := 17) (t := 45) D117_14 (by decide) rfl, aw_lload_6 (pc2 := 19) D117_17 rfl, aw_lconst (pc2 := 20) (y := 0) D117_19 rfl (by decide), aw_lcmp (pc2 := 21) D117_20 rfl, aw_if_eq (pc2 := 24) (t := 45) D117_21 (by decide) rfl, aw_lload_4 (pc2 := 47) D117_45 rfl, aw_lret D117_47 rfl, sh_0, lit_200, refV_s, refV_n, psh_s, psh_n, kil_i, kil_r, kil_n, kil_l, cat_i, cat_r, iOK_1, iOK_5, jOK_2, jOK_6, wOK_e, lOK_1, lOK_2, lOK_3, lOK_4, lOK_5, lOK_6, catS_0, catS_1, catS_2, catS_3, catS_4, and_self, true_and, and_true, true_or, or_true, false_or, or_false, not_true_eq_false, not_false_eq_true, if_true, if_false, ite_int, ite_int0, au_10, eq_self, decide_true, decide_false, Bool.true_and, Bool.false_and, au_in, au_le, au_lt, au_eq, au_lt0, au_ge0, au_le0, au_gt0, au_eq0, au_leT, au_leF, au_ltT, au_ltF, au_eqT, au_eqF, nI_clamp, nI_1, nI_add, pk_mul, au_sub1, au_subc, au_up2e, au_up2n, lit_of, lg_cmp_eq, e0, Nat.gcd_zero_right]
  have one : ∀ (s a b : Nat) (v9 v10 : Value) (x y : Int64), s < 200 → 0 < b → b < 2 ^ 63 → a < 2 ^ 63 → ((AW d ((G0 Ln).1, (G0 Ln).2.1) K 117 9 [.long x, nv, .long y, nv, .long (lN b), nv, .long (lN (a % b)), nv, .int (nI (s + 1)), .long (lN (a % b)), nv] [] (G0 Ln) I J ↔ K (some (.long (lN (Nat.gcd b (a % b))))) (G0 Ln) I J)) → (AW d ((G0 Ln).1, (G0 Ln).2.1) K 117 9 [.long x, nv, .long y, nv, .long (lN a), nv, .long (lN b), nv, .int (nI s), v9, v10] [] (G0 Ln) I J ↔ K (some (.long (lN (Nat.gcd a b)))) (G0 Ln) I J) := by
    intro s a b v9 v10 x y hs h0 hb ha hn
    have hb0 : (b = 0) = False := eq_false (by omega)
    have eg : Nat.gcd b (a % b) = Nat.gcd a b := by
      rw [Nat.gcd_comm b (a % b), ← Nat.gcd_rec, Nat.gcd_comm]
    rw [eg] at hn
    rw [aw_iload_8 (pc2 := 11) D117_9 rfl]
    simp (disch := omega) only [aw_sipush (pc2 := 14) (y := 200) D117_11 rfl (by decide), aw_icmp_ge (pc2 := 17) (t := 45) D117_14 (by decide) rfl, aw_lload_6 (pc2 := 19) D117_17 rfl, aw_lconst (pc2 := 20) (y := 0) D117_19 rfl (by decide), aw_lcmp (pc2 := 21) D117_20 rfl, aw_if_eq (pc2 := 24) (t := 45) D117_21 (by decide) rfl, aw_lload_4 (pc2 := 26) D117_24 rfl, aw_lload_6 (pc2 := 28) D117_26 rfl, aw_lrem (pc2 := 29) D117_28 rfl, aw_lstore_9 (pc2 := 31) D117_29 rfl, aw_lload_6 (pc2 := 33) D117_31 rfl, aw_lstore_4 (pc2 := 35) D117_33 rfl, aw_lload_9 (pc2 := 37) D117_35 rfl, aw_lstore_6 (pc2 := 39) D117_37 rfl, aw_iinc_8 (pc2 := 42) (y := 1) D117_39 rfl (by decide), aw_goto (t := 9) D117_42 (by decide), sh_0, lit_200, refV_s, refV_n, psh_s, psh_n, kil_i, kil_r, kil_n, kil_l, cat_i, cat_r, iOK_1, iOK_5, jOK_2, jOK_6, wOK_e, lOK_1, lOK_2, lOK_3, lOK_4, lOK_5, lOK_6, catS_0, catS_1, catS_2, catS_3, catS_4, and_self, true_and, and_true, true_or, or_true, false_or, or_false, not_true_eq_false, not_false_eq_true, if_true, if_false, ite_int, ite_int0, au_10, eq_self, decide_true, decide_false, Bool.true_and, Bool.false_and, au_in, au_le, au_lt, au_eq, au_lt0, au_ge0, au_le0, au_gt0, au_eq0, au_leT, au_leF, au_ltT, au_ltF, au_eqT, au_eqF, nI_clamp, nI_1, nI_add, pk_mul, au_sub1, au_subc, au_up2e, au_up2n, lit_of, lg_cmp_eq, hz b hb, hb0, pk_lRem ha h0 hb]
    exact hn
  intro f
  induction f with
  | zero =>
    intro s a b v9 v10 x y hf hb hs ha
    have e : b = 0 := by have : b < 1 := hb; omega
    subst e
    exact done0 s a v9 v10 x y (by omega)
  | succ f ih =>
    intro s a b v9 v10 x y hf hb hs ha
    have hb63 : b < 2 ^ 63 := Nat.lt_of_lt_of_le hb (Nat.pow_le_pow_right (by decide) hf)
    have hp2 : 2 ^ (f + 1) = 2 * 2 ^ f := by rw [Nat.pow_succ, Nat.mul_comm]
    by_cases h0 : b = 0
    · subst h0
      exact done0 s a v9 v10 x y (by omega)
    · refine one s a b v9 v10 x y (by omega) (by omega) hb63 ha ?_
      have hr : a % b < b := Nat.mod_lt _ (by omega)
      by_cases h1 : a % b = 0
      · rw [h1]
        exact done0 (s + 1) b _ _ x y (by omega)
      · have hr63 : a % b < 2 ^ 63 := Nat.lt_trans hr hb63
        refine one (s + 1) b (a % b) _ _ x y (by omega) (by omega) hr63 hb63 ?_
        have hr2 : b % (a % b) < a % b := Nat.mod_lt _ (by omega)
        have hh : 2 * (b % (a % b)) ≤ b := by
          have e1 := Nat.div_add_mod b (a % b)
          have e2 : 1 ≤ b / (a % b) := Nat.div_pos (Nat.le_of_lt hr) (by omega)
          have e3 : (a % b) * 1 ≤ (a % b) * (b / (a % b)) := Nat.mul_le_mul_left _ e2
          omega
        exact ih (s + 1 + 1) (a % b) (b % (a % b)) _ _ x y (by omega) (by omega) (by omega) hr63
theorem C_greatestDivisor {a b : Nat} (ha : a < 2 ^ 63) (hb : b < 2 ^ 63) : ACall (d + 1) 117 [.long (lN a), .long (lN b)] (G0 Ln) I J K ↔ K (some (.long (lN (Nat.gcd a b)))) (G0 Ln) I J := by
  rw [ACall_0 (L0 := [.long (lN a), nv, .long (lN b), nv, nv, nv, nv, nv, nv, nv, nv]) (show mcs 117 = (0, 0) from rfl) (show entL 117 [.long (lN a), .long (lN b)] = _ from rfl) rfl (Nat.le_of_ble_eq_true rfl)]
  simp only [aw_lload_0 (pc2 := 1) D117_0 rfl, aw_lstore_4 (pc2 := 3) D117_1 rfl, aw_lload_2 (pc2 := 4) D117_3 rfl, aw_lstore_6 (pc2 := 6) D117_4 rfl, aw_iconst (pc2 := 7) (y := 0) D117_6 rfl (by decide), aw_istore_8 (pc2 := 9) D117_7 rfl, sh_0, lit_200, refV_s, refV_n, psh_s, psh_n, kil_i, kil_r, kil_n, kil_l, cat_i, cat_r, iOK_1, iOK_5, jOK_2, jOK_6, wOK_e, lOK_1, lOK_2, lOK_3, lOK_4, lOK_5, lOK_6, catS_0, catS_1, catS_2, catS_3, catS_4, and_self, true_and, and_true, true_or, or_true, false_or, or_false, not_true_eq_false, not_false_eq_true, if_true, if_false, ite_int, ite_int0, au_10, eq_self, decide_true, decide_false, Bool.true_and, Bool.false_and]
  exact C_gcd 63 0 a b nv nv _ _ (by omega) hb (by omega) ha
theorem C_heaviest {c : Nat} {T : Nat → Bool} {w : Nat → Nat} {least : Bool} (hc : RF Ln c) (hN : N ≤ 12) (h : RSet N c T I J) (hw : ∀ r, r < 2 ^ N → J 117 r = lN (w r)) (hb : ∀ r, w r < 2 ^ 63) : ACall (d + 2) 116 [.ref 0, .ref c, .int (bI least)] (G0 Ln) I J K ↔ K (some (.int (bstI (bst T w least (2 ^ N))))) (G0 Ln) I J := by
  rw [ACall_0 (L0 := [.ref 0, .ref c, .int (bI least), nv, nv, nv, nv, nv, nv, nv]) (show mcs 116 = (0, 0) from rfl) (show entL 116 [.ref 0, .ref c, .int (bI least)] = _ from rfl) rfl (Nat.le_of_ble_eq_true rfl)]
  obtain ⟨-, -, -, -, -, w6, -⟩ := wN_all N (by omega)
  simp only [aw_iconst (pc2 := 1) (y := -1) D116_0 rfl (by decide), aw_istore_3 (pc2 := 2) D116_1 rfl, aw_lconst (pc2 := 3) (y := 0) D116_2 rfl (by decide), aw_lstore_4 (pc2 := 5) D116_3 rfl, aw_iconst (pc2 := 6) (y := 0) D116_5 rfl (by decide), aw_istore_6 (pc2 := 8) D116_6 rfl, sh_0, rf_0_3, sh_117, refV_s, refV_n, psh_s, psh_n, kil_i, kil_r, kil_n, kil_l, cat_i, cat_r, iOK_1, iOK_5, jOK_2, jOK_6, wOK_e, lOK_1, lOK_2, lOK_3, lOK_4, lOK_5, lOK_6, catS_0, catS_1, catS_2, catS_3, catS_4, and_self, true_and, and_true, true_or, or_true, false_or, or_false, not_true_eq_false, not_false_eq_true, if_true, if_false, ite_int, ite_int0, au_10, eq_self, decide_true, decide_false, Bool.true_and, Bool.false_and]
  have key : ∀ n i bw v7 v8 v9, i + n = 2 ^ N → (match bst T w least i with
    | none => bw = 0
    | some m => bw = w m ∧ m < i) → (AW (d + 1) ((G0 Ln).1, (G0 Ln).2.1) K 116 8 [.ref 0, .ref c, .int (bI least), .int (bstI (bst T w least i)), .long (lN bw), nv, .int (nI i), v7, v8, v9] [] (G0 Ln) I J ↔ K (some (.int (bstI (bst T w least (2 ^ N))))) (G0 Ln) I J) := by
    intro n
    induction n with
    | zero =>
      intro i bw v7 v8 v9 hi hbw
      have e : i = 2 ^ N := by omega
      rw [e]
      by_cases h4 : 2 ^ N = 4096
      · simp (disch := omega) only [aw_iload_6 (pc2 := 10) D116_8 rfl, aw_aload_0 (pc2 := 11) D116_10 rfl, aw_aloadN_0 (pc2 := 11) D116_10 rfl, aw_getR (pc2 := 14) (ci := 6) (fk := 3) D116_11 rfl fT_6_26 rfl, aw_alen (pc2 := 15) D116_14 rfl, aw_icmp_ge (pc2 := 18) (t := 103) D116_15 (by decide) rfl, aw_iload_6 (pc2 := 20) D116_18 rfl, aw_aload_1 (pc2 := 21) D116_20 rfl, aw_aloadN_1 (pc2 := 21) D116_20 rfl, aw_getI (pc2 := 24) (ci := 5) (fk := 2) D116_21 rfl fT_6_245 rfl, aw_icmp_ge (pc2 := 27) (t := 103) D116_24 (by decide) rfl, aw_iload_3 (pc2 := 104) D116_103 rfl, aw_iret D116_104 rfl, sh_0, rf_0_3, sh_117, refV_s, refV_n, psh_s, psh_n, kil_i, kil_r, kil_n, kil_l, cat_i, cat_r, iOK_1, iOK_5, jOK_2, jOK_6, wOK_e, lOK_1, lOK_2, lOK_3, lOK_4, lOK_5, lOK_6, catS_0, catS_1, catS_2, catS_3, catS_4, and_self, true_and, and_true, true_or, or_true, false_or, or_false, not_true_eq_false, not_false_eq_true, if_true, if_false, ite_int, ite_int0, au_10, eq_self, decide_true, decide_false, Bool.true_and, Bool.false_and, au_in, au_le, au_lt, au_eq, au_lt0, au_ge0, au_le0, au_gt0, au_eq0, au_leT, au_leF, au_ltT, au_ltF, au_eqT, au_eqF, nI_clamp, nI_1, nI_add, pk_mul, au_sub1, au_subc, au_up2e, au_up2n, lit_of, hc.2.1, h.2.1, h4]
      · simp (disch := omega) only [aw_iload_6 (pc2 := 10) D116_8 rfl, aw_aload_0 (pc2 := 11) D116_10 rfl, aw_aloadN_0 (pc2 := 11) D116_10 rfl, aw_getR (pc2 := 14) (ci := 6) (fk := 3) D116_11 rfl fT_6_26 rfl, aw_alen (pc2 := 15) D116_14 rfl, aw_icmp_ge (pc2 := 18) (t := 103) D116_15 (by decide) rfl, aw_iload_6 (pc2 := 20) D116_18 rfl, aw_aload_1 (pc2 := 21) D116_20 rfl, aw_aloadN_1 (pc2 := 21) D116_20 rfl, aw_getI (pc2 := 24) (ci := 5) (fk := 2) D116_21 rfl fT_6_245 rfl, aw_icmp_ge (pc2 := 27) (t := 103) D116_24 (by decide) rfl, aw_iload_3 (pc2 := 104) D116_103 rfl, aw_iret D116_104 rfl, sh_0, rf_0_3, sh_117, refV_s, refV_n, psh_s, psh_n, kil_i, kil_r, kil_n, kil_l, cat_i, cat_r, iOK_1, iOK_5, jOK_2, jOK_6, wOK_e, lOK_1, lOK_2, lOK_3, lOK_4, lOK_5, lOK_6, catS_0, catS_1, catS_2, catS_3, catS_4, and_self, true_and, and_true, true_or, or_true, false_or, or_false, not_true_eq_false, not_false_eq_true, if_true, if_false, ite_int, ite_int0, au_10, eq_self, decide_true, decide_false, Bool.true_and, Bool.false_and, au_in, au_le, au_lt, au_eq, au_lt0, au_ge0, au_le0, au_gt0, au_eq0, au_leT, au_leF, au_ltT, au_ltF, au_eqT, au_eqF, nI_clamp, nI_1, nI_add, pk_mul, au_sub1, au_subc, au_up2e, au_up2n, lit_of, hc.2.1, h.2.1]
    | succ n ih =>
      intro i bw v7 v8 v9 hi hbw
      have hi2 : i < 2 ^ N := by omega
      have hbw63 : bw < 2 ^ 63 := by
        cases e : bst T w least i with
        | none => rw [e] at hbw; have hbw : bw = 0 := hbw; rw [hbw]; decide
        | some m => rw [e] at hbw; rw [hbw.1]; exact hb m
      have hlt := pk_lLE (hb i) hbw63
      have hlt2 := pk_lLE hbw63 (hb i)
      have at97 : ∀ (v : Int32) (z : Option Nat) (bw' : Nat), bst T w least (i + 1) = z → (match z with
        | none => bw' = 0
        | some m => bw' = w m ∧ m < i + 1) → (AW (d + 1) ((G0 Ln).1, (G0 Ln).2.1) K 116 97 [.ref 0, .ref c, .int (bI least), .int (bstI z), .long (lN bw'), nv, .int (nI i), .long (lN (w i)), nv, .int v] [] (G0 Ln) I J ↔ K (some (.int (bstI (bst T w least (2 ^ N))))) (G0 Ln) I J) := by
        intro v z bw' hz hm
        subst hz
        simp (disch := omega) only [aw_iinc_6 (pc2 := 100) (y := 1) D116_97 rfl (by decide), aw_goto (t := 8) D116_100 (by decide), sh_0, rf_0_3, sh_117, refV_s, refV_n, psh_s, psh_n, kil_i, kil_r, kil_n, kil_l, cat_i, cat_r, iOK_1, iOK_5, jOK_2, jOK_6, wOK_e, lOK_1, lOK_2, lOK_3, lOK_4, lOK_5, lOK_6, catS_0, catS_1, catS_2, catS_3, catS_4, and_self, true_and, and_true, true_or, or_true, false_or, or_false, not_true_eq_false, not_false_eq_true, if_true, if_false, ite_int, ite_int0, au_10, eq_self, decide_true, decide_false, Bool.true_and, Bool.false_and, au_in, au_le, au_lt, au_eq, au_lt0, au_ge0, au_le0, au_gt0, au_eq0, au_leT, au_leF, au_ltT, au_ltF, au_eqT, au_eqF, nI_clamp, nI_1, nI_add, pk_mul, au_sub1, au_subc, au_up2e, au_up2n, lit_of]
        exact ih (i + 1) bw' _ _ _ (by omega) hm
      have fin : ∀ (v9 : Value) (B' : Bool), B' = (if least then decide (w i < bw) else decide (bw < w i)) → (AW (d + 1) ((G0 Ln).1, (G0 Ln).2.1) K 116 69 [.ref 0, .ref c, .int (bI least), .int (bstI (bst T w least i)), .long (lN bw), nv, .int (nI i), .long (lN (w i)), nv, v9] [.int (bI B')] (G0 Ln) I J ↔ K (some (.int (bstI (bst T w least (2 ^ N))))) (G0 Ln) I J) := by
        intro v9 B' hB'
        simp (disch := omega) only [aw_istore_9 (pc2 := 71) D116_69 rfl, aw_aload_1 (pc2 := 72) D116_71 rfl, aw_aloadN_1 (pc2 := 72) D116_71 rfl, aw_iload_6 (pc2 := 74) D116_72 rfl, aw_iv1_0 (pc2 := 77) (o := 5) D116_74 rfl cT_6_182 rfl rfl, aw_if_eq (pc2 := 80) (t := 97) D116_77 (by decide) rfl, sh_0, rf_0_3, sh_117, refV_s, refV_n, psh_s, psh_n, kil_i, kil_r, kil_n, kil_l, cat_i, cat_r, iOK_1, iOK_5, jOK_2, jOK_6, wOK_e, lOK_1, lOK_2, lOK_3, lOK_4, lOK_5, lOK_6, catS_0, catS_1, catS_2, catS_3, catS_4, and_self, true_and, and_true, true_or, or_true, false_or, or_false, not_true_eq_false, not_false_eq_true, if_true, if_false, ite_int, ite_int0, au_10, eq_self, decide_true, decide_false, Bool.true_and, Bool.false_and, au_in, au_le, au_lt, au_eq, au_lt0, au_ge0, au_le0, au_gt0, au_eq0, au_leT, au_leF, au_ltT, au_ltF, au_eqT, au_eqF, nI_clamp, nI_1, nI_add, pk_mul, au_sub1, au_subc, au_up2e, au_up2n, lit_of, hc.2.1, h.2.1, C_has hc hN h (show i < 2 ^ 31 by omega), bI_0]
        cases t : T i
        · rw [if_pos rfl]
          refine at97 _ _ bw (by rw [bst, t, if_neg (by decide)]) ?_
          cases e : bst T w least i with
          | none => rw [e] at hbw; exact hbw
          | some m => rw [e] at hbw; exact ⟨hbw.1, by omega⟩
        · rw [if_neg (by decide)]
          cases e : bst T w least i with
          | none =>
            rw [e] at hbw
            have e2 : bstI none = -1 := rfl
            simp only [aw_iload_3 (pc2 := 81) D116_80 rfl, aw_iconst (pc2 := 82) (y := -1) D116_81 rfl (by decide), aw_icmp_eq (pc2 := 85) (t := 90) D116_82 (by decide) rfl, aw_iload_6 (pc2 := 92) D116_90 rfl, aw_istore_3 (pc2 := 93) D116_92 rfl, aw_lload_7 (pc2 := 95) D116_93 rfl, aw_lstore_4 (pc2 := 97) D116_95 rfl, sh_0, rf_0_3, sh_117, refV_s, refV_n, psh_s, psh_n, kil_i, kil_r, kil_n, kil_l, cat_i, cat_r, iOK_1, iOK_5, jOK_2, jOK_6, wOK_e, lOK_1, lOK_2, lOK_3, lOK_4, lOK_5, lOK_6, catS_0, catS_1, catS_2, catS_3, catS_4, and_self, true_and, and_true, true_or, or_true, false_or, or_false, not_true_eq_false, not_false_eq_true, if_true, if_false, ite_int, ite_int0, au_10, eq_self, decide_true, decide_false, Bool.true_and, Bool.false_and, e2]
            exact at97 _ (some i) (w i) (by rw [bst, t, if_pos rfl, e]) ⟨rfl, by omega⟩
          | some m =>
            rw [e] at hbw
            obtain ⟨h1, h2⟩ := hbw
            have e2 : bstI (some m) = nI m := rfl
            have e3 : (nI m = -1) = False := au_m1 (by omega)
            simp only [aw_iload_3 (pc2 := 81) D116_80 rfl, aw_iconst (pc2 := 82) (y := -1) D116_81 rfl (by decide), aw_icmp_eq (pc2 := 85) (t := 90) D116_82 (by decide) rfl, aw_iload_9 (pc2 := 87) D116_85 rfl, aw_if_eq (pc2 := 90) (t := 97) D116_87 (by decide) rfl, aw_iload_6 (pc2 := 92) D116_90 rfl, aw_istore_3 (pc2 := 93) D116_92 rfl, aw_lload_7 (pc2 := 95) D116_93 rfl, aw_lstore_4 (pc2 := 97) D116_95 rfl, sh_0, rf_0_3, sh_117, refV_s, refV_n, psh_s, psh_n, kil_i, kil_r, kil_n, kil_l, cat_i, cat_r, iOK_1, iOK_5, jOK_2, jOK_6, wOK_e, lOK_1, lOK_2, lOK_3, lOK_4, lOK_5, lOK_6, catS_0, catS_1, catS_2, catS_3, catS_4, and_self, true_and, and_true, true_or, or_true, false_or, or_false, not_true_eq_false, not_false_eq_true, if_true, if_false, ite_int, ite_int0, au_10, eq_self, decide_true, decide_false, Bool.true_and, Bool.false_and, e2, e3, bI_0]
            have hst : bst T w least (i + 1) = if (if least then w i < w m else w m < w i) then some i else some m := by rw [bst, t, if_pos rfl, e]
            rw [h1] at hB'
            cases hb2 : B'
            · rw [if_pos rfl]
              refine at97 _ (some m) bw ?_ ⟨h1, by omega⟩
              rw [hst, if_neg]
              intro q
              rw [hB'] at hb2
              cases least <;> simp at hb2 q <;> omega
            · rw [if_neg (by decide)]
              refine at97 _ (some i) (w i) ?_ ⟨rfl, by omega⟩
              rw [hst, if_pos]
              rw [hB'] at hb2
              cases least <;> simpa using hb2
      rw [aw_iload_6 (pc2 := 10) D116_8 rfl]
      cases least
      · have e0 : bI false = 0 := rfl
        simp (disch := omega) only [aw_aload_0 (pc2 := 11) D116_10 rfl, aw_aloadN_0 (pc2 := 11) D116_10 rfl, aw_getR (pc2 := 14) (ci := 6) (fk := 3) D116_11 rfl fT_6_26 rfl, aw_alen (pc2 := 15) D116_14 rfl, aw_icmp_ge (pc2 := 18) (t := 103) D116_15 (by decide) rfl, aw_iload_6 (pc2 := 20) D116_18 rfl, aw_aload_1 (pc2 := 21) D116_20 rfl, aw_aloadN_1 (pc2 := 21) D116_20 rfl, aw_getI (pc2 := 24) (ci := 5) (fk := 2) D116_21 rfl fT_6_245 rfl, aw_icmp_ge (pc2 := 27) (t := 103) D116_24 (by decide) rfl, aw_aload_0 (pc2 := 28) D116_27 rfl, aw_aloadN_0 (pc2 := 28) D116_27 rfl, aw_getR (pc2 := 31) (ci := 6) (fk := 3) D116_28 rfl fT_6_26 rfl, aw_iload_6 (pc2 := 33) D116_31 rfl, aw_laload (pc2 := 34) D116_33 rfl, aw_lstore_7 (pc2 := 36) D116_34 rfl, aw_iload_2 (pc2 := 37) D116_36 rfl, aw_if_eq (pc2 := 40) (t := 56) D116_37 (by decide) rfl, aw_lload_7 (pc2 := 58) D116_56 rfl, aw_lload_4 (pc2 := 60) D116_58 rfl, aw_lcmp (pc2 := 61) D116_60 rfl, aw_if_le (pc2 := 64) (t := 68) D116_61 (by decide) rfl, aw_iconst (pc2 := 65) (y := 1) D116_64 rfl (by decide), aw_goto (t := 69) D116_65 (by decide), aw_iconst (pc2 := 69) (y := 0) D116_68 rfl (by decide), sh_0, rf_0_3, sh_117, refV_s, refV_n, psh_s, psh_n, kil_i, kil_r, kil_n, kil_l, cat_i, cat_r, iOK_1, iOK_5, jOK_2, jOK_6, wOK_e, lOK_1, lOK_2, lOK_3, lOK_4, lOK_5, lOK_6, catS_0, catS_1, catS_2, catS_3, catS_4, and_self, true_and, and_true, true_or, or_true, false_or, or_false, not_true_eq_false, not_false_eq_true, if_true, if_false, ite_int, ite_int0, au_10, eq_self, decide_true, decide_false, Bool.true_and, Bool.false_and, au_in, au_le, au_lt, au_eq, au_lt0, au_ge0, au_le0, au_gt0, au_eq0, au_leT, au_leF, au_ltT, au_ltF, au_eqT, au_eqF, nI_clamp, nI_1, nI_add, pk_mul, au_sub1, au_subc, au_up2e, au_up2n, lit_of, hc.2.1, h.2.1, hw i hi2, e0, lg_cmp_le, hlt]
        by_cases q : w i ≤ bw
        · rw [if_pos q]
          exact fin _ false (by simp; omega)
        · rw [if_neg q]
          exact fin _ true (by simp; omega)
      · have e0 : bI true = 1 := rfl
        simp (disch := omega) only [aw_aload_0 (pc2 := 11) D116_10 rfl, aw_aloadN_0 (pc2 := 11) D116_10 rfl, aw_getR (pc2 := 14) (ci := 6) (fk := 3) D116_11 rfl fT_6_26 rfl, aw_alen (pc2 := 15) D116_14 rfl, aw_icmp_ge (pc2 := 18) (t := 103) D116_15 (by decide) rfl, aw_iload_6 (pc2 := 20) D116_18 rfl, aw_aload_1 (pc2 := 21) D116_20 rfl, aw_aloadN_1 (pc2 := 21) D116_20 rfl, aw_getI (pc2 := 24) (ci := 5) (fk := 2) D116_21 rfl fT_6_245 rfl, aw_icmp_ge (pc2 := 27) (t := 103) D116_24 (by decide) rfl, aw_aload_0 (pc2 := 28) D116_27 rfl, aw_aloadN_0 (pc2 := 28) D116_27 rfl, aw_getR (pc2 := 31) (ci := 6) (fk := 3) D116_28 rfl fT_6_26 rfl, aw_iload_6 (pc2 := 33) D116_31 rfl, aw_laload (pc2 := 34) D116_33 rfl, aw_lstore_7 (pc2 := 36) D116_34 rfl, aw_iload_2 (pc2 := 37) D116_36 rfl, aw_if_eq (pc2 := 40) (t := 56) D116_37 (by decide) rfl, aw_lload_7 (pc2 := 42) D116_40 rfl, aw_lload_4 (pc2 := 44) D116_42 rfl, aw_lcmp (pc2 := 45) D116_44 rfl, aw_if_ge (pc2 := 48) (t := 52) D116_45 (by decide) rfl, aw_iconst (pc2 := 49) (y := 1) D116_48 rfl (by decide), aw_goto (t := 69) D116_49 (by decide), aw_iconst (pc2 := 53) (y := 0) D116_52 rfl (by decide), aw_goto (t := 69) D116_53 (by decide), sh_0, rf_0_3, sh_117, refV_s, refV_n, psh_s, psh_n, kil_i, kil_r, kil_n, kil_l, cat_i, cat_r, iOK_1, iOK_5, jOK_2, jOK_6, wOK_e, lOK_1, lOK_2, lOK_3, lOK_4, lOK_5, lOK_6, catS_0, catS_1, catS_2, catS_3, catS_4, and_self, true_and, and_true, true_or, or_true, false_or, or_false, not_true_eq_false, not_false_eq_true, if_true, if_false, ite_int, ite_int0, au_10, eq_self, decide_true, decide_false, Bool.true_and, Bool.false_and, au_in, au_le, au_lt, au_eq, au_lt0, au_ge0, au_le0, au_gt0, au_eq0, au_leT, au_leF, au_ltT, au_ltF, au_eqT, au_eqF, nI_clamp, nI_1, nI_add, pk_mul, au_sub1, au_subc, au_up2e, au_up2n, lit_of, hc.2.1, h.2.1, hw i hi2, e0, lg_cmp_ge, hlt2]
        by_cases q : bw ≤ w i
        · rw [if_pos q]
          exact fin _ false (by simp; omega)
        · rw [if_neg q]
          exact fin _ true (by simp; omega)
  exact key (2 ^ N) 0 0 _ _ _ (by omega) rfl
end Wts
