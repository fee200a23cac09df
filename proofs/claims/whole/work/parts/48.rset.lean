/-! sets of rows in the class -/
def wN (N : Nat) : Nat := max 1 (2 ^ N / 64)
theorem wN_all : ∀ N, N < 13 → 1 ≤ wN N ∧ wN N ≤ 64 ∧ 2 ^ N ≤ 64 * wN N ∧ (2 ^ N < 64 → wN N = 1) ∧ (64 ≤ 2 ^ N → 64 * wN N = 2 ^ N) ∧ 2 ^ N ≤ 4096 ∧ 1 ≤ 2 ^ N ∧ min 64 (max 1 (2 ^ N / 64)) = wN N := by decide
/-- where a set of rows lies -/
def RF (Ln c : Nat) : Prop := c < 1000 ∧ shp (G0 Ln) c = (0, 5) ∧ shp (G0 Ln) (c + 1) = (2, 64) ∧ (G0 Ln).2.2.2 c 0 = some (c + 1)
theorem RSet.wd {N c : Nat} {T : Nat → Bool} {I : IT} {J : JT} (h : RSet N c T I J) {w i : Nat} (hw : w < wN N) (hi : i < 64) : bt (J (c + 1) w) i = (decide (64 * w + i < 2 ^ N) && T (64 * w + i)) := by
  have e := h.2.2.2 (64 * w + i) (by unfold wN at hw; omega)
  rw [show (64 * w + i) / 64 = w by omega, show (64 * w + i) % 64 = i by omega] at e
  exact e
theorem RSet.mk {N c : Nat} {T : Nat → Bool} {I : IT} {J : JT} (h1 : I c 1 = nI N) (h2 : I c 2 = nI (2 ^ N)) (h3 : I c 3 = nI (wN N)) (hb : ∀ w i, w < wN N → i < 64 → bt (J (c + 1) w) i = (decide (64 * w + i < 2 ^ N) && T (64 * w + i))) : RSet N c T I J := by
  refine ⟨h1, h2, h3, fun r hr => ?_⟩
  have e := hb (r / 64) (r % 64) (by unfold wN; omega) (by omega)
  rw [show 64 * (r / 64) + r % 64 = r by omega] at e
  exact e
theorem RSet.congr {N c : Nat} {T U : Nat → Bool} {I : IT} {J : JT} (h : RSet N c T I J) (e : ∀ r, r < 2 ^ N → T r = U r) : RSet N c U I J := by
  refine ⟨h.1, h.2.1, h.2.2.1, fun r hr => ?_⟩
  rw [h.2.2.2 r hr]
  by_cases q : r < 2 ^ N
  · rw [e r q]
  · simp [q]
def rI (I : IT) (c N : Nat) : IT := up2 (up2 (up2 I c 1 (nI N)) c 2 (nI (2 ^ N))) c 3 (nI (wN N))
theorem rI_off {I : IT} {c N a : Nat} (h : a ≠ c) : rI I c N a = I a := by unfold rI; rw [up2_off h, up2_off h, up2_off h]
theorem rI_1 {I : IT} {c N : Nat} : rI I c N c 1 = nI N := by unfold rI; simp (disch := omega) only [au_up2e, au_up2n]
theorem rI_2 {I : IT} {c N : Nat} : rI I c N c 2 = nI (2 ^ N) := by unfold rI; simp (disch := omega) only [au_up2e, au_up2n]
theorem rI_3 {I : IT} {c N : Nat} : rI I c N c 3 = nI (wN N) := by unfold rI; simp (disch := omega) only [au_up2e, au_up2n]
theorem RSet_empty {N c : Nat} {I : IT} {J : JT} : RSet N c (fun _ => false) (rI I c N) (fil J (c + 1) (wN N) 0) := by
  refine RSet.mk rI_1 rI_2 rI_3 (fun w i hw hi => ?_)
  rw [fil_at hw, bt_0, Bool.and_false]
theorem and63 {r : Nat} : nI r &&& 63 = nI (r % 64) := fa_mask r 6
theorem and63n {r : Nat} : nI r &&& nI 63 = nI (r % 64) := fa_mask r 6
theorem au_minN {a b : Nat} : (if b < a then nI b else nI a) = nI (min a b) := by
  by_cases h : b < a
  · rw [if_pos h, Nat.min_eq_right (by omega)]
  · rw [if_neg h, Nat.min_eq_left (by omega)]
theorem max1 {a : Nat} (ha : a < 2 ^ 31) : (if (1 : Int32) < nI a then nI a else 1) = nI (max 1 a) := au_max (a := 1) (by decide) ha
theorem max0 {a : Nat} (ha : a < 2 ^ 31) : (if (0 : Int32) < nI a then nI a else 0) = nI a := by
  have := au_max (a := 0) (by decide) ha
  rw [Nat.zero_max] at this
  exact this
def mskW (N : Nat) (x : Int64) : Int64 := if 2 ^ N < 64 then x &&& lN (2 ^ (2 ^ N) - 1) else x
theorem bt_mskW {N w i : Nat} {x : Int64} (hN : N ≤ 12) (hw : w < wN N) (hi : i < 64) : bt (mskW N x) i = (decide (64 * w + i < 2 ^ N) && bt x i) := by
  obtain ⟨-, -, -, h4, h5, -⟩ := wN_all N (by omega)
  unfold mskW
  by_cases h : 2 ^ N < 64
  · have hw0 : w = 0 := by have := h4 h; omega
    subst hw0
    rw [if_pos h, bt_and, bt_msk hi, Bool.and_comm, Nat.mul_zero, Nat.zero_add]
  · rw [if_neg h, show decide (64 * w + i < 2 ^ N) = true by rw [decide_eq_true_eq]; have := h5 (by omega); omega, Bool.true_and]
/-- the rows of a word in which a sign holds -/
def rwv (N : Nat) (s : Int) (w : Nat) : Int64 := if 0 < s then (if N - s.natAbs < 6 then pat (N - s.natAbs) else if w.testBit (N - s.natAbs - 6) then -1 else 0) else (if N - s.natAbs < 6 then pat (N - s.natAbs) else if w.testBit (N - s.natAbs - 6) then -1 else 0) ^^^ -1
theorem tb_word {w i b : Nat} (hi : i < 64) : (64 * w + i).testBit b = if b < 6 then i.testBit b else w.testBit (b - 6) := by
  rw [show (64 : Nat) = 2 ^ 6 from rfl, Nat.testBit_two_pow_mul_add w (show i < 2 ^ 6 from hi)]
theorem bt_rwv {N w i : Nat} {s : Int} (hi : i < 64) (hs : s ≠ 0) : bt (rwv N s w) i = hld N s (64 * w + i) := by
  have key : bt (if N - s.natAbs < 6 then pat (N - s.natAbs) else if w.testBit (N - s.natAbs - 6) then -1 else 0) i = (64 * w + i).testBit (N - s.natAbs) := by
    rw [tb_word hi]
    by_cases h : N - s.natAbs < 6
    · rw [if_pos h, if_pos h, bt_pat h hi]
    · rw [if_neg h, if_neg h]
      cases e : w.testBit (N - s.natAbs - 6)
      · rw [if_neg (by decide), bt_0]
      · rw [if_pos rfl, bt_m1 hi]
  unfold rwv hld
  by_cases hp : 0 < s
  · rw [if_pos hp, if_pos hp, key, show s.natAbs = s.toNat by omega]
  · rw [if_neg hp, if_neg hp, bt_not hi, key, show s.natAbs = (-s).toNat by omega]
theorem abs_all : ∀ n : Nat, n < 25 → (if 0 ≤ iI ((n : Int) - 12) then iI ((n : Int) - 12) else 0 - iI ((n : Int) - 12)) = nI ((n : Int) - 12).natAbs ∧ (iI ((n : Int) - 12) ≤ 0 ↔ ((n : Int) - 12) ≤ 0) := by decide
theorem abs_ok {s : Int} (h1 : -12 ≤ s) (h2 : s ≤ 12) : (if 0 ≤ iI s then iI s else 0 - iI s) = nI s.natAbs ∧ (iI s ≤ 0 ↔ s ≤ 0) := by
  have h := abs_all (s + 12).toNat (by omega)
  have e : (((s + 12).toNat : Nat) : Int) - 12 = s := by omega
  rw [e] at h
  exact h
theorem nI_bit {b : Bool} : (nI (if b = true then 1 else 0) = 0) ↔ b = false := by cases b <;> decide
/-- a search for the first of a set -/
def scan (T : Nat → Bool) : Nat → Nat → Int32
  | 0, _ => -1
  | n + 1, r => if T r then nI r else scan T n (r + 1)
def scanK (T : Nat → Bool) : Nat → Nat → Nat → Int32
  | 0, _, _ => -1
  | n + 1, r, k => if T r then (if k = 0 then nI r else scanK T n (r + 1) (k - 1)) else scanK T n (r + 1) k
theorem scan_cong {T U : Nat → Bool} : ∀ {n r : Nat}, (∀ q, r ≤ q → q < r + n → T q = U q) → scan T n r = scan U n r
  | 0, _, _ => rfl
  | n + 1, r, h => by
    rw [scan, scan, h r (by omega) (by omega), scan_cong (n := n) (fun q h1 h2 => h q (by omega) (by omega))]
theorem scanK_skip {T : Nat → Bool} : ∀ {a n r k : Nat}, ¬ k < fb_ct (fun i => T (r + i)) a → scanK T (a + n) r k = scanK T n (r + a) (k - fb_ct (fun i => T (r + i)) a)
  | 0, n, r, k, _ => by rw [Nat.zero_add]; rfl
  | a + 1, n, r, k, h => by
    have e := fb_ct_split (fun i => T (r + i)) 1 a
    have e1 : fb_ct (fun i => T (r + i)) 1 = if T r then 1 else 0 := by
      rw [show (1 : Nat) = 0 + 1 from rfl, fb_ct_succ]
      show 0 + _ = _
      rw [Nat.zero_add]
      rfl
    have e2 : fb_ct (fun k => T (r + (1 + k))) a = fb_ct (fun i => T (r + 1 + i)) a := fb_ct_cong (fun i _ => by rw [show r + (1 + i) = r + 1 + i by omega])
    rw [show 1 + a = a + 1 by omega, e1, e2] at e
    rw [show a + 1 + n = (a + n) + 1 by omega, scanK]
    rw [e] at h ⊢
    cases hT : T r
    · rw [hT, if_neg (show ¬ false = true by decide), Nat.zero_add] at h
      rw [if_neg (show ¬ false = true by decide), if_neg (show ¬ false = true by decide), Nat.zero_add]
      rw [scanK_skip h, show r + 1 + a = r + (a + 1) by omega]
    · rw [hT, if_pos rfl] at h
      rw [if_pos rfl, if_pos rfl, if_neg (by omega), scanK_skip (by omega), show r + 1 + a = r + (a + 1) by omega]
      congr 1
      omega
theorem ct_mask {p : Nat → Bool} {k n : Nat} (hk : k ≤ n) : fb_ct (fun i => p i && decide (i < k)) n = fb_ct p k := by
  obtain ⟨m, rfl⟩ : ∃ m, n = k + m := ⟨n - k, by omega⟩
  rw [fb_ct_split]
  have z : fb_ct (fun i => p (k + i) && decide (k + i < k)) m = 0 := fb_ct_zero.mpr (fun i _ => by simp)
  rw [z, Nat.add_zero]
  exact fb_ct_cong (fun i hi => by simp [hi])
theorem RF_10 {Ln b : Nat} (hb : b < 2) : RF Ln (bkc b + 10) := by
  have h := bf (Ln := Ln) hb
  refine ⟨by unfold bkc; omega, h.1.2.2.2.2.2.2.2.2.2.2.1, h.1.2.2.2.2.2.2.2.2.2.2.2.1, h.2.2.2.2.2.2.2.2.2.2.2.2.1⟩
theorem RF_12 {Ln b : Nat} (hb : b < 2) : RF Ln (bkc b + 12) := by
  have h := bf (Ln := Ln) hb
  refine ⟨by unfold bkc; omega, h.1.2.2.2.2.2.2.2.2.2.2.2.2.1, h.1.2.2.2.2.2.2.2.2.2.2.2.2.2, h.2.2.2.2.2.2.2.2.2.2.2.2.2⟩
theorem RF_118 {Ln : Nat} : RF Ln 118 := ⟨by omega, rfl, rfl, rfl⟩
section RSets
variable {d Ln c N : Nat} {I : IT} {J : JT} {K : KT}
theorem C_rempty (hc : RF Ln c) (hN : N ≤ 12) : ACall (d + 1) 62 [.ref c, .int (nI N)] (G0 Ln) I J K ↔ K none (G0 Ln) (rI I c N) (fil J (c + 1) (wN N) 0) := by
  rw [ACall_0 (L0 := [.ref c, .int (nI N), nv]) (show mcs 62 = (0, 0) from rfl) (show entL 62 [.ref c, .int (nI N)] = _ from rfl) rfl (Nat.le_of_ble_eq_true rfl)]
  obtain ⟨h1, h2, -, -, -, h6, h7, h8⟩ := wN_all N (by omega)
  obtain ⟨-, c1, c2, c3⟩ := hc
  simp (disch := omega) only [aw_aload_0 (pc2 := 1) D62_0 rfl, aw_iload_1 (pc2 := 2) D62_1 rfl, aw_putI (pc2 := 5) (ci := 5) (fk := 1) D62_2 rfl fT_5_15 rfl, aw_aload_0 (pc2 := 6) D62_5 rfl, aw_iconst (pc2 := 7) (y := 1) D62_6 rfl (by decide), aw_iload_1 (pc2 := 8) D62_7 rfl, aw_ishl (pc2 := 9) D62_8 rfl, aw_putI (pc2 := 12) (ci := 5) (fk := 2) D62_9 rfl fT_5_19 rfl, aw_aload_0 (pc2 := 13) D62_12 rfl, aw_bipush (pc2 := 15) (y := 64) D62_13 rfl (by decide), aw_iconst (pc2 := 16) (y := 1) D62_15 rfl (by decide), aw_aload_0 (pc2 := 17) D62_16 rfl, aw_getI (pc2 := 20) (ci := 5) (fk := 2) D62_17 rfl fT_5_19 rfl, aw_bipush (pc2 := 22) (y := 64) D62_20 rfl (by decide), aw_idiv (pc2 := 23) D62_22 rfl, aw_mmax (pc2 := 26) D62_23 rfl cT_5_25, aw_mmin (pc2 := 29) D62_26 rfl cT_5_31, aw_putI (pc2 := 32) (ci := 5) (fk := 3) D62_29 rfl fT_5_22 rfl, aw_iconst (pc2 := 33) (y := 0) D62_32 rfl (by decide), aw_istore_2 (pc2 := 34) D62_33 rfl, lit_64, refV_s, refV_n, psh_s, psh_n, kil_i, kil_r, kil_n, kil_l, cat_i, cat_r, iOK_1, iOK_5, jOK_2, jOK_6, wOK_e, lOK_1, lOK_2, lOK_3, lOK_4, catS_0, catS_1, catS_2, catS_3, catS_4, and_self, true_and, and_true, true_or, or_true, false_or, or_false, not_true_eq_false, not_false_eq_true, if_true, if_false, ite_int, ite_int0, au_10, eq_self, au_in, au_le, au_lt, au_eq, au_lt0, au_ge0, au_le0, au_gt0, au_eq0, au_leT, au_leF, au_ltT, au_ltF, au_eqT, au_eqF, nI_clamp, nI_1, nI_add, pk_mul, au_sub1, au_subc, au_up2e, au_up2n, lit_of, c1, c2, c3, shl1, pk_div, max1, au_minN, h8]
  have hI : up2 (up2 (up2 I c 1 (nI N)) c 2 (nI (2 ^ N))) c 3 (nI (wN N)) = rI I c N := rfl
  rw [hI]
  have key : ∀ n i, i + n = wN N → (AW d ((G0 Ln).1, (G0 Ln).2.1) K 62 34 [.ref c, .int (nI N), .int (nI i)] [] (G0 Ln) (rI I c N) (fil J (c + 1) i 0) ↔ K none (G0 Ln) (rI I c N) (fil J (c + 1) (wN N) 0)) := by
    intro n
    induction n with
    | zero =>
      intro i hi
      have e : i = wN N := by omega
      subst e
      simp (disch := omega) only [aw_iload_2 (pc2 := 35) D62_34 rfl, aw_aload_0 (pc2 := 36) D62_35 rfl, aw_getI (pc2 := 39) (ci := 5) (fk := 3) D62_36 rfl fT_5_22 rfl, aw_icmp_ge (pc2 := 42) (t := 55) D62_39 (by decide) rfl, aw_vret D62_55 rfl, lit_64, refV_s, refV_n, psh_s, psh_n, kil_i, kil_r, kil_n, kil_l, cat_i, cat_r, iOK_1, iOK_5, jOK_2, jOK_6, wOK_e, lOK_1, lOK_2, lOK_3, lOK_4, catS_0, catS_1, catS_2, catS_3, catS_4, and_self, true_and, and_true, true_or, or_true, false_or, or_false, not_true_eq_false, not_false_eq_true, if_true, if_false, ite_int, ite_int0, au_10, eq_self, au_in, au_le, au_lt, au_eq, au_lt0, au_ge0, au_le0, au_gt0, au_eq0, au_leT, au_leF, au_ltT, au_ltF, au_eqT, au_eqF, nI_clamp, nI_1, nI_add, pk_mul, au_sub1, au_subc, au_up2e, au_up2n, lit_of, c1, rI_3]
    | succ n ih =>
      intro i hi
      have ihn := ih (i + 1) (by omega)
      rw [aw_iload_2 (pc2 := 35) D62_34 rfl]
      simp (disch := omega) only [aw_aload_0 (pc2 := 36) D62_35 rfl, aw_getI (pc2 := 39) (ci := 5) (fk := 3) D62_36 rfl fT_5_22 rfl, aw_icmp_ge (pc2 := 42) (t := 55) D62_39 (by decide) rfl, aw_aload_0 (pc2 := 43) D62_42 rfl, aw_getR (pc2 := 46) (ci := 5) (fk := 0) D62_43 rfl fT_5_9 rfl, aw_iload_2 (pc2 := 47) D62_46 rfl, aw_lconst (pc2 := 48) (y := 0) D62_47 rfl (by decide), aw_lastore (pc2 := 49) D62_48 rfl, aw_iinc_2 (pc2 := 52) (y := 1) D62_49 rfl (by decide), aw_goto (t := 34) D62_52 (by decide), lit_64, refV_s, refV_n, psh_s, psh_n, kil_i, kil_r, kil_n, kil_l, cat_i, cat_r, iOK_1, iOK_5, jOK_2, jOK_6, wOK_e, lOK_1, lOK_2, lOK_3, lOK_4, catS_0, catS_1, catS_2, catS_3, catS_4, and_self, true_and, and_true, true_or, or_true, false_or, or_false, not_true_eq_false, not_false_eq_true, if_true, if_false, ite_int, ite_int0, au_10, eq_self, au_in, au_le, au_lt, au_eq, au_lt0, au_ge0, au_le0, au_gt0, au_eq0, au_leT, au_leF, au_ltT, au_ltF, au_eqT, au_eqF, nI_clamp, nI_1, nI_add, pk_mul, au_sub1, au_subc, au_up2e, au_up2n, lit_of, c1, c2, c3, rI_3, fil_s]
      exact ihn
  have := key (wN N) 0 (by omega)
  rw [fil_0] at this
  exact this
theorem C_become {o : Nat} {T : Nat → Bool} (hc : RF Ln c) (ho : RF Ln o) (hN : N ≤ 12) (h1 : o ≠ c) (h2 : RSet N o T I J) (hk : ∀ J', (∀ a, a ≠ c + 1 → J' a = J a) → RSet N c T (rI I c N) J' → K none (G0 Ln) (rI I c N) J') : ACall (d + 2) 63 [.ref c, .ref o] (G0 Ln) I J K := by
  rw [ACall_0 (L0 := [.ref c, .ref o, nv]) (show mcs 63 = (0, 0) from rfl) (show entL 63 [.ref c, .ref o] = _ from rfl) rfl (Nat.le_of_ble_eq_true rfl)]
  obtain ⟨w1, w2, -⟩ := wN_all N (by omega)
  have hc' := hc
  obtain ⟨-, c1, c2, c3⟩ := hc
  obtain ⟨-, o1, o2, o3⟩ := ho
  simp (disch := omega) only [aw_aload_0 (pc2 := 1) D63_0 rfl, aw_aload_1 (pc2 := 2) D63_1 rfl, aw_getI (pc2 := 5) (ci := 5) (fk := 1) D63_2 rfl fT_5_15 rfl, aw_iv1_0 (pc2 := 8) (o := 5) D63_5 rfl cT_5_34 rfl rfl, aw_iconst (pc2 := 9) (y := 0) D63_8 rfl (by decide), aw_istore_2 (pc2 := 10) D63_9 rfl, refV_s, refV_n, psh_s, psh_n, kil_i, kil_r, kil_n, kil_l, cat_i, cat_r, iOK_1, iOK_5, jOK_2, jOK_6, wOK_e, lOK_1, lOK_2, lOK_3, lOK_4, catS_0, catS_1, catS_2, catS_3, catS_4, and_self, true_and, and_true, true_or, or_true, false_or, or_false, not_true_eq_false, not_false_eq_true, if_true, if_false, ite_int, ite_int0, au_10, eq_self, au_in, au_le, au_lt, au_eq, au_lt0, au_ge0, au_le0, au_gt0, au_eq0, au_leT, au_leF, au_ltT, au_ltF, au_eqT, au_eqF, nI_clamp, nI_1, nI_add, pk_mul, au_sub1, au_subc, au_up2e, au_up2n, lit_of, c1, o1, h2.1, C_rempty hc' hN]
  have key : ∀ n i J', i + n = wN N → (∀ a, a ≠ c + 1 → J' a = J a) → (∀ w, w < i → J' (c + 1) w = J (o + 1) w) → AW (d + 1) ((G0 Ln).1, (G0 Ln).2.1) K 63 10 [.ref c, .ref o, .int (nI i)] [] (G0 Ln) (rI I c N) J' := by
    intro n
    induction n with
    | zero =>
      intro i J' hi hJ hw
      have e : i = wN N := by omega
      subst e
      simp (disch := omega) only [aw_iload_2 (pc2 := 11) D63_10 rfl, aw_aload_0 (pc2 := 12) D63_11 rfl, aw_getI (pc2 := 15) (ci := 5) (fk := 3) D63_12 rfl fT_5_22 rfl, aw_icmp_ge (pc2 := 18) (t := 36) D63_15 (by decide) rfl, aw_vret D63_36 rfl, refV_s, refV_n, psh_s, psh_n, kil_i, kil_r, kil_n, kil_l, cat_i, cat_r, iOK_1, iOK_5, jOK_2, jOK_6, wOK_e, lOK_1, lOK_2, lOK_3, lOK_4, catS_0, catS_1, catS_2, catS_3, catS_4, and_self, true_and, and_true, true_or, or_true, false_or, or_false, not_true_eq_false, not_false_eq_true, if_true, if_false, ite_int, ite_int0, au_10, eq_self, au_in, au_le, au_lt, au_eq, au_lt0, au_ge0, au_le0, au_gt0, au_eq0, au_leT, au_leF, au_ltT, au_ltF, au_eqT, au_eqF, nI_clamp, nI_1, nI_add, pk_mul, au_sub1, au_subc, au_up2e, au_up2n, lit_of, c1, rI_3]
      refine hk J' hJ (RSet.mk rI_1 rI_2 rI_3 (fun w i hw2 hi2 => ?_))
      rw [hw w hw2]
      exact h2.wd hw2 hi2
    | succ n ih =>
      intro i J' hi hJ hw
      have ihn := ih (i + 1)
      rw [aw_iload_2 (pc2 := 11) D63_10 rfl]
      simp (disch := omega) only [aw_aload_0 (pc2 := 12) D63_11 rfl, aw_getI (pc2 := 15) (ci := 5) (fk := 3) D63_12 rfl fT_5_22 rfl, aw_icmp_ge (pc2 := 18) (t := 36) D63_15 (by decide) rfl, aw_aload_0 (pc2 := 19) D63_18 rfl, aw_getR (pc2 := 22) (ci := 5) (fk := 0) D63_19 rfl fT_5_9 rfl, aw_iload_2 (pc2 := 23) D63_22 rfl, aw_aload_1 (pc2 := 24) D63_23 rfl, aw_getR (pc2 := 27) (ci := 5) (fk := 0) D63_24 rfl fT_5_9 rfl, aw_iload_2 (pc2 := 28) D63_27 rfl, aw_laload (pc2 := 29) D63_28 rfl, aw_lastore (pc2 := 30) D63_29 rfl, aw_iinc_2 (pc2 := 33) (y := 1) D63_30 rfl (by decide), aw_goto (t := 10) D63_33 (by decide), refV_s, refV_n, psh_s, psh_n, kil_i, kil_r, kil_n, kil_l, cat_i, cat_r, iOK_1, iOK_5, jOK_2, jOK_6, wOK_e, lOK_1, lOK_2, lOK_3, lOK_4, catS_0, catS_1, catS_2, catS_3, catS_4, and_self, true_and, and_true, true_or, or_true, false_or, or_false, not_true_eq_false, not_false_eq_true, if_true, if_false, ite_int, ite_int0, au_10, eq_self, au_in, au_le, au_lt, au_eq, au_lt0, au_ge0, au_le0, au_gt0, au_eq0, au_leT, au_leF, au_ltT, au_ltF, au_eqT, au_eqF, nI_clamp, nI_1, nI_add, pk_mul, au_sub1, au_subc, au_up2e, au_up2n, lit_of, c1, c2, c3, o1, o2, o3, rI_3]
      refine ihn _ (by omega) (fun a ha => by rw [up2_off ha]; exact hJ a ha) (fun w hw2 => ?_)
      rw [hJ (o + 1) (by omega)]
      by_cases e : w = i
      · simp (disch := omega) only [e, au_up2e]
      · simp (disch := omega) only [au_up2n]; exact hw w (by omega)
  exact key (wN N) 0 _ (by omega) (fun a ha => fil_off ha) (fun w hw => absurd hw (Nat.not_lt_zero _))
theorem C_setWord {w : Nat} {x : Int64} (hc : RF Ln c) (hN : N ≤ 12) (hw : w < wN N) (h2 : I c 2 = nI (2 ^ N)) (h3 : I c 3 = nI (wN N)) : ACall (d + 1) 64 [.ref c, .int (nI w), .long x] (G0 Ln) I J K ↔ K none (G0 Ln) I (up2 J (c + 1) w (mskW N x)) := by
  rw [ACall_0 (L0 := [.ref c, .int (nI w), .long x, nv]) (show mcs 64 = (0, 0) from rfl) (show entL 64 [.ref c, .int (nI w), .long x] = _ from rfl) rfl (Nat.le_of_ble_eq_true rfl)]
  obtain ⟨w1, w2, -, -, -, w6, -⟩ := wN_all N (by omega)
  obtain ⟨-, c1, c2, c3⟩ := hc
  unfold mskW
  by_cases h : 2 ^ N < 64
  · rw [if_pos h]
    simp (disch := omega) only [aw_iload_1 (pc2 := 1) D64_0 rfl, aw_if_lt (pc2 := 4) (t := 41) D64_1 (by decide) rfl, aw_iload_1 (pc2 := 5) D64_4 rfl, aw_aload_0 (pc2 := 6) D64_5 rfl, aw_getI (pc2 := 9) (ci := 5) (fk := 3) D64_6 rfl fT_5_22 rfl, aw_icmp_ge (pc2 := 12) (t := 41) D64_9 (by decide) rfl, aw_aload_0 (pc2 := 13) D64_12 rfl, aw_getR (pc2 := 16) (ci := 5) (fk := 0) D64_13 rfl fT_5_9 rfl, aw_iload_1 (pc2 := 17) D64_16 rfl, aw_aload_0 (pc2 := 18) D64_17 rfl, aw_getI (pc2 := 21) (ci := 5) (fk := 2) D64_18 rfl fT_5_19 rfl, aw_bipush (pc2 := 23) (y := 64) D64_21 rfl (by decide), aw_icmp_ge (pc2 := 26) (t := 39) D64_23 (by decide) rfl, aw_lload_2 (pc2 := 27) D64_26 rfl, aw_lconst (pc2 := 28) (y := 1) D64_27 rfl (by decide), aw_aload_0 (pc2 := 29) D64_28 rfl, aw_getI (pc2 := 32) (ci := 5) (fk := 2) D64_29 rfl fT_5_19 rfl, aw_lshl (pc2 := 33) D64_32 rfl, aw_lconst (pc2 := 34) (y := 1) D64_33 rfl (by decide), aw_lsub (pc2 := 35) D64_34 rfl, aw_land (pc2 := 36) D64_35 rfl, aw_goto (t := 40) D64_36 (by decide), aw_lload_2 (pc2 := 40) D64_39 rfl, aw_lastore (pc2 := 41) D64_40 rfl, aw_vret D64_41 rfl, lit_64, refV_s, refV_n, psh_s, psh_n, kil_i, kil_r, kil_n, kil_l, cat_i, cat_r, iOK_1, iOK_5, jOK_2, jOK_6, wOK_e, lOK_1, lOK_2, lOK_3, lOK_4, catS_0, catS_1, catS_2, catS_3, catS_4, and_self, true_and, and_true, true_or, or_true, false_or, or_false, not_true_eq_false, not_false_eq_true, if_true, if_false, ite_int, ite_int0, au_10, eq_self, au_in, au_le, au_lt, au_eq, au_lt0, au_ge0, au_le0, au_gt0, au_eq0, au_leT, au_leF, au_ltT, au_ltF, au_eqT, au_eqF, nI_clamp, nI_1, nI_add, pk_mul, au_sub1, au_subc, au_up2e, au_up2n, lit_of, c1, c2, c3, h2, h3, shl1L h, mskL]
  · rw [if_neg h]
    simp (disch := omega) only [aw_iload_1 (pc2 := 1) D64_0 rfl, aw_if_lt (pc2 := 4) (t := 41) D64_1 (by decide) rfl, aw_iload_1 (pc2 := 5) D64_4 rfl, aw_aload_0 (pc2 := 6) D64_5 rfl, aw_getI (pc2 := 9) (ci := 5) (fk := 3) D64_6 rfl fT_5_22 rfl, aw_icmp_ge (pc2 := 12) (t := 41) D64_9 (by decide) rfl, aw_aload_0 (pc2 := 13) D64_12 rfl, aw_getR (pc2 := 16) (ci := 5) (fk := 0) D64_13 rfl fT_5_9 rfl, aw_iload_1 (pc2 := 17) D64_16 rfl, aw_aload_0 (pc2 := 18) D64_17 rfl, aw_getI (pc2 := 21) (ci := 5) (fk := 2) D64_18 rfl fT_5_19 rfl, aw_bipush (pc2 := 23) (y := 64) D64_21 rfl (by decide), aw_icmp_ge (pc2 := 26) (t := 39) D64_23 (by decide) rfl, aw_lload_2 (pc2 := 27) D64_26 rfl, aw_lconst (pc2 := 28) (y := 1) D64_27 rfl (by decide), aw_aload_0 (pc2 := 29) D64_28 rfl, aw_getI (pc2 := 32) (ci := 5) (fk := 2) D64_29 rfl fT_5_19 rfl, aw_lshl (pc2 := 33) D64_32 rfl, aw_lconst (pc2 := 34) (y := 1) D64_33 rfl (by decide), aw_lsub (pc2 := 35) D64_34 rfl, aw_land (pc2 := 36) D64_35 rfl, aw_goto (t := 40) D64_36 (by decide), aw_lload_2 (pc2 := 40) D64_39 rfl, aw_lastore (pc2 := 41) D64_40 rfl, aw_vret D64_41 rfl, lit_64, refV_s, refV_n, psh_s, psh_n, kil_i, kil_r, kil_n, kil_l, cat_i, cat_r, iOK_1, iOK_5, jOK_2, jOK_6, wOK_e, lOK_1, lOK_2, lOK_3, lOK_4, catS_0, catS_1, catS_2, catS_3, catS_4, and_self, true_and, and_true, true_or, or_true, false_or, or_false, not_true_eq_false, not_false_eq_true, if_true, if_false, ite_int, ite_int0, au_10, eq_self, au_in, au_le, au_lt, au_eq, au_lt0, au_ge0, au_le0, au_gt0, au_eq0, au_leT, au_leF, au_ltT, au_ltF, au_eqT, au_eqF, nI_clamp, nI_1, nI_add, pk_mul, au_sub1, au_subc, au_up2e, au_up2n, lit_of, c1, c2, c3, h2, h3]
theorem C_has {T : Nat → Bool} {r : Nat} (hc : RF Ln c) (hN : N ≤ 12) (h : RSet N c T I J) (hr : r < 2 ^ 31) : ACall (d + 1) 66 [.ref c, .int (nI r)] (G0 Ln) I J K ↔ K (some (.int (bI (decide (r < 2 ^ N) && T r)))) (G0 Ln) I J := by
  rw [ACall_0 (L0 := [.ref c, .int (nI r)]) (show mcs 66 = (0, 0) from rfl) (show entL 66 [.ref c, .int (nI r)] = _ from rfl) rfl (Nat.le_of_ble_eq_true rfl)]
  obtain ⟨w1, w2, w3, -, -, w6, -⟩ := wN_all N (by omega)
  obtain ⟨-, c1, c2, c3⟩ := hc
  by_cases hq : r < 2 ^ N
  · have hb := h.2.2.2 r (by show r < 64 * wN N; omega)
    have hb : bt (J (c + 1) (r / 64)) (r % 64) = (decide (r < 2 ^ N) && T r) := hb
    rw [decide_eq_true hq, Bool.true_and] at hb
    simp (disch := omega) only [aw_iload_1 (pc2 := 1) D66_0 rfl, aw_if_lt (pc2 := 4) (t := 37) D66_1 (by decide) rfl, aw_iload_1 (pc2 := 5) D66_4 rfl, aw_aload_0 (pc2 := 6) D66_5 rfl, aw_getI (pc2 := 9) (ci := 5) (fk := 2) D66_6 rfl fT_5_19 rfl, aw_icmp_ge (pc2 := 12) (t := 37) D66_9 (by decide) rfl, aw_aload_0 (pc2 := 13) D66_12 rfl, aw_getR (pc2 := 16) (ci := 5) (fk := 0) D66_13 rfl fT_5_9 rfl, aw_iload_1 (pc2 := 17) D66_16 rfl, aw_bipush (pc2 := 19) (y := 6) D66_17 rfl (by decide), aw_ishr (pc2 := 20) D66_19 rfl, aw_laload (pc2 := 21) D66_20 rfl, aw_iload_1 (pc2 := 22) D66_21 rfl, aw_bipush (pc2 := 24) (y := 63) D66_22 rfl (by decide), aw_iand (pc2 := 25) D66_24 rfl, aw_lshr (pc2 := 26) D66_25 rfl, aw_lconst (pc2 := 27) (y := 1) D66_26 rfl (by decide), aw_land (pc2 := 28) D66_27 rfl, aw_lconst (pc2 := 29) (y := 0) D66_28 rfl (by decide), aw_lcmp (pc2 := 30) D66_29 rfl, aw_if_eq (pc2 := 33) (t := 37) D66_30 (by decide) rfl, aw_iconst (pc2 := 34) (y := 1) D66_33 rfl (by decide), aw_goto (t := 38) D66_34 (by decide), aw_iconst (pc2 := 38) (y := 0) D66_37 rfl (by decide), aw_zret D66_38 rfl, lit_6, lit_63, refV_s, refV_n, psh_s, psh_n, kil_i, kil_r, kil_n, kil_l, cat_i, cat_r, iOK_1, iOK_5, jOK_2, jOK_6, wOK_e, lOK_1, lOK_2, lOK_3, lOK_4, catS_0, catS_1, catS_2, catS_3, catS_4, and_self, true_and, and_true, true_or, or_true, false_or, or_false, not_true_eq_false, not_false_eq_true, if_true, if_false, ite_int, ite_int0, au_10, eq_self, au_in, au_le, au_lt, au_eq, au_lt0, au_ge0, au_le0, au_gt0, au_eq0, au_leT, au_leF, au_ltT, au_ltF, au_eqT, au_eqF, nI_clamp, nI_1, nI_add, pk_mul, au_sub1, au_subc, au_up2e, au_up2n, lit_of, c1, c2, c3, h.2.1, shrI, show (2 : Nat) ^ 6 = 64 from rfl, and63n, lg_cmp_eq, sh1_0, hb, decide_true, Bool.true_and]
    cases e : T r <;> simp [bI]
  · simp (disch := omega) only [aw_iload_1 (pc2 := 1) D66_0 rfl, aw_if_lt (pc2 := 4) (t := 37) D66_1 (by decide) rfl, aw_iload_1 (pc2 := 5) D66_4 rfl, aw_aload_0 (pc2 := 6) D66_5 rfl, aw_getI (pc2 := 9) (ci := 5) (fk := 2) D66_6 rfl fT_5_19 rfl, aw_icmp_ge (pc2 := 12) (t := 37) D66_9 (by decide) rfl, aw_aload_0 (pc2 := 13) D66_12 rfl, aw_getR (pc2 := 16) (ci := 5) (fk := 0) D66_13 rfl fT_5_9 rfl, aw_iload_1 (pc2 := 17) D66_16 rfl, aw_bipush (pc2 := 19) (y := 6) D66_17 rfl (by decide), aw_ishr (pc2 := 20) D66_19 rfl, aw_laload (pc2 := 21) D66_20 rfl, aw_iload_1 (pc2 := 22) D66_21 rfl, aw_bipush (pc2 := 24) (y := 63) D66_22 rfl (by decide), aw_iand (pc2 := 25) D66_24 rfl, aw_lshr (pc2 := 26) D66_25 rfl, aw_lconst (pc2 := 27) (y := 1) D66_26 rfl (by decide), aw_land (pc2 := 28) D66_27 rfl, aw_lconst (pc2 := 29) (y := 0) D66_28 rfl (by decide), aw_lcmp (pc2 := 30) D66_29 rfl, aw_if_eq (pc2 := 33) (t := 37) D66_30 (by decide) rfl, aw_iconst (pc2 := 34) (y := 1) D66_33 rfl (by decide), aw_goto (t := 38) D66_34 (by decide), aw_iconst (pc2 := 38) (y := 0) D66_37 rfl (by decide), aw_zret D66_38 rfl, lit_6, lit_63, refV_s, refV_n, psh_s, psh_n, kil_i, kil_r, kil_n, kil_l, cat_i, cat_r, iOK_1, iOK_5, jOK_2, jOK_6, wOK_e, lOK_1, lOK_2, lOK_3, lOK_4, catS_0, catS_1, catS_2, catS_3, catS_4, and_self, true_and, and_true, true_or, or_true, false_or, or_false, not_true_eq_false, not_false_eq_true, if_true, if_false, ite_int, ite_int0, au_10, eq_self, au_in, au_le, au_lt, au_eq, au_lt0, au_ge0, au_le0, au_gt0, au_eq0, au_leT, au_leF, au_ltT, au_ltF, au_eqT, au_eqF, nI_clamp, nI_1, nI_add, pk_mul, au_sub1, au_subc, au_up2e, au_up2n, lit_of, c1, c2, c3, h.2.1, hq, decide_false, Bool.false_and]
    exact Iff.rfl
end RSets
