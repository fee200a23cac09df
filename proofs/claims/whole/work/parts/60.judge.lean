/-! the judge -/
def shB (L : Nat → Nat) (ps : List Nat) : Nat → Bool
  | 0 => false
  | j + 1 => shB L ps j || decide (ltP L ps 0 j &&& L (ps.getD j 0) ≠ 0)
def J1 (g : GR) (i : Nat) : Bool := decide ((nodeAt g i).1 = 3) && shB (lts g) (nodeAt g i).2.2 (nodeAt g i).2.2.length
def J2 (g : GR) (i : Nat) : Bool := decide ((nodeAt g i).1 = 4) && (ltP (lts g) (nodeAt g i).2.2 0 2).testBit ((nodeAt g i).2.1.toNat - 1)
/-- does a clause hold in a row, by its first letters -/
def clH (N c r : Nat) : Nat → Bool
  | 0 => false
  | l + 1 => clH N c r l || ((c.testBit l && hld N ((l : Int) + 1) r) || (c.testBit (12 + l) && hld N (-((l : Int) + 1)) r))
def whB (k : BK) (r : Nat) : Bool := k.cl.all (fun c => clH k.N c r k.N)
def J3 (k : BK) (g : GR) (r : Nat) : Bool := sayR k.N g r != whB k r
def setG (σ : SG) (v : Int32) : SG := (σ.1, σ.2.1, σ.2.2.1, v)
def oJudge (σ : SG) (x : Int32) : Value × SG := match bkOf x with
  | none => (.int (-3), refS σ 3)
  | some b => match (σ.1 b).g with
    | none => (.int (-2), refS σ 2)
    | some g => if scan (J1 g) g.1.length 0 = -1 then (if scan (J2 g) g.1.length 0 = -1 then (if scan (J3 (σ.1 b) g) (2 ^ (σ.1 b).N) 0 = -1 then (.int 0, setG σ (-1)) else (.int 3, setG σ (scan (J3 (σ.1 b) g) (2 ^ (σ.1 b).N) 0))) else (.int 2, setG σ (scan (J2 g) g.1.length 0))) else (.int 1, setG σ (scan (J1 g) g.1.length 0))
theorem bitC_pos : ∀ n : Nat, n < 12 → bitC (iI ((n : Int) + 1)) = nI (2 ^ n) := by decide
theorem ltN_lt (c : Nat) : ltN c < 4096 := Nat.mod_lt _ (by decide)
theorem lts_lt {N : Nat} {g : GR} (hN : N ≤ 12) (h : grOK N g) : ∀ i, i < g.1.length → lts g i < 4096 := by
  intro i
  induction i using Nat.strongRecOn with
  | ind i ih =>
    intro hi
    have hno := node_ok h hi
    have hnm := nd_name hno hN
    rw [lts_step hno.1, ← ltP_fold]
    have : ∀ j, j ≤ (nodeAt g i).2.2.length → ltP (lts g) (nodeAt g i).2.2 (ownL (nodeAt g i).2.1) j < 2 ^ 12 := by
      intro j
      induction j with
      | zero => intro _; exact (own_ok hnm.1 hnm.2).2.2.2
      | succ j ihj =>
        intro hj
        have hlt := nd_part hno (show j < (nodeAt g i).2.2.length by omega)
        exact Nat.or_lt_two_pow (ihj (by omega)) (ih _ hlt (by omega))
    exact this _ (Nat.le_refl _)
/-- rows of a word in which a clause holds -/
def rcW (N c w : Nat) : Nat → Int64
  | 0 => 0
  | l + 1 => if c.testBit l then rcW N c w l ||| rwv N ((l : Int) + 1) w else if c.testBit (12 + l) then rcW N c w l ||| rwv N (-((l : Int) + 1)) w else rcW N c w l
theorem bt_rcW {N c w q : Nat} (hc : lowN N c) (hq : q < 64) : ∀ l, l ≤ 12 → bt (rcW N c w l) q = clH N c (64 * w + q) l
  | 0, _ => bt_0
  | l + 1, h => by
    rw [rcW, clH]
    have ih := bt_rcW (w := w) hc hq l (by omega)
    have hcon := (hc.2 l (by omega)).2.2
    cases t1 : c.testBit l
    · rw [if_neg (by decide)]
      cases t2 : c.testBit (12 + l)
      · rw [if_neg (by decide), ih]; simp
      · rw [if_pos rfl, bt_or, ih, bt_rwv hq (by omega)]; simp
    · have t2 : c.testBit (12 + l) = false := by
        cases t2 : c.testBit (12 + l)
        · rfl
        · exact absurd ⟨t1, t2⟩ hcon
      rw [if_pos rfl, bt_or, ih, bt_rwv hq (by omega), t2]; simp
def whW (N w : Nat) (cl : List Nat) : Nat → Int64
  | 0 => -1
  | i + 1 => whW N w cl i &&& rcW N (cl.getD i 0) w N
theorem bt_whW {N w q : Nat} {cl : List Nat} (hN : N ≤ 12) (hc : ∀ c ∈ cl, clOK N c) (hq : q < 64) : ∀ n, n ≤ cl.length → bt (whW N w cl n) q = (cl.take n).all (fun c => clH N c (64 * w + q) N)
  | 0, _ => by
    rw [List.take_zero]
    exact bt_m1 hq
  | n + 1, h => by
    rw [whW, bt_and, bt_whW hN hc hq n (by omega), List.take_succ, List.getElem?_eq_getElem (show n < cl.length by omega), List.all_append, bt_rcW (hc _ (getD_mem (by omega))).1 hq N hN, List.getD_eq_getElem?_getD, List.getElem?_eq_getElem (show n < cl.length by omega)]
    simp
theorem lt_bit {c l : Nat} (hl : l < 12) : (ltN c).testBit l = (c.testBit l || c.testBit (12 + l)) := by
  unfold ltN
  rw [tb_mod, Nat.testBit_or, tb_div]
  simp [hl]
theorem letC_nI {c : Nat} (hc : c < 2 ^ 24) : letC (nI c) = nI (ltN c) := by
  unfold letC ltN
  rw [pk_shrN (by omega) _ 12 (by decide), fa_or, show (4095 : Int32) = nI (2 ^ 12 - 1) from rfl, fa_mask]
section Judge
variable {d Ln B N : Nat} {I : IT} {J : JT} {K : KT} {σ : SG}
theorem C_partsShare {i : Nat} {g : GR} (hB : BF Ln B) (hN : N ≤ 12) (hgo : grOK N g) (hg : CG B N g I J) (hi : i < g.1.length) : ACall (d + 4) 28 [.ref (B + 3), .int (nI i)] (G0 Ln) I J K ↔ K (some (.int (bI (shB (lts g) (nodeAt g i).2.2 (nodeAt g i).2.2.length)))) (G0 Ln) I J := by
  rw [ACall_0 (L0 := [.ref (B + 3), .int (nI i), nv, nv, nv]) (show mcs 28 = (0, 0) from rfl) (show entL 28 [.ref (B + 3), .int (nI i)] = _ from rfl) rfl (Nat.le_of_ble_eq_true rfl)]
  obtain ⟨n1, n2, n3, n4, n5⟩ := hg.2.2.2.1 i hi
  have hno := node_ok hgo hi
  have h15 := hgo.2.1
  have hl12 := nd_len hno
  have hlp : ∀ j, j ≤ (nodeAt g i).2.2.length → ltP (lts g) (nodeAt g i).2.2 0 j < 2 ^ 12 := by
    intro j
    induction j with
    | zero => intro _; exact (show 0 < 2 ^ 12 by decide)
    | succ j ihj =>
      intro hj
      have hlt := nd_part hno (show j < (nodeAt g i).2.2.length by omega)
      exact Nat.or_lt_two_pow (ihj (by omega)) (lts_lt hN hgo _ (by omega))
  simp only [aw_iconst (pc2 := 1) (y := 0) D28_0 rfl (by decide), aw_istore_2 (pc2 := 2) D28_1 rfl, aw_iconst (pc2 := 3) (y := 0) D28_2 rfl (by decide), aw_istore_3 (pc2 := 4) D28_3 rfl, refV_s, refV_n, psh_s, psh_n, kil_i, kil_r, kil_n, kil_l, cat_i, cat_r, iOK_1, iOK_5, jOK_2, jOK_6, wOK_e, lOK_1, lOK_2, lOK_3, lOK_4, lOK_5, lOK_6, catS_0, catS_1, catS_2, catS_3, catS_4, and_self, true_and, and_true, true_or, or_true, false_or, or_false, not_true_eq_false, not_false_eq_true, if_true, if_false, ite_int, ite_int0, au_10, eq_self, decide_true, decide_false, Bool.true_and, Bool.false_and]
  have key : ∀ n j v, j + n = (nodeAt g i).2.2.length → kil v = v → shB (lts g) (nodeAt g i).2.2 j = false → (AW (d + 3) ((G0 Ln).1, (G0 Ln).2.1) K 28 4 [.ref (B + 3), .int (nI i), .int (nI (ltP (lts g) (nodeAt g i).2.2 0 j)), .int (nI j), v] [] (G0 Ln) I J ↔ K (some (.int (bI (shB (lts g) (nodeAt g i).2.2 (nodeAt g i).2.2.length)))) (G0 Ln) I J) := by
    intro n
    induction n with
    | zero =>
      intro j v hj hv hsh
      have e : j = (nodeAt g i).2.2.length := by omega
      subst e
      simp (disch := omega) only [aw_iload_3 (pc2 := 5) D28_4 rfl, aw_aload_0 (pc2 := 6) D28_5 rfl, aw_getR (pc2 := 9) (ci := 1) (fk := 2) D28_6 rfl fT_1_18 rfl, aw_iload_1 (pc2 := 10) D28_9 rfl, aw_iaload (pc2 := 11) D28_10 rfl, aw_icmp_ge (pc2 := 14) (t := 42) D28_11 (by decide) rfl, aw_iconst (pc2 := 43) (y := 0) D28_42 rfl (by decide), aw_zret D28_43 rfl, refV_s, refV_n, psh_s, psh_n, kil_i, kil_r, kil_n, kil_l, cat_i, cat_r, iOK_1, iOK_5, jOK_2, jOK_6, wOK_e, lOK_1, lOK_2, lOK_3, lOK_4, lOK_5, lOK_6, catS_0, catS_1, catS_2, catS_3, catS_4, and_self, true_and, and_true, true_or, or_true, false_or, or_false, not_true_eq_false, not_false_eq_true, if_true, if_false, ite_int, ite_int0, au_10, eq_self, decide_true, decide_false, Bool.true_and, Bool.false_and, au_in, au_le, au_lt, au_eq, au_lt0, au_ge0, au_le0, au_gt0, au_eq0, au_leT, au_leF, au_ltT, au_ltF, au_eqT, au_eqF, nI_clamp, nI_1, nI_add, pk_mul, au_sub1, au_subc, au_up2e, au_up2n, lit_of, hB.1.1, hB.1.2.1, hB.1.2.2.1, hB.1.2.2.2.1, hB.1.2.2.2.2.1, hB.1.2.2.2.2.2.1, hB.1.2.2.2.2.2.2.1, hB.1.2.2.2.2.2.2.2.1, hB.1.2.2.2.2.2.2.2.2.1, hB.1.2.2.2.2.2.2.2.2.2.1, hB.1.2.2.2.2.2.2.2.2.2.2.1, hB.1.2.2.2.2.2.2.2.2.2.2.2.1, hB.1.2.2.2.2.2.2.2.2.2.2.2.2.1, hB.1.2.2.2.2.2.2.2.2.2.2.2.2.2, hB.2.1, hB.2.2.1, hB.2.2.2.1, hB.2.2.2.2.1, hB.2.2.2.2.2.1, hB.2.2.2.2.2.2.1, hB.2.2.2.2.2.2.2.1, hB.2.2.2.2.2.2.2.2.1, hB.2.2.2.2.2.2.2.2.2.1, hB.2.2.2.2.2.2.2.2.2.2.1, hB.2.2.2.2.2.2.2.2.2.2.2.1, hB.2.2.2.2.2.2.2.2.2.2.2.2.1, hB.2.2.2.2.2.2.2.2.2.2.2.2.2, n3, hsh]
      exact Iff.rfl
    | succ n ih =>
      intro j v hj hv hsh
      have hjl : j < (nodeAt g i).2.2.length := by omega
      have hlt := nd_part hno hjl
      have hL := n5 j hjl
      have hL2 := (hg.2.2.2.1 ((nodeAt g i).2.2.getD j 0) (by omega)).2.2.2.1
      have hp1 := hlp j (by omega)
      have hl1 := lts_lt hN hgo ((nodeAt g i).2.2.getD j 0) (by omega)
      have hand : ltP (lts g) (nodeAt g i).2.2 0 j &&& lts g ((nodeAt g i).2.2.getD j 0) < 2 ^ 31 := Nat.lt_of_le_of_lt Nat.and_le_left (by omega)
      have ihn := ih (j + 1)
      rw [aw_iload_3 (pc2 := 5) D28_4 rfl]
      simp (disch := omega) only [aw_aload_0 (pc2 := 6) D28_5 rfl, aw_getR (pc2 := 9) (ci := 1) (fk := 2) D28_6 rfl fT_1_18 rfl, aw_iload_1 (pc2 := 10) D28_9 rfl, aw_iaload (pc2 := 11) D28_10 rfl, aw_icmp_ge (pc2 := 14) (t := 42) D28_11 (by decide) rfl, aw_aload_0 (pc2 := 15) D28_14 rfl, aw_iload_1 (pc2 := 16) D28_15 rfl, aw_iload_3 (pc2 := 17) D28_16 rfl, aw_iv2_0 (pc2 := 20) (o := 1) D28_17 rfl cT_1_74 rfl rfl, aw_istore_4 (pc2 := 22) D28_20 rfl, aw_iload_2 (pc2 := 23) D28_22 rfl, aw_iload_4 (pc2 := 25) D28_23 rfl, aw_iand (pc2 := 26) D28_25 rfl, aw_if_eq (pc2 := 29) (t := 31) D28_26 (by decide) rfl, refV_s, refV_n, psh_s, psh_n, kil_i, kil_r, kil_n, kil_l, cat_i, cat_r, iOK_1, iOK_5, jOK_2, jOK_6, wOK_e, lOK_1, lOK_2, lOK_3, lOK_4, lOK_5, lOK_6, catS_0, catS_1, catS_2, catS_3, catS_4, and_self, true_and, and_true, true_or, or_true, false_or, or_false, not_true_eq_false, not_false_eq_true, if_true, if_false, ite_int, ite_int0, au_10, eq_self, decide_true, decide_false, Bool.true_and, Bool.false_and, au_in, au_le, au_lt, au_eq, au_lt0, au_ge0, au_le0, au_gt0, au_eq0, au_leT, au_leF, au_ltT, au_ltF, au_eqT, au_eqF, nI_clamp, nI_1, nI_add, pk_mul, au_sub1, au_subc, au_up2e, au_up2n, lit_of, hB.1.1, hB.1.2.1, hB.1.2.2.1, hB.1.2.2.2.1, hB.1.2.2.2.2.1, hB.1.2.2.2.2.2.1, hB.1.2.2.2.2.2.2.1, hB.1.2.2.2.2.2.2.2.1, hB.1.2.2.2.2.2.2.2.2.1, hB.1.2.2.2.2.2.2.2.2.2.1, hB.1.2.2.2.2.2.2.2.2.2.2.1, hB.1.2.2.2.2.2.2.2.2.2.2.2.1, hB.1.2.2.2.2.2.2.2.2.2.2.2.2.1, hB.1.2.2.2.2.2.2.2.2.2.2.2.2.2, hB.2.1, hB.2.2.1, hB.2.2.2.1, hB.2.2.2.2.1, hB.2.2.2.2.2.1, hB.2.2.2.2.2.2.1, hB.2.2.2.2.2.2.2.1, hB.2.2.2.2.2.2.2.2.1, hB.2.2.2.2.2.2.2.2.2.1, hB.2.2.2.2.2.2.2.2.2.2.1, hB.2.2.2.2.2.2.2.2.2.2.2.1, hB.2.2.2.2.2.2.2.2.2.2.2.2.1, hB.2.2.2.2.2.2.2.2.2.2.2.2.2, n3, hv, C_lettersOfPart hB hg.1 h15 hi n3 hjl hl12 hL (show (nodeAt g i).2.2.getD j 0 < g.1.length by omega) hL2, fa_and]
      by_cases hz : ltP (lts g) (nodeAt g i).2.2 0 j &&& lts g ((nodeAt g i).2.2.getD j 0) = 0
      · rw [if_pos hz]
        simp (disch := omega) only [aw_iload_2 (pc2 := 32) D28_31 rfl, aw_iload_4 (pc2 := 34) D28_32 rfl, aw_ior (pc2 := 35) D28_34 rfl, aw_istore_2 (pc2 := 36) D28_35 rfl, aw_iinc_3 (pc2 := 39) (y := 1) D28_36 rfl (by decide), aw_goto (t := 4) D28_39 (by decide), refV_s, refV_n, psh_s, psh_n, kil_i, kil_r, kil_n, kil_l, cat_i, cat_r, iOK_1, iOK_5, jOK_2, jOK_6, wOK_e, lOK_1, lOK_2, lOK_3, lOK_4, lOK_5, lOK_6, catS_0, catS_1, catS_2, catS_3, catS_4, and_self, true_and, and_true, true_or, or_true, false_or, or_false, not_true_eq_false, not_false_eq_true, if_true, if_false, ite_int, ite_int0, au_10, eq_self, decide_true, decide_false, Bool.true_and, Bool.false_and, au_in, au_le, au_lt, au_eq, au_lt0, au_ge0, au_le0, au_gt0, au_eq0, au_leT, au_leF, au_ltT, au_ltF, au_eqT, au_eqF, nI_clamp, nI_1, nI_add, pk_mul, au_sub1, au_subc, au_up2e, au_up2n, lit_of, fa_or]
        exact ihn _ (by omega) rfl (by rw [shB, hsh, decide_eq_false (fun q => q hz)]; rfl)
      · rw [if_neg hz]
        have hall : ∀ m, j + 1 ≤ m → shB (lts g) (nodeAt g i).2.2 m = true := by
          intro m
          induction m with
          | zero => intro q; omega
          | succ m ihm =>
            intro q
            rw [shB]
            by_cases e : j = m
            · subst e; rw [decide_eq_true hz, Bool.or_true]
            · rw [ihm (by omega), Bool.true_or]
        rw [hall _ (by omega)]
        simp (disch := omega) only [aw_iconst (pc2 := 30) (y := 1) D28_29 rfl (by decide), aw_zret D28_30 rfl, refV_s, refV_n, psh_s, psh_n, kil_i, kil_r, kil_n, kil_l, cat_i, cat_r, iOK_1, iOK_5, jOK_2, jOK_6, wOK_e, lOK_1, lOK_2, lOK_3, lOK_4, lOK_5, lOK_6, catS_0, catS_1, catS_2, catS_3, catS_4, and_self, true_and, and_true, true_or, or_true, false_or, or_false, not_true_eq_false, not_false_eq_true, if_true, if_false, ite_int, ite_int0, au_10, eq_self, decide_true, decide_false, Bool.true_and, Bool.false_and, au_in, au_le, au_lt, au_eq, au_lt0, au_ge0, au_le0, au_gt0, au_eq0, au_leT, au_leF, au_ltT, au_ltF, au_eqT, au_eqF, nI_clamp, nI_1, nI_add, pk_mul, au_sub1, au_subc, au_up2e, au_up2n, lit_of]
        exact Iff.rfl
  exact key (nodeAt g i).2.2.length 0 nv (by omega) rfl rfl
theorem C_leastSharingBoth {g : GR} (hB : BF Ln B) (hN : N ≤ 12) (hgo : grOK N g) (hg : CG B N g I J) : ACall (d + 5) 27 [.ref (B + 3)] (G0 Ln) I J K ↔ K (some (.int (scan (J1 g) g.1.length 0))) (G0 Ln) I J := by
  rw [ACall_0 (L0 := [.ref (B + 3), nv]) (show mcs 27 = (0, 0) from rfl) (show entL 27 [.ref (B + 3)] = _ from rfl) rfl (Nat.le_of_ble_eq_true rfl)]
  have h15 := hgo.2.1
  simp only [aw_iconst (pc2 := 1) (y := 0) D27_0 rfl (by decide), aw_istore_1 (pc2 := 2) D27_1 rfl, lit_3, refV_s, refV_n, psh_s, psh_n, kil_i, kil_r, kil_n, kil_l, cat_i, cat_r, iOK_1, iOK_5, jOK_2, jOK_6, wOK_e, lOK_1, lOK_2, lOK_3, lOK_4, lOK_5, lOK_6, catS_0, catS_1, catS_2, catS_3, catS_4, and_self, true_and, and_true, true_or, or_true, false_or, or_false, not_true_eq_false, not_false_eq_true, if_true, if_false, ite_int, ite_int0, au_10, eq_self, decide_true, decide_false, Bool.true_and, Bool.false_and]
  have key : ∀ n i, i + n = g.1.length → (AW (d + 4) ((G0 Ln).1, (G0 Ln).2.1) K 27 2 [.ref (B + 3), .int (nI i)] [] (G0 Ln) I J ↔ K (some (.int (scan (J1 g) n i))) (G0 Ln) I J) := by
    intro n
    induction n with
    | zero =>
      intro i hi
      have e : i = g.1.length := by omega
      subst e
      simp (disch := omega) only [aw_iload_1 (pc2 := 3) D27_2 rfl, aw_aload_0 (pc2 := 4) D27_3 rfl, aw_getI (pc2 := 7) (ci := 1) (fk := 8) D27_4 rfl fT_1_42 rfl, aw_icmp_ge (pc2 := 10) (t := 36) D27_7 (by decide) rfl, aw_iconst (pc2 := 37) (y := -1) D27_36 rfl (by decide), aw_iret D27_37 rfl, lit_3, refV_s, refV_n, psh_s, psh_n, kil_i, kil_r, kil_n, kil_l, cat_i, cat_r, iOK_1, iOK_5, jOK_2, jOK_6, wOK_e, lOK_1, lOK_2, lOK_3, lOK_4, lOK_5, lOK_6, catS_0, catS_1, catS_2, catS_3, catS_4, and_self, true_and, and_true, true_or, or_true, false_or, or_false, not_true_eq_false, not_false_eq_true, if_true, if_false, ite_int, ite_int0, au_10, eq_self, decide_true, decide_false, Bool.true_and, Bool.false_and, au_in, au_le, au_lt, au_eq, au_lt0, au_ge0, au_le0, au_gt0, au_eq0, au_leT, au_leF, au_ltT, au_ltF, au_eqT, au_eqF, nI_clamp, nI_1, nI_add, pk_mul, au_sub1, au_subc, au_up2e, au_up2n, lit_of, hB.1.1, hB.1.2.1, hB.1.2.2.1, hB.1.2.2.2.1, hB.1.2.2.2.2.1, hB.1.2.2.2.2.2.1, hB.1.2.2.2.2.2.2.1, hB.1.2.2.2.2.2.2.2.1, hB.1.2.2.2.2.2.2.2.2.1, hB.1.2.2.2.2.2.2.2.2.2.1, hB.1.2.2.2.2.2.2.2.2.2.2.1, hB.1.2.2.2.2.2.2.2.2.2.2.2.1, hB.1.2.2.2.2.2.2.2.2.2.2.2.2.1, hB.1.2.2.2.2.2.2.2.2.2.2.2.2.2, hB.2.1, hB.2.2.1, hB.2.2.2.1, hB.2.2.2.2.1, hB.2.2.2.2.2.1, hB.2.2.2.2.2.2.1, hB.2.2.2.2.2.2.2.1, hB.2.2.2.2.2.2.2.2.1, hB.2.2.2.2.2.2.2.2.2.1, hB.2.2.2.2.2.2.2.2.2.2.1, hB.2.2.2.2.2.2.2.2.2.2.2.1, hB.2.2.2.2.2.2.2.2.2.2.2.2.1, hB.2.2.2.2.2.2.2.2.2.2.2.2.2, hg.1]
      exact Iff.rfl
    | succ n ih =>
      intro i hi
      have hil : i < g.1.length := by omega
      have ihn := ih (i + 1) (by omega)
      obtain ⟨n1, n2, n3, n4, n5⟩ := hg.2.2.2.1 i hil
      have hkd := (nd_kind (node_ok hgo hil)).2
      rw [aw_iload_1 (pc2 := 3) D27_2 rfl, scan]
      simp (disch := omega) only [aw_aload_0 (pc2 := 4) D27_3 rfl, aw_getI (pc2 := 7) (ci := 1) (fk := 8) D27_4 rfl fT_1_42 rfl, aw_icmp_ge (pc2 := 10) (t := 36) D27_7 (by decide) rfl, aw_aload_0 (pc2 := 11) D27_10 rfl, aw_getR (pc2 := 14) (ci := 1) (fk := 0) D27_11 rfl fT_1_9 rfl, aw_iload_1 (pc2 := 15) D27_14 rfl, aw_iaload (pc2 := 16) D27_15 rfl, aw_iconst (pc2 := 17) (y := 3) D27_16 rfl (by decide), aw_icmp_ne (pc2 := 20) (t := 30) D27_17 (by decide) rfl, lit_3, refV_s, refV_n, psh_s, psh_n, kil_i, kil_r, kil_n, kil_l, cat_i, cat_r, iOK_1, iOK_5, jOK_2, jOK_6, wOK_e, lOK_1, lOK_2, lOK_3, lOK_4, lOK_5, lOK_6, catS_0, catS_1, catS_2, catS_3, catS_4, and_self, true_and, and_true, true_or, or_true, false_or, or_false, not_true_eq_false, not_false_eq_true, if_true, if_false, ite_int, ite_int0, au_10, eq_self, decide_true, decide_false, Bool.true_and, Bool.false_and, au_in, au_le, au_lt, au_eq, au_lt0, au_ge0, au_le0, au_gt0, au_eq0, au_leT, au_leF, au_ltT, au_ltF, au_eqT, au_eqF, nI_clamp, nI_1, nI_add, pk_mul, au_sub1, au_subc, au_up2e, au_up2n, lit_of, hB.1.1, hB.1.2.1, hB.1.2.2.1, hB.1.2.2.2.1, hB.1.2.2.2.2.1, hB.1.2.2.2.2.2.1, hB.1.2.2.2.2.2.2.1, hB.1.2.2.2.2.2.2.2.1, hB.1.2.2.2.2.2.2.2.2.1, hB.1.2.2.2.2.2.2.2.2.2.1, hB.1.2.2.2.2.2.2.2.2.2.2.1, hB.1.2.2.2.2.2.2.2.2.2.2.2.1, hB.1.2.2.2.2.2.2.2.2.2.2.2.2.1, hB.1.2.2.2.2.2.2.2.2.2.2.2.2.2, hB.2.1, hB.2.2.1, hB.2.2.2.1, hB.2.2.2.2.1, hB.2.2.2.2.2.1, hB.2.2.2.2.2.2.1, hB.2.2.2.2.2.2.2.1, hB.2.2.2.2.2.2.2.2.1, hB.2.2.2.2.2.2.2.2.2.1, hB.2.2.2.2.2.2.2.2.2.2.1, hB.2.2.2.2.2.2.2.2.2.2.2.1, hB.2.2.2.2.2.2.2.2.2.2.2.2.1, hB.2.2.2.2.2.2.2.2.2.2.2.2.2, hg.1, n1]
      by_cases h3 : (nodeAt g i).1 = 3
      · rw [if_neg (fun q => q h3)]
        simp (disch := omega) only [aw_aload_0 (pc2 := 21) D27_20 rfl, aw_iload_1 (pc2 := 22) D27_21 rfl, aw_iv1_0 (pc2 := 25) (o := 1) D27_22 rfl cT_1_81 rfl rfl, aw_if_eq (pc2 := 28) (t := 30) D27_25 (by decide) rfl, lit_3, refV_s, refV_n, psh_s, psh_n, kil_i, kil_r, kil_n, kil_l, cat_i, cat_r, iOK_1, iOK_5, jOK_2, jOK_6, wOK_e, lOK_1, lOK_2, lOK_3, lOK_4, lOK_5, lOK_6, catS_0, catS_1, catS_2, catS_3, catS_4, and_self, true_and, and_true, true_or, or_true, false_or, or_false, not_true_eq_false, not_false_eq_true, if_true, if_false, ite_int, ite_int0, au_10, eq_self, decide_true, decide_false, Bool.true_and, Bool.false_and, au_in, au_le, au_lt, au_eq, au_lt0, au_ge0, au_le0, au_gt0, au_eq0, au_leT, au_leF, au_ltT, au_ltF, au_eqT, au_eqF, nI_clamp, nI_1, nI_add, pk_mul, au_sub1, au_subc, au_up2e, au_up2n, lit_of, hB.1.1, hB.1.2.1, hB.1.2.2.1, hB.1.2.2.2.1, hB.1.2.2.2.2.1, hB.1.2.2.2.2.2.1, hB.1.2.2.2.2.2.2.1, hB.1.2.2.2.2.2.2.2.1, hB.1.2.2.2.2.2.2.2.2.1, hB.1.2.2.2.2.2.2.2.2.2.1, hB.1.2.2.2.2.2.2.2.2.2.2.1, hB.1.2.2.2.2.2.2.2.2.2.2.2.1, hB.1.2.2.2.2.2.2.2.2.2.2.2.2.1, hB.1.2.2.2.2.2.2.2.2.2.2.2.2.2, hB.2.1, hB.2.2.1, hB.2.2.2.1, hB.2.2.2.2.1, hB.2.2.2.2.2.1, hB.2.2.2.2.2.2.1, hB.2.2.2.2.2.2.2.1, hB.2.2.2.2.2.2.2.2.1, hB.2.2.2.2.2.2.2.2.2.1, hB.2.2.2.2.2.2.2.2.2.2.1, hB.2.2.2.2.2.2.2.2.2.2.2.1, hB.2.2.2.2.2.2.2.2.2.2.2.2.1, hB.2.2.2.2.2.2.2.2.2.2.2.2.2, C_partsShare hB hN hgo hg hil, bI_0]
        cases t : shB (lts g) (nodeAt g i).2.2 (nodeAt g i).2.2.length
        · rw [if_pos rfl, if_neg (by unfold J1; rw [t]; simp)]
          simp (disch := omega) only [aw_iinc_1 (pc2 := 33) (y := 1) D27_30 rfl (by decide), aw_goto (t := 2) D27_33 (by decide), lit_3, refV_s, refV_n, psh_s, psh_n, kil_i, kil_r, kil_n, kil_l, cat_i, cat_r, iOK_1, iOK_5, jOK_2, jOK_6, wOK_e, lOK_1, lOK_2, lOK_3, lOK_4, lOK_5, lOK_6, catS_0, catS_1, catS_2, catS_3, catS_4, and_self, true_and, and_true, true_or, or_true, false_or, or_false, not_true_eq_false, not_false_eq_true, if_true, if_false, ite_int, ite_int0, au_10, eq_self, decide_true, decide_false, Bool.true_and, Bool.false_and, au_in, au_le, au_lt, au_eq, au_lt0, au_ge0, au_le0, au_gt0, au_eq0, au_leT, au_leF, au_ltT, au_ltF, au_eqT, au_eqF, nI_clamp, nI_1, nI_add, pk_mul, au_sub1, au_subc, au_up2e, au_up2n, lit_of]
          exact ihn
        · rw [if_neg (by decide), if_pos (by unfold J1; rw [t, decide_eq_true h3]; rfl)]
          simp (disch := omega) only [aw_iload_1 (pc2 := 29) D27_28 rfl, aw_iret D27_29 rfl, lit_3, refV_s, refV_n, psh_s, psh_n, kil_i, kil_r, kil_n, kil_l, cat_i, cat_r, iOK_1, iOK_5, jOK_2, jOK_6, wOK_e, lOK_1, lOK_2, lOK_3, lOK_4, lOK_5, lOK_6, catS_0, catS_1, catS_2, catS_3, catS_4, and_self, true_and, and_true, true_or, or_true, false_or, or_false, not_true_eq_false, not_false_eq_true, if_true, if_false, ite_int, ite_int0, au_10, eq_self, decide_true, decide_false, Bool.true_and, Bool.false_and, au_in, au_le, au_lt, au_eq, au_lt0, au_ge0, au_le0, au_gt0, au_eq0, au_leT, au_leF, au_ltT, au_ltF, au_eqT, au_eqF, nI_clamp, nI_1, nI_add, pk_mul, au_sub1, au_subc, au_up2e, au_up2n, lit_of]
      · rw [if_pos h3, if_neg (by unfold J1; rw [decide_eq_false h3]; simp)]
        simp (disch := omega) only [aw_iinc_1 (pc2 := 33) (y := 1) D27_30 rfl (by decide), aw_goto (t := 2) D27_33 (by decide), lit_3, refV_s, refV_n, psh_s, psh_n, kil_i, kil_r, kil_n, kil_l, cat_i, cat_r, iOK_1, iOK_5, jOK_2, jOK_6, wOK_e, lOK_1, lOK_2, lOK_3, lOK_4, lOK_5, lOK_6, catS_0, catS_1, catS_2, catS_3, catS_4, and_self, true_and, and_true, true_or, or_true, false_or, or_false, not_true_eq_false, not_false_eq_true, if_true, if_false, ite_int, ite_int0, au_10, eq_self, decide_true, decide_false, Bool.true_and, Bool.false_and, au_in, au_le, au_lt, au_eq, au_lt0, au_ge0, au_le0, au_gt0, au_eq0, au_leT, au_leF, au_ltT, au_ltF, au_eqT, au_eqF, nI_clamp, nI_1, nI_add, pk_mul, au_sub1, au_subc, au_up2e, au_up2n, lit_of]
        exact ihn
  exact key g.1.length 0 (by omega)
theorem C_leastRepeatingChoice {g : GR} (hB : BF Ln B) (hN : N ≤ 12) (hgo : grOK N g) (hg : CG B N g I J) : ACall (d + 4) 29 [.ref (B + 3)] (G0 Ln) I J K ↔ K (some (.int (scan (J2 g) g.1.length 0))) (G0 Ln) I J := by
  rw [ACall_0 (L0 := [.ref (B + 3), nv, nv]) (show mcs 29 = (0, 0) from rfl) (show entL 29 [.ref (B + 3)] = _ from rfl) rfl (Nat.le_of_ble_eq_true rfl)]
  have h15 := hgo.2.1
  have z0 : (0 : Int32) = nI 0 := rfl
  have z1 : (1 : Int32) = nI 1 := rfl
  simp only [aw_iconst (pc2 := 1) (y := 0) D29_0 rfl (by decide), aw_istore_1 (pc2 := 2) D29_1 rfl, lit_4, lit_2, refV_s, refV_n, psh_s, psh_n, kil_i, kil_r, kil_n, kil_l, cat_i, cat_r, iOK_1, iOK_5, jOK_2, jOK_6, wOK_e, lOK_1, lOK_2, lOK_3, lOK_4, lOK_5, lOK_6, catS_0, catS_1, catS_2, catS_3, catS_4, and_self, true_and, and_true, true_or, or_true, false_or, or_false, not_true_eq_false, not_false_eq_true, if_true, if_false, ite_int, ite_int0, au_10, eq_self, decide_true, decide_false, Bool.true_and, Bool.false_and]
  have key : ∀ n i v, i + n = g.1.length → kil v = v → (AW (d + 3) ((G0 Ln).1, (G0 Ln).2.1) K 29 2 [.ref (B + 3), .int (nI i), v] [] (G0 Ln) I J ↔ K (some (.int (scan (J2 g) n i))) (G0 Ln) I J) := by
    intro n
    induction n with
    | zero =>
      intro i v hi hv
      have e : i = g.1.length := by omega
      subst e
      simp (disch := omega) only [aw_iload_1 (pc2 := 3) D29_2 rfl, aw_aload_0 (pc2 := 4) D29_3 rfl, aw_getI (pc2 := 7) (ci := 1) (fk := 8) D29_4 rfl fT_1_42 rfl, aw_icmp_ge (pc2 := 10) (t := 66) D29_7 (by decide) rfl, aw_iconst (pc2 := 67) (y := -1) D29_66 rfl (by decide), aw_iret D29_67 rfl, lit_4, lit_2, refV_s, refV_n, psh_s, psh_n, kil_i, kil_r, kil_n, kil_l, cat_i, cat_r, iOK_1, iOK_5, jOK_2, jOK_6, wOK_e, lOK_1, lOK_2, lOK_3, lOK_4, lOK_5, lOK_6, catS_0, catS_1, catS_2, catS_3, catS_4, and_self, true_and, and_true, true_or, or_true, false_or, or_false, not_true_eq_false, not_false_eq_true, if_true, if_false, ite_int, ite_int0, au_10, eq_self, decide_true, decide_false, Bool.true_and, Bool.false_and, au_in, au_le, au_lt, au_eq, au_lt0, au_ge0, au_le0, au_gt0, au_eq0, au_leT, au_leF, au_ltT, au_ltF, au_eqT, au_eqF, nI_clamp, nI_1, nI_add, pk_mul, au_sub1, au_subc, au_up2e, au_up2n, lit_of, hB.1.1, hB.1.2.1, hB.1.2.2.1, hB.1.2.2.2.1, hB.1.2.2.2.2.1, hB.1.2.2.2.2.2.1, hB.1.2.2.2.2.2.2.1, hB.1.2.2.2.2.2.2.2.1, hB.1.2.2.2.2.2.2.2.2.1, hB.1.2.2.2.2.2.2.2.2.2.1, hB.1.2.2.2.2.2.2.2.2.2.2.1, hB.1.2.2.2.2.2.2.2.2.2.2.2.1, hB.1.2.2.2.2.2.2.2.2.2.2.2.2.1, hB.1.2.2.2.2.2.2.2.2.2.2.2.2.2, hB.2.1, hB.2.2.1, hB.2.2.2.1, hB.2.2.2.2.1, hB.2.2.2.2.2.1, hB.2.2.2.2.2.2.1, hB.2.2.2.2.2.2.2.1, hB.2.2.2.2.2.2.2.2.1, hB.2.2.2.2.2.2.2.2.2.1, hB.2.2.2.2.2.2.2.2.2.2.1, hB.2.2.2.2.2.2.2.2.2.2.2.1, hB.2.2.2.2.2.2.2.2.2.2.2.2.1, hB.2.2.2.2.2.2.2.2.2.2.2.2.2, hg.1]
      exact Iff.rfl
    | succ n ih =>
      intro i v hi hv
      have hil : i < g.1.length := by omega
      have ihn := ih (i + 1)
      obtain ⟨n1, n2, n3, n4, n5⟩ := hg.2.2.2.1 i hil
      have hno := node_ok hgo hil
      have hkd := (nd_kind hno).2
      rw [aw_iload_1 (pc2 := 3) D29_2 rfl, scan]
      simp (disch := omega) only [aw_aload_0 (pc2 := 4) D29_3 rfl, aw_getI (pc2 := 7) (ci := 1) (fk := 8) D29_4 rfl fT_1_42 rfl, aw_icmp_ge (pc2 := 10) (t := 66) D29_7 (by decide) rfl, aw_aload_0 (pc2 := 11) D29_10 rfl, aw_getR (pc2 := 14) (ci := 1) (fk := 0) D29_11 rfl fT_1_9 rfl, aw_iload_1 (pc2 := 15) D29_14 rfl, aw_iaload (pc2 := 16) D29_15 rfl, aw_iconst (pc2 := 17) (y := 4) D29_16 rfl (by decide), aw_icmp_ne (pc2 := 20) (t := 60) D29_17 (by decide) rfl, lit_4, lit_2, refV_s, refV_n, psh_s, psh_n, kil_i, kil_r, kil_n, kil_l, cat_i, cat_r, iOK_1, iOK_5, jOK_2, jOK_6, wOK_e, lOK_1, lOK_2, lOK_3, lOK_4, lOK_5, lOK_6, catS_0, catS_1, catS_2, catS_3, catS_4, and_self, true_and, and_true, true_or, or_true, false_or, or_false, not_true_eq_false, not_false_eq_true, if_true, if_false, ite_int, ite_int0, au_10, eq_self, decide_true, decide_false, Bool.true_and, Bool.false_and, au_in, au_le, au_lt, au_eq, au_lt0, au_ge0, au_le0, au_gt0, au_eq0, au_leT, au_leF, au_ltT, au_ltF, au_eqT, au_eqF, nI_clamp, nI_1, nI_add, pk_mul, au_sub1, au_subc, au_up2e, au_up2n, lit_of, hB.1.1, hB.1.2.1, hB.1.2.2.1, hB.1.2.2.2.1, hB.1.2.2.2.2.1, hB.1.2.2.2.2.2.1, hB.1.2.2.2.2.2.2.1, hB.1.2.2.2.2.2.2.2.1, hB.1.2.2.2.2.2.2.2.2.1, hB.1.2.2.2.2.2.2.2.2.2.1, hB.1.2.2.2.2.2.2.2.2.2.2.1, hB.1.2.2.2.2.2.2.2.2.2.2.2.1, hB.1.2.2.2.2.2.2.2.2.2.2.2.2.1, hB.1.2.2.2.2.2.2.2.2.2.2.2.2.2, hB.2.1, hB.2.2.1, hB.2.2.2.1, hB.2.2.2.2.1, hB.2.2.2.2.2.1, hB.2.2.2.2.2.2.1, hB.2.2.2.2.2.2.2.1, hB.2.2.2.2.2.2.2.2.1, hB.2.2.2.2.2.2.2.2.2.1, hB.2.2.2.2.2.2.2.2.2.2.1, hB.2.2.2.2.2.2.2.2.2.2.2.1, hB.2.2.2.2.2.2.2.2.2.2.2.2.1, hB.2.2.2.2.2.2.2.2.2.2.2.2.2, hg.1, n1]
      by_cases h4 : (nodeAt g i).1 = 4
      · rw [if_neg (fun q => q h4)]
        have hs : 1 ≤ (nodeAt g i).2.1 ∧ (nodeAt g i).2.1 ≤ N ∧ (nodeAt g i).2.2.length = 2 := by
          rcases hno.2 with z | z | z | z
          · omega
          · omega
          · omega
          · exact ⟨z.2.1, z.2.2.1, z.2.2.2⟩
        have l0 := nd_part hno (show 0 < (nodeAt g i).2.2.length by omega)
        have l1 := nd_part hno (show 1 < (nodeAt g i).2.2.length by omega)
        have m0 := n5 0 (by omega)
        have m1 := n5 1 (by omega)
        have k0 := (hg.2.2.2.1 _ (show (nodeAt g i).2.2.getD 0 0 < g.1.length by omega)).2.2.2.1
        have k1 := (hg.2.2.2.1 _ (show (nodeAt g i).2.2.getD 1 0 < g.1.length by omega)).2.2.2.1
        have p0' : ∀ {K' : KT}, ACall (d + 3) 205 [.ref (B + 3), .int (nI i), .int 0] (G0 Ln) I J K' ↔ K' (some (.int (nI (lts g ((nodeAt g i).2.2.getD 0 0))))) (G0 Ln) I J := fun {K'} => C_lettersOfPart (d := d) (J := J) (K := K') hB hg.1 h15 hil n3 (show 0 < (nodeAt g i).2.2.length by omega) (by omega) m0 (show (nodeAt g i).2.2.getD 0 0 < g.1.length by omega) k0
        have p1' : ∀ {K' : KT}, ACall (d + 3) 205 [.ref (B + 3), .int (nI i), .int 1] (G0 Ln) I J K' ↔ K' (some (.int (nI (lts g ((nodeAt g i).2.2.getD 1 0))))) (G0 Ln) I J := fun {K'} => C_lettersOfPart (d := d) (J := J) (K := K') hB hg.1 h15 hil n3 (show 1 < (nodeAt g i).2.2.length by omega) (by omega) m1 (show (nodeAt g i).2.2.getD 1 0 < g.1.length by omega) k1
        obtain ⟨t, ht⟩ : ∃ t : Nat, (nodeAt g i).2.1 = (t : Int) + 1 := ⟨((nodeAt g i).2.1 - 1).toNat, by omega⟩
        have hn2 : I (B + 5) i = iI ((t : Int) + 1) := by rw [n2, ht]
        have htt : (nodeAt g i).2.1.toNat - 1 = t := by omega
        simp (disch := omega) only [aw_aload_0 (pc2 := 21) D29_20 rfl, aw_getR (pc2 := 24) (ci := 1) (fk := 2) D29_21 rfl fT_1_18 rfl, aw_iload_1 (pc2 := 25) D29_24 rfl, aw_iaload (pc2 := 26) D29_25 rfl, aw_iconst (pc2 := 27) (y := 2) D29_26 rfl (by decide), aw_icmp_ne (pc2 := 30) (t := 60) D29_27 (by decide) rfl, aw_aload_0 (pc2 := 31) D29_30 rfl, aw_iload_1 (pc2 := 32) D29_31 rfl, aw_iconst (pc2 := 33) (y := 0) D29_32 rfl (by decide), aw_iv2_0 (pc2 := 36) (o := 1) D29_33 rfl cT_1_74 rfl rfl, aw_aload_0 (pc2 := 37) D29_36 rfl, aw_iload_1 (pc2 := 38) D29_37 rfl, aw_iconst (pc2 := 39) (y := 1) D29_38 rfl (by decide), aw_iv2_0 (pc2 := 42) (o := 1) D29_39 rfl cT_1_74 rfl rfl, aw_ior (pc2 := 43) D29_42 rfl, aw_istore_2 (pc2 := 44) D29_43 rfl, aw_iload_2 (pc2 := 45) D29_44 rfl, aw_aload_0 (pc2 := 46) D29_45 rfl, aw_getR (pc2 := 49) (ci := 1) (fk := 1) D29_46 rfl fT_1_15 rfl, aw_iload_1 (pc2 := 50) D29_49 rfl, aw_iaload (pc2 := 51) D29_50 rfl, aw_is1_3 (pc2 := 54) D29_51 rfl cT_1_67 rfl, aw_iand (pc2 := 55) D29_54 rfl, aw_if_eq (pc2 := 58) (t := 60) D29_55 (by decide) rfl, lit_4, lit_2, refV_s, refV_n, psh_s, psh_n, kil_i, kil_r, kil_n, kil_l, cat_i, cat_r, iOK_1, iOK_5, jOK_2, jOK_6, wOK_e, lOK_1, lOK_2, lOK_3, lOK_4, lOK_5, lOK_6, catS_0, catS_1, catS_2, catS_3, catS_4, and_self, true_and, and_true, true_or, or_true, false_or, or_false, not_true_eq_false, not_false_eq_true, if_true, if_false, ite_int, ite_int0, au_10, eq_self, decide_true, decide_false, Bool.true_and, Bool.false_and, au_in, au_le, au_lt, au_eq, au_lt0, au_ge0, au_le0, au_gt0, au_eq0, au_leT, au_leF, au_ltT, au_ltF, au_eqT, au_eqF, nI_clamp, nI_1, nI_add, pk_mul, au_sub1, au_subc, au_up2e, au_up2n, lit_of, hB.1.1, hB.1.2.1, hB.1.2.2.1, hB.1.2.2.2.1, hB.1.2.2.2.2.1, hB.1.2.2.2.2.2.1, hB.1.2.2.2.2.2.2.1, hB.1.2.2.2.2.2.2.2.1, hB.1.2.2.2.2.2.2.2.2.1, hB.1.2.2.2.2.2.2.2.2.2.1, hB.1.2.2.2.2.2.2.2.2.2.2.1, hB.1.2.2.2.2.2.2.2.2.2.2.2.1, hB.1.2.2.2.2.2.2.2.2.2.2.2.2.1, hB.1.2.2.2.2.2.2.2.2.2.2.2.2.2, hB.2.1, hB.2.2.1, hB.2.2.2.1, hB.2.2.2.2.1, hB.2.2.2.2.2.1, hB.2.2.2.2.2.2.1, hB.2.2.2.2.2.2.2.1, hB.2.2.2.2.2.2.2.2.1, hB.2.2.2.2.2.2.2.2.2.1, hB.2.2.2.2.2.2.2.2.2.2.1, hB.2.2.2.2.2.2.2.2.2.2.2.1, hB.2.2.2.2.2.2.2.2.2.2.2.2.1, hB.2.2.2.2.2.2.2.2.2.2.2.2.2, n3, hs.2.2, p0', p1', hn2, hv, fa_or, C_bitOf, bitC_pos t (by omega), bit_test (show t < 31 by omega)]
        have ej : J2 g i = (lts g ((nodeAt g i).2.2.getD 0 0) ||| lts g ((nodeAt g i).2.2.getD 1 0)).testBit t := by
          unfold J2
          rw [decide_eq_true h4, Bool.true_and, htt]
          show ((0 ||| lts g ((nodeAt g i).2.2.getD 0 0)) ||| lts g ((nodeAt g i).2.2.getD 1 0)).testBit t = _
          rw [Nat.zero_or]
        rw [ej]
        cases u : (lts g ((nodeAt g i).2.2.getD 0 0) ||| lts g ((nodeAt g i).2.2.getD 1 0)).testBit t
        · rw [if_pos rfl, if_neg (by decide)]
          simp (disch := omega) only [aw_iinc_1 (pc2 := 63) (y := 1) D29_60 rfl (by decide), aw_goto (t := 2) D29_63 (by decide), lit_4, lit_2, refV_s, refV_n, psh_s, psh_n, kil_i, kil_r, kil_n, kil_l, cat_i, cat_r, iOK_1, iOK_5, jOK_2, jOK_6, wOK_e, lOK_1, lOK_2, lOK_3, lOK_4, lOK_5, lOK_6, catS_0, catS_1, catS_2, catS_3, catS_4, and_self, true_and, and_true, true_or, or_true, false_or, or_false, not_true_eq_false, not_false_eq_true, if_true, if_false, ite_int, ite_int0, au_10, eq_self, decide_true, decide_false, Bool.true_and, Bool.false_and, au_in, au_le, au_lt, au_eq, au_lt0, au_ge0, au_le0, au_gt0, au_eq0, au_leT, au_leF, au_ltT, au_ltF, au_eqT, au_eqF, nI_clamp, nI_1, nI_add, pk_mul, au_sub1, au_subc, au_up2e, au_up2n, lit_of]
          exact ihn _ (by omega) rfl
        · rw [if_neg (by decide), if_pos rfl]
          simp (disch := omega) only [aw_iload_1 (pc2 := 59) D29_58 rfl, aw_iret D29_59 rfl, lit_4, lit_2, refV_s, refV_n, psh_s, psh_n, kil_i, kil_r, kil_n, kil_l, cat_i, cat_r, iOK_1, iOK_5, jOK_2, jOK_6, wOK_e, lOK_1, lOK_2, lOK_3, lOK_4, lOK_5, lOK_6, catS_0, catS_1, catS_2, catS_3, catS_4, and_self, true_and, and_true, true_or, or_true, false_or, or_false, not_true_eq_false, not_false_eq_true, if_true, if_false, ite_int, ite_int0, au_10, eq_self, decide_true, decide_false, Bool.true_and, Bool.false_and, au_in, au_le, au_lt, au_eq, au_lt0, au_ge0, au_le0, au_gt0, au_eq0, au_leT, au_leF, au_ltT, au_ltF, au_eqT, au_eqF, nI_clamp, nI_1, nI_add, pk_mul, au_sub1, au_subc, au_up2e, au_up2n, lit_of]
      · rw [if_pos h4, if_neg (by unfold J2; rw [decide_eq_false h4]; simp)]
        simp (disch := omega) only [aw_iinc_1 (pc2 := 63) (y := 1) D29_60 rfl (by decide), aw_goto (t := 2) D29_63 (by decide), lit_4, lit_2, refV_s, refV_n, psh_s, psh_n, kil_i, kil_r, kil_n, kil_l, cat_i, cat_r, iOK_1, iOK_5, jOK_2, jOK_6, wOK_e, lOK_1, lOK_2, lOK_3, lOK_4, lOK_5, lOK_6, catS_0, catS_1, catS_2, catS_3, catS_4, and_self, true_and, and_true, true_or, or_true, false_or, or_false, not_true_eq_false, not_false_eq_true, if_true, if_false, ite_int, ite_int0, au_10, eq_self, decide_true, decide_false, Bool.true_and, Bool.false_and, au_in, au_le, au_lt, au_eq, au_lt0, au_ge0, au_le0, au_gt0, au_eq0, au_leT, au_leF, au_ltT, au_ltF, au_eqT, au_eqF, nI_clamp, nI_1, nI_add, pk_mul, au_sub1, au_subc, au_up2e, au_up2n, lit_of]
        exact ihn v (by omega) hv
  exact key g.1.length 0 nv (by omega) rfl
theorem C_rowsOfClause {c w : Nat} (hB : BF Ln B) (hN : N ≤ 12) (h4 : I B 4 = nI N) (hJ : ∀ j, J patC j = pat j) (hc : lowN N c) (hw : w < 64) : ACall (d + 3) 18 [.ref B, .int (nI c), .int (nI w)] (G0 Ln) I J K ↔ K (some (.long (rcW N c w N))) (G0 Ln) I J := by
  rw [ACall_0 (L0 := [.ref B, .int (nI c), .int (nI w), nv, nv, nv, nv, nv]) (show mcs 18 = (0, 0) from rfl) (show entL 18 [.ref B, .int (nI c), .int (nI w)] = _ from rfl) rfl (Nat.le_of_ble_eq_true rfl)]
  have hc24 := hc.1
  have hlt := ltN_lt c
  simp (disch := omega) only [aw_lconst (pc2 := 1) (y := 0) D18_0 rfl (by decide), aw_lstore_3 (pc2 := 2) D18_1 rfl, aw_iload_1 (pc2 := 3) D18_2 rfl, aw_is1_3 (pc2 := 6) D18_3 rfl cT_0_115 rfl, aw_istore_5 (pc2 := 8) D18_6 rfl, aw_iconst (pc2 := 9) (y := 1) D18_8 rfl (by decide), aw_istore_6 (pc2 := 11) D18_9 rfl, refV_s, refV_n, psh_s, psh_n, kil_i, kil_r, kil_n, kil_l, cat_i, cat_r, iOK_1, iOK_5, jOK_2, jOK_6, wOK_e, lOK_1, lOK_2, lOK_3, lOK_4, lOK_5, lOK_6, catS_0, catS_1, catS_2, catS_3, catS_4, and_self, true_and, and_true, true_or, or_true, false_or, or_false, not_true_eq_false, not_false_eq_true, if_true, if_false, ite_int, ite_int0, au_10, eq_self, decide_true, decide_false, Bool.true_and, Bool.false_and, au_in, au_le, au_lt, au_eq, au_lt0, au_ge0, au_le0, au_gt0, au_eq0, au_leT, au_leF, au_ltT, au_ltF, au_eqT, au_eqF, nI_clamp, nI_1, nI_add, pk_mul, au_sub1, au_subc, au_up2e, au_up2n, lit_of, C_lettersOf, letC_nI hc24]
  have key : ∀ n l v, l + n = N → kil v = v → (AW (d + 2) ((G0 Ln).1, (G0 Ln).2.1) K 18 11 [.ref B, .int (nI c), .int (nI w), .long (rcW N c w l), nv, .int (nI (ltN c)), .int (nI (l + 1)), v] [] (G0 Ln) I J ↔ K (some (.long (rcW N c w N))) (G0 Ln) I J) := by
    intro n
    induction n with
    | zero =>
      intro l v hl hv
      have e : l = N := by omega
      subst e
      simp (disch := omega) only [aw_iload_6 (pc2 := 13) D18_11 rfl, aw_aload_0 (pc2 := 14) D18_13 rfl, aw_getI (pc2 := 17) (ci := 0) (fk := 4) D18_14 rfl fT_0_32 rfl, aw_icmp_gt (pc2 := 20) (t := 79) D18_17 (by decide) rfl, aw_lload_3 (pc2 := 80) D18_79 rfl, aw_lret D18_80 rfl, refV_s, refV_n, psh_s, psh_n, kil_i, kil_r, kil_n, kil_l, cat_i, cat_r, iOK_1, iOK_5, jOK_2, jOK_6, wOK_e, lOK_1, lOK_2, lOK_3, lOK_4, lOK_5, lOK_6, catS_0, catS_1, catS_2, catS_3, catS_4, and_self, true_and, and_true, true_or, or_true, false_or, or_false, not_true_eq_false, not_false_eq_true, if_true, if_false, ite_int, ite_int0, au_10, eq_self, decide_true, decide_false, Bool.true_and, Bool.false_and, au_in, au_le, au_lt, au_eq, au_lt0, au_ge0, au_le0, au_gt0, au_eq0, au_leT, au_leF, au_ltT, au_ltF, au_eqT, au_eqF, nI_clamp, nI_1, nI_add, pk_mul, au_sub1, au_subc, au_up2e, au_up2n, lit_of, hB.1.1, h4]
    | succ n ih =>
      intro l v hl hv
      have ihn := ih (l + 1)
      rw [rcW] at ihn
      obtain ⟨b1, -, -, -, b5, b6⟩ := lt_bits l (by omega)
      have hbit := lt_bit (c := c) (show l < 12 by omega)
      have rp : ∀ {K' : KT}, ACall (d + 2) 122 [.int (nI (l + 1)), .int (nI N), .int (nI w)] (G0 Ln) I J K' ↔ K' (some (.long (rwv N ((l : Int) + 1) w))) (G0 Ln) I J := fun {K'} => by
        rw [b5]; exact C_rowsWhere (d := d + 1) hJ hN (by omega) (by omega) (by omega) hw
      have rn : ∀ {K' : KT}, ACall (d + 2) 122 [.int (-(nI (l + 1))), .int (nI N), .int (nI w)] (G0 Ln) I J K' ↔ K' (some (.long (rwv N (-((l : Int) + 1)) w))) (G0 Ln) I J := fun {K'} => by
        rw [b6]; exact C_rowsWhere (d := d + 1) hJ hN (by omega) (by omega) (by omega) hw
      rw [aw_iload_6 (pc2 := 13) D18_11 rfl]
      simp (disch := omega) only [aw_aload_0 (pc2 := 14) D18_13 rfl, aw_getI (pc2 := 17) (ci := 0) (fk := 4) D18_14 rfl fT_0_32 rfl, aw_icmp_gt (pc2 := 20) (t := 79) D18_17 (by decide) rfl, aw_iload_5 (pc2 := 22) D18_20 rfl, aw_iload_6 (pc2 := 24) D18_22 rfl, aw_iconst (pc2 := 25) (y := 1) D18_24 rfl (by decide), aw_isub (pc2 := 26) D18_25 rfl, aw_ishr (pc2 := 27) D18_26 rfl, aw_iconst (pc2 := 28) (y := 1) D18_27 rfl (by decide), aw_iand (pc2 := 29) D18_28 rfl, aw_if_eq (pc2 := 32) (t := 73) D18_29 (by decide) rfl, refV_s, refV_n, psh_s, psh_n, kil_i, kil_r, kil_n, kil_l, cat_i, cat_r, iOK_1, iOK_5, jOK_2, jOK_6, wOK_e, lOK_1, lOK_2, lOK_3, lOK_4, lOK_5, lOK_6, catS_0, catS_1, catS_2, catS_3, catS_4, and_self, true_and, and_true, true_or, or_true, false_or, or_false, not_true_eq_false, not_false_eq_true, if_true, if_false, ite_int, ite_int0, au_10, eq_self, decide_true, decide_false, Bool.true_and, Bool.false_and, au_in, au_le, au_lt, au_eq, au_lt0, au_ge0, au_le0, au_gt0, au_eq0, au_leT, au_leF, au_ltT, au_ltF, au_eqT, au_eqF, nI_clamp, nI_1, nI_add, pk_mul, au_sub1, au_subc, au_up2e, au_up2n, lit_of, hB.1.1, h4, shr_bit, Nat.add_sub_cancel, nI_bit, hbit]
      cases t1 : c.testBit l
      · rw [t1, if_neg (by decide)] at ihn
        cases t2 : c.testBit (12 + l)
        · rw [t2, if_neg (by decide)] at ihn
          rw [if_pos (by decide)]
          simp (disch := omega) only [aw_iinc_6 (pc2 := 76) (y := 1) D18_73 rfl (by decide), aw_goto (t := 11) D18_76 (by decide), refV_s, refV_n, psh_s, psh_n, kil_i, kil_r, kil_n, kil_l, cat_i, cat_r, iOK_1, iOK_5, jOK_2, jOK_6, wOK_e, lOK_1, lOK_2, lOK_3, lOK_4, lOK_5, lOK_6, catS_0, catS_1, catS_2, catS_3, catS_4, and_self, true_and, and_true, true_or, or_true, false_or, or_false, not_true_eq_false, not_false_eq_true, if_true, if_false, ite_int, ite_int0, au_10, eq_self, decide_true, decide_false, Bool.true_and, Bool.false_and, au_in, au_le, au_lt, au_eq, au_lt0, au_ge0, au_le0, au_gt0, au_eq0, au_leT, au_leF, au_ltT, au_ltF, au_eqT, au_eqF, nI_clamp, nI_1, nI_add, pk_mul, au_sub1, au_subc, au_up2e, au_up2n, lit_of]
          exact ihn v (by omega) hv
        · rw [t2, if_pos rfl] at ihn
          rw [if_neg (by decide)]
          simp (disch := omega) only [aw_iload_1 (pc2 := 33) D18_32 rfl, aw_iload_6 (pc2 := 35) D18_33 rfl, aw_is1_3 (pc2 := 38) D18_35 rfl cT_0_71 rfl, aw_iand (pc2 := 39) D18_38 rfl, aw_if_eq (pc2 := 42) (t := 46) D18_39 (by decide) rfl, refV_s, refV_n, psh_s, psh_n, kil_i, kil_r, kil_n, kil_l, cat_i, cat_r, iOK_1, iOK_5, jOK_2, jOK_6, wOK_e, lOK_1, lOK_2, lOK_3, lOK_4, lOK_5, lOK_6, catS_0, catS_1, catS_2, catS_3, catS_4, and_self, true_and, and_true, true_or, or_true, false_or, or_false, not_true_eq_false, not_false_eq_true, if_true, if_false, ite_int, ite_int0, au_10, eq_self, decide_true, decide_false, Bool.true_and, Bool.false_and, au_in, au_le, au_lt, au_eq, au_lt0, au_ge0, au_le0, au_gt0, au_eq0, au_leT, au_leF, au_ltT, au_ltF, au_eqT, au_eqF, nI_clamp, nI_1, nI_add, pk_mul, au_sub1, au_subc, au_up2e, au_up2n, lit_of, C_bitOf, b1, bit_test (show l < 31 by omega), t1]
          simp (disch := omega) only [aw_iconst (pc2 := 47) (y := 0) D18_46 rfl (by decide), aw_istore_7 (pc2 := 49) D18_47 rfl, aw_lload_3 (pc2 := 50) D18_49 rfl, aw_iload_7 (pc2 := 52) D18_50 rfl, aw_if_eq (pc2 := 55) (t := 60) D18_52 (by decide) rfl, aw_iload_6 (pc2 := 57) D18_55 rfl, aw_goto (t := 63) D18_57 (by decide), aw_iload_6 (pc2 := 62) D18_60 rfl, aw_ineg (pc2 := 63) D18_62 rfl, aw_aload_0 (pc2 := 64) D18_63 rfl, aw_getI (pc2 := 67) (ci := 0) (fk := 4) D18_64 rfl fT_0_32 rfl, aw_iload_2 (pc2 := 68) D18_67 rfl, aw_is3_3 (pc2 := 71) D18_68 rfl cT_0_118 rfl, aw_lor (pc2 := 72) D18_71 rfl, aw_lstore_3 (pc2 := 73) D18_72 rfl, aw_iinc_6 (pc2 := 76) (y := 1) D18_73 rfl (by decide), aw_goto (t := 11) D18_76 (by decide), refV_s, refV_n, psh_s, psh_n, kil_i, kil_r, kil_n, kil_l, cat_i, cat_r, iOK_1, iOK_5, jOK_2, jOK_6, wOK_e, lOK_1, lOK_2, lOK_3, lOK_4, lOK_5, lOK_6, catS_0, catS_1, catS_2, catS_3, catS_4, and_self, true_and, and_true, true_or, or_true, false_or, or_false, not_true_eq_false, not_false_eq_true, if_true, if_false, ite_int, ite_int0, au_10, eq_self, decide_true, decide_false, Bool.true_and, Bool.false_and, au_in, au_le, au_lt, au_eq, au_lt0, au_ge0, au_le0, au_gt0, au_eq0, au_leT, au_leF, au_ltT, au_ltF, au_eqT, au_eqF, nI_clamp, nI_1, nI_add, pk_mul, au_sub1, au_subc, au_up2e, au_up2n, lit_of, hB.1.1, h4, hv, rn]
          exact ihn _ (by omega) rfl
      · rw [t1, if_pos rfl] at ihn
        rw [if_neg (by simp)]
        have tf : (true = false) = False := eq_false (by decide)
        simp (disch := omega) only [aw_iload_1 (pc2 := 33) D18_32 rfl, aw_iload_6 (pc2 := 35) D18_33 rfl, aw_is1_3 (pc2 := 38) D18_35 rfl cT_0_71 rfl, aw_iand (pc2 := 39) D18_38 rfl, aw_if_eq (pc2 := 42) (t := 46) D18_39 (by decide) rfl, refV_s, refV_n, psh_s, psh_n, kil_i, kil_r, kil_n, kil_l, cat_i, cat_r, iOK_1, iOK_5, jOK_2, jOK_6, wOK_e, lOK_1, lOK_2, lOK_3, lOK_4, lOK_5, lOK_6, catS_0, catS_1, catS_2, catS_3, catS_4, and_self, true_and, and_true, true_or, or_true, false_or, or_false, not_true_eq_false, not_false_eq_true, if_true, if_false, ite_int, ite_int0, au_10, eq_self, decide_true, decide_false, Bool.true_and, Bool.false_and, au_in, au_le, au_lt, au_eq, au_lt0, au_ge0, au_le0, au_gt0, au_eq0, au_leT, au_leF, au_ltT, au_ltF, au_eqT, au_eqF, nI_clamp, nI_1, nI_add, pk_mul, au_sub1, au_subc, au_up2e, au_up2n, lit_of, C_bitOf, b1, bit_test (show l < 31 by omega), t1, tf]
        simp (disch := omega) only [aw_iconst (pc2 := 43) (y := 1) D18_42 rfl (by decide), aw_goto (t := 47) D18_43 (by decide), aw_iconst (pc2 := 47) (y := 0) D18_46 rfl (by decide), aw_istore_7 (pc2 := 49) D18_47 rfl, aw_lload_3 (pc2 := 50) D18_49 rfl, aw_iload_7 (pc2 := 52) D18_50 rfl, aw_if_eq (pc2 := 55) (t := 60) D18_52 (by decide) rfl, aw_iload_6 (pc2 := 57) D18_55 rfl, aw_goto (t := 63) D18_57 (by decide), aw_iload_6 (pc2 := 62) D18_60 rfl, aw_ineg (pc2 := 63) D18_62 rfl, aw_aload_0 (pc2 := 64) D18_63 rfl, aw_getI (pc2 := 67) (ci := 0) (fk := 4) D18_64 rfl fT_0_32 rfl, aw_iload_2 (pc2 := 68) D18_67 rfl, aw_is3_3 (pc2 := 71) D18_68 rfl cT_0_118 rfl, aw_lor (pc2 := 72) D18_71 rfl, aw_lstore_3 (pc2 := 73) D18_72 rfl, aw_iinc_6 (pc2 := 76) (y := 1) D18_73 rfl (by decide), aw_goto (t := 11) D18_76 (by decide), refV_s, refV_n, psh_s, psh_n, kil_i, kil_r, kil_n, kil_l, cat_i, cat_r, iOK_1, iOK_5, jOK_2, jOK_6, wOK_e, lOK_1, lOK_2, lOK_3, lOK_4, lOK_5, lOK_6, catS_0, catS_1, catS_2, catS_3, catS_4, and_self, true_and, and_true, true_or, or_true, false_or, or_false, not_true_eq_false, not_false_eq_true, if_true, if_false, ite_int, ite_int0, au_10, eq_self, decide_true, decide_false, Bool.true_and, Bool.false_and, au_in, au_le, au_lt, au_eq, au_lt0, au_ge0, au_le0, au_gt0, au_eq0, au_leT, au_leF, au_ltT, au_ltF, au_eqT, au_eqF, nI_clamp, nI_1, nI_add, pk_mul, au_sub1, au_subc, au_up2e, au_up2n, lit_of, hB.1.1, h4, hv, rp]
        exact ihn _ (by omega) rfl
  exact key N 0 nv (by omega) rfl
theorem C_wholeRows {k : BK} {w : Nat} (hB : BF Ln B) (hbk : bkOK k) (h4 : I B 4 = nI k.N) (h5 : I B 5 = nI k.cl.length) (h1 : ∀ i, i < k.cl.length → I (B + 1) i = nI (k.cl.getD i 0)) (hJ : ∀ j, J patC j = pat j) (hw : w < 64) : ACall (d + 4) 17 [.ref B, .int (nI w)] (G0 Ln) I J K ↔ K (some (.long (whW k.N w k.cl k.cl.length))) (G0 Ln) I J := by
  rw [ACall_0 (L0 := [.ref B, .int (nI w), nv, nv, nv]) (show mcs 17 = (0, 0) from rfl) (show entL 17 [.ref B, .int (nI w)] = _ from rfl) rfl (Nat.le_of_ble_eq_true rfl)]
  have hN := hbk.2.1
  have hl := hbk.2.2.1
  simp (disch := omega) only [aw_ldc2_w (pc2 := 3) (v := -1) D17_0 rfl (by decide), aw_lstore_2 (pc2 := 4) D17_3 rfl, aw_iconst (pc2 := 5) (y := 0) D17_4 rfl (by decide), aw_istore_4 (pc2 := 7) D17_5 rfl, refV_s, refV_n, psh_s, psh_n, kil_i, kil_r, kil_n, kil_l, cat_i, cat_r, iOK_1, iOK_5, jOK_2, jOK_6, wOK_e, lOK_1, lOK_2, lOK_3, lOK_4, lOK_5, lOK_6, catS_0, catS_1, catS_2, catS_3, catS_4, and_self, true_and, and_true, true_or, or_true, false_or, or_false, not_true_eq_false, not_false_eq_true, if_true, if_false, ite_int, ite_int0, au_10, eq_self, decide_true, decide_false, Bool.true_and, Bool.false_and, au_in, au_le, au_lt, au_eq, au_lt0, au_ge0, au_le0, au_gt0, au_eq0, au_leT, au_leF, au_ltT, au_ltF, au_eqT, au_eqF, nI_clamp, nI_1, nI_add, pk_mul, au_sub1, au_subc, au_up2e, au_up2n, lit_of]
  have key : ∀ n i, i + n = k.cl.length → (AW (d + 3) ((G0 Ln).1, (G0 Ln).2.1) K 17 7 [.ref B, .int (nI w), .long (whW k.N w k.cl i), nv, .int (nI i)] [] (G0 Ln) I J ↔ K (some (.long (whW k.N w k.cl k.cl.length))) (G0 Ln) I J) := by
    intro n
    induction n with
    | zero =>
      intro i hi
      have e : i = k.cl.length := by omega
      subst e
      simp (disch := omega) only [aw_iload_4 (pc2 := 9) D17_7 rfl, aw_aload_0 (pc2 := 10) D17_9 rfl, aw_getI (pc2 := 13) (ci := 0) (fk := 5) D17_10 rfl fT_0_36 rfl, aw_icmp_ge (pc2 := 16) (t := 36) D17_13 (by decide) rfl, aw_lload_2 (pc2 := 37) D17_36 rfl, aw_lret D17_37 rfl, refV_s, refV_n, psh_s, psh_n, kil_i, kil_r, kil_n, kil_l, cat_i, cat_r, iOK_1, iOK_5, jOK_2, jOK_6, wOK_e, lOK_1, lOK_2, lOK_3, lOK_4, lOK_5, lOK_6, catS_0, catS_1, catS_2, catS_3, catS_4, and_self, true_and, and_true, true_or, or_true, false_or, or_false, not_true_eq_false, not_false_eq_true, if_true, if_false, ite_int, ite_int0, au_10, eq_self, decide_true, decide_false, Bool.true_and, Bool.false_and, au_in, au_le, au_lt, au_eq, au_lt0, au_ge0, au_le0, au_gt0, au_eq0, au_leT, au_leF, au_ltT, au_ltF, au_eqT, au_eqF, nI_clamp, nI_1, nI_add, pk_mul, au_sub1, au_subc, au_up2e, au_up2n, lit_of, hB.1.1, h5]
    | succ n ih =>
      intro i hi
      have hil : i < k.cl.length := by omega
      have ihn := ih (i + 1) (by omega)
      rw [whW] at ihn
      rw [aw_iload_4 (pc2 := 9) D17_7 rfl]
      simp (disch := omega) only [aw_aload_0 (pc2 := 10) D17_9 rfl, aw_getI (pc2 := 13) (ci := 0) (fk := 5) D17_10 rfl fT_0_36 rfl, aw_icmp_ge (pc2 := 16) (t := 36) D17_13 (by decide) rfl, aw_lload_2 (pc2 := 17) D17_16 rfl, aw_aload_0 (pc2 := 18) D17_17 rfl, aw_aload_0 (pc2 := 19) D17_18 rfl, aw_iload_4 (pc2 := 21) D17_19 rfl, aw_iv1_0 (pc2 := 24) (o := 0) D17_21 rfl cT_0_108 rfl rfl, aw_iload_1 (pc2 := 25) D17_24 rfl, aw_iv2_0 (pc2 := 28) (o := 0) D17_25 rfl cT_0_111 rfl rfl, aw_land (pc2 := 29) D17_28 rfl, aw_lstore_2 (pc2 := 30) D17_29 rfl, aw_iinc_4 (pc2 := 33) (y := 1) D17_30 rfl (by decide), aw_goto (t := 7) D17_33 (by decide), refV_s, refV_n, psh_s, psh_n, kil_i, kil_r, kil_n, kil_l, cat_i, cat_r, iOK_1, iOK_5, jOK_2, jOK_6, wOK_e, lOK_1, lOK_2, lOK_3, lOK_4, lOK_5, lOK_6, catS_0, catS_1, catS_2, catS_3, catS_4, and_self, true_and, and_true, true_or, or_true, false_or, or_false, not_true_eq_false, not_false_eq_true, if_true, if_false, ite_int, ite_int0, au_10, eq_self, decide_true, decide_false, Bool.true_and, Bool.false_and, au_in, au_le, au_lt, au_eq, au_lt0, au_ge0, au_le0, au_gt0, au_eq0, au_leT, au_leF, au_ltT, au_ltF, au_eqT, au_eqF, nI_clamp, nI_1, nI_add, pk_mul, au_sub1, au_subc, au_up2e, au_up2n, lit_of, hB.1.1, h5, C_clauseAt hB (show i < 40 by omega), h1 i hil, C_rowsOfClause hB hN h4 hJ (hbk.2.2.2.1 _ (getD_mem hil)).1 hw]
      exact ihn
  exact key k.cl.length 0 (by omega)
theorem C_leastRowToldWrong {b : Nat} {g : GR} (hb : b < 2) (hs : sgOK σ) (h : CInv σ I J) (hg : (σ.1 b).g = some g) (hk : ∀ I' J', CInv σ I' J' → (∀ a, (a < bkc b ∨ bkc b + 14 ≤ a) → I' a = I a ∧ J' a = J a) → K (some (.int (scan (J3 (σ.1 b) g) (2 ^ (σ.1 b).N) 0))) (G0 Ln) I' J') : ACall (d + 5) 16 [.ref (bkc b)] (G0 Ln) I J K := by
  rw [ACall_0 (L0 := [.ref (bkc b), nv, nv]) (show mcs 16 = (0, 0) from rfl) (show entL 16 [.ref (bkc b)] = _ from rfl) rfl (Nat.le_of_ble_eq_true rfl)]
  have hB := bf (Ln := Ln) hb
  have hc10 := RF_10 (Ln := Ln) hb
  have hc12 := RF_12 (Ln := Ln) hb
  have hh := h.1 b hb
  have hbk := hs.1 b hb
  have hN := hbk.2.1
  have hgo := gr_get hs hb hg
  obtain ⟨w1, w2, w3, w4, w5, w6, w7, -⟩ := wN_all (σ.1 b).N (by omega)
  have hgg := hh.2.2.2.2.2.2
  unfold CGo at hgg
  rw [hg] at hgg
  simp (disch := omega) only [aw_aload_0 (pc2 := 1) D16_0 rfl, aw_getR (pc2 := 4) (ci := 0) (fk := 2) D16_1 rfl fT_0_21 rfl, aw_aload_0 (pc2 := 5) D16_4 rfl, aw_getI (pc2 := 8) (ci := 0) (fk := 4) D16_5 rfl fT_0_32 rfl, aw_iv1_0 (pc2 := 11) (o := 1) D16_8 rfl cT_0_74 rfl rfl, refV_s, refV_n, psh_s, psh_n, kil_i, kil_r, kil_n, kil_l, cat_i, cat_r, iOK_1, iOK_5, jOK_2, jOK_6, wOK_e, lOK_1, lOK_2, lOK_3, lOK_4, lOK_5, lOK_6, catS_0, catS_1, catS_2, catS_3, catS_4, and_self, true_and, and_true, true_or, or_true, false_or, or_false, not_true_eq_false, not_false_eq_true, if_true, if_false, ite_int, ite_int0, au_10, eq_self, decide_true, decide_false, Bool.true_and, Bool.false_and, au_in, au_le, au_lt, au_eq, au_lt0, au_ge0, au_le0, au_gt0, au_eq0, au_leT, au_leF, au_ltT, au_ltF, au_eqT, au_eqF, nI_clamp, nI_1, nI_add, pk_mul, au_sub1, au_subc, au_up2e, au_up2n, lit_of, hB.1.1, hB.1.2.1, hB.1.2.2.1, hB.1.2.2.2.1, hB.1.2.2.2.2.1, hB.1.2.2.2.2.2.1, hB.1.2.2.2.2.2.2.1, hB.1.2.2.2.2.2.2.2.1, hB.1.2.2.2.2.2.2.2.2.1, hB.1.2.2.2.2.2.2.2.2.2.1, hB.1.2.2.2.2.2.2.2.2.2.2.1, hB.1.2.2.2.2.2.2.2.2.2.2.2.1, hB.1.2.2.2.2.2.2.2.2.2.2.2.2.1, hB.1.2.2.2.2.2.2.2.2.2.2.2.2.2, hB.2.1, hB.2.2.1, hB.2.2.2.1, hB.2.2.2.2.1, hB.2.2.2.2.2.1, hB.2.2.2.2.2.2.1, hB.2.2.2.2.2.2.2.1, hB.2.2.2.2.2.2.2.2.1, hB.2.2.2.2.2.2.2.2.2.1, hB.2.2.2.2.2.2.2.2.2.2.1, hB.2.2.2.2.2.2.2.2.2.2.2.1, hB.2.2.2.2.2.2.2.2.2.2.2.2.1, hB.2.2.2.2.2.2.2.2.2.2.2.2.2, hh.1]
  refine C_saidByRoot hb hN hgo hgg.2 h.2.2.2.2 (fun I1 J1 f1 f2 f3 f4 f5 => ?_)
  have hb9 : bkc b < 16 := by unfold bkc; omega
  have e4 : I1 (bkc b) 4 = nI (σ.1 b).N := by rw [f1 _ (by omega) (by omega)]; exact hh.1
  simp (disch := omega) only [aw_astore_1 (pc2 := 12) D16_11 rfl, aw_aload_0 (pc2 := 13) D16_12 rfl, aw_getR (pc2 := 16) (ci := 0) (fk := 3) D16_13 rfl fT_0_28 rfl, aw_aload_0 (pc2 := 17) D16_16 rfl, aw_getI (pc2 := 20) (ci := 0) (fk := 4) D16_17 rfl fT_0_32 rfl, aw_iv1_0 (pc2 := 23) (o := 5) D16_20 rfl cT_0_85 rfl rfl, aw_iconst (pc2 := 24) (y := 0) D16_23 rfl (by decide), aw_istore_2 (pc2 := 25) D16_24 rfl, refV_s, refV_n, psh_s, psh_n, kil_i, kil_r, kil_n, kil_l, cat_i, cat_r, iOK_1, iOK_5, jOK_2, jOK_6, wOK_e, lOK_1, lOK_2, lOK_3, lOK_4, lOK_5, lOK_6, catS_0, catS_1, catS_2, catS_3, catS_4, and_self, true_and, and_true, true_or, or_true, false_or, or_false, not_true_eq_false, not_false_eq_true, if_true, if_false, ite_int, ite_int0, au_10, eq_self, decide_true, decide_false, Bool.true_and, Bool.false_and, au_in, au_le, au_lt, au_eq, au_lt0, au_ge0, au_le0, au_gt0, au_eq0, au_leT, au_leF, au_ltT, au_ltF, au_eqT, au_eqF, nI_clamp, nI_1, nI_add, pk_mul, au_sub1, au_subc, au_up2e, au_up2n, lit_of, hB.1.1, hB.1.2.1, hB.1.2.2.1, hB.1.2.2.2.1, hB.1.2.2.2.2.1, hB.1.2.2.2.2.2.1, hB.1.2.2.2.2.2.2.1, hB.1.2.2.2.2.2.2.2.1, hB.1.2.2.2.2.2.2.2.2.1, hB.1.2.2.2.2.2.2.2.2.2.1, hB.1.2.2.2.2.2.2.2.2.2.2.1, hB.1.2.2.2.2.2.2.2.2.2.2.2.1, hB.1.2.2.2.2.2.2.2.2.2.2.2.2.1, hB.1.2.2.2.2.2.2.2.2.2.2.2.2.2, hB.2.1, hB.2.2.1, hB.2.2.2.1, hB.2.2.2.2.1, hB.2.2.2.2.2.1, hB.2.2.2.2.2.2.1, hB.2.2.2.2.2.2.2.1, hB.2.2.2.2.2.2.2.2.1, hB.2.2.2.2.2.2.2.2.2.1, hB.2.2.2.2.2.2.2.2.2.2.1, hB.2.2.2.2.2.2.2.2.2.2.2.1, hB.2.2.2.2.2.2.2.2.2.2.2.2.1, hB.2.2.2.2.2.2.2.2.2.2.2.2.2, e4, C_rempty hc12 hN]
  have i2 : ∀ a, a ≠ bkc b + 3 → a ≠ bkc b + 10 → a ≠ bkc b + 12 → rI I1 (bkc b + 12) (σ.1 b).N a = I a := fun a a1 a2 a3 => by rw [rI_off a3, f1 a a1 a2]
  have g4 : rI I1 (bkc b + 12) (σ.1 b).N (bkc b) 4 = nI (σ.1 b).N := by rw [rI_off (by omega)]; exact e4
  have g5 : rI I1 (bkc b + 12) (σ.1 b).N (bkc b) 5 = nI (σ.1 b).cl.length := by rw [i2 _ (by omega) (by omega) (by omega)]; exact hh.2.1
  have g1 : ∀ i, i < (σ.1 b).cl.length → rI I1 (bkc b + 12) (σ.1 b).N (bkc b + 1) i = nI ((σ.1 b).cl.getD i 0) := fun i hi => by rw [i2 _ (by omega) (by omega) (by omega)]; exact hh.2.2.1 i hi
  have s3 : rI I1 (bkc b + 12) (σ.1 b).N (bkc b + 10) 3 = nI (wN (σ.1 b).N) := by rw [rI_off (by omega)]; exact f5.2.2.1
  have hpat : ∀ J' : JT, (∀ a, a ≠ bkc b + 13 → J' a = J1 a) → ∀ j, J' patC j = pat j := fun J' q j => by
    rw [q patC (by show 1000001 ≠ _; omega), f3 patC (by show 1000001 ≠ _; omega) (by show 1000001 ≠ _; omega)]
    exact h.2.2.2.2 j
  have key : ∀ n i J', i + n = wN (σ.1 b).N → (∀ a, a ≠ bkc b + 13 → J' a = J1 a) → (∀ w, w < i → ∀ q, q < 64 → bt (J' (bkc b + 13) w) q = (decide (64 * w + q < 2 ^ (σ.1 b).N) && J3 (σ.1 b) g (64 * w + q))) → AW (d + 4) ((G0 Ln).1, (G0 Ln).2.1) K 16 25 [.ref (bkc b), .ref (bkc b + 10), .int (nI i)] [] (G0 Ln) (rI I1 (bkc b + 12) (σ.1 b).N) J' := by
    intro n
    induction n with
    | zero =>
      intro i J' hi hJ' hw
      have e : i = wN (σ.1 b).N := by omega
      subst e
      have hr : RSet (σ.1 b).N (bkc b + 12) (J3 (σ.1 b) g) (rI I1 (bkc b + 12) (σ.1 b).N) J' := RSet.mk rI_1 rI_2 rI_3 (fun w q hw2 hq => hw w hw2 q hq)
      have lf : ∀ {K' : KT}, ACall (d + 4) 71 [.ref (bkc b + 12), .int 0] (G0 Ln) (rI I1 (bkc b + 12) (σ.1 b).N) J' K' ↔ K' (some (.int (scan (J3 (σ.1 b) g) (2 ^ (σ.1 b).N) 0))) (G0 Ln) (rI I1 (bkc b + 12) (σ.1 b).N) J' := fun {K'} => C_leastFrom (d := d + 2) (r := 0) hc12 hN hr (Nat.zero_le _)
      simp (disch := omega) only [aw_iload_2 (pc2 := 26) D16_25 rfl, aw_aload_1 (pc2 := 27) D16_26 rfl, aw_getI (pc2 := 30) (ci := 5) (fk := 3) D16_27 rfl fT_0_88 rfl, aw_icmp_ge (pc2 := 33) (t := 59) D16_30 (by decide) rfl, aw_aload_0 (pc2 := 60) D16_59 rfl, aw_getR (pc2 := 63) (ci := 0) (fk := 3) D16_60 rfl fT_0_28 rfl, aw_iconst (pc2 := 64) (y := 0) D16_63 rfl (by decide), aw_iv1_0 (pc2 := 67) (o := 5) D16_64 rfl cT_0_103 rfl rfl, aw_iret D16_67 rfl, refV_s, refV_n, psh_s, psh_n, kil_i, kil_r, kil_n, kil_l, cat_i, cat_r, iOK_1, iOK_5, jOK_2, jOK_6, wOK_e, lOK_1, lOK_2, lOK_3, lOK_4, lOK_5, lOK_6, catS_0, catS_1, catS_2, catS_3, catS_4, and_self, true_and, and_true, true_or, or_true, false_or, or_false, not_true_eq_false, not_false_eq_true, if_true, if_false, ite_int, ite_int0, au_10, eq_self, decide_true, decide_false, Bool.true_and, Bool.false_and, au_in, au_le, au_lt, au_eq, au_lt0, au_ge0, au_le0, au_gt0, au_eq0, au_leT, au_leF, au_ltT, au_ltF, au_eqT, au_eqF, nI_clamp, nI_1, nI_add, pk_mul, au_sub1, au_subc, au_up2e, au_up2n, lit_of, hB.1.1, hB.1.2.1, hB.1.2.2.1, hB.1.2.2.2.1, hB.1.2.2.2.2.1, hB.1.2.2.2.2.2.1, hB.1.2.2.2.2.2.2.1, hB.1.2.2.2.2.2.2.2.1, hB.1.2.2.2.2.2.2.2.2.1, hB.1.2.2.2.2.2.2.2.2.2.1, hB.1.2.2.2.2.2.2.2.2.2.2.1, hB.1.2.2.2.2.2.2.2.2.2.2.2.1, hB.1.2.2.2.2.2.2.2.2.2.2.2.2.1, hB.1.2.2.2.2.2.2.2.2.2.2.2.2.2, hB.2.1, hB.2.2.1, hB.2.2.2.1, hB.2.2.2.2.1, hB.2.2.2.2.2.1, hB.2.2.2.2.2.2.1, hB.2.2.2.2.2.2.2.1, hB.2.2.2.2.2.2.2.2.1, hB.2.2.2.2.2.2.2.2.2.1, hB.2.2.2.2.2.2.2.2.2.2.1, hB.2.2.2.2.2.2.2.2.2.2.2.1, hB.2.2.2.2.2.2.2.2.2.2.2.2.1, hB.2.2.2.2.2.2.2.2.2.2.2.2.2, s3, lf]
      refine hk _ J' (CInv_said h hb hg i2 (fun k hk2 => by rw [rI_off (by omega)]; exact f2 k hk2) (fun a a1 a2 a3 => by rw [hJ' a a3, f3 a a1 a2]) (by rw [rI_off (by omega)]; exact f4) (f5.fr (rI_off (by omega)) (hJ' _ (by omega)))) (fun a ha => ⟨i2 a (by omega) (by omega) (by omega), by rw [hJ' a (by omega), f3 a (by omega) (by omega)]⟩)
    | succ n ih =>
      intro i J' hi hJ' hw
      have hiw : i < wN (σ.1 b).N := by omega
      have ihn := ih (i + 1)
      rw [aw_iload_2 (pc2 := 26) D16_25 rfl]
      simp (disch := omega) only [aw_aload_1 (pc2 := 27) D16_26 rfl, aw_getI (pc2 := 30) (ci := 5) (fk := 3) D16_27 rfl fT_0_88 rfl, aw_icmp_ge (pc2 := 33) (t := 59) D16_30 (by decide) rfl, aw_aload_0 (pc2 := 34) D16_33 rfl, aw_getR (pc2 := 37) (ci := 0) (fk := 3) D16_34 rfl fT_0_28 rfl, aw_iload_2 (pc2 := 38) D16_37 rfl, aw_aload_1 (pc2 := 39) D16_38 rfl, aw_getR (pc2 := 42) (ci := 5) (fk := 0) D16_39 rfl fT_0_91 rfl, aw_iload_2 (pc2 := 43) D16_42 rfl, aw_laload (pc2 := 44) D16_43 rfl, aw_aload_0 (pc2 := 45) D16_44 rfl, aw_iload_2 (pc2 := 46) D16_45 rfl, aw_iv1_0 (pc2 := 49) (o := 0) D16_46 rfl cT_0_95 rfl rfl, aw_lxor (pc2 := 50) D16_49 rfl, aw_iv2_0 (pc2 := 53) (o := 5) D16_50 rfl cT_0_99 rfl rfl, aw_iinc_2 (pc2 := 56) (y := 1) D16_53 rfl (by decide), aw_goto (t := 25) D16_56 (by decide), refV_s, refV_n, psh_s, psh_n, kil_i, kil_r, kil_n, kil_l, cat_i, cat_r, iOK_1, iOK_5, jOK_2, jOK_6, wOK_e, lOK_1, lOK_2, lOK_3, lOK_4, lOK_5, lOK_6, catS_0, catS_1, catS_2, catS_3, catS_4, and_self, true_and, and_true, true_or, or_true, false_or, or_false, not_true_eq_false, not_false_eq_true, if_true, if_false, ite_int, ite_int0, au_10, eq_self, decide_true, decide_false, Bool.true_and, Bool.false_and, au_in, au_le, au_lt, au_eq, au_lt0, au_ge0, au_le0, au_gt0, au_eq0, au_leT, au_leF, au_ltT, au_ltF, au_eqT, au_eqF, nI_clamp, nI_1, nI_add, pk_mul, au_sub1, au_subc, au_up2e, au_up2n, lit_of, hB.1.1, hB.1.2.1, hB.1.2.2.1, hB.1.2.2.2.1, hB.1.2.2.2.2.1, hB.1.2.2.2.2.2.1, hB.1.2.2.2.2.2.2.1, hB.1.2.2.2.2.2.2.2.1, hB.1.2.2.2.2.2.2.2.2.1, hB.1.2.2.2.2.2.2.2.2.2.1, hB.1.2.2.2.2.2.2.2.2.2.2.1, hB.1.2.2.2.2.2.2.2.2.2.2.2.1, hB.1.2.2.2.2.2.2.2.2.2.2.2.2.1, hB.1.2.2.2.2.2.2.2.2.2.2.2.2.2, hB.2.1, hB.2.2.1, hB.2.2.2.1, hB.2.2.2.2.1, hB.2.2.2.2.2.1, hB.2.2.2.2.2.2.1, hB.2.2.2.2.2.2.2.1, hB.2.2.2.2.2.2.2.2.1, hB.2.2.2.2.2.2.2.2.2.1, hB.2.2.2.2.2.2.2.2.2.2.1, hB.2.2.2.2.2.2.2.2.2.2.2.1, hB.2.2.2.2.2.2.2.2.2.2.2.2.1, hB.2.2.2.2.2.2.2.2.2.2.2.2.2, s3, C_wholeRows hB hbk g4 g5 g1 (hpat J' hJ') (show i < 64 by omega), C_setWord hc12 hN hiw rI_2 rI_3]
      refine ihn _ (by omega) (fun a ha => by rw [up2_off ha]; exact hJ' a ha) (fun w hw2 q hq => ?_)
      by_cases e : w = i
      · subst e
        simp (disch := omega) only [au_up2e]
        rw [bt_mskW (w := w) hN hiw hq, bt_xor, hJ' _ (by omega), f5.wd hiw hq, bt_whW hN hbk.2.2.2.1 hq _ (Nat.le_refl _), List.take_length]
        unfold J3 whB
        by_cases z : 64 * w + q < 2 ^ (σ.1 b).N
        · simp [z]
        · simp [z]
      · simp (disch := omega) only [au_up2n]; exact hw w (by omega) q hq
  exact key (wN (σ.1 b).N) 0 _ (by omega) (fun a ha => fil_off ha) (fun w hw => absurd hw (Nat.not_lt_zero _))
theorem CInv.gu {v : Int32} (h : CInv σ I J) : CInv (setG σ v) (up2 I 0 9 v) J := by
  obtain ⟨h1, h2, h4, h5, h6⟩ := h
  refine ⟨fun b hb => (h1 b hb).fr (fun c hc _ => up2_off (by unfold bkc at hc; omega)) (fun c _ hc => rfl), ?_, fun k a c => by rw [up2_off (by omega)]; exact h4 k a c, au_up2, h6⟩
  show (match σ.2.1 with
    | none => up2 I 0 9 v 0 8 = 0
    | some r => up2 I 0 9 v 0 8 = 1 ∧ up2 I 0 9 v 0 7 = nI r.length ∧ ∀ i, i < r.length → up2 I 0 9 v 120 i = iI (r.getD i 0))
  cases e : σ.2.1 with
  | none => rw [e] at h2; show up2 I 0 9 v 0 8 = 0; rw [au_up2k (by omega)]; exact h2
  | some r =>
    rw [e] at h2
    refine ⟨by rw [au_up2k (by omega)]; exact h2.1, by rw [au_up2k (by omega)]; exact h2.2.1, fun i hi => by rw [up2_off (by omega)]; exact h2.2.2 i hi⟩
theorem CInv.gu2 {v w : Int32} (h : CInv (setG σ v) I J) : CInv (setG σ w) (up2 I 0 9 w) J := h.gu
theorem CO_judge {x : Int32} (hs : sgOK σ) (h : CInv σ I J) (hk : CPost Ln I J K (oJudge σ x)) : ACall (d + 6) 89 [.ref 0, .int x] (G0 Ln) I J K := by
  rw [ACall_0 (L0 := [.ref 0, .int x, nv]) (show mcs 89 = (0, 0) from rfl) (show entL 89 [.ref 0, .int x] = _ from rfl) rfl (Nat.le_of_ble_eq_true rfl)]
  unfold oJudge at hk
  cases hx : bkOf x with
  | none =>
    simp only [hx] at hk
    obtain ⟨x0, x1⟩ := bkOf_none hx
    simp only [aw_aload_0 (pc2 := 1) D89_0 rfl, aw_aloadN_0 (pc2 := 1) D89_0 rfl, aw_iload_1 (pc2 := 2) D89_1 rfl, aw_iv1_0 (pc2 := 5) (o := 6) D89_2 rfl cT_6_55 rfl rfl, aw_astore_2 (pc2 := 6) D89_5 rfl, aw_astoreN_2 (pc2 := 6) D89_5 rfl, aw_aload_2 (pc2 := 7) D89_6 rfl, aw_aloadN_2 (pc2 := 7) D89_6 rfl, aw_ifnonnull (t := 17) D89_7 (by decide), aw_ifnonnullN (pc2 := 10) D89_7 rfl, aw_aload_0 (pc2 := 11) D89_10 rfl, aw_aloadN_0 (pc2 := 11) D89_10 rfl, aw_bipush (pc2 := 13) (y := -3) D89_11 rfl (by decide), aw_iv1_0 (pc2 := 16) (o := 6) D89_13 rfl cT_6_59 rfl rfl, aw_iret D89_16 rfl, sh_0, refV_s, refV_n, psh_s, psh_n, kil_i, kil_r, kil_n, kil_l, cat_i, cat_r, iOK_1, iOK_5, jOK_2, jOK_6, wOK_e, lOK_1, lOK_2, lOK_3, lOK_4, lOK_5, lOK_6, catS_0, catS_1, catS_2, catS_3, catS_4, and_self, true_and, and_true, true_or, or_true, false_or, or_false, not_true_eq_false, not_false_eq_true, if_true, if_false, ite_int, ite_int0, au_10, eq_self, decide_true, decide_false, Bool.true_and, Bool.false_and, C_bookAtN x0 x1, C_ref3]
    exact hk.ref h (by omega) (by omega)
  | some b =>
    simp only [hx] at hk
    obtain ⟨hb, rfl⟩ := bkOf_some hx
    have hB := bf (Ln := Ln) hb
    have hh := h.1 b hb
    have hN := (hs.1 b hb).2.1
    have hfc : ∀ c, 122 ≤ c → (c < bkc b ∨ bkc b + 14 ≤ c) := fun c hc => by unfold bkc; omega
    have hg := hh.2.2.2.2.2.2
    unfold CGo at hg
    cases e : (σ.1 b).g with
    | none =>
      rw [e] at hg
      simp only [e] at hk
      simp only [aw_aload_0 (pc2 := 1) D89_0 rfl, aw_aloadN_0 (pc2 := 1) D89_0 rfl, aw_iload_1 (pc2 := 2) D89_1 rfl, aw_iv1_0 (pc2 := 5) (o := 6) D89_2 rfl cT_6_55 rfl rfl, aw_astore_2 (pc2 := 6) D89_5 rfl, aw_astoreN_2 (pc2 := 6) D89_5 rfl, aw_aload_2 (pc2 := 7) D89_6 rfl, aw_aloadN_2 (pc2 := 7) D89_6 rfl, aw_ifnonnull (t := 17) D89_7 (by decide), aw_ifnonnullN (pc2 := 10) D89_7 rfl, aw_aload_0 (pc2 := 11) D89_10 rfl, aw_aloadN_0 (pc2 := 11) D89_10 rfl, aw_bipush (pc2 := 13) (y := -3) D89_11 rfl (by decide), aw_iv1_0 (pc2 := 16) (o := 6) D89_13 rfl cT_6_59 rfl rfl, aw_iret D89_16 rfl, aw_aload_2 (pc2 := 18) D89_17 rfl, aw_aloadN_2 (pc2 := 18) D89_17 rfl, aw_getI (pc2 := 21) (ci := 0) (fk := 8) D89_18 rfl fT_6_107 rfl, aw_if_ne (pc2 := 24) (t := 31) D89_21 (by decide) rfl, aw_aload_0 (pc2 := 25) D89_24 rfl, aw_aloadN_0 (pc2 := 25) D89_24 rfl, aw_bipush (pc2 := 27) (y := -2) D89_25 rfl (by decide), aw_iv1_0 (pc2 := 30) (o := 6) D89_27 rfl cT_6_59 rfl rfl, aw_iret D89_30 rfl, sh_0, refV_s, refV_n, psh_s, psh_n, kil_i, kil_r, kil_n, kil_l, cat_i, cat_r, iOK_1, iOK_5, jOK_2, jOK_6, wOK_e, lOK_1, lOK_2, lOK_3, lOK_4, lOK_5, lOK_6, catS_0, catS_1, catS_2, catS_3, catS_4, and_self, true_and, and_true, true_or, or_true, false_or, or_false, not_true_eq_false, not_false_eq_true, if_true, if_false, ite_int, ite_int0, au_10, eq_self, decide_true, decide_false, Bool.true_and, Bool.false_and, C_bookAt hb, C_ref2, hB.1.1, hg]
      exact hk.ref h (by omega) (by omega)
    | some g =>
      rw [e] at hg
      simp only [e] at hk
      have hgo := gr_get hs hb e
      have hcg : ∀ v, CG (bkc b) (σ.1 b).N g (up2 I 0 9 v) J := fun v => hg.2.fr (fun c hc _ => up2_off (by unfold bkc at hc; omega)) (fun _ _ _ => rfl)
      have e09 : ∀ (I' : IT) (v : Int32), up2 I' 0 9 v 0 9 = v := fun I' v => au_up2
      simp only [aw_aload_0 (pc2 := 1) D89_0 rfl, aw_aloadN_0 (pc2 := 1) D89_0 rfl, aw_iload_1 (pc2 := 2) D89_1 rfl, aw_iv1_0 (pc2 := 5) (o := 6) D89_2 rfl cT_6_55 rfl rfl, aw_astore_2 (pc2 := 6) D89_5 rfl, aw_astoreN_2 (pc2 := 6) D89_5 rfl, aw_aload_2 (pc2 := 7) D89_6 rfl, aw_aloadN_2 (pc2 := 7) D89_6 rfl, aw_ifnonnull (t := 17) D89_7 (by decide), aw_ifnonnullN (pc2 := 10) D89_7 rfl, aw_aload_0 (pc2 := 11) D89_10 rfl, aw_aloadN_0 (pc2 := 11) D89_10 rfl, aw_bipush (pc2 := 13) (y := -3) D89_11 rfl (by decide), aw_iv1_0 (pc2 := 16) (o := 6) D89_13 rfl cT_6_59 rfl rfl, aw_iret D89_16 rfl, aw_aload_2 (pc2 := 18) D89_17 rfl, aw_aloadN_2 (pc2 := 18) D89_17 rfl, aw_getI (pc2 := 21) (ci := 0) (fk := 8) D89_18 rfl fT_6_107 rfl, aw_if_ne (pc2 := 24) (t := 31) D89_21 (by decide) rfl, aw_aload_0 (pc2 := 25) D89_24 rfl, aw_aloadN_0 (pc2 := 25) D89_24 rfl, aw_bipush (pc2 := 27) (y := -2) D89_25 rfl (by decide), aw_iv1_0 (pc2 := 30) (o := 6) D89_27 rfl cT_6_59 rfl rfl, aw_iret D89_30 rfl, aw_aload_0 (pc2 := 32) D89_31 rfl, aw_aloadN_0 (pc2 := 32) D89_31 rfl, aw_aload_2 (pc2 := 33) D89_32 rfl, aw_aloadN_2 (pc2 := 33) D89_32 rfl, aw_getR (pc2 := 36) (ci := 0) (fk := 2) D89_33 rfl fT_6_120 rfl, aw_iv0_0 (pc2 := 39) (o := 1) D89_36 rfl cT_6_162 rfl rfl, aw_putI (pc2 := 42) (ci := 6) (fk := 9) D89_39 rfl fT_6_52 rfl, aw_aload_0 (pc2 := 43) D89_42 rfl, aw_aloadN_0 (pc2 := 43) D89_42 rfl, aw_getI (pc2 := 46) (ci := 6) (fk := 9) D89_43 rfl fT_6_52 rfl, aw_iconst (pc2 := 47) (y := -1) D89_46 rfl (by decide), aw_icmp_eq (pc2 := 50) (t := 52) D89_47 (by decide) rfl, sh_0, refV_s, refV_n, psh_s, psh_n, kil_i, kil_r, kil_n, kil_l, cat_i, cat_r, iOK_1, iOK_5, jOK_2, jOK_6, wOK_e, lOK_1, lOK_2, lOK_3, lOK_4, lOK_5, lOK_6, catS_0, catS_1, catS_2, catS_3, catS_4, and_self, true_and, and_true, true_or, or_true, false_or, or_false, not_true_eq_false, not_false_eq_true, if_true, if_false, ite_int, ite_int0, au_10, eq_self, decide_true, decide_false, Bool.true_and, Bool.false_and, C_bookAt hb, hB.1.1, hB.1.2.1, hB.1.2.2.1, hB.1.2.2.2.1, hB.1.2.2.2.2.1, hB.1.2.2.2.2.2.1, hB.1.2.2.2.2.2.2.1, hB.1.2.2.2.2.2.2.2.1, hB.1.2.2.2.2.2.2.2.2.1, hB.1.2.2.2.2.2.2.2.2.2.1, hB.1.2.2.2.2.2.2.2.2.2.2.1, hB.1.2.2.2.2.2.2.2.2.2.2.2.1, hB.1.2.2.2.2.2.2.2.2.2.2.2.2.1, hB.1.2.2.2.2.2.2.2.2.2.2.2.2.2, hB.2.1, hB.2.2.1, hB.2.2.2.1, hB.2.2.2.2.1, hB.2.2.2.2.2.1, hB.2.2.2.2.2.2.1, hB.2.2.2.2.2.2.2.1, hB.2.2.2.2.2.2.2.2.1, hB.2.2.2.2.2.2.2.2.2.1, hB.2.2.2.2.2.2.2.2.2.2.1, hB.2.2.2.2.2.2.2.2.2.2.2.1, hB.2.2.2.2.2.2.2.2.2.2.2.2.1, hB.2.2.2.2.2.2.2.2.2.2.2.2.2, hg.1, C_leastSharingBoth hB hN hgo hg.2, e09]
      by_cases h1 : scan (J1 g) g.1.length 0 = -1
      · rw [if_pos h1] at hk
        rw [if_pos h1]
        simp only [aw_aload_0 (pc2 := 53) D89_52 rfl, aw_aloadN_0 (pc2 := 53) D89_52 rfl, aw_aload_2 (pc2 := 54) D89_53 rfl, aw_aloadN_2 (pc2 := 54) D89_53 rfl, aw_getR (pc2 := 57) (ci := 0) (fk := 2) D89_54 rfl fT_6_120 rfl, aw_iv0_0 (pc2 := 60) (o := 1) D89_57 rfl cT_6_166 rfl rfl, aw_putI (pc2 := 63) (ci := 6) (fk := 9) D89_60 rfl fT_6_52 rfl, aw_aload_0 (pc2 := 64) D89_63 rfl, aw_aloadN_0 (pc2 := 64) D89_63 rfl, aw_getI (pc2 := 67) (ci := 6) (fk := 9) D89_64 rfl fT_6_52 rfl, aw_iconst (pc2 := 68) (y := -1) D89_67 rfl (by decide), aw_icmp_eq (pc2 := 71) (t := 73) D89_68 (by decide) rfl, sh_0, refV_s, refV_n, psh_s, psh_n, kil_i, kil_r, kil_n, kil_l, cat_i, cat_r, iOK_1, iOK_5, jOK_2, jOK_6, wOK_e, lOK_1, lOK_2, lOK_3, lOK_4, lOK_5, lOK_6, catS_0, catS_1, catS_2, catS_3, catS_4, and_self, true_and, and_true, true_or, or_true, false_or, or_false, not_true_eq_false, not_false_eq_true, if_true, if_false, ite_int, ite_int0, au_10, eq_self, decide_true, decide_false, Bool.true_and, Bool.false_and, hB.1.1, hB.1.2.1, hB.1.2.2.1, hB.1.2.2.2.1, hB.1.2.2.2.2.1, hB.1.2.2.2.2.2.1, hB.1.2.2.2.2.2.2.1, hB.1.2.2.2.2.2.2.2.1, hB.1.2.2.2.2.2.2.2.2.1, hB.1.2.2.2.2.2.2.2.2.2.1, hB.1.2.2.2.2.2.2.2.2.2.2.1, hB.1.2.2.2.2.2.2.2.2.2.2.2.1, hB.1.2.2.2.2.2.2.2.2.2.2.2.2.1, hB.1.2.2.2.2.2.2.2.2.2.2.2.2.2, hB.2.1, hB.2.2.1, hB.2.2.2.1, hB.2.2.2.2.1, hB.2.2.2.2.2.1, hB.2.2.2.2.2.2.1, hB.2.2.2.2.2.2.2.1, hB.2.2.2.2.2.2.2.2.1, hB.2.2.2.2.2.2.2.2.2.1, hB.2.2.2.2.2.2.2.2.2.2.1, hB.2.2.2.2.2.2.2.2.2.2.2.1, hB.2.2.2.2.2.2.2.2.2.2.2.2.1, hB.2.2.2.2.2.2.2.2.2.2.2.2.2, C_leastRepeatingChoice hB hN hgo (hcg _), e09]
        by_cases h2 : scan (J2 g) g.1.length 0 = -1
        · rw [if_pos h2] at hk
          rw [if_pos h2]
          simp only [aw_aload_0 (pc2 := 74) D89_73 rfl, aw_aloadN_0 (pc2 := 74) D89_73 rfl, aw_aload_2 (pc2 := 75) D89_74 rfl, aw_aloadN_2 (pc2 := 75) D89_74 rfl, aw_iv0_0 (pc2 := 78) (o := 0) D89_75 rfl cT_6_169 rfl rfl, sh_0, refV_s, refV_n, psh_s, psh_n, kil_i, kil_r, kil_n, kil_l, cat_i, cat_r, iOK_1, iOK_5, jOK_2, jOK_6, wOK_e, lOK_1, lOK_2, lOK_3, lOK_4, lOK_5, lOK_6, catS_0, catS_1, catS_2, catS_3, catS_4, and_self, true_and, and_true, true_or, or_true, false_or, or_false, not_true_eq_false, not_false_eq_true, if_true, if_false, ite_int, ite_int0, au_10, eq_self, decide_true, decide_false, Bool.true_and, Bool.false_and, hB.1.1, hB.1.2.1, hB.1.2.2.1, hB.1.2.2.2.1, hB.1.2.2.2.2.1, hB.1.2.2.2.2.2.1, hB.1.2.2.2.2.2.2.1, hB.1.2.2.2.2.2.2.2.1, hB.1.2.2.2.2.2.2.2.2.1, hB.1.2.2.2.2.2.2.2.2.2.1, hB.1.2.2.2.2.2.2.2.2.2.2.1, hB.1.2.2.2.2.2.2.2.2.2.2.2.1, hB.1.2.2.2.2.2.2.2.2.2.2.2.2.1, hB.1.2.2.2.2.2.2.2.2.2.2.2.2.2, hB.2.1, hB.2.2.1, hB.2.2.2.1, hB.2.2.2.2.1, hB.2.2.2.2.2.1, hB.2.2.2.2.2.2.1, hB.2.2.2.2.2.2.2.1, hB.2.2.2.2.2.2.2.2.1, hB.2.2.2.2.2.2.2.2.2.1, hB.2.2.2.2.2.2.2.2.2.2.1, hB.2.2.2.2.2.2.2.2.2.2.2.1, hB.2.2.2.2.2.2.2.2.2.2.2.2.1, hB.2.2.2.2.2.2.2.2.2.2.2.2.2]
          have hc2 : CInv (setG (setG σ (scan (J1 g) g.1.length 0)) (scan (J2 g) g.1.length 0)) (up2 (up2 I 0 9 (scan (J1 g) g.1.length 0)) 0 9 (scan (J2 g) g.1.length 0)) J := h.gu.gu
          refine C_leastRowToldWrong hb (σ := setG (setG σ (scan (J1 g) g.1.length 0)) (scan (J2 g) g.1.length 0)) hs hc2 e (fun I' J' c1 c2 => ?_)
          have hfI : FrC I I' := fun c hc => by rw [(c2 c (hfc c hc)).1, up2_off (by omega), up2_off (by omega)]
          have hfJ : FrC J J' := fun c hc => (c2 c (hfc c hc)).2
          have ej : J3 ((setG (setG σ (scan (J1 g) g.1.length 0)) (scan (J2 g) g.1.length 0)).1 b) g = J3 (σ.1 b) g := rfl
          have en : ((setG (setG σ (scan (J1 g) g.1.length 0)) (scan (J2 g) g.1.length 0)).1 b).N = (σ.1 b).N := rfl
          rw [ej, en]
          simp only [aw_putI (pc2 := 81) (ci := 6) (fk := 9) D89_78 rfl fT_6_52 rfl, aw_aload_0 (pc2 := 82) D89_81 rfl, aw_aloadN_0 (pc2 := 82) D89_81 rfl, aw_getI (pc2 := 85) (ci := 6) (fk := 9) D89_82 rfl fT_6_52 rfl, aw_iconst (pc2 := 86) (y := -1) D89_85 rfl (by decide), aw_icmp_ne (pc2 := 89) (t := 93) D89_86 (by decide) rfl, sh_0, refV_s, refV_n, psh_s, psh_n, kil_i, kil_r, kil_n, kil_l, cat_i, cat_r, iOK_1, iOK_5, jOK_2, jOK_6, wOK_e, lOK_1, lOK_2, lOK_3, lOK_4, lOK_5, lOK_6, catS_0, catS_1, catS_2, catS_3, catS_4, and_self, true_and, and_true, true_or, or_true, false_or, or_false, not_true_eq_false, not_false_eq_true, if_true, if_false, ite_int, ite_int0, au_10, eq_self, decide_true, decide_false, Bool.true_and, Bool.false_and, e09]
          have c3 : CInv (setG σ (scan (J3 (σ.1 b) g) (2 ^ (σ.1 b).N) 0)) (up2 I' 0 9 (scan (J3 (σ.1 b) g) (2 ^ (σ.1 b).N) 0)) J' := c1.gu
          by_cases h3 : scan (J3 (σ.1 b) g) (2 ^ (σ.1 b).N) 0 = -1
          · rw [if_pos h3] at hk
            rw [if_neg (fun q => q h3)]
            simp only [aw_iconst (pc2 := 90) (y := 0) D89_89 rfl (by decide), aw_goto (t := 94) D89_90 (by decide), aw_iconst (pc2 := 94) (y := 3) D89_93 rfl (by decide), aw_iret D89_94 rfl, sh_0, lit_3, refV_s, refV_n, psh_s, psh_n, kil_i, kil_r, kil_n, kil_l, cat_i, cat_r, iOK_1, iOK_5, jOK_2, jOK_6, wOK_e, lOK_1, lOK_2, lOK_3, lOK_4, lOK_5, lOK_6, catS_0, catS_1, catS_2, catS_3, catS_4, and_self, true_and, and_true, true_or, or_true, false_or, or_false, not_true_eq_false, not_false_eq_true, if_true, if_false, ite_int, ite_int0, au_10, eq_self, decide_true, decide_false, Bool.true_and, Bool.false_and]
            rw [h3] at c3 ⊢
            exact hk _ J' c3 (FrC.tr hfI (FrC.up (by omega))) hfJ
          · rw [if_neg h3] at hk
            rw [if_pos h3]
            simp only [aw_iconst (pc2 := 94) (y := 3) D89_93 rfl (by decide), aw_iret D89_94 rfl, refV_s, refV_n, psh_s, psh_n, kil_i, kil_r, kil_n, kil_l, cat_i, cat_r, iOK_1, iOK_5, jOK_2, jOK_6, wOK_e, lOK_1, lOK_2, lOK_3, lOK_4, lOK_5, lOK_6, catS_0, catS_1, catS_2, catS_3, catS_4, and_self, true_and, and_true, true_or, or_true, false_or, or_false, not_true_eq_false, not_false_eq_true, if_true, if_false, ite_int, ite_int0, au_10, eq_self, decide_true, decide_false, Bool.true_and, Bool.false_and]
            exact hk _ J' c3 (FrC.tr hfI (FrC.up (by omega))) hfJ
        · rw [if_neg h2] at hk
          rw [if_neg h2]
          simp only [aw_iconst (pc2 := 72) (y := 2) D89_71 rfl (by decide), aw_iret D89_72 rfl, refV_s, refV_n, psh_s, psh_n, kil_i, kil_r, kil_n, kil_l, cat_i, cat_r, iOK_1, iOK_5, jOK_2, jOK_6, wOK_e, lOK_1, lOK_2, lOK_3, lOK_4, lOK_5, lOK_6, catS_0, catS_1, catS_2, catS_3, catS_4, and_self, true_and, and_true, true_or, or_true, false_or, or_false, not_true_eq_false, not_false_eq_true, if_true, if_false, ite_int, ite_int0, au_10, eq_self, decide_true, decide_false, Bool.true_and, Bool.false_and]
          exact hk _ J (show CInv (setG (setG σ (scan (J1 g) g.1.length 0)) (scan (J2 g) g.1.length 0)) _ _ from h.gu.gu) (FrC.tr (FrC.up (by omega)) (FrC.up (by omega))) FrC.rf
      · rw [if_neg h1] at hk
        rw [if_neg h1]
        simp only [aw_iconst (pc2 := 51) (y := 1) D89_50 rfl (by decide), aw_iret D89_51 rfl, refV_s, refV_n, psh_s, psh_n, kil_i, kil_r, kil_n, kil_l, cat_i, cat_r, iOK_1, iOK_5, jOK_2, jOK_6, wOK_e, lOK_1, lOK_2, lOK_3, lOK_4, lOK_5, lOK_6, catS_0, catS_1, catS_2, catS_3, catS_4, and_self, true_and, and_true, true_or, or_true, false_or, or_false, not_true_eq_false, not_false_eq_true, if_true, if_false, ite_int, ite_int0, au_10, eq_self, decide_true, decide_false, Bool.true_and, Bool.false_and]
        exact hk _ J h.gu (FrC.up (by omega)) FrC.rf
end Judge
