/-- what node i says of a row -/
def sayN (N : Nat) (g : GR) (r i : Nat) : Bool := sayTo N g r (i + 1) i
theorem sayTo_lt (N : Nat) (g : GR) (r : Nat) {i : Nat} : ∀ {n : Nat}, i < n → sayTo N g r n i = sayN N g r i
  | 0, h => absurd h (Nat.not_lt_zero _)
  | n + 1, h => by
    by_cases e : i = n
    · subst e; rfl
    · have : sayTo N g r (n + 1) i = sayTo N g r n i := by
        show (if i = n then _ else _) = _
        rw [if_neg e]
      rw [this]
      exact sayTo_lt N g r (by omega)
theorem all_cong {f g : Nat → Bool} : ∀ {l : List Nat}, (∀ p ∈ l, f p = g p) → l.all f = l.all g
  | [], _ => rfl
  | p :: l, h => by
    rw [List.all_cons, List.all_cons, h p (List.mem_cons_self ..), all_cong (fun q hq => h q (List.mem_cons_of_mem _ hq))]
theorem getD_mem {l : List Nat} {j : Nat} (h : j < l.length) : l.getD j 0 ∈ l := by
  rw [List.getD_eq_getElem?_getD, List.getElem?_eq_getElem h]
  exact List.getElem_mem _
theorem say_step {M N : Nat} {g : GR} {r i : Nat} (h : ndOK M i (nodeAt g i)) : sayN N g r i = (if (nodeAt g i).1 = 2 then hld N (nodeAt g i).2.1 r else if (nodeAt g i).1 = 4 then (if hld N (nodeAt g i).2.1 r then sayN N g r ((nodeAt g i).2.2.getD 0 0) else sayN N g r ((nodeAt g i).2.2.getD 1 0)) else if (nodeAt g i).1 = 1 then false else (nodeAt g i).2.2.all (sayN N g r)) := by
  have e : sayN N g r i = (match (nodeAt g i).1 with
    | 2 => hld N (nodeAt g i).2.1 r
    | 4 => if hld N (nodeAt g i).2.1 r then sayTo N g r i ((nodeAt g i).2.2.getD 0 0) else sayTo N g r i ((nodeAt g i).2.2.getD 1 0)
    | 1 => false
    | _ => (nodeAt g i).2.2.all (sayTo N g r i)) := by
    show (if i = i then _ else _) = _
    rw [if_pos rfl]
    rfl
  rw [e]
  have hall : (nodeAt g i).2.2.all (sayTo N g r i) = (nodeAt g i).2.2.all (sayN N g r) := all_cong (fun p hp => sayTo_lt N g r (h.1 p hp))
  have h4 := (nd_kind h).2
  rcases (show (nodeAt g i).1 = 0 ∨ (nodeAt g i).1 = 1 ∨ (nodeAt g i).1 = 2 ∨ (nodeAt g i).1 = 3 ∨ (nodeAt g i).1 = 4 by omega) with q | q | q | q | q
  · simp [q, hall]
  · simp [q]
  · simp [q]
  · simp [q, hall]
  · have hl : (nodeAt g i).2.2.length = 2 := by
      rcases h.2 with z | z | z | z
      · omega
      · omega
      · omega
      · exact z.2.2.2
    have p0 := sayTo_lt N g r (h.1 _ (getD_mem (l := (nodeAt g i).2.2) (j := 0) (by omega)))
    have p1 := sayTo_lt N g r (h.1 _ (getD_mem (l := (nodeAt g i).2.2) (j := 1) (by omega)))
    rw [p0, p1]
    simp [q]
def aW (f : Nat → Int64) (ps : List Nat) : Nat → Int64
  | 0 => -1
  | j + 1 => aW f ps j &&& f (ps.getD j 0)
theorem bt_aW {f : Nat → Int64} {ps : List Nat} {q : Nat} (hq : q < 64) : ∀ n, n ≤ ps.length → bt (aW f ps n) q = (ps.take n).all (fun p => bt (f p) q)
  | 0, _ => by
    rw [List.take_zero]
    exact bt_m1 hq
  | n + 1, h => by
    rw [aW, bt_and, bt_aW hq n (by omega), List.take_succ, List.getElem?_eq_getElem (show n < ps.length by omega), List.all_append, List.getD_eq_getElem?_getD, List.getElem?_eq_getElem (show n < ps.length by omega)]
    simp
theorem bt_aW_all {f : Nat → Int64} {ps : List Nat} {q : Nat} (hq : q < 64) : bt (aW f ps ps.length) q = ps.all (fun p => bt (f p) q) := by
  rw [bt_aW hq _ (Nat.le_refl _), List.take_length]
/-- fixed signs of the first letters -/
def fxTo (N fx r : Nat) : Nat → Bool
  | 0 => true
  | l + 1 => fxTo N fx r l && ((!fx.testBit l || hld N ((l : Int) + 1) r) && (!fx.testBit (12 + l) || hld N (-((l : Int) + 1)) r))
/-- rows that a book's root says, where what is fixed holds -/
def rowT (k : BK) (g : GR) (r : Nat) : Bool := sayR k.N g r && fxTo k.N k.fx r k.N
section Said
variable {d Ln B N : Nat} {I : IT} {J : JT} {K : KT} {σ : SG}
theorem C_wordOfBoth {i : Nat} {ps : List Nat} (hB : BF Ln B) (hi : i < 1500) (h6 : I (B + 6) i = nI ps.length) (hl : ps.length ≤ 12) (h8 : ∀ j, j < ps.length → I (B + 8) (12 * i + j) = nI (ps.getD j 0) ∧ ps.getD j 0 < i) : ACall (d + 1) 33 [.ref (B + 3), .int (nI i)] (G0 Ln) I J K ↔ K (some (.long (aW (J (B + 9)) ps ps.length))) (G0 Ln) I J := by
  rw [ACall_0 (L0 := [.ref (B + 3), .int (nI i), nv, nv, nv, nv, nv]) (show mcs 33 = (0, 0) from rfl) (show entL 33 [.ref (B + 3), .int (nI i)] = _ from rfl) rfl (Nat.le_of_ble_eq_true rfl)]
  simp (disch := omega) only [aw_ldc2_w (pc2 := 3) (v := -1) D33_0 rfl (by decide), aw_lstore_2 (pc2 := 4) D33_3 rfl, aw_iload_1 (pc2 := 5) D33_4 rfl, aw_bipush (pc2 := 7) (y := 12) D33_5 rfl (by decide), aw_imul (pc2 := 8) D33_7 rfl, aw_istore_4 (pc2 := 10) D33_8 rfl, aw_iconst (pc2 := 11) (y := 0) D33_10 rfl (by decide), aw_istore_5 (pc2 := 13) D33_11 rfl, lit_12, refV_s, refV_n, psh_s, psh_n, kil_i, kil_r, kil_n, kil_l, cat_i, cat_r, iOK_1, iOK_5, jOK_2, jOK_6, wOK_e, lOK_1, lOK_2, lOK_3, lOK_4, lOK_5, lOK_6, catS_0, catS_1, catS_2, catS_3, catS_4, and_self, true_and, and_true, true_or, or_true, false_or, or_false, not_true_eq_false, not_false_eq_true, if_true, if_false, ite_int, ite_int0, au_10, eq_self, decide_true, decide_false, Bool.true_and, Bool.false_and, au_in, au_le, au_lt, au_eq, au_lt0, au_ge0, au_le0, au_gt0, au_eq0, au_leT, au_leF, au_ltT, au_ltF, au_eqT, au_eqF, nI_clamp, nI_1, nI_add, pk_mul, au_sub1, au_subc, au_up2e, au_up2n, lit_of, hB.1.1, hB.1.2.1, hB.1.2.2.1, hB.1.2.2.2.1, hB.1.2.2.2.2.1, hB.1.2.2.2.2.2.1, hB.1.2.2.2.2.2.2.1, hB.1.2.2.2.2.2.2.2.1, hB.1.2.2.2.2.2.2.2.2.1, hB.1.2.2.2.2.2.2.2.2.2.1, hB.1.2.2.2.2.2.2.2.2.2.2.1, hB.1.2.2.2.2.2.2.2.2.2.2.2.1, hB.1.2.2.2.2.2.2.2.2.2.2.2.2.1, hB.1.2.2.2.2.2.2.2.2.2.2.2.2.2, hB.2.1, hB.2.2.1, hB.2.2.2.1, hB.2.2.2.2.1, hB.2.2.2.2.2.1, hB.2.2.2.2.2.2.1, hB.2.2.2.2.2.2.2.1, hB.2.2.2.2.2.2.2.2.1, hB.2.2.2.2.2.2.2.2.2.1, hB.2.2.2.2.2.2.2.2.2.2.1, hB.2.2.2.2.2.2.2.2.2.2.2.1, hB.2.2.2.2.2.2.2.2.2.2.2.2.1, hB.2.2.2.2.2.2.2.2.2.2.2.2.2]
  have key : ∀ m j v, j + m = ps.length → kil v = v → (AW d ((G0 Ln).1, (G0 Ln).2.1) K 33 13 [.ref (B + 3), .int (nI i), .long (aW (J (B + 9)) ps j), nv, .int (nI (i * 12)), .int (nI j), v] [] (G0 Ln) I J ↔ K (some (.long (aW (J (B + 9)) ps ps.length))) (G0 Ln) I J) := by
    intro m
    induction m with
    | zero =>
      intro j v hj hv
      have e : j = ps.length := by omega
      subst e
      simp (disch := omega) only [aw_iload_5 (pc2 := 15) D33_13 rfl, aw_aload_0 (pc2 := 16) D33_15 rfl, aw_getR (pc2 := 19) (ci := 1) (fk := 2) D33_16 rfl fT_1_18 rfl, aw_iload_1 (pc2 := 20) D33_19 rfl, aw_iaload (pc2 := 21) D33_20 rfl, aw_icmp_ge (pc2 := 24) (t := 74) D33_21 (by decide) rfl, aw_lload_2 (pc2 := 75) D33_74 rfl, aw_lret D33_75 rfl, lit_12, refV_s, refV_n, psh_s, psh_n, kil_i, kil_r, kil_n, kil_l, cat_i, cat_r, iOK_1, iOK_5, jOK_2, jOK_6, wOK_e, lOK_1, lOK_2, lOK_3, lOK_4, lOK_5, lOK_6, catS_0, catS_1, catS_2, catS_3, catS_4, and_self, true_and, and_true, true_or, or_true, false_or, or_false, not_true_eq_false, not_false_eq_true, if_true, if_false, ite_int, ite_int0, au_10, eq_self, decide_true, decide_false, Bool.true_and, Bool.false_and, au_in, au_le, au_lt, au_eq, au_lt0, au_ge0, au_le0, au_gt0, au_eq0, au_leT, au_leF, au_ltT, au_ltF, au_eqT, au_eqF, nI_clamp, nI_1, nI_add, pk_mul, au_sub1, au_subc, au_up2e, au_up2n, lit_of, hB.1.1, hB.1.2.1, hB.1.2.2.1, hB.1.2.2.2.1, hB.1.2.2.2.2.1, hB.1.2.2.2.2.2.1, hB.1.2.2.2.2.2.2.1, hB.1.2.2.2.2.2.2.2.1, hB.1.2.2.2.2.2.2.2.2.1, hB.1.2.2.2.2.2.2.2.2.2.1, hB.1.2.2.2.2.2.2.2.2.2.2.1, hB.1.2.2.2.2.2.2.2.2.2.2.2.1, hB.1.2.2.2.2.2.2.2.2.2.2.2.2.1, hB.1.2.2.2.2.2.2.2.2.2.2.2.2.2, hB.2.1, hB.2.2.1, hB.2.2.2.1, hB.2.2.2.2.1, hB.2.2.2.2.2.1, hB.2.2.2.2.2.2.1, hB.2.2.2.2.2.2.2.1, hB.2.2.2.2.2.2.2.2.1, hB.2.2.2.2.2.2.2.2.2.1, hB.2.2.2.2.2.2.2.2.2.2.1, hB.2.2.2.2.2.2.2.2.2.2.2.1, hB.2.2.2.2.2.2.2.2.2.2.2.2.1, hB.2.2.2.2.2.2.2.2.2.2.2.2.2, h6]
    | succ m ih =>
      intro j v hj hv
      obtain ⟨q1, q2⟩ := h8 j (by omega)
      have ihn := ih (j + 1) (.int (nI (ps.getD j 0))) (by omega) rfl
      rw [aW] at ihn
      rw [aw_iload_5 (pc2 := 15) D33_13 rfl]
      simp (disch := omega) only [aw_aload_0 (pc2 := 16) D33_15 rfl, aw_getR (pc2 := 19) (ci := 1) (fk := 2) D33_16 rfl fT_1_18 rfl, aw_iload_1 (pc2 := 20) D33_19 rfl, aw_iaload (pc2 := 21) D33_20 rfl, aw_icmp_ge (pc2 := 24) (t := 74) D33_21 (by decide) rfl, aw_iload_5 (pc2 := 26) D33_24 rfl, aw_bipush (pc2 := 28) (y := 12) D33_26 rfl (by decide), aw_icmp_ge (pc2 := 31) (t := 74) D33_28 (by decide) rfl, aw_aload_0 (pc2 := 32) D33_31 rfl, aw_getR (pc2 := 35) (ci := 1) (fk := 4) D33_32 rfl fT_1_24 rfl, aw_iload_4 (pc2 := 37) D33_35 rfl, aw_iload_5 (pc2 := 39) D33_37 rfl, aw_iadd (pc2 := 40) D33_39 rfl, aw_iaload (pc2 := 41) D33_40 rfl, aw_istore_6 (pc2 := 43) D33_41 rfl, aw_lload_2 (pc2 := 44) D33_43 rfl, aw_iload_6 (pc2 := 46) D33_44 rfl, aw_if_lt (pc2 := 49) (t := 65) D33_46 (by decide) rfl, aw_iload_6 (pc2 := 51) D33_49 rfl, aw_iload_1 (pc2 := 52) D33_51 rfl, aw_icmp_ge (pc2 := 55) (t := 65) D33_52 (by decide) rfl, aw_aload_0 (pc2 := 56) D33_55 rfl, aw_getR (pc2 := 59) (ci := 1) (fk := 5) D33_56 rfl fT_1_27 rfl, aw_iload_6 (pc2 := 61) D33_59 rfl, aw_laload (pc2 := 62) D33_61 rfl, aw_goto (t := 66) D33_62 (by decide), aw_lconst (pc2 := 66) (y := 0) D33_65 rfl (by decide), aw_land (pc2 := 67) D33_66 rfl, aw_lstore_2 (pc2 := 68) D33_67 rfl, aw_iinc_5 (pc2 := 71) (y := 1) D33_68 rfl (by decide), aw_goto (t := 13) D33_71 (by decide), lit_12, refV_s, refV_n, psh_s, psh_n, kil_i, kil_r, kil_n, kil_l, cat_i, cat_r, iOK_1, iOK_5, jOK_2, jOK_6, wOK_e, lOK_1, lOK_2, lOK_3, lOK_4, lOK_5, lOK_6, catS_0, catS_1, catS_2, catS_3, catS_4, and_self, true_and, and_true, true_or, or_true, false_or, or_false, not_true_eq_false, not_false_eq_true, if_true, if_false, ite_int, ite_int0, au_10, eq_self, decide_true, decide_false, Bool.true_and, Bool.false_and, au_in, au_le, au_lt, au_eq, au_lt0, au_ge0, au_le0, au_gt0, au_eq0, au_leT, au_leF, au_ltT, au_ltF, au_eqT, au_eqF, nI_clamp, nI_1, nI_add, pk_mul, au_sub1, au_subc, au_up2e, au_up2n, lit_of, hB.1.1, hB.1.2.1, hB.1.2.2.1, hB.1.2.2.2.1, hB.1.2.2.2.2.1, hB.1.2.2.2.2.2.1, hB.1.2.2.2.2.2.2.1, hB.1.2.2.2.2.2.2.2.1, hB.1.2.2.2.2.2.2.2.2.1, hB.1.2.2.2.2.2.2.2.2.2.1, hB.1.2.2.2.2.2.2.2.2.2.2.1, hB.1.2.2.2.2.2.2.2.2.2.2.2.1, hB.1.2.2.2.2.2.2.2.2.2.2.2.2.1, hB.1.2.2.2.2.2.2.2.2.2.2.2.2.2, hB.2.1, hB.2.2.1, hB.2.2.2.1, hB.2.2.2.2.1, hB.2.2.2.2.2.1, hB.2.2.2.2.2.2.1, hB.2.2.2.2.2.2.2.1, hB.2.2.2.2.2.2.2.2.1, hB.2.2.2.2.2.2.2.2.2.1, hB.2.2.2.2.2.2.2.2.2.2.1, hB.2.2.2.2.2.2.2.2.2.2.2.1, hB.2.2.2.2.2.2.2.2.2.2.2.2.1, hB.2.2.2.2.2.2.2.2.2.2.2.2.2, h6, show i * 12 + j = 12 * i + j by omega, q1]
      exact ihn
  exact key ps.length 0 nv (by omega) rfl
theorem C_wordOfChoice {i p0 p1 : Nat} {y : Int64} (hB : BF Ln B) (hi : i < 1500) (h0 : I (B + 8) (12 * i) = nI p0) (h1 : I (B + 8) (12 * i + 1) = nI p1) (hp0 : p0 < i) (hp1 : p1 < i) : ACall (d + 1) 34 [.ref (B + 3), .int (nI i), .long y] (G0 Ln) I J K ↔ K (some (.long ((y &&& J (B + 9) p0) ||| ((y ^^^ -1) &&& J (B + 9) p1)))) (G0 Ln) I J := by
  rw [ACall_0 (L0 := [.ref (B + 3), .int (nI i), .long y, nv, nv, nv, nv]) (show mcs 34 = (0, 0) from rfl) (show entL 34 [.ref (B + 3), .int (nI i), .long y] = _ from rfl) rfl (Nat.le_of_ble_eq_true rfl)]
  simp (disch := omega) only [aw_iload_1 (pc2 := 1) D34_0 rfl, aw_bipush (pc2 := 3) (y := 12) D34_1 rfl (by decide), aw_imul (pc2 := 4) D34_3 rfl, aw_istore_4 (pc2 := 6) D34_4 rfl, aw_aload_0 (pc2 := 7) D34_6 rfl, aw_getR (pc2 := 10) (ci := 1) (fk := 4) D34_7 rfl fT_1_24 rfl, aw_iload_4 (pc2 := 12) D34_10 rfl, aw_iaload (pc2 := 13) D34_12 rfl, aw_istore_5 (pc2 := 15) D34_13 rfl, aw_aload_0 (pc2 := 16) D34_15 rfl, aw_getR (pc2 := 19) (ci := 1) (fk := 4) D34_16 rfl fT_1_24 rfl, aw_iload_4 (pc2 := 21) D34_19 rfl, aw_iconst (pc2 := 22) (y := 1) D34_21 rfl (by decide), aw_iadd (pc2 := 23) D34_22 rfl, aw_iaload (pc2 := 24) D34_23 rfl, aw_istore_6 (pc2 := 26) D34_24 rfl, aw_iload_5 (pc2 := 28) D34_26 rfl, aw_if_lt (pc2 := 31) (t := 48) D34_28 (by decide) rfl, aw_iload_5 (pc2 := 33) D34_31 rfl, aw_iload_1 (pc2 := 34) D34_33 rfl, aw_icmp_ge (pc2 := 37) (t := 48) D34_34 (by decide) rfl, aw_iload_6 (pc2 := 39) D34_37 rfl, aw_if_lt (pc2 := 42) (t := 48) D34_39 (by decide) rfl, aw_iload_6 (pc2 := 44) D34_42 rfl, aw_iload_1 (pc2 := 45) D34_44 rfl, aw_icmp_lt (pc2 := 48) (t := 50) D34_45 (by decide) rfl, aw_lconst (pc2 := 49) (y := 0) D34_48 rfl (by decide), aw_lret D34_49 rfl, aw_lload_2 (pc2 := 51) D34_50 rfl, aw_aload_0 (pc2 := 52) D34_51 rfl, aw_getR (pc2 := 55) (ci := 1) (fk := 5) D34_52 rfl fT_1_27 rfl, aw_iload_5 (pc2 := 57) D34_55 rfl, aw_laload (pc2 := 58) D34_57 rfl, aw_land (pc2 := 59) D34_58 rfl, aw_lload_2 (pc2 := 60) D34_59 rfl, aw_ldc2_w (pc2 := 63) (v := -1) D34_60 rfl (by decide), aw_lxor (pc2 := 64) D34_63 rfl, aw_aload_0 (pc2 := 65) D34_64 rfl, aw_getR (pc2 := 68) (ci := 1) (fk := 5) D34_65 rfl fT_1_27 rfl, aw_iload_6 (pc2 := 70) D34_68 rfl, aw_laload (pc2 := 71) D34_70 rfl, aw_land (pc2 := 72) D34_71 rfl, aw_lor (pc2 := 73) D34_72 rfl, aw_lret D34_73 rfl, lit_12, refV_s, refV_n, psh_s, psh_n, kil_i, kil_r, kil_n, kil_l, cat_i, cat_r, iOK_1, iOK_5, jOK_2, jOK_6, wOK_e, lOK_1, lOK_2, lOK_3, lOK_4, lOK_5, lOK_6, catS_0, catS_1, catS_2, catS_3, catS_4, and_self, true_and, and_true, true_or, or_true, false_or, or_false, not_true_eq_false, not_false_eq_true, if_true, if_false, ite_int, ite_int0, au_10, eq_self, decide_true, decide_false, Bool.true_and, Bool.false_and, au_in, au_le, au_lt, au_eq, au_lt0, au_ge0, au_le0, au_gt0, au_eq0, au_leT, au_leF, au_ltT, au_ltF, au_eqT, au_eqF, nI_clamp, nI_1, nI_add, pk_mul, au_sub1, au_subc, au_up2e, au_up2n, lit_of, hB.1.1, hB.1.2.1, hB.1.2.2.1, hB.1.2.2.2.1, hB.1.2.2.2.2.1, hB.1.2.2.2.2.2.1, hB.1.2.2.2.2.2.2.1, hB.1.2.2.2.2.2.2.2.1, hB.1.2.2.2.2.2.2.2.2.1, hB.1.2.2.2.2.2.2.2.2.2.1, hB.1.2.2.2.2.2.2.2.2.2.2.1, hB.1.2.2.2.2.2.2.2.2.2.2.2.1, hB.1.2.2.2.2.2.2.2.2.2.2.2.2.1, hB.1.2.2.2.2.2.2.2.2.2.2.2.2.2, hB.2.1, hB.2.2.1, hB.2.2.2.1, hB.2.2.2.2.1, hB.2.2.2.2.2.1, hB.2.2.2.2.2.2.1, hB.2.2.2.2.2.2.2.1, hB.2.2.2.2.2.2.2.2.1, hB.2.2.2.2.2.2.2.2.2.1, hB.2.2.2.2.2.2.2.2.2.2.1, hB.2.2.2.2.2.2.2.2.2.2.2.1, hB.2.2.2.2.2.2.2.2.2.2.2.2.1, hB.2.2.2.2.2.2.2.2.2.2.2.2.2, show i * 12 = 12 * i by omega, h0, h1]
theorem C_wordOfNode {i w : Nat} {g : GR} {J0 : JT} (hB : BF Ln B) (hN : N ≤ 12) (hw : w < 64) (hgo : grOK N g) (hg : CG B N g I J0) (hJ : ∀ j, J patC j = pat j) (hi : i < g.1.length) (hp : ∀ p, p < i → ∀ q, q < 64 → bt (J (B + 9) p) q = sayN N g (64 * w + q) p) (hk : ∀ x, (∀ q, q < 64 → bt x q = sayN N g (64 * w + q) i) → K (some (.long x)) (G0 Ln) I J) : ACall (d + 2) 32 [.ref (B + 3), .int (nI i), .int (nI N), .int (nI w)] (G0 Ln) I J K := by
  rw [ACall_0 (L0 := [.ref (B + 3), .int (nI i), .int (nI N), .int (nI w)]) (show mcs 32 = (0, 0) from rfl) (show entL 32 [.ref (B + 3), .int (nI i), .int (nI N), .int (nI w)] = _ from rfl) rfl (Nat.le_of_ble_eq_true rfl)]
  obtain ⟨n1, n2, n3, n4, n5⟩ := hg.2.2.2.1 i hi
  have hno := node_ok hgo hi
  have h15 := hgo.2.1
  have hst := fun r => say_step (N := N) (r := r) hno
  have h4 := (nd_kind hno).2
  have ho := hno.2
  have hlt : ∀ j, j < (nodeAt g i).2.2.length → (nodeAt g i).2.2.getD j 0 < i := fun j hj => nd_part hno hj
  simp (disch := omega) only [aw_aload_0 (pc2 := 1) D32_0 rfl, aw_getR (pc2 := 4) (ci := 1) (fk := 0) D32_1 rfl fT_1_9 rfl, aw_iload_1 (pc2 := 5) D32_4 rfl, aw_iaload (pc2 := 6) D32_5 rfl, refV_s, refV_n, psh_s, psh_n, kil_i, kil_r, kil_n, kil_l, cat_i, cat_r, iOK_1, iOK_5, jOK_2, jOK_6, wOK_e, lOK_1, lOK_2, lOK_3, lOK_4, lOK_5, lOK_6, catS_0, catS_1, catS_2, catS_3, catS_4, and_self, true_and, and_true, true_or, or_true, false_or, or_false, not_true_eq_false, not_false_eq_true, if_true, if_false, ite_int, ite_int0, au_10, eq_self, decide_true, decide_false, Bool.true_and, Bool.false_and, au_in, au_le, au_lt, au_eq, au_lt0, au_ge0, au_le0, au_gt0, au_eq0, au_leT, au_leF, au_ltT, au_ltF, au_eqT, au_eqF, nI_clamp, nI_1, nI_add, pk_mul, au_sub1, au_subc, au_up2e, au_up2n, lit_of, hB.1.1, hB.1.2.1, hB.1.2.2.1, hB.1.2.2.2.1, hB.1.2.2.2.2.1, hB.1.2.2.2.2.2.1, hB.1.2.2.2.2.2.2.1, hB.1.2.2.2.2.2.2.2.1, hB.1.2.2.2.2.2.2.2.2.1, hB.1.2.2.2.2.2.2.2.2.2.1, hB.1.2.2.2.2.2.2.2.2.2.2.1, hB.1.2.2.2.2.2.2.2.2.2.2.2.1, hB.1.2.2.2.2.2.2.2.2.2.2.2.2.1, hB.1.2.2.2.2.2.2.2.2.2.2.2.2.2, hB.2.1, hB.2.2.1, hB.2.2.2.1, hB.2.2.2.2.1, hB.2.2.2.2.2.1, hB.2.2.2.2.2.2.1, hB.2.2.2.2.2.2.2.1, hB.2.2.2.2.2.2.2.2.1, hB.2.2.2.2.2.2.2.2.2.1, hB.2.2.2.2.2.2.2.2.2.2.1, hB.2.2.2.2.2.2.2.2.2.2.2.1, hB.2.2.2.2.2.2.2.2.2.2.2.2.1, hB.2.2.2.2.2.2.2.2.2.2.2.2.2, n1]
  have ej : (nI (nodeAt g i).1).toInt = 0 + ((nodeAt g i).1 : Int) := by rw [nI_toInt (by omega)]; omega
  rcases (show (nodeAt g i).1 = 0 ∨ (nodeAt g i).1 = 1 ∨ (nodeAt g i).1 = 2 ∨ (nodeAt g i).1 = 3 ∨ (nodeAt g i).1 = 4 by omega) with q | q | q | q | q
  · rw [q] at ej ⊢
    rw [aw_tsw_in D32_6 ej (by decide) rfl (t := 40) (by decide)]
    simp only [aw_ldc2_w (pc2 := 43) (v := -1) D32_40 rfl (by decide), aw_lret D32_43 rfl, refV_s, refV_n, psh_s, psh_n, kil_i, kil_r, kil_n, kil_l, cat_i, cat_r, iOK_1, iOK_5, jOK_2, jOK_6, wOK_e, lOK_1, lOK_2, lOK_3, lOK_4, lOK_5, lOK_6, catS_0, catS_1, catS_2, catS_3, catS_4, and_self, true_and, and_true, true_or, or_true, false_or, or_false, not_true_eq_false, not_false_eq_true, if_true, if_false, ite_int, ite_int0, au_10, eq_self, decide_true, decide_false, Bool.true_and, Bool.false_and]
    refine hk _ (fun z hz => ?_)
    have hl : (nodeAt g i).2.2 = [] := (nd_kind hno).1.mp (by omega)
    rw [bt_m1 hz, hst, q, hl]
    rfl
  · rw [q] at ej ⊢
    rw [aw_tsw_in D32_6 ej (by decide) rfl (t := 79) (by decide)]
    simp only [aw_lconst (pc2 := 80) (y := 0) D32_79 rfl (by decide), aw_lret D32_80 rfl, refV_s, refV_n, psh_s, psh_n, kil_i, kil_r, kil_n, kil_l, cat_i, cat_r, iOK_1, iOK_5, jOK_2, jOK_6, wOK_e, lOK_1, lOK_2, lOK_3, lOK_4, lOK_5, lOK_6, catS_0, catS_1, catS_2, catS_3, catS_4, and_self, true_and, and_true, true_or, or_true, false_or, or_false, not_true_eq_false, not_false_eq_true, if_true, if_false, ite_int, ite_int0, au_10, eq_self, decide_true, decide_false, Bool.true_and, Bool.false_and]
    refine hk _ (fun z hz => ?_)
    rw [bt_0, hst, q]
    rfl
  · rw [q] at ej ⊢
    rw [aw_tsw_in D32_6 ej (by decide) rfl (t := 44) (by decide)]
    have hs : (nodeAt g i).2.1 ≠ 0 ∧ -(N : Int) ≤ (nodeAt g i).2.1 ∧ (nodeAt g i).2.1 ≤ N := by
      rcases ho with z | z | z | z
      · omega
      · exact ⟨z.2.1, z.2.2.1, z.2.2.2.1⟩
      · omega
      · omega
    simp (disch := omega) only [aw_aload_0 (pc2 := 45) D32_44 rfl, aw_getR (pc2 := 48) (ci := 1) (fk := 1) D32_45 rfl fT_1_15 rfl, aw_iload_1 (pc2 := 49) D32_48 rfl, aw_iaload (pc2 := 50) D32_49 rfl, aw_iload_2 (pc2 := 51) D32_50 rfl, aw_iload_3 (pc2 := 52) D32_51 rfl, aw_is3_3 (pc2 := 55) D32_52 rfl cT_1_104 rfl, aw_lret D32_55 rfl, refV_s, refV_n, psh_s, psh_n, kil_i, kil_r, kil_n, kil_l, cat_i, cat_r, iOK_1, iOK_5, jOK_2, jOK_6, wOK_e, lOK_1, lOK_2, lOK_3, lOK_4, lOK_5, lOK_6, catS_0, catS_1, catS_2, catS_3, catS_4, and_self, true_and, and_true, true_or, or_true, false_or, or_false, not_true_eq_false, not_false_eq_true, if_true, if_false, ite_int, ite_int0, au_10, eq_self, decide_true, decide_false, Bool.true_and, Bool.false_and, au_in, au_le, au_lt, au_eq, au_lt0, au_ge0, au_le0, au_gt0, au_eq0, au_leT, au_leF, au_ltT, au_ltF, au_eqT, au_eqF, nI_clamp, nI_1, nI_add, pk_mul, au_sub1, au_subc, au_up2e, au_up2n, lit_of, hB.1.1, hB.1.2.1, hB.1.2.2.1, hB.1.2.2.2.1, hB.1.2.2.2.2.1, hB.1.2.2.2.2.2.1, hB.1.2.2.2.2.2.2.1, hB.1.2.2.2.2.2.2.2.1, hB.1.2.2.2.2.2.2.2.2.1, hB.1.2.2.2.2.2.2.2.2.2.1, hB.1.2.2.2.2.2.2.2.2.2.2.1, hB.1.2.2.2.2.2.2.2.2.2.2.2.1, hB.1.2.2.2.2.2.2.2.2.2.2.2.2.1, hB.1.2.2.2.2.2.2.2.2.2.2.2.2.2, hB.2.1, hB.2.2.1, hB.2.2.2.1, hB.2.2.2.2.1, hB.2.2.2.2.2.1, hB.2.2.2.2.2.2.1, hB.2.2.2.2.2.2.2.1, hB.2.2.2.2.2.2.2.2.1, hB.2.2.2.2.2.2.2.2.2.1, hB.2.2.2.2.2.2.2.2.2.2.1, hB.2.2.2.2.2.2.2.2.2.2.2.1, hB.2.2.2.2.2.2.2.2.2.2.2.2.1, hB.2.2.2.2.2.2.2.2.2.2.2.2.2, n2, C_rowsWhere hJ hN hs.1 hs.2.1 hs.2.2 hw]
    refine hk _ (fun z hz => ?_)
    rw [bt_rwv hz hs.1, hst, if_pos q]
  · rw [q] at ej ⊢
    rw [aw_tsw_in D32_6 ej (by decide) rfl (t := 56) (by decide)]
    simp (disch := omega) only [aw_aload_0 (pc2 := 57) D32_56 rfl, aw_iload_1 (pc2 := 58) D32_57 rfl, aw_iv1_0 (pc2 := 61) (o := 1) D32_58 rfl cT_1_107 rfl rfl, aw_lret D32_61 rfl, refV_s, refV_n, psh_s, psh_n, kil_i, kil_r, kil_n, kil_l, cat_i, cat_r, iOK_1, iOK_5, jOK_2, jOK_6, wOK_e, lOK_1, lOK_2, lOK_3, lOK_4, lOK_5, lOK_6, catS_0, catS_1, catS_2, catS_3, catS_4, and_self, true_and, and_true, true_or, or_true, false_or, or_false, not_true_eq_false, not_false_eq_true, if_true, if_false, ite_int, ite_int0, au_10, eq_self, decide_true, decide_false, Bool.true_and, Bool.false_and, au_in, au_le, au_lt, au_eq, au_lt0, au_ge0, au_le0, au_gt0, au_eq0, au_leT, au_leF, au_ltT, au_ltF, au_eqT, au_eqF, nI_clamp, nI_1, nI_add, pk_mul, au_sub1, au_subc, au_up2e, au_up2n, lit_of, hB.1.1, hB.1.2.1, hB.1.2.2.1, hB.1.2.2.2.1, hB.1.2.2.2.2.1, hB.1.2.2.2.2.2.1, hB.1.2.2.2.2.2.2.1, hB.1.2.2.2.2.2.2.2.1, hB.1.2.2.2.2.2.2.2.2.1, hB.1.2.2.2.2.2.2.2.2.2.1, hB.1.2.2.2.2.2.2.2.2.2.2.1, hB.1.2.2.2.2.2.2.2.2.2.2.2.1, hB.1.2.2.2.2.2.2.2.2.2.2.2.2.1, hB.1.2.2.2.2.2.2.2.2.2.2.2.2.2, hB.2.1, hB.2.2.1, hB.2.2.2.1, hB.2.2.2.2.1, hB.2.2.2.2.2.1, hB.2.2.2.2.2.2.1, hB.2.2.2.2.2.2.2.1, hB.2.2.2.2.2.2.2.2.1, hB.2.2.2.2.2.2.2.2.2.1, hB.2.2.2.2.2.2.2.2.2.2.1, hB.2.2.2.2.2.2.2.2.2.2.2.1, hB.2.2.2.2.2.2.2.2.2.2.2.2.1, hB.2.2.2.2.2.2.2.2.2.2.2.2.2, C_wordOfBoth hB (show i < 1500 by omega) n3 (nd_len hno) (fun j hj => ⟨n5 j hj, hlt j hj⟩)]
    refine hk _ (fun z hz => ?_)
    rw [bt_aW_all hz, hst, if_neg (by omega), if_neg (by omega), if_neg (by omega)]
    exact all_cong (fun p hp2 => hp p (hno.1 p hp2) z hz)
  · rw [q] at ej ⊢
    rw [aw_tsw_in D32_6 ej (by decide) rfl (t := 62) (by decide)]
    have hs : 1 ≤ (nodeAt g i).2.1 ∧ (nodeAt g i).2.1 ≤ N ∧ (nodeAt g i).2.2.length = 2 := by
      rcases ho with z | z | z | z
      · omega
      · omega
      · omega
      · exact ⟨z.2.1, z.2.2.1, z.2.2.2⟩
    have l0 := hlt 0 (by omega)
    have l1 := hlt 1 (by omega)
    have m0 := n5 0 (by omega)
    have m1 := n5 1 (by omega)
    rw [Nat.add_zero] at m0
    simp (disch := omega) only [aw_aload_0 (pc2 := 63) D32_62 rfl, aw_iload_1 (pc2 := 64) D32_63 rfl, aw_aload_0 (pc2 := 65) D32_64 rfl, aw_getR (pc2 := 68) (ci := 1) (fk := 1) D32_65 rfl fT_1_15 rfl, aw_iload_1 (pc2 := 69) D32_68 rfl, aw_iaload (pc2 := 70) D32_69 rfl, aw_iload_2 (pc2 := 71) D32_70 rfl, aw_iload_3 (pc2 := 72) D32_71 rfl, aw_is3_3 (pc2 := 75) D32_72 rfl cT_1_104 rfl, aw_iv2_0 (pc2 := 78) (o := 1) D32_75 rfl cT_1_111 rfl rfl, aw_lret D32_78 rfl, refV_s, refV_n, psh_s, psh_n, kil_i, kil_r, kil_n, kil_l, cat_i, cat_r, iOK_1, iOK_5, jOK_2, jOK_6, wOK_e, lOK_1, lOK_2, lOK_3, lOK_4, lOK_5, lOK_6, catS_0, catS_1, catS_2, catS_3, catS_4, and_self, true_and, and_true, true_or, or_true, false_or, or_false, not_true_eq_false, not_false_eq_true, if_true, if_false, ite_int, ite_int0, au_10, eq_self, decide_true, decide_false, Bool.true_and, Bool.false_and, au_in, au_le, au_lt, au_eq, au_lt0, au_ge0, au_le0, au_gt0, au_eq0, au_leT, au_leF, au_ltT, au_ltF, au_eqT, au_eqF, nI_clamp, nI_1, nI_add, pk_mul, au_sub1, au_subc, au_up2e, au_up2n, lit_of, hB.1.1, hB.1.2.1, hB.1.2.2.1, hB.1.2.2.2.1, hB.1.2.2.2.2.1, hB.1.2.2.2.2.2.1, hB.1.2.2.2.2.2.2.1, hB.1.2.2.2.2.2.2.2.1, hB.1.2.2.2.2.2.2.2.2.1, hB.1.2.2.2.2.2.2.2.2.2.1, hB.1.2.2.2.2.2.2.2.2.2.2.1, hB.1.2.2.2.2.2.2.2.2.2.2.2.1, hB.1.2.2.2.2.2.2.2.2.2.2.2.2.1, hB.1.2.2.2.2.2.2.2.2.2.2.2.2.2, hB.2.1, hB.2.2.1, hB.2.2.2.1, hB.2.2.2.2.1, hB.2.2.2.2.2.1, hB.2.2.2.2.2.2.1, hB.2.2.2.2.2.2.2.1, hB.2.2.2.2.2.2.2.2.1, hB.2.2.2.2.2.2.2.2.2.1, hB.2.2.2.2.2.2.2.2.2.2.1, hB.2.2.2.2.2.2.2.2.2.2.2.1, hB.2.2.2.2.2.2.2.2.2.2.2.2.1, hB.2.2.2.2.2.2.2.2.2.2.2.2.2, n2, C_rowsWhere hJ hN (show (nodeAt g i).2.1 ≠ 0 by omega) (show -(N : Int) ≤ (nodeAt g i).2.1 by omega) hs.2.1 hw, C_wordOfChoice hB (show i < 1500 by omega) m0 m1 l0 l1]
    refine hk _ (fun z hz => ?_)
    rw [bt_or, bt_and, bt_and, bt_not hz, bt_rwv hz (by omega), hst, if_neg (by omega), if_pos q, hp _ l0 z hz, hp _ l1 z hz]
    cases hld N (nodeAt g i).2.1 (64 * w + z) <;> simp
theorem C_wordOfRoot {w : Nat} {g : GR} {J0 : JT} (hB : BF Ln B) (hB9 : B < 1000) (hN : N ≤ 12) (hw : w < 64) (hgo : grOK N g) (hg : CG B N g I J0) (hJ : ∀ j, J patC j = pat j) (hk : ∀ J' x, (∀ a, a ≠ B + 9 → J' a = J a) → (∀ q, q < 64 → bt x q = sayR N g (64 * w + q)) → K (some (.long x)) (G0 Ln) I J') : ACall (d + 3) 31 [.ref (B + 3), .int (nI N), .int (nI w)] (G0 Ln) I J K := by
  rw [ACall_0 (L0 := [.ref (B + 3), .int (nI N), .int (nI w), nv]) (show mcs 31 = (0, 0) from rfl) (show entL 31 [.ref (B + 3), .int (nI N), .int (nI w)] = _ from rfl) rfl (Nat.le_of_ble_eq_true rfl)]
  have h15 := hgo.2.1
  have hrt := hgo.2.2.1
  have hpc : patC ≠ B + 9 := by show 1000001 ≠ B + 9; omega
  simp only [aw_iconst (pc2 := 1) (y := 0) D31_0 rfl (by decide), aw_istore_3 (pc2 := 2) D31_1 rfl, refV_s, refV_n, psh_s, psh_n, kil_i, kil_r, kil_n, kil_l, cat_i, cat_r, iOK_1, iOK_5, jOK_2, jOK_6, wOK_e, lOK_1, lOK_2, lOK_3, lOK_4, lOK_5, lOK_6, catS_0, catS_1, catS_2, catS_3, catS_4, and_self, true_and, and_true, true_or, or_true, false_or, or_false, not_true_eq_false, not_false_eq_true, if_true, if_false, ite_int, ite_int0, au_10, eq_self, decide_true, decide_false, Bool.true_and, Bool.false_and]
  have key : ∀ n i J', i + n = g.2.1 + 1 → (∀ a, a ≠ B + 9 → J' a = J a) → (∀ p, p < i → ∀ q, q < 64 → bt (J' (B + 9) p) q = sayN N g (64 * w + q) p) → AW (d + 2) ((G0 Ln).1, (G0 Ln).2.1) K 31 2 [.ref (B + 3), .int (nI N), .int (nI w), .int (nI i)] [] (G0 Ln) I J' := by
    intro n
    induction n with
    | zero =>
      intro i J' hi hJ' hp
      have e : i = g.2.1 + 1 := by omega
      subst e
      simp (disch := omega) only [aw_iload_3 (pc2 := 3) D31_2 rfl, aw_aload_0 (pc2 := 4) D31_3 rfl, aw_getI (pc2 := 7) (ci := 1) (fk := 9) D31_4 rfl fT_1_46 rfl, aw_icmp_gt (pc2 := 10) (t := 37) D31_7 (by decide) rfl, aw_aload_0 (pc2 := 38) D31_37 rfl, aw_aload_0 (pc2 := 39) D31_38 rfl, aw_getI (pc2 := 42) (ci := 1) (fk := 9) D31_39 rfl fT_1_46 rfl, aw_iv1_0 (pc2 := 45) (o := 1) D31_42 rfl cT_1_59 rfl rfl, aw_if_eq (pc2 := 48) (t := 60) D31_45 (by decide) rfl, aw_aload_0 (pc2 := 49) D31_48 rfl, aw_getR (pc2 := 52) (ci := 1) (fk := 5) D31_49 rfl fT_1_27 rfl, aw_aload_0 (pc2 := 53) D31_52 rfl, aw_getI (pc2 := 56) (ci := 1) (fk := 9) D31_53 rfl fT_1_46 rfl, aw_laload (pc2 := 57) D31_56 rfl, aw_goto (t := 61) D31_57 (by decide), aw_lconst (pc2 := 61) (y := 0) D31_60 rfl (by decide), aw_lret D31_61 rfl, refV_s, refV_n, psh_s, psh_n, kil_i, kil_r, kil_n, kil_l, cat_i, cat_r, iOK_1, iOK_5, jOK_2, jOK_6, wOK_e, lOK_1, lOK_2, lOK_3, lOK_4, lOK_5, lOK_6, catS_0, catS_1, catS_2, catS_3, catS_4, and_self, true_and, and_true, true_or, or_true, false_or, or_false, not_true_eq_false, not_false_eq_true, if_true, if_false, ite_int, ite_int0, au_10, eq_self, decide_true, decide_false, Bool.true_and, Bool.false_and, au_in, au_le, au_lt, au_eq, au_lt0, au_ge0, au_le0, au_gt0, au_eq0, au_leT, au_leF, au_ltT, au_ltF, au_eqT, au_eqF, nI_clamp, nI_1, nI_add, pk_mul, au_sub1, au_subc, au_up2e, au_up2n, lit_of, hB.1.1, hB.1.2.1, hB.1.2.2.1, hB.1.2.2.2.1, hB.1.2.2.2.2.1, hB.1.2.2.2.2.2.1, hB.1.2.2.2.2.2.2.1, hB.1.2.2.2.2.2.2.2.1, hB.1.2.2.2.2.2.2.2.2.1, hB.1.2.2.2.2.2.2.2.2.2.1, hB.1.2.2.2.2.2.2.2.2.2.2.1, hB.1.2.2.2.2.2.2.2.2.2.2.2.1, hB.1.2.2.2.2.2.2.2.2.2.2.2.2.1, hB.1.2.2.2.2.2.2.2.2.2.2.2.2.2, hB.2.1, hB.2.2.1, hB.2.2.2.1, hB.2.2.2.2.1, hB.2.2.2.2.2.1, hB.2.2.2.2.2.2.1, hB.2.2.2.2.2.2.2.1, hB.2.2.2.2.2.2.2.2.1, hB.2.2.2.2.2.2.2.2.2.1, hB.2.2.2.2.2.2.2.2.2.2.1, hB.2.2.2.2.2.2.2.2.2.2.2.1, hB.2.2.2.2.2.2.2.2.2.2.2.2.1, hB.2.2.2.2.2.2.2.2.2.2.2.2.2, hg.1, hg.2.1, C_hasNode hB hg.1 h15, if_pos (show 0 ≤ nI g.2.1 ∧ nI g.2.1 < nI g.1.length from ⟨nI_pos' (by omega), nI_lt hrt (by omega)⟩)]
      exact hk J' _ hJ' (fun q hq => hp g.2.1 (by omega) q hq)
    | succ n ih =>
      intro i J' hi hJ' hp
      have ihn := ih (i + 1)
      rw [aw_iload_3 (pc2 := 3) D31_2 rfl]
      simp (disch := omega) only [aw_aload_0 (pc2 := 4) D31_3 rfl, aw_getI (pc2 := 7) (ci := 1) (fk := 9) D31_4 rfl fT_1_46 rfl, aw_icmp_gt (pc2 := 10) (t := 37) D31_7 (by decide) rfl, aw_iload_3 (pc2 := 11) D31_10 rfl, aw_aload_0 (pc2 := 12) D31_11 rfl, aw_getI (pc2 := 15) (ci := 1) (fk := 8) D31_12 rfl fT_1_42 rfl, aw_icmp_ge (pc2 := 18) (t := 37) D31_15 (by decide) rfl, aw_aload_0 (pc2 := 19) D31_18 rfl, aw_getR (pc2 := 22) (ci := 1) (fk := 5) D31_19 rfl fT_1_27 rfl, aw_iload_3 (pc2 := 23) D31_22 rfl, aw_aload_0 (pc2 := 24) D31_23 rfl, aw_iload_3 (pc2 := 25) D31_24 rfl, aw_iload_1 (pc2 := 26) D31_25 rfl, aw_iload_2 (pc2 := 27) D31_26 rfl, aw_iv3_0 (pc2 := 30) (o := 1) D31_27 rfl cT_1_98 rfl rfl, refV_s, refV_n, psh_s, psh_n, kil_i, kil_r, kil_n, kil_l, cat_i, cat_r, iOK_1, iOK_5, jOK_2, jOK_6, wOK_e, lOK_1, lOK_2, lOK_3, lOK_4, lOK_5, lOK_6, catS_0, catS_1, catS_2, catS_3, catS_4, and_self, true_and, and_true, true_or, or_true, false_or, or_false, not_true_eq_false, not_false_eq_true, if_true, if_false, ite_int, ite_int0, au_10, eq_self, decide_true, decide_false, Bool.true_and, Bool.false_and, au_in, au_le, au_lt, au_eq, au_lt0, au_ge0, au_le0, au_gt0, au_eq0, au_leT, au_leF, au_ltT, au_ltF, au_eqT, au_eqF, nI_clamp, nI_1, nI_add, pk_mul, au_sub1, au_subc, au_up2e, au_up2n, lit_of, hB.1.1, hB.1.2.1, hB.1.2.2.1, hB.1.2.2.2.1, hB.1.2.2.2.2.1, hB.1.2.2.2.2.2.1, hB.1.2.2.2.2.2.2.1, hB.1.2.2.2.2.2.2.2.1, hB.1.2.2.2.2.2.2.2.2.1, hB.1.2.2.2.2.2.2.2.2.2.1, hB.1.2.2.2.2.2.2.2.2.2.2.1, hB.1.2.2.2.2.2.2.2.2.2.2.2.1, hB.1.2.2.2.2.2.2.2.2.2.2.2.2.1, hB.1.2.2.2.2.2.2.2.2.2.2.2.2.2, hB.2.1, hB.2.2.1, hB.2.2.2.1, hB.2.2.2.2.1, hB.2.2.2.2.2.1, hB.2.2.2.2.2.2.1, hB.2.2.2.2.2.2.2.1, hB.2.2.2.2.2.2.2.2.1, hB.2.2.2.2.2.2.2.2.2.1, hB.2.2.2.2.2.2.2.2.2.2.1, hB.2.2.2.2.2.2.2.2.2.2.2.1, hB.2.2.2.2.2.2.2.2.2.2.2.2.1, hB.2.2.2.2.2.2.2.2.2.2.2.2.2, hg.1, hg.2.1]
      refine C_wordOfNode hB hN hw hgo hg (fun j => by rw [hJ' _ hpc]; exact hJ j) (show i < g.1.length by omega) hp (fun x hx => ?_)
      simp (disch := omega) only [aw_lastore (pc2 := 31) D31_30 rfl, aw_iinc_3 (pc2 := 34) (y := 1) D31_31 rfl (by decide), aw_goto (t := 2) D31_34 (by decide), refV_s, refV_n, psh_s, psh_n, kil_i, kil_r, kil_n, kil_l, cat_i, cat_r, iOK_1, iOK_5, jOK_2, jOK_6, wOK_e, lOK_1, lOK_2, lOK_3, lOK_4, lOK_5, lOK_6, catS_0, catS_1, catS_2, catS_3, catS_4, and_self, true_and, and_true, true_or, or_true, false_or, or_false, not_true_eq_false, not_false_eq_true, if_true, if_false, ite_int, ite_int0, au_10, eq_self, decide_true, decide_false, Bool.true_and, Bool.false_and, au_in, au_le, au_lt, au_eq, au_lt0, au_ge0, au_le0, au_gt0, au_eq0, au_leT, au_leF, au_ltT, au_ltF, au_eqT, au_eqF, nI_clamp, nI_1, nI_add, pk_mul, au_sub1, au_subc, au_up2e, au_up2n, lit_of, hB.1.1, hB.1.2.1, hB.1.2.2.1, hB.1.2.2.2.1, hB.1.2.2.2.2.1, hB.1.2.2.2.2.2.1, hB.1.2.2.2.2.2.2.1, hB.1.2.2.2.2.2.2.2.1, hB.1.2.2.2.2.2.2.2.2.1, hB.1.2.2.2.2.2.2.2.2.2.1, hB.1.2.2.2.2.2.2.2.2.2.2.1, hB.1.2.2.2.2.2.2.2.2.2.2.2.1, hB.1.2.2.2.2.2.2.2.2.2.2.2.2.1, hB.1.2.2.2.2.2.2.2.2.2.2.2.2.2, hB.2.1, hB.2.2.1, hB.2.2.2.1, hB.2.2.2.2.1, hB.2.2.2.2.2.1, hB.2.2.2.2.2.2.1, hB.2.2.2.2.2.2.2.1, hB.2.2.2.2.2.2.2.2.1, hB.2.2.2.2.2.2.2.2.2.1, hB.2.2.2.2.2.2.2.2.2.2.1, hB.2.2.2.2.2.2.2.2.2.2.2.1, hB.2.2.2.2.2.2.2.2.2.2.2.2.1, hB.2.2.2.2.2.2.2.2.2.2.2.2.2]
      refine ihn _ (by omega) (fun a ha => by rw [up2_off ha]; exact hJ' a ha) (fun p hp2 q hq => ?_)
      by_cases e : p = i
      · simp (disch := omega) only [e, au_up2e]; exact hx q hq
      · simp (disch := omega) only [au_up2n]; exact hp p (by omega) q hq
  exact key (g.2.1 + 1) 0 J (by omega) (fun _ _ => rfl) (fun p hp => absurd hp (Nat.not_lt_zero _))
theorem C_saidByRoot {g : GR} {b : Nat} (hb : b < 2) (hN : N ≤ 12) (hgo : grOK N g) (hg : CG (bkc b) N g I J) (hJ : ∀ j, J patC j = pat j) (hk : ∀ I' J', (∀ a, a ≠ bkc b + 3 → a ≠ bkc b + 10 → I' a = I a) → (∀ k, k ≠ 7 → I' (bkc b + 3) k = I (bkc b + 3) k) → (∀ a, a ≠ bkc b + 9 → a ≠ bkc b + 11 → J' a = J a) → I' (bkc b + 3) 7 = 0 → RSet N (bkc b + 10) (sayR N g) I' J' → K (some (.ref (bkc b + 10))) (G0 Ln) I' J') : ACall (d + 4) 30 [.ref (bkc b + 3), .int (nI N)] (G0 Ln) I J K := by
  have hB := bf (Ln := Ln) hb
  have hc := RF_10 (Ln := Ln) hb
  have hb9 : bkc b < 1000 := by unfold bkc; omega
  generalize bkc b = B at *
  rw [ACall_0 (L0 := [.ref (B + 3), .int (nI N), nv]) (show mcs 30 = (0, 0) from rfl) (show entL 30 [.ref (B + 3), .int (nI N)] = _ from rfl) rfl (Nat.le_of_ble_eq_true rfl)]
  obtain ⟨w1, w2, w3, w4, w5, w6, -⟩ := wN_all N (by omega)
  rcases hg.2.2.2.2 with h7 | ⟨h7, hset⟩
  · simp (disch := omega) only [aw_aload_0 (pc2 := 1) D30_0 rfl, aw_getI (pc2 := 4) (ci := 1) (fk := 7) D30_1 rfl fT_1_38 rfl, aw_if_eq (pc2 := 7) (t := 53) D30_4 (by decide) rfl, aw_aload_0 (pc2 := 8) D30_7 rfl, aw_getR (pc2 := 11) (ci := 1) (fk := 6) D30_8 rfl fT_1_34 rfl, aw_iload_1 (pc2 := 12) D30_11 rfl, aw_iv1_0 (pc2 := 15) (o := 5) D30_12 rfl cT_1_84 rfl rfl, aw_iconst (pc2 := 16) (y := 0) D30_15 rfl (by decide), aw_istore_2 (pc2 := 17) D30_16 rfl, refV_s, refV_n, psh_s, psh_n, kil_i, kil_r, kil_n, kil_l, cat_i, cat_r, iOK_1, iOK_5, jOK_2, jOK_6, wOK_e, lOK_1, lOK_2, lOK_3, lOK_4, lOK_5, lOK_6, catS_0, catS_1, catS_2, catS_3, catS_4, and_self, true_and, and_true, true_or, or_true, false_or, or_false, not_true_eq_false, not_false_eq_true, if_true, if_false, ite_int, ite_int0, au_10, eq_self, decide_true, decide_false, Bool.true_and, Bool.false_and, au_in, au_le, au_lt, au_eq, au_lt0, au_ge0, au_le0, au_gt0, au_eq0, au_leT, au_leF, au_ltT, au_ltF, au_eqT, au_eqF, nI_clamp, nI_1, nI_add, pk_mul, au_sub1, au_subc, au_up2e, au_up2n, lit_of, hB.1.1, hB.1.2.1, hB.1.2.2.1, hB.1.2.2.2.1, hB.1.2.2.2.2.1, hB.1.2.2.2.2.2.1, hB.1.2.2.2.2.2.2.1, hB.1.2.2.2.2.2.2.2.1, hB.1.2.2.2.2.2.2.2.2.1, hB.1.2.2.2.2.2.2.2.2.2.1, hB.1.2.2.2.2.2.2.2.2.2.2.1, hB.1.2.2.2.2.2.2.2.2.2.2.2.1, hB.1.2.2.2.2.2.2.2.2.2.2.2.2.1, hB.1.2.2.2.2.2.2.2.2.2.2.2.2.2, hB.2.1, hB.2.2.1, hB.2.2.2.1, hB.2.2.2.2.1, hB.2.2.2.2.2.1, hB.2.2.2.2.2.2.1, hB.2.2.2.2.2.2.2.1, hB.2.2.2.2.2.2.2.2.1, hB.2.2.2.2.2.2.2.2.2.1, hB.2.2.2.2.2.2.2.2.2.2.1, hB.2.2.2.2.2.2.2.2.2.2.2.1, hB.2.2.2.2.2.2.2.2.2.2.2.2.1, hB.2.2.2.2.2.2.2.2.2.2.2.2.2, h7, C_rempty hc hN]
    have hpc : patC ≠ B + 9 ∧ patC ≠ B + 11 := by constructor <;> (show 1000001 ≠ _; omega)
    have hg' : CG B N g (rI I (B + 10) N) J := by
      refine ⟨by rw [rI_off (by omega)]; exact hg.1, by rw [rI_off (by omega)]; exact hg.2.1, by rw [rI_off (by omega)]; exact hg.2.2.1, fun i hi => ?_, Or.inl (by rw [rI_off (by omega)]; exact h7)⟩
      rw [rI_off (by omega), rI_off (by omega), rI_off (by omega), rI_off (by omega), rI_off (by omega)]
      exact hg.2.2.2.1 i hi
    have key : ∀ n i J', i + n = wN N → (∀ a, a ≠ B + 9 → a ≠ B + 11 → J' a = J a) → (∀ w, w < i → ∀ q, q < 64 → bt (J' (B + 11) w) q = (decide (64 * w + q < 2 ^ N) && sayR N g (64 * w + q))) → AW (d + 3) ((G0 Ln).1, (G0 Ln).2.1) K 30 17 [.ref (B + 3), .int (nI N), .int (nI i)] [] (G0 Ln) (rI I (B + 10) N) J' := by
      intro n
      induction n with
      | zero =>
        intro i J' hi hJ' hw
        have e : i = wN N := by omega
        subst e
        simp (disch := omega) only [aw_iload_2 (pc2 := 18) D30_17 rfl, aw_aload_0 (pc2 := 19) D30_18 rfl, aw_getR (pc2 := 22) (ci := 1) (fk := 6) D30_19 rfl fT_1_34 rfl, aw_getI (pc2 := 25) (ci := 5) (fk := 3) D30_22 rfl fT_1_87 rfl, aw_icmp_ge (pc2 := 28) (t := 48) D30_25 (by decide) rfl, aw_aload_0 (pc2 := 49) D30_48 rfl, aw_iconst (pc2 := 50) (y := 0) D30_49 rfl (by decide), aw_putZ (pc2 := 53) (ci := 1) (fk := 7) D30_50 rfl fT_1_38 rfl, aw_aload_0 (pc2 := 54) D30_53 rfl, aw_getR (pc2 := 57) (ci := 1) (fk := 6) D30_54 rfl fT_1_34 rfl, aw_aret D30_57 rfl, refV_s, refV_n, psh_s, psh_n, kil_i, kil_r, kil_n, kil_l, cat_i, cat_r, iOK_1, iOK_5, jOK_2, jOK_6, wOK_e, lOK_1, lOK_2, lOK_3, lOK_4, lOK_5, lOK_6, catS_0, catS_1, catS_2, catS_3, catS_4, and_self, true_and, and_true, true_or, or_true, false_or, or_false, not_true_eq_false, not_false_eq_true, if_true, if_false, ite_int, ite_int0, au_10, eq_self, decide_true, decide_false, Bool.true_and, Bool.false_and, au_in, au_le, au_lt, au_eq, au_lt0, au_ge0, au_le0, au_gt0, au_eq0, au_leT, au_leF, au_ltT, au_ltF, au_eqT, au_eqF, nI_clamp, nI_1, nI_add, pk_mul, au_sub1, au_subc, au_up2e, au_up2n, lit_of, hB.1.1, hB.1.2.1, hB.1.2.2.1, hB.1.2.2.2.1, hB.1.2.2.2.2.1, hB.1.2.2.2.2.2.1, hB.1.2.2.2.2.2.2.1, hB.1.2.2.2.2.2.2.2.1, hB.1.2.2.2.2.2.2.2.2.1, hB.1.2.2.2.2.2.2.2.2.2.1, hB.1.2.2.2.2.2.2.2.2.2.2.1, hB.1.2.2.2.2.2.2.2.2.2.2.2.1, hB.1.2.2.2.2.2.2.2.2.2.2.2.2.1, hB.1.2.2.2.2.2.2.2.2.2.2.2.2.2, hB.2.1, hB.2.2.1, hB.2.2.2.1, hB.2.2.2.2.1, hB.2.2.2.2.2.1, hB.2.2.2.2.2.2.1, hB.2.2.2.2.2.2.2.1, hB.2.2.2.2.2.2.2.2.1, hB.2.2.2.2.2.2.2.2.2.1, hB.2.2.2.2.2.2.2.2.2.2.1, hB.2.2.2.2.2.2.2.2.2.2.2.1, hB.2.2.2.2.2.2.2.2.2.2.2.2.1, hB.2.2.2.2.2.2.2.2.2.2.2.2.2, rI_3]
        refine hk _ J' (fun a a1 a2 => by rw [up2_off a1, rI_off a2]) (fun k hk2 => ?_) hJ' au_up2 (RSet.mk ?_ ?_ ?_ (fun w q hw2 hq => hw w hw2 q hq))
        · rw [au_up2k hk2, rI_off (by omega)]
        · rw [up2_off (by omega), rI_1]
        · rw [up2_off (by omega), rI_2]
        · rw [up2_off (by omega), rI_3]
      | succ n ih =>
        intro i J' hi hJ' hw
        have ihn := ih (i + 1)
        rw [aw_iload_2 (pc2 := 18) D30_17 rfl]
        simp (disch := omega) only [aw_aload_0 (pc2 := 19) D30_18 rfl, aw_getR (pc2 := 22) (ci := 1) (fk := 6) D30_19 rfl fT_1_34 rfl, aw_getI (pc2 := 25) (ci := 5) (fk := 3) D30_22 rfl fT_1_87 rfl, aw_icmp_ge (pc2 := 28) (t := 48) D30_25 (by decide) rfl, aw_aload_0 (pc2 := 29) D30_28 rfl, aw_getR (pc2 := 32) (ci := 1) (fk := 6) D30_29 rfl fT_1_34 rfl, aw_iload_2 (pc2 := 33) D30_32 rfl, aw_aload_0 (pc2 := 34) D30_33 rfl, aw_iload_1 (pc2 := 35) D30_34 rfl, aw_iload_2 (pc2 := 36) D30_35 rfl, aw_iv2_0 (pc2 := 39) (o := 1) D30_36 rfl cT_1_90 rfl rfl, refV_s, refV_n, psh_s, psh_n, kil_i, kil_r, kil_n, kil_l, cat_i, cat_r, iOK_1, iOK_5, jOK_2, jOK_6, wOK_e, lOK_1, lOK_2, lOK_3, lOK_4, lOK_5, lOK_6, catS_0, catS_1, catS_2, catS_3, catS_4, and_self, true_and, and_true, true_or, or_true, false_or, or_false, not_true_eq_false, not_false_eq_true, if_true, if_false, ite_int, ite_int0, au_10, eq_self, decide_true, decide_false, Bool.true_and, Bool.false_and, au_in, au_le, au_lt, au_eq, au_lt0, au_ge0, au_le0, au_gt0, au_eq0, au_leT, au_leF, au_ltT, au_ltF, au_eqT, au_eqF, nI_clamp, nI_1, nI_add, pk_mul, au_sub1, au_subc, au_up2e, au_up2n, lit_of, hB.1.1, hB.1.2.1, hB.1.2.2.1, hB.1.2.2.2.1, hB.1.2.2.2.2.1, hB.1.2.2.2.2.2.1, hB.1.2.2.2.2.2.2.1, hB.1.2.2.2.2.2.2.2.1, hB.1.2.2.2.2.2.2.2.2.1, hB.1.2.2.2.2.2.2.2.2.2.1, hB.1.2.2.2.2.2.2.2.2.2.2.1, hB.1.2.2.2.2.2.2.2.2.2.2.2.1, hB.1.2.2.2.2.2.2.2.2.2.2.2.2.1, hB.1.2.2.2.2.2.2.2.2.2.2.2.2.2, hB.2.1, hB.2.2.1, hB.2.2.2.1, hB.2.2.2.2.1, hB.2.2.2.2.2.1, hB.2.2.2.2.2.2.1, hB.2.2.2.2.2.2.2.1, hB.2.2.2.2.2.2.2.2.1, hB.2.2.2.2.2.2.2.2.2.1, hB.2.2.2.2.2.2.2.2.2.2.1, hB.2.2.2.2.2.2.2.2.2.2.2.1, hB.2.2.2.2.2.2.2.2.2.2.2.2.1, hB.2.2.2.2.2.2.2.2.2.2.2.2.2, rI_3]
        refine C_wordOfRoot hB hb9 hN (show i < 64 by omega) hgo hg' (fun j => by rw [hJ' _ hpc.1 hpc.2]; exact hJ j) (fun J'' x hJ'' hx => ?_)
        simp (disch := omega) only [aw_iv2_0 (pc2 := 42) (o := 5) D30_39 rfl cT_1_94 rfl rfl, aw_iinc_2 (pc2 := 45) (y := 1) D30_42 rfl (by decide), aw_goto (t := 17) D30_45 (by decide), refV_s, refV_n, psh_s, psh_n, kil_i, kil_r, kil_n, kil_l, cat_i, cat_r, iOK_1, iOK_5, jOK_2, jOK_6, wOK_e, lOK_1, lOK_2, lOK_3, lOK_4, lOK_5, lOK_6, catS_0, catS_1, catS_2, catS_3, catS_4, and_self, true_and, and_true, true_or, or_true, false_or, or_false, not_true_eq_false, not_false_eq_true, if_true, if_false, ite_int, ite_int0, au_10, eq_self, decide_true, decide_false, Bool.true_and, Bool.false_and, au_in, au_le, au_lt, au_eq, au_lt0, au_ge0, au_le0, au_gt0, au_eq0, au_leT, au_leF, au_ltT, au_ltF, au_eqT, au_eqF, nI_clamp, nI_1, nI_add, pk_mul, au_sub1, au_subc, au_up2e, au_up2n, lit_of, hc.2.1, C_setWord hc hN (show i < wN N by omega) rI_2 rI_3]
        refine ihn _ (by omega) (fun a a1 a2 => by rw [up2_off a2, hJ'' a a1]; exact hJ' a a1 a2) (fun w hw2 q hq => ?_)
        by_cases e : w = i
        · subst e
          simp (disch := omega) only [au_up2e]
          rw [bt_mskW (w := w) hN (by omega) hq, hx q hq]
        · simp (disch := omega) only [au_up2n]
          rw [hJ'' _ (by omega)]
          exact hw w (by omega) q hq
    exact key (wN N) 0 _ (by omega) (fun a a1 a2 => fil_off a2) (fun w hw => absurd hw (Nat.not_lt_zero _))
  · simp (disch := omega) only [aw_aload_0 (pc2 := 1) D30_0 rfl, aw_getI (pc2 := 4) (ci := 1) (fk := 7) D30_1 rfl fT_1_38 rfl, aw_if_eq (pc2 := 7) (t := 53) D30_4 (by decide) rfl, aw_aload_0 (pc2 := 54) D30_53 rfl, aw_getR (pc2 := 57) (ci := 1) (fk := 6) D30_54 rfl fT_1_34 rfl, aw_aret D30_57 rfl, refV_s, refV_n, psh_s, psh_n, kil_i, kil_r, kil_n, kil_l, cat_i, cat_r, iOK_1, iOK_5, jOK_2, jOK_6, wOK_e, lOK_1, lOK_2, lOK_3, lOK_4, lOK_5, lOK_6, catS_0, catS_1, catS_2, catS_3, catS_4, and_self, true_and, and_true, true_or, or_true, false_or, or_false, not_true_eq_false, not_false_eq_true, if_true, if_false, ite_int, ite_int0, au_10, eq_self, decide_true, decide_false, Bool.true_and, Bool.false_and, au_in, au_le, au_lt, au_eq, au_lt0, au_ge0, au_le0, au_gt0, au_eq0, au_leT, au_leF, au_ltT, au_ltF, au_eqT, au_eqF, nI_clamp, nI_1, nI_add, pk_mul, au_sub1, au_subc, au_up2e, au_up2n, lit_of, hB.1.1, hB.1.2.1, hB.1.2.2.1, hB.1.2.2.2.1, hB.1.2.2.2.2.1, hB.1.2.2.2.2.2.1, hB.1.2.2.2.2.2.2.1, hB.1.2.2.2.2.2.2.2.1, hB.1.2.2.2.2.2.2.2.2.1, hB.1.2.2.2.2.2.2.2.2.2.1, hB.1.2.2.2.2.2.2.2.2.2.2.1, hB.1.2.2.2.2.2.2.2.2.2.2.2.1, hB.1.2.2.2.2.2.2.2.2.2.2.2.2.1, hB.1.2.2.2.2.2.2.2.2.2.2.2.2.2, hB.2.1, hB.2.2.1, hB.2.2.2.1, hB.2.2.2.2.1, hB.2.2.2.2.2.1, hB.2.2.2.2.2.2.1, hB.2.2.2.2.2.2.2.1, hB.2.2.2.2.2.2.2.2.1, hB.2.2.2.2.2.2.2.2.2.1, hB.2.2.2.2.2.2.2.2.2.2.1, hB.2.2.2.2.2.2.2.2.2.2.2.1, hB.2.2.2.2.2.2.2.2.2.2.2.2.1, hB.2.2.2.2.2.2.2.2.2.2.2.2.2, h7]
    exact hk I J (fun _ _ _ => rfl) (fun _ _ => rfl) (fun _ _ _ => rfl) h7 hset
end Said
