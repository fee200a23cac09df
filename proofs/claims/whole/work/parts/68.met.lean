/-! lists that were met, in the class -/
def mxH (p : List Nat) : Nat → Int32
  | 0 => nI p.length
  | i + 1 => mxH p i * 31 + nI (p.getD i 0)
def us (x : Int32) (k : Int32) : Int32 := (x.toUInt32 >>> (k.toUInt32 &&& Int32.toUInt32 31)).toInt32
def hI (p : List Nat) : Int32 := ((mxH p p.length ^^^ us (mxH p p.length) 16) ^^^ us (mxH p p.length ^^^ us (mxH p p.length) 16) 8) &&& 255
def hN (p : List Nat) : Nat := (hI p).toNatClampNeg
theorem hI_ok (p : List Nat) : hI p = nI (hN p) ∧ hN p < 256 := by
  obtain ⟨j, hj, e⟩ := pk_andE ((mxH p p.length ^^^ us (mxH p p.length) 16) ^^^ us (mxH p p.length ^^^ us (mxH p p.length) 16) 8) (m := 255) 8 (by decide)
  have e : hI p = nI j := e
  unfold hN
  rw [e, nI_clamp (Nat.lt_of_lt_of_le hj (by decide))]
  exact ⟨rfl, hj⟩
abbrev MT : Type := List (List Nat × Nat)
def mAt (m : MT) (i : Nat) : List Nat × Nat := m.getD i ([], 0)
def stM (m : MT) (i : Nat) : Nat := fb_sm (fun k => (mAt m k).1.length) i
def prv (m : MT) (c : Nat) : Nat → Option Nat
  | 0 => none
  | n + 1 => if hN (mAt m n).1 = c then some n else prv m c n
def pvI : Option Nat → Int32
  | none => -1
  | some i => nI i
def mtC (m : MT) (I : IT) : Prop := I 31 6 = nI m.length ∧ I 31 7 = nI (stM m m.length) ∧ (∀ i, i < m.length → I 33 i = nI (stM m i) ∧ I 34 i = nI (mAt m i).1.length ∧ I 35 i = nI (mAt m i).2 ∧ I 36 i = pvI (prv m (hN (mAt m i).1) i) ∧ lsA 32 (stM m i) (mAt m i).1 I) ∧ ∀ c, c < 256 → I 37 c = pvI (prv m c m.length)
/-- what is met can be met only once, and there is room -/
def mtOK (m : MT) : Prop := m.length ≤ 2047 ∧ stM m m.length ≤ 34776 ∧ (∀ i, i < m.length → lsOK (mAt m i).1) ∧ ∀ i j, i < m.length → j < m.length → (mAt m i).1 = (mAt m j).1 → i = j
theorem prv_lt {m : MT} {c i : Nat} : ∀ {n : Nat}, prv m c n = some i → i < n ∧ hN (mAt m i).1 = c ∧ (∀ j, i < j → j < n → hN (mAt m j).1 ≠ c) ∧ True
  | 0, h => by cases h
  | n + 1, h => by
    rw [prv] at h
    split at h
    · rename_i hc
      cases h
      exact ⟨by omega, hc, fun j h1 h2 => by omega, trivial⟩
    · rename_i hc
      obtain ⟨a, b, c', -⟩ := prv_lt h
      refine ⟨by omega, b, fun j h1 h2 => ?_, trivial⟩
      by_cases e : j = n
      · rw [e]; exact hc
      · exact c' j h1 (by omega)
theorem prv_no {m : MT} {c : Nat} : ∀ {n : Nat}, prv m c n = none → ∀ j, j < n → hN (mAt m j).1 ≠ c
  | 0, _, j, hj => absurd hj (Nat.not_lt_zero _)
  | n + 1, h, j, hj => by
    rw [prv] at h
    split at h
    · cases h
    · rename_i hc
      by_cases e : j = n
      · rw [e]; exact hc
      · exact prv_no h j (by omega)
theorem mAt_app {m : MT} {x : List Nat × Nat} {i : Nat} (hi : i < m.length + 1) : mAt (m ++ [x]) i = if i = m.length then x else mAt m i := by
  unfold mAt
  rw [List.getD_eq_getElem?_getD, List.getD_eq_getElem?_getD]
  by_cases e : i = m.length
  · subst e; simp
  · rw [if_neg e, List.getElem?_append_left (by omega)]
theorem stM_app {m : MT} {x : List Nat × Nat} {i : Nat} (hi : i ≤ m.length) : stM (m ++ [x]) i = stM m i := fb_sm_cong (fun k hk => by rw [mAt_app (by omega), if_neg (by omega)])
theorem prv_app {m : MT} {x : List Nat × Nat} {c : Nat} : ∀ {i : Nat}, i ≤ m.length → prv (m ++ [x]) c i = prv m c i
  | 0, _ => rfl
  | i + 1, h => by
    show (if hN (mAt (m ++ [x]) i).1 = c then some i else prv (m ++ [x]) c i) = (if hN (mAt m i).1 = c then some i else prv m c i)
    rw [mAt_app (show i < m.length + 1 by omega), if_neg (show ¬ i = m.length by omega), prv_app (show i ≤ m.length by omega)]
theorem metL_some {m : MT} {p : List Nat} {i : Nat} (hu : ∀ i j, i < m.length → j < m.length → (mAt m i).1 = (mAt m j).1 → i = j) (hi : i < m.length) (hp : (mAt m i).1 = p) : metL m p = some (mAt m i).2 := by
  unfold metL
  cases e : m.find? (fun x => decide (x.1 = p)) with
  | none =>
    have := List.find?_eq_none.mp e (mAt m i) (by unfold mAt; rw [List.getD_eq_getElem?_getD, List.getElem?_eq_getElem hi]; exact List.getElem_mem _)
    simp [hp] at this
  | some x =>
    have h1 := List.find?_some e
    have h2 := List.mem_of_find?_eq_some e
    obtain ⟨j, hj, ej⟩ := List.mem_iff_getElem.mp h2
    have ej' : mAt m j = x := by unfold mAt; rw [List.getD_eq_getElem?_getD, List.getElem?_eq_getElem hj]; exact ej
    have h1 : x.1 = p := by simpa using h1
    have := hu i j hi hj (by rw [hp, ej', h1])
    rw [this, ej']
theorem metL_none {m : MT} {p : List Nat} (h : ∀ j, j < m.length → (mAt m j).1 ≠ p) : metL m p = none := by
  unfold metL
  have : m.find? (fun x => decide (x.1 = p)) = none := List.find?_eq_none.mpr (fun x hx => by
    obtain ⟨j, hj, ej⟩ := List.mem_iff_getElem.mp hx
    have ej' : mAt m j = x := by unfold mAt; rw [List.getD_eq_getElem?_getD, List.getElem?_eq_getElem hj]; exact ej
    have := h j hj
    rw [ej'] at this
    simp [this])
  rw [this]
theorem list_ext {p r : List Nat} (hl : p.length = r.length) (h : ∀ i, i < p.length → p.getD i 0 = r.getD i 0) : p = r := by
  refine List.ext_getElem hl (fun i h1 h2 => ?_)
  have := h i h1
  rw [List.getD_eq_getElem?_getD, List.getD_eq_getElem?_getD, List.getElem?_eq_getElem h1, List.getElem?_eq_getElem h2] at this
  exact this
section Met
variable {d Ln f : Nat} {I : IT} {J : JT} {K : KT}
theorem C_chainOf {p : List Nat} (hf : shp (G0 Ln) f = (1, 40)) (hp : p.length ≤ 40) (h : lsA f 0 p I) : ACall (d + 1) 60 [.ref f, .int (nI p.length)] (G0 Ln) I J K ↔ K (some (.int (nI (hN p)))) (G0 Ln) I J := by
  rw [ACall_0 (L0 := [.ref f, .int (nI p.length), nv, nv]) (show mcs 60 = (0, 0) from rfl) (show entL 60 [.ref f, .int (nI p.length)] = _ from rfl) rfl (Nat.le_of_ble_eq_true rfl)]
  simp only [aw_iload_1 (pc2 := 1) D60_0 rfl, aw_istore_2 (pc2 := 2) D60_1 rfl, aw_iconst (pc2 := 3) (y := 0) D60_2 rfl (by decide), aw_istore_3 (pc2 := 4) D60_3 rfl, lit_31, lit_8, lit_255, refV_s, refV_n, psh_s, psh_n, kil_i, kil_r, kil_n, kil_l, cat_i, cat_r, iOK_1, iOK_5, jOK_2, jOK_6, wOK_e, lOK_1, lOK_2, lOK_3, lOK_4, lOK_5, lOK_6, catS_0, catS_1, catS_2, catS_3, catS_4, and_self, true_and, and_true, true_or, or_true, false_or, or_false, not_true_eq_false, not_false_eq_true, if_true, if_false, ite_int, ite_int0, au_10, eq_self, decide_true, decide_false, Bool.true_and, Bool.false_and]
  have key : ∀ n i, i + n = p.length → (AW d ((G0 Ln).1, (G0 Ln).2.1) K 60 4 [.ref f, .int (nI p.length), .int (mxH p i), .int (nI i)] [] (G0 Ln) I J ↔ K (some (.int (nI (hN p)))) (G0 Ln) I J) := by
    intro n
    induction n with
    | zero =>
      intro i hi
      have e : i = p.length := by omega
      subst e
      have e2 := (hI_ok p).1
      unfold hI us at e2
      simp (disch := omega) only [aw_iload_3 (pc2 := 5) D60_4 rfl, aw_iload_1 (pc2 := 6) D60_5 rfl, aw_icmp_ge (pc2 := 9) (t := 30) D60_6 (by decide) rfl, aw_iload_2 (pc2 := 31) D60_30 rfl, aw_iload_2 (pc2 := 32) D60_31 rfl, aw_bipush (pc2 := 34) (y := 16) D60_32 rfl (by decide), aw_iushr (pc2 := 35) D60_34 rfl, aw_ixor (pc2 := 36) D60_35 rfl, aw_istore_2 (pc2 := 37) D60_36 rfl, aw_iload_2 (pc2 := 38) D60_37 rfl, aw_iload_2 (pc2 := 39) D60_38 rfl, aw_bipush (pc2 := 41) (y := 8) D60_39 rfl (by decide), aw_iushr (pc2 := 42) D60_41 rfl, aw_ixor (pc2 := 43) D60_42 rfl, aw_istore_2 (pc2 := 44) D60_43 rfl, aw_iload_2 (pc2 := 45) D60_44 rfl, aw_sipush (pc2 := 48) (y := 255) D60_45 rfl (by decide), aw_iand (pc2 := 49) D60_48 rfl, aw_iret D60_49 rfl, refV_s, refV_n, psh_s, psh_n, kil_i, kil_r, kil_n, kil_l, cat_i, cat_r, iOK_1, iOK_5, jOK_2, jOK_6, wOK_e, lOK_1, lOK_2, lOK_3, lOK_4, lOK_5, lOK_6, catS_0, catS_1, catS_2, catS_3, catS_4, and_self, true_and, and_true, true_or, or_true, false_or, or_false, not_true_eq_false, not_false_eq_true, if_true, if_false, ite_int, ite_int0, au_10, eq_self, decide_true, decide_false, Bool.true_and, Bool.false_and, au_in, au_le, au_lt, au_eq, au_lt0, au_ge0, au_le0, au_gt0, au_eq0, au_leT, au_leF, au_ltT, au_ltF, au_eqT, au_eqF, nI_clamp, nI_1, nI_add, pk_mul, au_sub1, au_subc, au_up2e, au_up2n, lit_of, e2]
    | succ n ih =>
      intro i hi
      have hil : i < p.length := by omega
      have ihn := ih (i + 1) (by omega)
      rw [mxH] at ihn
      rw [aw_iload_3 (pc2 := 5) D60_4 rfl]
      simp (disch := omega) only [aw_iload_1 (pc2 := 6) D60_5 rfl, aw_icmp_ge (pc2 := 9) (t := 30) D60_6 (by decide) rfl, aw_iload_3 (pc2 := 10) D60_9 rfl, aw_aload_0 (pc2 := 11) D60_10 rfl, aw_alen (pc2 := 12) D60_11 rfl, aw_icmp_ge (pc2 := 15) (t := 30) D60_12 (by decide) rfl, aw_iload_2 (pc2 := 16) D60_15 rfl, aw_bipush (pc2 := 18) (y := 31) D60_16 rfl (by decide), aw_imul (pc2 := 19) D60_18 rfl, aw_aload_0 (pc2 := 20) D60_19 rfl, aw_iload_3 (pc2 := 21) D60_20 rfl, aw_iaload (pc2 := 22) D60_21 rfl, aw_iadd (pc2 := 23) D60_22 rfl, aw_istore_2 (pc2 := 24) D60_23 rfl, aw_iinc_3 (pc2 := 27) (y := 1) D60_24 rfl (by decide), aw_goto (t := 4) D60_27 (by decide), refV_s, refV_n, psh_s, psh_n, kil_i, kil_r, kil_n, kil_l, cat_i, cat_r, iOK_1, iOK_5, jOK_2, jOK_6, wOK_e, lOK_1, lOK_2, lOK_3, lOK_4, lOK_5, lOK_6, catS_0, catS_1, catS_2, catS_3, catS_4, and_self, true_and, and_true, true_or, or_true, false_or, or_false, not_true_eq_false, not_false_eq_true, if_true, if_false, ite_int, ite_int0, au_10, eq_self, decide_true, decide_false, Bool.true_and, Bool.false_and, au_in, au_le, au_lt, au_eq, au_lt0, au_ge0, au_le0, au_gt0, au_eq0, au_leT, au_leF, au_ltT, au_ltF, au_eqT, au_eqF, nI_clamp, nI_1, nI_add, pk_mul, au_sub1, au_subc, au_up2e, au_up2n, lit_of, hf, lsA_0 h hil]
      exact ihn
  exact key p.length 0 (by omega)
theorem C_isSame {m : MT} {p : List Nat} {i : Nat} (hf : shp (G0 Ln) f = (1, 40)) (hp : lsOK p) (h : lsA f 0 p I) (hm : mtC m I) (hok : mtOK m) (hi : i < m.length) : ACall (d + 1) 59 [.ref 31, .int (nI i), .ref f, .int (nI p.length)] (G0 Ln) I J K ↔ K (some (.int (bI (decide ((mAt m i).1 = p))))) (G0 Ln) I J := by
  rw [ACall_0 (L0 := [.ref 31, .int (nI i), .ref f, .int (nI p.length), nv]) (show mcs 59 = (0, 0) from rfl) (show entL 59 [.ref 31, .int (nI i), .ref f, .int (nI p.length)] = _ from rfl) rfl (Nat.le_of_ble_eq_true rfl)]
  obtain ⟨g1, g2, g3, g4⟩ := hm
  obtain ⟨s1, s2, s3, s4, s5⟩ := g3 i hi
  obtain ⟨o1, o2, o3, o4⟩ := hok
  have hp40 := hp.1
  have hq40 := (o3 i hi).1
  have hst : stM m i + (mAt m i).1.length ≤ stM m m.length := fb_sm_part (fun k => (mAt m k).1.length) hi
  simp (disch := omega) only [aw_aload_0 (pc2 := 1) D59_0 rfl, aw_getR (pc2 := 4) (ci := 4) (fk := 2) D59_1 rfl fT_4_19 rfl, aw_iload_1 (pc2 := 5) D59_4 rfl, aw_iaload (pc2 := 6) D59_5 rfl, aw_iload_3 (pc2 := 7) D59_6 rfl, aw_icmp_ne (pc2 := 10) (t := 16) D59_7 (by decide) rfl, aw_iload_3 (pc2 := 11) D59_10 rfl, aw_aload_2 (pc2 := 12) D59_11 rfl, aw_alen (pc2 := 13) D59_12 rfl, aw_icmp_le (pc2 := 16) (t := 18) D59_13 (by decide) rfl, refV_s, refV_n, psh_s, psh_n, kil_i, kil_r, kil_n, kil_l, cat_i, cat_r, iOK_1, iOK_5, jOK_2, jOK_6, wOK_e, lOK_1, lOK_2, lOK_3, lOK_4, lOK_5, lOK_6, catS_0, catS_1, catS_2, catS_3, catS_4, and_self, true_and, and_true, true_or, or_true, false_or, or_false, not_true_eq_false, not_false_eq_true, if_true, if_false, ite_int, ite_int0, au_10, eq_self, decide_true, decide_false, Bool.true_and, Bool.false_and, au_in, au_le, au_lt, au_eq, au_lt0, au_ge0, au_le0, au_gt0, au_eq0, au_leT, au_leF, au_ltT, au_ltF, au_eqT, au_eqF, nI_clamp, nI_1, nI_add, pk_mul, au_sub1, au_subc, au_up2e, au_up2n, lit_of, hf, sh_31, sh_32, sh_33, sh_34, rf_31_0, rf_31_1, rf_31_2, s2]
  by_cases hl : (mAt m i).1.length = p.length
  · rw [if_neg (fun z => z hl)]
    simp (disch := omega) only [aw_iconst (pc2 := 19) (y := 0) D59_18 rfl (by decide), aw_istore_4 (pc2 := 21) D59_19 rfl, refV_s, refV_n, psh_s, psh_n, kil_i, kil_r, kil_n, kil_l, cat_i, cat_r, iOK_1, iOK_5, jOK_2, jOK_6, wOK_e, lOK_1, lOK_2, lOK_3, lOK_4, lOK_5, lOK_6, catS_0, catS_1, catS_2, catS_3, catS_4, and_self, true_and, and_true, true_or, or_true, false_or, or_false, not_true_eq_false, not_false_eq_true, if_true, if_false, ite_int, ite_int0, au_10, eq_self, decide_true, decide_false, Bool.true_and, Bool.false_and]
    have key : ∀ n k, k + n = p.length → (∀ j, j < k → (mAt m i).1.getD j 0 = p.getD j 0) → (AW d ((G0 Ln).1, (G0 Ln).2.1) K 59 21 [.ref 31, .int (nI i), .ref f, .int (nI p.length), .int (nI k)] [] (G0 Ln) I J ↔ K (some (.int (bI (decide ((mAt m i).1 = p))))) (G0 Ln) I J) := by
      intro n
      induction n with
      | zero =>
        intro k hk hj
        have e : k = p.length := by omega
        subst e
        have : (mAt m i).1 = p := list_ext hl (fun j hj2 => hj j (by omega))
        simp (disch := omega) only [aw_iload_4 (pc2 := 23) D59_21 rfl, aw_iload_3 (pc2 := 24) D59_23 rfl, aw_icmp_ge (pc2 := 27) (t := 56) D59_24 (by decide) rfl, aw_iconst (pc2 := 57) (y := 1) D59_56 rfl (by decide), aw_zret D59_57 rfl, refV_s, refV_n, psh_s, psh_n, kil_i, kil_r, kil_n, kil_l, cat_i, cat_r, iOK_1, iOK_5, jOK_2, jOK_6, wOK_e, lOK_1, lOK_2, lOK_3, lOK_4, lOK_5, lOK_6, catS_0, catS_1, catS_2, catS_3, catS_4, and_self, true_and, and_true, true_or, or_true, false_or, or_false, not_true_eq_false, not_false_eq_true, if_true, if_false, ite_int, ite_int0, au_10, eq_self, decide_true, decide_false, Bool.true_and, Bool.false_and, au_in, au_le, au_lt, au_eq, au_lt0, au_ge0, au_le0, au_gt0, au_eq0, au_leT, au_leF, au_ltT, au_ltF, au_eqT, au_eqF, nI_clamp, nI_1, nI_add, pk_mul, au_sub1, au_subc, au_up2e, au_up2n, lit_of]
        rw [decide_eq_true this]
        exact Iff.rfl
      | succ n ih =>
        intro k hk hj
        have hkl : k < p.length := by omega
        have h1 := s5 k (by omega)
        have c1 := (hp.2 _ (getD_mem hkl)).1
        have c2 := ((o3 i hi).2 _ (getD_mem (show k < (mAt m i).1.length by omega))).1
        rw [aw_iload_4 (pc2 := 23) D59_21 rfl]
        simp (disch := omega) only [aw_iload_3 (pc2 := 24) D59_23 rfl, aw_icmp_ge (pc2 := 27) (t := 56) D59_24 (by decide) rfl, aw_aload_0 (pc2 := 28) D59_27 rfl, aw_getR (pc2 := 31) (ci := 4) (fk := 0) D59_28 rfl fT_4_10 rfl, aw_aload_0 (pc2 := 32) D59_31 rfl, aw_getR (pc2 := 35) (ci := 4) (fk := 1) D59_32 rfl fT_4_16 rfl, aw_iload_1 (pc2 := 36) D59_35 rfl, aw_iaload (pc2 := 37) D59_36 rfl, aw_iload_4 (pc2 := 39) D59_37 rfl, aw_iadd (pc2 := 40) D59_39 rfl, aw_iaload (pc2 := 41) D59_40 rfl, aw_aload_2 (pc2 := 42) D59_41 rfl, aw_iload_4 (pc2 := 44) D59_42 rfl, aw_iaload (pc2 := 45) D59_44 rfl, aw_icmp_eq (pc2 := 48) (t := 50) D59_45 (by decide) rfl, refV_s, refV_n, psh_s, psh_n, kil_i, kil_r, kil_n, kil_l, cat_i, cat_r, iOK_1, iOK_5, jOK_2, jOK_6, wOK_e, lOK_1, lOK_2, lOK_3, lOK_4, lOK_5, lOK_6, catS_0, catS_1, catS_2, catS_3, catS_4, and_self, true_and, and_true, true_or, or_true, false_or, or_false, not_true_eq_false, not_false_eq_true, if_true, if_false, ite_int, ite_int0, au_10, eq_self, decide_true, decide_false, Bool.true_and, Bool.false_and, au_in, au_le, au_lt, au_eq, au_lt0, au_ge0, au_le0, au_gt0, au_eq0, au_leT, au_leF, au_ltT, au_ltF, au_eqT, au_eqF, nI_clamp, nI_1, nI_add, pk_mul, au_sub1, au_subc, au_up2e, au_up2n, lit_of, hf, sh_31, sh_32, sh_33, sh_34, rf_31_0, rf_31_1, rf_31_2, s1, h1, lsA_0 h hkl]
        by_cases hc : (mAt m i).1.getD k 0 = p.getD k 0
        · rw [if_pos hc]
          simp (disch := omega) only [aw_iinc_4 (pc2 := 53) (y := 1) D59_50 rfl (by decide), aw_goto (t := 21) D59_53 (by decide), refV_s, refV_n, psh_s, psh_n, kil_i, kil_r, kil_n, kil_l, cat_i, cat_r, iOK_1, iOK_5, jOK_2, jOK_6, wOK_e, lOK_1, lOK_2, lOK_3, lOK_4, lOK_5, lOK_6, catS_0, catS_1, catS_2, catS_3, catS_4, and_self, true_and, and_true, true_or, or_true, false_or, or_false, not_true_eq_false, not_false_eq_true, if_true, if_false, ite_int, ite_int0, au_10, eq_self, decide_true, decide_false, Bool.true_and, Bool.false_and, au_in, au_le, au_lt, au_eq, au_lt0, au_ge0, au_le0, au_gt0, au_eq0, au_leT, au_leF, au_ltT, au_ltF, au_eqT, au_eqF, nI_clamp, nI_1, nI_add, pk_mul, au_sub1, au_subc, au_up2e, au_up2n, lit_of]
          exact ih (k + 1) (by omega) (fun j hj2 => by
            by_cases e : j = k
            · rw [e]; exact hc
            · exact hj j (by omega))
        · rw [if_neg hc]
          have : ¬ (mAt m i).1 = p := fun z => hc (by rw [z])
          simp (disch := omega) only [aw_iconst (pc2 := 49) (y := 0) D59_48 rfl (by decide), aw_zret D59_49 rfl, refV_s, refV_n, psh_s, psh_n, kil_i, kil_r, kil_n, kil_l, cat_i, cat_r, iOK_1, iOK_5, jOK_2, jOK_6, wOK_e, lOK_1, lOK_2, lOK_3, lOK_4, lOK_5, lOK_6, catS_0, catS_1, catS_2, catS_3, catS_4, and_self, true_and, and_true, true_or, or_true, false_or, or_false, not_true_eq_false, not_false_eq_true, if_true, if_false, ite_int, ite_int0, au_10, eq_self, decide_true, decide_false, Bool.true_and, Bool.false_and, au_in, au_le, au_lt, au_eq, au_lt0, au_ge0, au_le0, au_gt0, au_eq0, au_leT, au_leF, au_ltT, au_ltF, au_eqT, au_eqF, nI_clamp, nI_1, nI_add, pk_mul, au_sub1, au_subc, au_up2e, au_up2n, lit_of]
          rw [decide_eq_false this]
          exact Iff.rfl
    exact key p.length 0 (by omega) (fun j hj => absurd hj (Nat.not_lt_zero _))
  · rw [if_pos hl]
    have : ¬ (mAt m i).1 = p := fun z => hl (by rw [z])
    simp (disch := omega) only [aw_iconst (pc2 := 17) (y := 0) D59_16 rfl (by decide), aw_zret D59_17 rfl, refV_s, refV_n, psh_s, psh_n, kil_i, kil_r, kil_n, kil_l, cat_i, cat_r, iOK_1, iOK_5, jOK_2, jOK_6, wOK_e, lOK_1, lOK_2, lOK_3, lOK_4, lOK_5, lOK_6, catS_0, catS_1, catS_2, catS_3, catS_4, and_self, true_and, and_true, true_or, or_true, false_or, or_false, not_true_eq_false, not_false_eq_true, if_true, if_false, ite_int, ite_int0, au_10, eq_self, decide_true, decide_false, Bool.true_and, Bool.false_and]
    rw [decide_eq_false this]
    exact Iff.rfl
def metI : Option Nat → Int32
  | none => -1
  | some n => nI n
theorem C_nodeOf {m : MT} {p : List Nat} (hf : shp (G0 Ln) f = (1, 40)) (hp : lsOK p) (h : lsA f 0 p I) (hm : mtC m I) (hok : mtOK m) : ACall (d + 2) 57 [.ref 31, .ref f, .int (nI p.length)] (G0 Ln) I J K ↔ K (some (.int (metI (metL m p)))) (G0 Ln) I J := by
  rw [ACall_0 (L0 := [.ref 31, .ref f, .int (nI p.length), nv, nv]) (show mcs 57 = (0, 0) from rfl) (show entL 57 [.ref 31, .ref f, .int (nI p.length)] = _ from rfl) rfl (Nat.le_of_ble_eq_true rfl)]
  obtain ⟨g1, g2, g3, g4⟩ := id hm
  obtain ⟨o1, o2, o3, o4⟩ := id hok
  have hp40 := hp.1
  have hh := (hI_ok p).2
  simp (disch := omega) only [aw_aload_0 (pc2 := 1) D57_0 rfl, aw_getR (pc2 := 4) (ci := 4) (fk := 5) D57_1 rfl fT_4_28 rfl, aw_aload_1 (pc2 := 5) D57_4 rfl, aw_iload_2 (pc2 := 6) D57_5 rfl, aw_is2_2 (pc2 := 9) D57_6 rfl cT_4_38 rfl, aw_iaload (pc2 := 10) D57_9 rfl, aw_istore_3 (pc2 := 11) D57_10 rfl, aw_iconst (pc2 := 12) (y := 0) D57_11 rfl (by decide), aw_istore_4 (pc2 := 14) D57_12 rfl, refV_s, refV_n, psh_s, psh_n, kil_i, kil_r, kil_n, kil_l, cat_i, cat_r, iOK_1, iOK_5, jOK_2, jOK_6, wOK_e, lOK_1, lOK_2, lOK_3, lOK_4, lOK_5, lOK_6, catS_0, catS_1, catS_2, catS_3, catS_4, and_self, true_and, and_true, true_or, or_true, false_or, or_false, not_true_eq_false, not_false_eq_true, if_true, if_false, ite_int, ite_int0, au_10, eq_self, decide_true, decide_false, Bool.true_and, Bool.false_and, au_in, au_le, au_lt, au_eq, au_lt0, au_ge0, au_le0, au_gt0, au_eq0, au_leT, au_leF, au_ltT, au_ltF, au_eqT, au_eqF, nI_clamp, nI_1, nI_add, pk_mul, au_sub1, au_subc, au_up2e, au_up2n, lit_of, sh_31, sh_37, rf_31_5, C_chainOf hf hp40 h, g4 _ hh]
  have key : ∀ n s, s + n ≤ m.length → (∀ j, n ≤ j → j < m.length → (mAt m j).1 ≠ p) → (AW (d + 1) ((G0 Ln).1, (G0 Ln).2.1) K 57 14 [.ref 31, .ref f, .int (nI p.length), .int (pvI (prv m (hN p) n)), .int (nI s)] [] (G0 Ln) I J ↔ K (some (.int (metI (metL m p)))) (G0 Ln) I J) := by
    intro n
    induction n using Nat.strongRecOn with
    | ind n ih =>
      intro s hs hj
      cases e : prv m (hN p) n with
      | none =>
        have hno : metL m p = none := metL_none (fun j hjl z => by
          by_cases q : j < n
          · exact prv_no e j q (by rw [z])
          · exact hj j (by omega) hjl z)
        have e1 : pvI none = -1 := rfl
        rw [hno]
        by_cases hsl : m.length ≤ s
        · simp (disch := omega) only [aw_iload_4 (pc2 := 16) D57_14 rfl, aw_aload_0 (pc2 := 17) D57_16 rfl, aw_getI (pc2 := 20) (ci := 4) (fk := 6) D57_17 rfl fT_4_31 rfl, aw_icmp_ge (pc2 := 23) (t := 65) D57_20 (by decide) rfl, aw_iconst (pc2 := 66) (y := -1) D57_65 rfl (by decide), aw_iret D57_66 rfl, refV_s, refV_n, psh_s, psh_n, kil_i, kil_r, kil_n, kil_l, cat_i, cat_r, iOK_1, iOK_5, jOK_2, jOK_6, wOK_e, lOK_1, lOK_2, lOK_3, lOK_4, lOK_5, lOK_6, catS_0, catS_1, catS_2, catS_3, catS_4, and_self, true_and, and_true, true_or, or_true, false_or, or_false, not_true_eq_false, not_false_eq_true, if_true, if_false, ite_int, ite_int0, au_10, eq_self, decide_true, decide_false, Bool.true_and, Bool.false_and, au_in, au_le, au_lt, au_eq, au_lt0, au_ge0, au_le0, au_gt0, au_eq0, au_leT, au_leF, au_ltT, au_ltF, au_eqT, au_eqF, nI_clamp, nI_1, nI_add, pk_mul, au_sub1, au_subc, au_up2e, au_up2n, lit_of, sh_31, g1]
          exact Iff.rfl
        · simp (disch := omega) only [aw_iload_4 (pc2 := 16) D57_14 rfl, aw_aload_0 (pc2 := 17) D57_16 rfl, aw_getI (pc2 := 20) (ci := 4) (fk := 6) D57_17 rfl fT_4_31 rfl, aw_icmp_ge (pc2 := 23) (t := 65) D57_20 (by decide) rfl, aw_iload_3 (pc2 := 24) D57_23 rfl, aw_if_lt (pc2 := 27) (t := 65) D57_24 (by decide) rfl, aw_iconst (pc2 := 66) (y := -1) D57_65 rfl (by decide), aw_iret D57_66 rfl, refV_s, refV_n, psh_s, psh_n, kil_i, kil_r, kil_n, kil_l, cat_i, cat_r, iOK_1, iOK_5, jOK_2, jOK_6, wOK_e, lOK_1, lOK_2, lOK_3, lOK_4, lOK_5, lOK_6, catS_0, catS_1, catS_2, catS_3, catS_4, and_self, true_and, and_true, true_or, or_true, false_or, or_false, not_true_eq_false, not_false_eq_true, if_true, if_false, ite_int, ite_int0, au_10, eq_self, decide_true, decide_false, Bool.true_and, Bool.false_and, au_in, au_le, au_lt, au_eq, au_lt0, au_ge0, au_le0, au_gt0, au_eq0, au_leT, au_leF, au_ltT, au_ltF, au_eqT, au_eqF, nI_clamp, nI_1, nI_add, pk_mul, au_sub1, au_subc, au_up2e, au_up2n, lit_of, sh_31, g1, e1, if_pos (show (-1 : Int32) < 0 by decide)]
          exact Iff.rfl
      | some i =>
        obtain ⟨p1, p2, p3, -⟩ := prv_lt e
        have e1 : pvI (some i) = nI i := rfl
        have hil : i < m.length := by omega
        obtain ⟨s1, s2, s3, s4, s5⟩ := g3 i hil
        rw [aw_iload_4 (pc2 := 16) D57_14 rfl]
        simp (disch := omega) only [aw_aload_0 (pc2 := 17) D57_16 rfl, aw_getI (pc2 := 20) (ci := 4) (fk := 6) D57_17 rfl fT_4_31 rfl, aw_icmp_ge (pc2 := 23) (t := 65) D57_20 (by decide) rfl, aw_iload_3 (pc2 := 24) D57_23 rfl, aw_if_lt (pc2 := 27) (t := 65) D57_24 (by decide) rfl, aw_iload_3 (pc2 := 28) D57_27 rfl, aw_aload_0 (pc2 := 29) D57_28 rfl, aw_getI (pc2 := 32) (ci := 4) (fk := 6) D57_29 rfl fT_4_31 rfl, aw_icmp_ge (pc2 := 35) (t := 65) D57_32 (by decide) rfl, aw_aload_0 (pc2 := 36) D57_35 rfl, aw_iload_3 (pc2 := 37) D57_36 rfl, aw_aload_1 (pc2 := 38) D57_37 rfl, aw_iload_2 (pc2 := 39) D57_38 rfl, aw_iv3_0 (pc2 := 42) (o := 4) D57_39 rfl cT_4_42 rfl rfl, aw_if_eq (pc2 := 45) (t := 52) D57_42 (by decide) rfl, refV_s, refV_n, psh_s, psh_n, kil_i, kil_r, kil_n, kil_l, cat_i, cat_r, iOK_1, iOK_5, jOK_2, jOK_6, wOK_e, lOK_1, lOK_2, lOK_3, lOK_4, lOK_5, lOK_6, catS_0, catS_1, catS_2, catS_3, catS_4, and_self, true_and, and_true, true_or, or_true, false_or, or_false, not_true_eq_false, not_false_eq_true, if_true, if_false, ite_int, ite_int0, au_10, eq_self, decide_true, decide_false, Bool.true_and, Bool.false_and, au_in, au_le, au_lt, au_eq, au_lt0, au_ge0, au_le0, au_gt0, au_eq0, au_leT, au_leF, au_ltT, au_ltF, au_eqT, au_eqF, nI_clamp, nI_1, nI_add, pk_mul, au_sub1, au_subc, au_up2e, au_up2n, lit_of, sh_31, g1, e1, C_isSame hf hp h hm hok hil, bI_0]
        by_cases hq : (mAt m i).1 = p
        · rw [decide_eq_true hq, if_neg (by decide), metL_some o4 hil hq]
          simp (disch := omega) only [aw_aload_0 (pc2 := 46) D57_45 rfl, aw_getR (pc2 := 49) (ci := 4) (fk := 3) D57_46 rfl fT_4_22 rfl, aw_iload_3 (pc2 := 50) D57_49 rfl, aw_iaload (pc2 := 51) D57_50 rfl, aw_iret D57_51 rfl, refV_s, refV_n, psh_s, psh_n, kil_i, kil_r, kil_n, kil_l, cat_i, cat_r, iOK_1, iOK_5, jOK_2, jOK_6, wOK_e, lOK_1, lOK_2, lOK_3, lOK_4, lOK_5, lOK_6, catS_0, catS_1, catS_2, catS_3, catS_4, and_self, true_and, and_true, true_or, or_true, false_or, or_false, not_true_eq_false, not_false_eq_true, if_true, if_false, ite_int, ite_int0, au_10, eq_self, decide_true, decide_false, Bool.true_and, Bool.false_and, au_in, au_le, au_lt, au_eq, au_lt0, au_ge0, au_le0, au_gt0, au_eq0, au_leT, au_leF, au_ltT, au_ltF, au_eqT, au_eqF, nI_clamp, nI_1, nI_add, pk_mul, au_sub1, au_subc, au_up2e, au_up2n, lit_of, sh_31, sh_35, rf_31_3, s3]
          exact Iff.rfl
        · rw [decide_eq_false hq, if_pos rfl]
          rw [p2] at s4
          simp (disch := omega) only [aw_aload_0 (pc2 := 53) D57_52 rfl, aw_getR (pc2 := 56) (ci := 4) (fk := 4) D57_53 rfl fT_4_25 rfl, aw_iload_3 (pc2 := 57) D57_56 rfl, aw_iaload (pc2 := 58) D57_57 rfl, aw_istore_3 (pc2 := 59) D57_58 rfl, aw_iinc_4 (pc2 := 62) (y := 1) D57_59 rfl (by decide), aw_goto (t := 14) D57_62 (by decide), refV_s, refV_n, psh_s, psh_n, kil_i, kil_r, kil_n, kil_l, cat_i, cat_r, iOK_1, iOK_5, jOK_2, jOK_6, wOK_e, lOK_1, lOK_2, lOK_3, lOK_4, lOK_5, lOK_6, catS_0, catS_1, catS_2, catS_3, catS_4, and_self, true_and, and_true, true_or, or_true, false_or, or_false, not_true_eq_false, not_false_eq_true, if_true, if_false, ite_int, ite_int0, au_10, eq_self, decide_true, decide_false, Bool.true_and, Bool.false_and, au_in, au_le, au_lt, au_eq, au_lt0, au_ge0, au_le0, au_gt0, au_eq0, au_leT, au_leF, au_ltT, au_ltF, au_eqT, au_eqF, nI_clamp, nI_1, nI_add, pk_mul, au_sub1, au_subc, au_up2e, au_up2n, lit_of, sh_31, sh_36, rf_31_4, s4]
          refine ih i p1 (s + 1) (by omega) (fun j hj1 hj2 => ?_)
          by_cases ej : j = i
          · rw [ej]; exact hq
          · by_cases q : j < n
            · exact fun z => p3 j (by omega) q (by rw [z])
            · exact hj j (by omega) hj2
  exact key m.length 0 (by omega) (fun j h1 h2 => by omega)
theorem C_remember {m : MT} {p : List Nat} {nd : Nat} (hf : shp (G0 Ln) f = (1, 40)) (hf2 : f < 31 ∨ 37 < f) (hp : lsOK p) (h : lsA f 0 p I) (hm : mtC m I) (hr1 : m.length < 2047) (hr2 : stM m m.length + p.length ≤ 34776) (hK : ∀ I', (∀ a, (a < 31 ∨ 37 < a) → I' a = I a) → mtC (m ++ [(p, nd)]) I' → K (some (.int 1)) (G0 Ln) I' J) : ACall (d + 2) 58 [.ref 31, .ref f, .int (nI p.length), .int (nI nd)] (G0 Ln) I J K := by
  rw [ACall_0 (L0 := [.ref 31, .ref f, .int (nI p.length), .int (nI nd), nv, nv]) (show mcs 58 = (0, 0) from rfl) (show entL 58 [.ref 31, .ref f, .int (nI p.length), .int (nI nd)] = _ from rfl) rfl (Nat.le_of_ble_eq_true rfl)]
  obtain ⟨g1, g2, g3, g4⟩ := id hm
  have hp40 := hp.1
  obtain ⟨hh1, hh⟩ := hI_ok p
  simp (disch := omega) only [aw_aload_0 (pc2 := 1) D58_0 rfl, aw_getI (pc2 := 4) (ci := 4) (fk := 6) D58_1 rfl fT_4_31 rfl, aw_sipush (pc2 := 7) (y := 2047) D58_4 rfl (by decide), aw_icmp_ge (pc2 := 10) (t := 27) D58_7 (by decide) rfl, aw_iload_2 (pc2 := 11) D58_10 rfl, aw_aload_1 (pc2 := 12) D58_11 rfl, aw_alen (pc2 := 13) D58_12 rfl, aw_icmp_gt (pc2 := 16) (t := 27) D58_13 (by decide) rfl, aw_iload_2 (pc2 := 17) D58_16 rfl, aw_ldc (pc2 := 19) (v := 34776) D58_17 rfl (by decide), aw_aload_0 (pc2 := 20) D58_19 rfl, aw_getI (pc2 := 23) (ci := 4) (fk := 7) D58_20 rfl fT_4_35 rfl, aw_isub (pc2 := 24) D58_23 rfl, aw_icmp_le (pc2 := 27) (t := 29) D58_24 (by decide) rfl, aw_iconst (pc2 := 28) (y := 0) D58_27 rfl (by decide), aw_zret D58_28 rfl, aw_aload_1 (pc2 := 30) D58_29 rfl, aw_iload_2 (pc2 := 31) D58_30 rfl, aw_is2_2 (pc2 := 34) D58_31 rfl cT_4_38 rfl, aw_istore_4 (pc2 := 36) D58_34 rfl, aw_aload_0 (pc2 := 37) D58_36 rfl, aw_getR (pc2 := 40) (ci := 4) (fk := 1) D58_37 rfl fT_4_16 rfl, aw_aload_0 (pc2 := 41) D58_40 rfl, aw_getI (pc2 := 44) (ci := 4) (fk := 6) D58_41 rfl fT_4_31 rfl, aw_aload_0 (pc2 := 45) D58_44 rfl, aw_getI (pc2 := 48) (ci := 4) (fk := 7) D58_45 rfl fT_4_35 rfl, aw_iastore (pc2 := 49) D58_48 rfl, aw_aload_0 (pc2 := 50) D58_49 rfl, aw_getR (pc2 := 53) (ci := 4) (fk := 2) D58_50 rfl fT_4_19 rfl, aw_aload_0 (pc2 := 54) D58_53 rfl, aw_getI (pc2 := 57) (ci := 4) (fk := 6) D58_54 rfl fT_4_31 rfl, aw_iload_2 (pc2 := 58) D58_57 rfl, aw_iastore (pc2 := 59) D58_58 rfl, aw_aload_0 (pc2 := 60) D58_59 rfl, aw_getR (pc2 := 63) (ci := 4) (fk := 3) D58_60 rfl fT_4_22 rfl, aw_aload_0 (pc2 := 64) D58_63 rfl, aw_getI (pc2 := 67) (ci := 4) (fk := 6) D58_64 rfl fT_4_31 rfl, aw_iload_3 (pc2 := 68) D58_67 rfl, aw_iastore (pc2 := 69) D58_68 rfl, aw_aload_0 (pc2 := 70) D58_69 rfl, aw_getR (pc2 := 73) (ci := 4) (fk := 4) D58_70 rfl fT_4_25 rfl, aw_aload_0 (pc2 := 74) D58_73 rfl, aw_getI (pc2 := 77) (ci := 4) (fk := 6) D58_74 rfl fT_4_31 rfl, aw_aload_0 (pc2 := 78) D58_77 rfl, aw_getR (pc2 := 81) (ci := 4) (fk := 5) D58_78 rfl fT_4_28 rfl, aw_iload_4 (pc2 := 83) D58_81 rfl, aw_iaload (pc2 := 84) D58_83 rfl, aw_iastore (pc2 := 85) D58_84 rfl, aw_aload_0 (pc2 := 86) D58_85 rfl, aw_getR (pc2 := 89) (ci := 4) (fk := 5) D58_86 rfl fT_4_28 rfl, aw_iload_4 (pc2 := 91) D58_89 rfl, aw_aload_0 (pc2 := 92) D58_91 rfl, aw_getI (pc2 := 95) (ci := 4) (fk := 6) D58_92 rfl fT_4_31 rfl, aw_iastore (pc2 := 96) D58_95 rfl, aw_aload_0 (pc2 := 97) D58_96 rfl, aw_dup (pc2 := 98) D58_97 rfl, aw_getI (pc2 := 101) (ci := 4) (fk := 6) D58_98 rfl fT_4_31 rfl, aw_iconst (pc2 := 102) (y := 1) D58_101 rfl (by decide), aw_iadd (pc2 := 103) D58_102 rfl, aw_putI (pc2 := 106) (ci := 4) (fk := 6) D58_103 rfl fT_4_31 rfl, aw_iconst (pc2 := 107) (y := 0) D58_106 rfl (by decide), aw_istore_5 (pc2 := 109) D58_107 rfl, refV_s, refV_n, psh_s, psh_n, kil_i, kil_r, kil_n, kil_l, cat_i, cat_r, iOK_1, iOK_5, jOK_2, jOK_6, wOK_e, lOK_1, lOK_2, lOK_3, lOK_4, lOK_5, lOK_6, catS_0, catS_1, catS_2, catS_3, catS_4, and_self, true_and, and_true, true_or, or_true, false_or, or_false, not_true_eq_false, not_false_eq_true, if_true, if_false, ite_int, ite_int0, au_10, eq_self, decide_true, decide_false, Bool.true_and, Bool.false_and, au_in, au_le, au_lt, au_eq, au_lt0, au_ge0, au_le0, au_gt0, au_eq0, au_leT, au_leF, au_ltT, au_ltF, au_eqT, au_eqF, nI_clamp, nI_1, nI_add, pk_mul, au_sub1, au_subc, au_up2e, au_up2n, lit_of, lit_2047, lit_34776, hf, sh_31, sh_32, sh_33, sh_34, sh_35, sh_36, sh_37, rf_31_0, rf_31_1, rf_31_2, rf_31_3, rf_31_4, rf_31_5, g1, g2, C_chainOf hf hp40 h, g4 _ hh]
  have key : ∀ n k I', k + n = p.length → (∀ a, (a < 31 ∨ 37 < a) → I' a = I a) → I' 31 6 = nI (m.length + 1) → I' 31 7 = nI (stM m m.length + k) → (∀ i, I' 33 i = if i = m.length then nI (stM m m.length) else I 33 i) → (∀ i, I' 34 i = if i = m.length then nI p.length else I 34 i) → (∀ i, I' 35 i = if i = m.length then nI nd else I 35 i) → (∀ i, I' 36 i = if i = m.length then pvI (prv m (hN p) m.length) else I 36 i) → (∀ c, I' 37 c = if c = hN p then nI m.length else I 37 c) → (∀ j, I' 32 j = if stM m m.length ≤ j ∧ j < stM m m.length + k then nI (p.getD (j - stM m m.length) 0) else I 32 j) → AW (d + 1) ((G0 Ln).1, (G0 Ln).2.1) K 58 109 [.ref 31, .ref f, .int (nI p.length), .int (nI nd), .int (nI (hN p)), .int (nI k)] [] (G0 Ln) I' J := by
    intro n
    induction n with
    | zero =>
      intro k I' hk ha hb hc h33 h34 h35 h36 h37 h32
      have e : k = p.length := by omega
      subst e
      simp (disch := omega) only [aw_iload_5 (pc2 := 111) D58_109 rfl, aw_iload_2 (pc2 := 112) D58_111 rfl, aw_icmp_ge (pc2 := 115) (t := 144) D58_112 (by decide) rfl, aw_iconst (pc2 := 145) (y := 1) D58_144 rfl (by decide), aw_zret D58_145 rfl, refV_s, refV_n, psh_s, psh_n, kil_i, kil_r, kil_n, kil_l, cat_i, cat_r, iOK_1, iOK_5, jOK_2, jOK_6, wOK_e, lOK_1, lOK_2, lOK_3, lOK_4, lOK_5, lOK_6, catS_0, catS_1, catS_2, catS_3, catS_4, and_self, true_and, and_true, true_or, or_true, false_or, or_false, not_true_eq_false, not_false_eq_true, if_true, if_false, ite_int, ite_int0, au_10, eq_self, decide_true, decide_false, Bool.true_and, Bool.false_and, au_in, au_le, au_lt, au_eq, au_lt0, au_ge0, au_le0, au_gt0, au_eq0, au_leT, au_leF, au_ltT, au_ltF, au_eqT, au_eqF, nI_clamp, nI_1, nI_add, pk_mul, au_sub1, au_subc, au_up2e, au_up2n, lit_of]
      have hlen : (m ++ [(p, nd)]).length = m.length + 1 := by rw [List.length_append]; rfl
      have hstl : stM (m ++ [(p, nd)]) (m.length + 1) = stM m m.length + p.length := by
        show stM (m ++ [(p, nd)]) m.length + (mAt (m ++ [(p, nd)]) m.length).1.length = _
        rw [stM_app (Nat.le_refl _), mAt_app (by omega), if_pos rfl]
      refine hK I' ha ⟨?_, ?_, fun i hi => ?_, fun c hc2 => ?_⟩
      · rw [hlen]; exact hb
      · rw [hlen, hstl]; exact hc
      · rw [hlen] at hi
        rw [mAt_app hi, stM_app (by omega), prv_app (by omega), h33 i, h34 i, h35 i, h36 i]
        by_cases ei : i = m.length
        · subst ei
          rw [if_pos rfl, if_pos rfl, if_pos rfl, if_pos rfl, if_pos rfl]
          refine ⟨rfl, rfl, rfl, rfl, fun j hj => ?_⟩
          rw [h32, if_pos (by have hj : j < p.length := hj; omega), show stM m m.length + j - stM m m.length = j by omega]
        · rw [if_neg ei, if_neg ei, if_neg ei, if_neg ei, if_neg ei]
          obtain ⟨s1, s2, s3, s4, s5⟩ := g3 i (by omega)
          refine ⟨s1, s2, s3, s4, fun j hj => ?_⟩
          have hst : stM m i + (mAt m i).1.length ≤ stM m m.length := fb_sm_part (fun k => (mAt m k).1.length) (show i < m.length by omega)
          rw [h32, if_neg (by omega)]
          exact s5 j hj
      · rw [hlen, h37]
        show _ = pvI (if hN (mAt (m ++ [(p, nd)]) m.length).1 = c then some m.length else prv (m ++ [(p, nd)]) c m.length)
        rw [mAt_app (by omega), if_pos rfl, prv_app (Nat.le_refl _)]
        by_cases ec : c = hN p
        · rw [if_pos ec, if_pos ec.symm]
          rfl
        · rw [if_neg ec, if_neg (fun z => ec z.symm)]
          exact g4 c hc2
    | succ n ih =>
      intro k I' hk ha hb hc h33 h34 h35 h36 h37 h32
      have hkl : k < p.length := by omega
      have hfk : I' f k = nI (p.getD k 0) := by rw [ha f hf2]; exact lsA_0 h hkl
      have ihn := ih (k + 1)
      rw [aw_iload_5 (pc2 := 111) D58_109 rfl]
      simp (disch := omega) only [aw_iload_2 (pc2 := 112) D58_111 rfl, aw_icmp_ge (pc2 := 115) (t := 144) D58_112 (by decide) rfl, aw_aload_0 (pc2 := 116) D58_115 rfl, aw_getR (pc2 := 119) (ci := 4) (fk := 0) D58_116 rfl fT_4_10 rfl, aw_aload_0 (pc2 := 120) D58_119 rfl, aw_getI (pc2 := 123) (ci := 4) (fk := 7) D58_120 rfl fT_4_35 rfl, aw_aload_1 (pc2 := 124) D58_123 rfl, aw_iload_5 (pc2 := 126) D58_124 rfl, aw_iaload (pc2 := 127) D58_126 rfl, aw_iastore (pc2 := 128) D58_127 rfl, aw_aload_0 (pc2 := 129) D58_128 rfl, aw_dup (pc2 := 130) D58_129 rfl, aw_getI (pc2 := 133) (ci := 4) (fk := 7) D58_130 rfl fT_4_35 rfl, aw_iconst (pc2 := 134) (y := 1) D58_133 rfl (by decide), aw_iadd (pc2 := 135) D58_134 rfl, aw_putI (pc2 := 138) (ci := 4) (fk := 7) D58_135 rfl fT_4_35 rfl, aw_iinc_5 (pc2 := 141) (y := 1) D58_138 rfl (by decide), aw_goto (t := 109) D58_141 (by decide), refV_s, refV_n, psh_s, psh_n, kil_i, kil_r, kil_n, kil_l, cat_i, cat_r, iOK_1, iOK_5, jOK_2, jOK_6, wOK_e, lOK_1, lOK_2, lOK_3, lOK_4, lOK_5, lOK_6, catS_0, catS_1, catS_2, catS_3, catS_4, and_self, true_and, and_true, true_or, or_true, false_or, or_false, not_true_eq_false, not_false_eq_true, if_true, if_false, ite_int, ite_int0, au_10, eq_self, decide_true, decide_false, Bool.true_and, Bool.false_and, au_in, au_le, au_lt, au_eq, au_lt0, au_ge0, au_le0, au_gt0, au_eq0, au_leT, au_leF, au_ltT, au_ltF, au_eqT, au_eqF, nI_clamp, nI_1, nI_add, pk_mul, au_sub1, au_subc, au_up2e, au_up2n, lit_of, hf, sh_31, sh_32, rf_31_0, hc, hfk]
      refine ihn _ (by omega) (fun a h' => by rw [up2_off (by omega), up2_off (by omega)]; exact ha a h') ?_ ?_ (fun i => ?_) (fun i => ?_) (fun i => ?_) (fun i => ?_) (fun c => ?_) (fun j => ?_)
      · simp (disch := omega) only [au_up2n]; exact hb
      · simp (disch := omega) only [au_up2e]; rfl
      · rw [up2_off (by omega), up2_off (by omega)]; exact h33 i
      · rw [up2_off (by omega), up2_off (by omega)]; exact h34 i
      · rw [up2_off (by omega), up2_off (by omega)]; exact h35 i
      · rw [up2_off (by omega), up2_off (by omega)]; exact h36 i
      · rw [up2_off (by omega), up2_off (by omega)]; exact h37 c
      · rw [up2_off (by omega), up2_f]
        by_cases ej : j = stM m m.length + k
        · rw [if_pos ej, if_pos (by omega), show j - stM m m.length = k by omega]
        · rw [if_neg ej, h32]
          by_cases e2 : stM m m.length ≤ j ∧ j < stM m m.length + k
          · rw [if_pos e2, if_pos (by omega)]
          · rw [if_neg e2, if_neg (by omega)]
  refine key p.length 0 _ (by omega) (fun a h' => ?_) ?_ ?_ (fun i => ?_) (fun i => ?_) (fun i => ?_) (fun i => ?_) (fun c => ?_) (fun j => ?_)
  · simp (disch := omega) only [au_up2c]
  · simp (disch := omega) only [au_up2n, au_up2e]
  · simp (disch := omega) only [au_up2n]; exact g2
  · by_cases ei : i = m.length
    · simp (disch := omega) only [ei, au_up2n, au_up2e, if_true]
    · simp (disch := omega) only [ei, au_up2n, if_false]
  · by_cases ei : i = m.length
    · simp (disch := omega) only [ei, au_up2n, au_up2e, if_true]
    · simp (disch := omega) only [ei, au_up2n, if_false]
  · by_cases ei : i = m.length
    · simp (disch := omega) only [ei, au_up2n, au_up2e, if_true]
    · simp (disch := omega) only [ei, au_up2n, if_false]
  · by_cases ei : i = m.length
    · simp (disch := omega) only [ei, au_up2n, au_up2e, if_true]
    · simp (disch := omega) only [ei, au_up2n, if_false]
  · by_cases ei : c = hN p
    · simp (disch := omega) only [ei, au_up2n, au_up2e, if_true]
    · simp (disch := omega) only [ei, au_up2n, if_false]
  · rw [if_neg (by omega)]
    simp (disch := omega) only [au_up2n]
theorem C_forgetAll (hK : ∀ I', (∀ a, a ≠ 31 → a ≠ 37 → I' a = I a) → mtC [] I' → K none (G0 Ln) I' J) : ACall (d + 1) 56 [.ref 31] (G0 Ln) I J K := by
  rw [ACall_0 (L0 := [.ref 31, nv]) (show mcs 56 = (0, 0) from rfl) (show entL 56 [.ref 31] = _ from rfl) rfl (Nat.le_of_ble_eq_true rfl)]
  simp (disch := omega) only [aw_aload_0 (pc2 := 1) D56_0 rfl, aw_iconst (pc2 := 2) (y := 0) D56_1 rfl (by decide), aw_putI (pc2 := 5) (ci := 4) (fk := 6) D56_2 rfl fT_4_31 rfl, aw_aload_0 (pc2 := 6) D56_5 rfl, aw_iconst (pc2 := 7) (y := 0) D56_6 rfl (by decide), aw_putI (pc2 := 10) (ci := 4) (fk := 7) D56_7 rfl fT_4_35 rfl, aw_iconst (pc2 := 11) (y := 0) D56_10 rfl (by decide), aw_istore_1 (pc2 := 12) D56_11 rfl, refV_s, refV_n, psh_s, psh_n, kil_i, kil_r, kil_n, kil_l, cat_i, cat_r, iOK_1, iOK_5, jOK_2, jOK_6, wOK_e, lOK_1, lOK_2, lOK_3, lOK_4, lOK_5, lOK_6, catS_0, catS_1, catS_2, catS_3, catS_4, and_self, true_and, and_true, true_or, or_true, false_or, or_false, not_true_eq_false, not_false_eq_true, if_true, if_false, ite_int, ite_int0, au_10, eq_self, decide_true, decide_false, Bool.true_and, Bool.false_and, sh_31]
  have key : ∀ n i I', i + n = 256 → (∀ a, a ≠ 31 → a ≠ 37 → I' a = I a) → I' 31 6 = 0 → I' 31 7 = 0 → (∀ c, c < i → I' 37 c = -1) → AW d ((G0 Ln).1, (G0 Ln).2.1) K 56 12 [.ref 31, .int (nI i)] [] (G0 Ln) I' J := by
    intro n
    induction n with
    | zero =>
      intro i I' hi ho h6 h7 hc
      have e : i = 256 := by omega
      subst e
      simp (disch := omega) only [aw_iload_1 (pc2 := 13) D56_12 rfl, aw_aload_0 (pc2 := 14) D56_13 rfl, aw_getR (pc2 := 17) (ci := 4) (fk := 5) D56_14 rfl fT_4_28 rfl, aw_alen (pc2 := 18) D56_17 rfl, aw_icmp_ge (pc2 := 21) (t := 34) D56_18 (by decide) rfl, aw_vret D56_34 rfl, refV_s, refV_n, psh_s, psh_n, kil_i, kil_r, kil_n, kil_l, cat_i, cat_r, iOK_1, iOK_5, jOK_2, jOK_6, wOK_e, lOK_1, lOK_2, lOK_3, lOK_4, lOK_5, lOK_6, catS_0, catS_1, catS_2, catS_3, catS_4, and_self, true_and, and_true, true_or, or_true, false_or, or_false, not_true_eq_false, not_false_eq_true, if_true, if_false, ite_int, ite_int0, au_10, eq_self, decide_true, decide_false, Bool.true_and, Bool.false_and, au_in, au_le, au_lt, au_eq, au_lt0, au_ge0, au_le0, au_gt0, au_eq0, au_leT, au_leF, au_ltT, au_ltF, au_eqT, au_eqF, nI_clamp, nI_1, nI_add, pk_mul, au_sub1, au_subc, au_up2e, au_up2n, lit_of, sh_31, sh_37, rf_31_5]
      exact hK I' ho ⟨h6, h7, fun i hi => absurd hi (Nat.not_lt_zero _), fun c hc2 => hc c hc2⟩
    | succ n ih =>
      intro i I' hi ho h6 h7 hc
      have ihn := ih (i + 1)
      rw [aw_iload_1 (pc2 := 13) D56_12 rfl]
      simp (disch := omega) only [aw_aload_0 (pc2 := 14) D56_13 rfl, aw_getR (pc2 := 17) (ci := 4) (fk := 5) D56_14 rfl fT_4_28 rfl, aw_alen (pc2 := 18) D56_17 rfl, aw_icmp_ge (pc2 := 21) (t := 34) D56_18 (by decide) rfl, aw_aload_0 (pc2 := 22) D56_21 rfl, aw_getR (pc2 := 25) (ci := 4) (fk := 5) D56_22 rfl fT_4_28 rfl, aw_iload_1 (pc2 := 26) D56_25 rfl, aw_iconst (pc2 := 27) (y := -1) D56_26 rfl (by decide), aw_iastore (pc2 := 28) D56_27 rfl, aw_iinc_1 (pc2 := 31) (y := 1) D56_28 rfl (by decide), aw_goto (t := 12) D56_31 (by decide), refV_s, refV_n, psh_s, psh_n, kil_i, kil_r, kil_n, kil_l, cat_i, cat_r, iOK_1, iOK_5, jOK_2, jOK_6, wOK_e, lOK_1, lOK_2, lOK_3, lOK_4, lOK_5, lOK_6, catS_0, catS_1, catS_2, catS_3, catS_4, and_self, true_and, and_true, true_or, or_true, false_or, or_false, not_true_eq_false, not_false_eq_true, if_true, if_false, ite_int, ite_int0, au_10, eq_self, decide_true, decide_false, Bool.true_and, Bool.false_and, au_in, au_le, au_lt, au_eq, au_lt0, au_ge0, au_le0, au_gt0, au_eq0, au_leT, au_leF, au_ltT, au_ltF, au_eqT, au_eqF, nI_clamp, nI_1, nI_add, pk_mul, au_sub1, au_subc, au_up2e, au_up2n, lit_of, sh_31, sh_37, rf_31_5]
      refine ihn _ (by omega) (fun a a1 a2 => by rw [up2_off a2]; exact ho a a1 a2) ?_ ?_ (fun c hc2 => ?_)
      · simp (disch := omega) only [au_up2n]; exact h6
      · simp (disch := omega) only [au_up2n]; exact h7
      · by_cases e : c = i
        · simp (disch := omega) only [e, au_up2e]
        · simp (disch := omega) only [au_up2n]; exact hc c (by omega)
  refine key 256 0 _ (by omega) (fun a a1 _ => by rw [up2_off a1, up2_off a1]) ?_ ?_ (fun c hc => absurd hc (Nat.not_lt_zero _))
  · simp (disch := omega) only [au_up2n, au_up2e]
  · simp (disch := omega) only [au_up2e]
end Met
