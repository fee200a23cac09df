/-! the model: lone signs go, pieces are found -/
theorem pc_zero {c : Nat} (hc : c < 2 ^ 24) (h : pc24 c = 0) : c = 0 := by
  have hz := fb_ct_zero.mp (show fb_ct (fun k => c.testBit k) 24 = 0 from h)
  exact zero_bits (fun i => by
    by_cases hi : i < 24
    · exact hz i hi
    · exact Nat.testBit_lt_two_pow (Nat.lt_of_lt_of_le hc (Nat.pow_le_pow_right (by decide) (by omega))))
theorem ws_0 {l : List Nat} (hl : lsOK l) : (0 ∈ l → ∃ c, c < 2 ^ 24 ∧ wsI l 0 = nI c) ∧ (¬ 0 ∈ l → wsI l 0 = -1) := by
  unfold wsI
  cases e : l.find? (fun c => decide (pc24 c = 0)) with
  | none =>
    refine ⟨fun h => ?_, fun _ => rfl⟩
    have := List.find?_eq_none.mp e 0 h
    exact absurd (decide_eq_true (show pc24 0 = 0 by decide)) this
  | some s =>
    have hm := List.mem_of_find?_eq_some e
    have hp := List.find?_some e
    refine ⟨fun _ => ⟨s, (hl.2 s hm).1, rfl⟩, fun h => ?_⟩
    have h0 := pc_zero (hl.2 s hm).1 (by simpa using hp)
    rw [h0] at hm
    exact absurd hm h
def chT (f a k : Nat) : Prop := chLs f a k ∨ (a = 143 ∧ 12 * f ≤ k ∧ k < 12 * f + 12) ∨ (a = 144 ∧ k = f)
def chP (f a k : Nat) : Prop := (a = 145 ∧ 40 * f ≤ k ∧ k < 40 * f + 40) ∨ (a = 146 ∧ k = f)
theorem m1_lt : ((-1 : Int32) < 0) = True := eq_true (by decide)
theorem m1_ge : ((0 : Int32) ≤ -1) = False := eq_false (by decide)
section MSimp
variable {d Ln f : Nat} {I : IT} {J : JT} {K : KT}
theorem M_simplifies {l : List Nat} (hf : f < 14) (hl : lsOK l) (h5 : I 142 f = nI l.length) (h1 : lsA 141 (40 * f) l I) (h7 : I 144 f = 0) (hk0 : ∀ I', fS (chT f) I I' → sim 13 l [] = none → K (some (.int 0)) (G0 Ln) I' J) (hk1 : ∀ I' l' t', fS (chT f) I I' → sim 13 l [] = some (l', t') → I' 142 f = nI l'.length → lsA 141 (40 * f) l' I' → I' 144 f = nI t'.length → lsA 143 (12 * f) t' I' → K (some (.int 1)) (G0 Ln) I' J) : ACall (d + 3) 150 [.ref 122, .int (nI f)] (G0 Ln) I J K := by
  rw [ACall_0 (L0 := [.ref 122, .int (nI f), nv]) (show mcs 150 = (0, 0) from rfl) (show entL 150 [.ref 122, .int (nI f)] = _ from rfl) rfl (Nat.le_of_ble_eq_true rfl)]
  have hlc := lc_le (l := l)
  have key : ∀ n m t I' v, kil v = v → lsOK m → lc m < n → t.length + lc m ≤ 12 → (∀ s, s ∈ t → ∃ p, p < 24 ∧ s = 2 ^ p) → sim 13 l [] = sim n m t → fS (chT f) I I' → I' 142 f = nI m.length → lsA 141 (40 * f) m I' → I' 144 f = nI t.length → lsA 143 (12 * f) t I' → AW (d + 2) ((G0 Ln).1, (G0 Ln).2.1) K 150 0 [.ref 122, .int (nI f), v] [] (G0 Ln) I' J := by
    intro n
    induction n with
    | zero => intro m t I' v _ _ hlt; exact absurd hlt (Nat.not_lt_zero _)
    | succ n ih =>
      intro m t I' v hv hm hlt htl ht hsim ho o5 ol o7 ot
      have hst : sim (n + 1) m t = (if 0 ∈ m then none else (match lone m with
        | none => some (m, t)
        | some s => sim n (tkS s m) (t ++ [s]))) := rfl
      rw [hst] at hsim
      obtain ⟨w1, w2⟩ := ws_0 hm
      rw [aw_aload_0 (pc2 := 1) D150_0 rfl]
      simp (disch := omega) only [aw_iload_1 (pc2 := 2) D150_1 rfl, aw_iconst (pc2 := 3) (y := 0) D150_2 rfl (by decide), aw_iv2_0 (pc2 := 6) (o := 7) D150_3 rfl cT_7_200 rfl rfl, refV_s, refV_n, psh_s, psh_n, kil_i, kil_r, kil_n, kil_l, cat_i, cat_r, iOK_1, iOK_5, jOK_2, jOK_6, wOK_e, lOK_1, lOK_2, lOK_3, lOK_4, lOK_5, lOK_6, catS_0, catS_1, catS_2, catS_3, catS_4, and_self, true_and, and_true, true_or, or_true, false_or, or_false, not_true_eq_false, not_false_eq_true, if_true, if_false, ite_int, ite_int0, au_10, eq_self, decide_true, decide_false, Bool.true_and, Bool.false_and, au_in, au_le, au_lt, au_eq, au_lt0, au_ge0, au_le0, au_gt0, au_eq0, au_leT, au_leF, au_ltT, au_ltF, au_eqT, au_eqF, nI_clamp, nI_1, nI_add, pk_mul, au_sub1, au_subc, au_up2e, au_up2n, lit_of, sh_122]
      rw [show (0 : Int32) = nI 0 from rfl, M_withSigns (d := d) hf (by decide) hm o5 ol]
      by_cases h0 : 0 ∈ m
      · rw [if_pos h0] at hsim
        obtain ⟨c, hc1, hc2⟩ := w1 h0
        rw [hc2]
        simp (disch := omega) only [aw_if_lt (pc2 := 9) (t := 11) D150_6 (by decide) rfl, aw_iconst (pc2 := 10) (y := 0) D150_9 rfl (by decide), aw_zret D150_10 rfl, refV_s, refV_n, psh_s, psh_n, kil_i, kil_r, kil_n, kil_l, cat_i, cat_r, iOK_1, iOK_5, jOK_2, jOK_6, wOK_e, lOK_1, lOK_2, lOK_3, lOK_4, lOK_5, lOK_6, catS_0, catS_1, catS_2, catS_3, catS_4, and_self, true_and, and_true, true_or, or_true, false_or, or_false, not_true_eq_false, not_false_eq_true, if_true, if_false, ite_int, ite_int0, au_10, eq_self, decide_true, decide_false, Bool.true_and, Bool.false_and, au_in, au_le, au_lt, au_eq, au_lt0, au_ge0, au_le0, au_gt0, au_eq0, au_leT, au_leF, au_ltT, au_ltF, au_eqT, au_eqF, nI_clamp, nI_1, nI_add, pk_mul, au_sub1, au_subc, au_up2e, au_up2n, lit_of, sh_122, psh]
        exact hk0 I' ho hsim
      · rw [if_neg h0] at hsim
        rw [w2 h0]
        simp (disch := omega) only [aw_if_lt (pc2 := 9) (t := 11) D150_6 (by decide) rfl, aw_iconst (pc2 := 10) (y := 0) D150_9 rfl (by decide), aw_zret D150_10 rfl, aw_aload_0 (pc2 := 12) D150_11 rfl, aw_iload_1 (pc2 := 13) D150_12 rfl, aw_iconst (pc2 := 14) (y := 1) D150_13 rfl (by decide), aw_iv2_0 (pc2 := 17) (o := 7) D150_14 rfl cT_7_200 rfl rfl, refV_s, refV_n, psh_s, psh_n, kil_i, kil_r, kil_n, kil_l, cat_i, cat_r, iOK_1, iOK_5, jOK_2, jOK_6, wOK_e, lOK_1, lOK_2, lOK_3, lOK_4, lOK_5, lOK_6, catS_0, catS_1, catS_2, catS_3, catS_4, and_self, true_and, and_true, true_or, or_true, false_or, or_false, not_true_eq_false, not_false_eq_true, if_true, if_false, ite_int, ite_int0, au_10, eq_self, decide_true, decide_false, Bool.true_and, Bool.false_and, au_in, au_le, au_lt, au_eq, au_lt0, au_ge0, au_le0, au_gt0, au_eq0, au_leT, au_leF, au_ltT, au_ltF, au_eqT, au_eqF, nI_clamp, nI_1, nI_add, pk_mul, au_sub1, au_subc, au_up2e, au_up2n, lit_of, sh_122, psh, m1_lt]
        rw [show (1 : Int32) = nI 1 from rfl, M_withSigns (d := d) hf (by decide) hm o5 ol]
        cases e : lone m with
        | none =>
          rw [e] at hsim
          have eI : wsI m 1 = -1 := by unfold wsI; rw [show m.find? (fun c => decide (pc24 c = 1)) = none from e]
          simp (disch := omega) only [aw_istore_2 (pc2 := 18) D150_17 rfl, aw_iload_2 (pc2 := 19) D150_18 rfl, aw_if_ge (pc2 := 22) (t := 24) D150_19 (by decide) rfl, aw_iconst (pc2 := 23) (y := 1) D150_22 rfl (by decide), aw_zret D150_23 rfl, refV_s, refV_n, psh_s, psh_n, kil_i, kil_r, kil_n, kil_l, cat_i, cat_r, iOK_1, iOK_5, jOK_2, jOK_6, wOK_e, lOK_1, lOK_2, lOK_3, lOK_4, lOK_5, lOK_6, catS_0, catS_1, catS_2, catS_3, catS_4, and_self, true_and, and_true, true_or, or_true, false_or, or_false, not_true_eq_false, not_false_eq_true, if_true, if_false, ite_int, ite_int0, au_10, eq_self, decide_true, decide_false, Bool.true_and, Bool.false_and, au_in, au_le, au_lt, au_eq, au_lt0, au_ge0, au_le0, au_gt0, au_eq0, au_leT, au_leF, au_ltT, au_ltF, au_eqT, au_eqF, nI_clamp, nI_1, nI_add, pk_mul, au_sub1, au_subc, au_up2e, au_up2n, lit_of, sh_122, psh, eI, m1_ge]
          exact hk1 I' m t ho hsim o5 ol o7 ot
        | some s =>
          rw [e] at hsim
          obtain ⟨hsm, p, hp, hs⟩ := lone_some hm e
          have hs24 := (hm.2 s hsm).1
          have eI : wsI m 1 = nI s := by unfold wsI; rw [show m.find? (fun c => decide (pc24 c = 1)) = some s from e]
          have hd : lc (tkS s m) + 1 ≤ lc m := by rw [hs]; exact tk_lc hp (lone_lt hp (hs ▸ hsm))
          simp (disch := omega) only [aw_istore_2 (pc2 := 18) D150_17 rfl, aw_iload_2 (pc2 := 19) D150_18 rfl, aw_if_ge (pc2 := 22) (t := 24) D150_19 (by decide) rfl, aw_aload_0 (pc2 := 25) D150_24 rfl, aw_getR (pc2 := 28) (ci := 7) (fk := 21) D150_25 rfl fT_7_71 rfl, aw_bipush (pc2 := 30) (y := 12) D150_28 rfl (by decide), aw_iload_1 (pc2 := 31) D150_30 rfl, aw_imul (pc2 := 32) D150_31 rfl, aw_aload_0 (pc2 := 33) D150_32 rfl, aw_getR (pc2 := 36) (ci := 7) (fk := 22) D150_33 rfl fT_7_74 rfl, aw_iload_1 (pc2 := 37) D150_36 rfl, aw_iaload (pc2 := 38) D150_37 rfl, aw_iadd (pc2 := 39) D150_38 rfl, aw_iload_2 (pc2 := 40) D150_39 rfl, aw_iastore (pc2 := 41) D150_40 rfl, aw_aload_0 (pc2 := 42) D150_41 rfl, aw_getR (pc2 := 45) (ci := 7) (fk := 22) D150_42 rfl fT_7_74 rfl, aw_iload_1 (pc2 := 46) D150_45 rfl, aw_dup2 (pc2 := 47) D150_46 rfl, aw_iaload (pc2 := 48) D150_47 rfl, aw_iconst (pc2 := 49) (y := 1) D150_48 rfl (by decide), aw_iadd (pc2 := 50) D150_49 rfl, aw_iastore (pc2 := 51) D150_50 rfl, aw_aload_0 (pc2 := 52) D150_51 rfl, aw_iload_1 (pc2 := 53) D150_52 rfl, aw_iload_2 (pc2 := 54) D150_53 rfl, aw_iv2_0 (pc2 := 57) (o := 7) D150_54 rfl cT_7_203 rfl rfl, sh_122, rf_122_21, sh_143, lit_12, rf_122_22, sh_144, refV_s, refV_n, psh_s, psh_n, kil_i, kil_r, kil_n, kil_l, cat_i, cat_r, iOK_1, iOK_5, jOK_2, jOK_6, wOK_e, lOK_1, lOK_2, lOK_3, lOK_4, lOK_5, lOK_6, catS_0, catS_1, catS_2, catS_3, catS_4, and_self, true_and, and_true, true_or, or_true, false_or, or_false, not_true_eq_false, not_false_eq_true, if_true, if_false, ite_int, ite_int0, au_10, eq_self, decide_true, decide_false, Bool.true_and, Bool.false_and, au_in, au_le, au_lt, au_eq, au_lt0, au_ge0, au_le0, au_gt0, au_eq0, au_leT, au_leF, au_ltT, au_ltF, au_eqT, au_eqF, nI_clamp, nI_1, nI_add, pk_mul, au_sub1, au_subc, au_up2e, au_up2n, lit_of, psh, eI, o7]
          subst hs
          have ol2 : lsA 141 (40 * f) m (up2 (up2 I' 143 (12 * f + t.length) (nI (2 ^ p))) 144 f (nI (t.length + 1))) := fun j hj => by
            simp (disch := omega) only [au_up2n]; exact ol j hj
          refine M_takes (d := d) hf hp hm (by simp (disch := omega) only [au_up2n]; exact o5) ol2 (fun I'' p1 p3 p4 => ?_)
          simp (disch := omega) only [aw_goto (t := 0) D150_57 (by decide), sh_122, rf_122_21, sh_143, lit_12, rf_122_22, sh_144, refV_s, refV_n, psh_s, psh_n, kil_i, kil_r, kil_n, kil_l, cat_i, cat_r, iOK_1, iOK_5, jOK_2, jOK_6, wOK_e, lOK_1, lOK_2, lOK_3, lOK_4, lOK_5, lOK_6, catS_0, catS_1, catS_2, catS_3, catS_4, and_self, true_and, and_true, true_or, or_true, false_or, or_false, not_true_eq_false, not_false_eq_true, if_true, if_false, ite_int, ite_int0, au_10, eq_self, decide_true, decide_false, Bool.true_and, Bool.false_and, au_in, au_le, au_lt, au_eq, au_lt0, au_ge0, au_le0, au_gt0, au_eq0, au_leT, au_leF, au_ltT, au_ltF, au_eqT, au_eqF, nI_clamp, nI_1, nI_add, pk_mul, au_sub1, au_subc, au_up2e, au_up2n, lit_of]
          refine ih (tkS (2 ^ p) m) (t ++ [2 ^ p]) I'' _ rfl (tk_ok hm) (by omega) (by rw [List.length_append, List.length_singleton]; omega) (fun s' hs' => ?_) hsim (ho.tr (fS.tr (fS.tr (fS.up ?_) (fS.up ?_)) (p1.wk (fun a k q => Or.inl q)))) p3 p4 ?_ (fun j hj => ?_)
          · rcases List.mem_append.mp hs' with z | z
            · exact ht s' z
            · rw [List.mem_singleton] at z; exact ⟨p, hp, z⟩
          · unfold chT; omega
          · unfold chT; omega
          · rw [p1 144 f (by unfold chLs; omega), List.length_append, List.length_singleton, au_up2]
          · rw [List.length_append, List.length_singleton] at hj
            rw [p1 143 _ (by unfold chLs; omega), get_snoc hj]
            by_cases ej : j = t.length
            · simp (disch := omega) only [ej, au_up2e, au_up2n, if_true]
            · simp (disch := omega) only [ej, au_up2n, if_false]
              exact ot j (by omega)
  exact key 13 l [] I nv rfl hl (by omega) (by rw [List.length_nil]; omega) (fun s hs => by cases hs) rfl fS.rf h5 h1 h7 (fun i hi => absurd hi (Nat.not_lt_zero _))
end MSimp
