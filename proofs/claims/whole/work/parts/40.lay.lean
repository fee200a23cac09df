/-- the signs of a clause by letters -/
def layTo (m : Nat) : Nat → List Int
  | 0 => []
  | l + 1 => layTo m l ++ (if m.testBit l then [((l : Int) + 1)] else if m.testBit (12 + l) then [-((l : Int) + 1)] else [])
def oLay (σ : SG) (x c : Int32) : Value × SG := match bkOf x with
  | none => (.int (-3), refS σ 3)
  | some b => if 0 ≤ c ∧ c < nI (σ.1 b).cl.length then (.int (nI (layTo ((σ.1 b).cl.getD c.toNatClampNeg 0) 12).length), (σ.1, some (layTo ((σ.1 b).cl.getD c.toNatClampNeg 0) 12), σ.2.2)) else (.int (-3), refS σ 3)
theorem lay_len (m : Nat) : ∀ l, (layTo m l).length = fb_ct (fun k => m.testBit k || m.testBit (12 + k)) l
  | 0 => rfl
  | l + 1 => by
    rw [layTo, List.length_append, lay_len m l, fb_ct_succ]
    cases m.testBit l <;> cases m.testBit (12 + l) <;> rfl
theorem pc_two {N m : Nat} (h : lowN N m) : fb_ct (fun k => m.testBit k || m.testBit (12 + k)) 12 = pc24 m := by
  unfold pc24
  rw [show 24 = 12 + 12 from rfl, fb_ct_split, fb_ct_or (fun k hk => (h.2 k hk).2.2)]
theorem lay_le {N m l : Nat} (h : lowN N m) (h5 : pc24 m ≤ 5) (hl : l ≤ 12) : (layTo m l).length ≤ 5 := by
  rw [lay_len]
  have := fb_ct_mono (fun k => m.testBit k || m.testBit (12 + k)) hl
  rw [pc_two h] at this
  omega
theorem lay_get (m l : Nat) {i : Nat} (hi : i < (layTo m l).length) : (layTo m (l + 1)).getD i 0 = (layTo m l).getD i 0 := by
  rw [layTo, List.getD_eq_getElem?_getD, List.getD_eq_getElem?_getD, List.getElem?_append_left hi]
theorem lay_mem {m : Nat} : ∀ {l : Nat} {s : Int}, l ≤ 12 → s ∈ layTo m l → -12 ≤ s ∧ s ≤ 12 ∧ s ≠ 0
  | 0, s, _, h => by cases h
  | l + 1, s, hl, h => by
    rw [layTo, List.mem_append] at h
    rcases h with h | h
    · exact lay_mem (by omega) h
    · split at h
      · rw [List.mem_singleton] at h; omega
      · split at h
        · rw [List.mem_singleton] at h; omega
        · cases h
theorem CInv.row {σ : SG} {I I' : IT} {J : JT} {r : List Int} (h : CInv σ I J) (ho : ∀ c, c ≠ 0 → c ≠ 120 → I' c = I c) (h9 : I' 0 9 = I 0 9) (h8 : I' 0 8 = 1) (h7 : I' 0 7 = nI r.length) (hr : ∀ i, i < r.length → I' 120 i = iI (r.getD i 0)) : CInv (σ.1, some r, σ.2.2) I' J := by
  obtain ⟨h1, h3, h4, h5, h6⟩ := h
  refine ⟨fun b hb => (h1 b hb).fr (fun c hc1 hc => ho c (by unfold bkc at hc1; omega) (by unfold bkc at hc; omega)) (fun c _ hc => rfl), ⟨h8, h7, hr⟩, fun k a b => ?_, ?_, h6⟩
  · rw [ho 121 (by omega) (by omega)]; exact h4 k a b
  · rw [h9]; exact h5
theorem MInv.row {σ : SG} {I I' : IT} {r : List Int} (h : MInv σ I) (ho : ∀ c, c ≠ 122 → c ≠ 163 → c ≠ 164 → I' c = I c) (h44 : I' 122 44 = I 122 44) (h7 : I' 122 48 = nI r.length) (hr : ∀ i, i < r.length → I' 163 i = iI (r.getD i 0)) : MInv (σ.1, some r, σ.2.2) I' := by
  obtain ⟨h1, h3, h4, h5⟩ := h
  refine ⟨fun b hb => ?_, ⟨h7, hr⟩, fun k a b => ?_, ?_⟩
  · have := h1 b hb
    unfold MB MGo MG at this ⊢
    simp only [ho 123 (by omega) (by omega) (by omega), ho 124 (by omega) (by omega) (by omega), ho 125 (by omega) (by omega) (by omega), ho 126 (by omega) (by omega) (by omega), ho 127 (by omega) (by omega) (by omega), ho 128 (by omega) (by omega) (by omega), ho 129 (by omega) (by omega) (by omega), ho 131 (by omega) (by omega) (by omega), ho 132 (by omega) (by omega) (by omega), ho 133 (by omega) (by omega) (by omega), ho 134 (by omega) (by omega) (by omega), ho 135 (by omega) (by omega) (by omega), ho 136 (by omega) (by omega) (by omega), ho 137 (by omega) (by omega) (by omega), ho 138 (by omega) (by omega) (by omega), ho 159 (by omega) (by omega) (by omega), ho 161 (by omega) (by omega) (by omega)]
    exact this
  · rw [ho 130 (by omega) (by omega) (by omega)]; exact h4 k a b
  · rw [h44]; exact h5
theorem lt_bits : ∀ l, l < 12 → bitC (nI (l + 1)) = nI (2 ^ l) ∧ bitC (-(nI (l + 1))) = nI (2 ^ (12 + l)) ∧ bitM (nI (l + 1)) = nI (2 ^ l) ∧ bitM (-(nI (l + 1))) = nI (2 ^ (12 + l)) ∧ nI (l + 1) = iI ((l : Int) + 1) ∧ -(nI (l + 1)) = iI (-((l : Int) + 1)) := by decide
theorem get_app1 {l : List Int} {v : Int} {i : Nat} (hi : i < l.length + 1) : (l ++ [v]).getD i 0 = if i = l.length then v else l.getD i 0 := by
  rw [List.getD_eq_getElem?_getD, List.getD_eq_getElem?_getD]
  by_cases e : i = l.length
  · subst e; simp
  · rw [if_neg e, List.getElem?_append_left (by omega)]
section Lay
variable {d Ln : Nat} {I : IT} {J : JT} {K : KT} {σ : SG}
theorem C_putInRow {n : Nat} {v : Int32} (hn : I 0 7 = nI n) (h5 : n < 5) : ACall (d + 1) 114 [.ref 0, .int v] (G0 Ln) I J K ↔ K none (G0 Ln) (up2 (up2 I 120 n v) 0 7 (nI (n + 1))) J := by
  rw [ACall_0 (L0 := [.ref 0, .int v]) (show mcs 114 = (0, 0) from rfl) (show entL 114 [.ref 0, .int v] = _ from rfl) rfl (Nat.le_of_ble_eq_true rfl)]
  simp (disch := omega) only [aw_aload_0 (pc2 := 1) D114_0 rfl, aw_aloadN_0 (pc2 := 1) D114_0 rfl, aw_getI (pc2 := 4) (ci := 6) (fk := 7) D114_1 rfl fT_6_44 rfl, aw_aload_0 (pc2 := 5) D114_4 rfl, aw_aloadN_0 (pc2 := 5) D114_4 rfl, aw_getR (pc2 := 8) (ci := 6) (fk := 5) D114_5 rfl fT_6_37 rfl, aw_alen (pc2 := 9) D114_8 rfl, aw_icmp_ge (pc2 := 12) (t := 32) D114_9 (by decide) rfl, aw_aload_0 (pc2 := 13) D114_12 rfl, aw_aloadN_0 (pc2 := 13) D114_12 rfl, aw_getR (pc2 := 16) (ci := 6) (fk := 5) D114_13 rfl fT_6_37 rfl, aw_aload_0 (pc2 := 17) D114_16 rfl, aw_aloadN_0 (pc2 := 17) D114_16 rfl, aw_getI (pc2 := 20) (ci := 6) (fk := 7) D114_17 rfl fT_6_44 rfl, aw_iload_1 (pc2 := 21) D114_20 rfl, aw_iastore (pc2 := 22) D114_21 rfl, aw_aload_0 (pc2 := 23) D114_22 rfl, aw_aloadN_0 (pc2 := 23) D114_22 rfl, aw_dup (pc2 := 24) D114_23 rfl, aw_getI (pc2 := 27) (ci := 6) (fk := 7) D114_24 rfl fT_6_44 rfl, aw_iconst (pc2 := 28) (y := 1) D114_27 rfl (by decide), aw_iadd (pc2 := 29) D114_28 rfl, aw_putI (pc2 := 32) (ci := 6) (fk := 7) D114_29 rfl fT_6_44 rfl, aw_vret D114_32 rfl, sh_0, rf_0_5, sh_120, refV_s, refV_n, psh_s, psh_n, kil_i, kil_r, kil_n, kil_l, cat_i, cat_r, iOK_1, iOK_5, jOK_2, jOK_6, wOK_e, lOK_1, lOK_2, lOK_3, lOK_4, catS_0, catS_1, catS_2, catS_3, catS_4, and_self, true_and, and_true, true_or, or_true, false_or, or_false, not_true_eq_false, not_false_eq_true, if_true, if_false, ite_int, ite_int0, au_10, eq_self, au_in, au_le, au_lt, au_eq, au_lt0, au_ge0, au_le0, au_gt0, au_eq0, au_leT, au_leF, au_ltT, au_ltF, au_eqT, au_eqF, nI_clamp, nI_1, nI_add, pk_mul, au_sub1, au_subc, au_up2e, au_up2n, lit_of, hn]
theorem CO_lay {x c : Int32} (hs : sgOK σ) (h : CInv σ I J) (hk : CPost Ln I J K (oLay σ x c)) : ACall (d + 3) 104 [.ref 0, .int x, .int c] (G0 Ln) I J K := by
  rw [ACall_0 (L0 := [.ref 0, .int x, .int c, nv, nv, nv]) (show mcs 104 = (0, 0) from rfl) (show entL 104 [.ref 0, .int x, .int c] = _ from rfl) rfl (Nat.le_of_ble_eq_true rfl)]
  unfold oLay at hk
  cases hx : bkOf x with
  | none =>
    simp only [hx] at hk
    obtain ⟨x0, x1⟩ := bkOf_none hx
    simp only [aw_aload_0 (pc2 := 1) D104_0 rfl, aw_aloadN_0 (pc2 := 1) D104_0 rfl, aw_iload_1 (pc2 := 2) D104_1 rfl, aw_iv1_0 (pc2 := 5) (o := 6) D104_2 rfl cT_6_55 rfl rfl, aw_astore_3 (pc2 := 6) D104_5 rfl, aw_astoreN_3 (pc2 := 6) D104_5 rfl, aw_aload_3 (pc2 := 7) D104_6 rfl, aw_aloadN_3 (pc2 := 7) D104_6 rfl, aw_ifnull (pc2 := 10) D104_7 rfl, aw_ifnullN (t := 22) D104_7 (by decide), aw_iload_2 (pc2 := 11) D104_10 rfl, aw_if_lt (pc2 := 14) (t := 22) D104_11 (by decide) rfl, aw_iload_2 (pc2 := 15) D104_14 rfl, aw_aload_3 (pc2 := 16) D104_15 rfl, aw_aloadN_3 (pc2 := 16) D104_15 rfl, aw_getI (pc2 := 19) (ci := 0) (fk := 5) D104_16 rfl fT_6_84 rfl, aw_icmp_lt (pc2 := 22) (t := 29) D104_19 (by decide) rfl, aw_aload_0 (pc2 := 23) D104_22 rfl, aw_aloadN_0 (pc2 := 23) D104_22 rfl, aw_bipush (pc2 := 25) (y := -3) D104_23 rfl (by decide), aw_iv1_0 (pc2 := 28) (o := 6) D104_25 rfl cT_6_59 rfl rfl, aw_iret D104_28 rfl, sh_0, lit_12, refV_s, refV_n, psh_s, psh_n, kil_i, kil_r, kil_n, kil_l, cat_i, cat_r, iOK_1, iOK_5, jOK_2, jOK_6, wOK_e, lOK_1, lOK_2, lOK_3, lOK_4, catS_0, catS_1, catS_2, catS_3, catS_4, and_self, true_and, and_true, true_or, or_true, false_or, or_false, not_true_eq_false, not_false_eq_true, if_true, if_false, ite_int, ite_int0, au_10, eq_self, C_bookAtN x0 x1, C_ref3]
    exact hk.ref h (by omega) (by omega)
  | some b =>
    simp only [hx] at hk
    obtain ⟨hb, rfl⟩ := bkOf_some hx
    have hB := bf (Ln := Ln) hb
    have hh := h.1 b hb
    have hN := (hs.1 b hb).2.1
    have hl := (hs.1 b hb).2.2.1
    rcases pk_ix c (n := (σ.1 b).cl.length) (by omega) with z | z | ⟨j, hj, rfl⟩
    · rw [if_neg (fun q => by have := q.1; rw [fa_lt] at z; rw [fa_le] at this; omega)] at hk
      simp only [aw_aload_0 (pc2 := 1) D104_0 rfl, aw_aloadN_0 (pc2 := 1) D104_0 rfl, aw_iload_1 (pc2 := 2) D104_1 rfl, aw_iv1_0 (pc2 := 5) (o := 6) D104_2 rfl cT_6_55 rfl rfl, aw_astore_3 (pc2 := 6) D104_5 rfl, aw_astoreN_3 (pc2 := 6) D104_5 rfl, aw_aload_3 (pc2 := 7) D104_6 rfl, aw_aloadN_3 (pc2 := 7) D104_6 rfl, aw_ifnull (pc2 := 10) D104_7 rfl, aw_ifnullN (t := 22) D104_7 (by decide), aw_iload_2 (pc2 := 11) D104_10 rfl, aw_if_lt (pc2 := 14) (t := 22) D104_11 (by decide) rfl, aw_iload_2 (pc2 := 15) D104_14 rfl, aw_aload_3 (pc2 := 16) D104_15 rfl, aw_aloadN_3 (pc2 := 16) D104_15 rfl, aw_getI (pc2 := 19) (ci := 0) (fk := 5) D104_16 rfl fT_6_84 rfl, aw_icmp_lt (pc2 := 22) (t := 29) D104_19 (by decide) rfl, aw_aload_0 (pc2 := 23) D104_22 rfl, aw_aloadN_0 (pc2 := 23) D104_22 rfl, aw_bipush (pc2 := 25) (y := -3) D104_23 rfl (by decide), aw_iv1_0 (pc2 := 28) (o := 6) D104_25 rfl cT_6_59 rfl rfl, aw_iret D104_28 rfl, sh_0, lit_12, refV_s, refV_n, psh_s, psh_n, kil_i, kil_r, kil_n, kil_l, cat_i, cat_r, iOK_1, iOK_5, jOK_2, jOK_6, wOK_e, lOK_1, lOK_2, lOK_3, lOK_4, catS_0, catS_1, catS_2, catS_3, catS_4, and_self, true_and, and_true, true_or, or_true, false_or, or_false, not_true_eq_false, not_false_eq_true, if_true, if_false, ite_int, ite_int0, au_10, eq_self, C_bookAt hb, C_ref3, if_pos z]
      exact hk.ref h (by omega) (by omega)
    · have z2 : ¬ c < nI (σ.1 b).cl.length := by rw [fa_le] at z; rw [fa_lt]; omega
      rw [if_neg (fun q => z2 q.2)] at hk
      simp only [aw_aload_0 (pc2 := 1) D104_0 rfl, aw_aloadN_0 (pc2 := 1) D104_0 rfl, aw_iload_1 (pc2 := 2) D104_1 rfl, aw_iv1_0 (pc2 := 5) (o := 6) D104_2 rfl cT_6_55 rfl rfl, aw_astore_3 (pc2 := 6) D104_5 rfl, aw_astoreN_3 (pc2 := 6) D104_5 rfl, aw_aload_3 (pc2 := 7) D104_6 rfl, aw_aloadN_3 (pc2 := 7) D104_6 rfl, aw_ifnull (pc2 := 10) D104_7 rfl, aw_ifnullN (t := 22) D104_7 (by decide), aw_iload_2 (pc2 := 11) D104_10 rfl, aw_if_lt (pc2 := 14) (t := 22) D104_11 (by decide) rfl, aw_iload_2 (pc2 := 15) D104_14 rfl, aw_aload_3 (pc2 := 16) D104_15 rfl, aw_aloadN_3 (pc2 := 16) D104_15 rfl, aw_getI (pc2 := 19) (ci := 0) (fk := 5) D104_16 rfl fT_6_84 rfl, aw_icmp_lt (pc2 := 22) (t := 29) D104_19 (by decide) rfl, aw_aload_0 (pc2 := 23) D104_22 rfl, aw_aloadN_0 (pc2 := 23) D104_22 rfl, aw_bipush (pc2 := 25) (y := -3) D104_23 rfl (by decide), aw_iv1_0 (pc2 := 28) (o := 6) D104_25 rfl cT_6_59 rfl rfl, aw_iret D104_28 rfl, sh_0, lit_12, refV_s, refV_n, psh_s, psh_n, kil_i, kil_r, kil_n, kil_l, cat_i, cat_r, iOK_1, iOK_5, jOK_2, jOK_6, wOK_e, lOK_1, lOK_2, lOK_3, lOK_4, catS_0, catS_1, catS_2, catS_3, catS_4, and_self, true_and, and_true, true_or, or_true, false_or, or_false, not_true_eq_false, not_false_eq_true, if_true, if_false, ite_int, ite_int0, au_10, eq_self, C_bookAt hb, C_ref3, hB.1.1, hh.2.1, if_neg z2, ite_self]
      exact hk.ref h (by omega) (by omega)
    · rw [if_pos ⟨nI_pos' (by omega), nI_lt hj (by omega)⟩, nI_clamp (by omega)] at hk
      have hcl : clOK (σ.1 b).N ((σ.1 b).cl.getD j 0) := (hs.1 b hb).2.2.2.1 _ (by
        rw [List.getD_eq_getElem?_getD, List.getElem?_eq_getElem hj]
        exact List.getElem_mem _)
      simp only [aw_aload_0 (pc2 := 1) D104_0 rfl, aw_aloadN_0 (pc2 := 1) D104_0 rfl, aw_iload_1 (pc2 := 2) D104_1 rfl, aw_iv1_0 (pc2 := 5) (o := 6) D104_2 rfl cT_6_55 rfl rfl, aw_astore_3 (pc2 := 6) D104_5 rfl, aw_astoreN_3 (pc2 := 6) D104_5 rfl, aw_aload_3 (pc2 := 7) D104_6 rfl, aw_aloadN_3 (pc2 := 7) D104_6 rfl, aw_ifnull (pc2 := 10) D104_7 rfl, aw_ifnullN (t := 22) D104_7 (by decide), aw_iload_2 (pc2 := 11) D104_10 rfl, aw_if_lt (pc2 := 14) (t := 22) D104_11 (by decide) rfl, aw_iload_2 (pc2 := 15) D104_14 rfl, aw_aload_3 (pc2 := 16) D104_15 rfl, aw_aloadN_3 (pc2 := 16) D104_15 rfl, aw_getI (pc2 := 19) (ci := 0) (fk := 5) D104_16 rfl fT_6_84 rfl, aw_icmp_lt (pc2 := 22) (t := 29) D104_19 (by decide) rfl, aw_aload_0 (pc2 := 23) D104_22 rfl, aw_aloadN_0 (pc2 := 23) D104_22 rfl, aw_bipush (pc2 := 25) (y := -3) D104_23 rfl (by decide), aw_iv1_0 (pc2 := 28) (o := 6) D104_25 rfl cT_6_59 rfl rfl, aw_iret D104_28 rfl, aw_aload_3 (pc2 := 30) D104_29 rfl, aw_aloadN_3 (pc2 := 30) D104_29 rfl, aw_iload_2 (pc2 := 31) D104_30 rfl, aw_iv1_0 (pc2 := 34) (o := 0) D104_31 rfl cT_6_87 rfl rfl, aw_istore_4 (pc2 := 36) D104_34 rfl, aw_aload_0 (pc2 := 37) D104_36 rfl, aw_aloadN_0 (pc2 := 37) D104_36 rfl, aw_iconst (pc2 := 38) (y := 0) D104_37 rfl (by decide), aw_putI (pc2 := 41) (ci := 6) (fk := 7) D104_38 rfl fT_6_44 rfl, aw_aload_0 (pc2 := 42) D104_41 rfl, aw_aloadN_0 (pc2 := 42) D104_41 rfl, aw_iconst (pc2 := 43) (y := 1) D104_42 rfl (by decide), aw_putZ (pc2 := 46) (ci := 6) (fk := 8) D104_43 rfl fT_6_48 rfl, aw_iconst (pc2 := 47) (y := 1) D104_46 rfl (by decide), aw_istore_5 (pc2 := 49) D104_47 rfl, sh_0, lit_12, refV_s, refV_n, psh_s, psh_n, kil_i, kil_r, kil_n, kil_l, cat_i, cat_r, iOK_1, iOK_5, jOK_2, jOK_6, wOK_e, lOK_1, lOK_2, lOK_3, lOK_4, catS_0, catS_1, catS_2, catS_3, catS_4, and_self, true_and, and_true, true_or, or_true, false_or, or_false, not_true_eq_false, not_false_eq_true, if_true, if_false, ite_int, ite_int0, au_10, eq_self, C_bookAt hb, C_ref3, C_clauseAt hB (show j < 40 by omega), hB.1.1, hh.2.1, hh.2.2.1 j hj, if_neg (nI_pos (show j < 2 ^ 31 by omega)), if_pos (nI_lt hj (show (σ.1 b).cl.length < 2 ^ 31 by omega))]
      generalize hm : (σ.1 b).cl.getD j 0 = m at hk hcl ⊢
      have key : ∀ n l I', l + n = 12 → (∀ c, c ≠ 0 → c ≠ 120 → I' c = I c) → I' 0 9 = I 0 9 → I' 0 8 = 1 → I' 0 7 = nI (layTo m l).length → (∀ i, i < (layTo m l).length → I' 120 i = iI ((layTo m l).getD i 0)) → AW (d + 2) ((G0 Ln).1, (G0 Ln).2.1) K 104 49 [.ref 0, .int (nI b), .int (nI j), .ref (bkc b), .int (nI m), .int (nI (l + 1))] [] (G0 Ln) I' J := by
        intro n
        induction n with
        | zero =>
          intro l I' hl12 ho h9 h8 h7 hr
          have e : l = 12 := by omega
          subst e
          simp only [aw_iload_5 (pc2 := 51) D104_49 rfl, aw_bipush (pc2 := 53) (y := 12) D104_51 rfl (by decide), aw_icmp_gt (pc2 := 56) (t := 101) D104_53 (by decide) rfl, aw_aload_0 (pc2 := 102) D104_101 rfl, aw_aloadN_0 (pc2 := 102) D104_101 rfl, aw_getI (pc2 := 105) (ci := 6) (fk := 7) D104_102 rfl fT_6_44 rfl, aw_iret D104_105 rfl, sh_0, lit_12, refV_s, refV_n, psh_s, psh_n, kil_i, kil_r, kil_n, kil_l, cat_i, cat_r, iOK_1, iOK_5, jOK_2, jOK_6, wOK_e, lOK_1, lOK_2, lOK_3, lOK_4, catS_0, catS_1, catS_2, catS_3, catS_4, and_self, true_and, and_true, true_or, or_true, false_or, or_false, not_true_eq_false, not_false_eq_true, if_true, if_false, ite_int, ite_int0, au_10, eq_self, if_pos (show (12 : Int32) < nI (12 + 1) by decide), h7]
          exact hk _ _ (h.row ho h9 h8 h7 hr) (fun c hc => ho c (by omega) (by omega)) FrC.rf
        | succ n ih =>
          intro l I' hl12 ho h9 h8 h7 hr
          obtain ⟨b1, b2, -, -, b5, b6⟩ := lt_bits l (by omega)
          have hle := lay_le hcl.1 hcl.2.2 (show l + 1 ≤ 12 by omega)
          rw [layTo, List.length_append] at hle
          have ihn := ih (l + 1)
          rw [aw_iload_5 (pc2 := 51) D104_49 rfl]
          have s5 : ∀ v : Int, (layTo m (l + 1)) = layTo m l ++ [v] → AW (d + 2) ((G0 Ln).1, (G0 Ln).2.1) K 104 95 [.ref 0, .int (nI b), .int (nI j), .ref (bkc b), .int (nI m), .int (nI (l + 1))] [] (G0 Ln) (up2 (up2 I' 120 (layTo m l).length (iI v)) 0 7 (nI ((layTo m l).length + 1))) J := by
            intro v hv
            simp only [aw_iinc_5 (pc2 := 98) (y := 1) D104_95 rfl (by decide), aw_goto (t := 49) D104_98 (by decide), sh_0, lit_12, refV_s, refV_n, psh_s, psh_n, kil_i, kil_r, kil_n, kil_l, cat_i, cat_r, iOK_1, iOK_5, jOK_2, jOK_6, wOK_e, lOK_1, lOK_2, lOK_3, lOK_4, catS_0, catS_1, catS_2, catS_3, catS_4, and_self, true_and, and_true, true_or, or_true, false_or, or_false, not_true_eq_false, not_false_eq_true, if_true, if_false, ite_int, ite_int0, au_10, eq_self, nI_1]
            refine ihn _ (by omega) (fun c c0 c1 => by rw [au_up2c c0, au_up2c c1]; exact ho c c0 c1) ?_ ?_ ?_ (fun i hi => ?_)
            · simp (disch := omega) only [au_up2n]; exact h9
            · simp (disch := omega) only [au_up2n]; exact h8
            · simp (disch := omega) only [au_up2e]; rw [hv, List.length_append]; rfl
            · rw [hv, List.length_append] at hi
              simp at hi
              rw [hv, get_app1 hi]
              by_cases e : i = (layTo m l).length
              · simp (disch := omega) only [e, au_up2e, au_up2n, if_true]
              · simp (disch := omega) only [e, au_up2n, if_false]
                exact hr i (by omega)
          cases t1 : m.testBit l with
          | true =>
            rw [t1, if_pos rfl] at hle
            have hv : layTo m (l + 1) = layTo m l ++ [((l : Int) + 1)] := by rw [layTo, t1]; rfl
            have := s5 _ hv
            simp at hle
            rw [← b5] at this
            simp only [aw_bipush (pc2 := 53) (y := 12) D104_51 rfl (by decide), aw_icmp_gt (pc2 := 56) (t := 101) D104_53 (by decide) rfl, aw_iload_4 (pc2 := 58) D104_56 rfl, aw_iload_5 (pc2 := 60) D104_58 rfl, aw_is1_2 (pc2 := 63) D104_60 rfl cT_6_74 rfl, aw_iand (pc2 := 64) D104_63 rfl, aw_if_eq (pc2 := 67) (t := 76) D104_64 (by decide) rfl, aw_aload_0 (pc2 := 68) D104_67 rfl, aw_aloadN_0 (pc2 := 68) D104_67 rfl, aw_iload_5 (pc2 := 70) D104_68 rfl, aw_iv1_0 (pc2 := 73) (o := 6) D104_70 rfl cT_6_236 rfl rfl, aw_goto (t := 95) D104_73 (by decide), sh_0, lit_12, refV_s, refV_n, psh_s, psh_n, kil_i, kil_r, kil_n, kil_l, cat_i, cat_r, iOK_1, iOK_5, jOK_2, jOK_6, wOK_e, lOK_1, lOK_2, lOK_3, lOK_4, catS_0, catS_1, catS_2, catS_3, catS_4, and_self, true_and, and_true, true_or, or_true, false_or, or_false, not_true_eq_false, not_false_eq_true, if_true, if_false, ite_int, ite_int0, au_10, eq_self, C_bitOf, b1, bit_test (show l < 31 by omega), t1, C_putInRow h7 (show (layTo m l).length < 5 by omega), if_neg (nI_nlt (a := 12) (b := l + 1) (by omega) (by decide))]
            rw [if_neg (by decide)]
            exact this
          | false =>
            rw [t1, if_neg (by decide)] at hle
            simp only [aw_bipush (pc2 := 53) (y := 12) D104_51 rfl (by decide), aw_icmp_gt (pc2 := 56) (t := 101) D104_53 (by decide) rfl, aw_iload_4 (pc2 := 58) D104_56 rfl, aw_iload_5 (pc2 := 60) D104_58 rfl, aw_is1_2 (pc2 := 63) D104_60 rfl cT_6_74 rfl, aw_iand (pc2 := 64) D104_63 rfl, aw_if_eq (pc2 := 67) (t := 76) D104_64 (by decide) rfl, aw_iload_4 (pc2 := 78) D104_76 rfl, aw_iload_5 (pc2 := 80) D104_78 rfl, aw_ineg (pc2 := 81) D104_80 rfl, aw_is1_2 (pc2 := 84) D104_81 rfl cT_6_74 rfl, aw_iand (pc2 := 85) D104_84 rfl, aw_if_eq (pc2 := 88) (t := 95) D104_85 (by decide) rfl, sh_0, lit_12, refV_s, refV_n, psh_s, psh_n, kil_i, kil_r, kil_n, kil_l, cat_i, cat_r, iOK_1, iOK_5, jOK_2, jOK_6, wOK_e, lOK_1, lOK_2, lOK_3, lOK_4, catS_0, catS_1, catS_2, catS_3, catS_4, and_self, true_and, and_true, true_or, or_true, false_or, or_false, not_true_eq_false, not_false_eq_true, if_true, if_false, ite_int, ite_int0, au_10, eq_self, C_bitOf, b1, b2, bit_test (show l < 31 by omega), bit_test (show 12 + l < 31 by omega), t1]
            rw [if_neg (nI_nlt (a := 12) (b := l + 1) (by omega) (by decide))]
            cases t2 : m.testBit (12 + l) with
            | true =>
              rw [t2, if_pos rfl] at hle
              have hv : layTo m (l + 1) = layTo m l ++ [-((l : Int) + 1)] := by rw [layTo, t1, t2]; rfl
              have := s5 _ hv
              simp at hle
              rw [← b6] at this
              rw [if_neg (by decide)]
              simp only [aw_aload_0 (pc2 := 89) D104_88 rfl, aw_aloadN_0 (pc2 := 89) D104_88 rfl, aw_iload_5 (pc2 := 91) D104_89 rfl, aw_ineg (pc2 := 92) D104_91 rfl, aw_iv1_0 (pc2 := 95) (o := 6) D104_92 rfl cT_6_236 rfl rfl, sh_0, lit_12, refV_s, refV_n, psh_s, psh_n, kil_i, kil_r, kil_n, kil_l, cat_i, cat_r, iOK_1, iOK_5, jOK_2, jOK_6, wOK_e, lOK_1, lOK_2, lOK_3, lOK_4, catS_0, catS_1, catS_2, catS_3, catS_4, and_self, true_and, and_true, true_or, or_true, false_or, or_false, not_true_eq_false, not_false_eq_true, if_true, if_false, ite_int, ite_int0, au_10, eq_self, C_putInRow h7 (show (layTo m l).length < 5 by omega)]
              exact this
            | false =>
              have hv : layTo m (l + 1) = layTo m l := by rw [layTo, t1, t2]; simp
              rw [ifT rfl]
              simp only [aw_iinc_5 (pc2 := 98) (y := 1) D104_95 rfl (by decide), aw_goto (t := 49) D104_98 (by decide), sh_0, lit_12, refV_s, refV_n, psh_s, psh_n, kil_i, kil_r, kil_n, kil_l, cat_i, cat_r, iOK_1, iOK_5, jOK_2, jOK_6, wOK_e, lOK_1, lOK_2, lOK_3, lOK_4, catS_0, catS_1, catS_2, catS_3, catS_4, and_self, true_and, and_true, true_or, or_true, false_or, or_false, not_true_eq_false, not_false_eq_true, if_true, if_false, ite_int, ite_int0, au_10, eq_self, nI_1]
              exact ihn _ (by omega) ho h9 h8 (by rw [hv]; exact h7) (by rw [hv]; exact hr)
      refine key 12 0 _ rfl (fun c c0 c1 => by rw [au_up2c c0, au_up2c c0]) ?_ ?_ ?_ (fun i hi => absurd hi (Nat.not_lt_zero _))
      · simp (disch := omega) only [au_up2n]
      · simp (disch := omega) only [au_up2e]
      · simp (disch := omega) only [au_up2n, au_up2e]; rfl
end Lay
