theorem up2_ap {α : Type} {f : Nat → Nat → α} {c k a b : Nat} {v : α} : up2 f c k v a b = if a = c then (if b = k then v else f a b) else f a b := rfl
/-- is place k of cell c the model's for book b -/
def inSl (b c k : Nat) : Prop := ((c = 123 ∨ c = 125 ∨ c = 126 ∨ c = 127 ∨ c = 128 ∨ c = 131 ∨ c = 132 ∨ c = 133 ∨ c = 161) ∧ k = b) ∨ (c = 124 ∧ 40 * b ≤ k ∧ k < 40 * b + 40) ∨ (c = 129 ∧ 24 * b ≤ k ∧ k < 24 * b + 24) ∨ ((c = 134 ∨ c = 135 ∨ c = 136 ∨ c = 137) ∧ 1500 * b ≤ k ∧ k < 1500 * b + 1500) ∨ (c = 138 ∧ 40000 * b ≤ k ∧ k < 40000 * b + 40000) ∨ (c = 159 ∧ 4096 * b ≤ k ∧ k < 4096 * b + 4096)
def SlM (b : Nat) (I I' : IT) : Prop := ∀ c k, inSl b c k → I' c k = I c k
theorem SlM.rf {b : Nat} {I : IT} : SlM b I I := fun _ _ _ => rfl
theorem SlM.tr {b : Nat} {I I' I'' : IT} (h : SlM b I I') (g : SlM b I' I'') : SlM b I I'' := fun c k hc => (g c k hc).trans (h c k hc)
theorem SlM.up {b c k : Nat} {v : Int32} {I : IT} (h : ¬ inSl b c k) : SlM b I (up2 I c k v) := by
  intro a j ha
  rw [up2_ap]
  by_cases e : a = c
  · rw [if_pos e]
    by_cases e2 : j = k
    · subst e; subst e2; exact absurd ha h
    · rw [if_neg e2]
  · rw [if_neg e]
theorem nd_len {N i : Nat} {x : Nat × Int × List Nat} (h : ndOK N i x) : x.2.2.length ≤ 12 := by
  rcases h.2 with h | h | h | h
  · rw [h.2.2]; exact Nat.zero_le _
  · rw [h.2.2.2.2]; exact Nat.zero_le _
  · exact h.2.2.2
  · rw [h.2.2.2]; decide
theorem node_ok {N i : Nat} {g : GR} (h : grOK N g) (hi : i < g.1.length) : ndOK N i (nodeAt g i) := by
  refine h.2.2.2.2 i _ ?_
  unfold nodeAt
  rw [List.getD_eq_getElem?_getD, List.getElem?_eq_getElem hi]
  rfl
theorem po_le {N i : Nat} {g : GR} (h : grOK N g) (hi : i ≤ g.1.length) : poN g i ≤ 12 * i := by
  unfold poN
  induction i with
  | zero => exact Nat.le_refl _
  | succ i ih =>
    rw [fb_sm_succ]
    have := ih (by omega)
    have := nd_len (node_ok h (show i < g.1.length by omega))
    omega
theorem MB.sl {b : Nat} {k : BK} {I I' : IT} (h : MB b k I) (hk : bkOK k) (hI : SlM b I I') : MB b k I' := by
  obtain ⟨h1, h2, h3, h4, h5, h6, h7, h8⟩ := h
  refine ⟨(hI 123 b (Or.inl ⟨by omega, rfl⟩)).trans h1, (hI 125 b (Or.inl ⟨by omega, rfl⟩)).trans h2, fun i hi => (hI 124 _ (Or.inr (Or.inl ⟨rfl, by omega, by have := hk.2.2.1; omega⟩))).trans (h3 i hi), (hI 126 b (Or.inl ⟨by omega, rfl⟩)).trans h4, (hI 127 b (Or.inl ⟨by omega, rfl⟩)).trans h5, (hI 128 b (Or.inl ⟨by omega, rfl⟩)).trans h6, fun p hp => (hI 129 _ (Or.inr (Or.inr (Or.inl ⟨rfl, by omega, by omega⟩)))).trans (h7 p hp), ?_⟩
  have e131 := hI 131 b (Or.inl ⟨by omega, rfl⟩)
  unfold MGo at h8 ⊢
  cases hg : k.g with
  | none => rw [hg] at h8; exact e131.trans h8
  | some g =>
    rw [hg] at h8
    have hgo := hk.2.2.2.2.2.2.2 g hg
    obtain ⟨a, h9, h10, h11, h12⟩ := h8
    refine ⟨e131.trans a, (hI 132 b (Or.inl ⟨by omega, rfl⟩)).trans h9, (hI 133 b (Or.inl ⟨by omega, rfl⟩)).trans h10, fun i hi => ?_, ?_⟩
    · obtain ⟨q1, q2, q3, q4, q5⟩ := h11 i hi
      have hl := hgo.2.1
      refine ⟨(hI 134 _ (Or.inr (Or.inr (Or.inr (Or.inl ⟨by omega, by omega, by omega⟩))))).trans q1, (hI 135 _ (Or.inr (Or.inr (Or.inr (Or.inl ⟨by omega, by omega, by omega⟩))))).trans q2, (hI 137 _ (Or.inr (Or.inr (Or.inr (Or.inl ⟨by omega, by omega, by omega⟩))))).trans q3, (hI 136 _ (Or.inr (Or.inr (Or.inr (Or.inl ⟨by omega, by omega, by omega⟩))))).trans q4, fun j hj => (hI 138 _ (Or.inr (Or.inr (Or.inr (Or.inr (Or.inl ⟨rfl, by omega, ?_⟩)))))).trans (q5 j hj)⟩
      have := po_le hgo (show i ≤ g.1.length by omega)
      have := nd_len (node_ok hgo hi)
      omega
    · rw [hI 161 b (Or.inl ⟨by omega, rfl⟩)]
      rcases h12 with h12 | ⟨h12, h13⟩
      · exact Or.inl h12
      · refine Or.inr ⟨h12, fun r hr => (hI 159 _ (Or.inr (Or.inr (Or.inr (Or.inr (Or.inr ⟨rfl, by omega, ?_⟩)))))).trans (h13 r hr)⟩
        have : 2 ^ k.N ≤ 2 ^ 12 := Nat.pow_le_pow_right (by decide) hk.2.1
        omega
theorem MInv.setB {σ : SG} {I I' : IT} {b : Nat} {k : BK} (hs : sgOK σ) (h : MInv σ I) (hb : b < 2) (hn : MB b k I') (ho : ∀ c, c < 2 → c ≠ b → SlM c I I') (h122 : I' 122 = I 122) (h130 : I' 130 = I 130) (h163 : I' 163 = I 163) : MInv (setB σ b k) I' := by
  obtain ⟨h1, h3, h4, h5⟩ := h
  refine ⟨fun c hc => ?_, ?_, fun j a b' => by rw [h130]; exact h4 j a b', by rw [h122]; exact h5⟩
  · show MB c (up1 σ.1 b k c) I'
    by_cases e : c = b
    · subst e; rw [up1_at]; exact hn
    · rw [up1_off e]
      exact (h1 c hc).sl (hs.1 c hc) (ho c hc e)
  · rw [h122, h163]; exact h3
/-- the model's graph of a book, when other cells are written -/
theorem MBg {b : Nat} {k : BK} {I I' : IT} (h : MB b k I) (ho : ∀ c, (c = 131 ∨ c = 132 ∨ c = 133 ∨ c = 134 ∨ c = 135 ∨ c = 136 ∨ c = 137 ∨ c = 138 ∨ c = 159 ∨ c = 161) → I' c = I c) : MGo b k.N k.g I' := by
  have h8 := h.2.2.2.2.2.2.2
  unfold MGo MG at h8 ⊢
  simp only [ho 131 (by omega), ho 132 (by omega), ho 133 (by omega), ho 134 (by omega), ho 135 (by omega), ho 136 (by omega), ho 137 (by omega), ho 138 (by omega), ho 159 (by omega), ho 161 (by omega)]
  exact h8
theorem not_sl {b c k b' : Nat} (hne : b' ≠ b) (h : (c = 123 ∨ c = 125 ∨ c = 126 ∨ c = 127 ∨ c = 128 ∨ c = 131 ∨ c = 132 ∨ c = 133 ∨ c = 161) ∧ k = b) : ¬ inSl b' c k := by
  unfold inSl; omega
section OpsMB
variable {d Ln : Nat} {I : IT} {J : JT} {K : KT} {σ : SG}
theorem M_isSign {b N : Nat} {s : Int32} (hb : b < 2) (hN : I 123 b = nI N) : ACall (d + 2) 127 [.ref 122, .int (nI b), .int s] (G0 Ln) I J K ↔ K (some (.int (@ite _ (okS N s) (Classical.propDecidable _) 1 0))) (G0 Ln) I J := by
  rw [ACall_0 (L0 := [.ref 122, .int (nI b), .int s]) (show mcs 127 = (0, 0) from rfl) (show entL 127 [.ref 122, .int (nI b), .int s] = _ from rfl) rfl (Nat.le_of_ble_eq_true rfl)]
  simp only [aw_iload_2 (pc2 := 1) D127_0 rfl, aw_if_eq (pc2 := 4) (t := 31) D127_1 (by decide) rfl, aw_iload_2 (pc2 := 5) D127_4 rfl, aw_i2l (pc2 := 6) D127_5 rfl, aw_aload_0 (pc2 := 7) D127_6 rfl, aw_getR (pc2 := 10) (ci := 7) (fk := 0) D127_7 rfl fT_7_7 rfl, aw_iload_1 (pc2 := 11) D127_10 rfl, aw_iaload (pc2 := 12) D127_11 rfl, aw_ineg (pc2 := 13) D127_12 rfl, aw_i2l (pc2 := 14) D127_13 rfl, aw_aload_0 (pc2 := 15) D127_14 rfl, aw_getR (pc2 := 18) (ci := 7) (fk := 0) D127_15 rfl fT_7_7 rfl, aw_iload_1 (pc2 := 19) D127_18 rfl, aw_iaload (pc2 := 20) D127_19 rfl, aw_i2l (pc2 := 21) D127_20 rfl, aw_is3_2 (pc2 := 24) D127_21 rfl cT_7_146 rfl, aw_if_eq (pc2 := 27) (t := 31) D127_24 (by decide) rfl, aw_iconst (pc2 := 28) (y := 1) D127_27 rfl (by decide), aw_goto (t := 32) D127_28 (by decide), aw_iconst (pc2 := 32) (y := 0) D127_31 rfl (by decide), aw_zret D127_32 rfl, M_isIn, sh_122, sh_123, rf_122_0, refV_s, psh_s, iOK_1, catS_0, nI_clamp (show b < 2 ^ 31 by omega), hN, fa_wide_le, and_self, true_and, true_or, or_true]
  have hv : vp_in (nI b) 2 := vp_in_nI hb (by decide)
  by_cases h0 : s = 0
  · rw [if_pos h0, if_neg (fun q => q.1 h0)]
  · rw [if_neg h0]
    by_cases h1 : -(nI N) ≤ s ∧ s ≤ nI N
    · rw [ifT (show okS N s from ⟨h0, h1⟩), if_pos h1, if_neg (by decide)]
      exact ⟨fun q => q.2.2, fun q => ⟨hv, hv, q⟩⟩
    · rw [if_neg (fun q : okS N s => h1 q.2), if_neg h1, ifT rfl]
      exact ⟨fun q => q.2.2, fun q => ⟨hv, hv, q⟩⟩
theorem M_isLetter {b N : Nat} {s : Int32} (hb : b < 2) (hN : I 123 b = nI N) : ACall (d + 2) 138 [.ref 122, .int (nI b), .int s] (G0 Ln) I J K ↔ K (some (.int (if 1 ≤ s ∧ s ≤ nI N then 1 else 0))) (G0 Ln) I J := by
  rw [ACall_0 (L0 := [.ref 122, .int (nI b), .int s]) (show mcs 138 = (0, 0) from rfl) (show entL 138 [.ref 122, .int (nI b), .int s] = _ from rfl) rfl (Nat.le_of_ble_eq_true rfl)]
  have e1 : (1 : Int64) = (1 : Int32).toInt64 := by decide
  simp only [aw_iload_1 (pc2 := 1) D138_0 rfl, aw_is1_2 (pc2 := 4) D138_1 rfl cT_7_150 rfl, aw_if_eq (pc2 := 7) (t := 27) D138_4 (by decide) rfl, aw_iload_2 (pc2 := 8) D138_7 rfl, aw_i2l (pc2 := 9) D138_8 rfl, aw_lconst (pc2 := 10) (y := 1) D138_9 rfl (by decide), aw_aload_0 (pc2 := 11) D138_10 rfl, aw_getR (pc2 := 14) (ci := 7) (fk := 0) D138_11 rfl fT_7_7 rfl, aw_iload_1 (pc2 := 15) D138_14 rfl, aw_iaload (pc2 := 16) D138_15 rfl, aw_i2l (pc2 := 17) D138_16 rfl, aw_is3_2 (pc2 := 20) D138_17 rfl cT_7_146 rfl, aw_if_eq (pc2 := 23) (t := 27) D138_20 (by decide) rfl, aw_iconst (pc2 := 24) (y := 1) D138_23 rfl (by decide), aw_goto (t := 28) D138_24 (by decide), aw_iconst (pc2 := 28) (y := 0) D138_27 rfl (by decide), aw_zret D138_28 rfl, M_isIn, M_isBook, sh_122, sh_123, rf_122_0, refV_s, psh_s, iOK_1, catS_0, nI_clamp (show b < 2 ^ 31 by omega), hN, and_self, true_and, true_or, or_true]
  simp only [e1, fa_wide_le]
  have hv : vp_in (nI b) 2 := vp_in_nI hb (by decide)
  have hbb : nI b = 0 ∨ nI b = 1 := by
    rcases (show b = 0 ∨ b = 1 by omega) with rfl | rfl
    · exact Or.inl rfl
    · exact Or.inr rfl
  rw [if_pos hbb, if_neg (by decide)]
  by_cases h1 : 1 ≤ s ∧ s ≤ nI N
  · rw [if_pos h1, if_neg (by decide)]
    exact ⟨fun q => q.2, fun q => ⟨hv, q⟩⟩
  · rw [if_neg h1, ifT rfl]
    exact ⟨fun q => q.2, fun q => ⟨hv, q⟩⟩
theorem M_isLetterN {x s : Int32} (h0 : ¬ x = 0) (h1 : ¬ x = 1) : ACall (d + 2) 138 [.ref 122, .int x, .int s] (G0 Ln) I J K ↔ K (some (.int 0)) (G0 Ln) I J := by
  rw [ACall_0 (L0 := [.ref 122, .int x, .int s]) (show mcs 138 = (0, 0) from rfl) (show entL 138 [.ref 122, .int x, .int s] = _ from rfl) rfl (Nat.le_of_ble_eq_true rfl)]
  simp only [aw_iload_1 (pc2 := 1) D138_0 rfl, aw_is1_2 (pc2 := 4) D138_1 rfl cT_7_150 rfl, aw_if_eq (pc2 := 7) (t := 27) D138_4 (by decide) rfl, aw_iload_2 (pc2 := 8) D138_7 rfl, aw_i2l (pc2 := 9) D138_8 rfl, aw_lconst (pc2 := 10) (y := 1) D138_9 rfl (by decide), aw_aload_0 (pc2 := 11) D138_10 rfl, aw_getR (pc2 := 14) (ci := 7) (fk := 0) D138_11 rfl fT_7_7 rfl, aw_iload_1 (pc2 := 15) D138_14 rfl, aw_iaload (pc2 := 16) D138_15 rfl, aw_i2l (pc2 := 17) D138_16 rfl, aw_is3_2 (pc2 := 20) D138_17 rfl cT_7_146 rfl, aw_if_eq (pc2 := 23) (t := 27) D138_20 (by decide) rfl, aw_iconst (pc2 := 24) (y := 1) D138_23 rfl (by decide), aw_goto (t := 28) D138_24 (by decide), aw_iconst (pc2 := 28) (y := 0) D138_27 rfl (by decide), aw_zret D138_28 rfl, M_isBook, sh_122, psh_s, catS_0, and_self, true_and, true_or, or_true, h0, h1, or_self, if_false, if_true]
theorem MO_drop {x : Int32} (hs : sgOK σ) (h : MInv σ I) (hk : MPost Ln I J K (oDrop σ x)) : ACall (d + 2) 137 [.ref 122, .int x] (G0 Ln) I J K := by
  rw [ACall_0 (L0 := [.ref 122, .int x]) (show mcs 137 = (0, 0) from rfl) (show entL 137 [.ref 122, .int x] = _ from rfl) rfl (Nat.le_of_ble_eq_true rfl)]
  unfold oDrop at hk
  cases hx : bkOf x with
  | none =>
    simp only [hx] at hk
    obtain ⟨x0, x1⟩ := bkOf_none hx
    simp only [aw_iload_1 (pc2 := 1) D137_0 rfl, aw_is1_2 (pc2 := 4) D137_1 rfl cT_7_150 rfl, aw_if_ne (pc2 := 7) (t := 14) D137_4 (by decide) rfl, aw_aload_0 (pc2 := 8) D137_7 rfl, aw_bipush (pc2 := 10) (y := -3) D137_8 rfl (by decide), aw_iv1_0 (pc2 := 13) (o := 7) D137_10 rfl cT_7_154 rfl rfl, aw_iret D137_13 rfl, M_isBook, M_no3, sh_122, psh_s, catS_0, and_self, true_and, x0, x1, or_self, if_false, not_true_eq_false]
    exact hk.ref h (by omega) (by omega)
  | some b =>
    simp only [hx] at hk
    obtain ⟨hb, rfl⟩ := bkOf_some hx
    have hh := h.1 b hb
    have hl := (hs.1 b hb).2.2.1
    have hv : vp_in (nI b) 2 := vp_in_nI hb (by decide)
    have hbb : nI b = 0 ∨ nI b = 1 := by
      rcases (show b = 0 ∨ b = 1 by omega) with rfl | rfl
      · exact Or.inl rfl
      · exact Or.inr rfl
    by_cases hc : (σ.1 b).cl = []
    · rw [if_pos hc] at hk
      have e5 : I 125 b = 0 := by rw [hh.2.1, hc]; rfl
      simp only [aw_iload_1 (pc2 := 1) D137_0 rfl, aw_is1_2 (pc2 := 4) D137_1 rfl cT_7_150 rfl, aw_if_ne (pc2 := 7) (t := 14) D137_4 (by decide) rfl, aw_aload_0 (pc2 := 8) D137_7 rfl, aw_bipush (pc2 := 10) (y := -3) D137_8 rfl (by decide), aw_iv1_0 (pc2 := 13) (o := 7) D137_10 rfl cT_7_154 rfl rfl, aw_iret D137_13 rfl, aw_aload_0 (pc2 := 15) D137_14 rfl, aw_getR (pc2 := 18) (ci := 7) (fk := 2) D137_15 rfl fT_7_16 rfl, aw_iload_1 (pc2 := 19) D137_18 rfl, aw_iaload (pc2 := 20) D137_19 rfl, aw_if_ne (pc2 := 23) (t := 30) D137_20 (by decide) rfl, aw_aload_0 (pc2 := 24) D137_23 rfl, aw_bipush (pc2 := 26) (y := -2) D137_24 rfl (by decide), aw_iv1_0 (pc2 := 29) (o := 7) D137_26 rfl cT_7_154 rfl rfl, aw_iret D137_29 rfl, M_isBook, M_no2, sh_122, sh_125, rf_122_2, refV_s, psh_s, iOK_1, catS_0, and_self, true_and, if_pos hbb, nI_clamp (show b < 2 ^ 31 by omega), e5, not_true_eq_false, if_false, hv]
      rw [if_pos (by decide)]
      exact hk.ref h (by omega) (by omega)
    · rw [if_neg hc] at hk
      obtain ⟨n, hn⟩ : ∃ n, (σ.1 b).cl.length = n + 1 := ⟨(σ.1 b).cl.length - 1, by have := List.length_pos_iff.mpr hc; omega⟩
      have e5 : I 125 b = nI (n + 1) := by rw [hh.2.1, hn]
      simp only [aw_iload_1 (pc2 := 1) D137_0 rfl, aw_is1_2 (pc2 := 4) D137_1 rfl cT_7_150 rfl, aw_if_ne (pc2 := 7) (t := 14) D137_4 (by decide) rfl, aw_aload_0 (pc2 := 8) D137_7 rfl, aw_bipush (pc2 := 10) (y := -3) D137_8 rfl (by decide), aw_iv1_0 (pc2 := 13) (o := 7) D137_10 rfl cT_7_154 rfl rfl, aw_iret D137_13 rfl, aw_aload_0 (pc2 := 15) D137_14 rfl, aw_getR (pc2 := 18) (ci := 7) (fk := 2) D137_15 rfl fT_7_16 rfl, aw_iload_1 (pc2 := 19) D137_18 rfl, aw_iaload (pc2 := 20) D137_19 rfl, aw_if_ne (pc2 := 23) (t := 30) D137_20 (by decide) rfl, aw_aload_0 (pc2 := 24) D137_23 rfl, aw_bipush (pc2 := 26) (y := -2) D137_24 rfl (by decide), aw_iv1_0 (pc2 := 29) (o := 7) D137_26 rfl cT_7_154 rfl rfl, aw_iret D137_29 rfl, aw_aload_0 (pc2 := 31) D137_30 rfl, aw_getR (pc2 := 34) (ci := 7) (fk := 2) D137_31 rfl fT_7_16 rfl, aw_iload_1 (pc2 := 35) D137_34 rfl, aw_dup2 (pc2 := 36) D137_35 rfl, aw_iaload (pc2 := 37) D137_36 rfl, aw_iconst (pc2 := 38) (y := 1) D137_37 rfl (by decide), aw_isub (pc2 := 39) D137_38 rfl, aw_iastore (pc2 := 40) D137_39 rfl, aw_aload_0 (pc2 := 41) D137_40 rfl, aw_getR (pc2 := 44) (ci := 7) (fk := 8) D137_41 rfl fT_7_34 rfl, aw_iload_1 (pc2 := 45) D137_44 rfl, aw_iconst (pc2 := 46) (y := 0) D137_45 rfl (by decide), aw_iastore (pc2 := 47) D137_46 rfl, aw_aload_0 (pc2 := 48) D137_47 rfl, aw_getR (pc2 := 51) (ci := 7) (fk := 2) D137_48 rfl fT_7_16 rfl, aw_iload_1 (pc2 := 52) D137_51 rfl, aw_iaload (pc2 := 53) D137_52 rfl, aw_iret D137_53 rfl, M_isBook, M_no2, sh_122, sh_125, sh_131, rf_122_2, rf_122_8, refV_s, psh_s, iOK_1, wOK_e, cat_r, cat_i, catS_0, and_self, true_and, if_pos hbb, nI_clamp (show b < 2 ^ 31 by omega), e5, hv, up2_ap, Nat.reduceEqDiff, if_false, if_true, nI_pred]
      rw [if_pos (by decide), if_pos (nI_ne0 (by omega) (by omega))]
      rw [hn] at hk
      have hd : (σ.1 b).cl.dropLast.length = n := by rw [List.length_dropLast, hn]; rfl
      refine hk _ _ (h.setB hs hb ⟨?_, ?_, fun i hi => ?_, ?_, ?_, ?_, fun p hp => ?_, ?_⟩ (fun c hc hne => (SlM.up (not_sl hne ⟨by omega, rfl⟩)).tr (SlM.up (not_sl hne ⟨by omega, rfl⟩))) ?_ ?_ ?_) (fun c hc => ?_) FrM.rf
      · simp [up2_ap]; exact hh.1
      · simp [up2_ap, hd]
      · rw [up2_off (by omega), up2_off (by omega)]
        have hi : i < (σ.1 b).cl.dropLast.length := hi
        rw [hh.2.2.1 i (by omega)]
        show _ = nI ((σ.1 b).cl.dropLast.getD i 0)
        rw [List.getD_eq_getElem?_getD, List.getD_eq_getElem?_getD, List.getElem?_dropLast, if_pos (by omega)]
      · simp [up2_ap]; exact hh.2.2.2.1
      · simp [up2_ap]; exact hh.2.2.2.2.1
      · simp [up2_ap]; exact hh.2.2.2.2.2.1
      · simp [up2_ap]; exact hh.2.2.2.2.2.2.1 p hp
      · show up2 _ _ _ _ 131 b = 0
        simp [up2_ap]
      · rw [up2_off (by omega), up2_off (by omega)]
      · rw [up2_off (by omega), up2_off (by omega)]
      · rw [up2_off (by omega), up2_off (by omega)]
      · rw [up2_off (by omega), up2_off (by omega)]
end OpsMB
