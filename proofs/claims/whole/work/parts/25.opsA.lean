/-! simple calls: their meaning -/
def refS (σ : SG) (k : Nat) : SG := (σ.1, σ.2.1, up1 σ.2.2.1 k (σ.2.2.1 k + 1), σ.2.2.2)
def oStatus (σ : SG) (x : Int32) : Value × SG := if -9 ≤ x ∧ x ≤ -2 then (.int (σ.2.2.1 (-x).toNatClampNeg), σ) else (.int (-7), refS σ 7)
def oTear (σ : SG) : Value × SG := (.int (if σ.2.1 = none then 0 else 1), (σ.1, none, σ.2.2))
def oRow (σ : SG) (x : Int32) : Value × SG := match σ.2.1 with
  | none => (.int 0, refS σ 2)
  | some r => if 0 ≤ x ∧ x < nI r.length then (.int (iI (r.getD x.toNatClampNeg 0)), σ) else (.int 0, refS σ 3)
def CPost (Ln : Nat) (I : IT) (J : JT) (K : KT) (o : Value × SG) : Prop := ∀ I' J', CInv o.2 I' J' → FrC I I' → FrC J J' → K (some o.1) (G0 Ln) I' J'
def MPost (Ln : Nat) (I : IT) (J : JT) (K : KT) (o : Value × SG) : Prop := ∀ I' J', MInv o.2 I' → FrM I I' → FrM J J' → K (some o.1) (G0 Ln) I' J'
theorem CInv.ref {σ : SG} {I : IT} {J : JT} {k : Nat} (h : CInv σ I J) (h2 : 2 ≤ k) (h9 : k ≤ 9) : CInv (refS σ k) (up2 I 121 k (I 121 k + 1)) J := by
  obtain ⟨h1, h3, h4, h5, h6⟩ := h
  refine ⟨fun b hb => (h1 b hb).fr (fun c _ hc => up2_off (by unfold bkc at hc; omega)) (fun c _ hc => rfl), ?_, fun j a b => ?_, by rw [up2_off (by omega)]; exact h5, h6⟩
  · rw [up2_off (show 0 ≠ 121 by omega), up2_off (show 120 ≠ 121 by omega)]; exact h3
  · rw [up2_at]
    show _ = up1 σ.2.2.1 k (σ.2.2.1 k + 1) j
    unfold up1
    by_cases e : j = k
    · subst e; simp [h4 j a b]
    · simp [e, h4 j a b]
theorem MInv.ref {σ : SG} {I : IT} {k : Nat} (h : MInv σ I) (h2 : 2 ≤ k) (h9 : k ≤ 9) : MInv (refS σ k) (up2 I 130 k (I 130 k + 1)) := by
  have e : ∀ c, c ≠ 130 → up2 I 130 k (I 130 k + 1) c = I c := fun c hc => up2_off hc
  obtain ⟨h1, h3, h4, h5⟩ := h
  refine ⟨fun b hb => ?_, ?_, fun j a b => ?_, by rw [e 122 (by omega)]; exact h5⟩
  · have := h1 b hb
    unfold MB MGo MG at this ⊢
    simp only [e 123 (by omega), e 124 (by omega), e 125 (by omega), e 126 (by omega), e 127 (by omega), e 128 (by omega), e 129 (by omega), e 131 (by omega), e 132 (by omega), e 133 (by omega), e 134 (by omega), e 135 (by omega), e 136 (by omega), e 137 (by omega), e 138 (by omega), e 159 (by omega), e 161 (by omega)]
    exact this
  · rw [e 122 (by omega), e 163 (by omega)]; exact h3
  · rw [up2_at]
    show _ = up1 σ.2.2.1 k (σ.2.2.1 k + 1) j
    unfold up1
    by_cases e : j = k
    · subst e; simp [h4 j a b]
    · simp [e, h4 j a b]
theorem CPost.ref {Ln k : Nat} {I : IT} {J : JT} {K : KT} {σ : SG} {v : Value} (hk : CPost Ln I J K (v, refS σ k)) (h : CInv σ I J) (h2 : 2 ≤ k) (h9 : k ≤ 9) : K (some v) (G0 Ln) (up2 I 121 k (I 121 k + 1)) J := hk _ _ (h.ref h2 h9) (FrC.up (by omega)) FrC.rf
theorem CPost.same {Ln : Nat} {I : IT} {J : JT} {K : KT} {σ : SG} {v : Value} (hk : CPost Ln I J K (v, σ)) (h : CInv σ I J) : K (some v) (G0 Ln) I J := hk _ _ h FrC.rf FrC.rf
theorem MPost.ref {Ln k : Nat} {I : IT} {J : JT} {K : KT} {σ : SG} {v : Value} (hk : MPost Ln I J K (v, refS σ k)) (h : MInv σ I) (h2 : 2 ≤ k) (h9 : k ≤ 9) : K (some v) (G0 Ln) (up2 I 130 k (I 130 k + 1)) J := hk _ _ (h.ref h2 h9) (FrM.up (by omega)) FrM.rf
theorem MPost.same {Ln : Nat} {I : IT} {J : JT} {K : KT} {σ : SG} {v : Value} (hk : MPost Ln I J K (v, σ)) (h : MInv σ I) : K (some v) (G0 Ln) I J := hk _ _ h FrM.rf FrM.rf
theorem ix_small {x : Int32} (h1 : -9 ≤ x) (h2 : x ≤ -2) : vp_in (-x) 10 ∧ 2 ≤ (-x).toNatClampNeg ∧ (-x).toNatClampNeg ≤ 9 := by
  rw [fa_le] at h1 h2
  have a1 : (-9 : Int32).toInt = -9 := by decide
  have a2 : (-2 : Int32).toInt = -2 := by decide
  have hz : x.toInt = -9 ∨ x.toInt = -8 ∨ x.toInt = -7 ∨ x.toInt = -6 ∨ x.toInt = -5 ∨ x.toInt = -4 ∨ x.toInt = -3 ∨ x.toInt = -2 := by omega
  have key : ∀ z : Int32, x.toInt = z.toInt → (vp_in (-z) 10 ∧ 2 ≤ (-z).toNatClampNeg ∧ (-z).toNatClampNeg ≤ 9) → (vp_in (-x) 10 ∧ 2 ≤ (-x).toNatClampNeg ∧ (-x).toNatClampNeg ≤ 9) := fun z e h => by rw [Int32.toInt_inj.mp e]; exact h
  rcases hz with z | z | z | z | z | z | z | z
  · exact key (-9) z ⟨by unfold vp_in; decide, by decide, by decide⟩
  · exact key (-8) z ⟨by unfold vp_in; decide, by decide, by decide⟩
  · exact key (-7) z ⟨by unfold vp_in; decide, by decide, by decide⟩
  · exact key (-6) z ⟨by unfold vp_in; decide, by decide, by decide⟩
  · exact key (-5) z ⟨by unfold vp_in; decide, by decide, by decide⟩
  · exact key (-4) z ⟨by unfold vp_in; decide, by decide, by decide⟩
  · exact key (-3) z ⟨by unfold vp_in; decide, by decide, by decide⟩
  · exact key (-2) z ⟨by unfold vp_in; decide, by decide, by decide⟩
section OpsA
variable {d Ln : Nat} {I : IT} {J : JT} {K : KT} {σ : SG}
theorem C_ref2 : ACall (d + 1) 111 [.ref 0, .int (-2)] (G0 Ln) I J K ↔ K (some (.int (-2))) (G0 Ln) (up2 I 121 2 (I 121 2 + 1)) J := by
  rw [ACall_0 (L0 := [.ref 0, .int (-2)]) (show mcs 111 = (0, 0) from rfl) (show entL 111 [.ref 0, .int (-2)] = _ from rfl) rfl (Nat.le_of_ble_eq_true rfl)]
  simp only [aw_iload_1 (pc2 := 1) D111_0 rfl, aw_bipush (pc2 := 3) (y := -2) D111_1 rfl (by decide), aw_icmp_gt (pc2 := 6) (t := 23) D111_3 (by decide) rfl, aw_iload_1 (pc2 := 7) D111_6 rfl, aw_bipush (pc2 := 9) (y := -9) D111_7 rfl (by decide), aw_icmp_lt (pc2 := 12) (t := 23) D111_9 (by decide) rfl, aw_aload_0 (pc2 := 13) D111_12 rfl, aw_aloadN_0 (pc2 := 13) D111_12 rfl, aw_getR (pc2 := 16) (ci := 6) (fk := 6) D111_13 rfl fT_6_41 rfl, aw_iload_1 (pc2 := 17) D111_16 rfl, aw_ineg (pc2 := 18) D111_17 rfl, aw_dup2 (pc2 := 19) D111_18 rfl, aw_iaload (pc2 := 20) D111_19 rfl, aw_iconst (pc2 := 21) (y := 1) D111_20 rfl (by decide), aw_iadd (pc2 := 22) D111_21 rfl, aw_iastore (pc2 := 23) D111_22 rfl, aw_iload_1 (pc2 := 24) D111_23 rfl, aw_iret D111_24 rfl, sh_0, sh_121, rf_0_6, refV_s, cat_i, cat_r, iOK_1, wOK_e, and_self, true_and, if_neg (show ¬ (-2 : Int32) < -2 by decide), if_neg (show ¬ (-2 : Int32) < -9 by decide)]
  have e : (-(-2 : Int32)) = nI 2 := by decide
  simp only [e, nI_clamp (show 2 < 2 ^ 31 by decide)]
  exact ⟨fun h => h.2.2, fun h => ⟨vp_in_nI (by decide) (by decide), vp_in_nI (by decide) (by decide), h⟩⟩
theorem C_ref3 : ACall (d + 1) 111 [.ref 0, .int (-3)] (G0 Ln) I J K ↔ K (some (.int (-3))) (G0 Ln) (up2 I 121 3 (I 121 3 + 1)) J := by
  rw [ACall_0 (L0 := [.ref 0, .int (-3)]) (show mcs 111 = (0, 0) from rfl) (show entL 111 [.ref 0, .int (-3)] = _ from rfl) rfl (Nat.le_of_ble_eq_true rfl)]
  simp only [aw_iload_1 (pc2 := 1) D111_0 rfl, aw_bipush (pc2 := 3) (y := -2) D111_1 rfl (by decide), aw_icmp_gt (pc2 := 6) (t := 23) D111_3 (by decide) rfl, aw_iload_1 (pc2 := 7) D111_6 rfl, aw_bipush (pc2 := 9) (y := -9) D111_7 rfl (by decide), aw_icmp_lt (pc2 := 12) (t := 23) D111_9 (by decide) rfl, aw_aload_0 (pc2 := 13) D111_12 rfl, aw_aloadN_0 (pc2 := 13) D111_12 rfl, aw_getR (pc2 := 16) (ci := 6) (fk := 6) D111_13 rfl fT_6_41 rfl, aw_iload_1 (pc2 := 17) D111_16 rfl, aw_ineg (pc2 := 18) D111_17 rfl, aw_dup2 (pc2 := 19) D111_18 rfl, aw_iaload (pc2 := 20) D111_19 rfl, aw_iconst (pc2 := 21) (y := 1) D111_20 rfl (by decide), aw_iadd (pc2 := 22) D111_21 rfl, aw_iastore (pc2 := 23) D111_22 rfl, aw_iload_1 (pc2 := 24) D111_23 rfl, aw_iret D111_24 rfl, sh_0, sh_121, rf_0_6, refV_s, cat_i, cat_r, iOK_1, wOK_e, and_self, true_and, if_neg (show ¬ (-2 : Int32) < -3 by decide), if_neg (show ¬ (-3 : Int32) < -9 by decide)]
  have e : (-(-3 : Int32)) = nI 3 := by decide
  simp only [e, nI_clamp (show 3 < 2 ^ 31 by decide)]
  exact ⟨fun h => h.2.2, fun h => ⟨vp_in_nI (by decide) (by decide), vp_in_nI (by decide) (by decide), h⟩⟩
theorem C_ref4 : ACall (d + 1) 111 [.ref 0, .int (-4)] (G0 Ln) I J K ↔ K (some (.int (-4))) (G0 Ln) (up2 I 121 4 (I 121 4 + 1)) J := by
  rw [ACall_0 (L0 := [.ref 0, .int (-4)]) (show mcs 111 = (0, 0) from rfl) (show entL 111 [.ref 0, .int (-4)] = _ from rfl) rfl (Nat.le_of_ble_eq_true rfl)]
  simp only [aw_iload_1 (pc2 := 1) D111_0 rfl, aw_bipush (pc2 := 3) (y := -2) D111_1 rfl (by decide), aw_icmp_gt (pc2 := 6) (t := 23) D111_3 (by decide) rfl, aw_iload_1 (pc2 := 7) D111_6 rfl, aw_bipush (pc2 := 9) (y := -9) D111_7 rfl (by decide), aw_icmp_lt (pc2 := 12) (t := 23) D111_9 (by decide) rfl, aw_aload_0 (pc2 := 13) D111_12 rfl, aw_aloadN_0 (pc2 := 13) D111_12 rfl, aw_getR (pc2 := 16) (ci := 6) (fk := 6) D111_13 rfl fT_6_41 rfl, aw_iload_1 (pc2 := 17) D111_16 rfl, aw_ineg (pc2 := 18) D111_17 rfl, aw_dup2 (pc2 := 19) D111_18 rfl, aw_iaload (pc2 := 20) D111_19 rfl, aw_iconst (pc2 := 21) (y := 1) D111_20 rfl (by decide), aw_iadd (pc2 := 22) D111_21 rfl, aw_iastore (pc2 := 23) D111_22 rfl, aw_iload_1 (pc2 := 24) D111_23 rfl, aw_iret D111_24 rfl, sh_0, sh_121, rf_0_6, refV_s, cat_i, cat_r, iOK_1, wOK_e, and_self, true_and, if_neg (show ¬ (-2 : Int32) < -4 by decide), if_neg (show ¬ (-4 : Int32) < -9 by decide)]
  have e : (-(-4 : Int32)) = nI 4 := by decide
  simp only [e, nI_clamp (show 4 < 2 ^ 31 by decide)]
  exact ⟨fun h => h.2.2, fun h => ⟨vp_in_nI (by decide) (by decide), vp_in_nI (by decide) (by decide), h⟩⟩
theorem C_ref5 : ACall (d + 1) 111 [.ref 0, .int (-5)] (G0 Ln) I J K ↔ K (some (.int (-5))) (G0 Ln) (up2 I 121 5 (I 121 5 + 1)) J := by
  rw [ACall_0 (L0 := [.ref 0, .int (-5)]) (show mcs 111 = (0, 0) from rfl) (show entL 111 [.ref 0, .int (-5)] = _ from rfl) rfl (Nat.le_of_ble_eq_true rfl)]
  simp only [aw_iload_1 (pc2 := 1) D111_0 rfl, aw_bipush (pc2 := 3) (y := -2) D111_1 rfl (by decide), aw_icmp_gt (pc2 := 6) (t := 23) D111_3 (by decide) rfl, aw_iload_1 (pc2 := 7) D111_6 rfl, aw_bipush (pc2 := 9) (y := -9) D111_7 rfl (by decide), aw_icmp_lt (pc2 := 12) (t := 23) D111_9 (by decide) rfl, aw_aload_0 (pc2 := 13) D111_12 rfl, aw_aloadN_0 (pc2 := 13) D111_12 rfl, aw_getR (pc2 := 16) (ci := 6) (fk := 6) D111_13 rfl fT_6_41 rfl, aw_iload_1 (pc2 := 17) D111_16 rfl, aw_ineg (pc2 := 18) D111_17 rfl, aw_dup2 (pc2 := 19) D111_18 rfl, aw_iaload (pc2 := 20) D111_19 rfl, aw_iconst (pc2 := 21) (y := 1) D111_20 rfl (by decide), aw_iadd (pc2 := 22) D111_21 rfl, aw_iastore (pc2 := 23) D111_22 rfl, aw_iload_1 (pc2 := 24) D111_23 rfl, aw_iret D111_24 rfl, sh_0, sh_121, rf_0_6, refV_s, cat_i, cat_r, iOK_1, wOK_e, and_self, true_and, if_neg (show ¬ (-2 : Int32) < -5 by decide), if_neg (show ¬ (-5 : Int32) < -9 by decide)]
  have e : (-(-5 : Int32)) = nI 5 := by decide
  simp only [e, nI_clamp (show 5 < 2 ^ 31 by decide)]
  exact ⟨fun h => h.2.2, fun h => ⟨vp_in_nI (by decide) (by decide), vp_in_nI (by decide) (by decide), h⟩⟩
theorem C_ref6 : ACall (d + 1) 111 [.ref 0, .int (-6)] (G0 Ln) I J K ↔ K (some (.int (-6))) (G0 Ln) (up2 I 121 6 (I 121 6 + 1)) J := by
  rw [ACall_0 (L0 := [.ref 0, .int (-6)]) (show mcs 111 = (0, 0) from rfl) (show entL 111 [.ref 0, .int (-6)] = _ from rfl) rfl (Nat.le_of_ble_eq_true rfl)]
  simp only [aw_iload_1 (pc2 := 1) D111_0 rfl, aw_bipush (pc2 := 3) (y := -2) D111_1 rfl (by decide), aw_icmp_gt (pc2 := 6) (t := 23) D111_3 (by decide) rfl, aw_iload_1 (pc2 := 7) D111_6 rfl, aw_bipush (pc2 := 9) (y := -9) D111_7 rfl (by decide), aw_icmp_lt (pc2 := 12) (t := 23) D111_9 (by decide) rfl, aw_aload_0 (pc2 := 13) D111_12 rfl, aw_aloadN_0 (pc2 := 13) D111_12 rfl, aw_getR (pc2 := 16) (ci := 6) (fk := 6) D111_13 rfl fT_6_41 rfl, aw_iload_1 (pc2 := 17) D111_16 rfl, aw_ineg (pc2 := 18) D111_17 rfl, aw_dup2 (pc2 := 19) D111_18 rfl, aw_iaload (pc2 := 20) D111_19 rfl, aw_iconst (pc2 := 21) (y := 1) D111_20 rfl (by decide), aw_iadd (pc2 := 22) D111_21 rfl, aw_iastore (pc2 := 23) D111_22 rfl, aw_iload_1 (pc2 := 24) D111_23 rfl, aw_iret D111_24 rfl, sh_0, sh_121, rf_0_6, refV_s, cat_i, cat_r, iOK_1, wOK_e, and_self, true_and, if_neg (show ¬ (-2 : Int32) < -6 by decide), if_neg (show ¬ (-6 : Int32) < -9 by decide)]
  have e : (-(-6 : Int32)) = nI 6 := by decide
  simp only [e, nI_clamp (show 6 < 2 ^ 31 by decide)]
  exact ⟨fun h => h.2.2, fun h => ⟨vp_in_nI (by decide) (by decide), vp_in_nI (by decide) (by decide), h⟩⟩
theorem C_ref7 : ACall (d + 1) 111 [.ref 0, .int (-7)] (G0 Ln) I J K ↔ K (some (.int (-7))) (G0 Ln) (up2 I 121 7 (I 121 7 + 1)) J := by
  rw [ACall_0 (L0 := [.ref 0, .int (-7)]) (show mcs 111 = (0, 0) from rfl) (show entL 111 [.ref 0, .int (-7)] = _ from rfl) rfl (Nat.le_of_ble_eq_true rfl)]
  simp only [aw_iload_1 (pc2 := 1) D111_0 rfl, aw_bipush (pc2 := 3) (y := -2) D111_1 rfl (by decide), aw_icmp_gt (pc2 := 6) (t := 23) D111_3 (by decide) rfl, aw_iload_1 (pc2 := 7) D111_6 rfl, aw_bipush (pc2 := 9) (y := -9) D111_7 rfl (by decide), aw_icmp_lt (pc2 := 12) (t := 23) D111_9 (by decide) rfl, aw_aload_0 (pc2 := 13) D111_12 rfl, aw_aloadN_0 (pc2 := 13) D111_12 rfl, aw_getR (pc2 := 16) (ci := 6) (fk := 6) D111_13 rfl fT_6_41 rfl, aw_iload_1 (pc2 := 17) D111_16 rfl, aw_ineg (pc2 := 18) D111_17 rfl, aw_dup2 (pc2 := 19) D111_18 rfl, aw_iaload (pc2 := 20) D111_19 rfl, aw_iconst (pc2 := 21) (y := 1) D111_20 rfl (by decide), aw_iadd (pc2 := 22) D111_21 rfl, aw_iastore (pc2 := 23) D111_22 rfl, aw_iload_1 (pc2 := 24) D111_23 rfl, aw_iret D111_24 rfl, sh_0, sh_121, rf_0_6, refV_s, cat_i, cat_r, iOK_1, wOK_e, and_self, true_and, if_neg (show ¬ (-2 : Int32) < -7 by decide), if_neg (show ¬ (-7 : Int32) < -9 by decide)]
  have e : (-(-7 : Int32)) = nI 7 := by decide
  simp only [e, nI_clamp (show 7 < 2 ^ 31 by decide)]
  exact ⟨fun h => h.2.2, fun h => ⟨vp_in_nI (by decide) (by decide), vp_in_nI (by decide) (by decide), h⟩⟩
theorem C_ref8 : ACall (d + 1) 111 [.ref 0, .int (-8)] (G0 Ln) I J K ↔ K (some (.int (-8))) (G0 Ln) (up2 I 121 8 (I 121 8 + 1)) J := by
  rw [ACall_0 (L0 := [.ref 0, .int (-8)]) (show mcs 111 = (0, 0) from rfl) (show entL 111 [.ref 0, .int (-8)] = _ from rfl) rfl (Nat.le_of_ble_eq_true rfl)]
  simp only [aw_iload_1 (pc2 := 1) D111_0 rfl, aw_bipush (pc2 := 3) (y := -2) D111_1 rfl (by decide), aw_icmp_gt (pc2 := 6) (t := 23) D111_3 (by decide) rfl, aw_iload_1 (pc2 := 7) D111_6 rfl, aw_bipush (pc2 := 9) (y := -9) D111_7 rfl (by decide), aw_icmp_lt (pc2 := 12) (t := 23) D111_9 (by decide) rfl, aw_aload_0 (pc2 := 13) D111_12 rfl, aw_aloadN_0 (pc2 := 13) D111_12 rfl, aw_getR (pc2 := 16) (ci := 6) (fk := 6) D111_13 rfl fT_6_41 rfl, aw_iload_1 (pc2 := 17) D111_16 rfl, aw_ineg (pc2 := 18) D111_17 rfl, aw_dup2 (pc2 := 19) D111_18 rfl, aw_iaload (pc2 := 20) D111_19 rfl, aw_iconst (pc2 := 21) (y := 1) D111_20 rfl (by decide), aw_iadd (pc2 := 22) D111_21 rfl, aw_iastore (pc2 := 23) D111_22 rfl, aw_iload_1 (pc2 := 24) D111_23 rfl, aw_iret D111_24 rfl, sh_0, sh_121, rf_0_6, refV_s, cat_i, cat_r, iOK_1, wOK_e, and_self, true_and, if_neg (show ¬ (-2 : Int32) < -8 by decide), if_neg (show ¬ (-8 : Int32) < -9 by decide)]
  have e : (-(-8 : Int32)) = nI 8 := by decide
  simp only [e, nI_clamp (show 8 < 2 ^ 31 by decide)]
  exact ⟨fun h => h.2.2, fun h => ⟨vp_in_nI (by decide) (by decide), vp_in_nI (by decide) (by decide), h⟩⟩
theorem C_ref9 : ACall (d + 1) 111 [.ref 0, .int (-9)] (G0 Ln) I J K ↔ K (some (.int (-9))) (G0 Ln) (up2 I 121 9 (I 121 9 + 1)) J := by
  rw [ACall_0 (L0 := [.ref 0, .int (-9)]) (show mcs 111 = (0, 0) from rfl) (show entL 111 [.ref 0, .int (-9)] = _ from rfl) rfl (Nat.le_of_ble_eq_true rfl)]
  simp only [aw_iload_1 (pc2 := 1) D111_0 rfl, aw_bipush (pc2 := 3) (y := -2) D111_1 rfl (by decide), aw_icmp_gt (pc2 := 6) (t := 23) D111_3 (by decide) rfl, aw_iload_1 (pc2 := 7) D111_6 rfl, aw_bipush (pc2 := 9) (y := -9) D111_7 rfl (by decide), aw_icmp_lt (pc2 := 12) (t := 23) D111_9 (by decide) rfl, aw_aload_0 (pc2 := 13) D111_12 rfl, aw_aloadN_0 (pc2 := 13) D111_12 rfl, aw_getR (pc2 := 16) (ci := 6) (fk := 6) D111_13 rfl fT_6_41 rfl, aw_iload_1 (pc2 := 17) D111_16 rfl, aw_ineg (pc2 := 18) D111_17 rfl, aw_dup2 (pc2 := 19) D111_18 rfl, aw_iaload (pc2 := 20) D111_19 rfl, aw_iconst (pc2 := 21) (y := 1) D111_20 rfl (by decide), aw_iadd (pc2 := 22) D111_21 rfl, aw_iastore (pc2 := 23) D111_22 rfl, aw_iload_1 (pc2 := 24) D111_23 rfl, aw_iret D111_24 rfl, sh_0, sh_121, rf_0_6, refV_s, cat_i, cat_r, iOK_1, wOK_e, and_self, true_and, if_neg (show ¬ (-2 : Int32) < -9 by decide), if_neg (show ¬ (-9 : Int32) < -9 by decide)]
  have e : (-(-9 : Int32)) = nI 9 := by decide
  simp only [e, nI_clamp (show 9 < 2 ^ 31 by decide)]
  exact ⟨fun h => h.2.2, fun h => ⟨vp_in_nI (by decide) (by decide), vp_in_nI (by decide) (by decide), h⟩⟩
theorem C_refZ2 : ACall (d + 2) 112 [.ref 0, .int (-2)] (G0 Ln) I J K ↔ K (some (.long 0)) (G0 Ln) (up2 I 121 2 (I 121 2 + 1)) J := by
  rw [ACall_0 (L0 := [.ref 0, .int (-2)]) (show mcs 112 = (0, 0) from rfl) (show entL 112 [.ref 0, .int (-2)] = _ from rfl) rfl (Nat.le_of_ble_eq_true rfl)]
  simp only [aw_aload_0 (pc2 := 1) D112_0 rfl, aw_aloadN_0 (pc2 := 1) D112_0 rfl, aw_iload_1 (pc2 := 2) D112_1 rfl, aw_iv1_0 (pc2 := 5) (o := 6) D112_2 rfl cT_6_59 rfl rfl, aw_pop (pc2 := 6) D112_5 rfl, aw_lconst (pc2 := 7) (y := 0) D112_6 rfl (by decide), aw_lret D112_7 rfl, C_ref2, sh_0, psh_s, cat_i, catS_0, and_self, true_and]
theorem C_refZ3 : ACall (d + 2) 112 [.ref 0, .int (-3)] (G0 Ln) I J K ↔ K (some (.long 0)) (G0 Ln) (up2 I 121 3 (I 121 3 + 1)) J := by
  rw [ACall_0 (L0 := [.ref 0, .int (-3)]) (show mcs 112 = (0, 0) from rfl) (show entL 112 [.ref 0, .int (-3)] = _ from rfl) rfl (Nat.le_of_ble_eq_true rfl)]
  simp only [aw_aload_0 (pc2 := 1) D112_0 rfl, aw_aloadN_0 (pc2 := 1) D112_0 rfl, aw_iload_1 (pc2 := 2) D112_1 rfl, aw_iv1_0 (pc2 := 5) (o := 6) D112_2 rfl cT_6_59 rfl rfl, aw_pop (pc2 := 6) D112_5 rfl, aw_lconst (pc2 := 7) (y := 0) D112_6 rfl (by decide), aw_lret D112_7 rfl, C_ref3, sh_0, psh_s, cat_i, catS_0, and_self, true_and]
theorem C_refZ7 : ACall (d + 2) 112 [.ref 0, .int (-7)] (G0 Ln) I J K ↔ K (some (.long 0)) (G0 Ln) (up2 I 121 7 (I 121 7 + 1)) J := by
  rw [ACall_0 (L0 := [.ref 0, .int (-7)]) (show mcs 112 = (0, 0) from rfl) (show entL 112 [.ref 0, .int (-7)] = _ from rfl) rfl (Nat.le_of_ble_eq_true rfl)]
  simp only [aw_aload_0 (pc2 := 1) D112_0 rfl, aw_aloadN_0 (pc2 := 1) D112_0 rfl, aw_iload_1 (pc2 := 2) D112_1 rfl, aw_iv1_0 (pc2 := 5) (o := 6) D112_2 rfl cT_6_59 rfl rfl, aw_pop (pc2 := 6) D112_5 rfl, aw_lconst (pc2 := 7) (y := 0) D112_6 rfl (by decide), aw_lret D112_7 rfl, C_ref7, sh_0, psh_s, cat_i, catS_0, and_self, true_and]
theorem C_bookAt {b : Nat} (hb : b < 2) : ACall (d + 1) 110 [.ref 0, .int (nI b)] (G0 Ln) I J K ↔ K (some (.ref (bkc b))) (G0 Ln) I J := by
  rw [ACall_0 (L0 := [.ref 0, .int (nI b)]) (show mcs 110 = (0, 0) from rfl) (show entL 110 [.ref 0, .int (nI b)] = _ from rfl) rfl (Nat.le_of_ble_eq_true rfl)]
  rcases (show b = 0 ∨ b = 1 by omega) with rfl | rfl
  · simp only [aw_iload_1 (pc2 := 1) D110_0 rfl, aw_if_ne (pc2 := 4) (t := 9) D110_1 (by decide) rfl, aw_aload_0 (pc2 := 5) D110_4 rfl, aw_aloadN_0 (pc2 := 5) D110_4 rfl, aw_getR (pc2 := 8) (ci := 6) (fk := 0) D110_5 rfl fT_6_12 rfl, aw_aret D110_8 rfl, aw_aretN D110_8 rfl, aw_iload_1 (pc2 := 10) D110_9 rfl, aw_iconst (pc2 := 11) (y := 1) D110_10 rfl (by decide), aw_icmp_ne (pc2 := 14) (t := 21) D110_11 (by decide) rfl, aw_aload_0 (pc2 := 15) D110_14 rfl, aw_aloadN_0 (pc2 := 15) D110_14 rfl, aw_getR (pc2 := 18) (ci := 6) (fk := 1) D110_15 rfl fT_6_16 rfl, aw_goto (t := 22) D110_18 (by decide), aw_null (pc2 := 22) D110_21 rfl, aw_aret D110_22 rfl, aw_aretN D110_22 rfl, sh_0, rf_0_0, refV_s, and_self, true_and, nI_0, not_true_eq_false, if_false]
    exact Iff.rfl
  · simp only [aw_iload_1 (pc2 := 1) D110_0 rfl, aw_if_ne (pc2 := 4) (t := 9) D110_1 (by decide) rfl, aw_aload_0 (pc2 := 5) D110_4 rfl, aw_aloadN_0 (pc2 := 5) D110_4 rfl, aw_getR (pc2 := 8) (ci := 6) (fk := 0) D110_5 rfl fT_6_12 rfl, aw_aret D110_8 rfl, aw_aretN D110_8 rfl, aw_iload_1 (pc2 := 10) D110_9 rfl, aw_iconst (pc2 := 11) (y := 1) D110_10 rfl (by decide), aw_icmp_ne (pc2 := 14) (t := 21) D110_11 (by decide) rfl, aw_aload_0 (pc2 := 15) D110_14 rfl, aw_aloadN_0 (pc2 := 15) D110_14 rfl, aw_getR (pc2 := 18) (ci := 6) (fk := 1) D110_15 rfl fT_6_16 rfl, aw_goto (t := 22) D110_18 (by decide), aw_null (pc2 := 22) D110_21 rfl, aw_aret D110_22 rfl, aw_aretN D110_22 rfl, sh_0, rf_0_1, refV_s, and_self, true_and, if_pos (show ¬ nI 1 = 0 by decide), if_neg (show ¬ ¬ nI 1 = 1 by decide)]
    exact Iff.rfl
theorem C_bookAtN {x : Int32} (h0 : ¬ x = 0) (h1 : ¬ x = 1) : ACall (d + 1) 110 [.ref 0, .int x] (G0 Ln) I J K ↔ K (some .null) (G0 Ln) I J := by
  rw [ACall_0 (L0 := [.ref 0, .int x]) (show mcs 110 = (0, 0) from rfl) (show entL 110 [.ref 0, .int x] = _ from rfl) rfl (Nat.le_of_ble_eq_true rfl)]
  simp only [aw_iload_1 (pc2 := 1) D110_0 rfl, aw_if_ne (pc2 := 4) (t := 9) D110_1 (by decide) rfl, aw_aload_0 (pc2 := 5) D110_4 rfl, aw_aloadN_0 (pc2 := 5) D110_4 rfl, aw_getR (pc2 := 8) (ci := 6) (fk := 0) D110_5 rfl fT_6_12 rfl, aw_aret D110_8 rfl, aw_aretN D110_8 rfl, aw_iload_1 (pc2 := 10) D110_9 rfl, aw_iconst (pc2 := 11) (y := 1) D110_10 rfl (by decide), aw_icmp_ne (pc2 := 14) (t := 21) D110_11 (by decide) rfl, aw_aload_0 (pc2 := 15) D110_14 rfl, aw_aloadN_0 (pc2 := 15) D110_14 rfl, aw_getR (pc2 := 18) (ci := 6) (fk := 1) D110_15 rfl fT_6_16 rfl, aw_goto (t := 22) D110_18 (by decide), aw_null (pc2 := 22) D110_21 rfl, aw_aret D110_22 rfl, aw_aretN D110_22 rfl, and_self, true_and, h0, h1, not_false_eq_true, if_true]
theorem CO_guilty (h : CInv σ I J) (hk : CPost Ln I J K (.int σ.2.2.2, σ)) : ACall (d + 1) 90 [.ref 0] (G0 Ln) I J K := by
  rw [ACall_0 (L0 := [.ref 0]) (show mcs 90 = (0, 0) from rfl) (show entL 90 [.ref 0] = _ from rfl) rfl (Nat.le_of_ble_eq_true rfl)]
  simp only [aw_aload_0 (pc2 := 1) D90_0 rfl, aw_aloadN_0 (pc2 := 1) D90_0 rfl, aw_getI (pc2 := 4) (ci := 6) (fk := 9) D90_1 rfl fT_6_52 rfl, aw_iret D90_4 rfl, sh_0, and_self, true_and]
  rw [h.2.2.2.1]
  exact hk.same h
theorem CO_tear (h : CInv σ I J) (hk : CPost Ln I J K (oTear σ)) : ACall (d + 1) 105 [.ref 0] (G0 Ln) I J K := by
  rw [ACall_0 (L0 := [.ref 0, nv]) (show mcs 105 = (0, 0) from rfl) (show entL 105 [.ref 0] = _ from rfl) rfl (Nat.le_of_ble_eq_true rfl)]
  simp only [aw_aload_0 (pc2 := 1) D105_0 rfl, aw_aloadN_0 (pc2 := 1) D105_0 rfl, aw_getI (pc2 := 4) (ci := 6) (fk := 8) D105_1 rfl fT_6_48 rfl, aw_istore_1 (pc2 := 5) D105_4 rfl, aw_aload_0 (pc2 := 6) D105_5 rfl, aw_aloadN_0 (pc2 := 6) D105_5 rfl, aw_iconst (pc2 := 7) (y := 0) D105_6 rfl (by decide), aw_putZ (pc2 := 10) (ci := 6) (fk := 8) D105_7 rfl fT_6_48 rfl, aw_iload_1 (pc2 := 11) D105_10 rfl, aw_if_eq (pc2 := 14) (t := 18) D105_11 (by decide) rfl, aw_iconst (pc2 := 15) (y := 1) D105_14 rfl (by decide), aw_goto (t := 19) D105_15 (by decide), aw_iconst (pc2 := 19) (y := 0) D105_18 rfl (by decide), aw_iret D105_19 rfl, sh_0, kil_r, kil_i, kil_n, and_self, true_and, true_or, or_true]
  have hc : CInv (oTear σ).2 (up2 I 0 8 0) J := by
    obtain ⟨h1, h3, h4, h5, h6⟩ := h
    refine ⟨fun b hb => (h1 b hb).fr (fun c hc _ => up2_off (by unfold bkc at hc; omega)) (fun c _ hc => rfl), ?_, fun j a b => by rw [up2_off (by omega)]; exact h4 j a b, ?_, h6⟩
    · show up2 I 0 8 0 0 8 = 0
      rw [up2_at]; simp
    · rw [up2_at]; simp; exact h5
  have key := hk _ _ hc (FrC.up (by omega)) FrC.rf
  have h3 := h.2.1
  unfold oTear at key
  cases hr : σ.2.1 with
  | none =>
    rw [hr] at h3 key
    rw [h3]
    simpa using key
  | some r =>
    rw [hr] at h3 key
    rw [h3.1]
    simpa using key
theorem CO_status {x : Int32} (h : CInv σ I J) (hk : CPost Ln I J K (oStatus σ x)) : ACall (d + 2) 109 [.ref 0, .int x] (G0 Ln) I J K := by
  rw [ACall_0 (L0 := [.ref 0, .int x]) (show mcs 109 = (0, 0) from rfl) (show entL 109 [.ref 0, .int x] = _ from rfl) rfl (Nat.le_of_ble_eq_true rfl)]
  simp only [aw_iload_1 (pc2 := 1) D109_0 rfl, aw_bipush (pc2 := 3) (y := -2) D109_1 rfl (by decide), aw_icmp_gt (pc2 := 6) (t := 12) D109_3 (by decide) rfl, aw_iload_1 (pc2 := 7) D109_6 rfl, aw_bipush (pc2 := 9) (y := -9) D109_7 rfl (by decide), aw_icmp_ge (pc2 := 12) (t := 19) D109_9 (by decide) rfl, aw_aload_0 (pc2 := 13) D109_12 rfl, aw_aloadN_0 (pc2 := 13) D109_12 rfl, aw_bipush (pc2 := 15) (y := -7) D109_13 rfl (by decide), aw_iv1_0 (pc2 := 18) (o := 6) D109_15 rfl cT_6_59 rfl rfl, aw_iret D109_18 rfl, aw_aload_0 (pc2 := 20) D109_19 rfl, aw_aloadN_0 (pc2 := 20) D109_19 rfl, aw_getR (pc2 := 23) (ci := 6) (fk := 6) D109_20 rfl fT_6_41 rfl, aw_iload_1 (pc2 := 24) D109_23 rfl, aw_ineg (pc2 := 25) D109_24 rfl, aw_iaload (pc2 := 26) D109_25 rfl, aw_iret D109_26 rfl, C_ref7, sh_0, sh_121, rf_0_6, refV_s, psh_s, iOK_1, catS_0, and_self, true_and]
  unfold oStatus at hk
  by_cases h1 : (-2 : Int32) < x
  · rw [if_pos h1]
    rw [if_neg (fun q => by have := q.2; rw [fa_lt] at h1; rw [fa_le] at this; omega)] at hk
    exact hk.ref h (by omega) (by omega)
  · rw [if_neg h1]
    by_cases h2 : (-9 : Int32) ≤ x
    · rw [if_pos h2]
      have h3 : x ≤ -2 := by rw [fa_lt] at h1; rw [fa_le]; omega
      rw [if_pos ⟨h2, h3⟩] at hk
      have hv := ix_small h2 h3
      refine ⟨hv.1, ?_⟩
      rw [h.2.2.1 _ hv.2.1 hv.2.2]
      exact hk.same h
    · rw [if_neg h2]
      rw [if_neg (fun q => h2 q.1)] at hk
      exact hk.ref h (by omega) (by omega)
theorem CO_row {x : Int32} (hs : sgOK σ) (h : CInv σ I J) (hk : CPost Ln I J K (oRow σ x)) : ACall (d + 2) 106 [.ref 0, .int x] (G0 Ln) I J K := by
  rw [ACall_0 (L0 := [.ref 0, .int x]) (show mcs 106 = (0, 0) from rfl) (show entL 106 [.ref 0, .int x] = _ from rfl) rfl (Nat.le_of_ble_eq_true rfl)]
  simp only [aw_aload_0 (pc2 := 1) D106_0 rfl, aw_aloadN_0 (pc2 := 1) D106_0 rfl, aw_getI (pc2 := 4) (ci := 6) (fk := 8) D106_1 rfl fT_6_48 rfl, aw_if_ne (pc2 := 7) (t := 16) D106_4 (by decide) rfl, aw_aload_0 (pc2 := 8) D106_7 rfl, aw_aloadN_0 (pc2 := 8) D106_7 rfl, aw_bipush (pc2 := 10) (y := -2) D106_8 rfl (by decide), aw_iv1_0 (pc2 := 13) (o := 6) D106_10 rfl cT_6_59 rfl rfl, aw_pop (pc2 := 14) D106_13 rfl, aw_iconst (pc2 := 15) (y := 0) D106_14 rfl (by decide), aw_iret D106_15 rfl, aw_iload_1 (pc2 := 17) D106_16 rfl, aw_if_lt (pc2 := 20) (t := 28) D106_17 (by decide) rfl, aw_iload_1 (pc2 := 21) D106_20 rfl, aw_aload_0 (pc2 := 22) D106_21 rfl, aw_aloadN_0 (pc2 := 22) D106_21 rfl, aw_getI (pc2 := 25) (ci := 6) (fk := 7) D106_22 rfl fT_6_44 rfl, aw_icmp_lt (pc2 := 28) (t := 37) D106_25 (by decide) rfl, aw_aload_0 (pc2 := 29) D106_28 rfl, aw_aloadN_0 (pc2 := 29) D106_28 rfl, aw_bipush (pc2 := 31) (y := -3) D106_29 rfl (by decide), aw_iv1_0 (pc2 := 34) (o := 6) D106_31 rfl cT_6_59 rfl rfl, aw_pop (pc2 := 35) D106_34 rfl, aw_iconst (pc2 := 36) (y := 0) D106_35 rfl (by decide), aw_iret D106_36 rfl, aw_aload_0 (pc2 := 38) D106_37 rfl, aw_aloadN_0 (pc2 := 38) D106_37 rfl, aw_getR (pc2 := 41) (ci := 6) (fk := 5) D106_38 rfl fT_6_37 rfl, aw_iload_1 (pc2 := 42) D106_41 rfl, aw_iaload (pc2 := 43) D106_42 rfl, aw_iret D106_43 rfl, C_ref2, C_ref3, sh_0, sh_120, rf_0_5, refV_s, psh_s, cat_i, iOK_1, catS_0, and_self, true_and]
  have h3 := h.2.1
  unfold oRow at hk
  cases hr : σ.2.1 with
  | none =>
    rw [hr] at h3
    simp only [hr] at hk
    rw [if_neg (by rw [h3]; decide)]
    exact hk.ref h (by omega) (by omega)
  | some r =>
    rw [hr] at h3
    simp only [hr] at hk
    obtain ⟨h4, h5, h6⟩ := h3
    have hlen := (hs.2 r hr).1
    rw [if_pos (by rw [h4]; decide), h5]
    rcases pk_ix x (n := r.length) (by omega) with z | z | ⟨j, hj, rfl⟩
    · rw [if_pos z]
      rw [if_neg (fun q => by have := q.1; rw [fa_lt] at z; rw [fa_le] at this; omega)] at hk
      exact hk.ref h (by omega) (by omega)
    · have z2 : ¬ x < nI r.length := by rw [fa_le] at z; rw [fa_lt]; omega
      rw [if_neg z2]
      rw [if_neg (fun q => z2 q.2)] at hk
      rw [ite_self]
      exact hk.ref h (by omega) (by omega)
    · rw [if_neg (nI_pos (by omega)), if_pos (nI_lt hj (by omega)), nI_clamp (by omega), h6 j hj]
      rw [if_pos ⟨nI_pos' (by omega), nI_lt hj (by omega)⟩, nI_clamp (by omega)] at hk
      exact ⟨vp_in_nI (by omega) (by omega), hk.same h⟩
end OpsA
