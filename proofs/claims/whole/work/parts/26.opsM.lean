section OpsM
variable {d Ln : Nat} {I : IT} {J : JT} {K : KT} {σ : SG}
theorem M_no2 : ACall (d + 1) 125 [.ref 122, .int (-2)] (G0 Ln) I J K ↔ K (some (.int (-2))) (G0 Ln) (up2 I 130 2 (I 130 2 + 1)) J := by
  rw [ACall_0 (L0 := [.ref 122, .int (-2)]) (show mcs 125 = (0, 0) from rfl) (show entL 125 [.ref 122, .int (-2)] = _ from rfl) rfl (Nat.le_of_ble_eq_true rfl)]
  simp only [aw_aload_0 (pc2 := 1) D125_0 rfl, aw_getR (pc2 := 4) (ci := 7) (fk := 7) D125_1 rfl fT_7_31 rfl, aw_iload_1 (pc2 := 5) D125_4 rfl, aw_ineg (pc2 := 6) D125_5 rfl, aw_dup2 (pc2 := 7) D125_6 rfl, aw_iaload (pc2 := 8) D125_7 rfl, aw_iconst (pc2 := 9) (y := 1) D125_8 rfl (by decide), aw_iadd (pc2 := 10) D125_9 rfl, aw_iastore (pc2 := 11) D125_10 rfl, aw_iload_1 (pc2 := 12) D125_11 rfl, aw_iret D125_12 rfl, sh_122, sh_130, rf_122_7, refV_s, cat_i, cat_r, iOK_1, wOK_e, and_self, true_and]
  have e : (-(-2 : Int32)) = nI 2 := by decide
  simp only [e, nI_clamp (show 2 < 2 ^ 31 by decide)]
  exact ⟨fun h => h.2.2, fun h => ⟨vp_in_nI (by decide) (by decide), vp_in_nI (by decide) (by decide), h⟩⟩
theorem M_no3 : ACall (d + 1) 125 [.ref 122, .int (-3)] (G0 Ln) I J K ↔ K (some (.int (-3))) (G0 Ln) (up2 I 130 3 (I 130 3 + 1)) J := by
  rw [ACall_0 (L0 := [.ref 122, .int (-3)]) (show mcs 125 = (0, 0) from rfl) (show entL 125 [.ref 122, .int (-3)] = _ from rfl) rfl (Nat.le_of_ble_eq_true rfl)]
  simp only [aw_aload_0 (pc2 := 1) D125_0 rfl, aw_getR (pc2 := 4) (ci := 7) (fk := 7) D125_1 rfl fT_7_31 rfl, aw_iload_1 (pc2 := 5) D125_4 rfl, aw_ineg (pc2 := 6) D125_5 rfl, aw_dup2 (pc2 := 7) D125_6 rfl, aw_iaload (pc2 := 8) D125_7 rfl, aw_iconst (pc2 := 9) (y := 1) D125_8 rfl (by decide), aw_iadd (pc2 := 10) D125_9 rfl, aw_iastore (pc2 := 11) D125_10 rfl, aw_iload_1 (pc2 := 12) D125_11 rfl, aw_iret D125_12 rfl, sh_122, sh_130, rf_122_7, refV_s, cat_i, cat_r, iOK_1, wOK_e, and_self, true_and]
  have e : (-(-3 : Int32)) = nI 3 := by decide
  simp only [e, nI_clamp (show 3 < 2 ^ 31 by decide)]
  exact ⟨fun h => h.2.2, fun h => ⟨vp_in_nI (by decide) (by decide), vp_in_nI (by decide) (by decide), h⟩⟩
theorem M_no4 : ACall (d + 1) 125 [.ref 122, .int (-4)] (G0 Ln) I J K ↔ K (some (.int (-4))) (G0 Ln) (up2 I 130 4 (I 130 4 + 1)) J := by
  rw [ACall_0 (L0 := [.ref 122, .int (-4)]) (show mcs 125 = (0, 0) from rfl) (show entL 125 [.ref 122, .int (-4)] = _ from rfl) rfl (Nat.le_of_ble_eq_true rfl)]
  simp only [aw_aload_0 (pc2 := 1) D125_0 rfl, aw_getR (pc2 := 4) (ci := 7) (fk := 7) D125_1 rfl fT_7_31 rfl, aw_iload_1 (pc2 := 5) D125_4 rfl, aw_ineg (pc2 := 6) D125_5 rfl, aw_dup2 (pc2 := 7) D125_6 rfl, aw_iaload (pc2 := 8) D125_7 rfl, aw_iconst (pc2 := 9) (y := 1) D125_8 rfl (by decide), aw_iadd (pc2 := 10) D125_9 rfl, aw_iastore (pc2 := 11) D125_10 rfl, aw_iload_1 (pc2 := 12) D125_11 rfl, aw_iret D125_12 rfl, sh_122, sh_130, rf_122_7, refV_s, cat_i, cat_r, iOK_1, wOK_e, and_self, true_and]
  have e : (-(-4 : Int32)) = nI 4 := by decide
  simp only [e, nI_clamp (show 4 < 2 ^ 31 by decide)]
  exact ⟨fun h => h.2.2, fun h => ⟨vp_in_nI (by decide) (by decide), vp_in_nI (by decide) (by decide), h⟩⟩
theorem M_no5 : ACall (d + 1) 125 [.ref 122, .int (-5)] (G0 Ln) I J K ↔ K (some (.int (-5))) (G0 Ln) (up2 I 130 5 (I 130 5 + 1)) J := by
  rw [ACall_0 (L0 := [.ref 122, .int (-5)]) (show mcs 125 = (0, 0) from rfl) (show entL 125 [.ref 122, .int (-5)] = _ from rfl) rfl (Nat.le_of_ble_eq_true rfl)]
  simp only [aw_aload_0 (pc2 := 1) D125_0 rfl, aw_getR (pc2 := 4) (ci := 7) (fk := 7) D125_1 rfl fT_7_31 rfl, aw_iload_1 (pc2 := 5) D125_4 rfl, aw_ineg (pc2 := 6) D125_5 rfl, aw_dup2 (pc2 := 7) D125_6 rfl, aw_iaload (pc2 := 8) D125_7 rfl, aw_iconst (pc2 := 9) (y := 1) D125_8 rfl (by decide), aw_iadd (pc2 := 10) D125_9 rfl, aw_iastore (pc2 := 11) D125_10 rfl, aw_iload_1 (pc2 := 12) D125_11 rfl, aw_iret D125_12 rfl, sh_122, sh_130, rf_122_7, refV_s, cat_i, cat_r, iOK_1, wOK_e, and_self, true_and]
  have e : (-(-5 : Int32)) = nI 5 := by decide
  simp only [e, nI_clamp (show 5 < 2 ^ 31 by decide)]
  exact ⟨fun h => h.2.2, fun h => ⟨vp_in_nI (by decide) (by decide), vp_in_nI (by decide) (by decide), h⟩⟩
theorem M_no6 : ACall (d + 1) 125 [.ref 122, .int (-6)] (G0 Ln) I J K ↔ K (some (.int (-6))) (G0 Ln) (up2 I 130 6 (I 130 6 + 1)) J := by
  rw [ACall_0 (L0 := [.ref 122, .int (-6)]) (show mcs 125 = (0, 0) from rfl) (show entL 125 [.ref 122, .int (-6)] = _ from rfl) rfl (Nat.le_of_ble_eq_true rfl)]
  simp only [aw_aload_0 (pc2 := 1) D125_0 rfl, aw_getR (pc2 := 4) (ci := 7) (fk := 7) D125_1 rfl fT_7_31 rfl, aw_iload_1 (pc2 := 5) D125_4 rfl, aw_ineg (pc2 := 6) D125_5 rfl, aw_dup2 (pc2 := 7) D125_6 rfl, aw_iaload (pc2 := 8) D125_7 rfl, aw_iconst (pc2 := 9) (y := 1) D125_8 rfl (by decide), aw_iadd (pc2 := 10) D125_9 rfl, aw_iastore (pc2 := 11) D125_10 rfl, aw_iload_1 (pc2 := 12) D125_11 rfl, aw_iret D125_12 rfl, sh_122, sh_130, rf_122_7, refV_s, cat_i, cat_r, iOK_1, wOK_e, and_self, true_and]
  have e : (-(-6 : Int32)) = nI 6 := by decide
  simp only [e, nI_clamp (show 6 < 2 ^ 31 by decide)]
  exact ⟨fun h => h.2.2, fun h => ⟨vp_in_nI (by decide) (by decide), vp_in_nI (by decide) (by decide), h⟩⟩
theorem M_no7 : ACall (d + 1) 125 [.ref 122, .int (-7)] (G0 Ln) I J K ↔ K (some (.int (-7))) (G0 Ln) (up2 I 130 7 (I 130 7 + 1)) J := by
  rw [ACall_0 (L0 := [.ref 122, .int (-7)]) (show mcs 125 = (0, 0) from rfl) (show entL 125 [.ref 122, .int (-7)] = _ from rfl) rfl (Nat.le_of_ble_eq_true rfl)]
  simp only [aw_aload_0 (pc2 := 1) D125_0 rfl, aw_getR (pc2 := 4) (ci := 7) (fk := 7) D125_1 rfl fT_7_31 rfl, aw_iload_1 (pc2 := 5) D125_4 rfl, aw_ineg (pc2 := 6) D125_5 rfl, aw_dup2 (pc2 := 7) D125_6 rfl, aw_iaload (pc2 := 8) D125_7 rfl, aw_iconst (pc2 := 9) (y := 1) D125_8 rfl (by decide), aw_iadd (pc2 := 10) D125_9 rfl, aw_iastore (pc2 := 11) D125_10 rfl, aw_iload_1 (pc2 := 12) D125_11 rfl, aw_iret D125_12 rfl, sh_122, sh_130, rf_122_7, refV_s, cat_i, cat_r, iOK_1, wOK_e, and_self, true_and]
  have e : (-(-7 : Int32)) = nI 7 := by decide
  simp only [e, nI_clamp (show 7 < 2 ^ 31 by decide)]
  exact ⟨fun h => h.2.2, fun h => ⟨vp_in_nI (by decide) (by decide), vp_in_nI (by decide) (by decide), h⟩⟩
theorem M_no8 : ACall (d + 1) 125 [.ref 122, .int (-8)] (G0 Ln) I J K ↔ K (some (.int (-8))) (G0 Ln) (up2 I 130 8 (I 130 8 + 1)) J := by
  rw [ACall_0 (L0 := [.ref 122, .int (-8)]) (show mcs 125 = (0, 0) from rfl) (show entL 125 [.ref 122, .int (-8)] = _ from rfl) rfl (Nat.le_of_ble_eq_true rfl)]
  simp only [aw_aload_0 (pc2 := 1) D125_0 rfl, aw_getR (pc2 := 4) (ci := 7) (fk := 7) D125_1 rfl fT_7_31 rfl, aw_iload_1 (pc2 := 5) D125_4 rfl, aw_ineg (pc2 := 6) D125_5 rfl, aw_dup2 (pc2 := 7) D125_6 rfl, aw_iaload (pc2 := 8) D125_7 rfl, aw_iconst (pc2 := 9) (y := 1) D125_8 rfl (by decide), aw_iadd (pc2 := 10) D125_9 rfl, aw_iastore (pc2 := 11) D125_10 rfl, aw_iload_1 (pc2 := 12) D125_11 rfl, aw_iret D125_12 rfl, sh_122, sh_130, rf_122_7, refV_s, cat_i, cat_r, iOK_1, wOK_e, and_self, true_and]
  have e : (-(-8 : Int32)) = nI 8 := by decide
  simp only [e, nI_clamp (show 8 < 2 ^ 31 by decide)]
  exact ⟨fun h => h.2.2, fun h => ⟨vp_in_nI (by decide) (by decide), vp_in_nI (by decide) (by decide), h⟩⟩
theorem M_no9 : ACall (d + 1) 125 [.ref 122, .int (-9)] (G0 Ln) I J K ↔ K (some (.int (-9))) (G0 Ln) (up2 I 130 9 (I 130 9 + 1)) J := by
  rw [ACall_0 (L0 := [.ref 122, .int (-9)]) (show mcs 125 = (0, 0) from rfl) (show entL 125 [.ref 122, .int (-9)] = _ from rfl) rfl (Nat.le_of_ble_eq_true rfl)]
  simp only [aw_aload_0 (pc2 := 1) D125_0 rfl, aw_getR (pc2 := 4) (ci := 7) (fk := 7) D125_1 rfl fT_7_31 rfl, aw_iload_1 (pc2 := 5) D125_4 rfl, aw_ineg (pc2 := 6) D125_5 rfl, aw_dup2 (pc2 := 7) D125_6 rfl, aw_iaload (pc2 := 8) D125_7 rfl, aw_iconst (pc2 := 9) (y := 1) D125_8 rfl (by decide), aw_iadd (pc2 := 10) D125_9 rfl, aw_iastore (pc2 := 11) D125_10 rfl, aw_iload_1 (pc2 := 12) D125_11 rfl, aw_iret D125_12 rfl, sh_122, sh_130, rf_122_7, refV_s, cat_i, cat_r, iOK_1, wOK_e, and_self, true_and]
  have e : (-(-9 : Int32)) = nI 9 := by decide
  simp only [e, nI_clamp (show 9 < 2 ^ 31 by decide)]
  exact ⟨fun h => h.2.2, fun h => ⟨vp_in_nI (by decide) (by decide), vp_in_nI (by decide) (by decide), h⟩⟩
theorem MO_guilty (h : MInv σ I) (hk : MPost Ln I J K (.int σ.2.2.2, σ)) : ACall (d + 1) 178 [.ref 122] (G0 Ln) I J K := by
  rw [ACall_0 (L0 := [.ref 122]) (show mcs 178 = (0, 0) from rfl) (show entL 178 [.ref 122] = _ from rfl) rfl (Nat.le_of_ble_eq_true rfl)]
  simp only [aw_aload_0 (pc2 := 1) D178_0 rfl, aw_getI (pc2 := 4) (ci := 7) (fk := 44) D178_1 rfl fT_7_130 rfl, aw_iret D178_4 rfl, sh_122, and_self, true_and]
  rw [h.2.2.2]
  exact hk.same h
/-- a field of the model's own object is written -/
theorem MB.own {b : Nat} {bk : BK} {I : IT} {k : Nat} {v : Int32} (h : MB b bk I) : MB b bk (up2 I 122 k v) := by
  have e : ∀ c, c ≠ 122 → up2 I 122 k v c = I c := fun c hc => up2_off hc
  unfold MB MGo MG at h ⊢
  simp only [e 123 (by omega), e 124 (by omega), e 125 (by omega), e 126 (by omega), e 127 (by omega), e 128 (by omega), e 129 (by omega), e 131 (by omega), e 132 (by omega), e 133 (by omega), e 134 (by omega), e 135 (by omega), e 136 (by omega), e 137 (by omega), e 138 (by omega), e 159 (by omega), e 161 (by omega)]
  exact h
theorem MO_tear (hs : sgOK σ) (h : MInv σ I) (hk : MPost Ln I J K (oTear σ)) : ACall (d + 1) 198 [.ref 122] (G0 Ln) I J K := by
  rw [ACall_0 (L0 := [.ref 122, nv]) (show mcs 198 = (0, 0) from rfl) (show entL 198 [.ref 122] = _ from rfl) rfl (Nat.le_of_ble_eq_true rfl)]
  simp only [aw_aload_0 (pc2 := 1) D198_0 rfl, aw_getI (pc2 := 4) (ci := 7) (fk := 48) D198_1 rfl fT_7_143 rfl, aw_if_lt (pc2 := 7) (t := 11) D198_4 (by decide) rfl, aw_iconst (pc2 := 8) (y := 1) D198_7 rfl (by decide), aw_goto (t := 12) D198_8 (by decide), aw_iconst (pc2 := 12) (y := 0) D198_11 rfl (by decide), aw_istore_1 (pc2 := 13) D198_12 rfl, aw_aload_0 (pc2 := 14) D198_13 rfl, aw_iconst (pc2 := 15) (y := -1) D198_14 rfl (by decide), aw_putI (pc2 := 18) (ci := 7) (fk := 48) D198_15 rfl fT_7_143 rfl, aw_iload_1 (pc2 := 19) D198_18 rfl, aw_iret D198_19 rfl, sh_122, kil_r, kil_i, kil_n, and_self, true_and, true_or, or_true]
  have hc : MInv (oTear σ).2 (up2 I 122 48 (-1)) := by
    obtain ⟨h1, h3, h4, h5⟩ := h
    refine ⟨fun b hb => (h1 b hb).own, ?_, fun j a b => by rw [up2_off (by omega)]; exact h4 j a b, ?_⟩
    · show up2 I 122 48 (-1) 122 48 = -1
      rw [up2_at]; simp
    · rw [up2_at]; simp; exact h5
  have key := hk _ _ hc (FrM.up (by omega)) FrM.rf
  have h3 := h.2.1
  unfold oTear at key
  cases hr : σ.2.1 with
  | none =>
    rw [hr] at h3 key
    rw [h3]
    rw [if_pos (by decide)]
    simpa using key
  | some r =>
    rw [hr] at h3 key
    have hl := (hs.2 r hr).1
    rw [h3.1, if_neg (nI_pos (by omega))]
    simpa using key
theorem i64_in {x : Int32} {a b : Int64} {u v : Int32} (ha : a = u.toInt64) (hb : b = v.toInt64) : (a ≤ x.toInt64 ∧ x.toInt64 ≤ b) ↔ (u ≤ x ∧ x ≤ v) := by
  rw [ha, hb, fa_wide_le, fa_wide_le]
theorem MO_status {x : Int32} (h : MInv σ I) (hk : MPost Ln I J K (oStatus σ x)) : ACall (d + 2) 202 [.ref 122, .int x] (G0 Ln) I J K := by
  rw [ACall_0 (L0 := [.ref 122, .int x]) (show mcs 202 = (0, 0) from rfl) (show entL 202 [.ref 122, .int x] = _ from rfl) rfl (Nat.le_of_ble_eq_true rfl)]
  simp only [aw_iload_1 (pc2 := 1) D202_0 rfl, aw_i2l (pc2 := 2) D202_1 rfl, aw_ldc2_w (pc2 := 5) (v := -9) D202_2 rfl (by decide), aw_ldc2_w (pc2 := 8) (v := -2) D202_5 rfl (by decide), aw_is3_2 (pc2 := 11) D202_8 rfl cT_7_146 rfl, aw_if_eq (pc2 := 14) (t := 24) D202_11 (by decide) rfl, aw_aload_0 (pc2 := 15) D202_14 rfl, aw_getR (pc2 := 18) (ci := 7) (fk := 7) D202_15 rfl fT_7_31 rfl, aw_iload_1 (pc2 := 19) D202_18 rfl, aw_ineg (pc2 := 20) D202_19 rfl, aw_iaload (pc2 := 21) D202_20 rfl, aw_goto (t := 30) D202_21 (by decide), aw_aload_0 (pc2 := 25) D202_24 rfl, aw_bipush (pc2 := 27) (y := -7) D202_25 rfl (by decide), aw_iv1_0 (pc2 := 30) (o := 7) D202_27 rfl cT_7_154 rfl rfl, aw_iret D202_30 rfl, M_no7, M_isIn, sh_122, sh_130, rf_122_7, refV_s, psh_s, iOK_1, catS_0, catS_1, catS_2, catS_3, and_self, true_and, i64_in (a := -9) (b := -2) (u := -9) (v := -2) (by decide) (by decide)]
  unfold oStatus at hk
  by_cases hh : (-9 : Int32) ≤ x ∧ x ≤ -2
  · rw [if_pos hh] at hk
    have hv := ix_small hh.1 hh.2
    rw [if_neg (by rw [if_pos hh]; decide)]
    refine ⟨hv.1, ?_⟩
    rw [h.2.2.1 _ hv.2.1 hv.2.2]
    exact hk.same h
  · rw [if_neg hh] at hk
    rw [if_pos (by rw [if_neg hh])]
    exact hk.ref h (by omega) (by omega)
theorem MO_row {x : Int32} (hs : sgOK σ) (h : MInv σ I) (hk : MPost Ln I J K (oRow σ x)) : ACall (d + 2) 199 [.ref 122, .int x] (G0 Ln) I J K := by
  rw [ACall_0 (L0 := [.ref 122, .int x, nv]) (show mcs 199 = (0, 0) from rfl) (show entL 199 [.ref 122, .int x] = _ from rfl) rfl (Nat.le_of_ble_eq_true rfl)]
  simp only [aw_aload_0 (pc2 := 1) D199_0 rfl, aw_getI (pc2 := 4) (ci := 7) (fk := 48) D199_1 rfl fT_7_143 rfl, aw_if_lt (pc2 := 7) (t := 30) D199_4 (by decide) rfl, aw_iload_1 (pc2 := 8) D199_7 rfl, aw_i2l (pc2 := 9) D199_8 rfl, aw_lconst (pc2 := 10) (y := 0) D199_9 rfl (by decide), aw_aload_0 (pc2 := 11) D199_10 rfl, aw_getI (pc2 := 14) (ci := 7) (fk := 48) D199_11 rfl fT_7_143 rfl, aw_iconst (pc2 := 15) (y := 1) D199_14 rfl (by decide), aw_isub (pc2 := 16) D199_15 rfl, aw_i2l (pc2 := 17) D199_16 rfl, aw_is3_2 (pc2 := 20) D199_17 rfl cT_7_146 rfl, aw_if_eq (pc2 := 23) (t := 30) D199_20 (by decide) rfl, aw_aload_0 (pc2 := 24) D199_23 rfl, aw_getR (pc2 := 27) (ci := 7) (fk := 46) D199_24 rfl fT_7_137 rfl, aw_iload_1 (pc2 := 28) D199_27 rfl, aw_iaload (pc2 := 29) D199_28 rfl, aw_iret D199_29 rfl, aw_aload_0 (pc2 := 31) D199_30 rfl, aw_aload_0 (pc2 := 32) D199_31 rfl, aw_getI (pc2 := 35) (ci := 7) (fk := 48) D199_32 rfl fT_7_143 rfl, aw_if_ge (pc2 := 38) (t := 43) D199_35 (by decide) rfl, aw_bipush (pc2 := 40) (y := -2) D199_38 rfl (by decide), aw_goto (t := 45) D199_40 (by decide), aw_bipush (pc2 := 45) (y := -3) D199_43 rfl (by decide), aw_iv1_0 (pc2 := 48) (o := 7) D199_45 rfl cT_7_154 rfl rfl, aw_istore_2 (pc2 := 49) D199_48 rfl, aw_iconst (pc2 := 50) (y := 0) D199_49 rfl (by decide), aw_iret D199_50 rfl, M_no2, M_no3, M_isIn, sh_122, sh_163, rf_122_46, refV_s, psh_s, kil_i, kil_n, kil_r, cat_i, iOK_1, catS_0, catS_1, catS_2, catS_3, and_self, true_and]
  have h3 := h.2.1
  unfold oRow at hk
  cases hr : σ.2.1 with
  | none =>
    rw [hr] at h3
    simp only [hr] at hk
    simp only [h3, if_pos (show (-1 : Int32) < 0 by decide), if_neg (show ¬ (0 : Int32) ≤ -1 by decide)]
    exact hk.ref h (by omega) (by omega)
  | some r =>
    rw [hr] at h3
    simp only [hr] at hk
    obtain ⟨h4, h5⟩ := h3
    have hlen := (hs.2 r hr).1
    have e1 : (0 : Int64) = (0 : Int32).toInt64 := by decide
    have h0 : (0 : Int32) ≤ nI r.length := nI_pos' (by omega)
    have h0' : ¬ nI r.length < 0 := nI_pos (by omega)
    simp only [h4, h0, h0', if_true, if_false]
    simp only [e1, fa_wide_le]
    by_cases hh : 0 ≤ x ∧ x < nI r.length
    · obtain ⟨j, hj, rfl⟩ : ∃ j, j < r.length ∧ x = nI j := by
        rcases pk_ix x (n := r.length) (by omega) with z | z | z
        · have := hh.1; rw [fa_lt] at z; rw [fa_le] at this; omega
        · have := hh.2; rw [fa_le] at z; rw [fa_lt] at this; omega
        · exact z
      rw [if_pos hh, nI_clamp (by omega)] at hk
      have hle : nI j ≤ nI r.length - 1 := by
        rw [show r.length = (r.length - 1) + 1 by omega, nI_pred]
        exact nI_le (by omega) (by omega)
      rw [if_neg (by rw [if_pos ⟨hh.1, hle⟩]; decide), nI_clamp (by omega), h5 j hj]
      exact ⟨vp_in_nI (by omega) (by omega), hk.same h⟩
    · rw [if_neg hh] at hk
      rw [if_pos (by
        rw [if_neg]
        intro q
        refine hh ⟨q.1, ?_⟩
        have q2 := q.2
        rw [fa_le] at q2
        rw [fa_lt]
        have z1 : (nI r.length - 1).toInt = (r.length : Int) - 1 := by
          rw [show (1 : Int32) = nI 1 from rfl]; exact pk_sub_toInt (by omega) (by omega)
        rw [z1] at q2
        rw [nI_toInt (by omega)]
        omega)]
      exact hk.ref h (by omega) (by omega)
end OpsM
