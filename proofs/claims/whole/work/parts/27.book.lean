theorem up2_f {α : Type} {f : Nat → Nat → α} {a k j : Nat} {v : α} : up2 f a k v a j = if j = k then v else f a j := by rw [up2_at]
theorem up2_lo {α : Type} {f : Nat → Nat → α} {a n k : Nat} {v : α} : up2 f (a + (n + 1)) k v a = f a := up2_off (by omega)
theorem up2_hi {α : Type} {f : Nat → Nat → α} {a n k : Nat} {v : α} : up2 f a k v (a + (n + 1)) = f (a + (n + 1)) := up2_off (by omega)
/-- where things lie of the book at cell B -/
def BF (Ln B : Nat) : Prop := (shp (G0 Ln) B = (0, 0) ∧ shp (G0 Ln) (B + 1) = (1, 40) ∧ shp (G0 Ln) (B + 2) = (1, 24) ∧ shp (G0 Ln) (B + 3) = (0, 1) ∧ shp (G0 Ln) (B + 4) = (1, 1500) ∧ shp (G0 Ln) (B + 5) = (1, 1500) ∧ shp (G0 Ln) (B + 6) = (1, 1500) ∧ shp (G0 Ln) (B + 7) = (1, 1500) ∧ shp (G0 Ln) (B + 8) = (1, 18000) ∧ shp (G0 Ln) (B + 9) = (2, 1500) ∧ shp (G0 Ln) (B + 10) = (0, 5) ∧ shp (G0 Ln) (B + 11) = (2, 64) ∧ shp (G0 Ln) (B + 12) = (0, 5) ∧ shp (G0 Ln) (B + 13) = (2, 64)) ∧ ((G0 Ln).2.2.2 B 0 = some (B + 1) ∧ (G0 Ln).2.2.2 B 1 = some (B + 2) ∧ (G0 Ln).2.2.2 B 2 = some (B + 3) ∧ (G0 Ln).2.2.2 B 3 = some (B + 12) ∧ (G0 Ln).2.2.2 (B + 3) 0 = some (B + 4) ∧ (G0 Ln).2.2.2 (B + 3) 1 = some (B + 5) ∧ (G0 Ln).2.2.2 (B + 3) 2 = some (B + 6) ∧ (G0 Ln).2.2.2 (B + 3) 3 = some (B + 7) ∧ (G0 Ln).2.2.2 (B + 3) 4 = some (B + 8) ∧ (G0 Ln).2.2.2 (B + 3) 5 = some (B + 9) ∧ (G0 Ln).2.2.2 (B + 3) 6 = some (B + 10) ∧ (G0 Ln).2.2.2 (B + 10) 0 = some (B + 11) ∧ (G0 Ln).2.2.2 (B + 12) 0 = some (B + 13))
theorem bf {Ln b : Nat} (hb : b < 2) : BF Ln (bkc b) := by
  rcases (show b = 0 ∨ b = 1 by omega) with rfl | rfl
  · exact ⟨⟨rfl, rfl, rfl, rfl, rfl, rfl, rfl, rfl, rfl, rfl, rfl, rfl, rfl, rfl⟩, ⟨rfl, rfl, rfl, rfl, rfl, rfl, rfl, rfl, rfl, rfl, rfl, rfl, rfl⟩⟩
  · exact ⟨⟨rfl, rfl, rfl, rfl, rfl, rfl, rfl, rfl, rfl, rfl, rfl, rfl, rfl, rfl⟩, ⟨rfl, rfl, rfl, rfl, rfl, rfl, rfl, rfl, rfl, rfl, rfl, rfl, rfl⟩⟩
section Book
variable {d Ln B : Nat} {I : IT} {J : JT} {K : KT}
theorem C_rowCount (hB : BF Ln B) : ACall (d + 1) 2 [.ref B] (G0 Ln) I J K ↔ K (some (.int (1 <<< (I B 4 &&& 31)))) (G0 Ln) I J := by
  rw [ACall_0 (L0 := [.ref B]) (show mcs 2 = (0, 0) from rfl) (show entL 2 [.ref B] = _ from rfl) rfl (Nat.le_of_ble_eq_true rfl)]
  simp only [aw_iconst (pc2 := 1) (y := 1) D2_0 rfl (by decide), aw_aload_0 (pc2 := 2) D2_1 rfl, aw_getI (pc2 := 5) (ci := 0) (fk := 4) D2_2 rfl fT_0_32 rfl, aw_ishl (pc2 := 6) D2_5 rfl, aw_iret D2_6 rfl, hB.1.1, and_self, true_and]
theorem C_hasLetter {x : Int32} (hB : BF Ln B) : ACall (d + 1) 3 [.ref B, .int x] (G0 Ln) I J K ↔ K (some (.int (if 1 ≤ x ∧ x ≤ I B 4 then 1 else 0))) (G0 Ln) I J := by
  rw [ACall_0 (L0 := [.ref B, .int x]) (show mcs 3 = (0, 0) from rfl) (show entL 3 [.ref B, .int x] = _ from rfl) rfl (Nat.le_of_ble_eq_true rfl)]
  simp only [aw_iload_1 (pc2 := 1) D3_0 rfl, aw_iconst (pc2 := 2) (y := 1) D3_1 rfl (by decide), aw_icmp_lt (pc2 := 5) (t := 17) D3_2 (by decide) rfl, aw_iload_1 (pc2 := 6) D3_5 rfl, aw_aload_0 (pc2 := 7) D3_6 rfl, aw_getI (pc2 := 10) (ci := 0) (fk := 4) D3_7 rfl fT_0_32 rfl, aw_icmp_gt (pc2 := 13) (t := 17) D3_10 (by decide) rfl, aw_iconst (pc2 := 14) (y := 1) D3_13 rfl (by decide), aw_goto (t := 18) D3_14 (by decide), aw_iconst (pc2 := 18) (y := 0) D3_17 rfl (by decide), aw_zret D3_18 rfl, hB.1.1, and_self, true_and, true_or, or_true]
  by_cases h1 : x < 1
  · rw [if_pos h1, if_neg (fun q => by have := q.1; rw [fa_lt] at h1; rw [fa_le] at this; omega)]
  · rw [if_neg h1]
    have h1' : 1 ≤ x := fa_of_nlt h1
    by_cases h2 : I B 4 < x
    · rw [if_pos h2, if_neg (fun q => by have := q.2; rw [fa_lt] at h2; rw [fa_le] at this; omega)]
    · rw [if_neg h2, if_pos ⟨h1', fa_of_nlt h2⟩]
theorem C_allows {x : Int32} (hB : BF Ln B) : ACall (d + 1) 5 [.ref B, .int x] (G0 Ln) I J K ↔ K (some (.int (if -(I B 4) ≤ x ∧ x ≤ I B 4 then 1 else 0))) (G0 Ln) I J := by
  rw [ACall_0 (L0 := [.ref B, .int x]) (show mcs 5 = (0, 0) from rfl) (show entL 5 [.ref B, .int x] = _ from rfl) rfl (Nat.le_of_ble_eq_true rfl)]
  simp only [aw_iload_1 (pc2 := 1) D5_0 rfl, aw_aload_0 (pc2 := 2) D5_1 rfl, aw_getI (pc2 := 5) (ci := 0) (fk := 4) D5_2 rfl fT_0_32 rfl, aw_ineg (pc2 := 6) D5_5 rfl, aw_icmp_lt (pc2 := 9) (t := 21) D5_6 (by decide) rfl, aw_iload_1 (pc2 := 10) D5_9 rfl, aw_aload_0 (pc2 := 11) D5_10 rfl, aw_getI (pc2 := 14) (ci := 0) (fk := 4) D5_11 rfl fT_0_32 rfl, aw_icmp_gt (pc2 := 17) (t := 21) D5_14 (by decide) rfl, aw_iconst (pc2 := 18) (y := 1) D5_17 rfl (by decide), aw_goto (t := 22) D5_18 (by decide), aw_iconst (pc2 := 22) (y := 0) D5_21 rfl (by decide), aw_zret D5_22 rfl, hB.1.1, and_self, true_and, true_or, or_true]
  by_cases h1 : x < -(I B 4)
  · rw [if_pos h1, if_neg (fun q => by have := q.1; rw [fa_lt] at h1; rw [fa_le] at this; omega)]
  · rw [if_neg h1]
    have h1' : -(I B 4) ≤ x := fa_of_nlt h1
    by_cases h2 : I B 4 < x
    · rw [if_pos h2, if_neg (fun q => by have := q.2; rw [fa_lt] at h2; rw [fa_le] at this; omega)]
    · rw [if_neg h2, if_pos ⟨h1', fa_of_nlt h2⟩]
theorem C_hasSign {x : Int32} (hB : BF Ln B) : ACall (d + 2) 4 [.ref B, .int x] (G0 Ln) I J K ↔ K (some (.int (if ¬ x = 0 ∧ -(I B 4) ≤ x ∧ x ≤ I B 4 then 1 else 0))) (G0 Ln) I J := by
  rw [ACall_0 (L0 := [.ref B, .int x]) (show mcs 4 = (0, 0) from rfl) (show entL 4 [.ref B, .int x] = _ from rfl) rfl (Nat.le_of_ble_eq_true rfl)]
  simp only [aw_iload_1 (pc2 := 1) D4_0 rfl, aw_if_eq (pc2 := 4) (t := 16) D4_1 (by decide) rfl, aw_aload_0 (pc2 := 5) D4_4 rfl, aw_iload_1 (pc2 := 6) D4_5 rfl, aw_iv1_0 (pc2 := 9) (o := 0) D4_6 rfl cT_0_53 rfl rfl, aw_if_eq (pc2 := 12) (t := 16) D4_9 (by decide) rfl, aw_iconst (pc2 := 13) (y := 1) D4_12 rfl (by decide), aw_goto (t := 17) D4_13 (by decide), aw_iconst (pc2 := 17) (y := 0) D4_16 rfl (by decide), aw_zret D4_17 rfl, C_allows hB, hB.1.1, psh_s, catS_0, and_self, true_and, true_or, or_true]
  by_cases h1 : x = 0
  · rw [if_pos h1, if_neg (fun q => q.1 h1)]
  · rw [if_neg h1]
    by_cases h2 : -(I B 4) ≤ x ∧ x ≤ I B 4
    · rw [if_pos h2, if_neg (by decide), if_pos ⟨h1, h2⟩]
    · rw [if_neg h2, if_pos rfl, if_neg (fun q => h2 q.2)]
theorem C_clauseAt {i : Nat} (hB : BF Ln B) (hi : i < 40) : ACall (d + 1) 6 [.ref B, .int (nI i)] (G0 Ln) I J K ↔ K (some (.int (I (B + 1) i))) (G0 Ln) I J := by
  rw [ACall_0 (L0 := [.ref B, .int (nI i)]) (show mcs 6 = (0, 0) from rfl) (show entL 6 [.ref B, .int (nI i)] = _ from rfl) rfl (Nat.le_of_ble_eq_true rfl)]
  simp only [aw_iload_1 (pc2 := 1) D6_0 rfl, aw_if_lt (pc2 := 4) (t := 22) D6_1 (by decide) rfl, aw_iload_1 (pc2 := 5) D6_4 rfl, aw_aload_0 (pc2 := 6) D6_5 rfl, aw_getR (pc2 := 9) (ci := 0) (fk := 0) D6_6 rfl fT_0_9 rfl, aw_alen (pc2 := 10) D6_9 rfl, aw_icmp_ge (pc2 := 13) (t := 22) D6_10 (by decide) rfl, aw_aload_0 (pc2 := 14) D6_13 rfl, aw_getR (pc2 := 17) (ci := 0) (fk := 0) D6_14 rfl fT_0_9 rfl, aw_iload_1 (pc2 := 18) D6_17 rfl, aw_iaload (pc2 := 19) D6_18 rfl, aw_goto (t := 23) D6_19 (by decide), aw_iconst (pc2 := 23) (y := 0) D6_22 rfl (by decide), aw_iret D6_23 rfl, hB.1.1, hB.1.2.1, hB.2.1, refV_s, lOK_1, iOK_1, and_self, true_and, if_neg (nI_pos (show i < 2 ^ 31 by omega)), if_neg (nI_ge (b := 40) (show i < 40 from hi) (by decide)), nI_clamp (show i < 2 ^ 31 by omega)]
  rw [if_neg (show ¬ Int32.ofNat 40 ≤ nI i from nI_ge (b := 40) hi (by decide))]
  exact ⟨fun h => h.2, fun h => ⟨vp_in_nI hi (by decide), h⟩⟩
theorem C_addClause {n : Nat} {s : Int32} (hB : BF Ln B) (hn : I B 5 = nI n) (hi : n < 40) : ACall (d + 1) 7 [.ref B, .int s] (G0 Ln) I J K ↔ K none (G0 Ln) (up2 (up2 (up2 I (B + 1) n s) B 5 (nI (n + 1))) B 8 0) J := by
  rw [ACall_0 (L0 := [.ref B, .int s]) (show mcs 7 = (0, 0) from rfl) (show entL 7 [.ref B, .int s] = _ from rfl) rfl (Nat.le_of_ble_eq_true rfl)]
  simp only [aw_aload_0 (pc2 := 1) D7_0 rfl, aw_getI (pc2 := 4) (ci := 0) (fk := 5) D7_1 rfl fT_0_36 rfl, aw_aload_0 (pc2 := 5) D7_4 rfl, aw_getR (pc2 := 8) (ci := 0) (fk := 0) D7_5 rfl fT_0_9 rfl, aw_alen (pc2 := 9) D7_8 rfl, aw_icmp_ge (pc2 := 12) (t := 37) D7_9 (by decide) rfl, aw_aload_0 (pc2 := 13) D7_12 rfl, aw_getR (pc2 := 16) (ci := 0) (fk := 0) D7_13 rfl fT_0_9 rfl, aw_aload_0 (pc2 := 17) D7_16 rfl, aw_getI (pc2 := 20) (ci := 0) (fk := 5) D7_17 rfl fT_0_36 rfl, aw_iload_1 (pc2 := 21) D7_20 rfl, aw_iastore (pc2 := 22) D7_21 rfl, aw_aload_0 (pc2 := 23) D7_22 rfl, aw_dup (pc2 := 24) D7_23 rfl, aw_getI (pc2 := 27) (ci := 0) (fk := 5) D7_24 rfl fT_0_36 rfl, aw_iconst (pc2 := 28) (y := 1) D7_27 rfl (by decide), aw_iadd (pc2 := 29) D7_28 rfl, aw_putI (pc2 := 32) (ci := 0) (fk := 5) D7_29 rfl fT_0_36 rfl, aw_aload_0 (pc2 := 33) D7_32 rfl, aw_iconst (pc2 := 34) (y := 0) D7_33 rfl (by decide), aw_putZ (pc2 := 37) (ci := 0) (fk := 8) D7_34 rfl fT_0_45 rfl, aw_vret D7_37 rfl, hB.1.1, hB.1.2.1, hB.2.1, refV_s, cat_r, lOK_1, wOK_e, and_self, true_and, true_or, hn, up2_lo, nI_clamp (show n < 2 ^ 31 by omega), nI_1]
  rw [if_neg (show ¬ Int32.ofNat 40 ≤ nI n from nI_ge (b := 40) hi (by decide))]
  exact ⟨fun h => h.2, fun h => ⟨vp_in_nI hi (by decide), h⟩⟩
theorem C_widenLast {n : Nat} {s : Int32} (hB : BF Ln B) (hn : I B 5 = nI (n + 1)) (hi : n < 40) : ACall (d + 1) 8 [.ref B, .int s] (G0 Ln) I J K ↔ K none (G0 Ln) (up2 (up2 I (B + 1) n (I (B + 1) n ||| s)) B 8 0) J := by
  rw [ACall_0 (L0 := [.ref B, .int s]) (show mcs 8 = (0, 0) from rfl) (show entL 8 [.ref B, .int s] = _ from rfl) rfl (Nat.le_of_ble_eq_true rfl)]
  simp only [aw_aload_0 (pc2 := 1) D8_0 rfl, aw_getI (pc2 := 4) (ci := 0) (fk := 5) D8_1 rfl fT_0_36 rfl, aw_if_le (pc2 := 7) (t := 39) D8_4 (by decide) rfl, aw_aload_0 (pc2 := 8) D8_7 rfl, aw_getI (pc2 := 11) (ci := 0) (fk := 5) D8_8 rfl fT_0_36 rfl, aw_aload_0 (pc2 := 12) D8_11 rfl, aw_getR (pc2 := 15) (ci := 0) (fk := 0) D8_12 rfl fT_0_9 rfl, aw_alen (pc2 := 16) D8_15 rfl, aw_icmp_gt (pc2 := 19) (t := 39) D8_16 (by decide) rfl, aw_aload_0 (pc2 := 20) D8_19 rfl, aw_getR (pc2 := 23) (ci := 0) (fk := 0) D8_20 rfl fT_0_9 rfl, aw_aload_0 (pc2 := 24) D8_23 rfl, aw_getI (pc2 := 27) (ci := 0) (fk := 5) D8_24 rfl fT_0_36 rfl, aw_iconst (pc2 := 28) (y := 1) D8_27 rfl (by decide), aw_isub (pc2 := 29) D8_28 rfl, aw_dup2 (pc2 := 30) D8_29 rfl, aw_iaload (pc2 := 31) D8_30 rfl, aw_iload_1 (pc2 := 32) D8_31 rfl, aw_ior (pc2 := 33) D8_32 rfl, aw_iastore (pc2 := 34) D8_33 rfl, aw_aload_0 (pc2 := 35) D8_34 rfl, aw_iconst (pc2 := 36) (y := 0) D8_35 rfl (by decide), aw_putZ (pc2 := 39) (ci := 0) (fk := 8) D8_36 rfl fT_0_45 rfl, aw_vret D8_39 rfl, hB.1.1, hB.1.2.1, hB.2.1, refV_s, cat_r, cat_i, lOK_1, wOK_e, iOK_1, and_self, true_and, true_or, hn, up2_lo, nI_pred, nI_clamp (show n < 2 ^ 31 by omega)]
  rw [if_neg (nI_nle (by omega) (by omega)), if_neg (show ¬ Int32.ofNat 40 < nI (n + 1) from nI_nlt (a := 40) (by omega) (by decide))]
  exact ⟨fun h => h.2.2, fun h => ⟨vp_in_nI hi (by decide), vp_in_nI hi (by decide), h⟩⟩
theorem C_dropLast {n : Nat} (hB : BF Ln B) (hn : I B 5 = nI (n + 1)) (hi : n < 40) : ACall (d + 1) 9 [.ref B] (G0 Ln) I J K ↔ K none (G0 Ln) (up2 (up2 I B 5 (nI n)) B 8 0) J := by
  rw [ACall_0 (L0 := [.ref B]) (show mcs 9 = (0, 0) from rfl) (show entL 9 [.ref B] = _ from rfl) rfl (Nat.le_of_ble_eq_true rfl)]
  simp only [aw_aload_0 (pc2 := 1) D9_0 rfl, aw_getI (pc2 := 4) (ci := 0) (fk := 5) D9_1 rfl fT_0_36 rfl, aw_if_le (pc2 := 7) (t := 22) D9_4 (by decide) rfl, aw_aload_0 (pc2 := 8) D9_7 rfl, aw_dup (pc2 := 9) D9_8 rfl, aw_getI (pc2 := 12) (ci := 0) (fk := 5) D9_9 rfl fT_0_36 rfl, aw_iconst (pc2 := 13) (y := 1) D9_12 rfl (by decide), aw_isub (pc2 := 14) D9_13 rfl, aw_putI (pc2 := 17) (ci := 0) (fk := 5) D9_14 rfl fT_0_36 rfl, aw_aload_0 (pc2 := 18) D9_17 rfl, aw_iconst (pc2 := 19) (y := 0) D9_18 rfl (by decide), aw_putZ (pc2 := 22) (ci := 0) (fk := 8) D9_19 rfl fT_0_45 rfl, aw_vret D9_22 rfl, hB.1.1, cat_r, and_self, true_and, true_or, hn, nI_pred]
  rw [if_neg (nI_nle (by omega) (by omega))]
theorem C_weightOf {x : Int32} {p : Nat} (hB : BF Ln B) (hx : ¬ x = 0 ∧ -(I B 4) ≤ x ∧ x ≤ I B 4) (hp : plc x = nI p) (h24 : p < 24) : ACall (d + 3) 10 [.ref B, .int x] (G0 Ln) I J K ↔ K (some (.int (I (B + 2) p))) (G0 Ln) I J := by
  rw [ACall_0 (L0 := [.ref B, .int x]) (show mcs 10 = (0, 0) from rfl) (show entL 10 [.ref B, .int x] = _ from rfl) rfl (Nat.le_of_ble_eq_true rfl)]
  simp only [aw_aload_0 (pc2 := 1) D10_0 rfl, aw_iload_1 (pc2 := 2) D10_1 rfl, aw_iv1_0 (pc2 := 5) (o := 0) D10_2 rfl cT_0_57 rfl rfl, aw_if_eq (pc2 := 8) (t := 20) D10_5 (by decide) rfl, aw_aload_0 (pc2 := 9) D10_8 rfl, aw_getR (pc2 := 12) (ci := 0) (fk := 1) D10_9 rfl fT_0_15 rfl, aw_iload_1 (pc2 := 13) D10_12 rfl, aw_is1_3 (pc2 := 16) D10_13 rfl cT_0_60 rfl, aw_iaload (pc2 := 17) D10_16 rfl, aw_goto (t := 21) D10_17 (by decide), aw_iconst (pc2 := 21) (y := 1) D10_20 rfl (by decide), aw_iret D10_21 rfl, C_hasSign hB, C_placeOf, hB.1.1, hB.1.2.2.1, hB.2.2.1, refV_s, psh_s, iOK_1, catS_0, catS_1, and_self, true_and, hp, nI_clamp (show p < 2 ^ 31 by omega), if_pos hx]
  rw [if_neg (by decide)]
  exact ⟨fun h => h.2, fun h => ⟨vp_in_nI h24 (by decide), h⟩⟩
theorem C_setWeight {x w : Int32} {p : Nat} (hB : BF Ln B) (hx : ¬ x = 0 ∧ -(I B 4) ≤ x ∧ x ≤ I B 4) (hp : plc x = nI p) (h24 : p < 24) : ACall (d + 3) 11 [.ref B, .int x, .int w] (G0 Ln) I J K ↔ K none (G0 Ln) (up2 I (B + 2) p w) J := by
  rw [ACall_0 (L0 := [.ref B, .int x, .int w]) (show mcs 11 = (0, 0) from rfl) (show entL 11 [.ref B, .int x, .int w] = _ from rfl) rfl (Nat.le_of_ble_eq_true rfl)]
  simp only [aw_aload_0 (pc2 := 1) D11_0 rfl, aw_iload_1 (pc2 := 2) D11_1 rfl, aw_iv1_0 (pc2 := 5) (o := 0) D11_2 rfl cT_0_57 rfl rfl, aw_if_eq (pc2 := 8) (t := 18) D11_5 (by decide) rfl, aw_aload_0 (pc2 := 9) D11_8 rfl, aw_getR (pc2 := 12) (ci := 0) (fk := 1) D11_9 rfl fT_0_15 rfl, aw_iload_1 (pc2 := 13) D11_12 rfl, aw_is1_3 (pc2 := 16) D11_13 rfl cT_0_60 rfl, aw_iload_2 (pc2 := 17) D11_16 rfl, aw_iastore (pc2 := 18) D11_17 rfl, aw_vret D11_18 rfl, C_hasSign hB, C_placeOf, hB.1.1, hB.1.2.2.1, hB.2.2.1, refV_s, psh_s, wOK_e, catS_0, catS_1, and_self, true_and, hp, nI_clamp (show p < 2 ^ 31 by omega), if_pos hx]
  rw [if_neg (by decide)]
  exact ⟨fun h => h.2, fun h => ⟨vp_in_nI h24 (by decide), h⟩⟩
/-- n places of a cell get one value -/
def fil {α : Type} (f : Nat → Nat → α) (c n : Nat) (v : α) : Nat → Nat → α := fun a b => if a = c ∧ b < n then v else f a b
theorem fil_0 {α : Type} {f : Nat → Nat → α} {c : Nat} {v : α} : fil f c 0 v = f := by funext a b; simp [fil]
theorem fil_s {α : Type} {f : Nat → Nat → α} {c n : Nat} {v : α} : up2 (fil f c n v) c n v = fil f c (n + 1) v := by
  funext a b
  unfold up2 fil
  by_cases ha : a = c
  · subst ha
    by_cases hb : b = n
    · simp [hb]
    · by_cases hl : b < n
      · simp [hb, hl, show b < n + 1 by omega]
      · simp [hb, hl, show ¬ b < n + 1 by omega]
  · simp [ha]
theorem fil_off {α : Type} {f : Nat → Nat → α} {c n a : Nat} {v : α} (h : a ≠ c) : fil f c n v a = f a := by funext b; simp [fil, h]
theorem fil_at {α : Type} {f : Nat → Nat → α} {c n b : Nat} {v : α} (h : b < n) : fil f c n v c b = v := by simp [fil, h]
/-- Book.startAnew, wherever the book lies -/
theorem C_startAnew {G : GT} {w : Nat} {x : Int32} (h1 : shp G B = (0, 0)) (h2 : shp G w = (1, 24)) (h3 : G.2.2.2 B 1 = some w) (hw : w ≠ B) : ACall (d + 1) 1 [.ref B, .int x] G I J K ↔ K none G (fil (up2 (up2 (up2 (up2 (up2 I B 4 x) B 5 0) B 6 0) B 7 0) B 8 0) w 24 1) J := by
  rw [ACall_0 (L0 := [.ref B, .int x, nv]) (show mcs 1 = (0, 0) from rfl) (show entL 1 [.ref B, .int x] = _ from rfl) rfl (Nat.le_of_ble_eq_true rfl)]
  simp only [aw_aload_0 (pc2 := 1) D1_0 rfl, aw_iload_1 (pc2 := 2) D1_1 rfl, aw_putI (pc2 := 5) (ci := 0) (fk := 4) D1_2 rfl fT_0_32 rfl, aw_aload_0 (pc2 := 6) D1_5 rfl, aw_iconst (pc2 := 7) (y := 0) D1_6 rfl (by decide), aw_putI (pc2 := 10) (ci := 0) (fk := 5) D1_7 rfl fT_0_36 rfl, aw_aload_0 (pc2 := 11) D1_10 rfl, aw_iconst (pc2 := 12) (y := 0) D1_11 rfl (by decide), aw_putI (pc2 := 15) (ci := 0) (fk := 6) D1_12 rfl fT_0_39 rfl, aw_aload_0 (pc2 := 16) D1_15 rfl, aw_iconst (pc2 := 17) (y := 0) D1_16 rfl (by decide), aw_putI (pc2 := 20) (ci := 0) (fk := 7) D1_17 rfl fT_0_42 rfl, aw_aload_0 (pc2 := 21) D1_20 rfl, aw_iconst (pc2 := 22) (y := 0) D1_21 rfl (by decide), aw_putZ (pc2 := 25) (ci := 0) (fk := 8) D1_22 rfl fT_0_45 rfl, aw_iconst (pc2 := 26) (y := 0) D1_25 rfl (by decide), aw_istore_2 (pc2 := 27) D1_26 rfl, aw_aload_0 (pc2 := 29) D1_28 rfl, aw_getR (pc2 := 32) (ci := 0) (fk := 1) D1_29 rfl fT_0_15 rfl, aw_alen (pc2 := 33) D1_32 rfl, aw_icmp_ge (pc2 := 36) (t := 49) D1_33 (by decide) rfl, aw_aload_0 (pc2 := 37) D1_36 rfl, aw_getR (pc2 := 40) (ci := 0) (fk := 1) D1_37 rfl fT_0_15 rfl, aw_iload_2 (pc2 := 41) D1_40 rfl, aw_iconst (pc2 := 42) (y := 1) D1_41 rfl (by decide), aw_iastore (pc2 := 43) D1_42 rfl, aw_iinc_2 (pc2 := 46) (y := 1) D1_43 rfl (by decide), aw_goto (t := 27) D1_46 (by decide), aw_vret D1_49 rfl, h1, kil_i, kil_n, kil_r, and_self, true_and, true_or]
  generalize up2 (up2 (up2 (up2 (up2 I B 4 x) B 5 0) B 6 0) B 7 0) B 8 0 = I0
  have key : ∀ n i, i + n = 24 → (AW d (G.1, G.2.1) K 1 27 [.ref B, .int x, .int (nI i)] [] G (fil I0 w i 1) J ↔ K none G (fil I0 w 24 1) J) := by
    intro n
    induction n with
    | zero =>
      intro i hi
      have : i = 24 := by omega
      subst this
      rw [aw_iload_2 (pc2 := 28) D1_27 rfl]
      simp only [aw_aload_0 (pc2 := 1) D1_0 rfl, aw_iload_1 (pc2 := 2) D1_1 rfl, aw_putI (pc2 := 5) (ci := 0) (fk := 4) D1_2 rfl fT_0_32 rfl, aw_aload_0 (pc2 := 6) D1_5 rfl, aw_iconst (pc2 := 7) (y := 0) D1_6 rfl (by decide), aw_putI (pc2 := 10) (ci := 0) (fk := 5) D1_7 rfl fT_0_36 rfl, aw_aload_0 (pc2 := 11) D1_10 rfl, aw_iconst (pc2 := 12) (y := 0) D1_11 rfl (by decide), aw_putI (pc2 := 15) (ci := 0) (fk := 6) D1_12 rfl fT_0_39 rfl, aw_aload_0 (pc2 := 16) D1_15 rfl, aw_iconst (pc2 := 17) (y := 0) D1_16 rfl (by decide), aw_putI (pc2 := 20) (ci := 0) (fk := 7) D1_17 rfl fT_0_42 rfl, aw_aload_0 (pc2 := 21) D1_20 rfl, aw_iconst (pc2 := 22) (y := 0) D1_21 rfl (by decide), aw_putZ (pc2 := 25) (ci := 0) (fk := 8) D1_22 rfl fT_0_45 rfl, aw_iconst (pc2 := 26) (y := 0) D1_25 rfl (by decide), aw_istore_2 (pc2 := 27) D1_26 rfl, aw_aload_0 (pc2 := 29) D1_28 rfl, aw_getR (pc2 := 32) (ci := 0) (fk := 1) D1_29 rfl fT_0_15 rfl, aw_alen (pc2 := 33) D1_32 rfl, aw_icmp_ge (pc2 := 36) (t := 49) D1_33 (by decide) rfl, aw_aload_0 (pc2 := 37) D1_36 rfl, aw_getR (pc2 := 40) (ci := 0) (fk := 1) D1_37 rfl fT_0_15 rfl, aw_iload_2 (pc2 := 41) D1_40 rfl, aw_iconst (pc2 := 42) (y := 1) D1_41 rfl (by decide), aw_iastore (pc2 := 43) D1_42 rfl, aw_iinc_2 (pc2 := 46) (y := 1) D1_43 rfl (by decide), aw_goto (t := 27) D1_46 (by decide), aw_vret D1_49 rfl, h1, h2, h3, refV_s, lOK_1, and_self, true_and]
      rw [if_pos (show Int32.ofNat 24 ≤ nI 24 by decide)]
    | succ n ih =>
      intro i hi
      rw [aw_iload_2 (pc2 := 28) D1_27 rfl]
      simp only [aw_aload_0 (pc2 := 1) D1_0 rfl, aw_iload_1 (pc2 := 2) D1_1 rfl, aw_putI (pc2 := 5) (ci := 0) (fk := 4) D1_2 rfl fT_0_32 rfl, aw_aload_0 (pc2 := 6) D1_5 rfl, aw_iconst (pc2 := 7) (y := 0) D1_6 rfl (by decide), aw_putI (pc2 := 10) (ci := 0) (fk := 5) D1_7 rfl fT_0_36 rfl, aw_aload_0 (pc2 := 11) D1_10 rfl, aw_iconst (pc2 := 12) (y := 0) D1_11 rfl (by decide), aw_putI (pc2 := 15) (ci := 0) (fk := 6) D1_12 rfl fT_0_39 rfl, aw_aload_0 (pc2 := 16) D1_15 rfl, aw_iconst (pc2 := 17) (y := 0) D1_16 rfl (by decide), aw_putI (pc2 := 20) (ci := 0) (fk := 7) D1_17 rfl fT_0_42 rfl, aw_aload_0 (pc2 := 21) D1_20 rfl, aw_iconst (pc2 := 22) (y := 0) D1_21 rfl (by decide), aw_putZ (pc2 := 25) (ci := 0) (fk := 8) D1_22 rfl fT_0_45 rfl, aw_iconst (pc2 := 26) (y := 0) D1_25 rfl (by decide), aw_istore_2 (pc2 := 27) D1_26 rfl, aw_aload_0 (pc2 := 29) D1_28 rfl, aw_getR (pc2 := 32) (ci := 0) (fk := 1) D1_29 rfl fT_0_15 rfl, aw_alen (pc2 := 33) D1_32 rfl, aw_icmp_ge (pc2 := 36) (t := 49) D1_33 (by decide) rfl, aw_aload_0 (pc2 := 37) D1_36 rfl, aw_getR (pc2 := 40) (ci := 0) (fk := 1) D1_37 rfl fT_0_15 rfl, aw_iload_2 (pc2 := 41) D1_40 rfl, aw_iconst (pc2 := 42) (y := 1) D1_41 rfl (by decide), aw_iastore (pc2 := 43) D1_42 rfl, aw_iinc_2 (pc2 := 46) (y := 1) D1_43 rfl (by decide), aw_goto (t := 27) D1_46 (by decide), aw_vret D1_49 rfl, h1, h2, h3, refV_s, lOK_1, wOK_e, kil_i, and_self, true_and, nI_1, nI_clamp (show i < 2 ^ 31 by omega), fil_s]
      rw [if_neg (show ¬ Int32.ofNat 24 ≤ nI i from nI_ge (b := 24) (by omega) (by decide)), ih (i + 1) (by omega)]
      exact ⟨fun h => h.2, fun h => ⟨vp_in_nI (by omega) (by decide), h⟩⟩
  have := key 24 0 rfl
  rw [fil_0] at this
  exact this
end Book
