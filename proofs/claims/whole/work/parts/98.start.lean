/-! what the two constructors leave -/
abbrev OPS : Type := List (Nat × Nat × Nat × Nat)
def rnO (G : GT) : OPS → GT
  | [] => G
  | (k, a, b, v) :: l => match k with
    | 0 => newA (rnO G l) a b
    | 1 => newO (rnO G l) a
    | _ => putR (rnO G l) a b v
def slO : OPS → List (Nat × Nat)
  | [] => []
  | (k, a, b, _) :: l => match k with
    | 0 => (a, b) :: slO l
    | 1 => (0, a) :: slO l
    | _ => slO l
def szO : OPS → Nat
  | [] => 0
  | (k, a, b, _) :: l => match k with
    | 0 => szO l + b
    | 1 => szO l + nfs a
    | _ => szO l
def rlO : OPS → Nat → Nat → Option Nat
  | [], _, _ => none
  | (k, a, b, v) :: l, c, j => match k with
    | 0 => rlO l c j
    | 1 => rlO l c j
    | _ => bif Nat.beq c a && Nat.beq j b then some v else rlO l c j
theorem rl_put {a b v : Nat} {l : OPS} {c j : Nat} : (bif Nat.beq c a && Nat.beq j b then some v else rlO l c j) = if c = a ∧ j = b then some v else rlO l c j := by
  by_cases h : c = a ∧ j = b
  · rw [if_pos h, h.1, h.2, Nat.beq_refl, Nat.beq_refl]; rfl
  · rw [if_neg h]
    cases e1 : Nat.beq c a
    · rfl
    · cases e2 : Nat.beq j b
      · rfl
      · exact absurd ⟨Nat.eq_of_beq_eq_true e1, Nat.eq_of_beq_eq_true e2⟩ h
def okO : OPS → Bool
  | [] => true
  | (k, a, b, _) :: l => okO l && (match k with
    | 0 => true
    | 1 => true
    | _ => decide (a < (slO l).length) && decide (a < 165) && decide (b < 49))
theorem rl_no : ∀ {l : OPS} {c j : Nat}, okO l = true → ((slO l).length ≤ c ∨ 165 ≤ c ∨ 49 ≤ j) → rlO l c j = none
  | [], _, _, _, _ => rfl
  | (k, a, b, v) :: l, c, j, h, hc => by
    obtain ⟨h1, h2⟩ := Bool.and_eq_true_iff.mp h
    match k, h2, hc with
    | 0, h2, hc => exact rl_no (l := l) h1 (by
        have e : (slO ((0, a, b, v) :: l)).length = (slO l).length + 1 := rfl
        omega)
    | 1, h2, hc => exact rl_no (l := l) h1 (by
        have e : (slO ((1, a, b, v) :: l)).length = (slO l).length + 1 := rfl
        omega)
    | k + 2, h2, hc =>
      obtain ⟨h3, h4⟩ := Bool.and_eq_true_iff.mp h2
      obtain ⟨h5, h6⟩ := Bool.and_eq_true_iff.mp h3
      have h5 := of_decide_eq_true h5
      have h6 := of_decide_eq_true h6
      have h4 := of_decide_eq_true h4
      have e : (slO ((k + 2, a, b, v) :: l)).length = (slO l).length := rfl
      show (bif Nat.beq c a && Nat.beq j b then some v else rlO l c j) = none
      rw [rl_put, if_neg (by omega)]
      exact rl_no (l := l) h1 (by omega)
theorem rn_all {Ln : Nat} : ∀ (l : OPS), okO l = true → (rnO (G00 Ln) l).1 = (slO l).length ∧ (rnO (G00 Ln) l).2.1 = szO l ∧ (∀ c, (rnO (G00 Ln) l).2.2.1 c = if c < (slO l).length then (slO l).getD ((slO l).length - 1 - c) (9, 0) else (G00 Ln).2.2.1 c) ∧ ∀ c j, (rnO (G00 Ln) l).2.2.2 c j = rlO l c j
  | [], _ => ⟨rfl, rfl, fun c => (if_neg (Nat.not_lt_zero c)).symm, fun _ _ => rfl⟩
  | (k, a, b, v) :: l, h => by
    obtain ⟨h1, h2⟩ := Bool.and_eq_true_iff.mp h
    obtain ⟨e1, e2, e3, e4⟩ := rn_all (Ln := Ln) l h1
    have new : ∀ (z : Nat × Nat) c, up1 (rnO (G00 Ln) l).2.2.1 (rnO (G00 Ln) l).1 z c = if c < (slO l).length + 1 then (z :: slO l).getD ((slO l).length + 1 - 1 - c) (9, 0) else (G00 Ln).2.2.1 c := by
      intro z c
      rw [e1]
      by_cases hc : c = (slO l).length
      · rw [hc, up1_at, if_pos (by omega), show (slO l).length + 1 - 1 - (slO l).length = 0 by omega]
        rfl
      · rw [up1_off hc, e3]
        by_cases hlt : c < (slO l).length
        · rw [if_pos hlt, if_pos (by omega), show (slO l).length + 1 - 1 - c = ((slO l).length - 1 - c) + 1 by omega]
          rfl
        · rw [if_neg hlt, if_neg (by omega)]
    have ref : ∀ c j, up1 (rnO (G00 Ln) l).2.2.2 (rnO (G00 Ln) l).1 (fun _ => none) c j = rlO l c j := by
      intro c j
      rw [e1]
      by_cases hc : c = (slO l).length
      · rw [hc, up1_at, rl_no h1 (Or.inl (Nat.le_refl _))]
      · rw [up1_off hc, e4]
    match k, h2 with
    | 0, h2 => exact ⟨congrArg (· + 1) e1, congrArg (· + b) e2, new (a, b), ref⟩
    | 1, h2 => exact ⟨congrArg (· + 1) e1, congrArg (· + nfs a) e2, new (0, a), ref⟩
    | k + 2, h2 =>
      refine ⟨e1, e2, e3, fun c j => ?_⟩
      show up2 (rnO (G00 Ln) l).2.2.2 a b (some v) c j = (bif Nat.beq c a && Nat.beq j b then some v else rlO l c j)
      rw [rl_put, up2_ap, e4]
      by_cases hc : c = a
      · by_cases hj : j = b
        · rw [if_pos hc, if_pos hj, if_pos ⟨hc, hj⟩]
        · rw [if_pos hc, if_neg hj, if_neg (fun q => hj q.2)]
      · rw [if_neg hc, if_neg (fun q => hc q.1)]
def opsL : OPS := [(2, 122, 47, 164), (0, 1, 5, 0), (2, 122, 46, 163), (0, 1, 5, 0), (2, 122, 45, 162), (0, 3, 4096, 0), (2, 122, 43, 161), (0, 3, 2, 0), (2, 122, 42, 160), (0, 3, 1500, 0), (2, 122, 41, 159), (0, 3, 8192, 0), (2, 122, 40, 158), (0, 1, 1500, 0), (2, 122, 35, 157), (0, 1, 168000, 0), (2, 122, 34, 156), (0, 1, 4200, 0), (2, 122, 33, 155), (0, 1, 4200, 0), (2, 122, 32, 154), (0, 1, 4200, 0), (2, 122, 31, 153), (0, 1, 14, 0), (2, 122, 30, 152), (0, 1, 14, 0), (2, 122, 29, 151), (0, 1, 14, 0), (2, 122, 28, 150), (0, 1, 14, 0), (2, 122, 27, 149), (0, 1, 560, 0), (2, 122, 26, 148), (0, 1, 168, 0), (2, 122, 25, 147), (0, 1, 14, 0), (2, 122, 24, 146), (0, 1, 14, 0), (2, 122, 23, 145), (0, 1, 560, 0), (2, 122, 22, 144), (0, 1, 14, 0), (2, 122, 21, 143), (0, 1, 168, 0), (2, 122, 20, 142), (0, 1, 14, 0), (2, 122, 19, 141), (0, 1, 560, 0), (2, 122, 17, 140), (0, 1, 24, 0), (2, 122, 16, 139), (0, 1, 2, 0), (2, 122, 15, 138), (0, 1, 80000, 0), (2, 122, 14, 137), (0, 1, 3000, 0), (2, 122, 13, 136), (0, 1, 3000, 0), (2, 122, 12, 135), (0, 1, 3000, 0), (2, 122, 11, 134), (0, 1, 3000, 0), (2, 122, 10, 133), (0, 1, 2, 0), (2, 122, 9, 132), (0, 1, 2, 0), (2, 122, 8, 131), (0, 1, 2, 0), (2, 122, 7, 130), (0, 1, 10, 0), (2, 122, 6, 129), (0, 1, 48, 0), (2, 122, 5, 128), (0, 1, 2, 0), (2, 122, 4, 127), (0, 1, 2, 0), (2, 122, 3, 126), (0, 1, 2, 0), (2, 122, 2, 125), (0, 1, 2, 0), (2, 122, 1, 124), (0, 1, 80, 0), (2, 122, 0, 123), (0, 1, 2, 0), (1, 7, 0, 0), (2, 0, 6, 121), (0, 1, 10, 0), (2, 0, 5, 120), (0, 1, 5, 0), (2, 0, 4, 118), (2, 118, 0, 119), (0, 2, 64, 0), (1, 5, 0, 0), (2, 0, 3, 117), (0, 2, 4096, 0), (2, 0, 2, 29), (2, 30, 12, 111), (2, 111, 4, 116), (0, 1, 12, 0), (2, 111, 3, 115), (0, 1, 12, 0), (2, 111, 2, 114), (0, 1, 40, 0), (2, 111, 1, 113), (0, 1, 40, 0), (2, 111, 0, 112), (0, 1, 40, 0), (1, 2, 0, 0), (2, 30, 11, 105), (2, 105, 4, 110), (0, 1, 12, 0), (2, 105, 3, 109), (0, 1, 12, 0), (2, 105, 2, 108), (0, 1, 40, 0), (2, 105, 1, 107), (0, 1, 40, 0), (2, 105, 0, 106), (0, 1, 40, 0), (1, 2, 0, 0), (2, 30, 10, 99), (2, 99, 4, 104), (0, 1, 12, 0), (2, 99, 3, 103), (0, 1, 12, 0), (2, 99, 2, 102), (0, 1, 40, 0), (2, 99, 1, 101), (0, 1, 40, 0), (2, 99, 0, 100), (0, 1, 40, 0), (1, 2, 0, 0), (2, 30, 9, 93), (2, 93, 4, 98), (0, 1, 12, 0), (2, 93, 3, 97), (0, 1, 12, 0), (2, 93, 2, 96), (0, 1, 40, 0), (2, 93, 1, 95), (0, 1, 40, 0), (2, 93, 0, 94), (0, 1, 40, 0), (1, 2, 0, 0), (2, 30, 8, 87), (2, 87, 4, 92), (0, 1, 12, 0), (2, 87, 3, 91), (0, 1, 12, 0), (2, 87, 2, 90), (0, 1, 40, 0), (2, 87, 1, 89), (0, 1, 40, 0), (2, 87, 0, 88), (0, 1, 40, 0), (1, 2, 0, 0), (2, 30, 7, 81), (2, 81, 4, 86), (0, 1, 12, 0), (2, 81, 3, 85), (0, 1, 12, 0), (2, 81, 2, 84), (0, 1, 40, 0), (2, 81, 1, 83), (0, 1, 40, 0), (2, 81, 0, 82), (0, 1, 40, 0), (1, 2, 0, 0), (2, 30, 6, 75), (2, 75, 4, 80), (0, 1, 12, 0), (2, 75, 3, 79), (0, 1, 12, 0), (2, 75, 2, 78), (0, 1, 40, 0), (2, 75, 1, 77), (0, 1, 40, 0), (2, 75, 0, 76), (0, 1, 40, 0), (1, 2, 0, 0), (2, 30, 5, 69), (2, 69, 4, 74), (0, 1, 12, 0), (2, 69, 3, 73), (0, 1, 12, 0), (2, 69, 2, 72), (0, 1, 40, 0), (2, 69, 1, 71), (0, 1, 40, 0), (2, 69, 0, 70), (0, 1, 40, 0), (1, 2, 0, 0), (2, 30, 4, 63), (2, 63, 4, 68), (0, 1, 12, 0), (2, 63, 3, 67), (0, 1, 12, 0), (2, 63, 2, 66), (0, 1, 40, 0), (2, 63, 1, 65), (0, 1, 40, 0), (2, 63, 0, 64), (0, 1, 40, 0), (1, 2, 0, 0), (2, 30, 3, 57), (2, 57, 4, 62), (0, 1, 12, 0), (2, 57, 3, 61), (0, 1, 12, 0), (2, 57, 2, 60), (0, 1, 40, 0), (2, 57, 1, 59), (0, 1, 40, 0), (2, 57, 0, 58), (0, 1, 40, 0), (1, 2, 0, 0), (2, 30, 2, 51), (2, 51, 4, 56), (0, 1, 12, 0), (2, 51, 3, 55), (0, 1, 12, 0), (2, 51, 2, 54), (0, 1, 40, 0), (2, 51, 1, 53), (0, 1, 40, 0), (2, 51, 0, 52), (0, 1, 40, 0), (1, 2, 0, 0), (2, 30, 1, 45), (2, 45, 4, 50), (0, 1, 12, 0), (2, 45, 3, 49), (0, 1, 12, 0), (2, 45, 2, 48), (0, 1, 40, 0), (2, 45, 1, 47), (0, 1, 40, 0), (2, 45, 0, 46), (0, 1, 40, 0), (1, 2, 0, 0), (2, 30, 0, 39), (2, 39, 4, 44), (0, 1, 12, 0), (2, 39, 3, 43), (0, 1, 12, 0), (2, 39, 2, 42), (0, 1, 40, 0), (2, 39, 1, 41), (0, 1, 40, 0), (2, 39, 0, 40), (0, 1, 40, 0), (1, 2, 0, 0), (2, 29, 2, 38), (0, 1, 24, 0), (2, 29, 1, 31), (2, 31, 5, 37), (0, 1, 256, 0), (2, 31, 4, 36), (0, 1, 2047, 0), (2, 31, 3, 35), (0, 1, 2047, 0), (2, 31, 2, 34), (0, 1, 2047, 0), (2, 31, 1, 33), (0, 1, 2047, 0), (2, 31, 0, 32), (0, 1, 34776, 0), (1, 4, 0, 0), (2, 29, 0, 30), (0, 4, 13, 0), (1, 3, 0, 0), (2, 0, 1, 15), (2, 15, 3, 27), (2, 27, 0, 28), (0, 2, 64, 0), (1, 5, 0, 0), (2, 15, 2, 18), (2, 18, 6, 25), (2, 25, 0, 26), (0, 2, 64, 0), (1, 5, 0, 0), (2, 18, 5, 24), (0, 2, 1500, 0), (2, 18, 4, 23), (0, 1, 18000, 0), (2, 18, 3, 22), (0, 1, 1500, 0), (2, 18, 2, 21), (0, 1, 1500, 0), (2, 18, 1, 20), (0, 1, 1500, 0), (2, 18, 0, 19), (0, 1, 1500, 0), (1, 1, 0, 0), (2, 15, 1, 17), (0, 1, 24, 0), (2, 15, 0, 16), (0, 1, 40, 0), (1, 0, 0, 0), (2, 0, 0, 1), (2, 1, 3, 13), (2, 13, 0, 14), (0, 2, 64, 0), (1, 5, 0, 0), (2, 1, 2, 4), (2, 4, 6, 11), (2, 11, 0, 12), (0, 2, 64, 0), (1, 5, 0, 0), (2, 4, 5, 10), (0, 2, 1500, 0), (2, 4, 4, 9), (0, 1, 18000, 0), (2, 4, 3, 8), (0, 1, 1500, 0), (2, 4, 2, 7), (0, 1, 1500, 0), (2, 4, 1, 6), (0, 1, 1500, 0), (2, 4, 0, 5), (0, 1, 1500, 0), (1, 1, 0, 0), (2, 1, 1, 3), (0, 1, 24, 0), (2, 1, 0, 2), (0, 1, 40, 0), (1, 0, 0, 0), (1, 6, 0, 0)]
theorem ops_ok : okO opsL = true := by decide +kernel
theorem ops_sl : slO opsL = S0L.reverse := by decide +kernel
theorem ops_sz : szO opsL = 391146 := by decide +kernel
def oeq : Option Nat → Option Nat → Bool
  | none, none => true
  | some a, some b => Nat.beq a b
  | _, _ => false
theorem oeq_eq : ∀ {x y : Option Nat}, oeq x y = true → x = y
  | none, none, _ => rfl
  | some a, some b, h => congrArg some (Nat.eq_of_beq_eq_true h)
  | none, some _, h => by cases h
  | some _, none, h => by cases h
def fltO : OPS → Nat → OPS
  | [], _ => []
  | (k, a, b, v) :: l, c => match k with
    | 0 => fltO l c
    | 1 => fltO l c
    | _ => bif Nat.beq c a then (2, a, b, v) :: fltO l c else fltO l c
theorem flt_rl : ∀ (l : OPS) (c j : Nat), rlO (fltO l c) c j = rlO l c j
  | [], _, _ => rfl
  | (k, a, b, v) :: l, c, j => by
    match k with
    | 0 => exact flt_rl l c j
    | 1 => exact flt_rl l c j
    | k + 2 =>
      show rlO (bif Nat.beq c a then (2, a, b, v) :: fltO l c else fltO l c) c j = (bif Nat.beq c a && Nat.beq j b then some v else rlO l c j)
      cases e : Nat.beq c a
      · exact flt_rl l c j
      · show (bif Nat.beq c a && Nat.beq j b then some v else rlO (fltO l c) c j) = _
        rw [e, flt_rl l c j]
def chkR (c : Nat) (l : OPS) (r : List (Option Nat)) : Bool := (List.range 49).all (fun j => oeq (rlO l c j) (r.getD j none))
theorem ops_chk : (List.range 165).all (fun c => chkR c (fltO opsL c) (R0L.getD c [])) = true := by decide +kernel
theorem ops_rl (c : Nat) (hc : c < 165) (j : Nat) (hj : j < 49) : rlO opsL c j = R0 c j := by
  have h := List.all_eq_true.mp ops_chk c (List.mem_range.mpr hc)
  have h2 := List.all_eq_true.mp h j (List.mem_range.mpr hj)
  have h3 := oeq_eq h2
  rw [flt_rl] at h3
  exact h3
theorem getD_out {α : Type} {l : List α} {i : Nat} {d : α} (h : l.length ≤ i) : l.getD i d = d := by
  rw [List.getD_eq_getElem?_getD, List.getElem?_eq_none h]; rfl
theorem S0_len : S0L.length = 165 := by decide +kernel
theorem R0_lens : R0L.length = 165 ∧ ∀ c, c < 165 → (R0L.getD c []).length ≤ 49 := by decide +kernel
theorem ops_G (Ln : Nat) : rnO (G00 Ln) opsL = G0 Ln := by
  obtain ⟨e1, e2, e3, e4⟩ := rn_all (Ln := Ln) opsL ops_ok
  have hl : (slO opsL).length = 165 := by rw [ops_sl, List.length_reverse]; exact S0_len
  have a1 : (rnO (G00 Ln) opsL).1 = 165 := e1.trans hl
  have a2 : (rnO (G00 Ln) opsL).2.1 = 391146 := e2.trans ops_sz
  have a3 : (rnO (G00 Ln) opsL).2.2.1 = S0 Ln := by
    funext c
    rw [e3, hl, ops_sl]
    by_cases hc : c < 165
    · rw [if_pos hc]
      unfold S0
      rw [if_neg (by unfold scrC; omega), if_neg (by unfold patC; omega)]
      revert c
      decide +kernel
    · rw [if_neg hc]
      unfold S0 G00
      have hd : S0L.getD c (9, 0) = (9, 0) := getD_out (by rw [S0_len]; omega)
      rw [hd]
  have a4 : (rnO (G00 Ln) opsL).2.2.2 = R0 := by
    funext c j
    rw [e4]
    by_cases hc : c < 165 ∧ j < 49
    · exact ops_rl c hc.1 j hc.2
    · rw [rl_no ops_ok (by omega)]
      unfold R0
      by_cases hc2 : c < 165
      · have := R0_lens.2 c hc2
        rw [getD_out (l := R0L.getD c []) (by omega)]
      · rw [getD_out (l := R0L) (by have := R0_lens.1; omega)]
        rfl
  exact Prod.ext a1 (Prod.ext a2 (Prod.ext a3 a4))
set_option maxRecDepth 20000 in
theorem geo_G (Ln : Nat) : gM42 (newO (gWal (newO (G00 Ln) 6) 0) 7) 122 = G0 Ln := by
  rw [← ops_G]
  rfl
