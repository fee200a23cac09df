/-! rows for simp with omega as its discharger -/
theorem au_in {n N : Nat} (h : n < N) (hN : N < 2 ^ 31) : vp_in (nI n) N ↔ True := ⟨fun _ => trivial, fun _ => vp_in_nI h hN⟩
theorem au_leT {a b : Nat} (h : a ≤ b) : (a ≤ b) = True := eq_true h
theorem au_leF {a b : Nat} (h : b < a) : (a ≤ b) = False := eq_false (by omega)
theorem au_ltT {a b : Nat} (h : a < b) : (a < b) = True := eq_true h
theorem au_ltF {a b : Nat} (h : b ≤ a) : (a < b) = False := eq_false (by omega)
theorem au_eqT {a b : Nat} (h : a = b) : (a = b) = True := eq_true h
theorem au_eqF {a b : Nat} (h : a ≠ b) : (a = b) = False := eq_false h
theorem au_le {a b : Nat} (ha : a < 2 ^ 31) (hb : b < 2 ^ 31) : (nI a ≤ nI b) = (a ≤ b) := propext (nI_leI ha hb)
theorem au_lt {a b : Nat} (ha : a < 2 ^ 31) (hb : b < 2 ^ 31) : (nI a < nI b) = (a < b) := propext (nI_ltI ha hb)
theorem au_eq {a b : Nat} (ha : a < 2 ^ 31) (hb : b < 2 ^ 31) : (nI a = nI b) = (a = b) := propext (nI_eq ha hb)
theorem au_lt0 {a : Nat} (ha : a < 2 ^ 31) : (nI a < 0) = False := eq_false (nI_pos ha)
theorem au_ge0 {a : Nat} (ha : a < 2 ^ 31) : (0 ≤ nI a) = True := eq_true (nI_pos' ha)
theorem au_le0 {a : Nat} (ha : a < 2 ^ 31) : (nI a ≤ 0) = (a = 0) := by
  rw [← nI_0, au_le ha (by decide)]; exact propext (by omega)
theorem au_gt0 {a : Nat} (ha : a < 2 ^ 31) : (0 < nI a) = (0 < a) := by
  rw [← nI_0, au_lt (by decide) ha]
theorem au_eq0 {a : Nat} (ha : a < 2 ^ 31) : (nI a = 0) = (a = 0) := propext (nI_zero ha)
theorem au_m1 {a : Nat} (ha : a < 2 ^ 31) : (nI a = -1) = False := by
  refine eq_false (fun h => ?_)
  have := congrArg Int32.toInt h
  rw [nI_toInt ha] at this
  have e : (-1 : Int32).toInt = -1 := by decide
  omega
theorem au_m1l {a : Nat} (ha : a < 2 ^ 31) : (nI a < -1) = False := by
  refine eq_false (fun h => ?_)
  rw [fa_lt, nI_toInt ha] at h
  have e : (-1 : Int32).toInt = -1 := by decide
  omega
theorem au_subc {a b : Nat} (h : b ≤ a) : nI a - nI b = nI (a - b) := pk_sub h
theorem au_sub1 {a : Nat} (h : 1 ≤ a) : nI a - 1 = nI (a - 1) := pk_sub (a := a) (b := 1) h
theorem au_up2 {α : Type} {f : Nat → Nat → α} {c k : Nat} {v : α} : up2 f c k v c k = v := by rw [up2_ap, if_pos rfl, if_pos rfl]
theorem au_up2k {α : Type} {f : Nat → Nat → α} {c k j : Nat} {v : α} (h : j ≠ k) : up2 f c k v c j = f c j := by rw [up2_ap, if_pos rfl, if_neg h]
theorem au_up2c {α : Type} {f : Nat → Nat → α} {c k a : Nat} {v : α} (h : a ≠ c) : up2 f c k v a = f a := up2_off h
theorem au_up2e {α : Type} {f : Nat → Nat → α} {c k a j : Nat} {v : α} (h : a = c ∧ j = k) : up2 f c k v a j = v := by rw [up2_ap, if_pos h.1, if_pos h.2]
theorem au_up2n {α : Type} {f : Nat → Nat → α} {c k a j : Nat} {v : α} (h : a ≠ c ∨ j ≠ k) : up2 f c k v a j = f a j := by
  rw [up2_ap]
  by_cases e : a = c
  · rw [if_pos e, if_neg (h.resolve_left (fun q => q e))]
  · rw [if_neg e]
theorem au_min {a b : Nat} (ha : a < 2 ^ 31) (hb : b < 2 ^ 31) : (if nI b < nI a then nI b else nI a) = nI (min a b) := by
  by_cases h : b < a
  · rw [if_pos (nI_lt h ha), Nat.min_eq_right (by omega)]
  · rw [if_neg (nI_nlt (by omega) hb), Nat.min_eq_left (by omega)]
theorem au_max {a b : Nat} (ha : a < 2 ^ 31) (hb : b < 2 ^ 31) : (if nI a < nI b then nI b else nI a) = nI (max a b) := by
  by_cases h : a < b
  · rw [if_pos (nI_lt h hb), Nat.max_eq_right (by omega)]
  · rw [if_neg (nI_nlt (by omega) ha), Nat.max_eq_left (by omega)]
theorem lit_2 : (2 : Int32) = nI 2 := rfl
theorem lit_3 : (3 : Int32) = nI 3 := rfl
theorem lit_4 : (4 : Int32) = nI 4 := rfl
theorem lit_5 : (5 : Int32) = nI 5 := rfl
theorem lit_6 : (6 : Int32) = nI 6 := rfl
theorem lit_7 : (7 : Int32) = nI 7 := rfl
theorem lit_8 : (8 : Int32) = nI 8 := rfl
theorem lit_10 : (10 : Int32) = nI 10 := rfl
theorem lit_11 : (11 : Int32) = nI 11 := rfl
theorem lit_12 : (12 : Int32) = nI 12 := rfl
theorem lit_13 : (13 : Int32) = nI 13 := rfl
theorem lit_14 : (14 : Int32) = nI 14 := rfl
theorem lit_24 : (24 : Int32) = nI 24 := rfl
theorem lit_31 : (31 : Int32) = nI 31 := rfl
theorem lit_40 : (40 : Int32) = nI 40 := rfl
theorem lit_63 : (63 : Int32) = nI 63 := rfl
theorem lit_64 : (64 : Int32) = nI 64 := rfl
theorem lit_200 : (200 : Int32) = nI 200 := rfl
theorem lit_255 : (255 : Int32) = nI 255 := rfl
theorem lit_1500 : (1500 : Int32) = nI 1500 := rfl
theorem lit_2047 : (2047 : Int32) = nI 2047 := rfl
theorem lit_4095 : (4095 : Int32) = nI 4095 := rfl
theorem lit_4096 : (4096 : Int32) = nI 4096 := rfl
theorem lit_34776 : (34776 : Int32) = nI 34776 := rfl
theorem lit_40000 : (40000 : Int32) = nI 40000 := rfl
theorem lit_of {n : Nat} : Int32.ofNat n = nI n := rfl
theorem shlI {n k : Nat} (hk : k < 32) (h : n * 2 ^ k < 2 ^ 32) : nI n <<< (nI k &&& 31) = nI (n * 2 ^ k) := by
  have h1 : ((nI k &&& 31).toBitVec.smod 32).toNat = k := by
    clear h; revert k; decide
  exact pk_shlN _ k h1 h
theorem shl1 {k : Nat} (hk : k < 31) : (1 : Int32) <<< (nI k &&& 31) = nI (2 ^ k) := by
  have h : 1 * 2 ^ k < 2 ^ 32 := by rw [Nat.one_mul]; exact Nat.pow_lt_pow_right (by decide) (by omega)
  have := shlI (n := 1) (k := k) (by omega) h
  rw [Nat.one_mul] at this
  exact this
theorem shrI {n k : Nat} (hn : n < 2 ^ 31) (hk : k < 32) : nI n >>> (nI k &&& 31) = nI (n / 2 ^ k) := by
  have h1 : ((nI k &&& 31).toBitVec.smod 32).toNat = k := by
    clear hn; revert k; decide
  exact pk_shrN hn _ k h1
theorem au_10 : ((1 : Int32) = 0) = False := eq_false (by decide)
theorem M_isBk {d b : Nat} {G : GT} {I : IT} {J : JT} {K : KT} (hb : b < 2) : ACall (d + 1) 126 [.int (nI b)] G I J K ↔ K (some (.int 1)) G I J := by
  rw [M_isBook, ifT (book01 hb)]
section Tsw
variable {d : Nat} {E : Nat × Nat} {K : KT} {k pc : Nat} {L st : List Value} {G : GT} {I : IT} {J : JT}
theorem aw_tsw_in {x : Int32} {dd lo hi : Int} {offs : Array Int} {len j t : Nat} {off : Int} (D : decode (byt k) pc = .ok (.tableswitch dd lo hi offs, len)) (hx : x.toInt = lo + j) (hj : lo + j ≤ hi) (ho : offs[j]? = some off) (ht : (pc : Int) + off = (t : Int)) : AW d E K k pc L (.int x :: st) G I J ↔ AW d E K k t L st G I J := by
  refine aw_go ((stp_eq D rfl).trans ?_)
  show (if x.toInt < lo ∨ hi < x.toInt then goTo (tgtOf pc dd) L st G I J else goTo (match offs[(x.toInt - lo).toNat]? with
    | some off => tgtOf pc off
    | none => none) L st G I J) = _
  rw [if_neg (by omega), show (x.toInt - lo).toNat = j by omega, ho]
  show goTo (tgtOf pc off) L st G I J = _
  rw [tgt_of ht]
  rfl
theorem aw_tsw_out {x : Int32} {dd lo hi : Int} {offs : Array Int} {len t : Nat} (D : decode (byt k) pc = .ok (.tableswitch dd lo hi offs, len)) (hx : x.toInt < lo ∨ hi < x.toInt) (ht : (pc : Int) + dd = (t : Int)) : AW d E K k pc L (.int x :: st) G I J ↔ AW d E K k t L st G I J := by
  refine aw_go ((stp_eq D rfl).trans ?_)
  show (if x.toInt < lo ∨ hi < x.toInt then goTo (tgtOf pc dd) L st G I J else goTo (match offs[(x.toInt - lo).toNat]? with
    | some off => tgtOf pc off
    | none => none) L st G I J) = _
  rw [if_pos hx, tgt_of ht]
  rfl
end Tsw
