def setB (σ : SG) (b : Nat) (k : BK) : SG := (up1 σ.1 b k, σ.2)
def bkOf (x : Int32) : Option Nat := if x = 0 then some 0 else if x = 1 then some 1 else none
def okS (N : Nat) (x : Int32) : Prop := ¬ x = 0 ∧ -(nI N) ≤ x ∧ x ≤ nI N
/-- a without the bits of b -/
def nclr (a b : Nat) : Nat := a ^^^ (a &&& b)
def bI (b : Bool) : Int32 := if b then 1 else 0
noncomputable def oLetters (σ : SG) (x n : Int32) : Value × SG := match bkOf x with
  | none => (.int (-3), refS σ 3)
  | some b => if 1 ≤ n ∧ n ≤ 12 then (.int (nI (σ.1 b).N), setB σ b (n.toNatClampNeg, [], 0, 0, fun _ => 1, none)) else (.int (-7), refS σ 7)
def oDrop (σ : SG) (x : Int32) : Value × SG := match bkOf x with
  | none => (.int (-3), refS σ 3)
  | some b => if (σ.1 b).cl = [] then (.int (-2), refS σ 2) else (.int (nI ((σ.1 b).cl.length - 1)), setB σ b ((σ.1 b).N, (σ.1 b).cl.dropLast, (σ.1 b).ak, (σ.1 b).fx, (σ.1 b).wt, none))
def oAsk (σ : SG) (x l : Int32) (is : Bool) : Value × SG := match bkOf x with
  | none => (.int (-3), refS σ 3)
  | some b => if 1 ≤ l ∧ l ≤ nI (σ.1 b).N then (.int (bI ((σ.1 b).ak.testBit (l.toInt.toNat - 1))), if (σ.1 b).ak.testBit (l.toInt.toNat - 1) = is then σ else setB σ b ((σ.1 b).N, (σ.1 b).cl, (σ.1 b).ak ^^^ 2 ^ (l.toInt.toNat - 1), (σ.1 b).fx, (σ.1 b).wt, none)) else (.int (-3), refS σ 3)
noncomputable def oFix (σ : SG) (x s : Int32) : Value × SG := match bkOf x with
  | none => (.int (-3), refS σ 3)
  | some b => @ite _ (okS (σ.1 b).N s) (Classical.propDecidable _) (if (σ.1 b).fx.testBit (plN s.toInt) then (.int 0, σ) else (.int (if (σ.1 b).fx.testBit (plN (-s.toInt)) then 2 else 1), setB σ b ((σ.1 b).N, (σ.1 b).cl, (σ.1 b).ak, nclr (σ.1 b).fx (2 ^ plN (-s.toInt)) ||| 2 ^ plN s.toInt, (σ.1 b).wt, (σ.1 b).g))) (.int (-3), refS σ 3)
def oLoose (σ : SG) (x l : Int32) : Value × SG := match bkOf x with
  | none => (.int (-3), refS σ 3)
  | some b => if 1 ≤ l ∧ l ≤ nI (σ.1 b).N then (.int (bI ((σ.1 b).fx.testBit (plN l.toInt) || (σ.1 b).fx.testBit (plN (-l.toInt)))), setB σ b ((σ.1 b).N, (σ.1 b).cl, (σ.1 b).ak, nclr (σ.1 b).fx (2 ^ plN l.toInt ||| 2 ^ plN (-l.toInt)), (σ.1 b).wt, (σ.1 b).g)) else (.int (-3), refS σ 3)
noncomputable def oWeight (σ : SG) (x s w : Int32) : Value × SG := match bkOf x with
  | none => (.int (-3), refS σ 3)
  | some b => @ite _ (okS (σ.1 b).N s) (Classical.propDecidable _) (if 0 ≤ w ∧ w ≤ 7 then (.int (nI ((σ.1 b).wt (plN s.toInt))), setB σ b ((σ.1 b).N, (σ.1 b).cl, (σ.1 b).ak, (σ.1 b).fx, up1 (σ.1 b).wt (plN s.toInt) w.toNatClampNeg, (σ.1 b).g)) else (.int (-7), refS σ 7)) (.int (-3), refS σ 3)
theorem bkOf_none {x : Int32} (h : bkOf x = none) : ¬ x = 0 ∧ ¬ x = 1 := by
  unfold bkOf at h
  split at h
  · cases h
  · split at h
    · cases h
    · rename_i a b; exact ⟨a, b⟩
theorem bkOf_some {x : Int32} {b : Nat} (h : bkOf x = some b) : b < 2 ∧ x = nI b := by
  unfold bkOf at h
  split at h
  · cases h; rename_i e; exact ⟨by omega, e⟩
  · split at h
    · cases h; rename_i e; exact ⟨by omega, e⟩
    · cases h
theorem sgn_all : ∀ n : Nat, n < 25 → n ≠ 12 → (plc (iI ((n : Int) - 12)) = nI (plN ((n : Int) - 12)) ∧ plN ((n : Int) - 12) < 24 ∧ bitC (iI ((n : Int) - 12)) = nI (2 ^ plN ((n : Int) - 12)) ∧ bitC (-(iI ((n : Int) - 12))) = nI (2 ^ plN (-((n : Int) - 12))) ∧ plN (-((n : Int) - 12)) < 24 ∧ bitM (iI ((n : Int) - 12)) = nI (2 ^ plN ((n : Int) - 12)) ∧ bitM (-(iI ((n : Int) - 12))) = nI (2 ^ plN (-((n : Int) - 12))) ∧ (-(iI ((n : Int) - 12))).toInt = -((n : Int) - 12) ∧ plN ((n : Int) - 12) ≠ plN (-((n : Int) - 12))) := by decide
theorem neg_nI {N : Nat} (h : N ≤ 12) : (-(nI N)).toInt = -(N : Int) := by
  have : ∀ n, n < 13 → (-(nI n)).toInt = -(n : Int) := by decide
  exact this N (by omega)
theorem okS_toInt {N : Nat} {x : Int32} (hN : N ≤ 12) : okS N x ↔ (x.toInt ≠ 0 ∧ -(N : Int) ≤ x.toInt ∧ x.toInt ≤ N) := by
  unfold okS
  rw [fa_le, fa_le, neg_nI hN, nI_toInt (by omega), fa_eq]
  exact Iff.rfl
theorem sgn {N : Nat} {x : Int32} (hN : N ≤ 12) (h : okS N x) : plc x = nI (plN x.toInt) ∧ plN x.toInt < 24 ∧ bitC x = nI (2 ^ plN x.toInt) ∧ bitC (-x) = nI (2 ^ plN (-x.toInt)) ∧ plN (-x.toInt) < 24 ∧ bitM x = nI (2 ^ plN x.toInt) ∧ bitM (-x) = nI (2 ^ plN (-x.toInt)) ∧ (-x).toInt = -x.toInt ∧ plN x.toInt ≠ plN (-x.toInt) := by
  obtain ⟨h0, h1, h2⟩ := (okS_toInt hN).mp h
  have hn := sgn_all (x.toInt + 12).toNat (by omega) (by omega)
  have e : (((x.toInt + 12).toNat : Nat) : Int) - 12 = x.toInt := by omega
  rw [e] at hn
  have ex : iI x.toInt = x := Int32.ofInt_toInt x
  rw [ex] at hn
  exact hn
theorem pl_pos {l : Int} (h1 : 1 ≤ l) : plN l = l.toNat - 1 := by
  unfold plN
  rw [if_neg (by omega)]
  omega
theorem letter_ok {N : Nat} {x : Int32} (hN : N ≤ 12) (h : 1 ≤ x ∧ x ≤ nI N) : okS N x ∧ 1 ≤ x.toInt ∧ x.toInt ≤ N := by
  have h1 := h.1; have h2 := h.2
  rw [fa_le] at h1 h2
  rw [nI_toInt (by omega)] at h2
  have h1 : 1 ≤ x.toInt := h1
  exact ⟨(okS_toInt hN).mpr ⟨by omega, by omega, by omega⟩, h1, h2⟩
theorem nclr_bit {a b i : Nat} : (nclr a b).testBit i = (a.testBit i && !b.testBit i) := by
  unfold nclr
  rw [Nat.testBit_xor, Nat.testBit_and]
  cases a.testBit i <;> cases b.testBit i <;> rfl
theorem nI_nclr {a b : Nat} : nI a &&& (nI b ^^^ (-1)) = nI (nclr a b) := by
  unfold nclr
  apply Int32.toBitVec_inj.mp
  show (BitVec.ofNat 32 a) &&& (BitVec.ofNat 32 b ^^^ (-1 : Int32).toBitVec) = BitVec.ofNat 32 (a ^^^ (a &&& b))
  have e : (-1 : Int32).toBitVec = BitVec.allOnes 32 := by decide
  rw [e]
  apply BitVec.eq_of_getLsbD_eq
  intro i hi
  simp only [BitVec.getLsbD_and, BitVec.getLsbD_xor, BitVec.getLsbD_allOnes, BitVec.getLsbD_ofNat, Nat.testBit_xor, Nat.testBit_and, hi, decide_true, Bool.true_and]
  cases a.testBit i <;> cases b.testBit i <;> rfl
theorem CInv.setB {σ : SG} {I I' : IT} {J : JT} {b : Nat} {k : BK} (h : CInv σ I J) (hb : b < 2) (hn : CB (bkc b) k I' J) (ho : ∀ c, c < bkc b ∨ bkc b + 12 ≤ c → I' c = I c) : CInv (setB σ b k) I' J := by
  obtain ⟨h1, h3, h4, h5, h6⟩ := h
  refine ⟨fun c hc => ?_, ?_, fun j a b' => by rw [ho 121 (by unfold bkc; omega)]; exact h4 j a b', by rw [ho 0 (by unfold bkc; omega)]; exact h5, h6⟩
  · show CB (bkc c) (up1 σ.1 b k c) I' J
    by_cases e : c = b
    · subst e; rw [up1_at]; exact hn
    · rw [up1_off e]
      exact (h1 c hc).fr (fun z z1 z2 => ho z (by unfold bkc at z1 z2 ⊢; omega)) (fun _ _ _ => rfl)
  · rw [ho 0 (by unfold bkc; omega), ho 120 (by unfold bkc; omega)]; exact h3
