/-! the mathematical state: books, THE ROW, refusals, guilty -/
abbrev GR : Type := List (Nat × Int × List Nat) × Nat × Nat
abbrev BK : Type := Nat × List Nat × Nat × Nat × (Nat → Nat) × Option GR
abbrev SG : Type := (Nat → BK) × Option (List Int) × (Nat → Int32) × Int32
abbrev BK.N (b : BK) : Nat := b.1
abbrev BK.cl (b : BK) : List Nat := b.2.1
abbrev BK.ak (b : BK) : Nat := b.2.2.1
abbrev BK.fx (b : BK) : Nat := b.2.2.2.1
abbrev BK.wt (b : BK) : Nat → Nat := b.2.2.2.2.1
abbrev BK.g (b : BK) : Option GR := b.2.2.2.2.2
def iI (s : Int) : Int32 := Int32.ofInt s
/-- letters of a set of signs, as bits -/
def ltN (c : Nat) : Nat := (c ||| c / 4096) % 4096
def lowN (N c : Nat) : Prop := c < 2 ^ 24 ∧ ∀ l, l < 12 → (c.testBit l = true → l < N) ∧ (c.testBit (12 + l) = true → l < N) ∧ ¬ (c.testBit l = true ∧ c.testBit (12 + l) = true)
def clOK (N c : Nat) : Prop := lowN N c ∧ c ≠ 0 ∧ pc24 c ≤ 5
def ndOK (N i : Nat) (x : Nat × Int × List Nat) : Prop := (∀ p ∈ x.2.2, p < i) ∧ ((x.1 ≤ 1 ∧ x.2.1 = 0 ∧ x.2.2 = []) ∨ (x.1 = 2 ∧ x.2.1 ≠ 0 ∧ -(N : Int) ≤ x.2.1 ∧ x.2.1 ≤ N ∧ x.2.2 = []) ∨ (x.1 = 3 ∧ x.2.1 = 0 ∧ 2 ≤ x.2.2.length ∧ x.2.2.length ≤ 12) ∨ (x.1 = 4 ∧ 1 ≤ x.2.1 ∧ x.2.1 ≤ N ∧ x.2.2.length = 2))
def grOK (N : Nat) (g : GR) : Prop := 2 ≤ g.1.length ∧ g.1.length ≤ 1500 ∧ g.2.1 < g.1.length ∧ g.2.2 < 2 ^ 31 ∧ ∀ i x, g.1[i]? = some x → ndOK N i x
def bkOK (b : BK) : Prop := 1 ≤ b.N ∧ b.N ≤ 12 ∧ b.cl.length ≤ 40 ∧ (∀ c ∈ b.cl, clOK b.N c) ∧ b.ak < 2 ^ b.N ∧ lowN b.N b.fx ∧ (∀ p, b.wt p ≤ 7) ∧ ∀ g, b.g = some g → grOK b.N g
def sgOK (σ : SG) : Prop := (∀ b, b < 2 → bkOK (σ.1 b)) ∧ ∀ r, σ.2.1 = some r → r.length ≤ 5 ∧ ∀ s ∈ r, -12 ≤ s ∧ s ≤ 12 ∧ s ≠ 0
/-- bits of the place of a sign -/
def plN (s : Int) : Nat := if s ≤ 0 then (11 - s).toNat else (s - 1).toNat
def nodeAt (g : GR) (i : Nat) : Nat × Int × List Nat := g.1.getD i (0, 0, [])
/-- letters of nodes, by their numbers -/
def ltsTo (g : GR) : Nat → Nat → Nat
  | 0 => fun _ => 0
  | n + 1 => fun i => if i = n then ((nodeAt g n).2.2.foldl (fun a p => a ||| ltsTo g n p) (if (nodeAt g n).2.1 = 0 then 0 else ltN (2 ^ plN (nodeAt g n).2.1))) else ltsTo g n i
def lts (g : GR) (i : Nat) : Nat := ltsTo g (i + 1) i
/-- does a sign hold in a row of N letters -/
def hld (N : Nat) (s : Int) (r : Nat) : Bool := if 0 < s then r.testBit (N - s.toNat) else !r.testBit (N - (-s).toNat)
/-- what nodes say of a row, by their numbers -/
def sayTo (N : Nat) (g : GR) (r : Nat) : Nat → Nat → Bool
  | 0 => fun _ => false
  | n + 1 => fun i => if i = n then (match (nodeAt g n).1 with
    | 2 => hld N (nodeAt g n).2.1 r
    | 4 => if hld N (nodeAt g n).2.1 r then sayTo N g r n ((nodeAt g n).2.2.getD 0 0) else sayTo N g r n ((nodeAt g n).2.2.getD 1 0)
    | 1 => false
    | _ => (nodeAt g n).2.2.all (sayTo N g r n)) else sayTo N g r n i
def sayR (N : Nat) (g : GR) (r : Nat) : Bool := sayTo N g r (g.2.1 + 1) g.2.1
/-- the set of rows that a RowSet of the class holds: cell c, its words at c + 1 -/
def RSet (N : Nat) (c : Nat) (T : Nat → Bool) (I : IT) (J : JT) : Prop := I c 1 = nI N ∧ I c 2 = nI (2 ^ N) ∧ I c 3 = nI (max 1 (2 ^ N / 64)) ∧ ∀ r, r < 64 * max 1 (2 ^ N / 64) → (J (c + 1) (r / 64)).toBitVec.getLsbD (r % 64) = (decide (r < 2 ^ N) && T r)
/-- a graph in the class, of the book at cell B -/
def CG (B N : Nat) (g : GR) (I : IT) (J : JT) : Prop := I (B + 3) 8 = nI g.1.length ∧ I (B + 3) 9 = nI g.2.1 ∧ I (B + 3) 10 = nI g.2.2 ∧ (∀ i, i < g.1.length → I (B + 4) i = nI (nodeAt g i).1 ∧ I (B + 5) i = iI (nodeAt g i).2.1 ∧ I (B + 6) i = nI (nodeAt g i).2.2.length ∧ I (B + 7) i = nI (lts g i) ∧ ∀ j, j < (nodeAt g i).2.2.length → I (B + 8) (12 * i + j) = nI ((nodeAt g i).2.2.getD j 0)) ∧ (I (B + 3) 7 = 1 ∨ (I (B + 3) 7 = 0 ∧ RSet N (B + 10) (sayR N g) I J))
def CGo (B N : Nat) (g : Option GR) (I : IT) (J : JT) : Prop := match g with
  | none => I B 8 = 0
  | some g => I B 8 = 1 ∧ CG B N g I J
def CB (B : Nat) (b : BK) (I : IT) (J : JT) : Prop := I B 4 = nI b.N ∧ I B 5 = nI b.cl.length ∧ (∀ i, i < b.cl.length → I (B + 1) i = nI (b.cl.getD i 0)) ∧ I B 6 = nI b.ak ∧ I B 7 = nI b.fx ∧ (∀ p, p < 24 → I (B + 2) p = nI (b.wt p)) ∧ CGo B b.N b.g I J
def bkc (b : Nat) : Nat := 1 + 14 * b
def CInv (σ : SG) (I : IT) (J : JT) : Prop := (∀ b, b < 2 → CB (bkc b) (σ.1 b) I J) ∧ (match σ.2.1 with
  | none => I 0 8 = 0
  | some r => I 0 8 = 1 ∧ I 0 7 = nI r.length ∧ ∀ i, i < r.length → I 120 i = iI (r.getD i 0)) ∧ (∀ k, 2 ≤ k → k ≤ 9 → I 121 k = σ.2.2.1 k) ∧ I 0 9 = σ.2.2.2 ∧ ∀ j, J patC j = pat j
/-- where the parts of node i begin in the model -/
def poN (g : GR) (i : Nat) : Nat := fb_sm (fun k => (nodeAt g k).2.2.length) i
def MG (b N : Nat) (g : GR) (I : IT) : Prop := I 132 b = nI g.2.1 ∧ I 133 b = nI g.2.2 ∧ (∀ i, i < g.1.length → I 134 (1500 * b + i) = nI (nodeAt g i).1 ∧ I 135 (1500 * b + i) = iI (nodeAt g i).2.1 ∧ I 137 (1500 * b + i) = nI (nodeAt g i).2.2.length ∧ I 136 (1500 * b + i) = nI (40000 * b + poN g i) ∧ ∀ j, j < (nodeAt g i).2.2.length → I 138 (40000 * b + poN g i + j) = nI ((nodeAt g i).2.2.getD j 0)) ∧ (I 161 b = 0 ∨ (I 161 b = 1 ∧ ∀ r, r < 2 ^ N → I 159 (4096 * b + r) = if sayR N g r then 1 else 0))
def MGo (b N : Nat) (g : Option GR) (I : IT) : Prop := match g with
  | none => I 131 b = 0
  | some g => I 131 b = nI g.1.length ∧ MG b N g I
def MB (b : Nat) (k : BK) (I : IT) : Prop := I 123 b = nI k.N ∧ I 125 b = nI k.cl.length ∧ (∀ i, i < k.cl.length → I 124 (40 * b + i) = nI (k.cl.getD i 0)) ∧ I 126 b = nI k.ak ∧ I 127 b = nI (k.fx % 4096) ∧ I 128 b = nI (k.fx / 4096) ∧ (∀ p, p < 24 → I 129 (24 * b + p) = nI (k.wt p)) ∧ MGo b k.N k.g I
def MInv (σ : SG) (I : IT) : Prop := (∀ b, b < 2 → MB b (σ.1 b) I) ∧ (match σ.2.1 with
  | none => I 122 48 = -1
  | some r => I 122 48 = nI r.length ∧ ∀ i, i < r.length → I 163 i = iI (r.getD i 0)) ∧ (∀ k, 2 ≤ k → k ≤ 9 → I 130 k = σ.2.2.1 k) ∧ I 122 44 = σ.2.2.2
def FrC {α : Type} (f f' : Nat → Nat → α) : Prop := ∀ c, 122 ≤ c → f' c = f c
def FrM {α : Type} (f f' : Nat → Nat → α) : Prop := ∀ c, c < 122 ∨ 165 ≤ c → f' c = f c
theorem FrC.rf {α : Type} {f : Nat → Nat → α} : FrC f f := fun _ _ => rfl
theorem FrM.rf {α : Type} {f : Nat → Nat → α} : FrM f f := fun _ _ => rfl
theorem FrC.tr {α : Type} {f g h : Nat → Nat → α} (a : FrC f g) (b : FrC g h) : FrC f h := fun c hc => (b c hc).trans (a c hc)
theorem FrM.tr {α : Type} {f g h : Nat → Nat → α} (a : FrM f g) (b : FrM g h) : FrM f h := fun c hc => (b c hc).trans (a c hc)
theorem FrC.up {α : Type} {f : Nat → Nat → α} {c k : Nat} {v : α} (h : c < 122) : FrC f (up2 f c k v) := fun a ha => up2_off (by omega)
theorem FrM.up {α : Type} {f : Nat → Nat → α} {c k : Nat} {v : α} (h : 122 ≤ c ∧ c < 165) : FrM f (up2 f c k v) := fun a ha => up2_off (by omega)
theorem RSet.fr {N c : Nat} {T : Nat → Bool} {I I' : IT} {J J' : JT} (h : RSet N c T I J) (hI : I' c = I c) (hJ : J' (c + 1) = J (c + 1)) : RSet N c T I' J' := by
  unfold RSet at h ⊢
  rw [hI, hJ]
  exact h
theorem CG.fr {B N : Nat} {g : GR} {I I' : IT} {J J' : JT} (h : CG B N g I J) (hI : ∀ c, B ≤ c → c < B + 12 → I' c = I c) (hJ : ∀ c, B ≤ c → c < B + 12 → J' c = J c) : CG B N g I' J' := by
  obtain ⟨h1, h2, h3, h4, h5⟩ := h
  refine ⟨by rw [hI _ (by omega) (by omega)]; exact h1, by rw [hI _ (by omega) (by omega)]; exact h2, by rw [hI _ (by omega) (by omega)]; exact h3, fun i hi => ?_, ?_⟩
  · rw [hI _ (by omega) (by omega), hI _ (by omega) (by omega), hI _ (by omega) (by omega), hI _ (by omega) (by omega), hI _ (by omega) (by omega)]
    exact h4 i hi
  · rw [hI (B + 3) (by omega) (by omega)]
    rcases h5 with h5 | ⟨h5, h6⟩
    · exact Or.inl h5
    · exact Or.inr ⟨h5, h6.fr (hI _ (by omega) (by omega)) (hJ _ (by omega) (by omega))⟩
theorem CB.fr {B : Nat} {b : BK} {I I' : IT} {J J' : JT} (h : CB B b I J) (hI : ∀ c, B ≤ c → c < B + 12 → I' c = I c) (hJ : ∀ c, B ≤ c → c < B + 12 → J' c = J c) : CB B b I' J' := by
  obtain ⟨h1, h2, h3, h4, h5, h6, h7⟩ := h
  refine ⟨by rw [hI _ (by omega) (by omega)]; exact h1, by rw [hI _ (by omega) (by omega)]; exact h2, fun i hi => by rw [hI _ (by omega) (by omega)]; exact h3 i hi, by rw [hI _ (by omega) (by omega)]; exact h4, by rw [hI _ (by omega) (by omega)]; exact h5, fun p hp => by rw [hI _ (by omega) (by omega)]; exact h6 p hp, ?_⟩
  cases hg : b.g with
  | none => rw [hg] at h7; show I' B 8 = 0; rw [hI _ (by omega) (by omega)]; exact h7
  | some g => rw [hg] at h7; exact ⟨by rw [hI _ (by omega) (by omega)]; exact h7.1, h7.2.fr hI hJ⟩
theorem CInv.frM {σ : SG} {I I' : IT} {J J' : JT} (h : CInv σ I J) (hI : FrM I I') (hJ : FrM J J') : CInv σ I' J' := by
  obtain ⟨h1, h2, h3, h4, h5⟩ := h
  refine ⟨fun b hb => (h1 b hb).fr (fun c _ hc => hI c (by unfold bkc at hc; omega)) (fun c _ hc => hJ c (by unfold bkc at hc; omega)), ?_, fun k a b => by rw [hI 121 (by omega)]; exact h3 k a b, by rw [hI 0 (by omega)]; exact h4, fun j => by rw [hJ patC (by show 1000001 < 122 ∨ 165 ≤ 1000001; omega)]; exact h5 j⟩
  rw [hI 0 (by omega), hI 120 (by omega)]
  exact h2
theorem MInv.frC {σ : SG} {I I' : IT} (h : MInv σ I) (hI : FrC I I') : MInv σ I' := by
  unfold MInv MB MGo MG at h ⊢
  have e : ∀ c, 122 ≤ c → I' c = I c := hI
  simp only [e 122 (by omega), e 123 (by omega), e 124 (by omega), e 125 (by omega), e 126 (by omega), e 127 (by omega), e 128 (by omega), e 129 (by omega), e 130 (by omega), e 131 (by omega), e 132 (by omega), e 133 (by omega), e 134 (by omega), e 135 (by omega), e 136 (by omega), e 137 (by omega), e 138 (by omega), e 159 (by omega), e 161 (by omega), e 163 (by omega)]
  exact h
