/-! TO COMPILE, as a function -/
def addU (acc : List Nat) (c : Nat) : List Nat := if c ∈ acc then acc else acc ++ [c]
def tk1 (s : Nat) (acc : List Nat) (c : Nat) : List Nat := if c &&& s = 0 then addU acc (nclr c (denN s)) else acc
/-- a list with a sign taken (0: none), what is alike once -/
def tkS (s : Nat) (l : List Nat) : List Nat := l.foldl (tk1 s) []
def lone (l : List Nat) : Option Nat := l.find? (fun c => decide (pc24 c = 1))
def sim : Nat → List Nat → List Nat → Option (List Nat × List Nat)
  | 0, _, _ => none
  | n + 1, l, t => if 0 ∈ l then none else (match lone l with
    | none => some (l, t)
    | some s => sim n (tkS s l) (t ++ [s]))
/-- letters of a list -/
def ltU (l : List Nat) : Nat := l.foldl (fun a c => a ||| ltN c) 0
def lc (l : List Nat) : Nat := fb_ct (fun i => (ltU l).testBit i) 12
def cloD (l : List Nat) (L : Nat) : Prop := ∀ c, c ∈ l → (∃ i, (ltN c).testBit i = true ∧ L.testBit i = true) → ∀ i, (ltN c).testBit i = true → L.testBit i = true
def cloP (l : List Nat) (a i : Nat) : Prop := ∀ L, cloD l L → (∀ j, a.testBit j = true → L.testBit j = true) → L.testBit i = true
/-- does a clause share a letter with the piece that letters a begin -/
noncomputable def shr (l : List Nat) (a c : Nat) : Bool := @decide (∃ i, (ltN c).testBit i = true ∧ cloP l a i) (Classical.propDecidable _)
noncomputable def pcs : Nat → List Nat → List (List Nat)
  | 0, _ => []
  | _ + 1, [] => []
  | n + 1, c :: r => ((c :: r).filter (shr (c :: r) (ltN c))) :: pcs n ((c :: r).filter (fun d => !shr (c :: r) (ltN c) d))
def cntL (p : List Nat) (l : Nat) : Nat := fb_ct (fun j => (ltN (p.getD j 0)).testBit l) p.length
def chs (a : Nat) (p : List Nat) : Nat → Option Nat × Nat
  | 0 => (none, 0)
  | l + 1 => if a.testBit l = true ∧ (chs a p l).2 < cntL p l then (some l, cntL p l) else chs a p l
def chA (ak : Nat) (p : List Nat) : Nat := if ltU p &&& ak = 0 then ltU p else ltU p &&& ak
def chL (ak : Nat) (p : List Nat) : Nat := ((chs (chA ak p) p 12).1).getD 0
abbrev ST : Type := List (Nat × Int × List Nat) × Nat × (Nat → Option Nat) × List (List Nat × Nat)
def comes (x : Nat × Int × List Nat) (S : ST) : Option (Nat × ST) := if S.1.length = 1500 then none else some (S.1.length, (S.1 ++ [x], S.2))
def sgOf (p : Nat) : Int := if p < 12 then (p : Int) + 1 else 11 - (p : Int)
def litP (s : Nat) (S : ST) : Option (Nat × ST) := match S.2.2.1 (Nat.log2 s) with
  | some n => some (n, S)
  | none => match comes (2, sgOf (Nat.log2 s), []) S with
    | none => none
    | some (n, S1) => some (n, (S1.1, S1.2.1, up1 S1.2.2.1 (Nat.log2 s) (some n), S1.2.2.2))
def litAll : List Nat → ST → Option (List Nat × ST)
  | [], S => some ([], S)
  | s :: t, S => match litP s S with
    | none => none
    | some (n, S1) => match litAll t S1 with
      | none => none
      | some (ns, S2) => some (n :: ns, S2)
def endL (ps : List Nat) (S : ST) : Option (Nat × ST) := match ps with
  | [] => some (0, S)
  | [x] => some (x, S)
  | x :: y :: r => comes (3, 0, x :: y :: r) S
def nodeL (t nds : List Nat) (S : ST) : Option (Nat × ST) := match litAll t S with
  | none => none
  | some (ls, S1) => endL (ls ++ nds) S1
def metL (m : List (List Nat × Nat)) (p : List Nat) : Option Nat := match m.find? (fun x => decide (x.1 = p)) with
  | none => none
  | some x => some x.2
def chc (l y z : Nat) (S : ST) : Option (Nat × ST) := if y = 1 ∧ z = 1 then some (1, S) else comes (4, (l : Int) + 1, [y, z]) S
def mkP (ak : Nat) (rec : List Nat → ST → Option (Nat × ST)) (p : List Nat) (S : ST) : Option (Nat × ST) := match metL S.2.2.2 p with
  | some n => some (n, (S.1, S.2.1 + 1, S.2.2))
  | none => match rec (tkS (2 ^ chL ak p) p) S with
    | none => none
    | some (y, S1) => match rec (tkS (2 ^ (12 + chL ak p)) p) S1 with
      | none => none
      | some (z, S2) => match chc (chL ak p) y z S2 with
        | none => none
        | some (n, S3) => some (n, (S3.1, S3.2.1, S3.2.2.1, S3.2.2.2 ++ [(p, n)]))
def mkPs (f : List Nat → ST → Option (Nat × ST)) : List (List Nat) → List Nat → ST → Option (Option (List Nat) × ST)
  | [], a, S => some (some a, S)
  | p :: ps, a, S => match f p S with
    | none => none
    | some (n, S1) => if n = 1 then some (none, S1) else mkPs f ps (a ++ [n]) S1
noncomputable def mkL (ak : Nat) : Nat → List Nat → ST → Option (Nat × ST)
  | 0, _, _ => none
  | f + 1, l, S => match sim 13 l [] with
    | none => some (1, S)
    | some (l', t) => match mkPs (mkP ak (mkL ak f)) (pcs l'.length l') [] S with
      | none => none
      | some (none, S1) => some (1, S1)
      | some (some nds, S1) => nodeL t nds S1
def ST0 : ST := ([(0, 0, []), (1, 0, [])], 0, fun _ => none, [])
noncomputable def oCompile (σ : SG) (x : Int32) : Value × SG := match bkOf x with
  | none => (.int (-3), refS σ 3)
  | some b => match mkL (σ.1 b).ak 13 (tkS 0 (σ.1 b).cl) ST0 with
    | none => (.int (-9), refS (setB σ b ((σ.1 b).N, (σ.1 b).cl, (σ.1 b).ak, (σ.1 b).fx, (σ.1 b).wt, none)) 9)
    | some (n, S) => (.int (nI S.1.length), setB σ b ((σ.1 b).N, (σ.1 b).cl, (σ.1 b).ak, (σ.1 b).fx, (σ.1 b).wt, some (S.1, n, S.2.1)))
/-- a clause that may lie in a list -/
def clC (c : Nat) : Prop := lowN 12 c
def lsOK (l : List Nat) : Prop := l.length ≤ 40 ∧ ∀ c, c ∈ l → clC c
theorem clC_lt {c : Nat} (h : clC c) : c < 2 ^ 24 := h.1
theorem clC_sub {c e : Nat} (h : clC c) : clC (nclr c e) := by
  refine ⟨Nat.lt_of_lt_of_le ?_ (Nat.le_refl _), fun l hl => ?_⟩
  · refine Nat.lt_pow_two_of_testBit _ (fun i hi => ?_)
    rw [nclr_bit, Nat.testBit_lt_two_pow (Nat.lt_of_lt_of_le h.1 (Nat.pow_le_pow_right (by decide) hi)), Bool.false_and]
  · obtain ⟨h1, h2, h3⟩ := h.2 l hl
    rw [nclr_bit, nclr_bit]
    refine ⟨fun q => h1 ?_, fun q => h2 ?_, fun q => h3 ⟨?_, ?_⟩⟩
    · exact (Bool.and_eq_true_iff.mp q).1
    · exact (Bool.and_eq_true_iff.mp q).1
    · exact (Bool.and_eq_true_iff.mp q.1).1
    · exact (Bool.and_eq_true_iff.mp q.2).1
theorem addU_len (acc : List Nat) (c : Nat) : (addU acc c).length ≤ acc.length + 1 := by
  unfold addU
  split
  · omega
  · rw [List.length_append]; simp
theorem tk1_len (s : Nat) (acc : List Nat) (c : Nat) : (tk1 s acc c).length ≤ acc.length + 1 := by
  unfold tk1
  split
  · exact addU_len _ _
  · omega
theorem addU_mem {acc : List Nat} {c x : Nat} : x ∈ addU acc c ↔ x ∈ acc ∨ x = c := by
  unfold addU
  split
  · rename_i h
    exact ⟨Or.inl, fun q => q.elim id (fun q => q ▸ h)⟩
  · rw [List.mem_append, List.mem_singleton]
theorem tk_fold_len (s : Nat) : ∀ (l acc : List Nat), (l.foldl (tk1 s) acc).length ≤ acc.length + l.length
  | [], acc => Nat.le_refl _
  | c :: l, acc => by
    rw [List.foldl_cons]
    have h1 := tk_fold_len s l (tk1 s acc c)
    have h2 := tk1_len s acc c
    rw [List.length_cons]
    omega
theorem tk_len (s : Nat) (l : List Nat) : (tkS s l).length ≤ l.length := by
  have := tk_fold_len s l []
  rw [List.length_nil] at this
  unfold tkS
  omega
theorem tk_fold_mem (s x : Nat) : ∀ (l acc : List Nat), x ∈ l.foldl (tk1 s) acc ↔ x ∈ acc ∨ ∃ c, c ∈ l ∧ c &&& s = 0 ∧ x = nclr c (denN s)
  | [], acc => by simp
  | c :: l, acc => by
    rw [List.foldl_cons, tk_fold_mem s x l]
    constructor
    · rintro (h | ⟨d, h1, h2, h3⟩)
      · unfold tk1 at h
        split at h
        · rename_i hz
          rcases addU_mem.mp h with h | h
          · exact Or.inl h
          · exact Or.inr ⟨c, List.mem_cons_self .., hz, h⟩
        · exact Or.inl h
      · exact Or.inr ⟨d, List.mem_cons_of_mem _ h1, h2, h3⟩
    · rintro (h | ⟨d, h1, h2, h3⟩)
      · refine Or.inl ?_
        unfold tk1
        split
        · exact addU_mem.mpr (Or.inl h)
        · exact h
      · rcases List.mem_cons.mp h1 with h1 | h1
        · subst h1
          refine Or.inl ?_
          unfold tk1
          rw [if_pos h2]
          exact addU_mem.mpr (Or.inr h3)
        · exact Or.inr ⟨d, h1, h2, h3⟩
theorem tk_mem {s x : Nat} {l : List Nat} : x ∈ tkS s l ↔ ∃ c, c ∈ l ∧ c &&& s = 0 ∧ x = nclr c (denN s) := by
  unfold tkS
  rw [tk_fold_mem]
  simp
theorem tk_ok {s : Nat} {l : List Nat} (h : lsOK l) : lsOK (tkS s l) := by
  refine ⟨Nat.le_trans (tk_len s l) h.1, fun x hx => ?_⟩
  obtain ⟨c, h1, -, h3⟩ := tk_mem.mp hx
  rw [h3]
  exact clC_sub (h.2 c h1)
theorem fold_take_succ (s : Nat) {l : List Nat} {i : Nat} (hi : i < l.length) : (l.take (i + 1)).foldl (tk1 s) [] = tk1 s ((l.take i).foldl (tk1 s) []) (l.getD i 0) := by
  rw [List.take_succ, List.getElem?_eq_getElem hi, List.foldl_append, List.getD_eq_getElem?_getD, List.getElem?_eq_getElem hi]
  rfl
/-- a list lies in a cell, from a place on -/
def lsA (c a : Nat) (l : List Nat) (I : IT) : Prop := ∀ i, i < l.length → I c (a + i) = nI (l.getD i 0)
theorem denC_ok : ∀ p, p < 24 → denC (nI (2 ^ p)) = nI (denN (2 ^ p)) ∧ denN (2 ^ p) < 2 ^ 24 := by decide
theorem denC_0 : denC 0 = nI (denN 0) := by decide
