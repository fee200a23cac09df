/-! the small machine: cells have numbers; G = (cells made, slots made, shapes, references), I = ints, J = longs -/
abbrev GT : Type := Nat × Nat × (Nat → Nat × Nat) × (Nat → Nat → Option Nat)
abbrev IT : Type := Nat → Nat → Int32
abbrev JT : Type := Nat → Nat → Int64
abbrev KT : Type := Option Value → GT → IT → JT → Prop
abbrev RES : Type := Option ((Nat × List Value × List Value × GT × IT × JT) ⊕ ((Option Value × GT × IT × JT) ⊕ (Nat × List Value × Nat × List Value × List Value)))
def rN (pc : Nat) (L st : List Value) (G : GT) (I : IT) (J : JT) : RES := some (.inl (pc, L, st, G, I, J))
def rR (r : Option Value) (G : GT) (I : IT) (J : JT) : RES := some (.inr (.inl (r, G, I, J)))
def rC (y : Nat) (as : List Value) (pc : Nat) (L st : List Value) : RES := some (.inr (.inr (y, as, pc, L, st)))
abbrev scrC : Nat := 1000000
abbrev patC : Nat := 1000001
abbrev nv : Value := .retAddr 0
def nth : List Value → Nat → Value
  | [], _ => nv
  | a :: _, 0 => a
  | _ :: l, k + 1 => nth l k
def kil (v : Value) : Value := match v with
  | .long _ => nv
  | .double _ => nv
  | w => w
/-- a place of one word is set; a long that reaches into it goes -/
def setL : List Value → Nat → Value → List Value
  | [], _, _ => []
  | _ :: l, 0, v => v :: l
  | a :: l, 1, v => kil a :: setL l 0 v
  | a :: l, k + 2, v => a :: setL l (k + 1) v
/-- a long is set, its second word goes -/
def setJ : List Value → Nat → Value → List Value
  | [], _, _ => []
  | [_], _, _ => []
  | _ :: _ :: l, 0, v => v :: nv :: l
  | a :: b :: l, 1, v => kil a :: setJ (b :: l) 0 v
  | a :: b :: l, k + 2, v => a :: setJ (b :: l) (k + 1) v
def up2 {α : Type} (f : Nat → Nat → α) (c k : Nat) (v : α) : Nat → Nat → α := fun a b => if a = c then (if b = k then v else f a b) else f a b
def up1 {α : Type} (f : Nat → α) (c : Nat) (v : α) : Nat → α := fun a => if a = c then v else f a
def refV (r : Option Nat) : Value := match r with
  | none => .null
  | some c => .ref c
def gate (p : Prop) [Decidable p] (r : RES) : RES := if p then r else none
def tgtOf (pc : Nat) (off : Int) : Option Nat := if 0 ≤ (pc : Int) + off then some ((pc : Int) + off).toNat else none
def goTo (t : Option Nat) (L st : List Value) (G : GT) (I : IT) (J : JT) : RES := match t with
  | some pc => rN pc L st G I J
  | none => none
def pop1 (st : List Value) (f : Int32 → List Value → RES) : RES := match st with
  | .int x :: r => f x r
  | _ => none
def pop2 (st : List Value) (f : Int32 → Int32 → List Value → RES) : RES := match st with
  | .int y :: .int x :: r => f x y r
  | _ => none
def popJ (st : List Value) (f : Int64 → List Value → RES) : RES := match st with
  | .long x :: r => f x r
  | _ => none
def popJJ (st : List Value) (f : Int64 → Int64 → List Value → RES) : RES := match st with
  | .long y :: .long x :: r => f x y r
  | _ => none
def popJI (st : List Value) (f : Int64 → Int32 → List Value → RES) : RES := match st with
  | .int y :: .long x :: r => f x y r
  | _ => none
def ldI (v : Value) (f : Int32 → RES) : RES := match v with
  | .int x => f x
  | _ => none
def ldJ (v : Value) (f : Int64 → RES) : RES := match v with
  | .long x => f x
  | _ => none
def ldA (v : Value) (f : Value → RES) : RES := match v with
  | .ref x => f (.ref x)
  | .null => f .null
  | _ => none
def cmpC (c : Jvm.ClassFile.Cond) (x y : Int32) : Bool := match c with
  | .eq => decide (x = y)
  | .ne => decide (¬ x = y)
  | .lt => decide (x < y)
  | .ge => decide (y ≤ x)
  | .gt => decide (y < x)
  | .le => decide (x ≤ y)
def catS (st : List Value) : Nat := (st.map fun v => v.category).sum
def lcm (x y : Int64) : Int32 := lg_cmp x y
