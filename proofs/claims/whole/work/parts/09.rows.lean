section AwRows
variable {d : Nat} {E : Nat × Nat} {K : KT} {k pc pc2 : Nat} {L st : List Value} {G : GT} {I : IT} {J : JT}
theorem stp_eq {i : Instr} {len : Nat} (D : decode (byt k) pc = .ok (i, len)) (hl : lenOK i len = true) : stp k pc L st G I J E = ins1 k pc i L st G I J E := by
  unfold stp
  rw [D]
  show (if lenOK i len = true then _ else _) = _
  rw [if_pos hl]
theorem aw_go {L' st' : List Value} {G' : GT} {I' : IT} {J' : JT} (h : stp k pc L st G I J E = rN pc2 L' st' G' I' J') : AW d E K k pc L st G I J ↔ AW d E K k pc2 L' st' G' I' J' := by
  rw [AW_unfold, h]
  exact Iff.rfl
theorem aw_gt {p : Prop} {L' st' : List Value} {G' : GT} {I' : IT} {J' : JT} (h : stp k pc L st G I J E = gteP p (rN pc2 L' st' G' I' J')) : AW d E K k pc L st G I J ↔ p ∧ AW d E K k pc2 L' st' G' I' J' := by
  rw [AW_unfold, h, sP_gte]
  exact Iff.rfl
theorem aw_gs {p : Prop} {L' st' : List Value} {G' : GT} {I' : IT} {J' : JT} (h : stp k pc L st G I J E = gteP p (rN pc2 L' st' G' I' J')) (hp : p) : AW d E K k pc L st G I J ↔ AW d E K k pc2 L' st' G' I' J' := (aw_gt h).trans ⟨fun q => q.2, fun q => ⟨hp, q⟩⟩
theorem aw_gc {p : Prop} {y : Nat} {as L' st' : List Value} (h : stp k pc L st G I J E = gteP p (rC y as pc2 L' st')) : AW d E K k pc L st G I J ↔ p ∧ ACall d y as G I J (fun v G I J => AW d E K k pc2 L' (psh v st') G I J) := by
  rw [AW_unfold, h, sP_gte]
  exact Iff.rfl
theorem aw_gr {p : Prop} {v : Option Value} (h : stp k pc L st G I J E = gteP p (rR v G I J)) : AW d E K k pc L st G I J ↔ p ∧ K v G I J := by
  rw [AW_unfold, h, sP_gte]
  exact Iff.rfl
theorem aw_br {p : Prop} (i : Decidable p) {b : Bool} {t : Option Nat} {u u2 : Nat} {L' st' : List Value} (h : stp k pc L st G I J E = brTo t b u2 L' st' G I J) (hb : b = decide p) (ht : t = some u) : AW d E K k pc L st G I J ↔ if p then AW d E K k u L' st' G I J else AW d E K k u2 L' st' G I J := by
  subst hb; subst ht
  by_cases hp : p
  · rw [if_pos hp]
    refine aw_go (h.trans ?_)
    show rN (if decide p = true then u else u2) L' st' G I J = _
    rw [decide_eq_true hp, if_pos rfl]
  · rw [if_neg hp]
    refine aw_go (h.trans ?_)
    show rN (if decide p = true then u else u2) L' st' G I J = _
    rw [decide_eq_false hp, if_neg (by decide)]
theorem tgt_of {t : Nat} {off : Int} (h : (pc : Int) + off = (t : Int)) : tgtOf pc off = some t := by
  unfold tgtOf
  rw [if_pos (by omega), h]
  rfl
theorem aw_iload_0 {x : Int32} (D : decode (byt k) pc = .ok (.iload_n 0, 1)) (hp : pc + 1 = pc2) : AW d E K k pc (.int x :: L) st G I J ↔ AW d E K k pc2 (.int x :: L) (.int x :: st) G I J := by
  subst hp; exact aw_go ((stp_eq D rfl).trans rfl)
theorem aw_iload_1 {a0 : Value} {x : Int32} (D : decode (byt k) pc = .ok (.iload_n 1, 1)) (hp : pc + 1 = pc2) : AW d E K k pc (a0 :: .int x :: L) st G I J ↔ AW d E K k pc2 (a0 :: .int x :: L) (.int x :: st) G I J := by
  subst hp; exact aw_go ((stp_eq D rfl).trans rfl)
theorem aw_iload_2 {a0 a1 : Value} {x : Int32} (D : decode (byt k) pc = .ok (.iload_n 2, 1)) (hp : pc + 1 = pc2) : AW d E K k pc (a0 :: a1 :: .int x :: L) st G I J ↔ AW d E K k pc2 (a0 :: a1 :: .int x :: L) (.int x :: st) G I J := by
  subst hp; exact aw_go ((stp_eq D rfl).trans rfl)
theorem aw_iload_3 {a0 a1 a2 : Value} {x : Int32} (D : decode (byt k) pc = .ok (.iload_n 3, 1)) (hp : pc + 1 = pc2) : AW d E K k pc (a0 :: a1 :: a2 :: .int x :: L) st G I J ↔ AW d E K k pc2 (a0 :: a1 :: a2 :: .int x :: L) (.int x :: st) G I J := by
  subst hp; exact aw_go ((stp_eq D rfl).trans rfl)
theorem aw_iload_4 {a0 a1 a2 a3 : Value} {x : Int32} (D : decode (byt k) pc = .ok (.iload 4, 2)) (hp : pc + 2 = pc2) : AW d E K k pc (a0 :: a1 :: a2 :: a3 :: .int x :: L) st G I J ↔ AW d E K k pc2 (a0 :: a1 :: a2 :: a3 :: .int x :: L) (.int x :: st) G I J := by
  subst hp; exact aw_go ((stp_eq D rfl).trans rfl)
theorem aw_iload_5 {a0 a1 a2 a3 a4 : Value} {x : Int32} (D : decode (byt k) pc = .ok (.iload 5, 2)) (hp : pc + 2 = pc2) : AW d E K k pc (a0 :: a1 :: a2 :: a3 :: a4 :: .int x :: L) st G I J ↔ AW d E K k pc2 (a0 :: a1 :: a2 :: a3 :: a4 :: .int x :: L) (.int x :: st) G I J := by
  subst hp; exact aw_go ((stp_eq D rfl).trans rfl)
theorem aw_iload_6 {a0 a1 a2 a3 a4 a5 : Value} {x : Int32} (D : decode (byt k) pc = .ok (.iload 6, 2)) (hp : pc + 2 = pc2) : AW d E K k pc (a0 :: a1 :: a2 :: a3 :: a4 :: a5 :: .int x :: L) st G I J ↔ AW d E K k pc2 (a0 :: a1 :: a2 :: a3 :: a4 :: a5 :: .int x :: L) (.int x :: st) G I J := by
  subst hp; exact aw_go ((stp_eq D rfl).trans rfl)
theorem aw_iload_7 {a0 a1 a2 a3 a4 a5 a6 : Value} {x : Int32} (D : decode (byt k) pc = .ok (.iload 7, 2)) (hp : pc + 2 = pc2) : AW d E K k pc (a0 :: a1 :: a2 :: a3 :: a4 :: a5 :: a6 :: .int x :: L) st G I J ↔ AW d E K k pc2 (a0 :: a1 :: a2 :: a3 :: a4 :: a5 :: a6 :: .int x :: L) (.int x :: st) G I J := by
  subst hp; exact aw_go ((stp_eq D rfl).trans rfl)
theorem aw_iload_8 {a0 a1 a2 a3 a4 a5 a6 a7 : Value} {x : Int32} (D : decode (byt k) pc = .ok (.iload 8, 2)) (hp : pc + 2 = pc2) : AW d E K k pc (a0 :: a1 :: a2 :: a3 :: a4 :: a5 :: a6 :: a7 :: .int x :: L) st G I J ↔ AW d E K k pc2 (a0 :: a1 :: a2 :: a3 :: a4 :: a5 :: a6 :: a7 :: .int x :: L) (.int x :: st) G I J := by
  subst hp; exact aw_go ((stp_eq D rfl).trans rfl)
theorem aw_iload_9 {a0 a1 a2 a3 a4 a5 a6 a7 a8 : Value} {x : Int32} (D : decode (byt k) pc = .ok (.iload 9, 2)) (hp : pc + 2 = pc2) : AW d E K k pc (a0 :: a1 :: a2 :: a3 :: a4 :: a5 :: a6 :: a7 :: a8 :: .int x :: L) st G I J ↔ AW d E K k pc2 (a0 :: a1 :: a2 :: a3 :: a4 :: a5 :: a6 :: a7 :: a8 :: .int x :: L) (.int x :: st) G I J := by
  subst hp; exact aw_go ((stp_eq D rfl).trans rfl)
theorem aw_iload_10 {a0 a1 a2 a3 a4 a5 a6 a7 a8 a9 : Value} {x : Int32} (D : decode (byt k) pc = .ok (.iload 10, 2)) (hp : pc + 2 = pc2) : AW d E K k pc (a0 :: a1 :: a2 :: a3 :: a4 :: a5 :: a6 :: a7 :: a8 :: a9 :: .int x :: L) st G I J ↔ AW d E K k pc2 (a0 :: a1 :: a2 :: a3 :: a4 :: a5 :: a6 :: a7 :: a8 :: a9 :: .int x :: L) (.int x :: st) G I J := by
  subst hp; exact aw_go ((stp_eq D rfl).trans rfl)
theorem aw_iload_11 {a0 a1 a2 a3 a4 a5 a6 a7 a8 a9 a10 : Value} {x : Int32} (D : decode (byt k) pc = .ok (.iload 11, 2)) (hp : pc + 2 = pc2) : AW d E K k pc (a0 :: a1 :: a2 :: a3 :: a4 :: a5 :: a6 :: a7 :: a8 :: a9 :: a10 :: .int x :: L) st G I J ↔ AW d E K k pc2 (a0 :: a1 :: a2 :: a3 :: a4 :: a5 :: a6 :: a7 :: a8 :: a9 :: a10 :: .int x :: L) (.int x :: st) G I J := by
  subst hp; exact aw_go ((stp_eq D rfl).trans rfl)
theorem aw_iload_12 {a0 a1 a2 a3 a4 a5 a6 a7 a8 a9 a10 a11 : Value} {x : Int32} (D : decode (byt k) pc = .ok (.iload 12, 2)) (hp : pc + 2 = pc2) : AW d E K k pc (a0 :: a1 :: a2 :: a3 :: a4 :: a5 :: a6 :: a7 :: a8 :: a9 :: a10 :: a11 :: .int x :: L) st G I J ↔ AW d E K k pc2 (a0 :: a1 :: a2 :: a3 :: a4 :: a5 :: a6 :: a7 :: a8 :: a9 :: a10 :: a11 :: .int x :: L) (.int x :: st) G I J := by
  subst hp; exact aw_go ((stp_eq D rfl).trans rfl)
theorem aw_iload_13 {a0 a1 a2 a3 a4 a5 a6 a7 a8 a9 a10 a11 a12 : Value} {x : Int32} (D : decode (byt k) pc = .ok (.iload 13, 2)) (hp : pc + 2 = pc2) : AW d E K k pc (a0 :: a1 :: a2 :: a3 :: a4 :: a5 :: a6 :: a7 :: a8 :: a9 :: a10 :: a11 :: a12 :: .int x :: L) st G I J ↔ AW d E K k pc2 (a0 :: a1 :: a2 :: a3 :: a4 :: a5 :: a6 :: a7 :: a8 :: a9 :: a10 :: a11 :: a12 :: .int x :: L) (.int x :: st) G I J := by
  subst hp; exact aw_go ((stp_eq D rfl).trans rfl)
theorem aw_iload_14 {a0 a1 a2 a3 a4 a5 a6 a7 a8 a9 a10 a11 a12 a13 : Value} {x : Int32} (D : decode (byt k) pc = .ok (.iload 14, 2)) (hp : pc + 2 = pc2) : AW d E K k pc (a0 :: a1 :: a2 :: a3 :: a4 :: a5 :: a6 :: a7 :: a8 :: a9 :: a10 :: a11 :: a12 :: a13 :: .int x :: L) st G I J ↔ AW d E K k pc2 (a0 :: a1 :: a2 :: a3 :: a4 :: a5 :: a6 :: a7 :: a8 :: a9 :: a10 :: a11 :: a12 :: a13 :: .int x :: L) (.int x :: st) G I J := by
  subst hp; exact aw_go ((stp_eq D rfl).trans rfl)
theorem aw_iload_15 {a0 a1 a2 a3 a4 a5 a6 a7 a8 a9 a10 a11 a12 a13 a14 : Value} {x : Int32} (D : decode (byt k) pc = .ok (.iload 15, 2)) (hp : pc + 2 = pc2) : AW d E K k pc (a0 :: a1 :: a2 :: a3 :: a4 :: a5 :: a6 :: a7 :: a8 :: a9 :: a10 :: a11 :: a12 :: a13 :: a14 :: .int x :: L) st G I J ↔ AW d E K k pc2 (a0 :: a1 :: a2 :: a3 :: a4 :: a5 :: a6 :: a7 :: a8 :: a9 :: a10 :: a11 :: a12 :: a13 :: a14 :: .int x :: L) (.int x :: st) G I J := by
  subst hp; exact aw_go ((stp_eq D rfl).trans rfl)
theorem aw_lload_0 {x : Int64} (D : decode (byt k) pc = .ok (.lload_n 0, 1)) (hp : pc + 1 = pc2) : AW d E K k pc (.long x :: L) st G I J ↔ AW d E K k pc2 (.long x :: L) (.long x :: st) G I J := by
  subst hp; exact aw_go ((stp_eq D rfl).trans rfl)
theorem aw_lload_1 {a0 : Value} {x : Int64} (D : decode (byt k) pc = .ok (.lload_n 1, 1)) (hp : pc + 1 = pc2) : AW d E K k pc (a0 :: .long x :: L) st G I J ↔ AW d E K k pc2 (a0 :: .long x :: L) (.long x :: st) G I J := by
  subst hp; exact aw_go ((stp_eq D rfl).trans rfl)
theorem aw_lload_2 {a0 a1 : Value} {x : Int64} (D : decode (byt k) pc = .ok (.lload_n 2, 1)) (hp : pc + 1 = pc2) : AW d E K k pc (a0 :: a1 :: .long x :: L) st G I J ↔ AW d E K k pc2 (a0 :: a1 :: .long x :: L) (.long x :: st) G I J := by
  subst hp; exact aw_go ((stp_eq D rfl).trans rfl)
theorem aw_lload_3 {a0 a1 a2 : Value} {x : Int64} (D : decode (byt k) pc = .ok (.lload_n 3, 1)) (hp : pc + 1 = pc2) : AW d E K k pc (a0 :: a1 :: a2 :: .long x :: L) st G I J ↔ AW d E K k pc2 (a0 :: a1 :: a2 :: .long x :: L) (.long x :: st) G I J := by
  subst hp; exact aw_go ((stp_eq D rfl).trans rfl)
theorem aw_lload_4 {a0 a1 a2 a3 : Value} {x : Int64} (D : decode (byt k) pc = .ok (.lload 4, 2)) (hp : pc + 2 = pc2) : AW d E K k pc (a0 :: a1 :: a2 :: a3 :: .long x :: L) st G I J ↔ AW d E K k pc2 (a0 :: a1 :: a2 :: a3 :: .long x :: L) (.long x :: st) G I J := by
  subst hp; exact aw_go ((stp_eq D rfl).trans rfl)
theorem aw_lload_5 {a0 a1 a2 a3 a4 : Value} {x : Int64} (D : decode (byt k) pc = .ok (.lload 5, 2)) (hp : pc + 2 = pc2) : AW d E K k pc (a0 :: a1 :: a2 :: a3 :: a4 :: .long x :: L) st G I J ↔ AW d E K k pc2 (a0 :: a1 :: a2 :: a3 :: a4 :: .long x :: L) (.long x :: st) G I J := by
  subst hp; exact aw_go ((stp_eq D rfl).trans rfl)
theorem aw_lload_6 {a0 a1 a2 a3 a4 a5 : Value} {x : Int64} (D : decode (byt k) pc = .ok (.lload 6, 2)) (hp : pc + 2 = pc2) : AW d E K k pc (a0 :: a1 :: a2 :: a3 :: a4 :: a5 :: .long x :: L) st G I J ↔ AW d E K k pc2 (a0 :: a1 :: a2 :: a3 :: a4 :: a5 :: .long x :: L) (.long x :: st) G I J := by
  subst hp; exact aw_go ((stp_eq D rfl).trans rfl)
theorem aw_lload_7 {a0 a1 a2 a3 a4 a5 a6 : Value} {x : Int64} (D : decode (byt k) pc = .ok (.lload 7, 2)) (hp : pc + 2 = pc2) : AW d E K k pc (a0 :: a1 :: a2 :: a3 :: a4 :: a5 :: a6 :: .long x :: L) st G I J ↔ AW d E K k pc2 (a0 :: a1 :: a2 :: a3 :: a4 :: a5 :: a6 :: .long x :: L) (.long x :: st) G I J := by
  subst hp; exact aw_go ((stp_eq D rfl).trans rfl)
theorem aw_lload_8 {a0 a1 a2 a3 a4 a5 a6 a7 : Value} {x : Int64} (D : decode (byt k) pc = .ok (.lload 8, 2)) (hp : pc + 2 = pc2) : AW d E K k pc (a0 :: a1 :: a2 :: a3 :: a4 :: a5 :: a6 :: a7 :: .long x :: L) st G I J ↔ AW d E K k pc2 (a0 :: a1 :: a2 :: a3 :: a4 :: a5 :: a6 :: a7 :: .long x :: L) (.long x :: st) G I J := by
  subst hp; exact aw_go ((stp_eq D rfl).trans rfl)
theorem aw_lload_9 {a0 a1 a2 a3 a4 a5 a6 a7 a8 : Value} {x : Int64} (D : decode (byt k) pc = .ok (.lload 9, 2)) (hp : pc + 2 = pc2) : AW d E K k pc (a0 :: a1 :: a2 :: a3 :: a4 :: a5 :: a6 :: a7 :: a8 :: .long x :: L) st G I J ↔ AW d E K k pc2 (a0 :: a1 :: a2 :: a3 :: a4 :: a5 :: a6 :: a7 :: a8 :: .long x :: L) (.long x :: st) G I J := by
  subst hp; exact aw_go ((stp_eq D rfl).trans rfl)
theorem aw_lload_10 {a0 a1 a2 a3 a4 a5 a6 a7 a8 a9 : Value} {x : Int64} (D : decode (byt k) pc = .ok (.lload 10, 2)) (hp : pc + 2 = pc2) : AW d E K k pc (a0 :: a1 :: a2 :: a3 :: a4 :: a5 :: a6 :: a7 :: a8 :: a9 :: .long x :: L) st G I J ↔ AW d E K k pc2 (a0 :: a1 :: a2 :: a3 :: a4 :: a5 :: a6 :: a7 :: a8 :: a9 :: .long x :: L) (.long x :: st) G I J := by
  subst hp; exact aw_go ((stp_eq D rfl).trans rfl)
theorem aw_lload_11 {a0 a1 a2 a3 a4 a5 a6 a7 a8 a9 a10 : Value} {x : Int64} (D : decode (byt k) pc = .ok (.lload 11, 2)) (hp : pc + 2 = pc2) : AW d E K k pc (a0 :: a1 :: a2 :: a3 :: a4 :: a5 :: a6 :: a7 :: a8 :: a9 :: a10 :: .long x :: L) st G I J ↔ AW d E K k pc2 (a0 :: a1 :: a2 :: a3 :: a4 :: a5 :: a6 :: a7 :: a8 :: a9 :: a10 :: .long x :: L) (.long x :: st) G I J := by
  subst hp; exact aw_go ((stp_eq D rfl).trans rfl)
theorem aw_lload_12 {a0 a1 a2 a3 a4 a5 a6 a7 a8 a9 a10 a11 : Value} {x : Int64} (D : decode (byt k) pc = .ok (.lload 12, 2)) (hp : pc + 2 = pc2) : AW d E K k pc (a0 :: a1 :: a2 :: a3 :: a4 :: a5 :: a6 :: a7 :: a8 :: a9 :: a10 :: a11 :: .long x :: L) st G I J ↔ AW d E K k pc2 (a0 :: a1 :: a2 :: a3 :: a4 :: a5 :: a6 :: a7 :: a8 :: a9 :: a10 :: a11 :: .long x :: L) (.long x :: st) G I J := by
  subst hp; exact aw_go ((stp_eq D rfl).trans rfl)
theorem aw_lload_13 {a0 a1 a2 a3 a4 a5 a6 a7 a8 a9 a10 a11 a12 : Value} {x : Int64} (D : decode (byt k) pc = .ok (.lload 13, 2)) (hp : pc + 2 = pc2) : AW d E K k pc (a0 :: a1 :: a2 :: a3 :: a4 :: a5 :: a6 :: a7 :: a8 :: a9 :: a10 :: a11 :: a12 :: .long x :: L) st G I J ↔ AW d E K k pc2 (a0 :: a1 :: a2 :: a3 :: a4 :: a5 :: a6 :: a7 :: a8 :: a9 :: a10 :: a11 :: a12 :: .long x :: L) (.long x :: st) G I J := by
  subst hp; exact aw_go ((stp_eq D rfl).trans rfl)
theorem aw_lload_14 {a0 a1 a2 a3 a4 a5 a6 a7 a8 a9 a10 a11 a12 a13 : Value} {x : Int64} (D : decode (byt k) pc = .ok (.lload 14, 2)) (hp : pc + 2 = pc2) : AW d E K k pc (a0 :: a1 :: a2 :: a3 :: a4 :: a5 :: a6 :: a7 :: a8 :: a9 :: a10 :: a11 :: a12 :: a13 :: .long x :: L) st G I J ↔ AW d E K k pc2 (a0 :: a1 :: a2 :: a3 :: a4 :: a5 :: a6 :: a7 :: a8 :: a9 :: a10 :: a11 :: a12 :: a13 :: .long x :: L) (.long x :: st) G I J := by
  subst hp; exact aw_go ((stp_eq D rfl).trans rfl)
theorem aw_lload_15 {a0 a1 a2 a3 a4 a5 a6 a7 a8 a9 a10 a11 a12 a13 a14 : Value} {x : Int64} (D : decode (byt k) pc = .ok (.lload 15, 2)) (hp : pc + 2 = pc2) : AW d E K k pc (a0 :: a1 :: a2 :: a3 :: a4 :: a5 :: a6 :: a7 :: a8 :: a9 :: a10 :: a11 :: a12 :: a13 :: a14 :: .long x :: L) st G I J ↔ AW d E K k pc2 (a0 :: a1 :: a2 :: a3 :: a4 :: a5 :: a6 :: a7 :: a8 :: a9 :: a10 :: a11 :: a12 :: a13 :: a14 :: .long x :: L) (.long x :: st) G I J := by
  subst hp; exact aw_go ((stp_eq D rfl).trans rfl)
theorem aw_aload_0 {x : Nat} (D : decode (byt k) pc = .ok (.aload_n 0, 1)) (hp : pc + 1 = pc2) : AW d E K k pc (.ref x :: L) st G I J ↔ AW d E K k pc2 (.ref x :: L) (.ref x :: st) G I J := by
  subst hp; exact aw_go ((stp_eq D rfl).trans rfl)
theorem aw_aload_1 {a0 : Value} {x : Nat} (D : decode (byt k) pc = .ok (.aload_n 1, 1)) (hp : pc + 1 = pc2) : AW d E K k pc (a0 :: .ref x :: L) st G I J ↔ AW d E K k pc2 (a0 :: .ref x :: L) (.ref x :: st) G I J := by
  subst hp; exact aw_go ((stp_eq D rfl).trans rfl)
theorem aw_aload_2 {a0 a1 : Value} {x : Nat} (D : decode (byt k) pc = .ok (.aload_n 2, 1)) (hp : pc + 1 = pc2) : AW d E K k pc (a0 :: a1 :: .ref x :: L) st G I J ↔ AW d E K k pc2 (a0 :: a1 :: .ref x :: L) (.ref x :: st) G I J := by
  subst hp; exact aw_go ((stp_eq D rfl).trans rfl)
theorem aw_aload_3 {a0 a1 a2 : Value} {x : Nat} (D : decode (byt k) pc = .ok (.aload_n 3, 1)) (hp : pc + 1 = pc2) : AW d E K k pc (a0 :: a1 :: a2 :: .ref x :: L) st G I J ↔ AW d E K k pc2 (a0 :: a1 :: a2 :: .ref x :: L) (.ref x :: st) G I J := by
  subst hp; exact aw_go ((stp_eq D rfl).trans rfl)
theorem aw_aload_4 {a0 a1 a2 a3 : Value} {x : Nat} (D : decode (byt k) pc = .ok (.aload 4, 2)) (hp : pc + 2 = pc2) : AW d E K k pc (a0 :: a1 :: a2 :: a3 :: .ref x :: L) st G I J ↔ AW d E K k pc2 (a0 :: a1 :: a2 :: a3 :: .ref x :: L) (.ref x :: st) G I J := by
  subst hp; exact aw_go ((stp_eq D rfl).trans rfl)
theorem aw_aload_5 {a0 a1 a2 a3 a4 : Value} {x : Nat} (D : decode (byt k) pc = .ok (.aload 5, 2)) (hp : pc + 2 = pc2) : AW d E K k pc (a0 :: a1 :: a2 :: a3 :: a4 :: .ref x :: L) st G I J ↔ AW d E K k pc2 (a0 :: a1 :: a2 :: a3 :: a4 :: .ref x :: L) (.ref x :: st) G I J := by
  subst hp; exact aw_go ((stp_eq D rfl).trans rfl)
theorem aw_aload_6 {a0 a1 a2 a3 a4 a5 : Value} {x : Nat} (D : decode (byt k) pc = .ok (.aload 6, 2)) (hp : pc + 2 = pc2) : AW d E K k pc (a0 :: a1 :: a2 :: a3 :: a4 :: a5 :: .ref x :: L) st G I J ↔ AW d E K k pc2 (a0 :: a1 :: a2 :: a3 :: a4 :: a5 :: .ref x :: L) (.ref x :: st) G I J := by
  subst hp; exact aw_go ((stp_eq D rfl).trans rfl)
theorem aw_aload_7 {a0 a1 a2 a3 a4 a5 a6 : Value} {x : Nat} (D : decode (byt k) pc = .ok (.aload 7, 2)) (hp : pc + 2 = pc2) : AW d E K k pc (a0 :: a1 :: a2 :: a3 :: a4 :: a5 :: a6 :: .ref x :: L) st G I J ↔ AW d E K k pc2 (a0 :: a1 :: a2 :: a3 :: a4 :: a5 :: a6 :: .ref x :: L) (.ref x :: st) G I J := by
  subst hp; exact aw_go ((stp_eq D rfl).trans rfl)
theorem aw_aload_8 {a0 a1 a2 a3 a4 a5 a6 a7 : Value} {x : Nat} (D : decode (byt k) pc = .ok (.aload 8, 2)) (hp : pc + 2 = pc2) : AW d E K k pc (a0 :: a1 :: a2 :: a3 :: a4 :: a5 :: a6 :: a7 :: .ref x :: L) st G I J ↔ AW d E K k pc2 (a0 :: a1 :: a2 :: a3 :: a4 :: a5 :: a6 :: a7 :: .ref x :: L) (.ref x :: st) G I J := by
  subst hp; exact aw_go ((stp_eq D rfl).trans rfl)
theorem aw_aload_9 {a0 a1 a2 a3 a4 a5 a6 a7 a8 : Value} {x : Nat} (D : decode (byt k) pc = .ok (.aload 9, 2)) (hp : pc + 2 = pc2) : AW d E K k pc (a0 :: a1 :: a2 :: a3 :: a4 :: a5 :: a6 :: a7 :: a8 :: .ref x :: L) st G I J ↔ AW d E K k pc2 (a0 :: a1 :: a2 :: a3 :: a4 :: a5 :: a6 :: a7 :: a8 :: .ref x :: L) (.ref x :: st) G I J := by
  subst hp; exact aw_go ((stp_eq D rfl).trans rfl)
theorem aw_aload_10 {a0 a1 a2 a3 a4 a5 a6 a7 a8 a9 : Value} {x : Nat} (D : decode (byt k) pc = .ok (.aload 10, 2)) (hp : pc + 2 = pc2) : AW d E K k pc (a0 :: a1 :: a2 :: a3 :: a4 :: a5 :: a6 :: a7 :: a8 :: a9 :: .ref x :: L) st G I J ↔ AW d E K k pc2 (a0 :: a1 :: a2 :: a3 :: a4 :: a5 :: a6 :: a7 :: a8 :: a9 :: .ref x :: L) (.ref x :: st) G I J := by
  subst hp; exact aw_go ((stp_eq D rfl).trans rfl)
theorem aw_aload_11 {a0 a1 a2 a3 a4 a5 a6 a7 a8 a9 a10 : Value} {x : Nat} (D : decode (byt k) pc = .ok (.aload 11, 2)) (hp : pc + 2 = pc2) : AW d E K k pc (a0 :: a1 :: a2 :: a3 :: a4 :: a5 :: a6 :: a7 :: a8 :: a9 :: a10 :: .ref x :: L) st G I J ↔ AW d E K k pc2 (a0 :: a1 :: a2 :: a3 :: a4 :: a5 :: a6 :: a7 :: a8 :: a9 :: a10 :: .ref x :: L) (.ref x :: st) G I J := by
  subst hp; exact aw_go ((stp_eq D rfl).trans rfl)
theorem aw_aload_12 {a0 a1 a2 a3 a4 a5 a6 a7 a8 a9 a10 a11 : Value} {x : Nat} (D : decode (byt k) pc = .ok (.aload 12, 2)) (hp : pc + 2 = pc2) : AW d E K k pc (a0 :: a1 :: a2 :: a3 :: a4 :: a5 :: a6 :: a7 :: a8 :: a9 :: a10 :: a11 :: .ref x :: L) st G I J ↔ AW d E K k pc2 (a0 :: a1 :: a2 :: a3 :: a4 :: a5 :: a6 :: a7 :: a8 :: a9 :: a10 :: a11 :: .ref x :: L) (.ref x :: st) G I J := by
  subst hp; exact aw_go ((stp_eq D rfl).trans rfl)
theorem aw_aload_13 {a0 a1 a2 a3 a4 a5 a6 a7 a8 a9 a10 a11 a12 : Value} {x : Nat} (D : decode (byt k) pc = .ok (.aload 13, 2)) (hp : pc + 2 = pc2) : AW d E K k pc (a0 :: a1 :: a2 :: a3 :: a4 :: a5 :: a6 :: a7 :: a8 :: a9 :: a10 :: a11 :: a12 :: .ref x :: L) st G I J ↔ AW d E K k pc2 (a0 :: a1 :: a2 :: a3 :: a4 :: a5 :: a6 :: a7 :: a8 :: a9 :: a10 :: a11 :: a12 :: .ref x :: L) (.ref x :: st) G I J := by
  subst hp; exact aw_go ((stp_eq D rfl).trans rfl)
theorem aw_aload_14 {a0 a1 a2 a3 a4 a5 a6 a7 a8 a9 a10 a11 a12 a13 : Value} {x : Nat} (D : decode (byt k) pc = .ok (.aload 14, 2)) (hp : pc + 2 = pc2) : AW d E K k pc (a0 :: a1 :: a2 :: a3 :: a4 :: a5 :: a6 :: a7 :: a8 :: a9 :: a10 :: a11 :: a12 :: a13 :: .ref x :: L) st G I J ↔ AW d E K k pc2 (a0 :: a1 :: a2 :: a3 :: a4 :: a5 :: a6 :: a7 :: a8 :: a9 :: a10 :: a11 :: a12 :: a13 :: .ref x :: L) (.ref x :: st) G I J := by
  subst hp; exact aw_go ((stp_eq D rfl).trans rfl)
theorem aw_aload_15 {a0 a1 a2 a3 a4 a5 a6 a7 a8 a9 a10 a11 a12 a13 a14 : Value} {x : Nat} (D : decode (byt k) pc = .ok (.aload 15, 2)) (hp : pc + 2 = pc2) : AW d E K k pc (a0 :: a1 :: a2 :: a3 :: a4 :: a5 :: a6 :: a7 :: a8 :: a9 :: a10 :: a11 :: a12 :: a13 :: a14 :: .ref x :: L) st G I J ↔ AW d E K k pc2 (a0 :: a1 :: a2 :: a3 :: a4 :: a5 :: a6 :: a7 :: a8 :: a9 :: a10 :: a11 :: a12 :: a13 :: a14 :: .ref x :: L) (.ref x :: st) G I J := by
  subst hp; exact aw_go ((stp_eq D rfl).trans rfl)
theorem aw_aloadN_0 (D : decode (byt k) pc = .ok (.aload_n 0, 1)) (hp : pc + 1 = pc2) : AW d E K k pc (.null :: L) st G I J ↔ AW d E K k pc2 (.null :: L) (.null :: st) G I J := by
  subst hp; exact aw_go ((stp_eq D rfl).trans rfl)
theorem aw_aloadN_1 {a0 : Value} (D : decode (byt k) pc = .ok (.aload_n 1, 1)) (hp : pc + 1 = pc2) : AW d E K k pc (a0 :: .null :: L) st G I J ↔ AW d E K k pc2 (a0 :: .null :: L) (.null :: st) G I J := by
  subst hp; exact aw_go ((stp_eq D rfl).trans rfl)
theorem aw_aloadN_2 {a0 a1 : Value} (D : decode (byt k) pc = .ok (.aload_n 2, 1)) (hp : pc + 1 = pc2) : AW d E K k pc (a0 :: a1 :: .null :: L) st G I J ↔ AW d E K k pc2 (a0 :: a1 :: .null :: L) (.null :: st) G I J := by
  subst hp; exact aw_go ((stp_eq D rfl).trans rfl)
theorem aw_aloadN_3 {a0 a1 a2 : Value} (D : decode (byt k) pc = .ok (.aload_n 3, 1)) (hp : pc + 1 = pc2) : AW d E K k pc (a0 :: a1 :: a2 :: .null :: L) st G I J ↔ AW d E K k pc2 (a0 :: a1 :: a2 :: .null :: L) (.null :: st) G I J := by
  subst hp; exact aw_go ((stp_eq D rfl).trans rfl)
theorem aw_aloadN_4 {a0 a1 a2 a3 : Value} (D : decode (byt k) pc = .ok (.aload 4, 2)) (hp : pc + 2 = pc2) : AW d E K k pc (a0 :: a1 :: a2 :: a3 :: .null :: L) st G I J ↔ AW d E K k pc2 (a0 :: a1 :: a2 :: a3 :: .null :: L) (.null :: st) G I J := by
  subst hp; exact aw_go ((stp_eq D rfl).trans rfl)
theorem aw_aloadN_5 {a0 a1 a2 a3 a4 : Value} (D : decode (byt k) pc = .ok (.aload 5, 2)) (hp : pc + 2 = pc2) : AW d E K k pc (a0 :: a1 :: a2 :: a3 :: a4 :: .null :: L) st G I J ↔ AW d E K k pc2 (a0 :: a1 :: a2 :: a3 :: a4 :: .null :: L) (.null :: st) G I J := by
  subst hp; exact aw_go ((stp_eq D rfl).trans rfl)
theorem aw_aloadN_6 {a0 a1 a2 a3 a4 a5 : Value} (D : decode (byt k) pc = .ok (.aload 6, 2)) (hp : pc + 2 = pc2) : AW d E K k pc (a0 :: a1 :: a2 :: a3 :: a4 :: a5 :: .null :: L) st G I J ↔ AW d E K k pc2 (a0 :: a1 :: a2 :: a3 :: a4 :: a5 :: .null :: L) (.null :: st) G I J := by
  subst hp; exact aw_go ((stp_eq D rfl).trans rfl)
theorem aw_aloadN_7 {a0 a1 a2 a3 a4 a5 a6 : Value} (D : decode (byt k) pc = .ok (.aload 7, 2)) (hp : pc + 2 = pc2) : AW d E K k pc (a0 :: a1 :: a2 :: a3 :: a4 :: a5 :: a6 :: .null :: L) st G I J ↔ AW d E K k pc2 (a0 :: a1 :: a2 :: a3 :: a4 :: a5 :: a6 :: .null :: L) (.null :: st) G I J := by
  subst hp; exact aw_go ((stp_eq D rfl).trans rfl)
theorem aw_aloadN_8 {a0 a1 a2 a3 a4 a5 a6 a7 : Value} (D : decode (byt k) pc = .ok (.aload 8, 2)) (hp : pc + 2 = pc2) : AW d E K k pc (a0 :: a1 :: a2 :: a3 :: a4 :: a5 :: a6 :: a7 :: .null :: L) st G I J ↔ AW d E K k pc2 (a0 :: a1 :: a2 :: a3 :: a4 :: a5 :: a6 :: a7 :: .null :: L) (.null :: st) G I J := by
  subst hp; exact aw_go ((stp_eq D rfl).trans rfl)
theorem aw_aloadN_9 {a0 a1 a2 a3 a4 a5 a6 a7 a8 : Value} (D : decode (byt k) pc = .ok (.aload 9, 2)) (hp : pc + 2 = pc2) : AW d E K k pc (a0 :: a1 :: a2 :: a3 :: a4 :: a5 :: a6 :: a7 :: a8 :: .null :: L) st G I J ↔ AW d E K k pc2 (a0 :: a1 :: a2 :: a3 :: a4 :: a5 :: a6 :: a7 :: a8 :: .null :: L) (.null :: st) G I J := by
  subst hp; exact aw_go ((stp_eq D rfl).trans rfl)
theorem aw_aloadN_10 {a0 a1 a2 a3 a4 a5 a6 a7 a8 a9 : Value} (D : decode (byt k) pc = .ok (.aload 10, 2)) (hp : pc + 2 = pc2) : AW d E K k pc (a0 :: a1 :: a2 :: a3 :: a4 :: a5 :: a6 :: a7 :: a8 :: a9 :: .null :: L) st G I J ↔ AW d E K k pc2 (a0 :: a1 :: a2 :: a3 :: a4 :: a5 :: a6 :: a7 :: a8 :: a9 :: .null :: L) (.null :: st) G I J := by
  subst hp; exact aw_go ((stp_eq D rfl).trans rfl)
theorem aw_aloadN_11 {a0 a1 a2 a3 a4 a5 a6 a7 a8 a9 a10 : Value} (D : decode (byt k) pc = .ok (.aload 11, 2)) (hp : pc + 2 = pc2) : AW d E K k pc (a0 :: a1 :: a2 :: a3 :: a4 :: a5 :: a6 :: a7 :: a8 :: a9 :: a10 :: .null :: L) st G I J ↔ AW d E K k pc2 (a0 :: a1 :: a2 :: a3 :: a4 :: a5 :: a6 :: a7 :: a8 :: a9 :: a10 :: .null :: L) (.null :: st) G I J := by
  subst hp; exact aw_go ((stp_eq D rfl).trans rfl)
theorem aw_aloadN_12 {a0 a1 a2 a3 a4 a5 a6 a7 a8 a9 a10 a11 : Value} (D : decode (byt k) pc = .ok (.aload 12, 2)) (hp : pc + 2 = pc2) : AW d E K k pc (a0 :: a1 :: a2 :: a3 :: a4 :: a5 :: a6 :: a7 :: a8 :: a9 :: a10 :: a11 :: .null :: L) st G I J ↔ AW d E K k pc2 (a0 :: a1 :: a2 :: a3 :: a4 :: a5 :: a6 :: a7 :: a8 :: a9 :: a10 :: a11 :: .null :: L) (.null :: st) G I J := by
  subst hp; exact aw_go ((stp_eq D rfl).trans rfl)
theorem aw_aloadN_13 {a0 a1 a2 a3 a4 a5 a6 a7 a8 a9 a10 a11 a12 : Value} (D : decode (byt k) pc = .ok (.aload 13, 2)) (hp : pc + 2 = pc2) : AW d E K k pc (a0 :: a1 :: a2 :: a3 :: a4 :: a5 :: a6 :: a7 :: a8 :: a9 :: a10 :: a11 :: a12 :: .null :: L) st G I J ↔ AW d E K k pc2 (a0 :: a1 :: a2 :: a3 :: a4 :: a5 :: a6 :: a7 :: a8 :: a9 :: a10 :: a11 :: a12 :: .null :: L) (.null :: st) G I J := by
  subst hp; exact aw_go ((stp_eq D rfl).trans rfl)
theorem aw_aloadN_14 {a0 a1 a2 a3 a4 a5 a6 a7 a8 a9 a10 a11 a12 a13 : Value} (D : decode (byt k) pc = .ok (.aload 14, 2)) (hp : pc + 2 = pc2) : AW d E K k pc (a0 :: a1 :: a2 :: a3 :: a4 :: a5 :: a6 :: a7 :: a8 :: a9 :: a10 :: a11 :: a12 :: a13 :: .null :: L) st G I J ↔ AW d E K k pc2 (a0 :: a1 :: a2 :: a3 :: a4 :: a5 :: a6 :: a7 :: a8 :: a9 :: a10 :: a11 :: a12 :: a13 :: .null :: L) (.null :: st) G I J := by
  subst hp; exact aw_go ((stp_eq D rfl).trans rfl)
theorem aw_aloadN_15 {a0 a1 a2 a3 a4 a5 a6 a7 a8 a9 a10 a11 a12 a13 a14 : Value} (D : decode (byt k) pc = .ok (.aload 15, 2)) (hp : pc + 2 = pc2) : AW d E K k pc (a0 :: a1 :: a2 :: a3 :: a4 :: a5 :: a6 :: a7 :: a8 :: a9 :: a10 :: a11 :: a12 :: a13 :: a14 :: .null :: L) st G I J ↔ AW d E K k pc2 (a0 :: a1 :: a2 :: a3 :: a4 :: a5 :: a6 :: a7 :: a8 :: a9 :: a10 :: a11 :: a12 :: a13 :: a14 :: .null :: L) (.null :: st) G I J := by
  subst hp; exact aw_go ((stp_eq D rfl).trans rfl)
theorem aw_istore_0 {a0 : Value} {x : Int32} (D : decode (byt k) pc = .ok (.istore_n 0, 1)) (hp : pc + 1 = pc2) : AW d E K k pc (a0 :: L) (.int x :: st) G I J ↔ AW d E K k pc2 (.int x :: L) st G I J := by
  subst hp; exact aw_gs ((stp_eq D rfl).trans rfl) (by simp only [List.length_cons]; omega)
theorem aw_istore_1 {a0 a1 : Value} {x : Int32} (D : decode (byt k) pc = .ok (.istore_n 1, 1)) (hp : pc + 1 = pc2) : AW d E K k pc (a0 :: a1 :: L) (.int x :: st) G I J ↔ AW d E K k pc2 (kil a0 :: .int x :: L) st G I J := by
  subst hp; exact aw_gs ((stp_eq D rfl).trans rfl) (by simp only [List.length_cons]; omega)
theorem aw_istore_2 {a0 a1 a2 : Value} {x : Int32} (D : decode (byt k) pc = .ok (.istore_n 2, 1)) (hp : pc + 1 = pc2) : AW d E K k pc (a0 :: a1 :: a2 :: L) (.int x :: st) G I J ↔ AW d E K k pc2 (a0 :: kil a1 :: .int x :: L) st G I J := by
  subst hp; exact aw_gs ((stp_eq D rfl).trans rfl) (by simp only [List.length_cons]; omega)
theorem aw_istore_3 {a0 a1 a2 a3 : Value} {x : Int32} (D : decode (byt k) pc = .ok (.istore_n 3, 1)) (hp : pc + 1 = pc2) : AW d E K k pc (a0 :: a1 :: a2 :: a3 :: L) (.int x :: st) G I J ↔ AW d E K k pc2 (a0 :: a1 :: kil a2 :: .int x :: L) st G I J := by
  subst hp; exact aw_gs ((stp_eq D rfl).trans rfl) (by simp only [List.length_cons]; omega)
theorem aw_istore_4 {a0 a1 a2 a3 a4 : Value} {x : Int32} (D : decode (byt k) pc = .ok (.istore 4, 2)) (hp : pc + 2 = pc2) : AW d E K k pc (a0 :: a1 :: a2 :: a3 :: a4 :: L) (.int x :: st) G I J ↔ AW d E K k pc2 (a0 :: a1 :: a2 :: kil a3 :: .int x :: L) st G I J := by
  subst hp; exact aw_gs ((stp_eq D rfl).trans rfl) (by simp only [List.length_cons]; omega)
theorem aw_istore_5 {a0 a1 a2 a3 a4 a5 : Value} {x : Int32} (D : decode (byt k) pc = .ok (.istore 5, 2)) (hp : pc + 2 = pc2) : AW d E K k pc (a0 :: a1 :: a2 :: a3 :: a4 :: a5 :: L) (.int x :: st) G I J ↔ AW d E K k pc2 (a0 :: a1 :: a2 :: a3 :: kil a4 :: .int x :: L) st G I J := by
  subst hp; exact aw_gs ((stp_eq D rfl).trans rfl) (by simp only [List.length_cons]; omega)
theorem aw_istore_6 {a0 a1 a2 a3 a4 a5 a6 : Value} {x : Int32} (D : decode (byt k) pc = .ok (.istore 6, 2)) (hp : pc + 2 = pc2) : AW d E K k pc (a0 :: a1 :: a2 :: a3 :: a4 :: a5 :: a6 :: L) (.int x :: st) G I J ↔ AW d E K k pc2 (a0 :: a1 :: a2 :: a3 :: a4 :: kil a5 :: .int x :: L) st G I J := by
  subst hp; exact aw_gs ((stp_eq D rfl).trans rfl) (by simp only [List.length_cons]; omega)
theorem aw_istore_7 {a0 a1 a2 a3 a4 a5 a6 a7 : Value} {x : Int32} (D : decode (byt k) pc = .ok (.istore 7, 2)) (hp : pc + 2 = pc2) : AW d E K k pc (a0 :: a1 :: a2 :: a3 :: a4 :: a5 :: a6 :: a7 :: L) (.int x :: st) G I J ↔ AW d E K k pc2 (a0 :: a1 :: a2 :: a3 :: a4 :: a5 :: kil a6 :: .int x :: L) st G I J := by
  subst hp; exact aw_gs ((stp_eq D rfl).trans rfl) (by simp only [List.length_cons]; omega)
theorem aw_istore_8 {a0 a1 a2 a3 a4 a5 a6 a7 a8 : Value} {x : Int32} (D : decode (byt k) pc = .ok (.istore 8, 2)) (hp : pc + 2 = pc2) : AW d E K k pc (a0 :: a1 :: a2 :: a3 :: a4 :: a5 :: a6 :: a7 :: a8 :: L) (.int x :: st) G I J ↔ AW d E K k pc2 (a0 :: a1 :: a2 :: a3 :: a4 :: a5 :: a6 :: kil a7 :: .int x :: L) st G I J := by
  subst hp; exact aw_gs ((stp_eq D rfl).trans rfl) (by simp only [List.length_cons]; omega)
theorem aw_istore_9 {a0 a1 a2 a3 a4 a5 a6 a7 a8 a9 : Value} {x : Int32} (D : decode (byt k) pc = .ok (.istore 9, 2)) (hp : pc + 2 = pc2) : AW d E K k pc (a0 :: a1 :: a2 :: a3 :: a4 :: a5 :: a6 :: a7 :: a8 :: a9 :: L) (.int x :: st) G I J ↔ AW d E K k pc2 (a0 :: a1 :: a2 :: a3 :: a4 :: a5 :: a6 :: a7 :: kil a8 :: .int x :: L) st G I J := by
  subst hp; exact aw_gs ((stp_eq D rfl).trans rfl) (by simp only [List.length_cons]; omega)
theorem aw_istore_10 {a0 a1 a2 a3 a4 a5 a6 a7 a8 a9 a10 : Value} {x : Int32} (D : decode (byt k) pc = .ok (.istore 10, 2)) (hp : pc + 2 = pc2) : AW d E K k pc (a0 :: a1 :: a2 :: a3 :: a4 :: a5 :: a6 :: a7 :: a8 :: a9 :: a10 :: L) (.int x :: st) G I J ↔ AW d E K k pc2 (a0 :: a1 :: a2 :: a3 :: a4 :: a5 :: a6 :: a7 :: a8 :: kil a9 :: .int x :: L) st G I J := by
  subst hp; exact aw_gs ((stp_eq D rfl).trans rfl) (by simp only [List.length_cons]; omega)
theorem aw_istore_11 {a0 a1 a2 a3 a4 a5 a6 a7 a8 a9 a10 a11 : Value} {x : Int32} (D : decode (byt k) pc = .ok (.istore 11, 2)) (hp : pc + 2 = pc2) : AW d E K k pc (a0 :: a1 :: a2 :: a3 :: a4 :: a5 :: a6 :: a7 :: a8 :: a9 :: a10 :: a11 :: L) (.int x :: st) G I J ↔ AW d E K k pc2 (a0 :: a1 :: a2 :: a3 :: a4 :: a5 :: a6 :: a7 :: a8 :: a9 :: kil a10 :: .int x :: L) st G I J := by
  subst hp; exact aw_gs ((stp_eq D rfl).trans rfl) (by simp only [List.length_cons]; omega)
theorem aw_istore_12 {a0 a1 a2 a3 a4 a5 a6 a7 a8 a9 a10 a11 a12 : Value} {x : Int32} (D : decode (byt k) pc = .ok (.istore 12, 2)) (hp : pc + 2 = pc2) : AW d E K k pc (a0 :: a1 :: a2 :: a3 :: a4 :: a5 :: a6 :: a7 :: a8 :: a9 :: a10 :: a11 :: a12 :: L) (.int x :: st) G I J ↔ AW d E K k pc2 (a0 :: a1 :: a2 :: a3 :: a4 :: a5 :: a6 :: a7 :: a8 :: a9 :: a10 :: kil a11 :: .int x :: L) st G I J := by
  subst hp; exact aw_gs ((stp_eq D rfl).trans rfl) (by simp only [List.length_cons]; omega)
theorem aw_istore_13 {a0 a1 a2 a3 a4 a5 a6 a7 a8 a9 a10 a11 a12 a13 : Value} {x : Int32} (D : decode (byt k) pc = .ok (.istore 13, 2)) (hp : pc + 2 = pc2) : AW d E K k pc (a0 :: a1 :: a2 :: a3 :: a4 :: a5 :: a6 :: a7 :: a8 :: a9 :: a10 :: a11 :: a12 :: a13 :: L) (.int x :: st) G I J ↔ AW d E K k pc2 (a0 :: a1 :: a2 :: a3 :: a4 :: a5 :: a6 :: a7 :: a8 :: a9 :: a10 :: a11 :: kil a12 :: .int x :: L) st G I J := by
  subst hp; exact aw_gs ((stp_eq D rfl).trans rfl) (by simp only [List.length_cons]; omega)
theorem aw_istore_14 {a0 a1 a2 a3 a4 a5 a6 a7 a8 a9 a10 a11 a12 a13 a14 : Value} {x : Int32} (D : decode (byt k) pc = .ok (.istore 14, 2)) (hp : pc + 2 = pc2) : AW d E K k pc (a0 :: a1 :: a2 :: a3 :: a4 :: a5 :: a6 :: a7 :: a8 :: a9 :: a10 :: a11 :: a12 :: a13 :: a14 :: L) (.int x :: st) G I J ↔ AW d E K k pc2 (a0 :: a1 :: a2 :: a3 :: a4 :: a5 :: a6 :: a7 :: a8 :: a9 :: a10 :: a11 :: a12 :: kil a13 :: .int x :: L) st G I J := by
  subst hp; exact aw_gs ((stp_eq D rfl).trans rfl) (by simp only [List.length_cons]; omega)
theorem aw_istore_15 {a0 a1 a2 a3 a4 a5 a6 a7 a8 a9 a10 a11 a12 a13 a14 a15 : Value} {x : Int32} (D : decode (byt k) pc = .ok (.istore 15, 2)) (hp : pc + 2 = pc2) : AW d E K k pc (a0 :: a1 :: a2 :: a3 :: a4 :: a5 :: a6 :: a7 :: a8 :: a9 :: a10 :: a11 :: a12 :: a13 :: a14 :: a15 :: L) (.int x :: st) G I J ↔ AW d E K k pc2 (a0 :: a1 :: a2 :: a3 :: a4 :: a5 :: a6 :: a7 :: a8 :: a9 :: a10 :: a11 :: a12 :: a13 :: kil a14 :: .int x :: L) st G I J := by
  subst hp; exact aw_gs ((stp_eq D rfl).trans rfl) (by simp only [List.length_cons]; omega)
theorem aw_astore_0 {a0 : Value} {x : Nat} (D : decode (byt k) pc = .ok (.astore_n 0, 1)) (hp : pc + 1 = pc2) : AW d E K k pc (a0 :: L) (.ref x :: st) G I J ↔ AW d E K k pc2 (.ref x :: L) st G I J := by
  subst hp; exact aw_gs ((stp_eq D rfl).trans rfl) (by simp only [List.length_cons]; omega)
theorem aw_astore_1 {a0 a1 : Value} {x : Nat} (D : decode (byt k) pc = .ok (.astore_n 1, 1)) (hp : pc + 1 = pc2) : AW d E K k pc (a0 :: a1 :: L) (.ref x :: st) G I J ↔ AW d E K k pc2 (kil a0 :: .ref x :: L) st G I J := by
  subst hp; exact aw_gs ((stp_eq D rfl).trans rfl) (by simp only [List.length_cons]; omega)
theorem aw_astore_2 {a0 a1 a2 : Value} {x : Nat} (D : decode (byt k) pc = .ok (.astore_n 2, 1)) (hp : pc + 1 = pc2) : AW d E K k pc (a0 :: a1 :: a2 :: L) (.ref x :: st) G I J ↔ AW d E K k pc2 (a0 :: kil a1 :: .ref x :: L) st G I J := by
  subst hp; exact aw_gs ((stp_eq D rfl).trans rfl) (by simp only [List.length_cons]; omega)
theorem aw_astore_3 {a0 a1 a2 a3 : Value} {x : Nat} (D : decode (byt k) pc = .ok (.astore_n 3, 1)) (hp : pc + 1 = pc2) : AW d E K k pc (a0 :: a1 :: a2 :: a3 :: L) (.ref x :: st) G I J ↔ AW d E K k pc2 (a0 :: a1 :: kil a2 :: .ref x :: L) st G I J := by
  subst hp; exact aw_gs ((stp_eq D rfl).trans rfl) (by simp only [List.length_cons]; omega)
theorem aw_astore_4 {a0 a1 a2 a3 a4 : Value} {x : Nat} (D : decode (byt k) pc = .ok (.astore 4, 2)) (hp : pc + 2 = pc2) : AW d E K k pc (a0 :: a1 :: a2 :: a3 :: a4 :: L) (.ref x :: st) G I J ↔ AW d E K k pc2 (a0 :: a1 :: a2 :: kil a3 :: .ref x :: L) st G I J := by
  subst hp; exact aw_gs ((stp_eq D rfl).trans rfl) (by simp only [List.length_cons]; omega)
theorem aw_astore_5 {a0 a1 a2 a3 a4 a5 : Value} {x : Nat} (D : decode (byt k) pc = .ok (.astore 5, 2)) (hp : pc + 2 = pc2) : AW d E K k pc (a0 :: a1 :: a2 :: a3 :: a4 :: a5 :: L) (.ref x :: st) G I J ↔ AW d E K k pc2 (a0 :: a1 :: a2 :: a3 :: kil a4 :: .ref x :: L) st G I J := by
  subst hp; exact aw_gs ((stp_eq D rfl).trans rfl) (by simp only [List.length_cons]; omega)
theorem aw_astore_6 {a0 a1 a2 a3 a4 a5 a6 : Value} {x : Nat} (D : decode (byt k) pc = .ok (.astore 6, 2)) (hp : pc + 2 = pc2) : AW d E K k pc (a0 :: a1 :: a2 :: a3 :: a4 :: a5 :: a6 :: L) (.ref x :: st) G I J ↔ AW d E K k pc2 (a0 :: a1 :: a2 :: a3 :: a4 :: kil a5 :: .ref x :: L) st G I J := by
  subst hp; exact aw_gs ((stp_eq D rfl).trans rfl) (by simp only [List.length_cons]; omega)
theorem aw_astore_7 {a0 a1 a2 a3 a4 a5 a6 a7 : Value} {x : Nat} (D : decode (byt k) pc = .ok (.astore 7, 2)) (hp : pc + 2 = pc2) : AW d E K k pc (a0 :: a1 :: a2 :: a3 :: a4 :: a5 :: a6 :: a7 :: L) (.ref x :: st) G I J ↔ AW d E K k pc2 (a0 :: a1 :: a2 :: a3 :: a4 :: a5 :: kil a6 :: .ref x :: L) st G I J := by
  subst hp; exact aw_gs ((stp_eq D rfl).trans rfl) (by simp only [List.length_cons]; omega)
theorem aw_astore_8 {a0 a1 a2 a3 a4 a5 a6 a7 a8 : Value} {x : Nat} (D : decode (byt k) pc = .ok (.astore 8, 2)) (hp : pc + 2 = pc2) : AW d E K k pc (a0 :: a1 :: a2 :: a3 :: a4 :: a5 :: a6 :: a7 :: a8 :: L) (.ref x :: st) G I J ↔ AW d E K k pc2 (a0 :: a1 :: a2 :: a3 :: a4 :: a5 :: a6 :: kil a7 :: .ref x :: L) st G I J := by
  subst hp; exact aw_gs ((stp_eq D rfl).trans rfl) (by simp only [List.length_cons]; omega)
theorem aw_astore_9 {a0 a1 a2 a3 a4 a5 a6 a7 a8 a9 : Value} {x : Nat} (D : decode (byt k) pc = .ok (.astore 9, 2)) (hp : pc + 2 = pc2) : AW d E K k pc (a0 :: a1 :: a2 :: a3 :: a4 :: a5 :: a6 :: a7 :: a8 :: a9 :: L) (.ref x :: st) G I J ↔ AW d E K k pc2 (a0 :: a1 :: a2 :: a3 :: a4 :: a5 :: a6 :: a7 :: kil a8 :: .ref x :: L) st G I J := by
  subst hp; exact aw_gs ((stp_eq D rfl).trans rfl) (by simp only [List.length_cons]; omega)
theorem aw_astore_10 {a0 a1 a2 a3 a4 a5 a6 a7 a8 a9 a10 : Value} {x : Nat} (D : decode (byt k) pc = .ok (.astore 10, 2)) (hp : pc + 2 = pc2) : AW d E K k pc (a0 :: a1 :: a2 :: a3 :: a4 :: a5 :: a6 :: a7 :: a8 :: a9 :: a10 :: L) (.ref x :: st) G I J ↔ AW d E K k pc2 (a0 :: a1 :: a2 :: a3 :: a4 :: a5 :: a6 :: a7 :: a8 :: kil a9 :: .ref x :: L) st G I J := by
  subst hp; exact aw_gs ((stp_eq D rfl).trans rfl) (by simp only [List.length_cons]; omega)
theorem aw_astore_11 {a0 a1 a2 a3 a4 a5 a6 a7 a8 a9 a10 a11 : Value} {x : Nat} (D : decode (byt k) pc = .ok (.astore 11, 2)) (hp : pc + 2 = pc2) : AW d E K k pc (a0 :: a1 :: a2 :: a3 :: a4 :: a5 :: a6 :: a7 :: a8 :: a9 :: a10 :: a11 :: L) (.ref x :: st) G I J ↔ AW d E K k pc2 (a0 :: a1 :: a2 :: a3 :: a4 :: a5 :: a6 :: a7 :: a8 :: a9 :: kil a10 :: .ref x :: L) st G I J := by
  subst hp; exact aw_gs ((stp_eq D rfl).trans rfl) (by simp only [List.length_cons]; omega)
theorem aw_astore_12 {a0 a1 a2 a3 a4 a5 a6 a7 a8 a9 a10 a11 a12 : Value} {x : Nat} (D : decode (byt k) pc = .ok (.astore 12, 2)) (hp : pc + 2 = pc2) : AW d E K k pc (a0 :: a1 :: a2 :: a3 :: a4 :: a5 :: a6 :: a7 :: a8 :: a9 :: a10 :: a11 :: a12 :: L) (.ref x :: st) G I J ↔ AW d E K k pc2 (a0 :: a1 :: a2 :: a3 :: a4 :: a5 :: a6 :: a7 :: a8 :: a9 :: a10 :: kil a11 :: .ref x :: L) st G I J := by
  subst hp; exact aw_gs ((stp_eq D rfl).trans rfl) (by simp only [List.length_cons]; omega)
theorem aw_astore_13 {a0 a1 a2 a3 a4 a5 a6 a7 a8 a9 a10 a11 a12 a13 : Value} {x : Nat} (D : decode (byt k) pc = .ok (.astore 13, 2)) (hp : pc + 2 = pc2) : AW d E K k pc (a0 :: a1 :: a2 :: a3 :: a4 :: a5 :: a6 :: a7 :: a8 :: a9 :: a10 :: a11 :: a12 :: a13 :: L) (.ref x :: st) G I J ↔ AW d E K k pc2 (a0 :: a1 :: a2 :: a3 :: a4 :: a5 :: a6 :: a7 :: a8 :: a9 :: a10 :: a11 :: kil a12 :: .ref x :: L) st G I J := by
  subst hp; exact aw_gs ((stp_eq D rfl).trans rfl) (by simp only [List.length_cons]; omega)
theorem aw_astore_14 {a0 a1 a2 a3 a4 a5 a6 a7 a8 a9 a10 a11 a12 a13 a14 : Value} {x : Nat} (D : decode (byt k) pc = .ok (.astore 14, 2)) (hp : pc + 2 = pc2) : AW d E K k pc (a0 :: a1 :: a2 :: a3 :: a4 :: a5 :: a6 :: a7 :: a8 :: a9 :: a10 :: a11 :: a12 :: a13 :: a14 :: L) (.ref x :: st) G I J ↔ AW d E K k pc2 (a0 :: a1 :: a2 :: a3 :: a4 :: a5 :: a6 :: a7 :: a8 :: a9 :: a10 :: a11 :: a12 :: kil a13 :: .ref x :: L) st G I J := by
  subst hp; exact aw_gs ((stp_eq D rfl).trans rfl) (by simp only [List.length_cons]; omega)
theorem aw_astore_15 {a0 a1 a2 a3 a4 a5 a6 a7 a8 a9 a10 a11 a12 a13 a14 a15 : Value} {x : Nat} (D : decode (byt k) pc = .ok (.astore 15, 2)) (hp : pc + 2 = pc2) : AW d E K k pc (a0 :: a1 :: a2 :: a3 :: a4 :: a5 :: a6 :: a7 :: a8 :: a9 :: a10 :: a11 :: a12 :: a13 :: a14 :: a15 :: L) (.ref x :: st) G I J ↔ AW d E K k pc2 (a0 :: a1 :: a2 :: a3 :: a4 :: a5 :: a6 :: a7 :: a8 :: a9 :: a10 :: a11 :: a12 :: a13 :: kil a14 :: .ref x :: L) st G I J := by
  subst hp; exact aw_gs ((stp_eq D rfl).trans rfl) (by simp only [List.length_cons]; omega)
theorem aw_astoreN_0 {a0 : Value} (D : decode (byt k) pc = .ok (.astore_n 0, 1)) (hp : pc + 1 = pc2) : AW d E K k pc (a0 :: L) (.null :: st) G I J ↔ AW d E K k pc2 (.null :: L) st G I J := by
  subst hp; exact aw_gs ((stp_eq D rfl).trans rfl) (by simp only [List.length_cons]; omega)
theorem aw_astoreN_1 {a0 a1 : Value} (D : decode (byt k) pc = .ok (.astore_n 1, 1)) (hp : pc + 1 = pc2) : AW d E K k pc (a0 :: a1 :: L) (.null :: st) G I J ↔ AW d E K k pc2 (kil a0 :: .null :: L) st G I J := by
  subst hp; exact aw_gs ((stp_eq D rfl).trans rfl) (by simp only [List.length_cons]; omega)
theorem aw_astoreN_2 {a0 a1 a2 : Value} (D : decode (byt k) pc = .ok (.astore_n 2, 1)) (hp : pc + 1 = pc2) : AW d E K k pc (a0 :: a1 :: a2 :: L) (.null :: st) G I J ↔ AW d E K k pc2 (a0 :: kil a1 :: .null :: L) st G I J := by
  subst hp; exact aw_gs ((stp_eq D rfl).trans rfl) (by simp only [List.length_cons]; omega)
theorem aw_astoreN_3 {a0 a1 a2 a3 : Value} (D : decode (byt k) pc = .ok (.astore_n 3, 1)) (hp : pc + 1 = pc2) : AW d E K k pc (a0 :: a1 :: a2 :: a3 :: L) (.null :: st) G I J ↔ AW d E K k pc2 (a0 :: a1 :: kil a2 :: .null :: L) st G I J := by
  subst hp; exact aw_gs ((stp_eq D rfl).trans rfl) (by simp only [List.length_cons]; omega)
theorem aw_astoreN_4 {a0 a1 a2 a3 a4 : Value} (D : decode (byt k) pc = .ok (.astore 4, 2)) (hp : pc + 2 = pc2) : AW d E K k pc (a0 :: a1 :: a2 :: a3 :: a4 :: L) (.null :: st) G I J ↔ AW d E K k pc2 (a0 :: a1 :: a2 :: kil a3 :: .null :: L) st G I J := by
  subst hp; exact aw_gs ((stp_eq D rfl).trans rfl) (by simp only [List.length_cons]; omega)
theorem aw_astoreN_5 {a0 a1 a2 a3 a4 a5 : Value} (D : decode (byt k) pc = .ok (.astore 5, 2)) (hp : pc + 2 = pc2) : AW d E K k pc (a0 :: a1 :: a2 :: a3 :: a4 :: a5 :: L) (.null :: st) G I J ↔ AW d E K k pc2 (a0 :: a1 :: a2 :: a3 :: kil a4 :: .null :: L) st G I J := by
  subst hp; exact aw_gs ((stp_eq D rfl).trans rfl) (by simp only [List.length_cons]; omega)
theorem aw_astoreN_6 {a0 a1 a2 a3 a4 a5 a6 : Value} (D : decode (byt k) pc = .ok (.astore 6, 2)) (hp : pc + 2 = pc2) : AW d E K k pc (a0 :: a1 :: a2 :: a3 :: a4 :: a5 :: a6 :: L) (.null :: st) G I J ↔ AW d E K k pc2 (a0 :: a1 :: a2 :: a3 :: a4 :: kil a5 :: .null :: L) st G I J := by
  subst hp; exact aw_gs ((stp_eq D rfl).trans rfl) (by simp only [List.length_cons]; omega)
theorem aw_astoreN_7 {a0 a1 a2 a3 a4 a5 a6 a7 : Value} (D : decode (byt k) pc = .ok (.astore 7, 2)) (hp : pc + 2 = pc2) : AW d E K k pc (a0 :: a1 :: a2 :: a3 :: a4 :: a5 :: a6 :: a7 :: L) (.null :: st) G I J ↔ AW d E K k pc2 (a0 :: a1 :: a2 :: a3 :: a4 :: a5 :: kil a6 :: .null :: L) st G I J := by
  subst hp; exact aw_gs ((stp_eq D rfl).trans rfl) (by simp only [List.length_cons]; omega)
theorem aw_astoreN_8 {a0 a1 a2 a3 a4 a5 a6 a7 a8 : Value} (D : decode (byt k) pc = .ok (.astore 8, 2)) (hp : pc + 2 = pc2) : AW d E K k pc (a0 :: a1 :: a2 :: a3 :: a4 :: a5 :: a6 :: a7 :: a8 :: L) (.null :: st) G I J ↔ AW d E K k pc2 (a0 :: a1 :: a2 :: a3 :: a4 :: a5 :: a6 :: kil a7 :: .null :: L) st G I J := by
  subst hp; exact aw_gs ((stp_eq D rfl).trans rfl) (by simp only [List.length_cons]; omega)
theorem aw_astoreN_9 {a0 a1 a2 a3 a4 a5 a6 a7 a8 a9 : Value} (D : decode (byt k) pc = .ok (.astore 9, 2)) (hp : pc + 2 = pc2) : AW d E K k pc (a0 :: a1 :: a2 :: a3 :: a4 :: a5 :: a6 :: a7 :: a8 :: a9 :: L) (.null :: st) G I J ↔ AW d E K k pc2 (a0 :: a1 :: a2 :: a3 :: a4 :: a5 :: a6 :: a7 :: kil a8 :: .null :: L) st G I J := by
  subst hp; exact aw_gs ((stp_eq D rfl).trans rfl) (by simp only [List.length_cons]; omega)
theorem aw_astoreN_10 {a0 a1 a2 a3 a4 a5 a6 a7 a8 a9 a10 : Value} (D : decode (byt k) pc = .ok (.astore 10, 2)) (hp : pc + 2 = pc2) : AW d E K k pc (a0 :: a1 :: a2 :: a3 :: a4 :: a5 :: a6 :: a7 :: a8 :: a9 :: a10 :: L) (.null :: st) G I J ↔ AW d E K k pc2 (a0 :: a1 :: a2 :: a3 :: a4 :: a5 :: a6 :: a7 :: a8 :: kil a9 :: .null :: L) st G I J := by
  subst hp; exact aw_gs ((stp_eq D rfl).trans rfl) (by simp only [List.length_cons]; omega)
theorem aw_astoreN_11 {a0 a1 a2 a3 a4 a5 a6 a7 a8 a9 a10 a11 : Value} (D : decode (byt k) pc = .ok (.astore 11, 2)) (hp : pc + 2 = pc2) : AW d E K k pc (a0 :: a1 :: a2 :: a3 :: a4 :: a5 :: a6 :: a7 :: a8 :: a9 :: a10 :: a11 :: L) (.null :: st) G I J ↔ AW d E K k pc2 (a0 :: a1 :: a2 :: a3 :: a4 :: a5 :: a6 :: a7 :: a8 :: a9 :: kil a10 :: .null :: L) st G I J := by
  subst hp; exact aw_gs ((stp_eq D rfl).trans rfl) (by simp only [List.length_cons]; omega)
theorem aw_astoreN_12 {a0 a1 a2 a3 a4 a5 a6 a7 a8 a9 a10 a11 a12 : Value} (D : decode (byt k) pc = .ok (.astore 12, 2)) (hp : pc + 2 = pc2) : AW d E K k pc (a0 :: a1 :: a2 :: a3 :: a4 :: a5 :: a6 :: a7 :: a8 :: a9 :: a10 :: a11 :: a12 :: L) (.null :: st) G I J ↔ AW d E K k pc2 (a0 :: a1 :: a2 :: a3 :: a4 :: a5 :: a6 :: a7 :: a8 :: a9 :: a10 :: kil a11 :: .null :: L) st G I J := by
  subst hp; exact aw_gs ((stp_eq D rfl).trans rfl) (by simp only [List.length_cons]; omega)
theorem aw_astoreN_13 {a0 a1 a2 a3 a4 a5 a6 a7 a8 a9 a10 a11 a12 a13 : Value} (D : decode (byt k) pc = .ok (.astore 13, 2)) (hp : pc + 2 = pc2) : AW d E K k pc (a0 :: a1 :: a2 :: a3 :: a4 :: a5 :: a6 :: a7 :: a8 :: a9 :: a10 :: a11 :: a12 :: a13 :: L) (.null :: st) G I J ↔ AW d E K k pc2 (a0 :: a1 :: a2 :: a3 :: a4 :: a5 :: a6 :: a7 :: a8 :: a9 :: a10 :: a11 :: kil a12 :: .null :: L) st G I J := by
  subst hp; exact aw_gs ((stp_eq D rfl).trans rfl) (by simp only [List.length_cons]; omega)
theorem aw_astoreN_14 {a0 a1 a2 a3 a4 a5 a6 a7 a8 a9 a10 a11 a12 a13 a14 : Value} (D : decode (byt k) pc = .ok (.astore 14, 2)) (hp : pc + 2 = pc2) : AW d E K k pc (a0 :: a1 :: a2 :: a3 :: a4 :: a5 :: a6 :: a7 :: a8 :: a9 :: a10 :: a11 :: a12 :: a13 :: a14 :: L) (.null :: st) G I J ↔ AW d E K k pc2 (a0 :: a1 :: a2 :: a3 :: a4 :: a5 :: a6 :: a7 :: a8 :: a9 :: a10 :: a11 :: a12 :: kil a13 :: .null :: L) st G I J := by
  subst hp; exact aw_gs ((stp_eq D rfl).trans rfl) (by simp only [List.length_cons]; omega)
theorem aw_astoreN_15 {a0 a1 a2 a3 a4 a5 a6 a7 a8 a9 a10 a11 a12 a13 a14 a15 : Value} (D : decode (byt k) pc = .ok (.astore 15, 2)) (hp : pc + 2 = pc2) : AW d E K k pc (a0 :: a1 :: a2 :: a3 :: a4 :: a5 :: a6 :: a7 :: a8 :: a9 :: a10 :: a11 :: a12 :: a13 :: a14 :: a15 :: L) (.null :: st) G I J ↔ AW d E K k pc2 (a0 :: a1 :: a2 :: a3 :: a4 :: a5 :: a6 :: a7 :: a8 :: a9 :: a10 :: a11 :: a12 :: a13 :: kil a14 :: .null :: L) st G I J := by
  subst hp; exact aw_gs ((stp_eq D rfl).trans rfl) (by simp only [List.length_cons]; omega)
theorem aw_lstore_0 {a0 a1 : Value} {x : Int64} (D : decode (byt k) pc = .ok (.lstore_n 0, 1)) (hp : pc + 1 = pc2) : AW d E K k pc (a0 :: a1 :: L) (.long x :: st) G I J ↔ AW d E K k pc2 (.long x :: nv :: L) st G I J := by
  subst hp; exact aw_gs ((stp_eq D rfl).trans rfl) (by simp only [List.length_cons]; omega)
theorem aw_lstore_1 {a0 a1 a2 : Value} {x : Int64} (D : decode (byt k) pc = .ok (.lstore_n 1, 1)) (hp : pc + 1 = pc2) : AW d E K k pc (a0 :: a1 :: a2 :: L) (.long x :: st) G I J ↔ AW d E K k pc2 (kil a0 :: .long x :: nv :: L) st G I J := by
  subst hp; exact aw_gs ((stp_eq D rfl).trans rfl) (by simp only [List.length_cons]; omega)
theorem aw_lstore_2 {a0 a1 a2 a3 : Value} {x : Int64} (D : decode (byt k) pc = .ok (.lstore_n 2, 1)) (hp : pc + 1 = pc2) : AW d E K k pc (a0 :: a1 :: a2 :: a3 :: L) (.long x :: st) G I J ↔ AW d E K k pc2 (a0 :: kil a1 :: .long x :: nv :: L) st G I J := by
  subst hp; exact aw_gs ((stp_eq D rfl).trans rfl) (by simp only [List.length_cons]; omega)
theorem aw_lstore_3 {a0 a1 a2 a3 a4 : Value} {x : Int64} (D : decode (byt k) pc = .ok (.lstore_n 3, 1)) (hp : pc + 1 = pc2) : AW d E K k pc (a0 :: a1 :: a2 :: a3 :: a4 :: L) (.long x :: st) G I J ↔ AW d E K k pc2 (a0 :: a1 :: kil a2 :: .long x :: nv :: L) st G I J := by
  subst hp; exact aw_gs ((stp_eq D rfl).trans rfl) (by simp only [List.length_cons]; omega)
theorem aw_lstore_4 {a0 a1 a2 a3 a4 a5 : Value} {x : Int64} (D : decode (byt k) pc = .ok (.lstore 4, 2)) (hp : pc + 2 = pc2) : AW d E K k pc (a0 :: a1 :: a2 :: a3 :: a4 :: a5 :: L) (.long x :: st) G I J ↔ AW d E K k pc2 (a0 :: a1 :: a2 :: kil a3 :: .long x :: nv :: L) st G I J := by
  subst hp; exact aw_gs ((stp_eq D rfl).trans rfl) (by simp only [List.length_cons]; omega)
theorem aw_lstore_5 {a0 a1 a2 a3 a4 a5 a6 : Value} {x : Int64} (D : decode (byt k) pc = .ok (.lstore 5, 2)) (hp : pc + 2 = pc2) : AW d E K k pc (a0 :: a1 :: a2 :: a3 :: a4 :: a5 :: a6 :: L) (.long x :: st) G I J ↔ AW d E K k pc2 (a0 :: a1 :: a2 :: a3 :: kil a4 :: .long x :: nv :: L) st G I J := by
  subst hp; exact aw_gs ((stp_eq D rfl).trans rfl) (by simp only [List.length_cons]; omega)
theorem aw_lstore_6 {a0 a1 a2 a3 a4 a5 a6 a7 : Value} {x : Int64} (D : decode (byt k) pc = .ok (.lstore 6, 2)) (hp : pc + 2 = pc2) : AW d E K k pc (a0 :: a1 :: a2 :: a3 :: a4 :: a5 :: a6 :: a7 :: L) (.long x :: st) G I J ↔ AW d E K k pc2 (a0 :: a1 :: a2 :: a3 :: a4 :: kil a5 :: .long x :: nv :: L) st G I J := by
  subst hp; exact aw_gs ((stp_eq D rfl).trans rfl) (by simp only [List.length_cons]; omega)
theorem aw_lstore_7 {a0 a1 a2 a3 a4 a5 a6 a7 a8 : Value} {x : Int64} (D : decode (byt k) pc = .ok (.lstore 7, 2)) (hp : pc + 2 = pc2) : AW d E K k pc (a0 :: a1 :: a2 :: a3 :: a4 :: a5 :: a6 :: a7 :: a8 :: L) (.long x :: st) G I J ↔ AW d E K k pc2 (a0 :: a1 :: a2 :: a3 :: a4 :: a5 :: kil a6 :: .long x :: nv :: L) st G I J := by
  subst hp; exact aw_gs ((stp_eq D rfl).trans rfl) (by simp only [List.length_cons]; omega)
theorem aw_lstore_8 {a0 a1 a2 a3 a4 a5 a6 a7 a8 a9 : Value} {x : Int64} (D : decode (byt k) pc = .ok (.lstore 8, 2)) (hp : pc + 2 = pc2) : AW d E K k pc (a0 :: a1 :: a2 :: a3 :: a4 :: a5 :: a6 :: a7 :: a8 :: a9 :: L) (.long x :: st) G I J ↔ AW d E K k pc2 (a0 :: a1 :: a2 :: a3 :: a4 :: a5 :: a6 :: kil a7 :: .long x :: nv :: L) st G I J := by
  subst hp; exact aw_gs ((stp_eq D rfl).trans rfl) (by simp only [List.length_cons]; omega)
theorem aw_lstore_9 {a0 a1 a2 a3 a4 a5 a6 a7 a8 a9 a10 : Value} {x : Int64} (D : decode (byt k) pc = .ok (.lstore 9, 2)) (hp : pc + 2 = pc2) : AW d E K k pc (a0 :: a1 :: a2 :: a3 :: a4 :: a5 :: a6 :: a7 :: a8 :: a9 :: a10 :: L) (.long x :: st) G I J ↔ AW d E K k pc2 (a0 :: a1 :: a2 :: a3 :: a4 :: a5 :: a6 :: a7 :: kil a8 :: .long x :: nv :: L) st G I J := by
  subst hp; exact aw_gs ((stp_eq D rfl).trans rfl) (by simp only [List.length_cons]; omega)
theorem aw_lstore_10 {a0 a1 a2 a3 a4 a5 a6 a7 a8 a9 a10 a11 : Value} {x : Int64} (D : decode (byt k) pc = .ok (.lstore 10, 2)) (hp : pc + 2 = pc2) : AW d E K k pc (a0 :: a1 :: a2 :: a3 :: a4 :: a5 :: a6 :: a7 :: a8 :: a9 :: a10 :: a11 :: L) (.long x :: st) G I J ↔ AW d E K k pc2 (a0 :: a1 :: a2 :: a3 :: a4 :: a5 :: a6 :: a7 :: a8 :: kil a9 :: .long x :: nv :: L) st G I J := by
  subst hp; exact aw_gs ((stp_eq D rfl).trans rfl) (by simp only [List.length_cons]; omega)
theorem aw_lstore_11 {a0 a1 a2 a3 a4 a5 a6 a7 a8 a9 a10 a11 a12 : Value} {x : Int64} (D : decode (byt k) pc = .ok (.lstore 11, 2)) (hp : pc + 2 = pc2) : AW d E K k pc (a0 :: a1 :: a2 :: a3 :: a4 :: a5 :: a6 :: a7 :: a8 :: a9 :: a10 :: a11 :: a12 :: L) (.long x :: st) G I J ↔ AW d E K k pc2 (a0 :: a1 :: a2 :: a3 :: a4 :: a5 :: a6 :: a7 :: a8 :: a9 :: kil a10 :: .long x :: nv :: L) st G I J := by
  subst hp; exact aw_gs ((stp_eq D rfl).trans rfl) (by simp only [List.length_cons]; omega)
theorem aw_lstore_12 {a0 a1 a2 a3 a4 a5 a6 a7 a8 a9 a10 a11 a12 a13 : Value} {x : Int64} (D : decode (byt k) pc = .ok (.lstore 12, 2)) (hp : pc + 2 = pc2) : AW d E K k pc (a0 :: a1 :: a2 :: a3 :: a4 :: a5 :: a6 :: a7 :: a8 :: a9 :: a10 :: a11 :: a12 :: a13 :: L) (.long x :: st) G I J ↔ AW d E K k pc2 (a0 :: a1 :: a2 :: a3 :: a4 :: a5 :: a6 :: a7 :: a8 :: a9 :: a10 :: kil a11 :: .long x :: nv :: L) st G I J := by
  subst hp; exact aw_gs ((stp_eq D rfl).trans rfl) (by simp only [List.length_cons]; omega)
theorem aw_lstore_13 {a0 a1 a2 a3 a4 a5 a6 a7 a8 a9 a10 a11 a12 a13 a14 : Value} {x : Int64} (D : decode (byt k) pc = .ok (.lstore 13, 2)) (hp : pc + 2 = pc2) : AW d E K k pc (a0 :: a1 :: a2 :: a3 :: a4 :: a5 :: a6 :: a7 :: a8 :: a9 :: a10 :: a11 :: a12 :: a13 :: a14 :: L) (.long x :: st) G I J ↔ AW d E K k pc2 (a0 :: a1 :: a2 :: a3 :: a4 :: a5 :: a6 :: a7 :: a8 :: a9 :: a10 :: a11 :: kil a12 :: .long x :: nv :: L) st G I J := by
  subst hp; exact aw_gs ((stp_eq D rfl).trans rfl) (by simp only [List.length_cons]; omega)
theorem aw_lstore_14 {a0 a1 a2 a3 a4 a5 a6 a7 a8 a9 a10 a11 a12 a13 a14 a15 : Value} {x : Int64} (D : decode (byt k) pc = .ok (.lstore 14, 2)) (hp : pc + 2 = pc2) : AW d E K k pc (a0 :: a1 :: a2 :: a3 :: a4 :: a5 :: a6 :: a7 :: a8 :: a9 :: a10 :: a11 :: a12 :: a13 :: a14 :: a15 :: L) (.long x :: st) G I J ↔ AW d E K k pc2 (a0 :: a1 :: a2 :: a3 :: a4 :: a5 :: a6 :: a7 :: a8 :: a9 :: a10 :: a11 :: a12 :: kil a13 :: .long x :: nv :: L) st G I J := by
  subst hp; exact aw_gs ((stp_eq D rfl).trans rfl) (by simp only [List.length_cons]; omega)
theorem aw_iinc_0 {x y : Int32} {n : Int} (D : decode (byt k) pc = .ok (.iinc 0 n, 3)) (hp : pc + 3 = pc2) (hy : Int32.ofInt n = y) : AW d E K k pc (.int x :: L) st G I J ↔ AW d E K k pc2 (.int (x + y) :: L) st G I J := by
  subst hp; subst hy; exact aw_gs ((stp_eq D rfl).trans rfl) (by simp only [List.length_cons]; omega)
theorem aw_iinc_1 {a0 : Value} {x y : Int32} {n : Int} (D : decode (byt k) pc = .ok (.iinc 1 n, 3)) (hp : pc + 3 = pc2) (hy : Int32.ofInt n = y) : AW d E K k pc (a0 :: .int x :: L) st G I J ↔ AW d E K k pc2 (kil a0 :: .int (x + y) :: L) st G I J := by
  subst hp; subst hy; exact aw_gs ((stp_eq D rfl).trans rfl) (by simp only [List.length_cons]; omega)
theorem aw_iinc_2 {a0 a1 : Value} {x y : Int32} {n : Int} (D : decode (byt k) pc = .ok (.iinc 2 n, 3)) (hp : pc + 3 = pc2) (hy : Int32.ofInt n = y) : AW d E K k pc (a0 :: a1 :: .int x :: L) st G I J ↔ AW d E K k pc2 (a0 :: kil a1 :: .int (x + y) :: L) st G I J := by
  subst hp; subst hy; exact aw_gs ((stp_eq D rfl).trans rfl) (by simp only [List.length_cons]; omega)
theorem aw_iinc_3 {a0 a1 a2 : Value} {x y : Int32} {n : Int} (D : decode (byt k) pc = .ok (.iinc 3 n, 3)) (hp : pc + 3 = pc2) (hy : Int32.ofInt n = y) : AW d E K k pc (a0 :: a1 :: a2 :: .int x :: L) st G I J ↔ AW d E K k pc2 (a0 :: a1 :: kil a2 :: .int (x + y) :: L) st G I J := by
  subst hp; subst hy; exact aw_gs ((stp_eq D rfl).trans rfl) (by simp only [List.length_cons]; omega)
theorem aw_iinc_4 {a0 a1 a2 a3 : Value} {x y : Int32} {n : Int} (D : decode (byt k) pc = .ok (.iinc 4 n, 3)) (hp : pc + 3 = pc2) (hy : Int32.ofInt n = y) : AW d E K k pc (a0 :: a1 :: a2 :: a3 :: .int x :: L) st G I J ↔ AW d E K k pc2 (a0 :: a1 :: a2 :: kil a3 :: .int (x + y) :: L) st G I J := by
  subst hp; subst hy; exact aw_gs ((stp_eq D rfl).trans rfl) (by simp only [List.length_cons]; omega)
theorem aw_iinc_5 {a0 a1 a2 a3 a4 : Value} {x y : Int32} {n : Int} (D : decode (byt k) pc = .ok (.iinc 5 n, 3)) (hp : pc + 3 = pc2) (hy : Int32.ofInt n = y) : AW d E K k pc (a0 :: a1 :: a2 :: a3 :: a4 :: .int x :: L) st G I J ↔ AW d E K k pc2 (a0 :: a1 :: a2 :: a3 :: kil a4 :: .int (x + y) :: L) st G I J := by
  subst hp; subst hy; exact aw_gs ((stp_eq D rfl).trans rfl) (by simp only [List.length_cons]; omega)
theorem aw_iinc_6 {a0 a1 a2 a3 a4 a5 : Value} {x y : Int32} {n : Int} (D : decode (byt k) pc = .ok (.iinc 6 n, 3)) (hp : pc + 3 = pc2) (hy : Int32.ofInt n = y) : AW d E K k pc (a0 :: a1 :: a2 :: a3 :: a4 :: a5 :: .int x :: L) st G I J ↔ AW d E K k pc2 (a0 :: a1 :: a2 :: a3 :: a4 :: kil a5 :: .int (x + y) :: L) st G I J := by
  subst hp; subst hy; exact aw_gs ((stp_eq D rfl).trans rfl) (by simp only [List.length_cons]; omega)
theorem aw_iinc_7 {a0 a1 a2 a3 a4 a5 a6 : Value} {x y : Int32} {n : Int} (D : decode (byt k) pc = .ok (.iinc 7 n, 3)) (hp : pc + 3 = pc2) (hy : Int32.ofInt n = y) : AW d E K k pc (a0 :: a1 :: a2 :: a3 :: a4 :: a5 :: a6 :: .int x :: L) st G I J ↔ AW d E K k pc2 (a0 :: a1 :: a2 :: a3 :: a4 :: a5 :: kil a6 :: .int (x + y) :: L) st G I J := by
  subst hp; subst hy; exact aw_gs ((stp_eq D rfl).trans rfl) (by simp only [List.length_cons]; omega)
theorem aw_iinc_8 {a0 a1 a2 a3 a4 a5 a6 a7 : Value} {x y : Int32} {n : Int} (D : decode (byt k) pc = .ok (.iinc 8 n, 3)) (hp : pc + 3 = pc2) (hy : Int32.ofInt n = y) : AW d E K k pc (a0 :: a1 :: a2 :: a3 :: a4 :: a5 :: a6 :: a7 :: .int x :: L) st G I J ↔ AW d E K k pc2 (a0 :: a1 :: a2 :: a3 :: a4 :: a5 :: a6 :: kil a7 :: .int (x + y) :: L) st G I J := by
  subst hp; subst hy; exact aw_gs ((stp_eq D rfl).trans rfl) (by simp only [List.length_cons]; omega)
theorem aw_iinc_9 {a0 a1 a2 a3 a4 a5 a6 a7 a8 : Value} {x y : Int32} {n : Int} (D : decode (byt k) pc = .ok (.iinc 9 n, 3)) (hp : pc + 3 = pc2) (hy : Int32.ofInt n = y) : AW d E K k pc (a0 :: a1 :: a2 :: a3 :: a4 :: a5 :: a6 :: a7 :: a8 :: .int x :: L) st G I J ↔ AW d E K k pc2 (a0 :: a1 :: a2 :: a3 :: a4 :: a5 :: a6 :: a7 :: kil a8 :: .int (x + y) :: L) st G I J := by
  subst hp; subst hy; exact aw_gs ((stp_eq D rfl).trans rfl) (by simp only [List.length_cons]; omega)
theorem aw_iinc_10 {a0 a1 a2 a3 a4 a5 a6 a7 a8 a9 : Value} {x y : Int32} {n : Int} (D : decode (byt k) pc = .ok (.iinc 10 n, 3)) (hp : pc + 3 = pc2) (hy : Int32.ofInt n = y) : AW d E K k pc (a0 :: a1 :: a2 :: a3 :: a4 :: a5 :: a6 :: a7 :: a8 :: a9 :: .int x :: L) st G I J ↔ AW d E K k pc2 (a0 :: a1 :: a2 :: a3 :: a4 :: a5 :: a6 :: a7 :: a8 :: kil a9 :: .int (x + y) :: L) st G I J := by
  subst hp; subst hy; exact aw_gs ((stp_eq D rfl).trans rfl) (by simp only [List.length_cons]; omega)
theorem aw_iinc_11 {a0 a1 a2 a3 a4 a5 a6 a7 a8 a9 a10 : Value} {x y : Int32} {n : Int} (D : decode (byt k) pc = .ok (.iinc 11 n, 3)) (hp : pc + 3 = pc2) (hy : Int32.ofInt n = y) : AW d E K k pc (a0 :: a1 :: a2 :: a3 :: a4 :: a5 :: a6 :: a7 :: a8 :: a9 :: a10 :: .int x :: L) st G I J ↔ AW d E K k pc2 (a0 :: a1 :: a2 :: a3 :: a4 :: a5 :: a6 :: a7 :: a8 :: a9 :: kil a10 :: .int (x + y) :: L) st G I J := by
  subst hp; subst hy; exact aw_gs ((stp_eq D rfl).trans rfl) (by simp only [List.length_cons]; omega)
theorem aw_iinc_12 {a0 a1 a2 a3 a4 a5 a6 a7 a8 a9 a10 a11 : Value} {x y : Int32} {n : Int} (D : decode (byt k) pc = .ok (.iinc 12 n, 3)) (hp : pc + 3 = pc2) (hy : Int32.ofInt n = y) : AW d E K k pc (a0 :: a1 :: a2 :: a3 :: a4 :: a5 :: a6 :: a7 :: a8 :: a9 :: a10 :: a11 :: .int x :: L) st G I J ↔ AW d E K k pc2 (a0 :: a1 :: a2 :: a3 :: a4 :: a5 :: a6 :: a7 :: a8 :: a9 :: a10 :: kil a11 :: .int (x + y) :: L) st G I J := by
  subst hp; subst hy; exact aw_gs ((stp_eq D rfl).trans rfl) (by simp only [List.length_cons]; omega)
theorem aw_iinc_13 {a0 a1 a2 a3 a4 a5 a6 a7 a8 a9 a10 a11 a12 : Value} {x y : Int32} {n : Int} (D : decode (byt k) pc = .ok (.iinc 13 n, 3)) (hp : pc + 3 = pc2) (hy : Int32.ofInt n = y) : AW d E K k pc (a0 :: a1 :: a2 :: a3 :: a4 :: a5 :: a6 :: a7 :: a8 :: a9 :: a10 :: a11 :: a12 :: .int x :: L) st G I J ↔ AW d E K k pc2 (a0 :: a1 :: a2 :: a3 :: a4 :: a5 :: a6 :: a7 :: a8 :: a9 :: a10 :: a11 :: kil a12 :: .int (x + y) :: L) st G I J := by
  subst hp; subst hy; exact aw_gs ((stp_eq D rfl).trans rfl) (by simp only [List.length_cons]; omega)
theorem aw_iinc_14 {a0 a1 a2 a3 a4 a5 a6 a7 a8 a9 a10 a11 a12 a13 : Value} {x y : Int32} {n : Int} (D : decode (byt k) pc = .ok (.iinc 14 n, 3)) (hp : pc + 3 = pc2) (hy : Int32.ofInt n = y) : AW d E K k pc (a0 :: a1 :: a2 :: a3 :: a4 :: a5 :: a6 :: a7 :: a8 :: a9 :: a10 :: a11 :: a12 :: a13 :: .int x :: L) st G I J ↔ AW d E K k pc2 (a0 :: a1 :: a2 :: a3 :: a4 :: a5 :: a6 :: a7 :: a8 :: a9 :: a10 :: a11 :: a12 :: kil a13 :: .int (x + y) :: L) st G I J := by
  subst hp; subst hy; exact aw_gs ((stp_eq D rfl).trans rfl) (by simp only [List.length_cons]; omega)
theorem aw_iinc_15 {a0 a1 a2 a3 a4 a5 a6 a7 a8 a9 a10 a11 a12 a13 a14 : Value} {x y : Int32} {n : Int} (D : decode (byt k) pc = .ok (.iinc 15 n, 3)) (hp : pc + 3 = pc2) (hy : Int32.ofInt n = y) : AW d E K k pc (a0 :: a1 :: a2 :: a3 :: a4 :: a5 :: a6 :: a7 :: a8 :: a9 :: a10 :: a11 :: a12 :: a13 :: a14 :: .int x :: L) st G I J ↔ AW d E K k pc2 (a0 :: a1 :: a2 :: a3 :: a4 :: a5 :: a6 :: a7 :: a8 :: a9 :: a10 :: a11 :: a12 :: a13 :: kil a14 :: .int (x + y) :: L) st G I J := by
  subst hp; subst hy; exact aw_gs ((stp_eq D rfl).trans rfl) (by simp only [List.length_cons]; omega)
theorem aw_iconst {n : Int} {y : Int32} (D : decode (byt k) pc = .ok (.iconst n, 1)) (hp : pc + 1 = pc2) (hy : Int32.ofInt n = y) : AW d E K k pc L (st) G I J ↔ AW d E K k pc2 L (.int y :: st) G I J := by
  subst hp; subst hy; exact aw_go ((stp_eq D rfl).trans rfl)
theorem aw_bipush {n : Int} {y : Int32} (D : decode (byt k) pc = .ok (.bipush n, 2)) (hp : pc + 2 = pc2) (hy : (Int8.ofInt n).toInt32 = y) : AW d E K k pc L (st) G I J ↔ AW d E K k pc2 L (.int y :: st) G I J := by
  subst hp; subst hy; exact aw_go ((stp_eq D rfl).trans rfl)
theorem aw_sipush {n : Int} {y : Int32} (D : decode (byt k) pc = .ok (.sipush n, 3)) (hp : pc + 3 = pc2) (hy : (Int16.ofInt n).toInt32 = y) : AW d E K k pc L (st) G I J ↔ AW d E K k pc2 L (.int y :: st) G I J := by
  subst hp; subst hy; exact aw_go ((stp_eq D rfl).trans rfl)
theorem aw_lconst {n : Fin 2} {y : Int64} (D : decode (byt k) pc = .ok (.lconst n, 1)) (hp : pc + 1 = pc2) (hy : Int64.ofNat n = y) : AW d E K k pc L (st) G I J ↔ AW d E K k pc2 L (.long y :: st) G I J := by
  subst hp; subst hy; exact aw_go ((stp_eq D rfl).trans rfl)
theorem aw_null (D : decode (byt k) pc = .ok (.aconst_null, 1)) (hp : pc + 1 = pc2) : AW d E K k pc L (st) G I J ↔ AW d E K k pc2 L (.null :: st) G I J := by
  subst hp; exact aw_go ((stp_eq D rfl).trans rfl)
theorem aw_iadd {x y : Int32} (D : decode (byt k) pc = .ok (.iadd, 1)) (hp : pc + 1 = pc2) : AW d E K k pc L (.int y :: .int x :: st) G I J ↔ AW d E K k pc2 L (.int (x + y) :: st) G I J := by
  subst hp; exact aw_go ((stp_eq D rfl).trans rfl)
theorem aw_isub {x y : Int32} (D : decode (byt k) pc = .ok (.isub, 1)) (hp : pc + 1 = pc2) : AW d E K k pc L (.int y :: .int x :: st) G I J ↔ AW d E K k pc2 L (.int (x - y) :: st) G I J := by
  subst hp; exact aw_go ((stp_eq D rfl).trans rfl)
theorem aw_imul {x y : Int32} (D : decode (byt k) pc = .ok (.imul, 1)) (hp : pc + 1 = pc2) : AW d E K k pc L (.int y :: .int x :: st) G I J ↔ AW d E K k pc2 L (.int (x * y) :: st) G I J := by
  subst hp; exact aw_go ((stp_eq D rfl).trans rfl)
theorem aw_iand {x y : Int32} (D : decode (byt k) pc = .ok (.iand, 1)) (hp : pc + 1 = pc2) : AW d E K k pc L (.int y :: .int x :: st) G I J ↔ AW d E K k pc2 L (.int (x &&& y) :: st) G I J := by
  subst hp; exact aw_go ((stp_eq D rfl).trans rfl)
theorem aw_ior {x y : Int32} (D : decode (byt k) pc = .ok (.ior, 1)) (hp : pc + 1 = pc2) : AW d E K k pc L (.int y :: .int x :: st) G I J ↔ AW d E K k pc2 L (.int (x ||| y) :: st) G I J := by
  subst hp; exact aw_go ((stp_eq D rfl).trans rfl)
theorem aw_ixor {x y : Int32} (D : decode (byt k) pc = .ok (.ixor, 1)) (hp : pc + 1 = pc2) : AW d E K k pc L (.int y :: .int x :: st) G I J ↔ AW d E K k pc2 L (.int (x ^^^ y) :: st) G I J := by
  subst hp; exact aw_go ((stp_eq D rfl).trans rfl)
theorem aw_ishl {x y : Int32} (D : decode (byt k) pc = .ok (.ishl, 1)) (hp : pc + 1 = pc2) : AW d E K k pc L (.int y :: .int x :: st) G I J ↔ AW d E K k pc2 L (.int (x <<< (y &&& 31)) :: st) G I J := by
  subst hp; exact aw_go ((stp_eq D rfl).trans rfl)
theorem aw_ishr {x y : Int32} (D : decode (byt k) pc = .ok (.ishr, 1)) (hp : pc + 1 = pc2) : AW d E K k pc L (.int y :: .int x :: st) G I J ↔ AW d E K k pc2 L (.int (x >>> (y &&& 31)) :: st) G I J := by
  subst hp; exact aw_go ((stp_eq D rfl).trans rfl)
theorem aw_iushr {x y : Int32} (D : decode (byt k) pc = .ok (.iushr, 1)) (hp : pc + 1 = pc2) : AW d E K k pc L (.int y :: .int x :: st) G I J ↔ AW d E K k pc2 L (.int ((x.toUInt32 >>> (y.toUInt32 &&& Int32.toUInt32 31)).toInt32) :: st) G I J := by
  subst hp; exact aw_go ((stp_eq D rfl).trans rfl)
theorem aw_ladd {x y : Int64} (D : decode (byt k) pc = .ok (.ladd, 1)) (hp : pc + 1 = pc2) : AW d E K k pc L (.long y :: .long x :: st) G I J ↔ AW d E K k pc2 L (.long (x + y) :: st) G I J := by
  subst hp; exact aw_go ((stp_eq D rfl).trans rfl)
theorem aw_lsub {x y : Int64} (D : decode (byt k) pc = .ok (.lsub, 1)) (hp : pc + 1 = pc2) : AW d E K k pc L (.long y :: .long x :: st) G I J ↔ AW d E K k pc2 L (.long (x - y) :: st) G I J := by
  subst hp; exact aw_go ((stp_eq D rfl).trans rfl)
theorem aw_lmul {x y : Int64} (D : decode (byt k) pc = .ok (.lmul, 1)) (hp : pc + 1 = pc2) : AW d E K k pc L (.long y :: .long x :: st) G I J ↔ AW d E K k pc2 L (.long (x * y) :: st) G I J := by
  subst hp; exact aw_go ((stp_eq D rfl).trans rfl)
theorem aw_land {x y : Int64} (D : decode (byt k) pc = .ok (.land, 1)) (hp : pc + 1 = pc2) : AW d E K k pc L (.long y :: .long x :: st) G I J ↔ AW d E K k pc2 L (.long (x &&& y) :: st) G I J := by
  subst hp; exact aw_go ((stp_eq D rfl).trans rfl)
theorem aw_lor {x y : Int64} (D : decode (byt k) pc = .ok (.lor, 1)) (hp : pc + 1 = pc2) : AW d E K k pc L (.long y :: .long x :: st) G I J ↔ AW d E K k pc2 L (.long (x ||| y) :: st) G I J := by
  subst hp; exact aw_go ((stp_eq D rfl).trans rfl)
theorem aw_lxor {x y : Int64} (D : decode (byt k) pc = .ok (.lxor, 1)) (hp : pc + 1 = pc2) : AW d E K k pc L (.long y :: .long x :: st) G I J ↔ AW d E K k pc2 L (.long (x ^^^ y) :: st) G I J := by
  subst hp; exact aw_go ((stp_eq D rfl).trans rfl)
theorem aw_lshl {x : Int64} {y : Int32} (D : decode (byt k) pc = .ok (.lshl, 1)) (hp : pc + 1 = pc2) : AW d E K k pc L (.int y :: .long x :: st) G I J ↔ AW d E K k pc2 L (.long (x <<< (y.toInt64 &&& 63)) :: st) G I J := by
  subst hp; exact aw_go ((stp_eq D rfl).trans rfl)
theorem aw_lshr {x : Int64} {y : Int32} (D : decode (byt k) pc = .ok (.lshr, 1)) (hp : pc + 1 = pc2) : AW d E K k pc L (.int y :: .long x :: st) G I J ↔ AW d E K k pc2 L (.long (x >>> (y.toInt64 &&& 63)) :: st) G I J := by
  subst hp; exact aw_go ((stp_eq D rfl).trans rfl)
theorem aw_lushr {x : Int64} {y : Int32} (D : decode (byt k) pc = .ok (.lushr, 1)) (hp : pc + 1 = pc2) : AW d E K k pc L (.int y :: .long x :: st) G I J ↔ AW d E K k pc2 L (.long ((x.toUInt64 >>> (y.toInt64.toUInt64 &&& Int64.toUInt64 63)).toInt64) :: st) G I J := by
  subst hp; exact aw_go ((stp_eq D rfl).trans rfl)
theorem aw_lcmp {x y : Int64} (D : decode (byt k) pc = .ok (.lcmp, 1)) (hp : pc + 1 = pc2) : AW d E K k pc L (.long y :: .long x :: st) G I J ↔ AW d E K k pc2 L (.int (lg_cmp x y) :: st) G I J := by
  subst hp; exact aw_go ((stp_eq D rfl).trans rfl)
theorem aw_ineg {x : Int32} (D : decode (byt k) pc = .ok (.ineg, 1)) (hp : pc + 1 = pc2) : AW d E K k pc L (.int x :: st) G I J ↔ AW d E K k pc2 L (.int (-x) :: st) G I J := by
  subst hp; exact aw_go ((stp_eq D rfl).trans rfl)
theorem aw_i2l {x : Int32} (D : decode (byt k) pc = .ok (.i2l, 1)) (hp : pc + 1 = pc2) : AW d E K k pc L (.int x :: st) G I J ↔ AW d E K k pc2 L (.long x.toInt64 :: st) G I J := by
  subst hp; exact aw_go ((stp_eq D rfl).trans rfl)
theorem aw_l2i {x : Int64} (D : decode (byt k) pc = .ok (.l2i, 1)) (hp : pc + 1 = pc2) : AW d E K k pc L (.long x :: st) G I J ↔ AW d E K k pc2 L (.int x.toInt32 :: st) G I J := by
  subst hp; exact aw_go ((stp_eq D rfl).trans rfl)
theorem aw_idiv {x y : Int32} (D : decode (byt k) pc = .ok (.idiv, 1)) (hp : pc + 1 = pc2) : AW d E K k pc L (.int y :: .int x :: st) G I J ↔ (¬ y = 0) ∧ AW d E K k pc2 L (.int (x / y) :: st) G I J := by
  subst hp; exact aw_gt ((stp_eq D rfl).trans (rfl))
theorem aw_irem {x y : Int32} (D : decode (byt k) pc = .ok (.irem, 1)) (hp : pc + 1 = pc2) : AW d E K k pc L (.int y :: .int x :: st) G I J ↔ (¬ y = 0) ∧ AW d E K k pc2 L (.int (x - x / y * y) :: st) G I J := by
  subst hp; exact aw_gt ((stp_eq D rfl).trans (rfl))
theorem aw_ldiv {x y : Int64} (D : decode (byt k) pc = .ok (.ldiv, 1)) (hp : pc + 1 = pc2) : AW d E K k pc L (.long y :: .long x :: st) G I J ↔ (¬ y = 0) ∧ AW d E K k pc2 L (.long (x / y) :: st) G I J := by
  subst hp; exact aw_gt ((stp_eq D rfl).trans (rfl))
theorem aw_lrem {x y : Int64} (D : decode (byt k) pc = .ok (.lrem, 1)) (hp : pc + 1 = pc2) : AW d E K k pc L (.long y :: .long x :: st) G I J ↔ (¬ y = 0) ∧ AW d E K k pc2 L (.long (x - x / y * y) :: st) G I J := by
  subst hp; exact aw_gt ((stp_eq D rfl).trans (rfl))
theorem aw_iaload {j : Int32} {c : Nat} (D : decode (byt k) pc = .ok (.iaload, 1)) (hp : pc + 1 = pc2) : AW d E K k pc L (.int j :: .ref c :: st) G I J ↔ (iOK (shp G c) j) ∧ AW d E K k pc2 L (.int (I c j.toNatClampNeg) :: st) G I J := by
  subst hp; exact aw_gt ((stp_eq D rfl).trans (rfl))
theorem aw_laload {j : Int32} {c : Nat} (D : decode (byt k) pc = .ok (.laload, 1)) (hp : pc + 1 = pc2) : AW d E K k pc L (.int j :: .ref c :: st) G I J ↔ (jOK (shp G c) j) ∧ AW d E K k pc2 L (.long (J c j.toNatClampNeg) :: st) G I J := by
  subst hp; exact aw_gt ((stp_eq D rfl).trans (rfl))
theorem aw_baload {j : Int32} {c : Nat} (D : decode (byt k) pc = .ok (.baload, 1)) (hp : pc + 1 = pc2) : AW d E K k pc L (.int j :: .ref c :: st) G I J ↔ (wOK (shp G c) 3 j) ∧ AW d E K k pc2 L (.int (I c j.toNatClampNeg) :: st) G I J := by
  subst hp; exact aw_gt ((stp_eq D rfl).trans (rfl))
theorem aw_aaload {j : Int32} {c : Nat} (D : decode (byt k) pc = .ok (.aaload, 1)) (hp : pc + 1 = pc2) : AW d E K k pc L (.int j :: .ref c :: st) G I J ↔ (wOK (shp G c) 4 j) ∧ AW d E K k pc2 L (refV (G.2.2.2 c j.toNatClampNeg) :: st) G I J := by
  subst hp; exact aw_gt ((stp_eq D rfl).trans (rfl))
theorem aw_iastore {x j : Int32} {c : Nat} (D : decode (byt k) pc = .ok (.iastore, 1)) (hp : pc + 1 = pc2) : AW d E K k pc L (.int x :: .int j :: .ref c :: st) G I J ↔ (wOK (shp G c) 1 j) ∧ AW d E K k pc2 L (st) G (up2 I c j.toNatClampNeg x) J := by
  subst hp; exact aw_gt ((stp_eq D rfl).trans (rfl))
theorem aw_lastore {x : Int64} {j : Int32} {c : Nat} (D : decode (byt k) pc = .ok (.lastore, 1)) (hp : pc + 1 = pc2) : AW d E K k pc L (.long x :: .int j :: .ref c :: st) G I J ↔ (wOK (shp G c) 2 j) ∧ AW d E K k pc2 L (st) G I (up2 J c j.toNatClampNeg x) := by
  subst hp; exact aw_gt ((stp_eq D rfl).trans (rfl))
theorem aw_bastore {x j : Int32} {c : Nat} (D : decode (byt k) pc = .ok (.bastore, 1)) (hp : pc + 1 = pc2) : AW d E K k pc L (.int x :: .int j :: .ref c :: st) G I J ↔ (wOK (shp G c) 3 j ∧ (x = 0 ∨ x = 1)) ∧ AW d E K k pc2 L (st) G (up2 I c j.toNatClampNeg x) J := by
  subst hp; exact aw_gt ((stp_eq D rfl).trans (rfl))
theorem aw_aastore {j : Int32} {v c : Nat} (D : decode (byt k) pc = .ok (.aastore, 1)) (hp : pc + 1 = pc2) : AW d E K k pc L (.ref v :: .int j :: .ref c :: st) G I J ↔ (wOK (shp G c) 4 j ∧ shp G v = (0, 2)) ∧ AW d E K k pc2 L (st) (putR G c j.toNatClampNeg v) I J := by
  subst hp; exact aw_gt ((stp_eq D rfl).trans (rfl))
theorem aw_alen {c : Nat} (D : decode (byt k) pc = .ok (.arraylength, 1)) (hp : pc + 1 = pc2) : AW d E K k pc L (.ref c :: st) G I J ↔ (lOK (shp G c)) ∧ AW d E K k pc2 L (.int (Int32.ofNat (shp G c).2) :: st) G I J := by
  subst hp; exact aw_gt ((stp_eq D rfl).trans (rfl))
theorem aw_dup {v : Value} (D : decode (byt k) pc = .ok (.dup, 1)) (hp : pc + 1 = pc2) : AW d E K k pc L (v :: st) G I J ↔ (v.category = 1) ∧ AW d E K k pc2 L (v :: v :: st) G I J := by
  subst hp; exact aw_gt ((stp_eq D rfl).trans (rfl))
theorem aw_dup2 {a b : Value} (D : decode (byt k) pc = .ok (.dup2, 1)) (hp : pc + 1 = pc2) : AW d E K k pc L (a :: b :: st) G I J ↔ (a.category = 1 ∧ b.category = 1) ∧ AW d E K k pc2 L (a :: b :: a :: b :: st) G I J := by
  subst hp; exact aw_gt ((stp_eq D rfl).trans (rfl))
theorem aw_pop {v : Value} (D : decode (byt k) pc = .ok (.pop, 1)) (hp : pc + 1 = pc2) : AW d E K k pc L (v :: st) G I J ↔ (v.category = 1) ∧ AW d E K k pc2 L (st) G I J := by
  subst hp; exact aw_gt ((stp_eq D rfl).trans (rfl))
theorem aw_ldc {x : Nat} {v : Int32} (D : decode (byt k) pc = .ok (.ldc x, 2)) (hp : pc + 2 = pc2) (hv : ldcT (ocl k) x = some v) : AW d E K k pc L st G I J ↔ AW d E K k pc2 L (.int v :: st) G I J := by
  subst hp; refine aw_go ((stp_eq D rfl).trans ?_)
  show (match ldcT (ocl k) x with | some v => _ | none => none) = _
  rw [hv]
theorem aw_ldc_w {x : Nat} {v : Int32} (D : decode (byt k) pc = .ok (.ldc_w x, 3)) (hp : pc + 3 = pc2) (hv : ldcT (ocl k) x = some v) : AW d E K k pc L st G I J ↔ AW d E K k pc2 L (.int v :: st) G I J := by
  subst hp; refine aw_go ((stp_eq D rfl).trans ?_)
  show (match ldcT (ocl k) x with | some v => _ | none => none) = _
  rw [hv]
theorem aw_ldc2_w {x : Nat} {v : Int64} (D : decode (byt k) pc = .ok (.ldc2_w x, 3)) (hp : pc + 3 = pc2) (hv : ldlT (ocl k) x = some v) : AW d E K k pc L st G I J ↔ AW d E K k pc2 L (.long v :: st) G I J := by
  subst hp; refine aw_go ((stp_eq D rfl).trans ?_)
  show (match ldlT (ocl k) x with | some v => _ | none => none) = _
  rw [hv]
theorem aw_if_eq {x : Int32} {off : Int} {t : Nat} (D : decode (byt k) pc = .ok (.ifCond .eq off, 3)) (ht : (pc : Int) + off = (t : Int)) (hp : pc + 3 = pc2) : AW d E K k pc L (.int x :: st) G I J ↔ if x = 0 then AW d E K k t L st G I J else AW d E K k pc2 L st G I J := by
  subst hp; exact aw_br _ ((stp_eq D rfl).trans rfl) rfl (tgt_of ht)
theorem aw_if_ne {x : Int32} {off : Int} {t : Nat} (D : decode (byt k) pc = .ok (.ifCond .ne off, 3)) (ht : (pc : Int) + off = (t : Int)) (hp : pc + 3 = pc2) : AW d E K k pc L (.int x :: st) G I J ↔ if ¬ x = 0 then AW d E K k t L st G I J else AW d E K k pc2 L st G I J := by
  subst hp; exact aw_br _ ((stp_eq D rfl).trans rfl) rfl (tgt_of ht)
theorem aw_if_lt {x : Int32} {off : Int} {t : Nat} (D : decode (byt k) pc = .ok (.ifCond .lt off, 3)) (ht : (pc : Int) + off = (t : Int)) (hp : pc + 3 = pc2) : AW d E K k pc L (.int x :: st) G I J ↔ if x < 0 then AW d E K k t L st G I J else AW d E K k pc2 L st G I J := by
  subst hp; exact aw_br _ ((stp_eq D rfl).trans rfl) rfl (tgt_of ht)
theorem aw_if_ge {x : Int32} {off : Int} {t : Nat} (D : decode (byt k) pc = .ok (.ifCond .ge off, 3)) (ht : (pc : Int) + off = (t : Int)) (hp : pc + 3 = pc2) : AW d E K k pc L (.int x :: st) G I J ↔ if 0 ≤ x then AW d E K k t L st G I J else AW d E K k pc2 L st G I J := by
  subst hp; exact aw_br _ ((stp_eq D rfl).trans rfl) rfl (tgt_of ht)
theorem aw_if_gt {x : Int32} {off : Int} {t : Nat} (D : decode (byt k) pc = .ok (.ifCond .gt off, 3)) (ht : (pc : Int) + off = (t : Int)) (hp : pc + 3 = pc2) : AW d E K k pc L (.int x :: st) G I J ↔ if 0 < x then AW d E K k t L st G I J else AW d E K k pc2 L st G I J := by
  subst hp; exact aw_br _ ((stp_eq D rfl).trans rfl) rfl (tgt_of ht)
theorem aw_if_le {x : Int32} {off : Int} {t : Nat} (D : decode (byt k) pc = .ok (.ifCond .le off, 3)) (ht : (pc : Int) + off = (t : Int)) (hp : pc + 3 = pc2) : AW d E K k pc L (.int x :: st) G I J ↔ if x ≤ 0 then AW d E K k t L st G I J else AW d E K k pc2 L st G I J := by
  subst hp; exact aw_br _ ((stp_eq D rfl).trans rfl) rfl (tgt_of ht)
theorem aw_icmp_eq {x y : Int32} {off : Int} {t : Nat} (D : decode (byt k) pc = .ok (.if_icmp .eq off, 3)) (ht : (pc : Int) + off = (t : Int)) (hp : pc + 3 = pc2) : AW d E K k pc L (.int y :: .int x :: st) G I J ↔ if x = y then AW d E K k t L st G I J else AW d E K k pc2 L st G I J := by
  subst hp; exact aw_br _ ((stp_eq D rfl).trans rfl) rfl (tgt_of ht)
theorem aw_icmp_ne {x y : Int32} {off : Int} {t : Nat} (D : decode (byt k) pc = .ok (.if_icmp .ne off, 3)) (ht : (pc : Int) + off = (t : Int)) (hp : pc + 3 = pc2) : AW d E K k pc L (.int y :: .int x :: st) G I J ↔ if ¬ x = y then AW d E K k t L st G I J else AW d E K k pc2 L st G I J := by
  subst hp; exact aw_br _ ((stp_eq D rfl).trans rfl) rfl (tgt_of ht)
theorem aw_icmp_lt {x y : Int32} {off : Int} {t : Nat} (D : decode (byt k) pc = .ok (.if_icmp .lt off, 3)) (ht : (pc : Int) + off = (t : Int)) (hp : pc + 3 = pc2) : AW d E K k pc L (.int y :: .int x :: st) G I J ↔ if x < y then AW d E K k t L st G I J else AW d E K k pc2 L st G I J := by
  subst hp; exact aw_br _ ((stp_eq D rfl).trans rfl) rfl (tgt_of ht)
theorem aw_icmp_ge {x y : Int32} {off : Int} {t : Nat} (D : decode (byt k) pc = .ok (.if_icmp .ge off, 3)) (ht : (pc : Int) + off = (t : Int)) (hp : pc + 3 = pc2) : AW d E K k pc L (.int y :: .int x :: st) G I J ↔ if y ≤ x then AW d E K k t L st G I J else AW d E K k pc2 L st G I J := by
  subst hp; exact aw_br _ ((stp_eq D rfl).trans rfl) rfl (tgt_of ht)
theorem aw_icmp_gt {x y : Int32} {off : Int} {t : Nat} (D : decode (byt k) pc = .ok (.if_icmp .gt off, 3)) (ht : (pc : Int) + off = (t : Int)) (hp : pc + 3 = pc2) : AW d E K k pc L (.int y :: .int x :: st) G I J ↔ if y < x then AW d E K k t L st G I J else AW d E K k pc2 L st G I J := by
  subst hp; exact aw_br _ ((stp_eq D rfl).trans rfl) rfl (tgt_of ht)
theorem aw_icmp_le {x y : Int32} {off : Int} {t : Nat} (D : decode (byt k) pc = .ok (.if_icmp .le off, 3)) (ht : (pc : Int) + off = (t : Int)) (hp : pc + 3 = pc2) : AW d E K k pc L (.int y :: .int x :: st) G I J ↔ if x ≤ y then AW d E K k t L st G I J else AW d E K k pc2 L st G I J := by
  subst hp; exact aw_br _ ((stp_eq D rfl).trans rfl) rfl (tgt_of ht)
theorem goTo_of {t : Option Nat} {u : Nat} (h : t = some u) : goTo t L st G I J = rN u L st G I J := by rw [h]; rfl
theorem aw_goto {off : Int} {t : Nat} (D : decode (byt k) pc = .ok (.goto off, 3)) (ht : (pc : Int) + off = (t : Int)) : AW d E K k pc L st G I J ↔ AW d E K k t L st G I J := aw_go ((stp_eq D rfl).trans (goTo_of (tgt_of ht)))
theorem aw_ifnullN {off : Int} {t : Nat} (D : decode (byt k) pc = .ok (.ifnull off, 3)) (ht : (pc : Int) + off = (t : Int)) : AW d E K k pc L (.null :: st) G I J ↔ AW d E K k t L st G I J := aw_go ((stp_eq D rfl).trans (goTo_of (tgt_of ht)))
theorem aw_ifnull {off : Int} {c : Nat} (D : decode (byt k) pc = .ok (.ifnull off, 3)) (hp : pc + 3 = pc2) : AW d E K k pc L (.ref c :: st) G I J ↔ AW d E K k pc2 L st G I J := by
  subst hp; exact aw_go ((stp_eq D rfl).trans rfl)
theorem aw_ifnonnull {off : Int} {t c : Nat} (D : decode (byt k) pc = .ok (.ifnonnull off, 3)) (ht : (pc : Int) + off = (t : Int)) : AW d E K k pc L (.ref c :: st) G I J ↔ AW d E K k t L st G I J := aw_go ((stp_eq D rfl).trans (goTo_of (tgt_of ht)))
theorem aw_ifnonnullN {off : Int} (D : decode (byt k) pc = .ok (.ifnonnull off, 3)) (hp : pc + 3 = pc2) : AW d E K k pc L (.null :: st) G I J ↔ AW d E K k pc2 L st G I J := by
  subst hp; exact aw_go ((stp_eq D rfl).trans rfl)
theorem aw_tabOut {x : Int32} {dd lo hi : Int} {offs : Array Int} {len t : Nat} (D : decode (byt k) pc = .ok (.tableswitch dd lo hi offs, len)) (h : x.toInt < lo ∨ hi < x.toInt) (ht : (pc : Int) + dd = (t : Int)) : AW d E K k pc L (.int x :: st) G I J ↔ AW d E K k t L st G I J := by
  refine aw_go ((stp_eq D rfl).trans ?_)
  show (if x.toInt < lo ∨ hi < x.toInt then _ else _) = _
  rw [if_pos h]
  exact goTo_of (tgt_of ht)
theorem aw_tabIn {x : Int32} {dd lo hi off : Int} {offs : Array Int} {len t j : Nat} (D : decode (byt k) pc = .ok (.tableswitch dd lo hi offs, len)) (h : x.toInt = lo + (j : Int)) (hj : lo + (j : Int) ≤ hi) (ho : offs[j]? = some off) (ht : (pc : Int) + off = (t : Int)) : AW d E K k pc L (.int x :: st) G I J ↔ AW d E K k t L st G I J := by
  refine aw_go ((stp_eq D rfl).trans ?_)
  show (if x.toInt < lo ∨ hi < x.toInt then _ else _) = _
  rw [if_neg (by omega), h, show (lo + (j : Int) - lo).toNat = j by omega, ho]
  exact goTo_of (tgt_of ht)
theorem aw_getI {x ci fk c : Nat} (D : decode (byt k) pc = .ok (.getfield x, 3)) (hp : pc + 3 = pc2) (hf : fldT (ocl k) x = some (ci, fk)) (ht : (fty ci fk == 2) = false) : AW d E K k pc L (.ref c :: st) G I J ↔ shp G c = (0, ci) ∧ AW d E K k pc2 L (.int (I c fk) :: st) G I J := by
  subst hp
  refine aw_gt ((stp_eq D rfl).trans ?_)
  show doGet k pc (fldT (ocl k) x) L _ G I J = _
  rw [hf]
  show gteP _ (rN (pc + 3) L (fvl G I c ci fk :: st) G I J) = _
  rw [show fvl G I c ci fk = .int (I c fk) by unfold fvl; split <;> simp_all]
theorem aw_getR {x ci fk c : Nat} (D : decode (byt k) pc = .ok (.getfield x, 3)) (hp : pc + 3 = pc2) (hf : fldT (ocl k) x = some (ci, fk)) (ht : (fty ci fk == 2) = true) : AW d E K k pc L (.ref c :: st) G I J ↔ shp G c = (0, ci) ∧ AW d E K k pc2 L (refV (G.2.2.2 c fk) :: st) G I J := by
  subst hp
  refine aw_gt ((stp_eq D rfl).trans ?_)
  show doGet k pc (fldT (ocl k) x) L _ G I J = _
  rw [hf]
  show gteP _ (rN (pc + 3) L (fvl G I c ci fk :: st) G I J) = _
  rw [show fvl G I c ci fk = refV (G.2.2.2 c fk) by unfold fvl; split <;> simp_all]
theorem aw_putI {x ci fk c : Nat} {v : Int32} (D : decode (byt k) pc = .ok (.putfield x, 3)) (hp : pc + 3 = pc2) (hf : fldT (ocl k) x = some (ci, fk)) (ht : fty ci fk = 0) : AW d E K k pc L (.int v :: .ref c :: st) G I J ↔ shp G c = (0, ci) ∧ AW d E K k pc2 L st G (up2 I c fk v) J := by
  subst hp
  refine (aw_gt ((stp_eq D rfl).trans (show doPut k pc (fldT (ocl k) x) L _ G I J = gteP _ (rN (pc + 3) L st G (up2 I c fk v) J) by rw [hf]; exact rfl))).trans ?_
  constructor
  · intro q; exact ⟨q.1.1, q.2⟩
  · intro q; exact ⟨⟨q.1, Or.inl ht⟩, q.2⟩
theorem aw_putZ {x ci fk c : Nat} {v : Int32} (D : decode (byt k) pc = .ok (.putfield x, 3)) (hp : pc + 3 = pc2) (hf : fldT (ocl k) x = some (ci, fk)) (ht : fty ci fk = 1) : AW d E K k pc L (.int v :: .ref c :: st) G I J ↔ (shp G c = (0, ci) ∧ (v = 0 ∨ v = 1)) ∧ AW d E K k pc2 L st G (up2 I c fk v) J := by
  subst hp
  refine (aw_gt ((stp_eq D rfl).trans (show doPut k pc (fldT (ocl k) x) L _ G I J = gteP _ (rN (pc + 3) L st G (up2 I c fk v) J) by rw [hf]; exact rfl))).trans ?_
  constructor
  · intro q; exact ⟨⟨q.1.1, by rcases q.1.2 with z | z; exact absurd (ht.symm.trans z) (by decide); exact z.2⟩, q.2⟩
  · intro q; exact ⟨⟨q.1.1, Or.inr ⟨ht, q.1.2⟩⟩, q.2⟩
theorem aw_putR {x ci fk c v : Nat} (D : decode (byt k) pc = .ok (.putfield x, 3)) (hp : pc + 3 = pc2) (hf : fldT (ocl k) x = some (ci, fk)) (ht : fty ci fk = 2 ∧ isCt k = true ∧ ocl k = ci) : AW d E K k pc L (.ref v :: .ref c :: st) G I J ↔ shp G c = (0, ci) ∧ AW d E K k pc2 L st (putR G c fk v) I J := by
  subst hp
  refine (aw_gt ((stp_eq D rfl).trans (show doPut k pc (fldT (ocl k) x) L _ G I J = gteP _ (rN (pc + 3) L st (putR G c fk v) I J) by rw [hf]; exact rfl))).trans ?_
  constructor
  · intro q; exact ⟨q.1.1, q.2⟩
  · intro q; exact ⟨⟨q.1, ht⟩, q.2⟩
theorem aw_getS {x : Nat} (D : decode (byt k) pc = .ok (.getstatic x, 3)) (hp : pc + 3 = pc2) (hf : ocl k = 6 ∧ x = 256) : AW d E K k pc L st G I J ↔ AW d E K k pc2 L (.ref patC :: st) G I J := by
  subst hp
  refine aw_go ((stp_eq D rfl).trans ?_)
  show (if ocl k = 6 ∧ x = 256 then _ else _) = _
  rw [if_pos hf]
theorem aw_new {x ci : Nat} (D : decode (byt k) pc = .ok (.new x, 3)) (hp : pc + 3 = pc2) (hf : newT (ocl k) x = some ci) : AW d E K k pc L st G I J ↔ (G.1 + 1 ≤ E.1 ∧ G.2.1 + nfs ci ≤ E.2) ∧ AW d E K k pc2 L (.ref G.1 :: st) (newO G ci) (up1 I G.1 (fun _ => 0)) J := by
  subst hp
  refine aw_gt ((stp_eq D rfl).trans ?_)
  show doNew pc (newT (ocl k) x) L st G I J E = _
  rw [hf]
  rfl
theorem aw_newa_int {x : Int32} {N : Nat} (D : decode (byt k) pc = .ok (.newarray .int, 2)) (hp : pc + 2 = pc2) (hN : x.toNatClampNeg = N) (h0 : ¬ x < 0 ∧ N ≤ 60000000) : AW d E K k pc L (.int x :: st) G I J ↔ (G.1 + 1 ≤ E.1 ∧ G.2.1 + N ≤ E.2) ∧ AW d E K k pc2 L (.ref G.1 :: st) (newA G 1 N) (up1 I G.1 (fun _ => 0)) J := by
  subst hp; subst hN
  refine (aw_gt ((stp_eq D rfl).trans rfl)).trans ?_
  exact ⟨fun q => ⟨⟨q.1.2.2.1, q.1.2.2.2⟩, q.2⟩, fun q => ⟨⟨h0.1, h0.2, q.1.1, q.1.2⟩, q.2⟩⟩
theorem aw_newa_boolean {x : Int32} {N : Nat} (D : decode (byt k) pc = .ok (.newarray .boolean, 2)) (hp : pc + 2 = pc2) (hN : x.toNatClampNeg = N) (h0 : ¬ x < 0 ∧ N ≤ 60000000) : AW d E K k pc L (.int x :: st) G I J ↔ (G.1 + 1 ≤ E.1 ∧ G.2.1 + N ≤ E.2) ∧ AW d E K k pc2 L (.ref G.1 :: st) (newA G 3 N) (up1 I G.1 (fun _ => 0)) J := by
  subst hp; subst hN
  refine (aw_gt ((stp_eq D rfl).trans rfl)).trans ?_
  exact ⟨fun q => ⟨⟨q.1.2.2.1, q.1.2.2.2⟩, q.2⟩, fun q => ⟨⟨h0.1, h0.2, q.1.1, q.1.2⟩, q.2⟩⟩
theorem aw_newa_long {x : Int32} {N : Nat} (D : decode (byt k) pc = .ok (.newarray .long, 2)) (hp : pc + 2 = pc2) (hN : x.toNatClampNeg = N) (h0 : ¬ x < 0 ∧ N ≤ 60000000) : AW d E K k pc L (.int x :: st) G I J ↔ (G.1 + 1 ≤ E.1 ∧ G.2.1 + N ≤ E.2) ∧ AW d E K k pc2 L (.ref G.1 :: st) (newA G 2 N) I (up1 J G.1 (fun _ => 0)) := by
  subst hp; subst hN
  refine (aw_gt ((stp_eq D rfl).trans rfl)).trans ?_
  exact ⟨fun q => ⟨⟨q.1.2.2.1, q.1.2.2.2⟩, q.2⟩, fun q => ⟨⟨h0.1, h0.2, q.1.1, q.1.2⟩, q.2⟩⟩
theorem aw_newq {y : Nat} {x : Int32} {N : Nat} (D : decode (byt k) pc = .ok (.anewarray y, 3)) (hp : pc + 3 = pc2) (hf : newT (ocl k) y = some 2) (hN : x.toNatClampNeg = N) (h0 : ¬ x < 0 ∧ N ≤ 60000000) : AW d E K k pc L (.int x :: st) G I J ↔ (G.1 + 1 ≤ E.1 ∧ G.2.1 + N ≤ E.2) ∧ AW d E K k pc2 L (.ref G.1 :: st) (newA G 4 N) I J := by
  subst hp; subst hN
  refine (aw_gt ((stp_eq D rfl).trans (show doNewQ pc (newT (ocl k) y) L _ G I J E = gteP _ (rN (pc + 3) L (.ref G.1 :: st) (newA G 4 x.toNatClampNeg) I J) by rw [hf]; exact rfl))).trans ?_
  exact ⟨fun q => ⟨⟨q.1.2.2.1, q.1.2.2.2⟩, q.2⟩, fun q => ⟨⟨h0.1, h0.2, q.1.1, q.1.2⟩, q.2⟩⟩
theorem inv_of {sort x pc0 : Nat} {kd y : Nat} (hc : calT (ocl k) x = some (kd, y)) : doInv sort pc0 (calT (ocl k) x) L st G I J E = doInv sort pc0 (some (kd, y)) L st G I J E := by rw [hc]
theorem doV_of {y n o : Nat} {as : List Value} {c : Nat} (hn : npr y = n) (ho : ocl y = o) (h1 : as.length = n) : doV y pc L (as ++ .ref c :: st) G = gteP (shp G c = (0, o) ∧ catS st ≤ 8) (rC y (.ref c :: as.reverse) (pc + 3) L st) := by
  unfold doV
  rw [hn, ho, ← h1, List.drop_left, List.take_left]
theorem doI_of {y n : Nat} {as : List Value} {c : Nat} (hn : npr y = n) (h1 : as.length = n) : doI y pc L (as ++ .ref c :: st) G E = gteP (catS st ≤ 8 ∧ G.1 + (mcs y).1 ≤ E.1 ∧ G.2.1 + (mcs y).2 ≤ E.2) (rC y (.ref c :: as.reverse) (pc + 3) L st) := by
  unfold doI
  rw [hn, ← h1, List.drop_left, List.take_left]
theorem doS_of {y n : Nat} {as : List Value} (hn : npr y = n) (h1 : as.length = n) : doS y pc L (as ++ st) = gteP (n ≤ (as ++ st).length ∧ catS st ≤ 8) (rC y as.reverse (pc + 3) L st) := by
  unfold doS
  rw [hn, ← h1, List.drop_left, List.take_left]
theorem aw_iv0_0 {x y o c : Nat} (D : decode (byt k) pc = .ok (.invokevirtual x, 3)) (hp : pc + 3 = pc2) (hc : calT (ocl k) x = some (0, y)) (hn : npr y = 0) (ho : ocl y = o) : AW d E K k pc L (.ref c :: st) G I J ↔ (shp G c = (0, o) ∧ catS st ≤ 8) ∧ ACall d y [.ref c] G I J (fun v G I J => AW d E K k pc2 L (psh v st) G I J) := by
  subst hp
  exact aw_gc ((stp_eq D rfl).trans ((inv_of (sort := 0) (pc0 := pc) hc).trans (doV_of (as := []) hn ho rfl)))
theorem aw_iv0_1 {x y o c : Nat} (D : decode (byt k) pc = .ok (.invokevirtual x, 3)) (hp : pc + 3 = pc2) (hc : calT (ocl k) x = some (1, y)) (hn : npr y = 0) (ho : ocl y = o) : AW d E K k pc L (.ref c :: st) G I J ↔ (shp G c = (0, o) ∧ catS st ≤ 8) ∧ ACall d y [.ref c] G I J (fun v G I J => AW d E K k pc2 L (psh v st) G I J) := by
  subst hp
  exact aw_gc ((stp_eq D rfl).trans ((inv_of (sort := 0) (pc0 := pc) hc).trans (doV_of (as := []) hn ho rfl)))
theorem aw_is0_2 {x y : Nat} (D : decode (byt k) pc = .ok (.invokestatic x, 3)) (hp : pc + 3 = pc2) (hc : calT (ocl k) x = some (2, y)) (hn : npr y = 0) : AW d E K k pc L (st) G I J ↔ catS st ≤ 8 ∧ ACall d y [] G I J (fun v G I J => AW d E K k pc2 L (psh v st) G I J) := by
  subst hp
  refine (aw_gc ((stp_eq D rfl).trans ((inv_of (sort := 1) (pc0 := pc) hc).trans (doS_of (as := []) hn rfl)))).trans ?_
  exact ⟨fun q => ⟨q.1.2, q.2⟩, fun q => ⟨⟨by simp, q.1⟩, q.2⟩⟩
theorem aw_is0_3 {x y : Nat} (D : decode (byt k) pc = .ok (.invokestatic x, 3)) (hp : pc + 3 = pc2) (hc : calT (ocl k) x = some (3, y)) (hn : npr y = 0) : AW d E K k pc L (st) G I J ↔ catS st ≤ 8 ∧ ACall d y [] G I J (fun v G I J => AW d E K k pc2 L (psh v st) G I J) := by
  subst hp
  refine (aw_gc ((stp_eq D rfl).trans ((inv_of (sort := 1) (pc0 := pc) hc).trans (doS_of (as := []) hn rfl)))).trans ?_
  exact ⟨fun q => ⟨q.1.2, q.2⟩, fun q => ⟨⟨by simp, q.1⟩, q.2⟩⟩
theorem aw_ii0_4 {x y c : Nat} (D : decode (byt k) pc = .ok (.invokespecial x, 3)) (hp : pc + 3 = pc2) (hc : calT (ocl k) x = some (4, y)) (hn : npr y = 0) : AW d E K k pc L (.ref c :: st) G I J ↔ (catS st ≤ 8 ∧ G.1 + (mcs y).1 ≤ E.1 ∧ G.2.1 + (mcs y).2 ≤ E.2) ∧ ACall d y [.ref c] G I J (fun v G I J => AW d E K k pc2 L (psh v st) G I J) := by
  subst hp
  exact aw_gc ((stp_eq D rfl).trans ((inv_of (sort := 2) (pc0 := pc) hc).trans (doI_of (as := []) hn rfl)))
theorem aw_ii0_5 {x y c : Nat} (D : decode (byt k) pc = .ok (.invokespecial x, 3)) (hp : pc + 3 = pc2) (hc : calT (ocl k) x = some (5, y)) (hn : npr y = 0) : AW d E K k pc L (.ref c :: st) G I J ↔ (catS st ≤ 8 ∧ G.1 + (mcs y).1 ≤ E.1 ∧ G.2.1 + (mcs y).2 ≤ E.2) ∧ ACall d y [.ref c] G I J (fun v G I J => AW d E K k pc2 L (psh v st) G I J) := by
  subst hp
  exact aw_gc ((stp_eq D rfl).trans ((inv_of (sort := 2) (pc0 := pc) hc).trans (doI_of (as := []) hn rfl)))
theorem aw_iv1_0 {a1 : Value} {x y o c : Nat} (D : decode (byt k) pc = .ok (.invokevirtual x, 3)) (hp : pc + 3 = pc2) (hc : calT (ocl k) x = some (0, y)) (hn : npr y = 1) (ho : ocl y = o) : AW d E K k pc L (a1 :: .ref c :: st) G I J ↔ (shp G c = (0, o) ∧ catS st ≤ 8) ∧ ACall d y [.ref c, a1] G I J (fun v G I J => AW d E K k pc2 L (psh v st) G I J) := by
  subst hp
  exact aw_gc ((stp_eq D rfl).trans ((inv_of (sort := 0) (pc0 := pc) hc).trans (doV_of (as := [a1]) hn ho rfl)))
theorem aw_iv1_1 {a1 : Value} {x y o c : Nat} (D : decode (byt k) pc = .ok (.invokevirtual x, 3)) (hp : pc + 3 = pc2) (hc : calT (ocl k) x = some (1, y)) (hn : npr y = 1) (ho : ocl y = o) : AW d E K k pc L (a1 :: .ref c :: st) G I J ↔ (shp G c = (0, o) ∧ catS st ≤ 8) ∧ ACall d y [.ref c, a1] G I J (fun v G I J => AW d E K k pc2 L (psh v st) G I J) := by
  subst hp
  exact aw_gc ((stp_eq D rfl).trans ((inv_of (sort := 0) (pc0 := pc) hc).trans (doV_of (as := [a1]) hn ho rfl)))
theorem aw_is1_2 {a1 : Value} {x y : Nat} (D : decode (byt k) pc = .ok (.invokestatic x, 3)) (hp : pc + 3 = pc2) (hc : calT (ocl k) x = some (2, y)) (hn : npr y = 1) : AW d E K k pc L (a1 :: st) G I J ↔ catS st ≤ 8 ∧ ACall d y [a1] G I J (fun v G I J => AW d E K k pc2 L (psh v st) G I J) := by
  subst hp
  refine (aw_gc ((stp_eq D rfl).trans ((inv_of (sort := 1) (pc0 := pc) hc).trans (doS_of (as := [a1]) hn rfl)))).trans ?_
  exact ⟨fun q => ⟨q.1.2, q.2⟩, fun q => ⟨⟨by simp, q.1⟩, q.2⟩⟩
theorem aw_is1_3 {a1 : Value} {x y : Nat} (D : decode (byt k) pc = .ok (.invokestatic x, 3)) (hp : pc + 3 = pc2) (hc : calT (ocl k) x = some (3, y)) (hn : npr y = 1) : AW d E K k pc L (a1 :: st) G I J ↔ catS st ≤ 8 ∧ ACall d y [a1] G I J (fun v G I J => AW d E K k pc2 L (psh v st) G I J) := by
  subst hp
  refine (aw_gc ((stp_eq D rfl).trans ((inv_of (sort := 1) (pc0 := pc) hc).trans (doS_of (as := [a1]) hn rfl)))).trans ?_
  exact ⟨fun q => ⟨q.1.2, q.2⟩, fun q => ⟨⟨by simp, q.1⟩, q.2⟩⟩
theorem aw_iv2_0 {a1 a2 : Value} {x y o c : Nat} (D : decode (byt k) pc = .ok (.invokevirtual x, 3)) (hp : pc + 3 = pc2) (hc : calT (ocl k) x = some (0, y)) (hn : npr y = 2) (ho : ocl y = o) : AW d E K k pc L (a2 :: a1 :: .ref c :: st) G I J ↔ (shp G c = (0, o) ∧ catS st ≤ 8) ∧ ACall d y [.ref c, a1, a2] G I J (fun v G I J => AW d E K k pc2 L (psh v st) G I J) := by
  subst hp
  exact aw_gc ((stp_eq D rfl).trans ((inv_of (sort := 0) (pc0 := pc) hc).trans (doV_of (as := [a2, a1]) hn ho rfl)))
theorem aw_iv2_1 {a1 a2 : Value} {x y o c : Nat} (D : decode (byt k) pc = .ok (.invokevirtual x, 3)) (hp : pc + 3 = pc2) (hc : calT (ocl k) x = some (1, y)) (hn : npr y = 2) (ho : ocl y = o) : AW d E K k pc L (a2 :: a1 :: .ref c :: st) G I J ↔ (shp G c = (0, o) ∧ catS st ≤ 8) ∧ ACall d y [.ref c, a1, a2] G I J (fun v G I J => AW d E K k pc2 L (psh v st) G I J) := by
  subst hp
  exact aw_gc ((stp_eq D rfl).trans ((inv_of (sort := 0) (pc0 := pc) hc).trans (doV_of (as := [a2, a1]) hn ho rfl)))
theorem aw_is2_2 {a1 a2 : Value} {x y : Nat} (D : decode (byt k) pc = .ok (.invokestatic x, 3)) (hp : pc + 3 = pc2) (hc : calT (ocl k) x = some (2, y)) (hn : npr y = 2) : AW d E K k pc L (a2 :: a1 :: st) G I J ↔ catS st ≤ 8 ∧ ACall d y [a1, a2] G I J (fun v G I J => AW d E K k pc2 L (psh v st) G I J) := by
  subst hp
  refine (aw_gc ((stp_eq D rfl).trans ((inv_of (sort := 1) (pc0 := pc) hc).trans (doS_of (as := [a2, a1]) hn rfl)))).trans ?_
  exact ⟨fun q => ⟨q.1.2, q.2⟩, fun q => ⟨⟨by simp, q.1⟩, q.2⟩⟩
theorem aw_is2_3 {a1 a2 : Value} {x y : Nat} (D : decode (byt k) pc = .ok (.invokestatic x, 3)) (hp : pc + 3 = pc2) (hc : calT (ocl k) x = some (3, y)) (hn : npr y = 2) : AW d E K k pc L (a2 :: a1 :: st) G I J ↔ catS st ≤ 8 ∧ ACall d y [a1, a2] G I J (fun v G I J => AW d E K k pc2 L (psh v st) G I J) := by
  subst hp
  refine (aw_gc ((stp_eq D rfl).trans ((inv_of (sort := 1) (pc0 := pc) hc).trans (doS_of (as := [a2, a1]) hn rfl)))).trans ?_
  exact ⟨fun q => ⟨q.1.2, q.2⟩, fun q => ⟨⟨by simp, q.1⟩, q.2⟩⟩
theorem aw_iv3_0 {a1 a2 a3 : Value} {x y o c : Nat} (D : decode (byt k) pc = .ok (.invokevirtual x, 3)) (hp : pc + 3 = pc2) (hc : calT (ocl k) x = some (0, y)) (hn : npr y = 3) (ho : ocl y = o) : AW d E K k pc L (a3 :: a2 :: a1 :: .ref c :: st) G I J ↔ (shp G c = (0, o) ∧ catS st ≤ 8) ∧ ACall d y [.ref c, a1, a2, a3] G I J (fun v G I J => AW d E K k pc2 L (psh v st) G I J) := by
  subst hp
  exact aw_gc ((stp_eq D rfl).trans ((inv_of (sort := 0) (pc0 := pc) hc).trans (doV_of (as := [a3, a2, a1]) hn ho rfl)))
theorem aw_iv3_1 {a1 a2 a3 : Value} {x y o c : Nat} (D : decode (byt k) pc = .ok (.invokevirtual x, 3)) (hp : pc + 3 = pc2) (hc : calT (ocl k) x = some (1, y)) (hn : npr y = 3) (ho : ocl y = o) : AW d E K k pc L (a3 :: a2 :: a1 :: .ref c :: st) G I J ↔ (shp G c = (0, o) ∧ catS st ≤ 8) ∧ ACall d y [.ref c, a1, a2, a3] G I J (fun v G I J => AW d E K k pc2 L (psh v st) G I J) := by
  subst hp
  exact aw_gc ((stp_eq D rfl).trans ((inv_of (sort := 0) (pc0 := pc) hc).trans (doV_of (as := [a3, a2, a1]) hn ho rfl)))
theorem aw_is3_2 {a1 a2 a3 : Value} {x y : Nat} (D : decode (byt k) pc = .ok (.invokestatic x, 3)) (hp : pc + 3 = pc2) (hc : calT (ocl k) x = some (2, y)) (hn : npr y = 3) : AW d E K k pc L (a3 :: a2 :: a1 :: st) G I J ↔ catS st ≤ 8 ∧ ACall d y [a1, a2, a3] G I J (fun v G I J => AW d E K k pc2 L (psh v st) G I J) := by
  subst hp
  refine (aw_gc ((stp_eq D rfl).trans ((inv_of (sort := 1) (pc0 := pc) hc).trans (doS_of (as := [a3, a2, a1]) hn rfl)))).trans ?_
  exact ⟨fun q => ⟨q.1.2, q.2⟩, fun q => ⟨⟨by simp, q.1⟩, q.2⟩⟩
theorem aw_is3_3 {a1 a2 a3 : Value} {x y : Nat} (D : decode (byt k) pc = .ok (.invokestatic x, 3)) (hp : pc + 3 = pc2) (hc : calT (ocl k) x = some (3, y)) (hn : npr y = 3) : AW d E K k pc L (a3 :: a2 :: a1 :: st) G I J ↔ catS st ≤ 8 ∧ ACall d y [a1, a2, a3] G I J (fun v G I J => AW d E K k pc2 L (psh v st) G I J) := by
  subst hp
  refine (aw_gc ((stp_eq D rfl).trans ((inv_of (sort := 1) (pc0 := pc) hc).trans (doS_of (as := [a3, a2, a1]) hn rfl)))).trans ?_
  exact ⟨fun q => ⟨q.1.2, q.2⟩, fun q => ⟨⟨by simp, q.1⟩, q.2⟩⟩
theorem aw_iv4_0 {a1 a2 a3 a4 : Value} {x y o c : Nat} (D : decode (byt k) pc = .ok (.invokevirtual x, 3)) (hp : pc + 3 = pc2) (hc : calT (ocl k) x = some (0, y)) (hn : npr y = 4) (ho : ocl y = o) : AW d E K k pc L (a4 :: a3 :: a2 :: a1 :: .ref c :: st) G I J ↔ (shp G c = (0, o) ∧ catS st ≤ 8) ∧ ACall d y [.ref c, a1, a2, a3, a4] G I J (fun v G I J => AW d E K k pc2 L (psh v st) G I J) := by
  subst hp
  exact aw_gc ((stp_eq D rfl).trans ((inv_of (sort := 0) (pc0 := pc) hc).trans (doV_of (as := [a4, a3, a2, a1]) hn ho rfl)))
theorem aw_iv4_1 {a1 a2 a3 a4 : Value} {x y o c : Nat} (D : decode (byt k) pc = .ok (.invokevirtual x, 3)) (hp : pc + 3 = pc2) (hc : calT (ocl k) x = some (1, y)) (hn : npr y = 4) (ho : ocl y = o) : AW d E K k pc L (a4 :: a3 :: a2 :: a1 :: .ref c :: st) G I J ↔ (shp G c = (0, o) ∧ catS st ≤ 8) ∧ ACall d y [.ref c, a1, a2, a3, a4] G I J (fun v G I J => AW d E K k pc2 L (psh v st) G I J) := by
  subst hp
  exact aw_gc ((stp_eq D rfl).trans ((inv_of (sort := 0) (pc0 := pc) hc).trans (doV_of (as := [a4, a3, a2, a1]) hn ho rfl)))
theorem aw_is4_2 {a1 a2 a3 a4 : Value} {x y : Nat} (D : decode (byt k) pc = .ok (.invokestatic x, 3)) (hp : pc + 3 = pc2) (hc : calT (ocl k) x = some (2, y)) (hn : npr y = 4) : AW d E K k pc L (a4 :: a3 :: a2 :: a1 :: st) G I J ↔ catS st ≤ 8 ∧ ACall d y [a1, a2, a3, a4] G I J (fun v G I J => AW d E K k pc2 L (psh v st) G I J) := by
  subst hp
  refine (aw_gc ((stp_eq D rfl).trans ((inv_of (sort := 1) (pc0 := pc) hc).trans (doS_of (as := [a4, a3, a2, a1]) hn rfl)))).trans ?_
  exact ⟨fun q => ⟨q.1.2, q.2⟩, fun q => ⟨⟨by simp, q.1⟩, q.2⟩⟩
theorem aw_is4_3 {a1 a2 a3 a4 : Value} {x y : Nat} (D : decode (byt k) pc = .ok (.invokestatic x, 3)) (hp : pc + 3 = pc2) (hc : calT (ocl k) x = some (3, y)) (hn : npr y = 4) : AW d E K k pc L (a4 :: a3 :: a2 :: a1 :: st) G I J ↔ catS st ≤ 8 ∧ ACall d y [a1, a2, a3, a4] G I J (fun v G I J => AW d E K k pc2 L (psh v st) G I J) := by
  subst hp
  refine (aw_gc ((stp_eq D rfl).trans ((inv_of (sort := 1) (pc0 := pc) hc).trans (doS_of (as := [a4, a3, a2, a1]) hn rfl)))).trans ?_
  exact ⟨fun q => ⟨q.1.2, q.2⟩, fun q => ⟨⟨by simp, q.1⟩, q.2⟩⟩
theorem aw_iv5_0 {a1 a2 a3 a4 a5 : Value} {x y o c : Nat} (D : decode (byt k) pc = .ok (.invokevirtual x, 3)) (hp : pc + 3 = pc2) (hc : calT (ocl k) x = some (0, y)) (hn : npr y = 5) (ho : ocl y = o) : AW d E K k pc L (a5 :: a4 :: a3 :: a2 :: a1 :: .ref c :: st) G I J ↔ (shp G c = (0, o) ∧ catS st ≤ 8) ∧ ACall d y [.ref c, a1, a2, a3, a4, a5] G I J (fun v G I J => AW d E K k pc2 L (psh v st) G I J) := by
  subst hp
  exact aw_gc ((stp_eq D rfl).trans ((inv_of (sort := 0) (pc0 := pc) hc).trans (doV_of (as := [a5, a4, a3, a2, a1]) hn ho rfl)))
theorem aw_iv5_1 {a1 a2 a3 a4 a5 : Value} {x y o c : Nat} (D : decode (byt k) pc = .ok (.invokevirtual x, 3)) (hp : pc + 3 = pc2) (hc : calT (ocl k) x = some (1, y)) (hn : npr y = 5) (ho : ocl y = o) : AW d E K k pc L (a5 :: a4 :: a3 :: a2 :: a1 :: .ref c :: st) G I J ↔ (shp G c = (0, o) ∧ catS st ≤ 8) ∧ ACall d y [.ref c, a1, a2, a3, a4, a5] G I J (fun v G I J => AW d E K k pc2 L (psh v st) G I J) := by
  subst hp
  exact aw_gc ((stp_eq D rfl).trans ((inv_of (sort := 0) (pc0 := pc) hc).trans (doV_of (as := [a5, a4, a3, a2, a1]) hn ho rfl)))
theorem aw_is5_2 {a1 a2 a3 a4 a5 : Value} {x y : Nat} (D : decode (byt k) pc = .ok (.invokestatic x, 3)) (hp : pc + 3 = pc2) (hc : calT (ocl k) x = some (2, y)) (hn : npr y = 5) : AW d E K k pc L (a5 :: a4 :: a3 :: a2 :: a1 :: st) G I J ↔ catS st ≤ 8 ∧ ACall d y [a1, a2, a3, a4, a5] G I J (fun v G I J => AW d E K k pc2 L (psh v st) G I J) := by
  subst hp
  refine (aw_gc ((stp_eq D rfl).trans ((inv_of (sort := 1) (pc0 := pc) hc).trans (doS_of (as := [a5, a4, a3, a2, a1]) hn rfl)))).trans ?_
  exact ⟨fun q => ⟨q.1.2, q.2⟩, fun q => ⟨⟨by simp, q.1⟩, q.2⟩⟩
theorem aw_is5_3 {a1 a2 a3 a4 a5 : Value} {x y : Nat} (D : decode (byt k) pc = .ok (.invokestatic x, 3)) (hp : pc + 3 = pc2) (hc : calT (ocl k) x = some (3, y)) (hn : npr y = 5) : AW d E K k pc L (a5 :: a4 :: a3 :: a2 :: a1 :: st) G I J ↔ catS st ≤ 8 ∧ ACall d y [a1, a2, a3, a4, a5] G I J (fun v G I J => AW d E K k pc2 L (psh v st) G I J) := by
  subst hp
  refine (aw_gc ((stp_eq D rfl).trans ((inv_of (sort := 1) (pc0 := pc) hc).trans (doS_of (as := [a5, a4, a3, a2, a1]) hn rfl)))).trans ?_
  exact ⟨fun q => ⟨q.1.2, q.2⟩, fun q => ⟨⟨by simp, q.1⟩, q.2⟩⟩
theorem aw_obj {x y c : Nat} (D : decode (byt k) pc = .ok (.invokespecial x, 3)) (hp : pc + 3 = pc2) (hc : calT (ocl k) x = some (6, y)) : AW d E K k pc L (.ref c :: st) G I J ↔ catS st ≤ 8 ∧ AW d E K k pc2 L st G I J := by
  subst hp
  exact aw_gt ((stp_eq D rfl).trans ((inv_of (sort := 2) (pc0 := pc) hc).trans rfl))
theorem aw_cpy {x y a b : Nat} {n dp sp : Int32} (D : decode (byt k) pc = .ok (.invokestatic x, 3)) (hp : pc + 3 = pc2) (hc : calT (ocl k) x = some (7, y)) : AW d E K k pc L (.int n :: .int dp :: .ref b :: .int sp :: .ref a :: st) G I J ↔ ((shp G a).1 = 1 ∧ (shp G b).1 = 1 ∧ ¬ sp < 0 ∧ ¬ dp < 0 ∧ ¬ n < 0 ∧ sp.toNatClampNeg + n.toNatClampNeg ≤ (shp G a).2 ∧ dp.toNatClampNeg + n.toNatClampNeg ≤ (shp G b).2 ∧ catS st ≤ 8) ∧ AW d E K k pc2 L st G (up1 I b (va_cpy (I a) (I b) sp.toNatClampNeg dp.toNatClampNeg n.toNatClampNeg)) J := by
  subst hp
  exact aw_gt ((stp_eq D rfl).trans ((inv_of (sort := 1) (pc0 := pc) hc).trans rfl))
theorem aw_mmax {x y0 : Nat} {u w : Int32} (D : decode (byt k) pc = .ok (.invokestatic x, 3)) (hp : pc + 3 = pc2) (hc : calT (ocl k) x = some (8, y0)) : AW d E K k pc L (.int w :: .int u :: st) G I J ↔ catS st ≤ 8 ∧ AW d E K k pc2 L (.int (if u < w then w else u) :: st) G I J := by
  subst hp
  exact aw_gt ((stp_eq D rfl).trans ((inv_of (sort := 1) (pc0 := pc) hc).trans rfl))
theorem aw_mmin {x y0 : Nat} {u w : Int32} (D : decode (byt k) pc = .ok (.invokestatic x, 3)) (hp : pc + 3 = pc2) (hc : calT (ocl k) x = some (9, y0)) : AW d E K k pc L (.int w :: .int u :: st) G I J ↔ catS st ≤ 8 ∧ AW d E K k pc2 L (.int (if w < u then w else u) :: st) G I J := by
  subst hp
  exact aw_gt ((stp_eq D rfl).trans ((inv_of (sort := 1) (pc0 := pc) hc).trans rfl))
theorem aw_mabs {x y0 : Nat} {u : Int32} (D : decode (byt k) pc = .ok (.invokestatic x, 3)) (hp : pc + 3 = pc2) (hc : calT (ocl k) x = some (10, y0)) : AW d E K k pc L (.int u :: st) G I J ↔ catS st ≤ 8 ∧ AW d E K k pc2 L (.int (if 0 ≤ u then u else 0 - u) :: st) G I J := by
  subst hp
  exact aw_gt ((stp_eq D rfl).trans ((inv_of (sort := 1) (pc0 := pc) hc).trans rfl))
theorem aw_iret {v : Int32} (D : decode (byt k) pc = .ok (.ireturn, 1)) (hr : rtc k = 1) : AW d E K k pc L [.int v] G I J ↔ (G.1 = E.1 ∧ G.2.1 = E.2) ∧ K (some (.int v)) G I J := by
  refine (aw_gr ((stp_eq D rfl).trans rfl)).trans ?_
  exact ⟨fun q => ⟨⟨q.1.1, q.1.2.1⟩, q.2⟩, fun q => ⟨⟨q.1.1, q.1.2, Or.inl hr⟩, q.2⟩⟩
theorem aw_zret {v : Int32} (D : decode (byt k) pc = .ok (.ireturn, 1)) (hr : rtc k = 2) : AW d E K k pc L [.int v] G I J ↔ (G.1 = E.1 ∧ G.2.1 = E.2 ∧ (v = 0 ∨ v = 1)) ∧ K (some (.int v)) G I J := by
  refine (aw_gr ((stp_eq D rfl).trans rfl)).trans ?_
  exact ⟨fun q => ⟨⟨q.1.1, q.1.2.1, by rcases q.1.2.2 with z | z; exact absurd (hr.symm.trans z) (by decide); exact z.2⟩, q.2⟩, fun q => ⟨⟨q.1.1, q.1.2.1, Or.inr ⟨hr, q.1.2.2⟩⟩, q.2⟩⟩
theorem aw_lret {v : Int64} (D : decode (byt k) pc = .ok (.lreturn, 1)) (hr : rtc k = 3) : AW d E K k pc L [.long v] G I J ↔ (G.1 = E.1 ∧ G.2.1 = E.2) ∧ K (some (.long v)) G I J := by
  refine (aw_gr ((stp_eq D rfl).trans rfl)).trans ?_
  exact ⟨fun q => ⟨⟨q.1.1, q.1.2.1⟩, q.2⟩, fun q => ⟨⟨q.1.1, q.1.2, hr⟩, q.2⟩⟩
theorem aw_aret {v : Nat} (D : decode (byt k) pc = .ok (.areturn, 1)) (hr : rtc k = 4) : AW d E K k pc L [.ref v] G I J ↔ (G.1 = E.1 ∧ G.2.1 = E.2) ∧ K (some (.ref v)) G I J := by
  refine (aw_gr ((stp_eq D rfl).trans rfl)).trans ?_
  exact ⟨fun q => ⟨⟨q.1.1, q.1.2.1⟩, q.2⟩, fun q => ⟨⟨q.1.1, q.1.2, hr⟩, q.2⟩⟩
theorem aw_aretN (D : decode (byt k) pc = .ok (.areturn, 1)) (hr : rtc k = 4) : AW d E K k pc L [.null] G I J ↔ (G.1 = E.1 ∧ G.2.1 = E.2) ∧ K (some .null) G I J := by
  refine (aw_gr ((stp_eq D rfl).trans rfl)).trans ?_
  exact ⟨fun q => ⟨⟨q.1.1, q.1.2.1⟩, q.2⟩, fun q => ⟨⟨q.1.1, q.1.2, hr⟩, q.2⟩⟩
theorem aw_vret (D : decode (byt k) pc = .ok (.return_, 1)) (hr : rtc k = 0) : AW d E K k pc L [] G I J ↔ (G.1 = E.1 ∧ G.2.1 = E.2) ∧ K none G I J := by
  refine (aw_gr ((stp_eq D rfl).trans rfl)).trans ?_
  exact ⟨fun q => ⟨⟨q.1.1, q.1.2.1⟩, q.2⟩, fun q => ⟨⟨q.1.1, q.1.2, hr⟩, q.2⟩⟩
theorem ACall_0 {y : Nat} {as L0 : List Value} (h : mcs y = (0, 0)) (hL : entL y as = L0) (ho : okA as = true) (hz : (entA as).length ≤ mxl y) : ACall (d + 1) y as G I J K ↔ AW d (G.1, G.2.1) K y 0 L0 [] G I J := by
  rw [ACall_entry, h, hL]
  exact ⟨fun q => q.2, fun q => ⟨⟨ho, hz⟩, q⟩⟩
end AwRows
