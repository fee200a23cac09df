section SndC
variable {p : Program} {l : Launch} {e : Env} {R : Room} {s : State} {m : MethodId} {args : Array Value} {below : List Frame} {meth : Method} {c : Code} {Q : State → Prop} {q : CN} {n0 u0 k d : Nat} {E : Nat × Nat} {CC : Nat → List Value → GT → IT → JT → KT → Prop} {K : KT} {pc len : Nat} {L st : List Value} {G : GT} {I : IT} {J : JT} {i : Instr} {H : Heap}
theorem W.sized {locs : List Loc} {cells slots : Nat} {g : JFrame} (h : H.size ≤ s.heap.size + cells → W p l e R s m args below meth c H locs cells slots Q g) : W p l e R s m args below meth c H locs cells slots Q g := fun T hT X => h (by rw [← hT]; exact X.heapSize) T hT X
theorem shp_own {a : Nat} (hr : Rel q G I J H) (h : (shp G a).1 ≤ 4) : a < G.1 ∧ shp G a = G.2.2.1 a := by
  obtain ⟨-, h2, h3, ⟨h4, -⟩, ⟨h5, -⟩⟩ := hr
  unfold shp at h ⊢
  by_cases hc : a < G.1
  · exact ⟨hc, by rw [if_pos (Or.inl hc)]⟩
  · exfalso
    split at h
    · rename_i hh
      rcases hh with hh | rfl | rfl
      · exact hc hh
      · rw [h4] at h; exact absurd h (by show ¬ 5 ≤ 4; omega)
      · rw [h5] at h; exact absurd h (by show ¬ 6 ≤ 4; omega)
    · exact absurd h (by show ¬ 9 ≤ 4; omega)
theorem shp_ro {a : Nat} (hr : Rel q G I J H) (h : (shp G a).1 = 5 ∨ (shp G a).1 = 6) : (a = scrC ∧ shp G a = (5, q.Ln)) ∨ (a = patC ∧ shp G a = (6, 6)) := by
  obtain ⟨-, h2, h3, ⟨h4, -⟩, ⟨h5, -⟩⟩ := hr
  unfold shp at h ⊢
  by_cases hc : a < G.1
  · exfalso
    rw [if_pos (Or.inl hc)] at h
    have := h3 a hc
    omega
  · split at h
    · rename_i hh
      rcases hh with hh | rfl | rfl
      · exact absurd hh hc
      · left; exact ⟨rfl, by rw [if_pos (Or.inr (Or.inl rfl)), h4]⟩
      · right; exact ⟨rfl, by rw [if_pos (Or.inr (Or.inr rfl)), h5]⟩
    · exfalso; rcases h with h | h <;> exact absurd h (by show ¬ 9 = _; omega)
theorem adr_own {a : Nat} (hr : Rel q G I J H) (h : a < G.1) : adr q.hb q.b q.t a = q.hb + a := by
  have h2 := hr.2.1
  unfold adr
  rw [if_neg (by show ¬ a = 1000000; omega), if_neg (by show ¬ a = 1000001; omega)]
theorem adr_scr {hb b t : Nat} : adr hb b t scrC = b := rfl
theorem adr_pat {hb b t : Nat} : adr hb b t patC = t := rfl
theorem cE_0 {cs : ClassId × ClassId × ClassId × ClassId} {hb b t a : Nat} (h : (G.2.2.1 a).1 = 0) : cE cs hb b t G I J a = .inr ((G.2.2.1 a).2, (List.range (nfs (G.2.2.1 a).2)).map (fvE hb b t G I a (G.2.2.1 a).2)) := by unfold cE; rw [h]; rfl
theorem cE_1 {cs : ClassId × ClassId × ClassId × ClassId} {hb b t a : Nat} (h : (G.2.2.1 a).1 = 1) : cE cs hb b t G I J a = .inl (cs.1, (G.2.2.1 a).2, .inl (I a)) := by unfold cE; rw [h]; rfl
theorem cE_2 {cs : ClassId × ClassId × ClassId × ClassId} {hb b t a : Nat} (h : (G.2.2.1 a).1 = 2) : cE cs hb b t G I J a = .inl (cs.2.1, (G.2.2.1 a).2, .inr (.inl (J a))) := by unfold cE; rw [h]; rfl
theorem cE_3 {cs : ClassId × ClassId × ClassId × ClassId} {hb b t a : Nat} (h : (G.2.2.1 a).1 = 3) : cE cs hb b t G I J a = .inl (cs.2.2.1, (G.2.2.1 a).2, .inl (I a)) := by unfold cE; rw [h]; rfl
theorem cE_4 {cs : ClassId × ClassId × ClassId × ClassId} {hb b t a : Nat} (h : (G.2.2.1 a).1 = 4) : cE cs hb b t G I J a = .inl (cs.2.2.2, (G.2.2.1 a).2, .inr (.inr (.inr (.inr (fun k => (G.2.2.2 a k).map (adr hb b t)))))) := by unfold cE; rw [h]; rfl
/-- a cell depends on its own part of the state alone -/
theorem cE_eq {cs : ClassId × ClassId × ClassId × ClassId} {hb b t a : Nat} {G' : GT} {I' : IT} {J' : JT} (h1 : G'.2.2.1 a = G.2.2.1 a) (h2 : G'.2.2.2 a = G.2.2.2 a) (h3 : I' a = I a) (h4 : J' a = J a) : cE cs hb b t G' I' J' a = cE cs hb b t G I J a := by
  unfold cE
  rw [h1, h3, h4, h2]
  have : fvE hb b t G' I' a (G.2.2.1 a).2 = fvE hb b t G I a (G.2.2.1 a).2 := by
    funext x
    unfold fvE
    rw [h2, h3]
  rw [this]
theorem up2_at {α : Type} {f : Nat → Nat → α} {a x : Nat} {v : α} : up2 f a x v a = fun b => if b = x then v else f a b := by
  funext b
  simp [up2]
theorem up2_off {α : Type} {f : Nat → Nat → α} {a b x : Nat} {v : α} (h : b ≠ a) : up2 f a x v b = f b := by
  funext z
  simp [up2, h]
theorem up1_at {α : Type} {f : Nat → α} {a : Nat} {v : α} : up1 f a v a = v := by simp [up1]
theorem up1_off {α : Type} {f : Nat → α} {a b : Nat} {v : α} (h : b ≠ a) : up1 f a v b = f b := by simp [up1, h]
/-- ints of one cell are written -/
theorem rel_I {a : Nat} {I' : IT} {x : va_E} {H1 : Heap} (hr : Rel q G I J H) (ha : a < G.1) (ho : ∀ b, b ≠ a → I' b = I b) (hx : cE q.2.1 q.hb q.b q.t G I' J a = x) (hP : va_P q.1 clss ((wl q.2.1 q.hb q.b q.t G I J).set a (q.hb + a, x)) H1) : Rel q G I' J H1 := by
  obtain ⟨h1, h2, h3, ⟨h4, h5⟩, h6⟩ := hr
  rw [wl_set (G' := G) (I' := I') (J' := J) ha rfl hx (fun b hb hne => cE_eq rfl rfl (ho b hne) rfl)] at hP
  refine ⟨hP, h2, h3, ⟨h4, fun j => ?_⟩, h6⟩
  rw [ho scrC (by show 1000000 ≠ a; omega)]
  exact h5 j
theorem rel_J {a : Nat} {J' : JT} {x : va_E} {H1 : Heap} (hr : Rel q G I J H) (ha : a < G.1) (ho : ∀ b, b ≠ a → J' b = J b) (hx : cE q.2.1 q.hb q.b q.t G I J' a = x) (hP : va_P q.1 clss ((wl q.2.1 q.hb q.b q.t G I J).set a (q.hb + a, x)) H1) : Rel q G I J' H1 := by
  obtain ⟨h1, h2, h3, h4, ⟨h5, h6⟩⟩ := hr
  rw [wl_set (G' := G) (I' := I) (J' := J') ha rfl hx (fun b hb hne => cE_eq rfl rfl rfl (ho b hne))] at hP
  refine ⟨hP, h2, h3, h4, ⟨h5, fun j => ?_⟩⟩
  rw [ho patC (by show 1000001 ≠ a; omega)]
  exact h6 j
theorem rel_R {a x v : Nat} {y : va_E} {H1 : Heap} (hr : Rel q G I J H) (ha : a < G.1) (hx : cE q.2.1 q.hb q.b q.t (putR G a x v) I J a = y) (hP : va_P q.1 clss ((wl q.2.1 q.hb q.b q.t G I J).set a (q.hb + a, y)) H1) : Rel q (putR G a x v) I J H1 := by
  obtain ⟨h1, h2, h3, h4, h5⟩ := hr
  rw [wl_set (G' := putR G a x v) (I' := I) (J' := J) ha rfl hx (fun b hb hne => cE_eq rfl (up2_off hne) rfl rfl)] at hP
  exact ⟨hP, h2, h3, h4, h5⟩
theorem upd_if {f : Nat → Int32} {j : Nat} {x : Int32} : upd f j x = fun b => if b = j then x else f b := rfl
theorem nar_z {x : Int32} (h : x = 0 ∨ x = 1) : vp_nar .boolean x = x ∧ narrow .boolean (.int x) = .int x ∧ fits .boolean (.int x) = true := by
  rcases h with rfl | rfl <;> exact ⟨by decide, by decide, by decide⟩
set_option maxHeartbeats 4000000 in
theorem w_ar (cx : Cx p R s m args meth c q k d E n0 u0) (hd : decode (byt k) pc = .ok (i, len)) (hl : lenOK i len = true) (h : sP CC K (PW p l e R s m args below meth c Q q E n0 u0 k) G I J (doAr i pc L st G I J)) : PW p l e R s m args below meth c Q q E n0 u0 k pc L st G I J := by
  obtain ⟨hx, hb, hml, hown, hts, hK, hN, hR, hE, hct⟩ := cx
  obtain ⟨hKK, hTs, hZ, hTp⟩ := hK
  unfold doAr at h
  split at h
  · rename_i j a r
    cases len_of (n := 0) hl rfl
    obtain ⟨⟨hg, hin⟩, h⟩ := sP_gte.mp h
    intro H locs ls hr hv hL hS h1 h2
    have kk := sP_n h H locs ls hr hv hL hS h1 h2
    rcases hg with hg | hg
    · obtain ⟨ha, he⟩ := shp_own hr (a := a) (by omega)
      rw [he] at hg hin
      refine W.eq (g2 := F0 m pc ls (.int j :: .ref (q.hb + a) :: r.map (vmp q.hb q.b q.t))) (by rw [← adr_own hr ha]; rfl) ?_
      exact va_iald hx hb hKK hr.1 a 0 ((wl_get ha).trans (by rw [cE_1 hg])) rfl hin hd kk
    · rcases shp_ro hr (a := a) (Or.inl hg) with ⟨rfl, he⟩ | ⟨rfl, he⟩
      · rw [he] at hin
        exact va_ti (v := .int (I scrC j.toNatClampNeg)) hx hb hTs hS hin (congrArg Value.int (hr.2.2.2.1.2 _).symm) hd kk
      · rw [he] at hg; exact absurd hg (by show ¬ 6 = 5; omega)
  · rename_i j a r
    cases len_of (n := 0) hl rfl
    obtain ⟨⟨hg, hin⟩, h⟩ := sP_gte.mp h
    intro H locs ls hr hv hL hS h1 h2
    have kk := sP_n h H locs ls hr hv hL hS h1 h2
    rcases hg with hg | hg
    · obtain ⟨ha, he⟩ := shp_own hr (a := a) (by omega)
      rw [he] at hg hin
      refine W.eq (g2 := F0 m pc ls (.int j :: .ref (q.hb + a) :: r.map (vmp q.hb q.b q.t))) (by rw [← adr_own hr ha]; rfl) ?_
      exact va_lald hx hb hKK hr.1 a 1 ((wl_get ha).trans (by rw [cE_2 hg])) rfl hin hd kk
    · rcases shp_ro hr (a := a) (Or.inr hg) with ⟨rfl, he⟩ | ⟨rfl, he⟩
      · rw [he] at hg; exact absurd hg (by show ¬ 5 = 6; omega)
      · rw [he] at hin
        exact va_tl (v := .long (J patC j.toNatClampNeg)) hx hb hTp hS hin (congrArg Value.long (hr.2.2.2.2.2 _).symm) hd kk
  · rename_i j a r
    cases len_of (n := 0) hl rfl
    obtain ⟨⟨hg, hin⟩, h⟩ := sP_gte.mp h
    intro H locs ls hr hv hL hS h1 h2
    have kk := sP_n h H locs ls hr hv hL hS h1 h2
    obtain ⟨ha, he⟩ := shp_own hr (a := a) (by omega)
    rw [he] at hg hin
    refine W.eq (g2 := F0 m pc ls (.int j :: .ref (q.hb + a) :: r.map (vmp q.hb q.b q.t))) (by rw [← adr_own hr ha]; rfl) ?_
    exact va_zald hx hb hKK hr.1 a 2 ((wl_get ha).trans (by rw [cE_3 hg])) rfl hin hd kk
  · rename_i j a r
    cases len_of (n := 0) hl rfl
    obtain ⟨⟨hg, hin⟩, h⟩ := sP_gte.mp h
    intro H locs ls hr hv hL hS h1 h2
    have kk := sP_n h H locs ls hr hv hL hS h1 h2
    obtain ⟨ha, he⟩ := shp_own hr (a := a) (by omega)
    rw [he] at hg hin
    refine W.eq (g2 := F0 m pc ls (.int j :: .ref (q.hb + a) :: r.map (vmp q.hb q.b q.t))) (by rw [← adr_own hr ha]; rfl) ?_
    refine va_aldq hx hb hKK hr.1 a 3 ((wl_get ha).trans (by rw [cE_4 hg])) rfl hin hd ?_
    rw [← vmp_rf]
    exact kk
  · rename_i x j a r
    cases len_of (n := 0) hl rfl
    obtain ⟨⟨hg, hin⟩, h⟩ := sP_gte.mp h
    intro H locs ls hr hv hL hS h1 h2
    obtain ⟨ha, he⟩ := shp_own hr (a := a) (by omega)
    rw [he] at hg hin
    refine W.eq (g2 := F0 m pc ls (.int x :: .int j :: .ref (q.hb + a) :: r.map (vmp q.hb q.b q.t))) (by rw [← adr_own hr ha]; rfl) ?_
    refine va_iast hx hb hKK hr.1 wl_D hS a 0 ((wl_get ha).trans (by rw [cE_1 hg])) rfl hin hd (fun H1 locs1 hP1 hD1 hS1 => ?_)
    exact sP_n h H1 locs1 ls (rel_I hr ha (fun b hb => up2_off hb) (by rw [cE_1 hg, up2_at]; rfl) hP1) hv hL hS1 h1 h2
  · rename_i x j a r
    cases len_of (n := 0) hl rfl
    obtain ⟨⟨hg, hin⟩, h⟩ := sP_gte.mp h
    intro H locs ls hr hv hL hS h1 h2
    obtain ⟨ha, he⟩ := shp_own hr (a := a) (by omega)
    rw [he] at hg hin
    refine W.eq (g2 := F0 m pc ls (.long x :: .int j :: .ref (q.hb + a) :: r.map (vmp q.hb q.b q.t))) (by rw [← adr_own hr ha]; rfl) ?_
    refine va_last hx hb hKK hr.1 wl_D hS a 1 ((wl_get ha).trans (by rw [cE_2 hg])) rfl hin hd (fun H1 locs1 hP1 hD1 hS1 => ?_)
    exact sP_n h H1 locs1 ls (rel_J hr ha (fun b hb => up2_off hb) (by rw [cE_2 hg, up2_at]; rfl) hP1) hv hL hS1 h1 h2
  · rename_i x j a r
    cases len_of (n := 0) hl rfl
    obtain ⟨⟨⟨hg, hin⟩, hz⟩, h⟩ := sP_gte.mp h
    intro H locs ls hr hv hL hS h1 h2
    obtain ⟨ha, he⟩ := shp_own hr (a := a) (by omega)
    rw [he] at hg hin
    refine W.eq (g2 := F0 m pc ls (.int x :: .int j :: .ref (q.hb + a) :: r.map (vmp q.hb q.b q.t))) (by rw [← adr_own hr ha]; rfl) ?_
    refine va_zast hx hb hKK hr.1 wl_D hS a 2 ((wl_get ha).trans (by rw [cE_3 hg])) rfl hin hd (fun H1 locs1 hP1 hD1 hS1 => ?_)
    rw [(nar_z hz).1] at hP1
    exact sP_n h H1 locs1 ls (rel_I hr ha (fun b hb => up2_off hb) (by rw [cE_3 hg, up2_at]; rfl) hP1) hv hL hS1 h1 h2
  · rename_i v j a r
    cases len_of (n := 0) hl rfl
    obtain ⟨⟨⟨hg, hin⟩, hw⟩, h⟩ := sP_gte.mp h
    intro H locs ls hr hv hL hS h1 h2
    obtain ⟨ha, he⟩ := shp_own hr (a := a) (by omega)
    obtain ⟨hva, hve⟩ := shp_own hr (a := v) (by rw [hw]; show 0 ≤ 4; omega)
    rw [he] at hg hin
    rw [hve] at hw
    have hw0 : (G.2.2.1 v).1 = 0 := by rw [hw]
    have hw2 : (G.2.2.1 v).2 = 2 := by rw [hw]
    refine W.eq (g2 := F0 m pc ls (.ref (q.hb + v) :: .int j :: .ref (q.hb + a) :: r.map (vmp q.hb q.b q.t))) (by rw [← adr_own hr ha, ← adr_own hr hva]; rfl) ?_
    refine va_astq (r := ("TruthWalk$Level", FF2, 9)) hx hb hKK hr.1 wl_D hS a 3 v 2 ((wl_get ha).trans (by rw [cE_4 hg])) rfl ((wl_get hva).trans (by rw [cE_0 hw0, hw2])) rfl hin hd (fun H1 locs1 hP1 hD1 hS1 => ?_)
    refine sP_n h H1 locs1 ls (rel_R hr ha ?_ hP1) hv hL hS1 h1 h2
    have hf : (fun x => ((putR G a j.toNatClampNeg v).2.2.2 a x).map (adr q.hb q.b q.t)) = va_up (fun x => (G.2.2.2 a x).map (adr q.hb q.b q.t)) j.toNatClampNeg (some (q.hb + v)) := by
      funext z
      show (up2 G.2.2.2 a j.toNatClampNeg (some v) a z).map _ = _
      rw [up2_at]
      unfold va_up
      by_cases hz : z = j.toNatClampNeg
      · simp only [hz, if_true, Option.map_some]
        rw [adr_own hr hva]
      · simp only [hz, if_false]
    rw [cE_4 (show ((putR G a j.toNatClampNeg v).2.2.1 a).1 = 4 from hg), hf]
    rfl
  · rename_i a r
    cases len_of (n := 0) hl rfl
    obtain ⟨hg, h⟩ := sP_gte.mp h
    intro H locs ls hr hv hL hS h1 h2
    have kk := sP_n h H locs ls hr hv hL hS h1 h2
    by_cases h4 : (shp G a).1 ≤ 4
    · obtain ⟨ha, he⟩ := shp_own hr (a := a) h4
      have hg1 : 1 ≤ (G.2.2.1 a).1 := by rw [← he]; exact hg.1
      have hg2 : (G.2.2.1 a).1 ≤ 4 := by rw [← he]; exact h4
      rw [he] at kk
      refine W.eq (g2 := F0 m pc ls (.ref (q.hb + a) :: r.map (vmp q.hb q.b q.t))) (by rw [← adr_own hr ha]; rfl) ?_
      rcases (show (G.2.2.1 a).1 = 1 ∨ (G.2.2.1 a).1 = 2 ∨ (G.2.2.1 a).1 = 3 ∨ (G.2.2.1 a).1 = 4 by omega) with z | z | z | z
      · exact va_alen (x := ((G.2.2.1 a).2, .inl (I a))) hx hb hKK hr.1 a 0 ((wl_get ha).trans (by rw [cE_1 z])) rfl rfl hd kk
      · exact va_alen (x := ((G.2.2.1 a).2, .inr (.inl (J a)))) hx hb hKK hr.1 a 1 ((wl_get ha).trans (by rw [cE_2 z])) rfl rfl hd kk
      · exact va_alen (x := ((G.2.2.1 a).2, .inl (I a))) hx hb hKK hr.1 a 2 ((wl_get ha).trans (by rw [cE_3 z])) rfl rfl hd kk
      · exact va_alen (x := ((G.2.2.1 a).2, .inr (.inr (.inr (.inr (fun x => (G.2.2.2 a x).map (adr q.hb q.b q.t))))))) hx hb hKK hr.1 a 3 ((wl_get ha).trans (by rw [cE_4 z])) rfl rfl hd kk
    · have := hg.2
      rcases shp_ro hr (a := a) (by omega) with ⟨rfl, he⟩ | ⟨rfl, he⟩
      · rw [he] at kk
        exact va_tlen hx hb hTs hS rfl hd kk
      · rw [he] at kk
        exact va_tlen hx hb hTp hS rfl hd kk
  · exact sP_no h
end SndC
