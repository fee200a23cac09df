theorem fty_ok : (List.range 8).all (fun ci => (List.range (nfs ci)).all (fun k => match FT ci k with
  | .int => true
  | .boolean => true
  | .array _ => true
  | .object _ => true
  | _ => false)) = true := by decide +kernel
theorem fty_cases {ci fk : Nat} (hci : ci < 8) (hfk : fk < nfs ci) : (fty ci fk = 0 ∧ FT ci fk = .int) ∨ (fty ci fk = 1 ∧ FT ci fk = .boolean) ∨ (fty ci fk = 2 ∧ ((∃ a, FT ci fk = .array a) ∨ ∃ n, FT ci fk = .object n)) := by
  have h := List.all_eq_true.mp (List.all_eq_true.mp fty_ok ci (List.mem_range.mpr hci)) fk (List.mem_range.mpr hfk)
  unfold fty
  cases hT : FT ci fk <;> simp_all
theorem fld_ok {o x ci fk : Nat} (h : fldT o x = some (ci, fk)) : Cond.fieldLink (cnm o) x (cnm ci) (FF ci fk).2.1 (FF ci fk).2.2.1 ∈ lw_good ∧ fk < nfs ci ∧ ci < 8 ∧ (FF ci fk).1 = cnm ci ∧ (FF ci fk).2.2.2 = (fty ci fk == 2) := by
  unfold fldT at h
  cases hf : fldL.find? (fun y => y.1 == o && y.2.1 == x) with
  | none => rw [hf] at h; cases h
  | some y =>
    rw [hf] at h
    have hm := List.mem_of_find?_eq_some hf
    have hp := List.find?_some hf
    simp only [Bool.and_eq_true, beq_iff_eq] at hp
    have h := Option.some.inj h
    obtain ⟨rfl, rfl⟩ := hp
    have hw := of_decide_eq_true (List.all_eq_true.mp fld_w y hm)
    have hb := List.all_eq_true.mp fld_b y hm
    obtain ⟨h1, h2⟩ := Prod.mk.inj h
    subst h1; subst h2
    unfold fldB at hb
    simp only [Bool.and_eq_true, decide_eq_true_eq, beq_iff_eq] at hb
    exact ⟨good_mem (List.mem_of_getElem? hw) rfl, hb.1.1.1.1.1, hb.1.1.1.1.2, hb.1.1.1.2, hb.1.1.2⟩
theorem new_ok {o x ci : Nat} (h : newT o x = some ci) : ci < 8 ∧ Cond.classLink (cnm o) x (cnm ci) ∈ lw_good ∧ Cond.instantiable (cnm ci) (nfs ci) ∈ lw_good ∧ Cond.initialized (cnm ci) ∈ lw_good := by
  unfold newT at h
  cases hf : newL.find? (fun y => y.1 == o && y.2.1 == x) with
  | none => rw [hf] at h; cases h
  | some y =>
    rw [hf] at h
    have hm := List.mem_of_find?_eq_some hf
    have hp := List.find?_some hf
    simp only [Bool.and_eq_true, beq_iff_eq] at hp
    have h := Option.some.inj h
    obtain ⟨rfl, rfl⟩ := hp
    have hb := List.all_eq_true.mp new_w y hm
    subst h
    simp only [Bool.and_eq_true, decide_eq_true_eq, newW, List.all_cons, List.all_nil, and_true] at hb
    exact ⟨hb.1, good_mem (List.mem_of_getElem? hb.2.1) rfl, good_mem (List.mem_of_getElem? hb.2.2.1) rfl, good_mem (List.mem_of_getElem? hb.2.2.2) rfl⟩
theorem map_set {α : Type} {f g : Nat → α} {N k : Nat} {v : α} (hk : k < N) (h1 : g k = v) (h2 : ∀ j, j < N → j ≠ k → g j = f j) : (List.range N).map g = ((List.range N).map f).set k v := by
  apply List.ext_getElem?
  intro j
  rw [List.getElem?_set]
  by_cases h : k = j
  · subst h
    rw [if_pos rfl, if_pos (by simpa using hk), List.getElem?_map, List.getElem?_range hk]
    simp [h1]
  · rw [if_neg h, List.getElem?_map, List.getElem?_map]
    by_cases hj : j < N
    · rw [List.getElem?_range hj]
      simp [h2 j hj (fun e => h e.symm)]
    · rw [List.getElem?_eq_none (by simpa using Nat.le_of_not_lt hj)]
      rfl
theorem fvl_map {hb b t : Nat} {G : GT} {I : IT} {c ci fk : Nat} : vmp hb b t (fvl G I c ci fk) = fvE hb b t G I c ci fk := by
  unfold fvl fvE
  generalize fty ci fk = n
  match n with
  | 0 => rfl
  | 1 => rfl
  | 2 => exact vmp_rf
  | n + 3 => rfl
section SndD
variable {p : Program} {l : Launch} {e : Env} {R : Room} {s : State} {m : MethodId} {args : Array Value} {below : List Frame} {meth : Method} {c : Code} {Q : State → Prop} {q : CN} {n0 u0 k d : Nat} {E : Nat × Nat} {CC : Nat → List Value → GT → IT → JT → KT → Prop} {K : KT} {pc len : Nat} {L st : List Value} {G : GT} {I : IT} {J : JT} {i : Instr} {H : Heap}
theorem cE_obj {cs : ClassId × ClassId × ClassId × ClassId} {hb b t a ci : Nat} (h : G.2.2.1 a = (0, ci)) : cE cs hb b t G I J a = .inr (ci, (List.range (nfs ci)).map (fvE hb b t G I a ci)) := by
  rw [cE_0 (by rw [h]), h]
set_option maxHeartbeats 4000000 in
theorem w_get {x : Nat} (cx : Cx p R s m args meth c q k d E n0 u0) (hd : decode (byt k) pc = .ok (.getfield x, 3)) (h : sP CC K (PW p l e R s m args below meth c Q q E n0 u0 k) G I J (doGet k pc (fldT (ocl k) x) L st G I J)) : PW p l e R s m args below meth c Q q E n0 u0 k pc L st G I J := by
  obtain ⟨hx, hb, hml, hown, hts, hK, hN, hR, hE, hct⟩ := cx
  cases hf : fldT (ocl k) x with
  | none => rw [hf] at h; exact sP_no h
  | some y =>
    obtain ⟨ci, fk⟩ := y
    rw [hf] at h
    obtain ⟨hlk, hfk, hci, hdc, hfin⟩ := fld_ok hf
    obtain ⟨hc, hin, hnm, hpf⟩ := cls_all ci hci
    unfold doGet at h
    split at h
    · rename_i a r e1
      cases e1
      obtain ⟨hg, h⟩ := sP_gte.mp h
      intro H locs ls hr hv hL hS h1 h2
      have kk := sP_n h H locs ls hr hv hL hS h1 h2
      obtain ⟨ha, he⟩ := shp_own hr (a := a) (by rw [hg]; exact Nat.zero_le _)
      rw [he] at hg
      refine W.eq (g2 := F0 m pc ls (.ref (q.hb + a) :: r.map (vmp q.hb q.b q.t))) (by rw [← adr_own hr ha]; rfl) ?_
      refine va_get (ref := cnm ci) (v := fvE q.hb q.b q.t G I a ci fk) hx hb hts hin hown hK.1 hr.1 a ((wl_get ha).trans (by rw [cE_obj hg])) hc fk hfk (hts _ hlk) (fun y hy => by rw [hdc] at hy; exact hy) (by rw [List.getElem?_map, List.getElem?_range hfk]; rfl) hd ?_
      rw [← fvl_map]
      exact kk
    · exact sP_no h
set_option maxHeartbeats 4000000 in
theorem w_put {x : Nat} (cx : Cx p R s m args meth c q k d E n0 u0) (hd : decode (byt k) pc = .ok (.putfield x, 3)) (h : sP CC K (PW p l e R s m args below meth c Q q E n0 u0 k) G I J (doPut k pc (fldT (ocl k) x) L st G I J)) : PW p l e R s m args below meth c Q q E n0 u0 k pc L st G I J := by
  obtain ⟨hx, hb, hml, hown, hts, hK, hN, hR, hE, hct⟩ := cx
  cases hf : fldT (ocl k) x with
  | none => rw [hf] at h; exact sP_no h
  | some y =>
    obtain ⟨ci, fk⟩ := y
    rw [hf] at h
    obtain ⟨hlk, hfk, hci, hdc, hfin⟩ := fld_ok hf
    obtain ⟨hc, hin, hnm, hpf⟩ := cls_all ci hci
    unfold doPut at h
    split at h
    · rename_i ci' fk' x a r e1
      cases e1
      obtain ⟨⟨hg, hty⟩, h⟩ := sP_gte.mp h
      intro H locs ls hr hv hL hS h1 h2
      obtain ⟨ha, he⟩ := shp_own hr (a := a) (by rw [hg]; exact Nat.zero_le _)
      rw [he] at hg
      have hne : fty ci fk ≠ 2 := by rcases hty with z | z <;> omega
      have hT : narrow (FT ci fk) (.int x) = .int x ∧ fits (FT ci fk) (.int x) = true := by
        rcases fty_cases hci hfk with ⟨z1, z2⟩ | ⟨z1, z2⟩ | ⟨z1, -⟩
        · rw [z2]; exact ⟨rfl, rfl⟩
        · rw [z2]
          rcases hty with z | ⟨-, z⟩
          · omega
          · exact (nar_z z).2
        · exact absurd z1 hne
      refine W.eq (g2 := F0 m pc ls (.int x :: .ref (q.hb + a) :: r.map (vmp q.hb q.b q.t))) (by rw [← adr_own hr ha]; rfl) ?_
      refine va_put (ref := cnm ci) (v := .int x) (ty := FT ci fk) hx hb hts hin (FT ci) hpf hnm hown hK.1 hr.1 wl_D hS a ((wl_get ha).trans (by rw [cE_obj hg])) hc fk hfk (hts _ hlk) (fun y hy => by rw [hdc] at hy; exact hy) (by rw [hfin]; simpa using hne) (hpf fk hfk) hT.1 hT.2 (by simpa using hfk) hd (fun H1 locs1 hP1 hD1 hS1 => ?_)
      refine sP_n h H1 locs1 ls (rel_I hr ha (fun b hb => up2_off hb) ?_ hP1) hv hL hS1 h1 h2
      rw [cE_obj hg, map_set hfk (v := .int x) (f := fvE q.hb q.b q.t G I a ci) ?_ ?_]
      · unfold fvE
        split
        · rename_i z; exact absurd z hne
        · rw [up2_at]; simp
      · intro j hj hjn
        unfold fvE
        split
        · rfl
        · rw [up2_at]; simp [hjn]
    · rename_i ci' fk' v a r e1
      cases e1
      obtain ⟨⟨hg, hty, hc1, hc2⟩, h⟩ := sP_gte.mp h
      intro H locs ls hr hv hL hS h1 h2
      obtain ⟨ha, he⟩ := shp_own hr (a := a) (by rw [hg]; exact Nat.zero_le _)
      rw [he] at hg
      have hT : ∀ z : Nat, narrow (FT ci fk) (.ref z) = .ref z ∧ fits (FT ci fk) (.ref z) = true := by
        intro z
        rcases fty_cases hci hfk with ⟨z1, -⟩ | ⟨z1, -⟩ | ⟨-, ⟨w, z2⟩ | ⟨w, z2⟩⟩
        · omega
        · omega
        · rw [z2]; exact ⟨rfl, rfl⟩
        · rw [z2]; exact ⟨rfl, rfl⟩
      refine W.eq (g2 := F0 m pc ls (.ref (adr q.hb q.b q.t v) :: .ref (q.hb + a) :: r.map (vmp q.hb q.b q.t))) (by rw [← adr_own hr ha]; rfl) ?_
      refine va_putF (ref := cnm ci) (v := .ref (adr q.hb q.b q.t v)) (ty := FT ci fk) hx hb hts hin (FT ci) hpf hnm hown hK.1 hr.1 wl_D hS a ((wl_get ha).trans (by rw [cE_obj hg])) hc fk hfk (hts _ hlk) (fun y hy => by rw [hdc] at hy; exact hy) (by rw [hfin, hty]; rfl) (hct hc1) (by rw [hdc, hc2]) (hpf fk hfk) (hT _).1 (hT _).2 (by simpa using hfk) hd (fun H1 locs1 hP1 hD1 hS1 => ?_)
      refine sP_n h H1 locs1 ls (rel_R hr ha ?_ hP1) hv hL hS1 h1 h2
      rw [cE_obj (show (putR G a fk v).2.2.1 a = (0, ci) from hg), map_set hfk (v := .ref (adr q.hb q.b q.t v)) (f := fvE q.hb q.b q.t G I a ci) ?_ ?_]
      · unfold fvE
        rw [hty]
        show va_rf ((up2 G.2.2.2 a fk (some v) a fk).map _) = _
        rw [up2_at]
        simp [va_rf]
      · intro j hj hjn
        have hz : (putR G a fk v).2.2.2 a j = G.2.2.2 a j := by
          show up2 G.2.2.2 a fk (some v) a j = _
          rw [up2_at]
          simp [hjn]
        unfold fvE
        rw [hz]
    · exact sP_no h
theorem new_at {a cells : Nat} {x : va_E} {H1 : Heap} {D : va_G} (hP : va_P D clss (wl q.2.1 q.hb q.b q.t G I J ++ [(a, x)]) H1) (hD : va_D q.A (wl q.2.1 q.hb q.b q.t G I J ++ [(a, x)])) (hz : H1.size ≤ cells) (hc : cells = q.hb + G.1 + 1) : a = q.hb + G.1 := by
  have hlast : (wl q.2.1 q.hb q.b q.t G I J ++ [(a, x)])[G.1]? = some (a, x) := by
    rw [List.getElem?_append_right (by rw [wl_len]; exact Nat.le_refl _), wl_len]
    simp
  have h1 : q.hb ≤ a := hD.2 _ _ hlast
  have h2 : a < H1.size := (hP _ _ hlast).lt
  rcases Nat.lt_or_ge a (q.hb + G.1) with h | h
  · exfalso
    have hj : a - q.hb < G.1 := by omega
    have hget : (wl q.2.1 q.hb q.b q.t G I J ++ [(a, x)])[a - q.hb]? = some (q.hb + (a - q.hb), cE q.2.1 q.hb q.b q.t G I J (a - q.hb)) := by
      rw [List.getElem?_append_left (by rw [wl_len]; exact hj)]
      exact wl_get hj
    have := hD.1 _ _ _ _ hget hlast (by show q.hb + (a - q.hb) = a; omega)
    omega
  · omega
/-- a cell is made -/
theorem rel_new {G' : GT} {I' : IT} {J' : JT} {x : va_E} {H1 : Heap} {t N u : Nat} (hr : Rel q G I J H) (hG : G' = (G.1 + 1, u, up1 G.2.2.1 G.1 (t, N), up1 G.2.2.2 G.1 (fun _ => none))) (ht : t ≤ 4) (hn : G.1 + 1 ≤ 600000) (hI : ∀ b, b ≠ G.1 → I' b = I b) (hJ : ∀ b, b ≠ G.1 → J' b = J b) (hx : cE q.2.1 q.hb q.b q.t G' I' J' G.1 = x) (hP : va_P q.1 clss (wl q.2.1 q.hb q.b q.t G I J ++ [(q.hb + G.1, x)]) H1) : Rel q G' I' J' H1 := by
  obtain ⟨h1, h2, h3, ⟨h4, h5⟩, ⟨h6, h7⟩⟩ := hr
  subst hG
  rw [wl_push (G' := (G.1 + 1, u, up1 G.2.2.1 G.1 (t, N), up1 G.2.2.2 G.1 (fun _ => none))) (I' := I') (J' := J') rfl hx (fun b hb => cE_eq (up1_off (by omega)) (up1_off (by omega)) (hI b (by omega)) (hJ b (by omega)))] at hP
  refine ⟨hP, hn, fun b hb => ?_, ⟨?_, fun j => ?_⟩, ⟨?_, fun j => ?_⟩⟩
  · by_cases e : b = G.1
    · subst e; show (up1 G.2.2.1 G.1 (t, N) G.1).1 ≤ 4; rw [up1_at]; exact ht
    · show (up1 G.2.2.1 G.1 (t, N) b).1 ≤ 4
      rw [up1_off e]
      exact h3 b (by have hb : b < G.1 + 1 := hb; omega)
  · show up1 G.2.2.1 G.1 (t, N) scrC = _; rw [up1_off (by show 1000000 ≠ G.1; omega)]; exact h4
  · rw [hI scrC (by show 1000000 ≠ G.1; omega)]; exact h5 j
  · show up1 G.2.2.1 G.1 (t, N) patC = _; rw [up1_off (by show 1000001 ≠ G.1; omega)]; exact h6
  · rw [hJ patC (by show 1000001 ≠ G.1; omega)]; exact h7 j
end SndD
