/-! the model: what changes lies in what may change -/
def chF (b f a k : Nat) : Prop := chPk f a k ∨ ((a = 151 ∨ a = 152 ∨ a = 153) ∧ k = f) ∨ mch b (f + 1) a k
def chX (b f i a k : Nat) : Prop := chF b f a k ∨ chTl f i a k
section Mch
variable {b f a k : Nat}
theorem mch_f (h : k = 18 ∨ (36 ≤ k ∧ k ≤ 39)) : mch b f 122 k := Or.inl ⟨rfl, h⟩
theorem mch_133 (h : k = b) : mch b f 133 k := Or.inr (Or.inl ⟨rfl, h⟩)
theorem mch_G (h : chG b a k) : mch b f a k := Or.inr (Or.inr (Or.inl h))
theorem mch_140 : mch b f 140 k := Or.inr (Or.inr (Or.inr (Or.inl rfl)))
theorem mch_40 (h : a = 141 ∨ a = 145 ∨ a = 149) (hk : 40 * f ≤ k) : mch b f a k := Or.inr (Or.inr (Or.inr (Or.inr (Or.inl ⟨h, hk⟩))))
theorem mch_12 (h : a = 143 ∨ a = 148) (hk : 12 * f ≤ k) : mch b f a k := Or.inr (Or.inr (Or.inr (Or.inr (Or.inr (Or.inl ⟨h, hk⟩)))))
theorem mch_1 (h : a = 142 ∨ a = 144 ∨ a = 146 ∨ a = 147 ∨ (150 ≤ a ∧ a ≤ 153)) (hk : f ≤ k) : mch b f a k := Or.inr (Or.inr (Or.inr (Or.inr (Or.inr (Or.inr (Or.inl ⟨h, hk⟩))))))
theorem mch_154 (h : 154 ≤ a ∧ a ≤ 157) : mch b f a k := Or.inr (Or.inr (Or.inr (Or.inr (Or.inr (Or.inr (Or.inr h))))))
theorem mch_mono {f' : Nat} (hf : f ≤ f') (q : mch b f' a k) : mch b f a k := by
  rcases q with q | q | q | q | ⟨q1, q2⟩ | ⟨q1, q2⟩ | ⟨q1, q2⟩ | q
  · exact Or.inl q
  · exact Or.inr (Or.inl q)
  · exact mch_G q
  · exact Or.inr (Or.inr (Or.inr (Or.inl q)))
  · exact mch_40 q1 (by omega)
  · exact mch_12 q1 (by omega)
  · exact mch_1 q1 (by omega)
  · exact mch_154 q
end Mch
theorem chPk_mch {b f a k : Nat} (q : chPk f a k) : mch b f a k := by
  rcases q with ⟨q1, q2, -⟩ | ⟨q1, q2⟩
  · exact mch_40 (Or.inr (Or.inr q1)) q2
  · exact mch_1 (by omega) (by omega)
theorem chLs_mch {b f g a k : Nat} (hg : g ≤ f) (q : chLs f a k) : mch b g a k := by
  rcases q with ⟨q1, q2, -⟩ | ⟨q1, q2⟩
  · exact mch_40 (Or.inl q1) (by omega)
  · exact mch_1 (by omega) (by omega)
theorem chTl_mch {b f i a k : Nat} (q : chTl f i a k) : mch b f a k := by
  rcases q with ⟨q1, q2⟩ | ⟨q1, q2⟩ | ⟨q1, q2⟩
  · exact mch_12 (Or.inr q1) (by omega)
  · exact mch_1 (by omega) (by omega)
  · subst q1; exact mch_f (by omega)
theorem chMt_mch {b f a k : Nat} (q : chMt a k) : mch b f a k := by
  rcases q with q | ⟨q1, q2⟩
  · exact mch_154 q
  · subst q1; exact mch_f (by omega)
theorem chF_mch {b f : Nat} : ∀ a k, chF b f a k → mch b f a k := fun a k q => by
  rcases q with q | ⟨q1, q2⟩ | q
  · exact chPk_mch q
  · exact mch_1 (by omega) (by omega)
  · exact mch_mono (by omega) q
theorem chX_mch {b f i : Nat} : ∀ a k, chX b f i a k → mch b f a k := fun a k q => q.elim (chF_mch a k) chTl_mch
theorem chI_F {b f : Nat} : ∀ a k, chI f a k → chF b f a k := fun a k q => by
  rcases q with q | ⟨q1, q2⟩
  · exact Or.inr (Or.inr (chLs_mch (Nat.le_refl _) q))
  · subst q1; exact Or.inr (Or.inr (mch_f (by omega)))
theorem chBn_F {b f : Nat} : ∀ a k, chBn f a k → chF b f a k := fun a k q => by
  rcases q with q | ⟨q1, q2⟩ | q
  · exact Or.inl q
  · exact Or.inr (Or.inl ⟨by omega, q2⟩)
  · exact chI_F a k q
theorem chB_X {b f i : Nat} : ∀ a k, chB b f i a k → chX b f i a k := fun a k q => by
  rcases q with q | ⟨q1, q2⟩ | q
  · exact Or.inl (Or.inl q)
  · subst q1; exact Or.inl (Or.inr (Or.inr (mch_133 q2)))
  · exact Or.inr q
theorem chCh_X {b f i : Nat} : ∀ a k, chCh b f i a k → chX b f i a k := fun a k q => by
  rcases q with q | ⟨q1, q2⟩ | q | q
  · exact Or.inl (Or.inr (Or.inr (mch_G q)))
  · subst q1; exact Or.inl (Or.inr (Or.inr (mch_f (Or.inl q2))))
  · exact Or.inl (Or.inr (Or.inr (chMt_mch q)))
  · exact Or.inr q
theorem chLi_mch {b f a k : Nat} (q : chLi b a k) : mch b f a k := by
  rcases q with q | q | ⟨q1, q2⟩
  · exact mch_G q
  · subst q; exact mch_140
  · subst q1; exact mch_f (Or.inl q2)
theorem chC_mch {b f : Nat} : ∀ a k, chC b f a k → mch b f a k := fun a k q => by
  rcases q with q | ⟨q1, q2, -⟩ | ⟨q1, q2⟩
  · exact chLi_mch q
  · exact mch_12 (Or.inl q1) q2
  · subst q1; exact mch_f (by omega)
theorem chO_mch {b f : Nat} : ∀ a k, chO f a k → mch b f a k := fun a k q => by
  rcases q with (q | ⟨q1, q2, -⟩ | ⟨q1, q2⟩) | (⟨q1, q2, -⟩ | ⟨q1, q2⟩) | ⟨q1, q2⟩ | ⟨q1, q2⟩
  · exact chLs_mch (Nat.le_refl _) q
  · exact mch_12 (Or.inl q1) q2
  · exact mch_1 (by omega) (by omega)
  · exact mch_40 (Or.inr (Or.inl q1)) q2
  · exact mch_1 (by omega) (by omega)
  · exact mch_1 (by omega) (by omega)
  · subst q1; exact mch_f (by omega)
/-- what is in the state is apart from a frame's own cells -/
theorem chS_O {b f a k : Nat} (q : chS b a k) : ¬ chO f a k := by
  intro h
  rcases q with (q | ⟨q, -, -⟩ | q | q) | ⟨q1, -⟩ | ⟨q1, q2⟩ | q | q <;> rcases h with ((h | h) | h | h) | (h | h) | h | h <;> omega
theorem chS_Bn {b f a k : Nat} (q : chS b a k) : ¬ chBn f a k := by
  intro h
  rcases q with (q | ⟨q, -, -⟩ | q | q) | ⟨q1, -⟩ | ⟨q1, q2⟩ | q | q <;> rcases h with (h | h) | h | ((h | h) | h) <;> omega
theorem chS_I {b f a k : Nat} (q : chS b a k) : ¬ chI f a k := by
  intro h
  rcases q with (q | ⟨q, -, -⟩ | q | q) | ⟨q1, -⟩ | ⟨q1, q2⟩ | q | q <;> rcases h with ((h | h) | h) <;> omega
theorem chG_B {b f i a k : Nat} (q : chG b a k) : ¬ chB b f i a k := by
  intro h
  rcases q with q | ⟨q, -, -⟩ | q | q <;> rcases h with (h | h) | h | (h | h | h) <;> omega
theorem chX_no {b f i a k : Nat} (h1 : ¬ chPk f a k) (h2 : ¬ ((a = 151 ∨ a = 152 ∨ a = 153) ∧ k = f)) (h3 : ¬ mch b (f + 1) a k) (h4 : ¬ chTl f i a k) : ¬ chX b f i a k := by
  rintro ((h | h | h) | h)
  · exact h1 h
  · exact h2 h
  · exact h3 h
  · exact h4 h
theorem frm_X {b f i : Nat} {l t : List Nat} {m : Nat → Option Nat} {I I' : IT} (hl : l.length ≤ 40) (ht : t.length ≤ 12) (w : fS (chX b f i) I I') (h : frmM f l t m I) : frmM f l t m I' := by
  obtain ⟨h1, h2, h3, h4, h5, h6⟩ := h
  have n0 : ∀ a, a = 142 ∨ a = 144 ∨ a = 146 → ¬ chX b f i a f := fun a ha => chX_no (by unfold chPk; omega) (by omega) (by rcases ha with rfl | rfl | rfl <;> (unfold mch chG; omega)) (by unfold chTl; omega)
  refine ⟨by rw [w 142 f (n0 _ (by omega))]; exact h1, fun j hj => ?_, by rw [w 144 f (n0 _ (by omega))]; exact h3, fun j hj => ?_, fun j hj => ?_, by rw [w 146 f (n0 _ (by omega))]; exact h6⟩
  · rw [w 141 _ (chX_no (by unfold chPk; omega) (by omega) (by unfold mch chG; omega) (by unfold chTl; omega))]; exact h2 j hj
  · rw [w 143 _ (chX_no (by unfold chPk; omega) (by omega) (by unfold mch chG; omega) (by unfold chTl; omega))]; exact h4 j hj
  · rw [w 145 _ (chX_no (by unfold chPk; omega) (by omega) (by unfold mch chG; omega) (by unfold chTl; omega))]; exact h5 j hj
theorem X_148 {b f i j : Nat} (hf : j < i) (hi : i < 12) : ¬ chX b f i 148 (12 * f + j) := chX_no (by unfold chPk; omega) (by omega) (by unfold mch chG; omega) (by unfold chTl; omega)
theorem X_126 {b f i k : Nat} : ¬ chX b f i 126 k := chX_no (by unfold chPk; omega) (by omega) (by unfold mch chG; omega) (by unfold chTl; omega)
theorem m_126 {b f k : Nat} : ¬ mch b f 126 k := by unfold mch chG; omega
theorem m_15 {b f a : Nat} (ha : 150 ≤ a ∧ a ≤ 153) : ¬ mch b (f + 1) a f := by
  rcases (show a = 150 ∨ a = 151 ∨ a = 152 ∨ a = 153 by omega) with rfl | rfl | rfl | rfl <;> (unfold mch chG; omega)
theorem m_149 {b f j : Nat} (hj : j < 40) : ¬ mch b (f + 1) 149 (40 * f + j) := by unfold mch chG; omega
