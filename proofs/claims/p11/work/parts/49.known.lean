noncomputable section
/-! rows that are known, grown by a write; points of one arm -/
theorem e_kn.ext {w w' : eW} {c a b k z : Int} (h : e_kn w c a b) (hw : e_up w c k z = w') (hk : k = b + 1) (hz : -2147483648 ≤ z ∧ z ≤ 2147483647) : e_kn w' c a k := fun i h1 h2 => by
  subst hw
  by_cases e : i = k
  · rw [e, e_up_eq]; exact hz
  · rw [e_up_ne _ _ (Or.inr e)]; exact h i h1 (by omega)
theorem e_kn.oth {w w' : eW} {c c' a b k z : Int} (h : e_kn w c a b) (hw : e_up w c' k z = w') (hc : c ≠ c') : e_kn w' c a b := fun i h1 h2 => by
  subst hw
  rw [e_up_ne _ _ (Or.inl hc)]; exact h i h1 h2
/-- a write in the row keeps it known -/
theorem e_kn.upd {w w' : eW} {c a b k z : Int} (h : e_kn w c a b) (hw : e_up w c k z = w') (hz : -2147483648 ≤ z ∧ z ≤ 2147483647) : e_kn w' c a b := fun i h1 h2 => by
  subst hw
  by_cases e : i = k
  · rw [e, e_up_eq]; exact hz
  · rw [e_up_ne _ _ (Or.inr e)]; exact h i h1 h2
theorem e_kn.one {w w' : eW} {c k z : Int} (hw : e_up w c k z = w') (hz : -2147483648 ≤ z ∧ z ≤ 2147483647) : e_kn w' c k k := fun i h1 h2 => by
  subst hw
  have e : i = k := by omega
  rw [e, e_up_eq]; exact hz
def mPt (t c k : Int) : Prop := (c = 321 ∨ c = 322) ∧ t ≤ k ∧ k ≤ t + 6
def mP (c _k : Int) : Prop := c = 321 ∨ c = 322
theorem mT_P {w w' : eW} (f : e_fr mP w w') (h : e_Has mTy w) : e_Has mTy w' := h.fr (fun c k q => mS_none c k (by unfold mP at q; unfold mS; omega)) f
theorem mT_Pt {t : Int} {w w' : eW} (f : e_fr (mPt t) w w') (h : e_Has mTy w) : e_Has mTy w' := mT_P (f.mono (fun c k q => q.1)) h
/-- points of the arm b are known -/
def e_pk2 (w : eW) (t n : Int) : Prop := e_kn w 321 t (t + n) ∧ e_kn w 322 t (t + n)
theorem e_pk2.fr {S : Int → Int → Prop} {w w' : eW} {t n : Int} (f : e_fr S w w') (hS : ∀ k, t ≤ k → k ≤ t + n → ¬ S 321 k ∧ ¬ S 322 k) (h : e_pk2 w t n) : e_pk2 w' t n :=
  ⟨fun i h1 h2 => by rw [f 321 i (hS i h1 h2).1]; exact h.1 i h1 h2, fun i h1 h2 => by rw [f 322 i (hS i h1 h2).2]; exact h.2 i h1 h2⟩
end
