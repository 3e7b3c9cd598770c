noncomputable section
/-! what may change: sets of slots -/
def e_fr (S : Int → Int → Prop) (w w' : eW) : Prop := ∀ c k, ¬ S c k → w' c k = w c k
theorem e_fr.refl {S : Int → Int → Prop} (w : eW) : e_fr S w w := fun _ _ _ => rfl
theorem e_fr.trans {S : Int → Int → Prop} {a b c : eW} (h : e_fr S a b) (h' : e_fr S b c) : e_fr S a c := fun j k q => (h' j k q).trans (h j k q)
theorem e_fr.mono {S S' : Int → Int → Prop} {a b : eW} (h : e_fr S a b) (hs : ∀ c k, S c k → S' c k) : e_fr S' a b := fun j k q => h j k (fun p => q (hs j k p))
theorem e_fr.up {S : Int → Int → Prop} {w w1 w2 : eW} {c k z : Int} (h : e_fr S w w1) (hw : e_up w1 c k z = w2) (hs : S c k) : e_fr S w w2 := fun j i q => by
  subst hw
  rw [e_up_ne]
  · exact h j i q
  · by_cases e1 : j = c
    · by_cases e2 : i = k
      · rw [e1, e2] at q; exact absurd hs q
      · exact Or.inr e2
    · exact Or.inl e1
theorem e_Has.fr {ty : Int → Int → Int × Int} {S : Int → Int → Prop} {w w' : eW} (hS : ∀ c k, S c k → ty c k = (1, 0)) (f : e_fr S w w') (h : e_Has ty w) : e_Has ty w' := fun c k hl => by
  have n : ¬ S c k := fun q => by rw [hS c k q] at hl; exact absurd hl (by decide)
  rw [f c k n]
  exact h c k hl
/-- the lines that are held against each other -/
def mL (c k : Int) : Prop := (c = 275 ∧ 58 ≤ k ∧ k ≤ 60) ∨ c = 324 ∨ c = 325
def mB (c k : Int) : Prop := c = 275 ∧ 58 ≤ k ∧ k ≤ 60
def m1 (c _k : Int) : Prop := c = 324
def m2 (c _k : Int) : Prop := c = 325
/-- all that the model's methods use between -/
def mS (c k : Int) : Prop := (321 ≤ c ∧ c ≤ 327) ∨ (341 ≤ c ∧ c ≤ 353) ∨ (c = 275 ∧ ((58 ≤ k ∧ k ≤ 60) ∨ (78 ≤ k ∧ k ≤ 87) ∨ k = 94 ∨ (96 ≤ k ∧ k ≤ 100) ∨ k = 102 ∨ (110 ≤ k ∧ k ≤ 112)))
theorem mS_none (c k : Int) (h : mS c k) : mTy c k = (1, 0) := by
  unfold mS at h
  rcases h with h | h | ⟨rfl, h⟩
  · obtain rfl | rfl | rfl | rfl | rfl | rfl | rfl : c = 321 ∨ c = 322 ∨ c = 323 ∨ c = 324 ∨ c = 325 ∨ c = 326 ∨ c = 327 := by omega
    all_goals rfl
  · obtain rfl | rfl | rfl | rfl | rfl | rfl | rfl | rfl | rfl | rfl | rfl | rfl | rfl : c = 341 ∨ c = 342 ∨ c = 343 ∨ c = 344 ∨ c = 345 ∨ c = 346 ∨ c = 347 ∨ c = 348 ∨ c = 349 ∨ c = 350 ∨ c = 351 ∨ c = 352 ∨ c = 353 := by omega
    all_goals rfl
  · have h' : k = 58 ∨ k = 59 ∨ k = 60 ∨ k = 78 ∨ k = 79 ∨ k = 80 ∨ k = 81 ∨ k = 82 ∨ k = 83 ∨ k = 84 ∨ k = 85 ∨ k = 86 ∨ k = 87 ∨ k = 94 ∨ k = 96 ∨ k = 97 ∨ k = 98 ∨ k = 99 ∨ k = 100 ∨ k = 102 ∨ k = 110 ∨ k = 111 ∨ k = 112 := by omega
    rcases h' with rfl | rfl | rfl | rfl | rfl | rfl | rfl | rfl | rfl | rfl | rfl | rfl | rfl | rfl | rfl | rfl | rfl | rfl | rfl | rfl | rfl | rfl | rfl
    all_goals rfl
theorem mL_S (c k : Int) (h : mL c k) : mS c k := by unfold mL at h; unfold mS; omega
theorem mT_S {w w' : eW} (f : e_fr mS w w') (h : e_Has mTy w) : e_Has mTy w' := h.fr mS_none f
theorem mT_L {w w' : eW} (f : e_fr mL w w') (h : e_Has mTy w) : e_Has mTy w' := h.fr (fun c k q => mS_none c k (mL_S c k q)) f
theorem mT_B {w w' : eW} (f : e_fr mB w w') (h : e_Has mTy w) : e_Has mTy w' := mT_L (f.mono (fun c k q => Or.inl q)) h
theorem mT_1 {w w' : eW} (f : e_fr m1 w w') (h : e_Has mTy w) : e_Has mTy w' := mT_L (f.mono (fun c k q => Or.inr (Or.inl q))) h
theorem mT_2 {w w' : eW} (f : e_fr m2 w w') (h : e_Has mTy w) : e_Has mTy w' := mT_L (f.mono (fun c k q => Or.inr (Or.inr q))) h
/-- a row of numbers is known from a to b -/
def e_kn (w : eW) (c a b : Int) : Prop := ∀ i, a ≤ i → i ≤ b → -2147483648 ≤ w c i ∧ w c i ≤ 2147483647
theorem e_kn.fr {S : Int → Int → Prop} {w w' : eW} {c a b : Int} (f : e_fr S w w') (hS : ∀ k, ¬ S c k) (h : e_kn w c a b) : e_kn w' c a b := fun i h1 h2 => by rw [f c i (hS i)]; exact h i h1 h2
end
