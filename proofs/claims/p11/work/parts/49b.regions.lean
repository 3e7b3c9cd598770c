noncomputable section
/-! the other regions of the model's long row -/
theorem nR_OWN {p : Int} (h : 0 ≤ p ∧ p ≤ 63) : mTy 276 (p + 160) = (-2147483648, 2147483647) := by
  show nowR _ = _
  unfold nowR
  rw [if_neg (by omega), if_neg (by omega), if_pos (by omega)]
theorem nR_FORCED {p : Int} (h : 0 ≤ p ∧ p ≤ 63) : mTy 276 (p + 224) = (0, 1) := by
  show nowR _ = _
  unfold nowR
  rw [if_neg (by omega), if_neg (by omega), if_neg (by omega), if_pos (by omega)]
theorem nR_FORCE {p : Int} (h : 0 ≤ p ∧ p ≤ 63) : mTy 276 (p + 288) = (-2147483648, 2147483647) := by
  show nowR _ = _
  unfold nowR
  rw [if_neg (by omega), if_neg (by omega), if_neg (by omega), if_neg (by omega), if_pos (by omega)]
theorem nR_RISES {p : Int} (h : 0 ≤ p ∧ p ≤ 63) : mTy 276 (p + 352) = (-2147483648, 2147483647) := by
  show nowR _ = _
  unfold nowR
  rw [if_neg (by omega), if_neg (by omega), if_neg (by omega), if_neg (by omega), if_pos (by omega)]
theorem nR_WHERE {p : Int} (h : 0 ≤ p ∧ p ≤ 31) : mTy 276 (4 * p + 20576) = (0, 8) := by
  show nowR _ = _
  unfold nowR
  rw [if_neg (by omega), if_neg (by omega), if_neg (by omega), if_neg (by omega), if_neg (by omega), if_neg (by omega), if_pos (by omega), if_pos (by omega)]
theorem nR_PART {p k : Int} (h : 0 ≤ p ∧ p ≤ 31) (hk : 1 ≤ k ∧ k ≤ 3) : mTy 276 (4 * p + k + 20576) = (-2147483648, 2147483647) := by
  show nowR _ = _
  unfold nowR
  rw [if_neg (by omega), if_neg (by omega), if_neg (by omega), if_neg (by omega), if_neg (by omega), if_neg (by omega), if_pos (by omega), if_neg (by omega)]
theorem nR_PART1 {p : Int} (h : 0 ≤ p ∧ p ≤ 31) : mTy 276 (4 * p + 20577) = (-2147483648, 2147483647) := by
  have := nR_PART (k := 1) h (by omega)
  rwa [show 4 * p + 1 + 20576 = 4 * p + 20577 by omega] at this
theorem nR_PART2 {p : Int} (h : 0 ≤ p ∧ p ≤ 31) : mTy 276 (4 * p + 20578) = (-2147483648, 2147483647) := by
  have := nR_PART (k := 2) h (by omega)
  rwa [show 4 * p + 2 + 20576 = 4 * p + 20578 by omega] at this
theorem nR_PART3 {p : Int} (h : 0 ≤ p ∧ p ≤ 31) : mTy 276 (4 * p + 20579) = (-2147483648, 2147483647) := by
  have := nR_PART (k := 3) h (by omega)
  rwa [show 4 * p + 3 + 20576 = 4 * p + 20579 by omega] at this
theorem nR_ORDER {b : Int} (h : 0 ≤ b ∧ b ≤ 3) : mTy 276 (33 * b + 20704) = (0, 32) := by
  show nowR _ = _
  unfold nowR
  rw [if_neg (by omega), if_neg (by omega), if_neg (by omega), if_neg (by omega), if_neg (by omega), if_neg (by omega), if_neg (by omega), if_pos (by omega), if_pos (by omega)]
/-- any place of a belt's order -/
theorem nR_ORD {e : Int} (b : Int) (h : 0 ≤ b ∧ b ≤ 3) (hk : 33 * b + 20705 ≤ e ∧ e ≤ 33 * b + 20736) : mTy 276 e = (0, 31) := by
  show nowR _ = _
  unfold nowR
  rw [if_neg (by omega), if_neg (by omega), if_neg (by omega), if_neg (by omega), if_neg (by omega), if_neg (by omega), if_neg (by omega), if_pos (by omega), if_neg (by omega)]
theorem nR_INPUT {i f : Int} (h : 0 ≤ i ∧ i ≤ 7) (hf : f = 0 ∨ f = 1 ∨ f = 3) : mTy 276 (4 * i + (20836 + f)) = (0, 1) := by
  show nowR _ = _
  unfold nowR
  rw [if_neg (by omega), if_neg (by omega), if_neg (by omega), if_neg (by omega), if_neg (by omega), if_neg (by omega), if_neg (by omega), if_neg (by omega), if_pos (by omega), if_neg (by omega)]
theorem nR_INPUT2 {i : Int} (h : 0 ≤ i ∧ i ≤ 7) : mTy 276 (4 * i + 20838) = (-2147483648, 2147483647) := by
  show nowR _ = _
  unfold nowR
  rw [if_neg (by omega), if_neg (by omega), if_neg (by omega), if_neg (by omega), if_neg (by omega), if_neg (by omega), if_neg (by omega), if_neg (by omega), if_pos (by omega), if_pos (by omega)]
theorem nR_LOCK {l : Int} (h : 0 ≤ l ∧ l ≤ 7) : mTy 276 (l + 20868) = (-1, 15) := by
  show nowR _ = _
  unfold nowR
  rw [if_neg (by omega), if_neg (by omega), if_neg (by omega), if_neg (by omega), if_neg (by omega), if_neg (by omega), if_neg (by omega), if_neg (by omega), if_neg (by omega), if_pos (by omega)]
theorem nR_mid {e : Int} (h : 20876 ≤ e ∧ e < 21060) : mTy 276 e = (-2147483648, 2147483647) := by
  show nowR _ = _
  unfold nowR
  rw [if_neg (by omega), if_neg (by omega), if_neg (by omega), if_neg (by omega), if_neg (by omega), if_neg (by omega), if_neg (by omega), if_neg (by omega), if_neg (by omega), if_neg (by omega), if_pos (by omega)]
theorem nR_WAY {e : Int} (h : 21060 ≤ e ∧ e < 25060) : mTy 276 e = (0, 11) := by
  show nowR _ = _
  unfold nowR
  rw [if_neg (by omega), if_neg (by omega), if_neg (by omega), if_neg (by omega), if_neg (by omega), if_neg (by omega), if_neg (by omega), if_neg (by omega), if_neg (by omega), if_neg (by omega), if_neg (by omega), if_pos (by omega)]
theorem nR_EV {e : Int} (h : 25060 ≤ e) : mTy 276 e = (-2147483648, 2147483647) := by
  show nowR _ = _
  unfold nowR
  rw [if_neg (by omega), if_neg (by omega), if_neg (by omega), if_neg (by omega), if_neg (by omega), if_neg (by omega), if_neg (by omega), if_neg (by omega), if_neg (by omega), if_neg (by omega), if_neg (by omega), if_neg (by omega)]
/-- numbers of a row, from a to b, in bounds -/
def e_kr (w : eW) (c a b lo hi : Int) : Prop := ∀ i, a ≤ i → i ≤ b → lo ≤ w c i ∧ w c i ≤ hi
theorem e_kr.fr {S : Int → Int → Prop} {w w' : eW} {c a b lo hi : Int} (f : e_fr S w w') (hS : ∀ k, ¬ S c k) (h : e_kr w c a b lo hi) : e_kr w' c a b lo hi := fun i h1 h2 => by rw [f c i (hS i)]; exact h i h1 h2
theorem e_kr.ext {w w' : eW} {c a b k z lo hi : Int} (h : e_kr w c a b lo hi) (hw : e_up w c k z = w') (hk : k = b + 1) (hz : lo ≤ z ∧ z ≤ hi) : e_kr w' c a k lo hi := fun i h1 h2 => by
  subst hw
  by_cases e : i = k
  · rw [e, e_up_eq]; exact hz
  · rw [e_up_ne _ _ (Or.inr e)]; exact h i h1 (by omega)
theorem e_kr.oth {w w' : eW} {c c' a b k z lo hi : Int} (h : e_kr w c a b lo hi) (hw : e_up w c' k z = w') (hc : c ≠ c') : e_kr w' c a b lo hi := fun i h1 h2 => by
  subst hw
  rw [e_up_ne _ _ (Or.inl hc)]; exact h i h1 h2
theorem e_kr.nil {w : eW} {c a b lo hi : Int} (h : b < a) : e_kr w c a b lo hi := fun i h1 h2 => by omega
theorem e_kn.nil {w : eW} {c a b : Int} (h : b < a) : e_kn w c a b := fun i h1 h2 => by omega
def mQ (c _k : Int) : Prop := c = 326
def mE (c k : Int) : Prop := c = 276 ∧ (k = 5 ∨ 25060 ≤ k)
/-- wires have no circle -/
def mAc (w : eW) : Prop := ∃ rk : Int → Int, ∀ p, 0 ≤ p → p ≤ 63 → (0 ≤ rk p ∧ rk p ≤ 63) ∧ (0 ≤ w 318 p → rk (w 318 p) < rk p)
theorem mAc.fr' {S : Int → Int → Prop} {w w' : eW} (hS : ∀ k, ¬ S 318 k) (f : e_fr S w w') (h : mAc w) : mAc w' := by
  obtain ⟨rk, h⟩ := h
  exact ⟨rk, fun p h1 h2 => by rw [f 318 p (hS p)]; exact h p h1 h2⟩
def mW (c _k : Int) : Prop := c = 326 ∨ c = 327
def mR (c k : Int) : Prop := (c = 276 ∧ 352 ≤ k ∧ k ≤ 415) ∨ c = 326
def mO (c k : Int) : Prop := (c = 276 ∧ ((160 ≤ k ∧ k ≤ 223) ∨ (352 ≤ k ∧ k ≤ 415))) ∨ c = 326 ∨ c = 327
def mK (c k : Int) : Prop := (c = 276 ∧ 20876 ≤ k ∧ k ≤ 20931) ∨ c = 321 ∨ c = 322
theorem mT_Q {w w' : eW} (f : e_fr mQ w w') (h : e_Has mTy w) : e_Has mTy w' := h.fr (fun c k q => mS_none c k (by unfold mQ at q; unfold mS; omega)) f
theorem mT_W {w w' : eW} (f : e_fr mW w w') (h : e_Has mTy w) : e_Has mTy w' := h.fr (fun c k q => mS_none c k (by unfold mW at q; unfold mS; omega)) f
end
