noncomputable section
/-! places of frames and pending entries; a frame is left -/
theorem nR_FRg {e : Int} (t i : Int) (h : 0 ≤ t ∧ t ≤ 15) (hi : 0 ≤ i ∧ i ≤ 19) (he : e = 1260 * t + 2 * i + 436) : mTy 276 e = (0, 9999) := by rw [he]; exact nR_FRAME h hi
theorem nR_FRWg {e : Int} (t i : Int) (h : 0 ≤ t ∧ t ≤ 15) (hi : 0 ≤ i ∧ i ≤ 19) (he : e = 1260 * t + 2 * i + 437) : mTy 276 e = (0, 1) := by rw [he]; exact nR_FRAMEW h hi
theorem nR_PEg {e : Int} (t : Int) (h : 0 ≤ t ∧ t ≤ 15) (he : 1260 * t + 476 ≤ e ∧ e ≤ 1260 * t + 1675) : mTy 276 e = (-2147483648, 2147483647) := by
  have := nR_PEND (t := t) (i := e - 1260 * t - 476) h (by omega)
  rwa [show 1260 * t + (e - 1260 * t - 476) + 476 = e by omega] at this
section E58
variable {w w' : eW} {a t g n nt nw : Int} {dl sg pi en : Int → Int} {an br : Int → Int → Prop} {bs ow : Int → Int}
/-- the frame below the top, in the words that the printed proofs use -/
theorem lowOk.top (h : lowOk w a t g n dl sg pi an bs ow) (hg : 1 ≤ g) : (0 ≤ w 276 (1260 * t + 2 * g + 434) ∧ w 276 (1260 * t + 2 * g + 434) < n) ∧ bs g = bs (g - 1) + pi (w 330 (10000 * a + w 276 (1260 * t + 2 * g + 434))) ∧ chn pi ow an (w 330 (10000 * a + w 276 (1260 * t + 2 * g + 434))) (bs (g - 1)) ∧
    (w 276 (1260 * t + 2 * g + 437) ≠ 1 → iFT w a n (w 276 (1260 * t + 2 * g + 434)) ∧ dl (w 276 (1260 * t + 2 * g + 434) + 1) = 0 ∧ sg (w 276 (1260 * t + 2 * g + 434) + 1) = 0) ∧ (w 276 (1260 * t + 2 * g + 437) = 1 → dl (w 276 (1260 * t + 2 * g + 434)) = 0 ∧ sg (w 276 (1260 * t + 2 * g + 434)) = 0) := by
  have q := h.2.2.2 (g - 1) (by omega) (by omega)
  rw [show 1260 * t + 2 * (g - 1) + 436 = 1260 * t + 2 * g + 434 by omega, show 1260 * t + 2 * (g - 1) + 439 = 1260 * t + 2 * g + 437 by omega, show g - 1 + 1 = g by omega] at q
  exact q
theorem lowOk.less (h : lowOk w a t g n dl sg pi an bs ow) (k : Int) (hk : k ≤ g) : lowOk w a t k n dl sg pi an bs ow := ⟨h.1, fun i h1 h2 => h.2.1 i h1 (by omega), fun i j h1 h2 h3 => h.2.2.1 i j h1 h2 (by omega), fun i h1 h2 => h.2.2.2 i h1 (by omega)⟩
theorem runOk.pop (hC : cOk w a n nt nw dl sg pi en an br) (h : runOk w a t g (-1) n nt nw dl sg pi an br bs ow) (hg : 1 ≤ g) (e : ∀ c k, 328 ≤ c → c ≤ 338 → w' c k = w c k) (e1 : ∀ i, 0 ≤ i → i < g - 1 → w' 276 (1260 * t + 2 * i + 436) = w 276 (1260 * t + 2 * i + 436) ∧ w' 276 (1260 * t + 2 * i + 439) = w 276 (1260 * t + 2 * i + 439)) (e2 : w' 276 (1260 * t + 428) = g) (e3 : w' 276 (1260 * t + 429) = w 276 (1260 * t + 429)) (e4 : ∀ k, 0 ≤ k → k < 1200 → w' 276 (1260 * t + k + 476) = w 276 (1260 * t + k + 476)) : runOk w' a t (g - 1) (w 330 (10000 * a + w 276 (1260 * t + 2 * g + 434))) n nt nw dl sg pi an br bs ow := by
  obtain ⟨h1, h2, h3, h4, h5, h6, h7⟩ := h
  obtain ⟨q1, q2, q3, -, -⟩ := h3.top hg
  have hp0 := hC.2.2.2.1.1
  have hi := (hC.2.1 _ q1.1 q1.2).1.2.1
  have hb := h3.2.1 g (by omega) (Int.le_refl g)
  refine ⟨by omega, by omega, (h3.less (g - 1) (by omega)).fr e e1, hi, by rw [e3, h5, hp0]; omega, q3, fun j k1 k2 => (h7 j k1 (by omega)).fr e ?_⟩
  have l1 := e4 (2 * j) (by omega) (by omega)
  have l2 := e4 (2 * j + 1) (by omega) (by omega)
  rw [show 1260 * t + (2 * j + 1) + 476 = 1260 * t + 2 * j + 477 by omega] at l2
  exact ⟨l1, l2⟩
/-- at another place of the same region -/
theorem runOk.at {r p : Int} (h : runOk w' a t g r n nt nw dl sg pi an br bs ow) (hp : 0 ≤ p ∧ p < n) (h1 : w' 276 (1260 * t + 2 * g + 436) = p) (hr : w' 330 (10000 * a + p) = r) : topOk w' a t g p n nt nw dl sg pi an br bs ow := ⟨hp, h1, by rw [hr]; exact h⟩
end E58
end
