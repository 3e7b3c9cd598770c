noncomputable section
/-! a new frame -/
section E60b
variable {w w' : eW} {a t g p n nt nw : Int} {dl sg pi en : Int → Int} {an br : Int → Int → Prop} {bs ow : Int → Int}
def bsUp (bs : Int → Int) (m z : Int) (j : Int) : Int := if j = m then z else bs j
theorem bsUp_eq (bs : Int → Int) (m z : Int) : bsUp bs m z m = z := if_pos rfl
theorem bsUp_ne (bs : Int → Int) {m j : Int} (z : Int) (h : j ≠ m) : bsUp bs m z j = bs j := if_neg h
theorem topOk.push {b q : Int} (hC : cOk w a n nt nw dl sg pi en an br) (h : topOk w a t g p n nt nw dl sg pi an br bs ow) (hg : g ≤ 18) (hb0 : b ≠ 1 → iFT w a n p ∧ dl (p + 1) = 0 ∧ sg (p + 1) = 0) (hb1 : b = 1 → dl p = 0 ∧ sg p = 0) (hq : 0 ≤ q ∧ q < w 338 a) (e : ∀ c k, 328 ≤ c → c ≤ 338 → w' c k = w c k) (e1 : ∀ i, 0 ≤ i → i < g → w' 276 (1260 * t + 2 * i + 436) = w 276 (1260 * t + 2 * i + 436) ∧ w' 276 (1260 * t + 2 * i + 439) = w 276 (1260 * t + 2 * i + 439)) (e0 : w' 276 (1260 * t + 2 * g + 436) = p) (ef : w' 276 (1260 * t + 2 * g + 439) = b) (et : w' 276 (1260 * t + 2 * g + 438) = w 337 (32 * a + q)) (e2 : w' 276 (1260 * t + 428) = g + 2) (e3 : w' 276 (1260 * t + 429) = w 276 (1260 * t + 429)) (e4 : ∀ k, 0 ≤ k → k < 1200 → w' 276 (1260 * t + k + 476) = w 276 (1260 * t + k + 476)) :
    topOk w' a t (g + 1) (w 337 (32 * a + q)) n nt nw dl sg pi an br (bsUp bs (g + 1) (bs g + pi (w 330 (10000 * a + p)))) ow ∧ dl (w 337 (32 * a + q)) = 0 ∧ sg (w 337 (32 * a + q)) = 0 := by
  obtain ⟨hp, h0, h1, h2, h3, h4, h5, h6, h7⟩ := h
  have hr := hC.2.2.2.2.2.2 q hq.1 hq.2
  unfold tgt at hr
  have hp0 := hC.2.2.2.1.1
  have hpr := hC.2.2.2.1.2.1 _ h4.1 h4.2
  have hb := h3.2.1 g (by omega) (Int.le_refl g)
  have hreg : w' 330 (10000 * a + w 337 (32 * a + q)) = -1 := by rw [e 330 _ (by decide) (by decide)]; exact hr.2.2.2.2
  have hlo := h3.fr e e1
  refine ⟨⟨⟨hr.1, hr.2.1⟩, by rw [show 1260 * t + 2 * (g + 1) + 436 = 1260 * t + 2 * g + 438 by omega]; exact et, by omega, by omega, ⟨?_, fun i q1 q2 => ?_, fun i j q1 q2 q3 => ?_, fun i q1 q2 => ?_⟩, by rw [hreg]; omega, ?_, ?_, fun j q1 q2 => ?_⟩, hr.2.2.1, hr.2.2.2.1⟩
  · rw [bsUp_ne _ _ (by omega)]; exact h3.1
  · by_cases ei : i = g + 1
    · rw [ei, bsUp_eq]; omega
    · rw [bsUp_ne _ _ ei]; exact h3.2.1 i q1 (by omega)
  · by_cases ej : j = g + 1
    · by_cases ei : i = g + 1
      · rw [ei, ej]; exact Int.le_refl _
      · have := h3.2.2.1 i g q1 (by omega) (Int.le_refl g)
        rw [ej, bsUp_eq, bsUp_ne _ _ ei]; omega
    · rw [bsUp_ne _ _ ej, bsUp_ne _ _ (by omega)]; exact h3.2.2.1 i j q1 q2 (by omega)
  · by_cases ei : i = g
    · subst ei
      rw [e0, ef, bsUp_eq, bsUp_ne _ _ (show i ≠ i + 1 by omega), e 330 _ (by decide) (by decide)]
      refine ⟨hp, rfl, h6, fun k => ?_, fun k => hb1 k⟩
      have := hb0 k
      unfold iFT at this ⊢
      simp only [e 330 _ (by decide) (by decide)]
      exact this
    · have := hlo.2.2.2 i q1 (by omega)
      rw [bsUp_ne _ _ (show i ≠ g + 1 by omega), bsUp_ne _ _ (show i + 1 ≠ g + 1 by omega)]
      exact this
  · rw [e3, hreg, bsUp_eq, hp0]; omega
  · rw [hreg]
    intro q' k1 k2 k3
    have := hC.2.2.2.1.2.2.2.1 q' k1
    omega
  · rw [hreg, bsUp_eq, hp0] at q2
    have h8 := h7 j q1 (by omega)
    have k1 := e4 (2 * j) (by omega) (by omega)
    have k2 := e4 (2 * j + 1) (by omega) (by omega)
    rw [show 1260 * t + (2 * j + 1) + 476 = 1260 * t + 2 * j + 477 by omega] at k2
    exact h8.fr e ⟨k1, k2⟩
end E60b
end
