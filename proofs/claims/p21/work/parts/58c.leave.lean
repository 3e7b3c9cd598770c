noncomputable section
/-! a region is left: by its catch, by its finally, upwards -/
section E58c
variable {w w' : eW} {a t g r r' n nt nw : Int} {dl sg pi en : Int → Int} {an br : Int → Int → Prop} {bs ow : Int → Int}
/-- to a region with as many open finallys, the same ones -/
theorem runOk.to (h : runOk w a t g r n nt nw dl sg pi an br bs ow) (e : ∀ c k, 328 ≤ c → c ≤ 338 → w' c k = w c k) (e1 : ∀ i, 0 ≤ i → i < g → w' 276 (1260 * t + 2 * i + 436) = w 276 (1260 * t + 2 * i + 436) ∧ w' 276 (1260 * t + 2 * i + 439) = w 276 (1260 * t + 2 * i + 439)) (e2 : w' 276 (1260 * t + 428) = w 276 (1260 * t + 428)) (e3 : w' 276 (1260 * t + 429) = bs g + pi r') (e4 : ∀ k, 0 ≤ k → k < 1200 → w' 276 (1260 * t + k + 476) = w 276 (1260 * t + k + 476)) (hp : pi r ≤ 30) (hr : -1 ≤ r' ∧ r' < 3 * nt) (hle : pi r' ≤ pi r) (hq : ∀ q, an r' q → 0 ≤ q → q % 3 = 2 → an r q) : runOk w' a t g r' n nt nw dl sg pi an br bs ow := by
  obtain ⟨h1, h2, h3, h4, h5, h6, h7⟩ := h
  have hb := h3.2.1 g (by omega) (Int.le_refl g)
  refine ⟨h1, by rw [e2]; exact h2, h3.fr e e1, hr, e3, fun q q1 q2 q3 => h6 q (hq q q1 q2 q3) q2 q3, fun j q1 q2 => (h7 j q1 (by omega)).fr e ?_⟩
  have k1 := e4 (2 * j) (by omega) (by omega)
  have k2 := e4 (2 * j + 1) (by omega) (by omega)
  rw [show 1260 * t + (2 * j + 1) + 476 = 1260 * t + 2 * j + 477 by omega] at k2
  exact ⟨k1, k2⟩
def owUp (ow : Int → Int) (m z : Int) (j : Int) : Int := if j = m then z else ow j
theorem owUp_eq (ow : Int → Int) (m z : Int) : owUp ow m z m = z := if_pos rfl
theorem owUp_ne (ow : Int → Int) {m j : Int} (z : Int) (h : j ≠ m) : owUp ow m z j = ow j := if_neg h
/-- into the finally of the try z -/
theorem runOk.fin {z i x y : Int} (hC : cOk w a n nt nw dl sg pi en an br) (h : runOk w a t g r n nt nw dl sg pi an br bs ow) (hz : 0 ≤ z ∧ z < nt) (hi : 0 ≤ i ∧ i ≤ 1) (hr : r = 3 * z + i) (e : ∀ c k, 328 ≤ c → c ≤ 338 → w' c k = w c k) (e1 : ∀ i, 0 ≤ i → i < g → w' 276 (1260 * t + 2 * i + 436) = w 276 (1260 * t + 2 * i + 436) ∧ w' 276 (1260 * t + 2 * i + 439) = w 276 (1260 * t + 2 * i + 439)) (e2 : w' 276 (1260 * t + 428) = w 276 (1260 * t + 428)) (e3 : w' 276 (1260 * t + 429) = bs g + pi r + 1)
    (e4 : ∀ k, 0 ≤ k → k < 2 * (bs g + pi r) → w' 276 (1260 * t + k + 476) = w 276 (1260 * t + k + 476)) (e5 : w' 276 (1260 * t + 2 * (bs g + pi r) + 476) = x) (e6 : w' 276 (1260 * t + 2 * (bs g + pi r) + 477) = y) (hx : x = 3 → 0 ≤ y ∧ y < nw ∧ br (w 331 (900 * a + z)) y ∧ w 334 (900 * a + z) ≤ w 336 (900 * a + y)) : runOk w' a t g (3 * z + 2) n nt nw dl sg pi an br bs (owUp ow (bs g + pi r) z) := by
  obtain ⟨h1, h2, h3, h4, h5, h6, h7⟩ := h
  have hb := h3.2.1 g (by omega) (Int.le_refl g)
  have hty := hC.2.2.1 z hz.1 hz.2
  obtain ⟨t1, t2, -, -, -, t6, t7⟩ := hty
  have hpm := hC.2.2.2.1.2.2.2.2.2
  have hpr := hC.2.2.2.1.2.1
  have hpi : pi (3 * z + 2) = pi r + 1 := by
    subst hr
    obtain rfl | rfl : i = 0 ∨ i = 1 := by omega
    · rw [show 3 * z + 0 = 3 * z by omega]; omega
    · omega
  have han : ∀ q, an (w 331 (900 * a + z)) q → an r q := fun q hq => by rw [hr]; exact t7 i q (by omega) (by omega) hq
  refine ⟨h1, by rw [e2]; exact h2, ⟨h3.1, h3.2.1, h3.2.2.1, fun k q1 q2 => ?_⟩, by omega, by rw [e3]; omega, fun q q1 q2 q3 => ?_, fun j q1 q2 => ?_⟩
  · have := (h3.fr e e1).2.2.2 k q1 q2
    refine ⟨this.1, this.2.1, fun q k1 k2 k3 => ?_, this.2.2.2⟩
    have h9 := this.2.2.1 q k1 k2 k3
    have hin := hC.2.1 (w 276 (1260 * t + 2 * k + 436)) (by rw [← (e1 k q1 q2).1]; exact this.1.1) (by rw [← (e1 k q1 q2).1]; exact this.1.2)
    have hrg := hin.1.2.1
    have k1' := k1
    rw [e 330 _ (by decide) (by decide), (e1 k q1 q2).1] at k1'
    have h10 := hpm _ q k1' hrg.1 hrg.2
    have h11 := this.2.1
    rw [e 330 _ (by decide) (by decide), (e1 k q1 q2).1] at h11
    have h12 := h3.2.2.1 (k + 1) g (by omega) (by omega) (by omega)
    have h13 := (hpr r h4.1 h4.2).1
    rw [owUp_ne _ _ (by omega)]
    exact h9
  · rcases t6 2 q (by omega) (by omega) q1 with rfl | hq
    · rw [show bs g + pi (3 * z + 2) - 1 = bs g + pi r by omega, owUp_eq]; omega
    · have h10 := hpm r q (han q hq) h4.1 h4.2
      rw [owUp_ne _ _ (by omega)]
      exact h6 q (han q hq) q2 q3
  · by_cases ej : j = bs g + pi r
    · subst ej
      unfold pendOk
      rw [e5, e6, owUp_eq]
      simp only [e 331 _ (by decide) (by decide), e 334 _ (by decide) (by decide), e 336 _ (by decide) (by decide)]
      exact ⟨hz, hx⟩
    · have h8 := h7 j q1 (by omega)
      have k1 := e4 (2 * j) (by omega) (by omega)
      have k2 := e4 (2 * j + 1) (by omega) (by omega)
      rw [show 1260 * t + (2 * j + 1) + 476 = 1260 * t + 2 * j + 477 by omega] at k2
      have h9 := h8.fr e ⟨k1, k2⟩
      unfold pendOk at h9 ⊢
      rw [owUp_ne _ _ ej]
      exact h9
end E58c
end
