noncomputable section
/-! a program's text and a task's frames stay what they are where nothing of them is written -/
theorem insOk.fr {w w' : eW} {a n nt nw : Int} {dl sg en : Int → Int} {br : Int → Int → Prop} {p : Int} (e : ∀ c k, 328 ≤ c → c ≤ 338 → w' c k = w c k) (h : insOk w a n nt nw dl sg en br p) : insOk w' a n nt nw dl sg en br p := by
  unfold insOk iS iFT at h ⊢
  simp only [e 328 _ (by decide) (by decide), e 329 _ (by decide) (by decide), e 330 _ (by decide) (by decide), e 331 _ (by decide) (by decide), e 336 _ (by decide) (by decide), e 338 _ (by decide) (by decide)]
  exact h
theorem cOk.fr {w w' : eW} {a n nt nw : Int} {dl sg pi en : Int → Int} {an br : Int → Int → Prop} (e : ∀ c k, 328 ≤ c → c ≤ 338 → w' c k = w c k) (h : cOk w a n nt nw dl sg pi en an br) : cOk w' a n nt nw dl sg pi en an br := by
  obtain ⟨h1, h2, h3, h4, h5, h6, h7⟩ := h
  refine ⟨h1, fun p q1 q2 => (h2 p q1 q2).fr e, fun t q1 q2 => ?_, h4, fun v q1 q2 => ?_, fun r v q1 q2 q3 => ?_, fun q q1 q2 => ?_⟩
  · have := h3 t q1 q2
    unfold tryOk tgt at this ⊢
    simp only [e 330 _ (by decide) (by decide), e 331 _ (by decide) (by decide), e 332 _ (by decide) (by decide), e 333 _ (by decide) (by decide), e 334 _ (by decide) (by decide)]
    exact this
  · have := h5 v q1 q2
    unfold tgt at this ⊢
    simp only [e 330 _ (by decide) (by decide), e 335 _ (by decide) (by decide), e 336 _ (by decide) (by decide)]
    exact this
  · have := h6 r v q1 q2 q3
    simp only [e 331 _ (by decide) (by decide), e 334 _ (by decide) (by decide), e 335 _ (by decide) (by decide), e 336 _ (by decide) (by decide)]
    exact this
  · have q2' : q < w 338 a := by rw [← e 338 a (by decide) (by decide)]; exact q2
    have := h7 q q1 q2'
    unfold tgt at this ⊢
    simp only [e 330 _ (by decide) (by decide), e 337 _ (by decide) (by decide)]
    exact this
theorem lowOk.fr {w w' : eW} {a t g n : Int} {dl sg pi : Int → Int} {an : Int → Int → Prop} {bs ow : Int → Int} (e : ∀ c k, 328 ≤ c → c ≤ 338 → w' c k = w c k) (e1 : ∀ i, 0 ≤ i → i < g → w' 276 (1260 * t + 2 * i + 436) = w 276 (1260 * t + 2 * i + 436) ∧ w' 276 (1260 * t + 2 * i + 439) = w 276 (1260 * t + 2 * i + 439)) (h : lowOk w a t g n dl sg pi an bs ow) : lowOk w' a t g n dl sg pi an bs ow := by
  obtain ⟨h1, h2, hm, h3⟩ := h
  refine ⟨h1, h2, hm, fun i q1 q2 => ?_⟩
  have := h3 i q1 q2
  unfold iFT at this ⊢
  rw [(e1 i q1 q2).1, (e1 i q1 q2).2]
  simp only [e 330 _ (by decide) (by decide)]
  exact this
theorem pendOk.fr {w w' : eW} {a t nt nw : Int} {br : Int → Int → Prop} {ow : Int → Int} {j : Int} (e : ∀ c k, 328 ≤ c → c ≤ 338 → w' c k = w c k) (e1 : w' 276 (1260 * t + 2 * j + 476) = w 276 (1260 * t + 2 * j + 476) ∧ w' 276 (1260 * t + 2 * j + 477) = w 276 (1260 * t + 2 * j + 477)) (h : pendOk w a t nt nw br ow j) : pendOk w' a t nt nw br ow j := by
  unfold pendOk at h ⊢
  rw [e1.1, e1.2]
  simp only [e 331 _ (by decide) (by decide), e 334 _ (by decide) (by decide), e 336 _ (by decide) (by decide)]
  exact h
theorem runOk.fr {w w' : eW} {a t g r n nt nw : Int} {dl sg pi : Int → Int} {an br : Int → Int → Prop} {bs ow : Int → Int} (e : ∀ c k, 328 ≤ c → c ≤ 338 → w' c k = w c k) (e1 : ∀ i, 0 ≤ i → i < g → w' 276 (1260 * t + 2 * i + 436) = w 276 (1260 * t + 2 * i + 436) ∧ w' 276 (1260 * t + 2 * i + 439) = w 276 (1260 * t + 2 * i + 439)) (e2 : w' 276 (1260 * t + 428) = w 276 (1260 * t + 428)) (e3 : w' 276 (1260 * t + 429) = w 276 (1260 * t + 429)) (e4 : ∀ k, 0 ≤ k → k < 1200 → w' 276 (1260 * t + k + 476) = w 276 (1260 * t + k + 476)) (hp : pi r ≤ 30) (h : runOk w a t g r n nt nw dl sg pi an br bs ow) : runOk w' a t g r n nt nw dl sg pi an br bs ow := by
  obtain ⟨h1, h2, h3, h4, h5, h6, h7⟩ := h
  refine ⟨h1, by rw [e2]; exact h2, h3.fr e e1, h4, by rw [e3]; exact h5, h6, fun j q1 q2 => (h7 j q1 q2).fr e ?_⟩
  have hb := h3.2.1 g (by omega) (Int.le_refl g)
  have k1 := e4 (2 * j) (by omega) (by omega)
  have k2 := e4 (2 * j + 1) (by omega) (by omega)
  rw [show 1260 * t + (2 * j + 1) + 476 = 1260 * t + 2 * j + 477 by omega] at k2
  exact ⟨k1, k2⟩
end
