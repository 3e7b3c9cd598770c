noncomputable section
theorem mMo.same {w w' : eW} {x : Int} (h : mMo w x) (hty : moT w) (hf : ∀ c k, moK c k ∨ (c = 276 ∧ 16 ≤ k ∧ k < 160) → w' c k = w c k) : mMo w' x :=
  mMo.old h hty (fun b g1 g2 => ⟨hf 276 _ (by omega), hf 276 _ (by omega)⟩) (fun c k q _ => hf c k (Or.inl q)) (fun b g1 g2 => Or.inr (hf 276 _ (by omega)))
/-- power is gone: all arms stand -/
theorem mMo.trip {w w' : eW} (h : mMo w (-1)) (hty : moT w) (hj0 : ∀ b, w 275 10 ≤ b → b ≤ 3 → w 286 b = 0) (hf : ∀ c k, moK c k → ¬ (c = 276 ∧ (k = 1 ∨ (16 ≤ k ∧ k < 160 ∧ 22 ≤ (k - 16) % 36 ∧ (k - 16) % 36 ≤ 27))) → w' c k = w c k) (h0 : 0 ≤ w 275 10)
    (hs : ∀ b, 0 ≤ b → b < w 275 10 → w' 276 (36 * b + 16) = 0 ∧ ∀ j, 0 ≤ j → j ≤ 5 → w' 276 (36 * b + j + 38) = 0) (ht : ∀ b, 0 ≤ b → b < w 275 10 → (w 276 (36 * b + 16) = 1 ∨ w 276 (36 * b + 22) = 0) → w' 276 (36 * b + 22) = 0) (hu : ∀ b, w 275 10 ≤ b → b ≤ 3 → w' 276 (36 * b + 16) = w 276 (36 * b + 16) ∧ w' 276 (36 * b + 22) = w 276 (36 * b + 22)) (h01 : ∀ b, 0 ≤ b → b ≤ 3 → 0 ≤ w 276 (36 * b + 22) ∧ w 276 (36 * b + 22) ≤ 1) : mMo w' (-1) := by
  obtain ⟨h1, h2, h3⟩ := h
  have f5 : ∀ c k, c = 286 ∨ c = 288 ∨ c = 289 ∨ c = 291 → w' c k = w c k := fun c k q => hf c k (by unfold moK; omega) (by omega)
  refine ⟨fun a j g1 g2 g3 g4 => ?_, fun a g1 g2 => ?_, fun e a g1 g2 => ?_⟩
  · rw [f5 286 _ (by omega)] at g4
    have y := hty.2 a g1 g2
    have q := h1 a j g1 g2 g3 g4
    have ha : a < w 275 10 := by
      by_cases e : a < w 275 10
      · exact e
      · have := hj0 a (by omega) g2; omega
    unfold moJ at q ⊢
    have e1 := (hs a g1 ha).2 j g3 (by omega)
    rw [hf 276 _ (moK_j ⟨g1, g2⟩ (j := j) (f := 32) (by omega) (by omega)) (by omega), e1, f5 288 _ (by omega), f5 289 _ (by omega), f5 291 _ (by omega), (hs a g1 ha).1]
    exact ⟨q.1, fun _ => rfl, by omega, by omega⟩
  · obtain ⟨y1, y2, y3, y4⟩ := hty.2 a g1 g2
    have f1 := hf 276 _ (moK_a ⟨g1, g2⟩ (f := 19) (by omega)) (by omega)
    have f4 := hf 276 _ (moK_a ⟨g1, g2⟩ (f := 26) (by omega)) (by omega)
    have f3 := hf 276 _ (moK_a ⟨g1, g2⟩ (f := 23) (by omega)) (by omega)
    have f6 : ∀ k, 21060 ≤ k → k < 25060 → w' 276 k = w 276 k := fun k q1 q2 => hf 276 k (by unfold moK; omega) (by omega)
    obtain ⟨q1, q2⟩ := h2 a g1 g2
    refine ⟨fun e => ?_, fun e => ?_⟩
    · rw [hf 276 _ (moK_a ⟨g1, g2⟩ (f := 20) (by omega)) (by omega)] at e
      obtain ⟨z1, z2, P, z3, z4⟩ := q1 e
      refine ⟨by rw [hf 275 10 (by unfold moK; omega) (by omega)]; exact z1, by rw [f1]; exact z2, P, z3.fr ⟨g1, g2⟩ (by omega) y1 f1 f4 (fun c k q => f5 c k (by omega)) f6, fun j g3 g4 => ?_⟩
      rw [f5 286 _ (by omega)] at g4
      rw [hf 276 _ (moK_j ⟨g1, g2⟩ (j := j) (f := 32) (by omega) (by omega)) (by omega)]
      exact z4 j g3 g4
    · by_cases ha : a < w 275 10
      · have t := ht a g1 ha
        by_cases e9 : w 276 (36 * a + 22) = 1
        · have q := (q2 e9).1
          have := t (Or.inl (q.resolve_left (by omega)))
          omega
        · have := h01 a g1 g2
          have := t (Or.inr (by omega))
          omega
      · have u := hu a (by omega) g2
        rw [u.2] at e
        obtain ⟨z1, z2, P, z3, z4⟩ := q2 e
        rw [f3, f1, u.1]
        refine ⟨z1, z2, P, z3.fr ⟨g1, g2⟩ y2 y1 f1 f4 (fun c k q => f5 c k (by omega)) f6, fun j g3 g4 => ?_⟩
        rw [f5 286 _ (by omega)] at g4
        rw [hf 276 _ (moK_j ⟨g1, g2⟩ (j := j) (f := 32) (by omega) (by omega)) (by omega), hf 276 _ (moK_j ⟨g1, g2⟩ (j := j) (f := 44) (by omega) (by omega)) (by omega)]
        exact z4 j g3 g4
  · rw [hf 275 10 (by unfold moK; omega) (by omega)] at g2
    exact (hs a g1 g2).1
end
