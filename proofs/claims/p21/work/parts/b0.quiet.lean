noncomputable section
/-! while a cell is built, nothing moves in it -/
def qtB (w : eW) : Prop := (w 276 0 = 0 ∧ w 276 5 = 0) ∧ (∀ a, 0 ≤ a → a ≤ 3 → w 276 (36 * a + 16) = 0 ∧ w 276 (36 * a + 20) = 0 ∧ w 276 (36 * a + 22) = 0 ∧ ∀ j, 0 ≤ j → j ≤ 5 → w 276 (36 * a + j + 32) = 0 ∧ w 276 (36 * a + j + 38) = 0) ∧ (∀ t, 0 ≤ t → t ≤ 15 → w 276 (1260 * t + 416) = 0)
theorem newOk.quiet {w : eW} (h : newOk w) : qtB w := by
  obtain ⟨-, -, -, hk⟩ := h
  have z : ∀ k, 0 ≤ k → k < 33060 → ¬ mRa 276 k → ¬ mRb 276 k → ¬ mRc 276 k → w 276 k = 0 := hk
  refine ⟨⟨z 0 (by omega) (by omega) (by unfold mRa; omega) (by unfold mRb; omega) (by unfold mRc; omega), z 5 (by omega) (by omega) (by unfold mRa; omega) (by unfold mRb; omega) (by unfold mRc; omega)⟩, fun a g1 g2 => ⟨z _ (by omega) (by omega) (by unfold mRa; omega) (by unfold mRb; omega) (by unfold mRc; omega), z _ (by omega) (by omega) (by unfold mRa; omega) (by unfold mRb; omega) (by unfold mRc; omega), z _ (by omega) (by omega) (by unfold mRa; omega) (by unfold mRb; omega) (by unfold mRc; omega), fun j g3 g4 => ⟨z _ (by omega) (by omega) (by unfold mRa; omega) (by unfold mRb; omega) (by unfold mRc; omega), z _ (by omega) (by omega) (by unfold mRa; omega) (by unfold mRb; omega) (by unfold mRc; omega)⟩⟩, fun t g1 g2 => z _ (by omega) (by omega) (by unfold mRa; omega) (by unfold mRb; omega) (by unfold mRc; omega)⟩
theorem mMo.quiet {w : eW} (hT : e_Has mTy w) (h : qtB w) : mMo w (-1) := by
  obtain ⟨-, h2, -⟩ := h
  have har := e_Has.get hT (c := 275) (k := 10) (lo := 0) (hi := 4) rfl (by decide)
  refine ⟨fun a j g1 g2 g3 g4 => ?_, fun a g1 g2 => ⟨fun e => ?_, fun e => ?_⟩, fun _ a g1 g2 => (h2 a g1 (by omega)).1⟩
  · have hj := e_Has.get hT (c := 286) (k := a) (lo := 0) (hi := 6) rfl (by decide)
    obtain ⟨q1, -, -, q4⟩ := h2 a g1 g2
    obtain ⟨q5, q6⟩ := q4 j g3 (by omega)
    have hl := e_Has.get hT (c := 288) (k := 6 * a + j) (lo := -100000) (hi := 0) rfl (by decide)
    have hh := e_Has.get hT (c := 289) (k := 6 * a + j) (lo := 0) (hi := 100000) rfl (by decide)
    unfold moJ
    rw [q1, q5, q6]
    exact ⟨by omega, fun _ => rfl, fun e => by omega, fun e => by omega⟩
  · have := (h2 a g1 g2).2.1; omega
  · have := (h2 a g1 g2).2.2.1; omega
/-- a cell that is built -/
def bInv (w : eW) (G : Int → Gh) : Prop := e_Has mTy w ∧ mAc w ∧ mCf w ∧ mZn w ∧ (∀ b, w 275 10 ≤ b → b ≤ 3 → w 286 b = 0) ∧ mOr w (w 275 40) ∧ gAll w G ∧ qtB w
theorem bInv.inv {w : eW} {G : Int → Gh} (h : bInv w G) : mInv w G := by
  obtain ⟨h1, h2, h3, h4, h5, h6, h7, h8⟩ := h
  exact ⟨h1, h2, h3, h4, h5, mMo.quiet h1 h8, h6, h7, fun v v1 v2 => tkOk.not (Or.inl (by have := h8.2.2 v v1 v2; omega))⟩
theorem newOk.bInv {w : eW} (hT : e_Has mTy w) (h : newOk w) : bInv w G0 := by
  have q := newOk.inv hT h
  exact ⟨q.1, q.2.1, q.2.2.1, q.2.2.2.1, q.2.2.2.2.1, q.2.2.2.2.2.2.1, q.2.2.2.2.2.2.2.1, newOk.quiet h⟩
end
