noncomputable section
/-! a new cell keeps the invariant: it can be kept -/
def G0 : Int → Gh := fun _ => ((0, 0, 0), (fun _ => 0, fun _ => 0, fun _ => 0, fun _ => 0), (fun r q => q = r, fun _ _ => False))
theorem newOk.inv {w : eW} (hT : e_Has mTy w) (h : newOk w) : mInv w G0 := by
  obtain ⟨⟨f3, f10, f23, f30, f40, f42, f49, f5⟩, ha, hp, hk⟩ := h
  have h20 : ∀ a, 0 ≤ a → a ≤ 3 → w 276 (36 * a + 20) = 0 := fun a g1 g2 => hk _ (by omega) (by omega) (by unfold mRa; omega) (by unfold mRb; omega) (by unfold mRc; omega)
  have h22 : ∀ a, 0 ≤ a → a ≤ 3 → w 276 (36 * a + 22) = 0 := fun a g1 g2 => hk _ (by omega) (by omega) (by unfold mRa; omega) (by unfold mRb; omega) (by unfold mRc; omega)
  have hor : ∀ b, 0 ≤ b → b ≤ 3 → w 276 (33 * b + 20704) = 0 := fun b g1 g2 => hk _ (by omega) (by omega) (by unfold mRa; omega) (by unfold mRb; omega) (by unfold mRc; omega)
  have htk : ∀ v, 0 ≤ v → v ≤ 15 → w 276 (1260 * v + 416) = 0 := fun v g1 g2 => hk _ (by omega) (by omega) (by unfold mRa; omega) (by unfold mRb; omega) (by unfold mRc; omega)
  refine ⟨hT, ⟨fun _ => 0, fun p g1 g2 => ⟨(by decide : (0 : Int) ≤ 0 ∧ (0 : Int) ≤ 63), fun q => by have := hp p g1 (by omega); omega⟩⟩, fun a j g1 g2 g3 g4 => by have := (ha a g1 (by omega)).1; omega, fun z g1 g2 => by omega, fun b g1 g2 => (ha b (by omega) (by omega)).1, ?_, ?_, fun a g1 g2 => ?_, fun v g1 g2 => tkOk.not (Or.inl (by have := htk v g1 g2; omega))⟩
  · refine ⟨fun a j g1 g2 g3 g4 => by have := (ha a g1 (by omega)).1; omega, fun a g1 g2 => ⟨fun e => by have := h20 a g1 g2; omega, fun e => by have := h22 a g1 g2; omega⟩, fun e a g1 g2 => by omega⟩
  · rw [f40]
    refine ⟨fun b i g1 g2 g3 g4 => by have := hor b g1 g2; omega, fun b i j g1 g2 g3 g4 g5 => by have := hor b g1 g2; omega, fun p g1 g2 g3 => by omega, fun a g1 g2 g3 => by have := (ha a g1 (by omega)).2.2; omega⟩
  · have hr := (ha a g1 (by omega)).2.1
    exact ⟨(by decide : (0 : Int) ≤ 0 ∧ (0 : Int) ≤ 10000 ∧ (0 : Int) ≤ 0 ∧ (0 : Int) ≤ 900 ∧ (0 : Int) ≤ 0 ∧ (0 : Int) ≤ 900), fun p g1 g2 => absurd (show p < 0 from g2) (by omega), fun t g1 g2 => absurd (show t < 0 from g2) (by omega), ⟨rfl, fun r _ _ => (by decide : (0 : Int) ≤ 0 ∧ (0 : Int) ≤ 30), fun r => rfl, fun q e => e, fun r q e g => by rw [show q = r from e]; omega, fun r q e _ _ => (by decide : (0 : Int) ≤ 0)⟩, fun v g1 g2 => absurd (show v < 0 from g2) (by omega), fun r v e => absurd e id, fun q g1 g2 => by omega⟩
end
