noncomputable section
/-! an arm goes on: it keeps it -/
section Ko
variable {w w' : eW} {OP OD CL : Int → Int → Int} {h t0 : Int}
theorem aR.go {a : Int} (ha : 0 ≤ a ∧ a ≤ 3) (hn : w (17 * a + 86) 8 ≤ 6) (hf : ∀ c k, dA a c k → ¬ kGo a c k → ¬ (c = 17 * a + 86 ∧ k = 19) → w' c k = w c k) (hK : aK w' a) (hM : aMs w' a (w (17 * a + 86) 8) (w (17 * a + 86) 11)) (hk : kn1 (w' (17 * a + 86) 12)) (hs : w (17 * a + 86) 11 ≠ 0) (hv : w' (17 * a + 86) 19 ≠ 0 ∨ (w' (17 * a + 86) 19 = w (17 * a + 86) 19 ∧ ∀ i, 0 ≤ i → i < w (17 * a + 86) 8 → w' (17 * a + i + 97) 7 = w (17 * a + i + 97) 7)) (q : aR w a) : aR w' a := by
  obtain ⟨q1, q2, q3, q4, q5, q6⟩ := q
  have e : ∀ c k, dA a c k → ¬ kGo a c k → ¬ (c = 17 * a + 86 ∧ k = 19) → w' c k = w c k := hf
  have e8 : w' (17 * a + 86) 8 = w (17 * a + 86) 8 := e _ _ (by unfold dA; omega) (by unfold kGo; omega) (by omega)
  have e11 : w' (17 * a + 86) 11 = w (17 * a + 86) 11 := e _ _ (by unfold dA; omega) (by unfold kGo; omega) (by omega)
  refine ⟨hK, q2.eq (fun c k g => e c k (by unfold dA; omega) (by unfold kGo; omega) (by omega)), ?_, ?_, q5.eq (fun c k g => e c k (by unfold dA; omega) (by unfold kGo; omega) (by omega)), ?_⟩
  · rw [e8, e11]; exact hM
  · intro _
    rw [e8]
    exact ⟨hk, fun j g1 g2 => by rw [e _ _ (by unfold dA; omega) (by unfold kGo; omega) (by omega)]; exact (q4 hs).2 j g1 g2⟩
  · have hp : ∀ c k, 269 ≤ c → c ≤ 271 → w' c k = w c k := fun c k g1 g2 => e c k (by unfold dA; omega) (by unfold kGo; omega) (by omega)
    have e17 : w' (17 * a + 86) 17 = w (17 * a + 86) 17 := e _ _ (by unfold dA; omega) (by unfold kGo; omega) (by omega)
    have e18 : w' (17 * a + 86) 18 = w (17 * a + 86) 18 := e _ _ (by unfold dA; omega) (by unfold kGo; omega) (by omega)
    have hl : ∀ j, 0 ≤ j → j < w (17 * a + 86) 8 → w' (17 * a + j + 97) 1 = w (17 * a + j + 97) 1 ∧ w' (17 * a + j + 97) 2 = w (17 * a + j + 97) 2 := fun j g1 g2 => ⟨e _ _ (by unfold dA; omega) (by unfold kGo; omega) (by omega), e _ _ (by unfold dA; omega) (by unfold kGo; omega) (by omega)⟩
    unfold aW at q6 ⊢
    rw [e8, e11, e17, e18, hp 270 _ (by decide) (by decide)]
    refine ⟨fun g => (q6.1 g).eq hp, fun g1 g2 => ?_, fun g => ⟨(q6.2.2 g).1, (q6.2.2 g).2.1, (q6.2.2 g).2.2.1, (q6.2.2 g).2.2.2.eq hp hl (fun j g3 g4 => e _ _ (by unfold dA; omega) (by unfold kGo; omega) (by omega))⟩⟩
    rcases hv with hv | ⟨hv, hv2⟩
    · exact absurd g2 hv
    · rw [hv] at g2
      exact (q6.2.1 g1 g2).eq hp hl (fun j g3 g4 => hv2 j g3 g4)
end Ko
end
