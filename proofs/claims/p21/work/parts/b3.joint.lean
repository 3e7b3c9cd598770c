noncomputable section
theorem bInv.joint {w w' : eW} {G : Int → Gh} {a : Int} (h : bInv w G) (ha : 0 ≤ a ∧ a < w 275 10) (hF : e_fr (mJo a (w 286 a)) w w') (hT : e_Has mTy w') (h6' : w' 286 a = w 286 a + 1) (h90 : w' 290 (6 * a + w 286 a) = 100) (h91 : w' 291 (6 * a + w 286 a) = 10) : bInv w' G := by
  obtain ⟨h1, h2, h3, h4, h5, h6, h7, h8⟩ := h
  have har := e_Has.get h1 (c := 275) (k := 10) (lo := 0) (hi := 4) rfl (by decide)
  have e : ∀ c k, ¬ mJo a (w 286 a) c k → w' c k = w c k := hF
  have e40 : w' 275 40 = w 275 40 := e _ _ (by unfold mJo; omega)
  have hp := e_Has.get h1 (c := 275) (k := 40) (lo := 0) (hi := 32) rfl (by decide)
  refine ⟨hT, mAc.fr' (fun k q => by unfold mJo at q; omega) hF h2, fun b j g1 g2 g3 g4 => ?_, fun z g1 g2 => ?_, fun b g1 g2 => ?_, by rw [e40]; exact mOr.fr h6 hp.2 (e_Has.orn h1) (e_Has.orw h1 hp.2) (fun k _ => e _ _ (by unfold mJo; omega)), h7.fr (fun c k q1 q2 => e c k (by unfold mJo; omega)), h8.fr (fun k _ => e _ _ (by unfold mJo; omega))⟩
  · have hj := e_Has.get hT (c := 286) (k := b) (lo := 0) (hi := 6) rfl (by decide)
    by_cases c : b = a ∧ j = w 286 a
    · rw [c.1, c.2, h90, h91]; decide
    · have hjb : j < w 286 b := by
        by_cases c2 : b = a
        · rw [c2] at g4 ⊢; omega
        · rw [e 286 b (by unfold mJo; omega)] at g4; exact g4
      have q := h3 b j g1 g2 g3 hjb
      have hja := e_Has.get h1 (c := 286) (k := a) (lo := 0) (hi := 6) rfl (by decide)
      have hjb2 := e_Has.get h1 (c := 286) (k := b) (lo := 0) (hi := 6) rfl (by decide)
      have hja2 := e_Has.get hT (c := 286) (k := a) (lo := 0) (hi := 6) rfl (by decide)
      rw [e 290 (6 * b + j) (by unfold mJo; omega), e 291 (6 * b + j) (by unfold mJo; omega)]
      exact q
  · rw [e 310 z (by unfold mJo; omega), e 275 10 (by unfold mJo; omega)]
    exact h4 z g1 (by rw [e 275 42 (by unfold mJo; omega)] at g2; exact g2)
  · rw [e 275 10 (by unfold mJo; omega)] at g1
    rw [e 286 b (by unfold mJo; omega)]
    exact h5 b g1 g2
end
