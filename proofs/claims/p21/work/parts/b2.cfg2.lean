noncomputable section
theorem bInv.pace {w w' : eW} {G : Int → Gh} (h : bInv w G) (hF : e_fr (mF (-1) 290 291) w w') (hT : e_Has mTy w') (hk : ∀ k, (w' 290 k = w 290 k ∨ 1 ≤ w' 290 k) ∧ (w' 291 k = w 291 k ∨ 1 ≤ w' 291 k)) : bInv w' G := by
  obtain ⟨h1, h2, h3, h4, h5, h6, h7, h8⟩ := h
  have e : ∀ c k, ¬ ((c = 275 ∧ k = -1) ∨ (290 ≤ c ∧ c ≤ 291)) → w' c k = w c k := fun c k q => hF c k (by unfold mF; omega)
  have e40 : w' 275 40 = w 275 40 := e _ _ (by omega)
  have hp := e_Has.get h1 (c := 275) (k := 40) (lo := 0) (hi := 32) rfl (by decide)
  refine ⟨hT, mAc.fr' (fun k q => by unfold mF at q; omega) hF h2, fun a j g1 g2 g3 g4 => ?_, fun z g1 g2 => ?_, fun b g1 g2 => ?_, by rw [e40]; exact mOr.fr h6 hp.2 (e_Has.orn h1) (e_Has.orw h1 hp.2) (fun k _ => e _ _ (by omega)), h7.fr (fun c k q1 q2 => e c k (by omega)), h8.fr (fun k _ => e _ _ (by omega))⟩
  · rw [e 286 a (by omega)] at g4
    have q := h3 a j g1 g2 g3 g4
    have z := hk (6 * a + j)
    omega
  · rw [e 310 z (by omega), e 275 10 (by omega)]
    exact h4 z g1 (by rw [e 275 42 (by omega)] at g2; exact g2)
  · rw [e 286 b (by omega)]
    exact h5 b (by rw [e 275 10 (by omega)] at g1; exact g1) g2
theorem bInv.zone {w w' : eW} {G : Int → Gh} {p : Int} (h : bInv w G) (hF : e_fr (mF 42 310 315) w w') (hT : e_Has mTy w') (hz : w' 275 42 = w 275 42 + 1 ∧ w' 310 (w 275 42) = p ∧ p < w 275 10 ∧ ∀ k, k ≠ w 275 42 → w' 310 k = w 310 k) : bInv w' G := by
  obtain ⟨h1, h2, h3, h4, h5, h6, h7, h8⟩ := h
  obtain ⟨z1, z2, z3, z4⟩ := hz
  have e : ∀ c k, ¬ ((c = 275 ∧ k = 42) ∨ (310 ≤ c ∧ c ≤ 315)) → w' c k = w c k := fun c k q => hF c k (by unfold mF; omega)
  have e40 : w' 275 40 = w 275 40 := e _ _ (by omega)
  have hp := e_Has.get h1 (c := 275) (k := 40) (lo := 0) (hi := 32) rfl (by decide)
  refine ⟨hT, mAc.fr' (fun k q => by unfold mF at q; omega) hF h2, mCf.fr h3 (fun c k q => e c k (by omega)), fun z g1 g2 => ?_, fun b g1 g2 => ?_, by rw [e40]; exact mOr.fr h6 hp.2 (e_Has.orn h1) (e_Has.orw h1 hp.2) (fun k _ => e _ _ (by omega)), h7.fr (fun c k q1 q2 => e c k (by omega)), h8.fr (fun k _ => e _ _ (by omega))⟩
  · rw [e 275 10 (by omega)]
    by_cases c : z = w 275 42
    · rw [c, z2]; exact z3
    · rw [z4 z c]; exact h4 z g1 (by omega)
  · rw [e 286 b (by omega)]
    exact h5 b (by rw [e 275 10 (by omega)] at g1; exact g1) g2
theorem bInv.wire {w w' : eW} {G : Int → Gh} (h : bInv w G) (hF : e_fr (mF (-1) 318 319) w w') (hT : e_Has mTy w') (hA : mAc w') : bInv w' G := by
  obtain ⟨h1, h2, h3, h4, h5, h6, h7, h8⟩ := h
  have e : ∀ c k, ¬ ((c = 275 ∧ k = -1) ∨ (318 ≤ c ∧ c ≤ 319)) → w' c k = w c k := fun c k q => hF c k (by unfold mF; omega)
  have e40 : w' 275 40 = w 275 40 := e _ _ (by omega)
  have hp := e_Has.get h1 (c := 275) (k := 40) (lo := 0) (hi := 32) rfl (by decide)
  refine ⟨hT, hA, mCf.fr h3 (fun c k q => e c k (by omega)), fun z g1 g2 => ?_, fun b g1 g2 => ?_, by rw [e40]; exact mOr.fr h6 hp.2 (e_Has.orn h1) (e_Has.orw h1 hp.2) (fun k _ => e _ _ (by omega)), h7.fr (fun c k q1 q2 => e c k (by omega)), h8.fr (fun k _ => e _ _ (by omega))⟩
  · rw [e 310 z (by omega), e 275 10 (by omega)]
    exact h4 z g1 (by rw [e 275 42 (by omega)] at g2; exact g2)
  · rw [e 286 b (by omega)]
    exact h5 b (by rw [e 275 10 (by omega)] at g1; exact g1) g2
theorem bInv.part {w w' : eW} {G : Int → Gh} (h : bInv w G) (hF : e_fr mPr w w') (hT : e_Has mTy w') (hO : mOr w' (w' 275 40)) : bInv w' G := by
  obtain ⟨h1, h2, h3, h4, h5, h6, h7, h8⟩ := h
  have e : ∀ c k, ¬ (c = 309 ∨ (c = 275 ∧ k = 40) ∨ (c = 276 ∧ 20576 ≤ k ∧ k < 20836)) → w' c k = w c k := fun c k q => hF c k (by unfold mPr; omega)
  refine ⟨hT, mAc.fr' (fun k q => by unfold mPr at q; omega) hF h2, mCf.fr h3 (fun c k q => e c k (by omega)), fun z g1 g2 => ?_, fun b g1 g2 => ?_, hO, h7.fr (fun c k q1 q2 => e c k (by omega)), h8.fr (fun k q => e _ _ (by omega))⟩
  · rw [e 310 z (by omega), e 275 10 (by omega)]
    exact h4 z g1 (by rw [e 275 42 (by omega)] at g2; exact g2)
  · rw [e 286 b (by omega)]
    exact h5 b (by rw [e 275 10 (by omega)] at g1; exact g1) g2
end
