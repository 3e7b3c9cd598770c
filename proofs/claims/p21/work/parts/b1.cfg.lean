noncomputable section
/-! building calls keep it -/
theorem qtB.fr {w w' : eW} (h : qtB w) (e : ∀ k, (k < 20576) → w' 276 k = w 276 k) : qtB w' := by
  obtain ⟨h1, h2, h3⟩ := h
  refine ⟨by rw [e 0 (by omega), e 5 (by omega)]; exact h1, fun a g1 g2 => ?_, fun t g1 g2 => by rw [e _ (by omega)]; exact h3 t g1 g2⟩
  obtain ⟨q1, q2, q3, q4⟩ := h2 a g1 g2
  refine ⟨by rw [e _ (by omega)]; exact q1, by rw [e _ (by omega)]; exact q2, by rw [e _ (by omega)]; exact q3, fun j g3 g4 => ?_⟩
  rw [e _ (by omega), e _ (by omega)]
  exact q4 j g3 g4
/-- a call that leaves arms, joints, wires, zones, parts and programs -/
theorem bInv.cfg {S : Int → Int → Prop} {w w' : eW} {G : Int → Gh} (h : bInv w G) (hF : e_fr S w w') (hT : e_Has mTy w') (hS : ∀ c k, S c k → c ≠ 276 ∧ cfN c k) : bInv w' G := by
  obtain ⟨h1, h2, h3, h4, h5, h6, h7, h8⟩ := h
  have e : ∀ c k, ¬ cfN c k → w' c k = w c k := fun c k q => hF c k (fun q1 => q (hS c k q1).2)
  have en : ∀ k, w' 276 k = w 276 k := fun k => hF 276 k (fun q1 => (hS 276 k q1).1 rfl)
  have e10 : w' 275 10 = w 275 10 := e _ _ (by unfold cfN; omega)
  have e40 : w' 275 40 = w 275 40 := e _ _ (by unfold cfN; omega)
  have e42 : w' 275 42 = w 275 42 := e _ _ (by unfold cfN; omega)
  have hp := e_Has.get h1 (c := 275) (k := 40) (lo := 0) (hi := 32) rfl (by decide)
  refine ⟨hT, mAc.fr' (fun k q => (hS 318 k q).2.1 rfl) hF h2, mCf.fr h3 (fun c k q => e c k (by unfold cfN; omega)), fun z g1 g2 => ?_, fun b g1 g2 => ?_, by rw [e40]; exact mOr.fr h6 hp.2 (e_Has.orn h1) (e_Has.orw h1 hp.2) (fun k _ => en k), h7.fr (fun c k q1 q2 => e c k (by unfold cfN; omega)), h8.fr (fun k _ => en k)⟩
  · rw [e 310 z (by unfold cfN; omega), e10]
    exact h4 z g1 (by rw [e42] at g2; exact g2)
  · rw [e 286 b (by unfold cfN; omega)]
    exact h5 b (by rw [e10] at g1; exact g1) g2
/-- one arm more -/
theorem bInv.arm {w w' : eW} {G : Int → Gh} (h : bInv w G) (hF : e_fr (mF 10 282 285) w w') (hT : e_Has mTy w') (h10 : w' 275 10 = w 275 10 + 1) : bInv w' G := by
  obtain ⟨h1, h2, h3, h4, h5, h6, h7, h8⟩ := h
  have e : ∀ c k, ¬ ((c = 275 ∧ k = 10) ∨ (282 ≤ c ∧ c ≤ 285)) → w' c k = w c k := fun c k q => hF c k (by unfold mF; omega)
  have e40 : w' 275 40 = w 275 40 := e _ _ (by omega)
  have e42 : w' 275 42 = w 275 42 := e _ _ (by omega)
  have hp := e_Has.get h1 (c := 275) (k := 40) (lo := 0) (hi := 32) rfl (by decide)
  refine ⟨hT, mAc.fr' (fun k q => by unfold mF at q; omega) hF h2, mCf.fr h3 (fun c k q => e c k (by omega)), fun z g1 g2 => ?_, fun b g1 g2 => ?_, by rw [e40]; exact mOr.fr h6 hp.2 (e_Has.orn h1) (e_Has.orw h1 hp.2) (fun k _ => e _ _ (by omega)), h7.fr (fun c k q1 q2 => e c k (by omega)), h8.fr (fun k _ => e _ _ (by omega))⟩
  · rw [e 310 z (by omega), h10]
    have := h4 z g1 (by rw [e42] at g2; exact g2)
    omega
  · rw [e 286 b (by omega)]
    exact h5 b (by omega) g2
end
