noncomputable section
/-! a program that is read keeps what a cell that is built keeps -/
def bInvP (w : eW) (G : Int → Gh) : Prop := bInv w G ∧ ∀ a, 0 ≤ a → a ≤ 3 → ∀ r v, (G a).br r v → 0 ≤ v ∧ v < (G a).nw
theorem newOk.bInvP {w : eW} (hT : e_Has mTy w) (h : newOk w) : bInvP w G0 := ⟨newOk.bInv hT h, fun a _ _ r v g => False.elim g⟩
theorem bInv.gs {w w' : eW} {G G' : Int → Gh} {a : Int} (h : bInv w G) (ha : 0 ≤ a ∧ a ≤ 3) (hF : e_fr (mPg a) w w') (hT : e_Has mTy w') (hg : gAll w' G') : bInv w' G' := by
  obtain ⟨h1, h2, h3, h4, h5, h6, h7, h8⟩ := h
  have e10 : w' 275 10 = w 275 10 := hF _ _ (by unfold mPg mPs; omega)
  have e40 : w' 275 40 = w 275 40 := hF _ _ (by unfold mPg mPs; omega)
  have e42 : w' 275 42 = w 275 42 := hF _ _ (by unfold mPg mPs; omega)
  have hp := e_Has.get h1 (c := 275) (k := 40) (lo := 0) (hi := 32) rfl (by decide)
  refine ⟨hT, mAc.fr' (fun k q => by unfold mPg mPs at q; omega) hF h2, mCf.fr h3 (fun c k q => hF c k (by unfold mPg mPs; omega)), fun z g1 g2 => ?_, fun b g1 g2 => ?_, by rw [e40]; exact mOr.fr h6 hp.2 (e_Has.orn h1) (e_Has.orw h1 hp.2) (fun k q => hF 276 k (by unfold orK at q; unfold mPg mPs; omega)), hg, h8.fr (fun k q => hF 276 k (by unfold mPg mPs; omega))⟩
  · rw [hF 310 z (by unfold mPg mPs; omega), e10]
    exact h4 z g1 (by rw [e42] at g2; exact g2)
  · rw [hF 286 b (by unfold mPg mPs; omega)]
    exact h5 b (by rw [e10] at g1; exact g1) g2
def gNew (n nt nw : Int) (dl sg pi en : Int → Int) (an br : Int → Int → Prop) : Gh := ((n, nt, nw), (dl, sg, pi, en), (an, br))
def gUp (G : Int → Gh) (a : Int) (g : Gh) (b : Int) : Gh := if b = a then g else G b
theorem gUp_eq (G : Int → Gh) (a : Int) (g : Gh) : gUp G a g a = g := if_pos rfl
theorem gUp_ne (G : Int → Gh) {a b : Int} (g : Gh) (h : b ≠ a) : gUp G a g b = G b := if_neg h
theorem bInvP.prog {w w' : eW} {G : Int → Gh} {a : Int} (h : bInvP w G) (ha : 0 ≤ a ∧ a ≤ 3) (hF : e_fr (mPg a) w w') (hT : e_Has mTy w') (hc : prS w w' a ∨ ∃ (n' nt' nw' : Int) (dl sg pi en : Int → Int) (an br : Int → Int → Prop), cOk w' a n' nt' nw' dl sg pi en an br ∧ ∀ r q, br r q → 0 ≤ q ∧ q < nw') : ∃ G', bInvP w' G' := by
  have hg : gAll w G := h.1.2.2.2.2.2.2.1
  have h32 : ∀ b, 0 ≤ b → b ≤ 3 → w 338 b ≤ 32 := fun b _ _ => (e_Has.get h.1.1 (c := 338) (k := b) (lo := 0) (hi := 32) rfl (by decide)).2
  have ho : ∀ b, 0 ≤ b → b ≤ 3 → prS w w' b → gC w' G b := fun b b1 b2 e => cOk.ps e (h32 b b1 b2) (h.2 b b1 b2) (hg b b1 b2)
  rcases hc with hc | ⟨n', nt', nw', dl, sg, pi, en, an, br, hk, hb⟩
  · refine ⟨G, h.1.gs ha hF hT (fun b b1 b2 => ?_), h.2⟩
    by_cases c : a = b
    · subst c
      exact ho a b1 b2 hc
    · exact ho b b1 b2 (mPg.ps ha ⟨b1, b2⟩ c hF)
  · refine ⟨gUp G a (gNew n' nt' nw' dl sg pi en an br), h.1.gs ha hF hT (fun b b1 b2 => ?_), fun b b1 b2 r v => ?_⟩
    · by_cases c : b = a
      · subst c
        unfold gC
        rw [gUp_eq]
        exact hk
      · have q := ho b b1 b2 (mPg.ps ha ⟨b1, b2⟩ (fun e => c e.symm) hF)
        unfold gC at q ⊢
        rw [gUp_ne G _ c]
        exact q
    · by_cases c : b = a
      · subst c
        rw [gUp_eq]
        exact hb r v
      · rw [gUp_ne G _ c]
        exact h.2 b b1 b2 r v
end
