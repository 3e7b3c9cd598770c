-- part b1
section
noncomputable section
/-! building calls keep it -/
theorem qtB.fr {w w' : eW} (h : qtB w) (e : ∀ k, (k < 20576) → w' 276 k = w 276 k) : qtB w' := by
  obtain ⟨h1, h2, h3⟩ := h
  refine ⟨by rw [e 0 (by omega), e 5 (by omega)]; exact h1, fun a g1 g2 => ?_, fun t g1 g2 => by rw [e _ (by omega)]; exact h3 t g1 g2⟩
  obtain ⟨q1, q2, q3, q4⟩ := h2 a g1 g2
  refine ⟨by rw [e _ (by omega)]; exact q1, by rw [e _ (by omega)]; exact q2, by rw [e _ (by omega)]; exact q3, fun j g3 g4 => ?_⟩
  rw [e _ (by omega), e _ (by omega)]
  exact q4 j g3 g4
/-- a call that leaves arms, joints, wires, zones, parts and programs -/
theorem no_b1_0 {k : Int} : ¬ cfN 310 k := by unfold cfN; omega
theorem no_b1_1 {k : Int} : ¬ cfN 286 k := by unfold cfN; omega
theorem bInv.cfg {S : Int → Int → Prop} {w w' : eW} {G : Int → Gh} (h : bInv w G) (hF : e_fr S w w') (hT : e_Has mTy w') (hS : ∀ c k, S c k → c ≠ 276 ∧ cfN c k) : bInv w' G := by
  obtain ⟨h1, h2, h3, h4, h5, h6, h7, h8⟩ := h
  have e : ∀ c k, ¬ cfN c k → w' c k = w c k := fun c k q => hF c k (fun q1 => q (hS c k q1).2)
  have en : ∀ k, w' 276 k = w 276 k := fun k => hF 276 k (fun q1 => (hS 276 k q1).1 rfl)
  have e10 : w' 275 10 = w 275 10 := e _ _ (by unfold cfN; omega)
  have e40 : w' 275 40 = w 275 40 := e _ _ (by unfold cfN; omega)
  have e42 : w' 275 42 = w 275 42 := e _ _ (by unfold cfN; omega)
  have hp := e_Has.get h1 (c := 275) (k := 40) (lo := 0) (hi := 32) rfl (by decide)
  refine ⟨hT, mAc.fr' (fun k q => (hS 318 k q).2.1 rfl) hF h2, mCf.fr h3 (fun c k q => e c k (by unfold cfN; omega)), fun z g1 g2 => ?_, fun b g1 g2 => ?_, by rw [e40]; exact mOr.fr h6 hp.2 (e_Has.orn h1) (e_Has.orw h1 hp.2) (fun k _ => en k), h7.fr (fun c k q1 q2 => e c k (by unfold cfN; omega)), h8.fr (fun k _ => en k)⟩
  · rw [e 310 z no_b1_0, e10]
    exact h4 z g1 (by rw [e42] at g2; exact g2)
  · rw [e 286 b no_b1_1]
    exact h5 b (by rw [e10] at g1; exact g1) g2
/-- one arm more -/
theorem bInv.arm {w w' : eW} {G : Int → Gh} (h : bInv w G) (hF : e_fr (mF 10 282 285) w w') (hT : e_Has mTy w') (h10 : w' 275 10 = w 275 10 + 1) : bInv w' G := by
  obtain ⟨h1, h2, h3, h4, h5, h6, h7, h8⟩ := h
  have e : ∀ c k, ¬ ((c = 275 ∧ k = 10) ∨ (282 ≤ c ∧ c ≤ 285)) → w' c k = w c k := fun c k q => hF c k (by unfold mF; omega)
  have e40 : w' 275 40 = w 275 40 := e _ _ (by omega)
  have e42 : w' 275 42 = w 275 42 := e _ _ (by omega)
  have hp := e_Has.get h1 (c := 275) (k := 40) (lo := 0) (hi := 32) rfl (by decide)
  refine ⟨hT, mAc.fr' (fun k q => by unfold mF at q; omega) hF h2, mCf.fr h3 (fun c k q => e c k (by omega)), fun z g1 g2 => ?_, fun b g1 g2 => ?_, by rw [e40]; exact mOr.fr h6 hp.2 (e_Has.orn h1) (e_Has.orw h1 hp.2) (fun k _ => e _ _ (by omega)), h7.fr (fun c k q1 q2 => e c k (by omega)), h8.fr (fun k _ => e _ _ (by omega))⟩
  · rw [e 310 z (by omega), h10]
    have := h4 z g1 (by rw [e42] at g2; exact g2)
    omega
  · rw [e 286 b (by omega)]
    exact h5 b (by omega) g2
end
end
-- part b2
section
noncomputable section
theorem bInv.pace {w w' : eW} {G : Int → Gh} (h : bInv w G) (hF : e_fr (mF (-1) 290 291) w w') (hT : e_Has mTy w') (hk : ∀ k, (w' 290 k = w 290 k ∨ 1 ≤ w' 290 k) ∧ (w' 291 k = w 291 k ∨ 1 ≤ w' 291 k)) : bInv w' G := by
  obtain ⟨h1, h2, h3, h4, h5, h6, h7, h8⟩ := h
  have e : ∀ c k, ¬ ((c = 275 ∧ k = -1) ∨ (290 ≤ c ∧ c ≤ 291)) → w' c k = w c k := fun c k q => hF c k (by unfold mF; omega)
  have e40 : w' 275 40 = w 275 40 := e _ _ (by omega)
  have hp := e_Has.get h1 (c := 275) (k := 40) (lo := 0) (hi := 32) rfl (by decide)
  refine ⟨hT, mAc.fr' (fun k q => by unfold mF at q; omega) hF h2, fun a j g1 g2 g3 g4 => ?_, fun z g1 g2 => ?_, fun b g1 g2 => ?_, by rw [e40]; exact mOr.fr h6 hp.2 (e_Has.orn h1) (e_Has.orw h1 hp.2) (fun k _ => e _ _ (by omega)), h7.fr (fun c k q1 q2 => e c k (by omega)), h8.fr (fun k _ => e _ _ (by omega))⟩
  · rw [e 286 a (by omega)] at g4
    have q := h3 a j g1 g2 g3 g4
    have z := hk (6 * a + j)
    omega
  · rw [e 310 z (by omega), e 275 10 (by omega)]
    exact h4 z g1 (by rw [e 275 42 (by omega)] at g2; exact g2)
  · rw [e 286 b (by omega)]
    exact h5 b (by rw [e 275 10 (by omega)] at g1; exact g1) g2
theorem bInv.zone {w w' : eW} {G : Int → Gh} {p : Int} (h : bInv w G) (hF : e_fr (mF 42 310 315) w w') (hT : e_Has mTy w') (hz : w' 275 42 = w 275 42 + 1 ∧ w' 310 (w 275 42) = p ∧ p < w 275 10 ∧ ∀ k, k ≠ w 275 42 → w' 310 k = w 310 k) : bInv w' G := by
  obtain ⟨h1, h2, h3, h4, h5, h6, h7, h8⟩ := h
  obtain ⟨z1, z2, z3, z4⟩ := hz
  have e : ∀ c k, ¬ ((c = 275 ∧ k = 42) ∨ (310 ≤ c ∧ c ≤ 315)) → w' c k = w c k := fun c k q => hF c k (by unfold mF; omega)
  have e40 : w' 275 40 = w 275 40 := e _ _ (by omega)
  have hp := e_Has.get h1 (c := 275) (k := 40) (lo := 0) (hi := 32) rfl (by decide)
  refine ⟨hT, mAc.fr' (fun k q => by unfold mF at q; omega) hF h2, mCf.fr h3 (fun c k q => e c k (by omega)), fun z g1 g2 => ?_, fun b g1 g2 => ?_, by rw [e40]; exact mOr.fr h6 hp.2 (e_Has.orn h1) (e_Has.orw h1 hp.2) (fun k _ => e _ _ (by omega)), h7.fr (fun c k q1 q2 => e c k (by omega)), h8.fr (fun k _ => e _ _ (by omega))⟩
  · rw [e 275 10 (by omega)]
    by_cases c : z = w 275 42
    · rw [c, z2]; exact z3
    · rw [z4 z c]; exact h4 z g1 (by omega)
  · rw [e 286 b (by omega)]
    exact h5 b (by rw [e 275 10 (by omega)] at g1; exact g1) g2
theorem bInv.wire {w w' : eW} {G : Int → Gh} (h : bInv w G) (hF : e_fr (mF (-1) 318 319) w w') (hT : e_Has mTy w') (hA : mAc w') : bInv w' G := by
  obtain ⟨h1, h2, h3, h4, h5, h6, h7, h8⟩ := h
  have e : ∀ c k, ¬ ((c = 275 ∧ k = -1) ∨ (318 ≤ c ∧ c ≤ 319)) → w' c k = w c k := fun c k q => hF c k (by unfold mF; omega)
  have e40 : w' 275 40 = w 275 40 := e _ _ (by omega)
  have hp := e_Has.get h1 (c := 275) (k := 40) (lo := 0) (hi := 32) rfl (by decide)
  refine ⟨hT, hA, mCf.fr h3 (fun c k q => e c k (by omega)), fun z g1 g2 => ?_, fun b g1 g2 => ?_, by rw [e40]; exact mOr.fr h6 hp.2 (e_Has.orn h1) (e_Has.orw h1 hp.2) (fun k _ => e _ _ (by omega)), h7.fr (fun c k q1 q2 => e c k (by omega)), h8.fr (fun k _ => e _ _ (by omega))⟩
  · rw [e 310 z (by omega), e 275 10 (by omega)]
    exact h4 z g1 (by rw [e 275 42 (by omega)] at g2; exact g2)
  · rw [e 286 b (by omega)]
    exact h5 b (by rw [e 275 10 (by omega)] at g1; exact g1) g2
theorem bInv.part {w w' : eW} {G : Int → Gh} (h : bInv w G) (hF : e_fr mPr w w') (hT : e_Has mTy w') (hO : mOr w' (w' 275 40)) : bInv w' G := by
  obtain ⟨h1, h2, h3, h4, h5, h6, h7, h8⟩ := h
  have e : ∀ c k, ¬ (c = 309 ∨ (c = 275 ∧ k = 40) ∨ (c = 276 ∧ 20576 ≤ k ∧ k < 20836)) → w' c k = w c k := fun c k q => hF c k (by unfold mPr; omega)
  refine ⟨hT, mAc.fr' (fun k q => by unfold mPr at q; omega) hF h2, mCf.fr h3 (fun c k q => e c k (by omega)), fun z g1 g2 => ?_, fun b g1 g2 => ?_, hO, h7.fr (fun c k q1 q2 => e c k (by omega)), h8.fr (fun k q => e _ _ (by omega))⟩
  · rw [e 310 z (by omega), e 275 10 (by omega)]
    exact h4 z g1 (by rw [e 275 42 (by omega)] at g2; exact g2)
  · rw [e 286 b (by omega)]
    exact h5 b (by rw [e 275 10 (by omega)] at g1; exact g1) g2
end
end
-- part b3
section
noncomputable section
theorem no_b3_0 {a : Int} {j : Int} {k : Int} : ¬ mJo a j 310 k := by unfold mJo; omega
theorem no_b3_1 {a : Int} {j : Int} {k : Int} : ¬ mJo a j 275 k := by unfold mJo; omega
theorem bInv.joint {w w' : eW} {G : Int → Gh} {a : Int} (h : bInv w G) (ha : 0 ≤ a ∧ a < w 275 10) (hF : e_fr (mJo a (w 286 a)) w w') (hT : e_Has mTy w') (h6' : w' 286 a = w 286 a + 1) (h90 : w' 290 (6 * a + w 286 a) = 100) (h91 : w' 291 (6 * a + w 286 a) = 10) : bInv w' G := by
  obtain ⟨h1, h2, h3, h4, h5, h6, h7, h8⟩ := h
  have har := e_Has.get h1 (c := 275) (k := 10) (lo := 0) (hi := 4) rfl (by decide)
  have e : ∀ c k, ¬ mJo a (w 286 a) c k → w' c k = w c k := hF
  have e40 : w' 275 40 = w 275 40 := e _ _ (by unfold mJo; omega)
  have hp := e_Has.get h1 (c := 275) (k := 40) (lo := 0) (hi := 32) rfl (by decide)
  refine ⟨hT, mAc.fr' (fun k q => by unfold mJo at q; omega) hF h2, fun b j g1 g2 g3 g4 => ?_, fun z g1 g2 => ?_, fun b g1 g2 => ?_, by rw [e40]; exact mOr.fr h6 hp.2 (e_Has.orn h1) (e_Has.orw h1 hp.2) (fun k _ => e _ _ (by unfold mJo; omega)), h7.fr (fun c k q1 q2 => e c k (by unfold mJo; omega)), h8.fr (fun k _ => e _ _ (by unfold mJo; omega))⟩
  · have hj := e_Has.get hT (c := 286) (k := b) (lo := 0) (hi := 6) (mt_o rfl) (by decide)
    by_cases c : b = a ∧ j = w 286 a
    · rw [c.1, c.2, h90, h91]; decide
    · have hjb : j < w 286 b := by
        by_cases c2 : b = a
        · rw [c2] at g4 ⊢; omega
        · rw [e 286 b (by unfold mJo; omega)] at g4; exact g4
      have q := h3 b j g1 g2 g3 hjb
      have hja := e_Has.get h1 (c := 286) (k := a) (lo := 0) (hi := 6) rfl (by decide)
      have hjb2 := e_Has.get h1 (c := 286) (k := b) (lo := 0) (hi := 6) rfl (by decide)
      have hja2 := e_Has.get hT (c := 286) (k := a) (lo := 0) (hi := 6) (mt_o rfl) (by decide)
      rw [e 290 (6 * b + j) (by unfold mJo; omega), e 291 (6 * b + j) (by unfold mJo; omega)]
      exact q
  · rw [e 310 z (by first | exact no_b3_0 | (unfold mJo; omega)), e 275 10 (by first | exact no_b3_1 | (unfold mJo; omega))]
    exact h4 z g1 (by rw [e 275 42 (by first | exact no_b3_1 | (unfold mJo; omega))] at g2; exact g2)
  · rw [e 275 10 (by first | exact no_b3_1 | (unfold mJo; omega))] at g1
    rw [e 286 b (by unfold mJo; omega)]
    exact h5 b g1 g2
end
end
-- part b4
section
noncomputable section
/-! statements: regions, tries and whiles of what is emitted -/
/-- the region around a region -/
def par (w : eW) (r : Int) : Int := if 0 ≤ r then w 331 (r / 3 + 3600) else r
def upN (w : eW) : Nat → Int → Int
  | 0, r => r
  | k + 1, r => upN w k (par w r)
/-- q is the region r or lies around it -/
def anc (w : eW) (r q : Int) : Prop := ∃ k, upN w k r = q
/-- tries lie in older regions -/
def TI (w : eW) (nt : Int) : Prop := ∀ t, 0 ≤ t → t < nt → -1 ≤ w 331 (t + 3600) ∧ w 331 (t + 3600) < 3 * t
theorem anc.refl (w : eW) (r : Int) : anc w r r := ⟨0, rfl⟩
theorem anc.step {w : eW} {r q : Int} (h : anc w (par w r) q) : anc w r q := by
  obtain ⟨k, hk⟩ := h
  exact ⟨k + 1, hk⟩
theorem anc.or {w : eW} {r q : Int} (h : anc w r q) : r = q ∨ anc w (par w r) q := by
  obtain ⟨k, hk⟩ := h
  cases k with
  | zero => exact Or.inl hk
  | succ k => exact Or.inr ⟨k, hk⟩
theorem par_neg (w : eW) : par w (-1) = -1 := by unfold par; rw [if_neg (by decide)]
theorem par_nn (w : eW) {r : Int} (h : 0 ≤ r) : par w r = w 331 (r / 3 + 3600) := by unfold par; rw [if_pos h]
theorem upN_neg (w : eW) : ∀ k, upN w k (-1) = -1
  | 0 => rfl
  | k + 1 => by
    show upN w k (par w (-1)) = -1
    rw [par_neg]
    exact upN_neg w k
theorem anc.neg {w : eW} {q : Int} (h : anc w (-1) q) : q = -1 := by
  obtain ⟨k, hk⟩ := h
  rw [upN_neg] at hk
  exact hk.symm
theorem par_lt {w : eW} {nt r : Int} (h : TI w nt) (h1 : 0 ≤ r) (h2 : r < 3 * nt) : -1 ≤ par w r ∧ par w r < 3 * (r / 3) := by
  rw [par_nn w h1]
  exact h (r / 3) (by omega) (by omega)
theorem upN_le {w : eW} {nt : Int} (h : TI w nt) : ∀ (k : Nat) {r : Int}, -1 ≤ r → r < 3 * nt → -1 ≤ upN w k r ∧ upN w k r ≤ r
  | 0, r, h1, h2 => ⟨h1, Int.le_refl r⟩
  | k + 1, r, h1, h2 => by
    by_cases c : 0 ≤ r
    · have q := par_lt h c h2
      have g := upN_le h k q.1 (by omega)
      exact ⟨g.1, by have := g.2; show upN w k (par w r) ≤ r; omega⟩
    · have e : r = -1 := by omega
      subst e
      rw [upN_neg]
      decide
theorem anc.le {w : eW} {nt r q : Int} (h : TI w nt) (h1 : -1 ≤ r) (h2 : r < 3 * nt) (a : anc w r q) : -1 ≤ q ∧ q ≤ r := by
  obtain ⟨k, hk⟩ := a
  rw [← hk]
  exact upN_le h k h1 h2
theorem anc.tr {w : eW} {r q p : Int} (a : anc w r q) (b : anc w q p) : anc w r p := by
  obtain ⟨k, hk⟩ := a
  induction k generalizing r with
  | zero =>
    have e : r = q := hk
    subst e
    exact b
  | succ k ih => exact anc.step (ih hk)
/-- the tables agree up to nt -/
theorem upN_eq {w w' : eW} {nt : Int} (h : TI w nt) (e : ∀ t, 0 ≤ t → t < nt → w' 331 (t + 3600) = w 331 (t + 3600)) : ∀ (k : Nat) {r : Int}, -1 ≤ r → r < 3 * nt → upN w' k r = upN w k r
  | 0, _, _, _ => rfl
  | k + 1, r, h1, h2 => by
    show upN w' k (par w' r) = upN w k (par w r)
    by_cases c : 0 ≤ r
    · have q := par_lt h c h2
      rw [show par w' r = par w r by rw [par_nn w' c, par_nn w c]; exact e (r / 3) (by omega) (by omega)]
      exact upN_eq h e k q.1 (by omega)
    · have e1 : r = -1 := by omega
      subst e1
      rw [par_neg, par_neg, upN_neg, upN_neg]
theorem anc.eq {w w' : eW} {nt r q : Int} (h : TI w nt) (e : ∀ t, 0 ≤ t → t < nt → w' 331 (t + 3600) = w 331 (t + 3600)) (h1 : -1 ≤ r) (h2 : r < 3 * nt) : anc w' r q ↔ anc w r q :=
  ⟨fun ⟨k, hk⟩ => ⟨k, by rw [← upN_eq h e k h1 h2]; exact hk⟩, fun ⟨k, hk⟩ => ⟨k, by rw [upN_eq h e k h1 h2]; exact hk⟩⟩
/-- the regions of a try -/
theorem anc.of3 {w : eW} {t i q : Int} (ht : 0 ≤ t) (h1 : 0 ≤ i) (h2 : i ≤ 2) : anc w (3 * t + i) q ↔ q = 3 * t + i ∨ anc w (w 331 (t + 3600)) q := by
  have e : par w (3 * t + i) = w 331 (t + 3600) := by rw [par_nn w (by omega), show (3 * t + i) / 3 = t by omega]
  constructor
  · intro a
    rcases a.or with g | g
    · exact Or.inl g.symm
    · rw [e] at g
      exact Or.inr g
  · intro a
    rcases a with g | g
    · subst g
      exact anc.refl w _
    · exact anc.step (by rw [e]; exact g)
/-- how many finally parts are open -/
def piN (w : eW) : Nat → Int → Int
  | 0, _ => 0
  | k + 1, r => if 0 ≤ r then piN w k (w 331 (r / 3 + 3600)) + (if r % 3 = 2 then 1 else 0) else 0
def piR (w : eW) (r : Int) : Int := piN w (r + 1).toNat r
theorem piN_neg (w : eW) : ∀ k, piN w k (-1) = 0
  | 0 => rfl
  | k + 1 => by
    show (if (0 : Int) ≤ -1 then _ else 0) = (0 : Int)
    rw [if_neg (by decide)]
theorem piN_any {w : eW} {nt : Int} (h : TI w nt) : ∀ (k j : Nat) {r : Int}, -1 ≤ r → r < 3 * nt → (r + 1).toNat ≤ k → (r + 1).toNat ≤ j → piN w k r = piN w j r
  | 0, j, r, h1, h2, h3, h4 => by
    have e : r = -1 := by omega
    subst e
    rw [piN_neg, piN_neg]
  | k + 1, 0, r, h1, h2, h3, h4 => by
    have e : r = -1 := by omega
    subst e
    rw [piN_neg, piN_neg]
  | k + 1, j + 1, r, h1, h2, h3, h4 => by
    by_cases c : 0 ≤ r
    · have q := h (r / 3) (by omega) (by omega)
      show (if 0 ≤ r then piN w k (w 331 (r / 3 + 3600)) + (if r % 3 = 2 then 1 else 0) else 0) = (if 0 ≤ r then piN w j (w 331 (r / 3 + 3600)) + (if r % 3 = 2 then 1 else 0) else 0)
      rw [if_pos c, if_pos c, piN_any h k j (r := w 331 (r / 3 + 3600)) q.1 (by omega) (by omega) (by omega)]
    · have e : r = -1 := by omega
      subst e
      rw [piN_neg, piN_neg]
theorem piR_neg (w : eW) : piR w (-1) = 0 := rfl
theorem piR_step {w : eW} {nt r : Int} (h : TI w nt) (h1 : 0 ≤ r) (h2 : r < 3 * nt) : piR w r = piR w (w 331 (r / 3 + 3600)) + (if r % 3 = 2 then 1 else 0) := by
  have q := h (r / 3) (by omega) (by omega)
  unfold piR
  rw [show (r + 1).toNat = r.toNat + 1 by omega]
  show (if 0 ≤ r then piN w r.toNat (w 331 (r / 3 + 3600)) + (if r % 3 = 2 then 1 else 0) else 0) = _
  rw [if_pos h1, piN_any h r.toNat (w 331 (r / 3 + 3600) + 1).toNat q.1 (by omega) (by omega) (Nat.le_refl _)]
theorem piN_eq {w w' : eW} {nt : Int} (h : TI w nt) (e : ∀ t, 0 ≤ t → t < nt → w' 331 (t + 3600) = w 331 (t + 3600)) : ∀ (k : Nat) {r : Int}, -1 ≤ r → r < 3 * nt → piN w' k r = piN w k r
  | 0, _, _, _ => rfl
  | k + 1, r, h1, h2 => by
    by_cases c : 0 ≤ r
    · have q := h (r / 3) (by omega) (by omega)
      show (if 0 ≤ r then piN w' k (w' 331 (r / 3 + 3600)) + (if r % 3 = 2 then 1 else 0) else 0) = (if 0 ≤ r then piN w k (w 331 (r / 3 + 3600)) + (if r % 3 = 2 then 1 else 0) else 0)
      rw [if_pos c, if_pos c, e (r / 3) (by omega) (by omega), piN_eq h e k (r := w 331 (r / 3 + 3600)) q.1 (by omega)]
    · have e1 : r = -1 := by omega
      subst e1
      rw [piN_neg, piN_neg]
theorem piR_eq {w w' : eW} {nt r : Int} (h : TI w nt) (e : ∀ t, 0 ≤ t → t < nt → w' 331 (t + 3600) = w 331 (t + 3600)) (h1 : -1 ≤ r) (h2 : r < 3 * nt) : piR w' r = piR w r := piN_eq h e _ h1 h2
theorem piN_nn (w : eW) : ∀ (k : Nat) (r : Int), 0 ≤ piN w k r
  | 0, _ => Int.le_refl 0
  | k + 1, r => by
    show 0 ≤ (if 0 ≤ r then piN w k (w 331 (r / 3 + 3600)) + (if r % 3 = 2 then 1 else 0) else 0)
    by_cases c : 0 ≤ r
    · rw [if_pos c]
      have := piN_nn w k (w 331 (r / 3 + 3600))
      by_cases c2 : r % 3 = 2
      · rw [if_pos c2]; omega
      · rw [if_neg c2]; omega
    · rw [if_neg c]
      exact Int.le_refl 0
theorem piR_nn (w : eW) (r : Int) : 0 ≤ piR w r := piN_nn w _ r
theorem anc.pi {w : eW} {nt q : Int} (h : TI w nt) : ∀ {r : Int}, -1 ≤ r → r < 3 * nt → anc w r q → piR w q ≤ piR w r := by
  intro r h1 h2 ⟨k, hk⟩
  induction k generalizing r with
  | zero =>
    have e : r = q := hk
    subst e
    exact Int.le_refl _
  | succ k ih =>
    by_cases c : 0 ≤ r
    · have q1 := par_lt h c h2
      have g := ih q1.1 (by omega) hk
      rw [piR_step h c h2]
      rw [par_nn w c] at g
      by_cases c2 : r % 3 = 2
      · rw [if_pos c2]; omega
      · rw [if_neg c2]; omega
    · have e1 : r = -1 := by omega
      subst e1
      have hk' : upN w (k + 1) (-1) = q := hk
      rw [upN_neg] at hk'
      subst hk'
      exact Int.le_refl _
/-- where the part r ends -/
def enR (w : eW) (r : Int) : Int := if r % 3 = 0 ∧ 0 ≤ w 332 (r / 3 + 3600) then w 332 (r / 3 + 3600) else if r % 3 ≤ 1 ∧ 0 ≤ w 333 (r / 3 + 3600) then w 333 (r / 3 + 3600) else w 334 (r / 3 + 3600)
theorem enR_eq {w w' : eW} {r : Int} (h2 : w' 332 (r / 3 + 3600) = w 332 (r / 3 + 3600)) (h3 : w' 333 (r / 3 + 3600) = w 333 (r / 3 + 3600)) (h4 : w' 334 (r / 3 + 3600) = w 334 (r / 3 + 3600)) : enR w' r = enR w r := by
  unfold enR
  rw [h2, h3, h4]
/-- the try t is over, seen from the region s -/
def clsT (w : eW) (s t : Int) : Prop := ∀ i, 0 ≤ i → i ≤ 2 → ¬ anc w s (3 * t + i)
/-- q is a place that is gone to, in the region r (b: the next place may be one) -/
def tgS (w : eW) (n s : Int) (b : Prop) (q r : Int) : Prop := (0 ≤ q ∧ q ≤ n) ∧ dp w q = 0 ∧ (q < n → sgO (w 328 (q + 40000)) = 0 ∧ w 330 (q + 40000) = r) ∧ (q = n → b ∧ s = r)
def brO (w : eW) (s p R v : Int) : Prop := p < w 336 (v + 3600) ∧ ∀ r, anc w R r → anc w r (w 335 (v + 3600)) → r ≠ w 335 (v + 3600) → clsT w s (r / 3) ∧ w 334 (r / 3 + 3600) ≤ w 336 (v + 3600)
def plO (w : eW) (nt nw s : Int) (OW : Int → Prop) (p : Int) : Prop :=
  (-1 ≤ w 330 (p + 40000) ∧ w 330 (p + 40000) < 3 * nt) ∧ (anc w s (w 330 (p + 40000)) ∨ p < enR w (w 330 (p + 40000))) ∧
  (w 328 (p + 40000) = 46 → w 329 (p + 40000) = -1 ∨ ((0 ≤ w 329 (p + 40000) ∧ w 329 (p + 40000) < nw) ∧ anc w (w 330 (p + 40000)) (w 335 (w 329 (p + 40000) + 3600)) ∧ (OW (w 329 (p + 40000)) ∨ brO w s p (w 330 (p + 40000)) (w 329 (p + 40000))))) ∧
  (49 ≤ w 328 (p + 40000) → (0 ≤ w 329 (p + 40000) ∧ w 329 (p + 40000) < nt) ∧ w 330 (p + 40000) = 3 * w 329 (p + 40000) + (w 328 (p + 40000) - 49))
def tyO (w : eW) (n s : Int) (b : Prop) (t : Int) : Prop :=
  (-1 ≤ w 331 (t + 3600) ∧ w 331 (t + 3600) < 3 * t) ∧ (w 332 (t + 3600) < 0 ∨ tgS w n s b (w 332 (t + 3600)) (3 * t + 1)) ∧ (w 333 (t + 3600) < 0 ∨ tgS w n s b (w 333 (t + 3600)) (3 * t + 2)) ∧ (w 332 (t + 3600) ≤ w 333 (t + 3600) ∨ w 333 (t + 3600) < 0) ∧
  (clsT w s t → tgS w n s b (w 334 (t + 3600)) (w 331 (t + 3600)) ∧ (w 332 (t + 3600) ≤ w 334 (t + 3600) ∧ w 333 (t + 3600) ≤ w 334 (t + 3600)) ∧ (anc w s (w 331 (t + 3600)) ∨ w 334 (t + 3600) ≤ enR w (w 331 (t + 3600))))
def whO (w : eW) (n nt s : Int) (b : Prop) (OW : Int → Prop) (v : Int) : Prop :=
  (-1 ≤ w 335 (v + 3600) ∧ w 335 (v + 3600) < 3 * nt) ∧ (OW v → anc w s (w 335 (v + 3600))) ∧ (¬ OW v → tgS w n s b (w 336 (v + 3600)) (w 335 (v + 3600)))
/-- a name that is used belongs to an instruction that takes one; P at -2 - 2 m: not yet -/
def nmK (w : eW) (n m : Int) : Prop := (0 ≤ w 344 m ∧ w 344 m < n) ∧ (w 341 m = 2 → w 328 (w 344 m + 40000) = 2 ∨ w 328 (w 344 m + 40000) = 31) ∧ (w 341 m = 3 → w 328 (w 344 m + 40000) = 38 ∨ w 328 (w 344 m + 40000) = 39 ∨ w 328 (w 344 m + 40000) = 44)
def nK (w : eW) (n mm : Int) (P : Int → Prop) : Prop := ∀ m, 0 ≤ m → m < mm → w 341 m = 2 ∨ w 341 m = 3 → P (-2 - 2 * m) ∨ nmK w n m
theorem nmK.eq {w w' : eW} {n n' m : Int} (h : nmK w n m) (h1 : w' 341 m = w 341 m) (h4 : w' 344 m = w 344 m) (h8 : ∀ k, 0 ≤ k → k < n → w' 328 (k + 40000) = w 328 (k + 40000)) (hn : n ≤ n') : nmK w' n' m := by
  obtain ⟨q1, q2, q3⟩ := h
  unfold nmK
  rw [h1, h4, h8 _ q1.1 q1.2]
  exact ⟨by omega, q2, q3⟩
theorem nK.eq {w w' : eW} {n n' mm : Int} {P P' : Int → Prop} (h : nK w n mm P) (h1 : ∀ m, 0 ≤ m → m < mm → w' 341 m = w 341 m) (h4 : ∀ m, 0 ≤ m → m < mm → w' 344 m = w 344 m) (h8 : ∀ k, 0 ≤ k → k < n → w' 328 (k + 40000) = w 328 (k + 40000)) (hn : n ≤ n') (hP : ∀ p, p < 0 → P p → P' p) : nK w' n' mm P' := fun m g1 g2 g3 => by
  rw [h1 m g1 g2] at g3
  exact (h m g1 g2 g3).imp (hP _ (by omega)) (fun z => z.eq (h1 m g1 g2) (h4 m g1 g2) h8 hn)
/-- all that is emitted, in the region s; OW: whiles that are not yet over; o: how many brackets and parts are open -/
def GI (w : eW) (N n mm nt nw : Int) (P : Int → Prop) (s : Int) (OW : Int → Prop) (o : Int) (b : Prop) : Prop :=
  (PI w n nt P ∧ NM w N n mm) ∧ (∀ p, 0 ≤ p → p < n → plO w nt nw s OW p) ∧ (∀ t, 0 ≤ t → t < nt → tyO w n s b t) ∧ (∀ v, 0 ≤ v → v < nw → whO w n nt s b OW v) ∧
  (∀ m, 0 ≤ m → m < mm → w 341 m = 1 → tgS w n s b (w 344 m) (-1)) ∧ ((-1 ≤ s ∧ s < 3 * nt) ∧ 0 ≤ n ∧ 0 ≤ nt ∧ 0 ≤ nw ∧ 0 ≤ mm) ∧ ((∀ r, -1 ≤ r → r < 3 * nt → piR w r ≤ 30) ∧ piR w s ≤ o) ∧ (∀ v, OW v → 0 ≤ v ∧ v < nw) ∧ (0 < n → sgO (w 328 40000) = 0) ∧ (n = 0 → b) ∧ nK w n mm P
theorem GI.ti {w : eW} {N n mm nt nw s o : Int} {P OW : Int → Prop} {b : Prop} (h : GI w N n mm nt nw P s OW o b) : TI w nt := fun t h1 h2 => (h.2.2.1 t h1 h2).1
/-- between two statements -/
def GB (w : eW) (N n mm nt nw : Int) (P : Int → Prop) (s : Int) (OW : Int → Prop) (o : Int) : Prop := GI w N n mm nt nw P s OW o True ∧ dp w n = 0 ∧ ∀ q, sgO q = 0 → RQ w n nt P q s
/-- behind an instruction that asks nothing but the region s of the next -/
def GA (w : eW) (N n mm nt nw : Int) (P : Int → Prop) (s : Int) (OW : Int → Prop) (o : Int) : Prop := GI w N n mm nt nw P s OW o False ∧ dp w n = 0 ∧ ∀ q, RQ w n nt P q s
/-- inside a statement, d numbers on the stack -/
def GS (w : eW) (N n mm nt nw : Int) (P : Int → Prop) (s : Int) (OW : Int → Prop) (o d : Int) : Prop := GI w N n mm nt nw P s OW o False ∧ (dp w n = d ∧ 0 ≤ d) ∧ ∀ q, sgO q = 1 → RQ w n nt P q s
theorem GA.gs {w : eW} {N n mm nt nw s o : Int} {P OW : Int → Prop} (h : GA w N n mm nt nw P s OW o) : GS w N n mm nt nw P s OW o 0 := ⟨h.1, ⟨h.2.1, Int.le_refl 0⟩, fun q _ => h.2.2 q⟩
/-! contents that agree on the tables -/
def t1E (w w' : eW) : Prop := ∀ k, w' 331 k = w 331 k
def tbE (w w' : eW) : Prop := ∀ c k, 331 ≤ c → c ≤ 336 → w' c k = w c k
theorem tbE.t1 {w w' : eW} (e : tbE w w') : t1E w w' := fun k => e 331 k (by decide) (by decide)
theorem upN_t1 {w w' : eW} (e : t1E w w') : ∀ (k : Nat) (r : Int), upN w' k r = upN w k r
  | 0, _ => rfl
  | k + 1, r => by
    show upN w' k (par w' r) = upN w k (par w r)
    rw [show par w' r = par w r by unfold par; rw [e _]]
    exact upN_t1 e k _
theorem anc_t1 {w w' : eW} (e : t1E w w') (r q : Int) : anc w' r q = anc w r q := by
  unfold anc
  exact propext ⟨fun ⟨k, hk⟩ => ⟨k, by rw [← upN_t1 e k]; exact hk⟩, fun ⟨k, hk⟩ => ⟨k, by rw [upN_t1 e k]; exact hk⟩⟩
theorem cls_t1 {w w' : eW} (e : t1E w w') (s t : Int) : clsT w' s t = clsT w s t := by
  unfold clsT
  exact propext ⟨fun h i h1 h2 => by rw [← anc_t1 e]; exact h i h1 h2, fun h i h1 h2 => by rw [anc_t1 e]; exact h i h1 h2⟩
theorem piN_t1 {w w' : eW} (e : t1E w w') : ∀ (k : Nat) (r : Int), piN w' k r = piN w k r
  | 0, _ => rfl
  | k + 1, r => by
    show (if 0 ≤ r then piN w' k (w' 331 (r / 3 + 3600)) + (if r % 3 = 2 then 1 else 0) else 0) = (if 0 ≤ r then piN w k (w 331 (r / 3 + 3600)) + (if r % 3 = 2 then 1 else 0) else 0)
    rw [e _, piN_t1 e k]
theorem piR_t1 {w w' : eW} (e : t1E w w') (r : Int) : piR w' r = piR w r := piN_t1 e _ r
theorem anc_tb {w w' : eW} (e : tbE w w') (r q : Int) : anc w' r q = anc w r q := anc_t1 e.t1 r q
theorem cls_tb {w w' : eW} (e : tbE w w') (s t : Int) : clsT w' s t = clsT w s t := cls_t1 e.t1 s t
theorem piR_tb {w w' : eW} (e : tbE w w') (r : Int) : piR w' r = piR w r := piR_t1 e.t1 r
theorem enR_tb {w w' : eW} (e : tbE w w') (r : Int) : enR w' r = enR w r := enR_eq (e 332 _ (by decide) (by decide)) (e 333 _ (by decide) (by decide)) (e 334 _ (by decide) (by decide))
theorem brO_tb {w w' : eW} (e : tbE w w') {s p R v : Int} (h : brO w s p R v) : brO w' s p R v := by
  unfold brO
  rw [e 336 _ (by decide) (by decide), e 335 _ (by decide) (by decide)]
  refine ⟨h.1, fun r h1 h2 h3 => ?_⟩
  rw [anc_tb e] at h1 h2
  rw [cls_tb e, e 334 _ (by decide) (by decide)]
  exact h.2 r h1 h2 h3
theorem plO_tb {w w' : eW} (e : tbE w w') {nt nw s p : Int} {OW : Int → Prop} (h8 : w' 328 (p + 40000) = w 328 (p + 40000)) (h9 : w' 329 (p + 40000) = w 329 (p + 40000)) (h0 : w' 330 (p + 40000) = w 330 (p + 40000)) (h : plO w nt nw s OW p) : plO w' nt nw s OW p := by
  obtain ⟨q1, q2, q3, q4⟩ := h
  unfold plO
  rw [h8, h9, h0, anc_tb e, enR_tb e]
  refine ⟨q1, q2, fun g => (q3 g).imp id (fun ⟨r1, r2, r3⟩ => ⟨r1, ?_, r3.imp id (brO_tb e)⟩), q4⟩
  rw [anc_tb e, e 335 _ (by decide) (by decide)]
  exact r2
/-- a place that is gone to stays one: n' places now; what is new there -/
theorem tgS.to {w w' : eW} {n n' s q r : Int} {b b' : Prop} (h : tgS w n s b q r) (hn : n ≤ n') (hd : ∀ k, 0 ≤ k → k < n → w' 328 (k + 40000) = w 328 (k + 40000)) (h0 : ∀ k, 0 ≤ k → k < n → w' 330 (k + 40000) = w 330 (k + 40000)) (hb : q = n → b → (n < n' → sgO (w' 328 (n + 40000)) = 0 ∧ w' 330 (n + 40000) = s) ∧ (n = n' → b')) : tgS w' n' s b' q r := by
  obtain ⟨q1, q2, q3, q4⟩ := h
  refine ⟨by omega, by rw [dp_eq (w := w) (fun k g1 g2 => hd k g1 (by omega))]; exact q2, fun g => ?_, fun g => ?_⟩
  · by_cases c : q < n
    · rw [hd q q1.1 c, h0 q q1.1 c]
      exact q3 c
    · have e : q = n := by omega
      obtain ⟨z1, z2⟩ := q4 e
      have := (hb e z1).1 (by omega)
      rw [e, ← z2]
      exact this
  · have e : q = n := by omega
    obtain ⟨z1, z2⟩ := q4 e
    exact ⟨(hb e z1).2 (by omega), z2⟩
theorem tyO_tb {w w' : eW} (e : tbE w w') {n n' s t : Int} {b b' : Prop} (h : tyO w n s b t) (hg : ∀ q r, tgS w n s b q r → tgS w' n' s b' q r) : tyO w' n' s b' t := by
  obtain ⟨q1, q2, q3, q4, q5⟩ := h
  unfold tyO
  rw [e 331 _ (by decide) (by decide), e 332 _ (by decide) (by decide), e 333 _ (by decide) (by decide), e 334 _ (by decide) (by decide), cls_tb e, anc_tb e, enR_tb e]
  exact ⟨q1, q2.imp id (hg _ _), q3.imp id (hg _ _), q4, fun g => ⟨hg _ _ (q5 g).1, (q5 g).2⟩⟩
theorem whO_tb {w w' : eW} (e : tbE w w') {n n' nt s v : Int} {b b' : Prop} {OW : Int → Prop} (h : whO w n nt s b OW v) (hg : ∀ q r, tgS w n s b q r → tgS w' n' s b' q r) : whO w' n' nt s b' OW v := by
  obtain ⟨q1, q2, q3⟩ := h
  unfold whO
  rw [e 335 _ (by decide) (by decide), e 336 _ (by decide) (by decide), anc_tb e]
  exact ⟨q1, q2, fun g => hg _ _ (q3 g)⟩
/-- more places, more names; the tables as they were -/
theorem GI.grow {w w' : eW} {N n n' mm mm' nt nw s o : Int} {P P' OW : Int → Prop} {b b' : Prop} (h : GI w N n mm nt nw P s OW o b) (e : tbE w w') (hn : n ≤ n') (hm : mm ≤ mm') (h8 : ∀ k, 0 ≤ k → k < n → w' 328 (k + 40000) = w 328 (k + 40000)) (h0 : ∀ k, 0 ≤ k → k < n → w' 330 (k + 40000) = w 330 (k + 40000))
    (h9 : ∀ k, 0 ≤ k → k < n → w 328 (k + 40000) = 46 ∨ 49 ≤ w 328 (k + 40000) → w' 329 (k + 40000) = w 329 (k + 40000))
    (hP : PI w' n' nt P') (hN : NM w' N n' mm') (hb : b → (n < n' → sgO (w' 328 (n + 40000)) = 0 ∧ w' 330 (n + 40000) = s) ∧ (n = n' → b'))
    (hp : ∀ p, n ≤ p → p < n' → plO w' nt nw s OW p) (hk : ∀ m, 0 ≤ m → m < mm → w' 341 m = 1 → w 341 m = 1 ∧ w' 344 m = w 344 m) (hk2 : ∀ m, mm ≤ m → m < mm' → w' 341 m = 1 → tgS w' n' s b' (w' 344 m) (-1)) (hK : nK w' n' mm' P') : GI w' N n' mm' nt nw P' s OW o b' := by
  obtain ⟨i1, i2, i3, i4, i5, i6, i7, i8, i9, i10, i11⟩ := h
  have hg : ∀ q r, tgS w n s b q r → tgS w' n' s b' q r := fun q r g => g.to hn h8 h0 (fun _ z => hb z)
  refine ⟨⟨hP, hN⟩, fun p g1 g2 => ?_, fun t g1 g2 => tyO_tb e (i3 t g1 g2) hg, fun v g1 g2 => whO_tb e (i4 v g1 g2) hg, fun m g1 g2 g3 => ?_, ⟨i6.1, by omega, i6.2.2.1, i6.2.2.2.1, by omega⟩, ⟨fun r g1 g2 => by rw [piR_tb e]; exact i7.1 r g1 g2, by rw [piR_tb e]; exact i7.2⟩, i8, fun g => ?_, fun g => ?_, hK⟩
  · by_cases c : p < n
    · obtain ⟨q1, q2, q3, q4⟩ := i2 p g1 c
      unfold plO
      rw [h8 p g1 c, h0 p g1 c, anc_tb e, enR_tb e]
      refine ⟨q1, q2, fun g => ?_, fun g => ?_⟩
      · rw [h9 p g1 c (Or.inl g)]
        refine (q3 g).imp id (fun ⟨r1, r2, r3⟩ => ⟨r1, ?_, r3.imp id (brO_tb e)⟩)
        rw [anc_tb e, e 335 _ (by decide) (by decide)]
        exact r2
      · rw [h9 p g1 c (Or.inr g)]
        exact q4 g
    · exact hp p (by omega) g2
  · by_cases c : m < mm
    · obtain ⟨z1, z2⟩ := hk m g1 c g3
      rw [z2]
      exact hg _ _ (i5 m g1 c z1)
    · exact hk2 m (by omega) g2 g3
  · by_cases c : 0 < n
    · have := h8 0 (by omega) c
      rw [show (0 : Int) + 40000 = 40000 by decide] at this
      rw [this]
      exact i9 c
    · have e0 : n = 0 := by omega
      have := (hb (i10 e0)).1 (by omega)
      rw [e0, show (0 : Int) + 40000 = 40000 by decide] at this
      exact this.1
  · have e0 : n = 0 := by omega
    exact (hb (i10 e0)).2 (by omega)
theorem EM.tb {w w' : eW} {n o x s : Int} (h : EM w w' n o x s) : tbE w w' := fun c k g1 g2 => h.1 c k (by omega)
/-- one instruction more -/
theorem GI.em {w w' : eW} {N n mm nt nw s o q x : Int} {P P' OW : Int → Prop} {b : Prop} (b' : Prop) (h : GI w N n mm nt nw P s OW o b) (he : EM w w' n q x s) (hP : PI w' (n + 1) nt P') (hN : NM w' N (n + 1) mm) (hPP : ∀ p, p < 0 → P p → P' p) (hb : sgO q = 0 ∨ ¬ b) (h46 : q = 46 → x = -1 ∨ OW x) (h49 : 49 ≤ q → (0 ≤ x ∧ x < nt) ∧ s = 3 * x + (q - 49)) : GI w' N (n + 1) mm nt nw P' s OW o b' := by
  have hn := h.2.2.2.2.2.1
  have e := he.tb
  refine h.grow e (by omega) (Int.le_refl mm) (fun k _ g => he.1 328 _ (by omega)) (fun k _ g => he.1 330 _ (by omega)) (fun k _ g _ => he.1 329 _ (by omega)) hP hN (fun z => ⟨fun _ => ⟨by rw [he.2.1]; exact hb.resolve_right (fun g => g z), he.2.2.2.1⟩, fun g => by omega⟩) (fun p g1 g2 => ?_) (fun m g1 g2 g3 => ⟨by rw [← he.1 341 m (by omega)]; exact g3, he.1 344 m (by omega)⟩) (fun m g1 g2 => by omega) (h.2.2.2.2.2.2.2.2.2.2.eq (fun m _ _ => he.1 341 m (by omega)) (fun m _ _ => he.1 344 m (by omega)) (fun k _ g => he.1 328 _ (by omega)) (by omega) hPP)
  have ep : p = n := by omega
  subst ep
  unfold plO
  rw [he.2.1, he.2.2.1, he.2.2.2.1]
  refine ⟨hn.1, Or.inl (anc.refl w' s), fun g => (h46 g).imp id (fun z => ?_), h49⟩
  have hv := h.2.2.2.2.2.2.2.1 x z
  refine ⟨hv, ?_, Or.inl z⟩
  rw [anc_tb e, e 335 _ (by decide) (by decide)]
  exact (h.2.2.2.1 x hv.1 hv.2).2.1 z
theorem GI.pr {w w' : eW} {N n mm nt nw s o : Int} {P OW : Int → Prop} {b : Prop} (h : GI w N n mm nt nw P s OW o b) (e : prE w w') : GI w' N n mm nt nw P s OW o b :=
  h.grow (fun c k g1 g2 => e c k (by omega)) (Int.le_refl n) (Int.le_refl mm) (fun k _ _ => e _ _ (by omega)) (fun k _ _ => e _ _ (by omega)) (fun k _ _ _ => e _ _ (by omega)) (h.1.1.pr e) (h.1.2.pr e) (fun z => ⟨fun g => by omega, fun _ => z⟩) (fun p g1 g2 => by omega) (fun m _ _ g => ⟨by rw [← e 341 m (by omega)]; exact g, e _ _ (by omega)⟩) (fun m g1 g2 => by omega) (h.2.2.2.2.2.2.2.2.2.2.eq (fun m _ _ => e _ _ (by omega)) (fun m _ _ => e _ _ (by omega)) (fun k _ _ => e _ _ (by omega)) (Int.le_refl n) (fun _ _ z => z))
theorem GB.pr {w w' : eW} {N n mm nt nw s o : Int} {P OW : Int → Prop} (h : GB w N n mm nt nw P s OW o) (e : prE w w') : GB w' N n mm nt nw P s OW o := ⟨h.1.pr e, by rw [e.dq]; exact h.2.1, fun q g => (h.2.2 q g).pr e⟩
theorem GA.pr {w w' : eW} {N n mm nt nw s o : Int} {P OW : Int → Prop} (h : GA w N n mm nt nw P s OW o) (e : prE w w') : GA w' N n mm nt nw P s OW o := ⟨h.1.pr e, by rw [e.dq]; exact h.2.1, fun q => (h.2.2 q).pr e⟩
theorem GS.pr {w w' : eW} {N n mm nt nw s o d : Int} {P OW : Int → Prop} (h : GS w N n mm nt nw P s OW o d) (e : prE w w') : GS w' N n mm nt nw P s OW o d := ⟨h.1.pr e, by rw [e.dq]; exact h.2.1, fun q g => (h.2.2 q g).pr e⟩
/-- the next place may be gone to -/
theorem GI.bm {w : eW} {N n mm nt nw s o : Int} {P OW : Int → Prop} {b b' : Prop} (h : GI w N n mm nt nw P s OW o b) (g : b → b') : GI w N n mm nt nw P s OW o b' :=
  h.grow (fun _ _ _ _ => rfl) (Int.le_refl n) (Int.le_refl mm) (fun _ _ _ => rfl) (fun _ _ _ => rfl) (fun _ _ _ _ => rfl) h.1.1 h.1.2 (fun z => ⟨fun q => by omega, fun _ => g z⟩) (fun p g1 g2 => by omega) (fun m _ _ q => ⟨q, rfl⟩) (fun m g1 g2 => by omega) h.2.2.2.2.2.2.2.2.2.2
theorem GI.ol {w : eW} {N n mm nt nw s o o' : Int} {P OW : Int → Prop} {b : Prop} (h : GI w N n mm nt nw P s OW o b) (g : o ≤ o') : GI w N n mm nt nw P s OW o' b := ⟨h.1, h.2.1, h.2.2.1, h.2.2.2.1, h.2.2.2.2.1, h.2.2.2.2.2.1, ⟨h.2.2.2.2.2.2.1.1, Int.le_trans h.2.2.2.2.2.2.1.2 g⟩, h.2.2.2.2.2.2.2⟩
end
end
-- part b5
section
noncomputable section
/-! statements: from one state of the text to the next -/
theorem sg_op {q : Int} (h : (31 ≤ q ∧ q ≤ 44) ∨ q = 47) : sgO q = 1 := by unfold sgO; rw [if_pos (by omega)]
theorem sg_no {q : Int} (h : q = 30 ∨ q = 45 ∨ q = 46 ∨ 48 ≤ q) : sgO q = 0 := by unfold sgO; rw [if_neg (by omega)]
theorem nxD_no {q d : Int} (h : 30 ≤ q) : nxD q d = 0 := by unfold nxD; rw [if_neg (by omega), if_pos h]
/-- behind an instruction that asks nothing at all -/
def GZ (w : eW) (N n mm nt nw : Int) (P : Int → Prop) (s : Int) (OW : Int → Prop) (o : Int) : Prop := GI w N n mm nt nw P s OW o False ∧ dp w n = 0 ∧ ∀ q s', RQ w n nt P q s'
theorem GZ.gb {w : eW} {N n mm nt nw s o : Int} {P OW : Int → Prop} (h : GZ w N n mm nt nw P s OW o) : GB w N n mm nt nw P s OW o := ⟨h.1.bm (fun z => z.elim), h.2.1, fun q _ => h.2.2 q s⟩
theorem GZ.pr {w w' : eW} {N n mm nt nw s o : Int} {P OW : Int → Prop} (h : GZ w N n mm nt nw P s OW o) (e : prE w w') : GZ w' N n mm nt nw P s OW o := ⟨h.1.pr e, by rw [e.dq]; exact h.2.1, fun q s' => (h.2.2 q s').pr e⟩
/-- a statement begins -/
theorem GB.beg {w w' : eW} {N n mm nt nw s o x : Int} {P OW : Int → Prop} (h : GB w N n mm nt nw P s OW o) (he : EM w w' n 30 x s) : GA w' N (n + 1) mm nt nw P s OW o := by
  obtain ⟨h1, h2, h3⟩ := h
  have hn : 0 ≤ n := h1.2.2.2.2.2.1.2.1
  have nj : ¬ iJp 30 := by unfold iJp; omega
  refine ⟨h1.em False he (h1.1.1.em (h3 30 (sg_no (by omega))) he hn (by rw [h2]; unfold iOw; omega) (fun p _ g => g) (fun p _ g => g) (fun _ => ⟨to_not he.2.1 nj, fun k _ _ => go_not he.2.1 nj⟩)) (h1.1.2.em he hn (by decide) (by decide) (by decide) (by decide) (by decide) (fun g => absurd g (by decide))) (fun _ _ z => z) (Or.inl (sg_no (by omega))) (fun g => absurd g (by decide)) (fun g => absurd g (by decide)), by rw [he.dq1 hn, nxD_no (by decide)], fun q => RQ.em h1.1.1 he hn (fun p _ g => g) (fun p _ g => g) ?_ (fun _ => go_not he.2.1 nj)⟩
  unfold iNx
  rw [he.2.1, he.2.2.2.1]
  exact ⟨fun g => by omega, fun g => by omega, fun _ => Or.inl rfl⟩
/-- the places and names that were there, below 0 -/
def enc (P : Int → Prop) (n mm : Int) (p : Int) : Prop := (0 ≤ p ∧ P p) ∨ (p < 0 ∧ ((∃ q, p = -1 - 2 * q ∧ q < n) ∨ (∃ m, p = -2 - 2 * m ∧ m < mm)))
theorem enc_nn {P : Int → Prop} {n mm p : Int} (hp : 0 ≤ p) : enc P n mm p ↔ P p :=
  ⟨fun h => h.elim (fun g => g.2) (fun g => absurd g.1 (by omega)), fun h => Or.inl ⟨hp, h⟩⟩
theorem PI.cg {w : eW} {n nt : Int} {P P' : Int → Prop} (h : PI w n nt P) (g : ∀ p, 0 ≤ p → (P' p ↔ P p)) : PI w n nt P' := fun p g1 g2 => ⟨(h p g1 g2).1, (h p g1 g2).2.1, fun q => (h p g1 g2).2.2 (fun z => q ((g p g1).2 z))⟩
theorem RQ.cg {w : eW} {n nt o s : Int} {P P' : Int → Prop} (h : RQ w n nt P o s) (g : ∀ p, 0 ≤ p → (P' p ↔ P p)) : RQ w n nt P' o s := fun p g1 g2 => ⟨(h p g1 g2).1, fun q => (h p g1 g2).2 (fun z => q ((g p g1).2 z))⟩
theorem GI.cg {w : eW} {N n mm nt nw s o : Int} {P P' OW : Int → Prop} {b : Prop} (h : GI w N n mm nt nw P s OW o b) (g : ∀ p, P' p ↔ P p) : GI w N n mm nt nw P' s OW o b := by
  obtain ⟨i1, i2, i3, i4, i5, i6, i7, i8, i9, i10, i11⟩ := h
  exact ⟨⟨i1.1.cg (fun p _ => g p), i1.2⟩, i2, i3, i4, i5, i6, i7, i8, i9, i10, i11.eq (fun _ _ _ => rfl) (fun _ _ _ => rfl) (fun _ _ _ => rfl) (Int.le_refl n) (fun p _ z => (g p).2 z)⟩
theorem GB.cg {w : eW} {N n mm nt nw s o : Int} {P P' OW : Int → Prop} (h : GB w N n mm nt nw P s OW o) (g : ∀ p, P' p ↔ P p) : GB w N n mm nt nw P' s OW o := ⟨h.1.cg g, h.2.1, fun q z => (h.2.2 q z).cg (fun p _ => g p)⟩
theorem GS.wf {w : eW} {N n mm nt nw s o d : Int} {P OW : Int → Prop} (h : GS w N n mm nt nw P s OW o d) : wfE w N n mm nt (enc P n mm) s d :=
  ⟨h.1.1.1.cg (fun p g => enc_nn g), fun q z => (h.2.2 q z).cg (fun p g => enc_nn g), h.1.1.2, h.2.1.1, h.1.2.2.2.2.2.1.2.1, h.2.1.2, fun p g1 g2 => Or.inl (Or.inr ⟨by omega, Or.inl ⟨p, rfl, g2⟩⟩), fun m g1 g2 => Or.inl (Or.inr ⟨by omega, Or.inr ⟨m, rfl, g2⟩⟩)⟩
/-- behind an expression -/
theorem GS.ex {w w' : eW} {N n n' mm mm' nt nw s o d e : Int} {P OW : Int → Prop} (h : GS w N n mm nt nw P s OW o d) (hf : e_fr (mEx n mm) w w') (hn : n ≤ n') (hm : mm ≤ mm') (hw : wfE w' N n' mm' nt (enc P n mm) s e) : GS w' N n' mm' nt nw P s OW o e ∧ (∀ p, n ≤ p → p < n' → w' 330 (p + 40000) = s) ∧ dp w' n = d ∧ (d ≠ e → n < n') := by
  obtain ⟨q1, q2, q3, q4, q5, q6, q7⟩ := hw
  have hnn : 0 ≤ n := h.1.2.2.2.2.2.1.2.1
  have hmm : 0 ≤ mm := h.1.2.2.2.2.2.1.2.2.2.2
  have g1 : PI w' n' nt P := q1.cg (fun p g => (enc_nn g).symm)
  have hx : ∀ p, n ≤ p → p < n' → w' 328 (p + 40000) < 30 ∧ w' 330 (p + 40000) = s := fun p z1 z2 => (q7.1 p (by omega) z2).resolve_left (fun z => by
    rcases z with z | ⟨_, ⟨q, z3, z4⟩ | ⟨m, z3, z4⟩⟩
    · have := z.1; omega
    · omega
    · omega)
  have hk : ∀ m, mm ≤ m → m < mm' → w' 341 m = 2 ∧ (0 ≤ w' 344 m ∧ w' 344 m < n') ∧ w' 328 (w' 344 m + 40000) = 2 := fun m z1 z2 => (q7.2 m (by omega) z2).resolve_left (fun z => by
    rcases z with z | ⟨_, ⟨q, z3, z4⟩ | ⟨q, z3, z4⟩⟩
    · have := z.1; omega
    · omega
    · omega)
  have hdn : dp w' n = d := (dp_eq (fun k z1 z2 => hf 328 _ (by unfold mEx; omega))).trans h.2.1.1
  refine ⟨⟨?_, ⟨q4, q6⟩, fun q z => (q2 q z).cg (fun p g => (enc_nn g).symm)⟩, fun p z1 z2 => (hx p z1 z2).2, hdn, fun z => ?_⟩
  case refine_2 =>
    by_cases c : n = n'
    · rw [c, q4] at hdn
      exact absurd hdn.symm z
    · omega
  refine h.1.grow (fun c k z1 z2 => hf c k (by unfold mEx; omega)) hn hm (fun k z1 z2 => hf _ _ (by unfold mEx; omega)) (fun k z1 z2 => hf _ _ (by unfold mEx; omega)) (fun k z1 z2 _ => hf _ _ (by unfold mEx; omega)) g1 q3 (fun z => z.elim) (fun p z1 z2 => ?_) (fun m z1 z2 z3 => ⟨by rw [← hf 341 m (by unfold mEx; omega)]; exact z3, hf _ _ (by unfold mEx; omega)⟩) (fun m z1 z2 z3 => by rw [(hk m z1 z2).1] at z3; exact absurd z3 (by decide)) (fun m z1 z2 z3 => ?_)
  · obtain ⟨y1, y2⟩ := hx p z1 z2
    unfold plO
    rw [y2]
    exact ⟨h.1.2.2.2.2.2.1.1, Or.inl (anc.refl w' s), fun g => by omega, fun g => by omega⟩
  · by_cases c : m < mm
    · rw [hf 341 m (by unfold mEx; omega)] at z3
      exact (h.1.2.2.2.2.2.2.2.2.2.2 m z1 c z3).imp id (fun y => y.eq (hf 341 m (by unfold mEx; omega)) (hf 344 m (by unfold mEx; omega)) (fun k y1 y2 => hf 328 _ (by unfold mEx; omega)) hn)
    · obtain ⟨y1, y2, y3⟩ := hk m (by omega) z2
      exact Or.inr ⟨y2, fun _ => Or.inl y3, fun y => by omega⟩
/-- the last instruction of a statement (but those with names) -/
theorem GS.fin {w w' : eW} {N n mm nt nw s o d q x : Int} {P OW : Int → Prop} (h : GS w N n mm nt nw P s OW o d) (he : EM w w' n q x s) (hq : 31 ≤ q ∧ q ≤ 44) (h1 : q ≠ 31) (h3 : q ≠ 38) (h4 : q ≠ 39) (h5 : q ≠ 44) (hw : iOw d q x) (h34 : q = 34 → (0 ≤ x ∧ x < n) ∧ dp w x = 0 ∧ w 330 (x + 40000) = s) : GB w' N (n + 1) mm nt nw P s OW o := by
  obtain ⟨g1, ⟨g2, g3⟩, g4⟩ := h
  have hn : 0 ≤ n := g1.2.2.2.2.2.1.2.1
  have hs : sgO q = 1 := sg_op (Or.inl hq)
  have hj : iTo w' (n + 1) n ∧ ∀ k, 0 ≤ k → k ≤ n → iGo w' n k (w' 328 (k + 40000)) (w' 330 (k + 40000)) := by
    by_cases c : q = 34
    · obtain ⟨y1, y2, y3⟩ := h34 c
      refine ⟨?_, fun k k1 k2 z => ?_⟩
      · unfold iTo
        rw [he.2.1, he.2.2.1]
        exact ⟨fun z => by omega, fun z => by omega, fun z => by omega⟩
      · rw [he.2.2.1] at z
        rw [he.2.1, he.2.2.2.1]
        refine ⟨fun z => by omega, fun _ => ⟨?_, ?_⟩, fun z => by omega⟩
        · rw [← z, he.dq (by omega)]; exact y2
        · rw [← z, he.1 330 _ (by omega)]; exact y3
    · have nj : ¬ iJp q := by unfold iJp; omega
      exact ⟨to_not he.2.1 nj, fun k _ _ => go_not he.2.1 nj⟩
  refine ⟨g1.em True he (g1.1.1.em (g4 q hs) he hn (by rw [g2]; exact hw) (fun p _ g => g) (fun p _ g => g) (fun _ => hj)) (g1.1.2.em he hn (by omega) h1 h3 h4 h5 (fun g => by omega)) (fun _ _ z => z) (Or.inr (fun z => z)) (fun g => by omega) (fun g => by omega), by rw [he.dq1 hn, nxD_no (by omega)], fun q' g => RQ.em g1.1.1 he hn (fun p _ g => g) (fun p _ g => g) ?_ (fun _ z => ?_)⟩
  · unfold iNx
    rw [he.2.1, he.2.2.2.1]
    exact ⟨fun z => by omega, fun _ => ⟨g, rfl⟩, fun z => by omega⟩
  · rw [he.2.2.1] at z
    rw [he.2.1]
    exact ⟨fun z => by omega, fun y => by have := (h34 y).1; omega, fun z => by omega⟩
/-- an instruction that asks nothing of the next -/
theorem GI.zz {w w' : eW} {N n mm nt nw s o q x : Int} {P OW : Int → Prop} {b : Prop} (h : GI w N n mm nt nw P s OW o b) (hr : RQ w n nt P q s) (hd : dp w n = 0) (he : EM w w' n q x s) (hq : q = 45 ∨ q = 46 ∨ (49 ≤ q ∧ q ≤ 51)) (h46 : q = 46 → (x = -1 ∧ ∃ m, 0 ≤ m ∧ m < mm ∧ w 341 m = 4) ∨ OW x) (h49 : 49 ≤ q → (0 ≤ x ∧ x < nt) ∧ s = 3 * x + (q - 49)) : GZ w' N (n + 1) mm nt nw P s OW o := by
  have hn : 0 ≤ n := h.2.2.2.2.2.1.2.1
  have nj : ¬ iJp q := by clear h46 h49; unfold iJp; omega
  have h4 : q = 46 → 0 ≤ x ∨ ∃ m, 0 ≤ m ∧ m < mm ∧ w 341 m = 4 := fun g => (h46 g).elim (fun z => Or.inr z.2) (fun z => Or.inl (h.2.2.2.2.2.2.2.1 x z).1)
  refine ⟨h.em False he (h.1.1.em hr he hn (by rw [hd]; unfold iOw; clear h46 h4 h49; omega) (fun p _ g => g) (fun p _ g => g) (fun _ => ⟨to_not he.2.1 nj, fun k _ _ => go_not he.2.1 nj⟩)) (h.1.2.em he hn (by clear h46 h4 h49; omega) (by clear h46 h4 h49; omega) (by clear h46 h4 h49; omega) (by clear h46 h4 h49; omega) (by clear h46 h4 h49; omega) h4) (fun _ _ z => z) (Or.inl (sg_no (by clear h46 h4 h49; omega))) (fun g => (h46 g).imp (fun z => z.1) id) h49, by rw [he.dq1 hn, nxD_no (by clear h46 h4 h49; omega)], fun q' s' => RQ.em h.1.1 he hn (fun p _ g => g) (fun p _ g => g) ?_ (fun _ => go_not he.2.1 nj)⟩
  unfold iNx
  rw [he.2.1]
  clear h46 h4 h49
  exact ⟨fun z => by omega, fun z => by omega, fun z => by omega⟩
/-- a jump whose goal is still to come -/
theorem GI.jf {w w' : eW} {N n mm nt nw s o x : Int} {P OW : Int → Prop} {b : Prop} (h : GI w N n mm nt nw P s OW o b) (hr : RQ w n nt P 48 s) (hd : dp w n = 0) (he : EM w w' n 48 x s) : GZ w' N (n + 1) mm nt nw (fun p => P p ∨ p = n) s OW o := by
  have hn : 0 ≤ n := h.2.2.2.2.2.1.2.1
  refine ⟨h.em False he (h.1.1.em hr he hn (by rw [hd]; unfold iOw; omega) (fun p _ g => Or.inl g) (fun p hp g => by rcases g with g | g; exact g; omega) (fun g => absurd (Or.inr rfl) g)) (h.1.2.em he hn (by decide) (by decide) (by decide) (by decide) (by decide) (fun g => absurd g (by decide))) (fun _ _ z => Or.inl z) (Or.inl (sg_no (by omega))) (fun g => absurd g (by decide)) (fun g => absurd g (by decide)), by rw [he.dq1 hn, nxD_no (by decide)], fun q' s' => RQ.em h.1.1 he hn (fun p _ g => Or.inl g) (fun p hp g => by rcases g with g | g; exact g; omega) ?_ (fun g => absurd (Or.inr rfl) g)⟩
  unfold iNx
  rw [he.2.1]
  exact ⟨fun z => by omega, fun z => by omega, fun z => by omega⟩
/-- a jump back -/
theorem GI.jb {w w' : eW} {N n mm nt nw s o x : Int} {P OW : Int → Prop} {b : Prop} (h : GI w N n mm nt nw P s OW o b) (hr : RQ w n nt P 48 s) (hd : dp w n = 0) (he : EM w w' n 48 x s) (hx : 0 ≤ x ∧ x < n) (h8 : w 328 (x + 40000) = 30) (h0 : w 330 (x + 40000) = s) (hdx : dp w x = 0) : GZ w' N (n + 1) mm nt nw P s OW o := by
  have hn : 0 ≤ n := h.2.2.2.2.2.1.2.1
  have e8 : w' 328 (x + 40000) = 30 := (he.1 328 _ (by omega)).trans h8
  have e0 : w' 330 (x + 40000) = s := (he.1 330 _ (by omega)).trans h0
  have ed : dp w' x = 0 := (he.dq (by omega)).trans hdx
  refine ⟨h.em False he (h.1.1.em hr he hn (by rw [hd]; unfold iOw; omega) (fun p _ g => g) (fun p _ g => g) (fun _ => ⟨?_, fun k k1 k2 z => ?_⟩)) (h.1.2.em he hn (by decide) (by decide) (by decide) (by decide) (by decide) (fun g => absurd g (by decide))) (fun _ _ z => z) (Or.inl (sg_no (by omega))) (fun g => absurd g (by decide)) (fun g => absurd g (by decide)), by rw [he.dq1 hn, nxD_no (by decide)], fun q' s' => RQ.em h.1.1 he hn (fun p _ g => g) (fun p _ g => g) ?_ (fun _ z => ?_)⟩
  · unfold iTo
    rw [he.2.1, he.2.2.1]
    exact ⟨fun z => by omega, fun z => by omega, fun _ => Or.inr ⟨hx.1, hx.2, e8⟩⟩
  · rw [he.2.2.1] at z
    rw [he.2.1, he.2.2.2.1, ← z, e8, e0, ed]
    exact ⟨fun z => by omega, fun z => by omega, fun _ => ⟨rfl, sg_no (by omega), rfl⟩⟩
  · unfold iNx
    rw [he.2.1]
    exact ⟨fun z => by omega, fun z => by omega, fun z => by omega⟩
  · rw [he.2.2.1] at z
    omega
/-- a jump if not, whose goal is still to come -/
theorem GS.jn {w w' : eW} {N n mm nt nw s o x : Int} {P OW : Int → Prop} (h : GS w N n mm nt nw P s OW o 1) (he : EM w w' n 47 x s) : GB w' N (n + 1) mm nt nw (fun p => P p ∨ p = n) s OW o := by
  obtain ⟨g1, ⟨g2, g3⟩, g4⟩ := h
  have hn : 0 ≤ n := g1.2.2.2.2.2.1.2.1
  refine ⟨g1.em True he (g1.1.1.em (g4 47 (sg_op (by omega))) he hn (by rw [g2]; unfold iOw; omega) (fun p _ g => Or.inl g) (fun p hp g => by rcases g with g | g; exact g; omega) (fun g => absurd (Or.inr rfl) g)) (g1.1.2.em he hn (by decide) (by decide) (by decide) (by decide) (by decide) (fun g => absurd g (by decide))) (fun _ _ z => Or.inl z) (Or.inr (fun z => z)) (fun g => absurd g (by decide)) (fun g => absurd g (by decide)), by rw [he.dq1 hn, nxD_no (by decide)], fun q' z => RQ.em g1.1.1 he hn (fun p _ g => Or.inl g) (fun p hp g => by rcases g with g | g; exact g; omega) ?_ (fun g => absurd (Or.inr rfl) g)⟩
  unfold iNx
  rw [he.2.1, he.2.2.2.1]
  exact ⟨fun z => by omega, fun _ => ⟨z, rfl⟩, fun z => by omega⟩
/-- the goal has come -/
theorem GB.patch {w w' : eW} {N n mm nt nw s o j : Int} {P OW : Int → Prop} (h : GB w N n mm nt nw (fun p => P p ∨ p = j) s OW o) (hw : e_up w 329 (j + 40000) n = w') (hj : 0 ≤ j ∧ j < n) (h8 : w 328 (j + 40000) = 47 ∨ w 328 (j + 40000) = 48) (h0 : w 330 (j + 40000) = s) : GB w' N n mm nt nw P s OW o := by
  obtain ⟨g1, g2, g3⟩ := h
  have x8 : ∀ c k, c ≠ 329 → w' c k = w c k := fun c k g => by rw [← hw]; exact e_up_ne _ _ (Or.inl g)
  have x9 : ∀ p, p ≠ j → w' 329 (p + 40000) = w 329 (p + 40000) := fun p g => by rw [← hw]; exact e_up_ne _ _ (Or.inr (by omega))
  have xj : w' 329 (j + 40000) = n := by rw [← hw]; exact e_up_eq _ _ _ _
  have ed : ∀ p, dp w' p = dp w p := fun p => dp_eq (fun k _ _ => x8 328 _ (by decide))
  have hP : PI w' n nt P := fun p p1 p2 => by
    obtain ⟨i1, i2, i3⟩ := g1.1.1 p p1 p2
    refine ⟨?_, fun q => by rw [x8 328 _ (by decide), x8 330 _ (by decide)]; exact (i2 q).eq (Int.le_refl nt) (x8 328 _ (by decide)) (x8 330 _ (by decide)) (fun t _ _ => x8 331 _ (by decide)), fun q => ?_⟩
    · rw [ed, x8 328 _ (by decide)]
      by_cases c : p = j
      · subst c
        unfold iOw at i1 ⊢
        omega
      · rw [x9 p c]; exact i1
    · by_cases c : p = j
      · subst c
        refine ⟨?_, fun k k1 k2 z => ?_⟩
        · unfold iTo
          rw [x8 328 _ (by decide), xj]
          exact ⟨fun z => by omega, fun z => by omega, fun z => Or.inl (by omega)⟩
        · rw [xj] at z
          omega
      · have := i3 (fun z => z.elim q c)
        exact ⟨this.1.eq (Int.le_refl n) (fun k _ _ => x8 328 _ (by decide)) (x9 p c) p1, fun k k1 k2 => by rw [x8 328 _ (by decide), x8 330 _ (by decide)]; exact (this.2 k k1 k2).eq (x8 328 _ (by decide)) (x9 p c) (x8 330 _ (by decide)) (ed p) (ed k)⟩
  have hN : NM w' N n mm := by
    refine ⟨fun m m1 m2 => ?_, fun p p1 p2 => ?_⟩
    · unfold nmO
      rw [x8 341 m (by decide), x8 342 m (by decide), x8 343 m (by decide), x8 344 m (by decide)]
      exact g1.1.2.1 m m1 m2
    · obtain ⟨r1, r2, r3⟩ := g1.1.2.2 p p1 p2
      unfold NMp
      rw [x8 328 _ (by decide)]
      refine ⟨fun z => ?_, fun z => ?_, fun z => ?_⟩
      · obtain ⟨m, m1, m2, m3, m4⟩ := r1 z
        exact ⟨m, m1, m2, by rw [x8 341 m (by decide)]; exact m3, by rw [x8 344 m (by decide)]; exact m4⟩
      · obtain ⟨m, m1, m2, m3, m4⟩ := r2 z
        exact ⟨m, m1, m2, by rw [x8 341 m (by decide)]; exact m3, by rw [x8 344 m (by decide)]; exact m4⟩
      · have c : p ≠ j := fun c => by subst c; rcases h8 with h8 | h8 <;> (rw [h8] at z; exact absurd z (by decide))
        rw [x9 p c]
        exact (r3 z).imp id (fun ⟨m, m1, m2, m3⟩ => ⟨m, m1, m2, by rw [x8 341 m (by decide)]; exact m3⟩)
  refine ⟨g1.grow (fun c k z1 z2 => x8 c k (by omega)) (Int.le_refl n) (Int.le_refl mm) (fun k _ _ => x8 _ _ (by decide)) (fun k _ _ => x8 _ _ (by decide)) (fun k _ _ z => x9 k (fun c => by subst c; omega)) hP hN (fun _ => ⟨fun z => by omega, fun _ => trivial⟩) (fun p z1 z2 => by omega) (fun m _ _ z => ⟨by rw [← x8 341 m (by decide)]; exact z, x8 _ _ (by decide)⟩) (fun m z1 z2 => by omega) (g1.2.2.2.2.2.2.2.2.2.2.eq (fun m _ _ => x8 _ _ (by decide)) (fun m _ _ => x8 _ _ (by decide)) (fun k _ _ => x8 _ _ (by decide)) (Int.le_refl n) (fun p z1 z2 => z2.resolve_right (by omega))), by rw [ed]; exact g2, fun q z => fun p p1 p2 => ?_⟩
  obtain ⟨r1, r2⟩ := g3 q z p p1 p2
  refine ⟨fun y => (r1 y).eq (Int.le_refl nt) (x8 328 _ (by decide)) (x8 330 _ (by decide)) (fun t _ _ => x8 331 _ (by decide)), fun y => ?_⟩
  by_cases c : p = j
  · subst c
    intro _
    rw [x8 328 _ (by decide), x8 330 _ (by decide), h0, ed, ed, g2]
    exact ⟨fun v => by omega, fun v => by omega, fun _ => ⟨rfl, z, rfl⟩⟩
  · exact (r2 (fun v => v.elim y c)).eq (x8 328 _ (by decide)) (x9 p c) (x8 330 _ (by decide)) (ed p) (ed n)
end
end
-- part b6
section
noncomputable section
/-! statements: names, tries and whiles -/
/-- what is emitted looks at these cells alone -/
def p8E (w w' : eW) : Prop := ∀ c k, 328 ≤ c → c ≤ 336 → w' c k = w c k
theorem p8E.tb {w w' : eW} (e : p8E w w') : tbE w w' := fun c k g1 g2 => e c k (by omega) g2
theorem p8E.dq {w w' : eW} (h : p8E w w') (p : Int) : dp w' p = dp w p := dp_eq (fun k _ _ => h 328 _ (by decide) (by decide))
theorem PI.p8 {w w' : eW} {n nt : Int} {P : Int → Prop} (h : PI w n nt P) (e : p8E w w') : PI w' n nt P := fun p g1 g2 => by
  obtain ⟨i1, i2, i3⟩ := h p g1 g2
  refine ⟨by rw [e.dq, e 328 _ (by decide) (by decide), e 329 _ (by decide) (by decide)]; exact i1, fun q => by rw [e 328 _ (by decide) (by decide), e 330 _ (by decide) (by decide)]; exact (i2 q).eq (Int.le_refl nt) (e 328 _ (by decide) (by decide)) (e 330 _ (by decide) (by decide)) (fun t _ _ => e 331 _ (by decide) (by decide)), fun q => ⟨(i3 q).1.eq (Int.le_refl n) (fun k _ _ => e 328 _ (by decide) (by decide)) (e 329 _ (by decide) (by decide)) g1, fun k k1 k2 => by rw [e 328 _ (by decide) (by decide), e 330 _ (by decide) (by decide)]; exact ((i3 q).2 k k1 k2).eq (e 328 _ (by decide) (by decide)) (e 329 _ (by decide) (by decide)) (e 330 _ (by decide) (by decide)) (e.dq p) (e.dq k)⟩⟩
theorem RQ.p8 {w w' : eW} {n nt o s : Int} {P : Int → Prop} (h : RQ w n nt P o s) (e : p8E w w') : RQ w' n nt P o s := fun p g1 g2 =>
  ⟨fun q => ((h p g1 g2).1 q).eq (Int.le_refl nt) (e 328 _ (by decide) (by decide)) (e 330 _ (by decide) (by decide)) (fun t _ _ => e 331 _ (by decide) (by decide)), fun q => ((h p g1 g2).2 q).eq (e 328 _ (by decide) (by decide)) (e 329 _ (by decide) (by decide)) (e 330 _ (by decide) (by decide)) (e.dq p) (e.dq n)⟩
/-- one name more, and nothing else -/
def NO (w w' : eW) (mm : Int) : Prop := ∀ c k, ¬ (((341 ≤ c ∧ c ≤ 344) ∧ k = mm) ∨ (c = 275 ∧ k = 94)) → w' c k = w c k
theorem NO.p8 {w w' : eW} {mm : Int} (h : NO w w' mm) : p8E w w' := fun c k g1 g2 => h c k (by omega)
theorem NM.note {w w' : eW} {N n mm : Int} (h : NM w N n mm) (ho : NO w w' mm) (hv : nmO w' N n mm) : NM w' N n (mm + 1) := by
  have e : ∀ c m, 341 ≤ c → c ≤ 344 → m ≠ mm → w' c m = w c m := fun c m q1 q2 q3 => ho c m (by omega)
  have e8 : ∀ p, w' 328 p = w 328 p := fun p => ho 328 p (by omega)
  have e9 : ∀ p, w' 329 p = w 329 p := fun p => ho 329 p (by omega)
  refine ⟨fun m g1 g2 => ?_, fun p g1 g2 => ?_⟩
  · by_cases c : m = mm
    · subst c
      exact hv
    · unfold nmO
      rw [e 341 m (by decide) (by decide) c, e 342 m (by decide) (by decide) c, e 343 m (by decide) (by decide) c, e 344 m (by decide) (by decide) c]
      exact h.1 m g1 (by omega)
  · obtain ⟨q1, q2, q3⟩ := h.2 p g1 g2
    unfold NMp
    rw [e8, e9]
    refine ⟨fun g => ?_, fun g => ?_, fun g => (q3 g).imp id (fun ⟨m, m1, m2, m3⟩ => ⟨m, m1, by omega, by rw [e 341 m (by decide) (by decide) (by omega)]; exact m3⟩)⟩
    · obtain ⟨m, m1, m2, m3, m4⟩ := q1 g
      exact ⟨m, m1, by omega, by rw [e 341 m (by decide) (by decide) (by omega)]; exact m3, by rw [e 344 m (by decide) (by decide) (by omega)]; exact m4⟩
    · obtain ⟨m, m1, m2, m3, m4⟩ := q2 g
      exact ⟨m, m1, by omega, by rw [e 341 m (by decide) (by decide) (by omega)]; exact m3, by rw [e 344 m (by decide) (by decide) (by omega)]; exact m4⟩
theorem GI.note {w w' : eW} {N n mm nt nw s o : Int} {P P' OW : Int → Prop} {b : Prop} (h : GI w N n mm nt nw P s OW o b) (ho : NO w w' mm) (hv : nmO w' N n mm) (h1 : w' 341 mm = 1 → tgS w' n s b (w' 344 mm) (-1)) (hP : ∀ p, 0 ≤ p → (P' p ↔ P p)) (hP2 : ∀ p, p < 0 → P p → P' p) (h2 : w' 341 mm = 2 ∨ w' 341 mm = 3 → P' (-2 - 2 * mm)) : GI w' N n (mm + 1) nt nw P' s OW o b := by
  have e := ho.p8
  refine h.grow e.tb (Int.le_refl n) (by omega) (fun k _ _ => e _ _ (by decide) (by decide)) (fun k _ _ => e _ _ (by decide) (by decide)) (fun k _ _ _ => e _ _ (by decide) (by decide)) ((h.1.1.p8 e).cg hP) (h.1.2.note ho hv) (fun z => ⟨fun g => by omega, fun _ => z⟩) (fun p g1 g2 => by omega) (fun m g1 g2 g => ⟨by rw [← ho 341 m (by omega)]; exact g, ho 344 m (by omega)⟩) (fun m g1 g2 g => ?_) (fun m g1 g2 g => ?_)
  · have em : m = mm := by omega
    subst em
    exact h1 g
  · by_cases c : m < mm
    · rw [ho 341 m (by omega)] at g
      exact (h.2.2.2.2.2.2.2.2.2.2 m g1 c g).imp (hP2 _ (by omega)) (fun z => z.eq (ho 341 m (by omega)) (ho 344 m (by omega)) (fun k _ _ => e _ _ (by decide) (by decide)) (Int.le_refl n))
    · have em : m = mm := by omega
      subst em
      exact Or.inl (h2 g)
theorem GA.note {w w' : eW} {N n mm nt nw s o : Int} {P OW : Int → Prop} (h : GA w N n mm nt nw P s OW o) (ho : NO w w' mm) (hv : nmO w' N n mm) (h1 : w' 341 mm ≠ 1) (h0 : 0 ≤ mm) : GA w' N n (mm + 1) nt nw (fun p => P p ∨ p = -2 - 2 * mm) s OW o := by
  have hP : ∀ p, 0 ≤ p → ((P p ∨ p = -2 - 2 * mm) ↔ P p) := fun p g => ⟨fun z => z.resolve_right (by omega), Or.inl⟩
  exact ⟨h.1.note ho hv (fun g => absurd g h1) hP (fun p _ z => Or.inl z) (fun _ => Or.inr rfl), by rw [ho.p8.dq]; exact h.2.1, fun q => ((h.2.2 q).p8 ho.p8).cg hP⟩
theorem GA.note4 {w w' : eW} {N n mm nt nw s o : Int} {P OW : Int → Prop} (h : GA w N n mm nt nw P s OW o) (ho : NO w w' mm) (hv : nmO w' N n mm) (h1 : w' 341 mm = 4) : GA w' N n (mm + 1) nt nw P s OW o :=
  ⟨h.1.note ho hv (fun g => by omega) (fun _ _ => Iff.rfl) (fun _ _ z => z) (fun g => by omega), by rw [ho.p8.dq]; exact h.2.1, fun q => (h.2.2 q).p8 ho.p8⟩
theorem GB.note {w w' : eW} {N n mm nt nw s o : Int} {P OW : Int → Prop} (h : GB w N n mm nt nw P s OW o) (ho : NO w w' mm) (hv : nmO w' N n mm) (h1 : w' 341 mm = 0 ∨ (w' 341 mm = 1 ∧ w' 344 mm = n ∧ s = -1)) : GB w' N n (mm + 1) nt nw P s OW o := by
  refine ⟨h.1.note ho hv (fun g => ?_) (fun _ _ => Iff.rfl) (fun _ _ z => z) (fun g => by omega), by rw [ho.p8.dq]; exact h.2.1, fun q z => (h.2.2 q z).p8 ho.p8⟩
  obtain ⟨y1, y2⟩ := (h1.resolve_left (by omega)).2
  have hn : 0 ≤ n := h.1.2.2.2.2.2.1.2.1
  rw [y1]
  exact ⟨⟨hn, Int.le_refl n⟩, by rw [ho.p8.dq]; exact h.2.1, fun z => by omega, fun _ => ⟨trivial, y2⟩⟩
/-- a statement that ends with a name: call, run, watch -/
theorem GS.call {w w1 w' : eW} {N n mm nt nw s o d q ta te : Int} {P OW : Int → Prop} (h : GS w N n mm nt nw P s OW o d) (he : EM w w1 n q 0 s) (hq : q = 38 ∨ q = 39 ∨ q = 44) (hw : iOw d q 0) (hv : w' 341 mm = 3 ∧ w' 342 mm = ta ∧ w' 343 mm = te - ta ∧ w' 344 mm = n) (ho : NO w1 w' mm) (ht : 0 ≤ ta ∧ ta ≤ te ∧ te ≤ N) (hN : N ≤ 4000) : GB w' N (n + 1) (mm + 1) nt nw P s OW o := by
  obtain ⟨g1, ⟨g2, g3⟩, g4⟩ := h
  have hn : 0 ≤ n := g1.2.2.2.2.2.1.2.1
  have hm : 0 ≤ mm := g1.2.2.2.2.2.1.2.2.2.2
  have hs : sgO q = 1 := sg_op (by omega)
  have nj : ¬ iJp q := by unfold iJp; omega
  have e := ho.p8
  have hP := (g1.1.1.em (g4 q hs) he hn (by rw [g2]; exact hw) (fun p _ g => g) (fun p _ g => g) (fun _ => ⟨to_not he.2.1 nj, fun k _ _ => go_not he.2.1 nj⟩)).p8 e
  have f8 : ∀ c k, 328 ≤ c → c ≤ 330 → k < n → w' c (k + 40000) = w c (k + 40000) := fun c k c1 c2 g => (e c _ c1 (by omega)).trans (he.1 c _ (by omega))
  refine ⟨g1.grow (fun c k z1 z2 => (e c k (by omega) z2).trans (he.1 c k (by omega))) (by omega) (by omega) (fun k _ g => f8 328 k (by decide) (by decide) g) (fun k _ g => f8 330 k (by decide) (by decide) g) (fun k _ g _ => f8 329 k (by decide) (by decide) g) hP (g1.1.2.name he hn hm hv ho ht hN (Or.inr ⟨rfl, hq⟩)) (fun z => z.elim) (fun p z1 z2 => ?_) (fun m z1 z2 z => ⟨by rw [← he.1 341 m (by omega), ← ho 341 m (by omega)]; exact z, (ho 344 m (by omega)).trans (he.1 344 m (by omega))⟩) (fun m z1 z2 z => ?_) (fun m z1 z2 z => ?_), by rw [e.dq, he.dq1 hn, nxD_no (by omega)], fun q' g => (RQ.em (o' := q') (s' := s) g1.1.1 he hn (fun p _ g => g) (fun p _ g => g) ?_ (fun _ => go_not he.2.1 nj)).p8 e⟩
  · have ep : p = n := by omega
    subst ep
    unfold plO
    rw [e 328 _ (by decide) (by decide), e 330 _ (by decide) (by decide), he.2.1, he.2.2.2.1]
    exact ⟨g1.2.2.2.2.2.1.1, Or.inl (anc.refl w' s), fun g => by omega, fun g => by omega⟩
  · have em : m = mm := by omega
    subst em
    rw [hv.1] at z
    exact absurd z (by decide)
  · by_cases c : m < mm
    · have k1 : w' 341 m = w 341 m := (ho 341 m (by omega)).trans (he.1 341 m (by omega))
      rw [k1] at z
      exact (g1.2.2.2.2.2.2.2.2.2.2 m z1 c z).imp id (fun y => y.eq k1 ((ho 344 m (by omega)).trans (he.1 344 m (by omega))) (fun k _ g => f8 328 k (by decide) (by decide) g) (by omega))
    · have em : m = mm := by omega
      subst em
      right
      unfold nmK
      rw [hv.1, hv.2.2.2, e 328 _ (by decide) (by decide), he.2.1]
      exact ⟨by omega, fun y => by omega, fun _ => hq⟩
  · unfold iNx
    rw [he.2.1, he.2.2.2.1]
    exact ⟨fun z => by omega, fun _ => ⟨g, rfl⟩, fun z => by omega⟩
/-- a number is kept under a name -/
theorem GS.store {w w1 w' : eW} {N n mm nt nw s o j : Int} {P OW : Int → Prop} (h : GS w N n mm nt nw (fun p => P p ∨ p = -2 - 2 * j) s OW o 1) (he : EM w w1 n 31 0 s) (hw : e_up w1 344 j n = w') (hj : 0 ≤ j ∧ j < mm) (h1 : w 341 j = 2) (h4 : w 344 j = 0) : GB w' N (n + 1) mm nt nw P s OW o := by
  obtain ⟨g1, ⟨g2, g3⟩, g4⟩ := h
  have hn : 0 ≤ n := g1.2.2.2.2.2.1.2.1
  have nj : ¬ iJp 31 := by unfold iJp; omega
  have hPP : ∀ p, 0 ≤ p → (P p ↔ (P p ∨ p = -2 - 2 * j)) := fun p g => ⟨Or.inl, fun z => z.resolve_right (by omega)⟩
  have x4 : ∀ c k, c ≠ 344 → w' c k = w1 c k := fun c k g => by rw [← hw]; exact e_up_ne _ _ (Or.inl g)
  have e : p8E w1 w' := fun c k z1 z2 => x4 c k (by omega)
  have xm : ∀ m, m ≠ j → w' 344 m = w 344 m := fun m g => by rw [← hw, e_up_ne _ _ (Or.inr g)]; exact he.1 344 m (by omega)
  have xj : w' 344 j = n := by rw [← hw]; exact e_up_eq _ _ _ _
  have xk : ∀ c m, 341 ≤ c → c ≤ 343 → w' c m = w c m := fun c m z1 z2 => (x4 c m (by omega)).trans (he.1 c m (by omega))
  have hP := ((g1.1.1.em (g4 31 (sg_op (by omega))) he hn (by rw [g2]; unfold iOw; omega) (fun p _ g => g) (fun p _ g => g) (fun _ => ⟨to_not he.2.1 nj, fun k _ _ => go_not he.2.1 nj⟩)).p8 e).cg hPP
  have f8 : ∀ c k, 328 ≤ c → c ≤ 330 → k < n → w' c (k + 40000) = w c (k + 40000) := fun c k c1 c2 g => (e c _ c1 (by omega)).trans (he.1 c _ (by omega))
  have z0 : ∀ p, 0 ≤ p → p < n → sgO (w 328 (p + 40000)) = 1 → ∀ m, w 344 m = p → m ≠ j := fun p p1 p2 p3 m p4 c => by
    rw [c, h4] at p4
    subst p4
    have := g1.2.2.2.2.2.2.2.2.1 (by omega)
    rw [show (0 : Int) + 40000 = 40000 by decide, this] at p3
    exact absurd p3 (by decide)
  have hN : NM w' N (n + 1) mm := by
    refine ⟨fun m m1 m2 => ?_, fun p p1 p2 => ?_⟩
    · obtain ⟨q1, q2, q3⟩ := g1.1.2.1 m m1 m2
      unfold nmO
      rw [xk 341 m (by decide) (by decide), xk 342 m (by decide) (by decide), xk 343 m (by decide) (by decide)]
      by_cases c : m = j
      · subst c
        rw [xj]
        exact ⟨q1, q2, fun z => by have := q3 z; omega⟩
      · rw [xm m c]
        exact ⟨q1, q2, fun z => by have := q3 z; omega⟩
    · unfold NMp
      by_cases c : p = n
      · subst c
        rw [e 328 _ (by decide) (by decide), he.2.1]
        exact ⟨fun _ => ⟨j, hj.1, hj.2, by rw [xk 341 j (by decide) (by decide)]; exact h1, xj⟩, fun z => by omega, fun z => by omega⟩
      · have pn : p < n := by omega
        obtain ⟨r1, r2, r3⟩ := g1.1.2.2 p p1 pn
        rw [f8 328 p (by decide) (by decide) pn, f8 329 p (by decide) (by decide) pn]
        refine ⟨fun z => ?_, fun z => ?_, fun z => (r3 z).imp id (fun ⟨m, m1, m2, m3⟩ => ⟨m, m1, m2, by rw [xk 341 m (by decide) (by decide)]; exact m3⟩)⟩
        · obtain ⟨m, m1, m2, m3, m4⟩ := r1 z
          exact ⟨m, m1, m2, by rw [xk 341 m (by decide) (by decide)]; exact m3, by rw [xm m (z0 p p1 pn (by unfold sgO; rw [if_pos (by omega)]) m m4)]; exact m4⟩
        · obtain ⟨m, m1, m2, m3, m4⟩ := r2 z
          exact ⟨m, m1, m2, by rw [xk 341 m (by decide) (by decide)]; exact m3, by rw [xm m (z0 p p1 pn (by unfold sgO; rw [if_pos (by omega)]) m m4)]; exact m4⟩
  refine ⟨g1.grow (fun c k z1 z2 => (e c k (by omega) z2).trans (he.1 c k (by omega))) (by omega) (Int.le_refl mm) (fun k _ g => f8 328 k (by decide) (by decide) g) (fun k _ g => f8 330 k (by decide) (by decide) g) (fun k _ g _ => f8 329 k (by decide) (by decide) g) hP hN (fun z => z.elim) (fun p z1 z2 => ?_) (fun m z1 z2 z => ?_) (fun m z1 z2 => by omega) (fun m z1 z2 z => ?_), by rw [e.dq, he.dq1 hn, nxD_no (by decide)], fun q' g => ((RQ.em (o' := q') (s' := s) g1.1.1 he hn (fun p _ g => g) (fun p _ g => g) ?_ (fun _ => go_not he.2.1 nj)).p8 e).cg hPP⟩
  · have ep : p = n := by omega
    subst ep
    unfold plO
    rw [e 328 _ (by decide) (by decide), e 330 _ (by decide) (by decide), he.2.1, he.2.2.2.1]
    exact ⟨g1.2.2.2.2.2.1.1, Or.inl (anc.refl w' s), fun g => by omega, fun g => by omega⟩
  · rw [xk 341 m (by decide) (by decide)] at z
    exact ⟨z, xm m (fun c => by subst c; omega)⟩
  · by_cases c : m = j
    · subst c
      right
      unfold nmK
      rw [xj, xk 341 m (by decide) (by decide), e 328 _ (by decide) (by decide), he.2.1]
      exact ⟨by omega, fun _ => Or.inr rfl, fun y => by omega⟩
    · rw [xk 341 m (by decide) (by decide)] at z
      exact (g1.2.2.2.2.2.2.2.2.2.2 m z1 z2 z).imp (fun y => y.resolve_right (by omega)) (fun y => y.eq (xk 341 m (by decide) (by decide)) (xm m c) (fun k _ g => f8 328 k (by decide) (by decide) g) (by omega))
  · unfold iNx
    rw [he.2.1, he.2.2.2.1]
    exact ⟨fun z => by omega, fun _ => ⟨g, rfl⟩, fun z => by omega⟩
/-- a while begins -/
theorem GI.wb {w w' : eW} {N n mm nt nw s o : Int} {P OW : Int → Prop} {b : Prop} (h : GI w N n mm nt nw P s OW o b) (hv : w' 335 (nw + 3600) = s) (ho : ∀ c k, (328 ≤ c ∧ c ≤ 336) ∨ (341 ≤ c ∧ c ≤ 344) → ¬ (c = 335 ∧ k = nw + 3600) → w' c k = w c k) : GI w' N n mm nt (nw + 1) P s (fun v => OW v ∨ v = nw) o b := by
  obtain ⟨i1, i2, i3, i4, i5, i6, i7, i8, i9, i10, i11⟩ := h
  have x5 : ∀ c k, (328 ≤ c ∧ c ≤ 336) ∨ (341 ≤ c ∧ c ≤ 344) → c ≠ 335 → w' c k = w c k := fun c k z1 z2 => ho c k z1 (fun y => z2 y.1)
  have xv : ∀ v, v ≠ nw → w' 335 (v + 3600) = w 335 (v + 3600) := fun v z => ho 335 _ (by omega) (fun y => by have := y.2; omega)
  have e1 : t1E w w' := fun k => x5 331 k (by omega) (by decide)
  have ed : ∀ p, dp w' p = dp w p := fun p => dp_eq (fun k _ _ => x5 328 _ (by omega) (by decide))
  have en : ∀ r, enR w' r = enR w r := fun r => enR_eq (x5 332 _ (by omega) (by decide)) (x5 333 _ (by omega) (by decide)) (x5 334 _ (by omega) (by decide))
  have hg : ∀ q r, tgS w n s b q r → tgS w' n s b q r := fun q r g => g.to (Int.le_refl n) (fun k _ _ => x5 328 _ (by omega) (by decide)) (fun k _ _ => x5 330 _ (by omega) (by decide)) (fun _ z => ⟨fun y => by omega, fun _ => z⟩)
  have hP : PI w' n nt P := fun p g1 g2 => by
    obtain ⟨j1, j2, j3⟩ := i1.1 p g1 g2
    refine ⟨by rw [ed, x5 328 _ (by omega) (by decide), x5 329 _ (by omega) (by decide)]; exact j1, fun q => by rw [x5 328 _ (by omega) (by decide), x5 330 _ (by omega) (by decide)]; exact (j2 q).eq (Int.le_refl nt) (x5 328 _ (by omega) (by decide)) (x5 330 _ (by omega) (by decide)) (fun t _ _ => x5 331 _ (by omega) (by decide)), fun q => ⟨(j3 q).1.eq (Int.le_refl n) (fun k _ _ => x5 328 _ (by omega) (by decide)) (x5 329 _ (by omega) (by decide)) g1, fun k k1 k2 => by rw [x5 328 _ (by omega) (by decide), x5 330 _ (by omega) (by decide)]; exact ((j3 q).2 k k1 k2).eq (x5 328 _ (by omega) (by decide)) (x5 329 _ (by omega) (by decide)) (x5 330 _ (by omega) (by decide)) (ed p) (ed k)⟩⟩
  have hN : NM w' N n mm := by
    refine ⟨fun m m1 m2 => ?_, fun p p1 p2 => ?_⟩
    · unfold nmO
      rw [x5 341 m (by omega) (by decide), x5 342 m (by omega) (by decide), x5 343 m (by omega) (by decide), x5 344 m (by omega) (by decide)]
      exact i1.2.1 m m1 m2
    · obtain ⟨r1, r2, r3⟩ := i1.2.2 p p1 p2
      unfold NMp
      rw [x5 328 _ (by omega) (by decide), x5 329 _ (by omega) (by decide)]
      refine ⟨fun z => ?_, fun z => ?_, fun z => (r3 z).imp id (fun ⟨m, m1, m2, m3⟩ => ⟨m, m1, m2, by rw [x5 341 m (by omega) (by decide)]; exact m3⟩)⟩
      · obtain ⟨m, m1, m2, m3, m4⟩ := r1 z
        exact ⟨m, m1, m2, by rw [x5 341 m (by omega) (by decide)]; exact m3, by rw [x5 344 m (by omega) (by decide)]; exact m4⟩
      · obtain ⟨m, m1, m2, m3, m4⟩ := r2 z
        exact ⟨m, m1, m2, by rw [x5 341 m (by omega) (by decide)]; exact m3, by rw [x5 344 m (by omega) (by decide)]; exact m4⟩
  refine ⟨⟨hP, hN⟩, fun p g1 g2 => ?_, fun t g1 g2 => ?_, fun v g1 g2 => ?_, fun m g1 g2 g3 => ?_, ⟨i6.1, i6.2.1, i6.2.2.1, by omega, i6.2.2.2.2⟩, ⟨fun r g1 g2 => by rw [piR_t1 e1]; exact i7.1 r g1 g2, by rw [piR_t1 e1]; exact i7.2⟩, fun v z => ?_, fun z => by rw [x5 328 _ (by omega) (by decide)]; exact i9 z, i10, i11.eq (fun m _ _ => x5 _ _ (by omega) (by decide)) (fun m _ _ => x5 _ _ (by omega) (by decide)) (fun k _ _ => x5 _ _ (by omega) (by decide)) (Int.le_refl n) (fun _ _ z => z)⟩
  · obtain ⟨q1, q2, q3, q4⟩ := i2 p g1 g2
    unfold plO
    rw [x5 328 _ (by omega) (by decide), x5 329 _ (by omega) (by decide), x5 330 _ (by omega) (by decide), anc_t1 e1, en]
    refine ⟨q1, q2, fun g => (q3 g).imp id (fun ⟨r1, r2, r3⟩ => ⟨by omega, ?_, r3.imp Or.inl (fun ⟨y1, y2⟩ => ?_)⟩), q4⟩
    · rw [anc_t1 e1, xv _ (by omega)]
      exact r2
    · unfold brO
      rw [x5 336 _ (by omega) (by decide), xv _ (by omega)]
      refine ⟨y1, fun r z1 z2 z3 => ?_⟩
      rw [anc_t1 e1] at z1 z2
      rw [cls_t1 e1, x5 334 _ (by omega) (by decide)]
      exact y2 r z1 z2 z3
  · obtain ⟨q1, q2, q3, q4, q5⟩ := i3 t g1 g2
    unfold tyO
    rw [x5 331 _ (by omega) (by decide), x5 332 _ (by omega) (by decide), x5 333 _ (by omega) (by decide), x5 334 _ (by omega) (by decide), cls_t1 e1, anc_t1 e1, en]
    exact ⟨q1, q2.imp id (hg _ _), q3.imp id (hg _ _), q4, fun g => ⟨hg _ _ (q5 g).1, (q5 g).2⟩⟩
  · unfold whO
    by_cases c : v = nw
    · subst c
      rw [hv]
      exact ⟨i6.1, fun _ => anc.refl w' s, fun z => absurd (Or.inr rfl) z⟩
    · obtain ⟨q1, q2, q3⟩ := i4 v g1 (by omega)
      rw [xv v c, x5 336 _ (by omega) (by decide), anc_t1 e1]
      exact ⟨q1, fun z => q2 (z.resolve_right c), fun z => hg _ _ (q3 (fun y => z (Or.inl y)))⟩
  · rw [x5 341 _ (by omega) (by decide)] at g3
    rw [x5 344 _ (by omega) (by decide)]
    exact hg _ _ (i5 m g1 g2 g3)
  · rcases z with z | z
    · have := i8 v z
      omega
    · have := i6.2.2.2.1
      omega
theorem GB.wb {w w' : eW} {N n mm nt nw s o : Int} {P OW : Int → Prop} (h : GB w N n mm nt nw P s OW o) (hv : w' 335 (nw + 3600) = s) (ho : ∀ c k, (328 ≤ c ∧ c ≤ 336) ∨ (341 ≤ c ∧ c ≤ 344) → ¬ (c = 335 ∧ k = nw + 3600) → w' c k = w c k) : GB w' N n mm nt (nw + 1) P s (fun v => OW v ∨ v = nw) o := by
  have x5 : ∀ c k, 328 ≤ c → c ≤ 331 → w' c k = w c k := fun c k z1 z2 => ho c k (by omega) (fun y => by have := y.1; omega)
  have ed : ∀ p, dp w' p = dp w p := fun p => dp_eq (fun k _ _ => x5 328 _ (by decide) (by decide))
  exact ⟨h.1.wb hv ho, by rw [ed]; exact h.2.1, fun q z => fun p g1 g2 => ⟨fun y => ((h.2.2 q z p g1 g2).1 y).eq (Int.le_refl nt) (x5 328 _ (by decide) (by decide)) (x5 330 _ (by decide) (by decide)) (fun t _ _ => x5 331 _ (by decide) (by decide)), fun y => ((h.2.2 q z p g1 g2).2 y).eq (x5 328 _ (by decide) (by decide)) (x5 329 _ (by decide) (by decide)) (x5 330 _ (by decide) (by decide)) (ed p) (ed n)⟩⟩
end
end
-- part b7
section
noncomputable section
/-! statements: the ends of whiles; tries -/
def c3E (w w' : eW) : Prop := ∀ c k, (328 ≤ c ∧ c ≤ 330) ∨ (341 ≤ c ∧ c ≤ 344) → w' c k = w c k
theorem c3E.dq {w w' : eW} (h : c3E w w') (p : Int) : dp w' p = dp w p := dp_eq (fun k _ _ => h 328 _ (by omega))
theorem PI.c3 {w w' : eW} {n nt nt' : Int} {P : Int → Prop} (h : PI w n nt P) (e : c3E w w') (e1 : ∀ t, 0 ≤ t → t < nt → w' 331 (t + 3600) = w 331 (t + 3600)) (hn : nt ≤ nt') : PI w' n nt' P := fun p g1 g2 => by
  obtain ⟨i1, i2, i3⟩ := h p g1 g2
  refine ⟨by rw [e.dq, e 328 _ (by omega), e 329 _ (by omega)]; exact i1, fun q => by rw [e 328 _ (by omega), e 330 _ (by omega)]; exact (i2 q).eq hn (e 328 _ (by omega)) (e 330 _ (by omega)) e1, fun q => ⟨(i3 q).1.eq (Int.le_refl n) (fun k _ _ => e 328 _ (by omega)) (e 329 _ (by omega)) g1, fun k k1 k2 => by rw [e 328 _ (by omega), e 330 _ (by omega)]; exact ((i3 q).2 k k1 k2).eq (e 328 _ (by omega)) (e 329 _ (by omega)) (e 330 _ (by omega)) (e.dq p) (e.dq k)⟩⟩
theorem RQ.c3 {w w' : eW} {n nt nt' o s : Int} {P : Int → Prop} (h : RQ w n nt P o s) (e : c3E w w') (e1 : ∀ t, 0 ≤ t → t < nt → w' 331 (t + 3600) = w 331 (t + 3600)) (hn : nt ≤ nt') : RQ w' n nt' P o s := fun p g1 g2 =>
  ⟨fun q => ((h p g1 g2).1 q).eq hn (e 328 _ (by omega)) (e 330 _ (by omega)) e1, fun q => ((h p g1 g2).2 q).eq (e 328 _ (by omega)) (e 329 _ (by omega)) (e 330 _ (by omega)) (e.dq p) (e.dq n)⟩
theorem NM.c3 {w w' : eW} {N n mm : Int} (h : NM w N n mm) (e : c3E w w') : NM w' N n mm := by
  refine ⟨fun m g1 g2 => ?_, fun p g1 g2 => ?_⟩
  · unfold nmO
    rw [e 341 m (by omega), e 342 m (by omega), e 343 m (by omega), e 344 m (by omega)]
    exact h.1 m g1 g2
  · obtain ⟨q1, q2, q3⟩ := h.2 p g1 g2
    unfold NMp
    rw [e 328 _ (by omega), e 329 _ (by omega)]
    refine ⟨fun g => ?_, fun g => ?_, fun g => (q3 g).imp id (fun ⟨m, m1, m2, m3⟩ => ⟨m, m1, m2, by rw [e 341 m (by omega)]; exact m3⟩)⟩
    · obtain ⟨m, m1, m2, m3, m4⟩ := q1 g
      exact ⟨m, m1, m2, by rw [e 341 m (by omega)]; exact m3, by rw [e 344 m (by omega)]; exact m4⟩
    · obtain ⟨m, m1, m2, m3, m4⟩ := q2 g
      exact ⟨m, m1, m2, by rw [e 341 m (by omega)]; exact m3, by rw [e 344 m (by omega)]; exact m4⟩
/-- a while ends -/
theorem GB.we {w w' : eW} {N n mm nt nw s o j : Int} {P OW : Int → Prop} (h : GB w N n mm nt nw P s (fun v => OW v ∨ v = j) o) (hj : w 335 (j + 3600) = s) (hO : ¬ OW j) (hv : w' 336 (j + 3600) = n) (ho : ∀ c k, (328 ≤ c ∧ c ≤ 336) ∨ (341 ≤ c ∧ c ≤ 344) → ¬ (c = 336 ∧ k = j + 3600) → w' c k = w c k) : GB w' N n mm nt nw P s OW o := by
  obtain ⟨h0, hd, hr⟩ := h
  have hti := h0.ti
  obtain ⟨i1, i2, i3, i4, i5, i6, i7, i8, i9, i10, i11⟩ := h0
  have e3 : c3E w w' := fun c k z => ho c k (by omega) (fun y => by have := y.1; omega)
  have x6 : ∀ c k, 331 ≤ c → c ≤ 335 → w' c k = w c k := fun c k z1 z2 => ho c k (by omega) (fun y => by have := y.1; omega)
  have xv : ∀ v, v ≠ j → w' 336 (v + 3600) = w 336 (v + 3600) := fun v z => ho 336 _ (by omega) (fun y => by have := y.2; omega)
  have e1 : t1E w w' := fun k => x6 331 k (by decide) (by decide)
  have en : ∀ r, enR w' r = enR w r := fun r => enR_eq (x6 332 _ (by decide) (by decide)) (x6 333 _ (by decide) (by decide)) (x6 334 _ (by decide) (by decide))
  have hg : ∀ q r, tgS w n s True q r → tgS w' n s True q r := fun q r g => g.to (Int.le_refl n) (fun k _ _ => e3 328 _ (by omega)) (fun k _ _ => e3 330 _ (by omega)) (fun _ z => ⟨fun y => by omega, fun _ => z⟩)
  -- a try between a region and the while's is over
  have hcl : ∀ R r, -1 ≤ R → R < 3 * nt → anc w R r → anc w r s → r ≠ s → clsT w s (r / 3) ∧ w 334 (r / 3 + 3600) ≤ n := fun R r z1 z2 z3 z4 z5 => by
    have hr1 := anc.le hti z1 z2 z3
    have hr0 : 0 ≤ r := by
      by_cases c : 0 ≤ r
      · exact c
      · have e : r = -1 := by omega
        subst e
        exact absurd z4.neg.symm z5
    have hp := z4.or.resolve_left z5
    have hl := par_lt hti hr0 (by omega)
    have hq := anc.le hti hl.1 (by omega) hp
    have hc : clsT w s (r / 3) := fun i k1 k2 a => by
      have := anc.le hti i6.1.1 i6.1.2 a
      omega
    exact ⟨hc, ((i3 (r / 3) (by omega) (by omega)).2.2.2.2 hc).1.1.2⟩
  refine ⟨⟨⟨i1.1.c3 e3 (fun t _ _ => x6 331 _ (by decide) (by decide)) (Int.le_refl nt), i1.2.c3 e3⟩, fun p g1 g2 => ?_, fun t g1 g2 => ?_, fun v g1 g2 => ?_, fun m g1 g2 g3 => ?_, i6, ⟨fun r g1 g2 => by rw [piR_t1 e1]; exact i7.1 r g1 g2, by rw [piR_t1 e1]; exact i7.2⟩, fun v z => i8 v (Or.inl z), fun z => by rw [e3 328 _ (by omega)]; exact i9 z, i10, i11.eq (fun m _ _ => e3 _ _ (by omega)) (fun m _ _ => e3 _ _ (by omega)) (fun k _ _ => e3 _ _ (by omega)) (Int.le_refl n) (fun _ _ z => z)⟩, by rw [e3.dq]; exact hd, fun q z => (hr q z).c3 e3 (fun t _ _ => x6 331 _ (by decide) (by decide)) (Int.le_refl nt)⟩
  · obtain ⟨q1, q2, q3, q4⟩ := i2 p g1 g2
    unfold plO
    rw [e3 328 _ (by omega), e3 329 _ (by omega), e3 330 _ (by omega), anc_t1 e1, en]
    refine ⟨q1, q2, fun g => (q3 g).imp id (fun ⟨r1, r2, r3⟩ => ⟨r1, ?_, ?_⟩), q4⟩
    · rw [anc_t1 e1, x6 335 _ (by decide) (by decide)]
      exact r2
    · by_cases c : w 329 (p + 40000) = j
      · right
        unfold brO
        rw [c, hv, x6 335 _ (by decide) (by decide), hj]
        refine ⟨g2, fun r z1 z2 z3 => ?_⟩
        rw [anc_t1 e1] at z1 z2
        rw [cls_t1 e1, x6 334 _ (by decide) (by decide)]
        exact hcl _ r q1.1 q1.2 z1 z2 z3
      · refine r3.imp (fun z => z.resolve_right c) (fun ⟨y1, y2⟩ => ?_)
        unfold brO
        rw [xv _ c, x6 335 _ (by decide) (by decide)]
        refine ⟨y1, fun r z1 z2 z3 => ?_⟩
        rw [anc_t1 e1] at z1 z2
        rw [cls_t1 e1, x6 334 _ (by decide) (by decide)]
        exact y2 r z1 z2 z3
  · obtain ⟨q1, q2, q3, q4, q5⟩ := i3 t g1 g2
    unfold tyO
    rw [x6 331 _ (by decide) (by decide), x6 332 _ (by decide) (by decide), x6 333 _ (by decide) (by decide), x6 334 _ (by decide) (by decide), cls_t1 e1, anc_t1 e1, en]
    exact ⟨q1, q2.imp id (hg _ _), q3.imp id (hg _ _), q4, fun g => ⟨hg _ _ (q5 g).1, (q5 g).2⟩⟩
  · obtain ⟨q1, q2, q3⟩ := i4 v g1 g2
    unfold whO
    rw [x6 335 _ (by decide) (by decide), anc_t1 e1]
    refine ⟨q1, fun z => q2 (Or.inl z), fun z => ?_⟩
    by_cases c : v = j
    · subst c
      rw [hv, hj]
      exact ⟨⟨i6.2.1, Int.le_refl n⟩, by rw [e3.dq]; exact hd, fun y => by omega, fun _ => ⟨trivial, rfl⟩⟩
    · rw [xv v c]
      exact hg _ _ (q3 (fun y => y.elim z c))
  · rw [e3 341 _ (by omega)] at g3
    rw [e3 344 _ (by omega)]
    exact hg _ _ (i5 m g1 g2 g3)
/-- a try begins -/
theorem GA.tb {w w' : eW} {N n mm nt nw s o o' : Int} {P OW : Int → Prop} (h : GA w N n mm nt nw P s OW o) (hl : 0 < n ∧ w 328 (n - 1 + 40000) = 30 ∧ w 330 (n - 1 + 40000) = s) (hv : w' 331 (nt + 3600) = s ∧ w' 332 (nt + 3600) = -1 ∧ w' 333 (nt + 3600) = -1) (ho : ∀ c k, (328 ≤ c ∧ c ≤ 336) ∨ (341 ≤ c ∧ c ≤ 344) → ¬ ((331 ≤ c ∧ c ≤ 333) ∧ k = nt + 3600) → w' c k = w c k) (hoo : o + 1 ≤ o' ∧ o' ≤ 30) : GB w' N n mm (nt + 1) nw P (3 * nt) OW o' := by
  obtain ⟨h0, hd, hr⟩ := h
  have hti := h0.ti
  obtain ⟨i1, i2, i3, i4, i5, i6, i7, i8, i9, i10, i11⟩ := h0
  have hnt := i6.2.2.1
  have e3 : c3E w w' := fun c k z => ho c k (by omega) (fun y => by have := y.1; omega)
  have x4 : ∀ c k, 334 ≤ c → c ≤ 336 → w' c k = w c k := fun c k z1 z2 => ho c k (by omega) (fun y => by have := y.1; omega)
  have xt : ∀ c t, 331 ≤ c → c ≤ 333 → t < nt → w' c (t + 3600) = w c (t + 3600) := fun c t z1 z2 z3 => ho c _ (by omega) (fun y => by have := y.2; omega)
  have et : ∀ t, 0 ≤ t → t < nt → w' 331 (t + 3600) = w 331 (t + 3600) := fun t _ z => xt 331 t (by decide) (by decide) z
  have hti' : TI w' (nt + 1) := fun t z1 z2 => by
    by_cases c : t = nt
    · subst c
      rw [hv.1]
      omega
    · rw [et t z1 (by omega)]
      exact hti t z1 (by omega)
  have ea : ∀ r q, -1 ≤ r → r < 3 * nt → (anc w' r q ↔ anc w r q) := fun r q z1 z2 => anc.eq hti et z1 z2
  have en : ∀ r, r < 3 * nt → enR w' r = enR w r := fun r z => enR_eq (xt 332 (r / 3) (by decide) (by decide) (by omega)) (xt 333 (r / 3) (by decide) (by decide) (by omega)) (x4 334 _ (by decide) (by decide))
  have es : ∀ q, anc w' (3 * nt) q ↔ q = 3 * nt ∨ anc w s q := fun q => by
    have := anc.of3 (w := w') (t := nt) (i := 0) (q := q) hnt (by decide) (by decide)
    rw [show 3 * nt + 0 = 3 * nt by omega, hv.1, ea s q i6.1.1 i6.1.2] at this
    exact this
  have hcl : ∀ t, t < nt → (clsT w' (3 * nt) t ↔ clsT w s t) := fun t z => ⟨fun h i k1 k2 a => h i k1 k2 ((es _).2 (Or.inr a)), fun h i k1 k2 a => ((es _).1 a).elim (fun y => by omega) (fun y => h i k1 k2 y)⟩
  have hg : ∀ q r, tgS w n s False q r → tgS w' n (3 * nt) True q r := fun q r g => ⟨g.1, by rw [e3.dq]; exact g.2.1, fun z => by rw [e3 328 _ (by omega), e3 330 _ (by omega)]; exact g.2.2.1 z, fun z => (g.2.2.2 z).1.elim⟩
  have hsp := i7.2
  refine ⟨⟨⟨i1.1.c3 e3 et (by omega), i1.2.c3 e3⟩, fun p g1 g2 => ?_, fun t g1 g2 => ?_, fun v g1 g2 => ?_, fun m g1 g2 g3 => ?_, ⟨⟨by omega, by omega⟩, i6.2.1, by omega, i6.2.2.2.1, i6.2.2.2.2⟩, ⟨fun r g1 g2 => ?_, ?_⟩, i8, fun z => by rw [e3 328 _ (by omega)]; exact i9 z, fun z => by omega, i11.eq (fun m _ _ => e3 _ _ (by omega)) (fun m _ _ => e3 _ _ (by omega)) (fun k _ _ => e3 _ _ (by omega)) (Int.le_refl n) (fun _ _ z => z)⟩, by rw [e3.dq]; exact hd, fun q z => fun p p1 p2 => ⟨fun y => ?_, fun y => ?_⟩⟩
  · obtain ⟨q1, q2, q3, q4⟩ := i2 p g1 g2
    unfold plO
    rw [e3 328 _ (by omega), e3 329 _ (by omega), e3 330 _ (by omega), en _ q1.2]
    refine ⟨⟨q1.1, by omega⟩, q2.imp (fun z => (es _).2 (Or.inr z)) id, fun g => (q3 g).imp id (fun ⟨r1, r2, r3⟩ => ⟨r1, ?_, r3.imp id (fun ⟨y1, y2⟩ => ?_)⟩), fun g => by have := q4 g; omega⟩
    · rw [x4 335 _ (by decide) (by decide)]
      exact (ea _ _ q1.1 q1.2).2 r2
    · unfold brO
      rw [x4 336 _ (by decide) (by decide), x4 335 _ (by decide) (by decide)]
      refine ⟨y1, fun r z1 z2 z3 => ?_⟩
      have z1' := (ea _ _ q1.1 q1.2).1 z1
      have hr1 := anc.le hti q1.1 q1.2 z1'
      rw [x4 334 _ (by decide) (by decide)]
      have := y2 r z1' ((ea _ _ hr1.1 (by omega)).1 z2) z3
      exact ⟨(hcl _ (by omega)).2 this.1, this.2⟩
  · unfold tyO
    by_cases c : t = nt
    · subst c
      rw [hv.1, hv.2.1, hv.2.2]
      exact ⟨⟨i6.1.1, i6.1.2⟩, Or.inl (by decide), Or.inl (by decide), Or.inl (by decide), fun z => absurd (anc.refl w' (3 * t)) (by have := z 0 (by decide) (by decide); rw [show 3 * t + 0 = 3 * t by omega] at this; exact this)⟩
    · have tn : t < nt := by omega
      obtain ⟨q1, q2, q3, q4, q5⟩ := i3 t g1 tn
      rw [xt 331 t (by decide) (by decide) tn, xt 332 t (by decide) (by decide) tn, xt 333 t (by decide) (by decide) tn, x4 334 _ (by decide) (by decide), en (w 331 (t + 3600)) (by omega)]
      refine ⟨q1, q2.imp id (hg _ _), q3.imp id (hg _ _), q4, fun g => ?_⟩
      obtain ⟨y1, y2, y3⟩ := q5 ((hcl t tn).1 g)
      exact ⟨hg _ _ y1, y2, y3.imp (fun z => (es _).2 (Or.inr z)) id⟩
  · obtain ⟨q1, q2, q3⟩ := i4 v g1 g2
    unfold whO
    rw [x4 335 _ (by decide) (by decide), x4 336 _ (by decide) (by decide)]
    exact ⟨⟨q1.1, by omega⟩, fun z => (es _).2 (Or.inr (q2 z)), fun z => hg _ _ (q3 z)⟩
  · rw [e3 341 _ (by omega)] at g3
    rw [e3 344 _ (by omega)]
    exact hg _ _ (i5 m g1 g2 g3)
  · by_cases c : r < 3 * nt
    · rw [piR_eq hti et g1 c]
      exact i7.1 r g1 c
    · rw [piR_step hti' (by omega) g2, show r / 3 = nt by omega, hv.1, piR_eq hti et i6.1.1 i6.1.2]
      by_cases c2 : r % 3 = 2
      · rw [if_pos c2]; omega
      · rw [if_neg c2]; omega
  · rw [piR_step (r := 3 * nt) hti' (by omega) (by omega), show 3 * nt / 3 = nt by omega, hv.1, piR_eq hti et i6.1.1 i6.1.2, if_neg (by omega)]
    omega
  · have ep : p = n - 1 := by omega
    subst ep
    unfold iNx
    rw [e3 328 _ (by omega), e3 330 _ (by omega), hl.2.1, hl.2.2]
    exact ⟨fun z => by omega, fun z => by omega, fun _ => Or.inr ⟨nt, hnt, by omega, rfl, hv.1⟩⟩
  · intro y2
    rw [e3 329 _ (by omega)] at y2
    rw [e3 328 _ (by omega)]
    have ht := ((i1.1 p p1 p2).2.2 y).1
    have ra := (hr 30 p p1 p2).2 y y2
    have rb := (hr 1 p p1 p2).2 y y2
    refine ⟨fun z => ?_, fun z => ?_, fun z => ?_⟩
    · exact absurd (ra.1 z).2.1 (by decide)
    · have := ht.2.1 z
      omega
    · exact absurd (rb.2.2 z).2.1 (by decide)
end
end
-- part b8
section
noncomputable section
/-! statements: the parts of a try -/
theorem enR_0 (w : eW) (t : Int) : enR w (3 * t) = if 0 ≤ w 332 (t + 3600) then w 332 (t + 3600) else if 0 ≤ w 333 (t + 3600) then w 333 (t + 3600) else w 334 (t + 3600) := by
  unfold enR
  rw [show 3 * t % 3 = 0 by omega, show 3 * t / 3 = t by omega]
  by_cases c : 0 ≤ w 332 (t + 3600)
  · rw [if_pos c, if_pos ⟨rfl, c⟩]
  · rw [if_neg c, if_neg (fun z => c z.2)]
    by_cases c2 : 0 ≤ w 333 (t + 3600)
    · rw [if_pos c2, if_pos ⟨by decide, c2⟩]
    · rw [if_neg c2, if_neg (fun z => c2 z.2)]
theorem enR_1 (w : eW) (t : Int) : enR w (3 * t + 1) = if 0 ≤ w 333 (t + 3600) then w 333 (t + 3600) else w 334 (t + 3600) := by
  unfold enR
  rw [show (3 * t + 1) % 3 = 1 by omega, show (3 * t + 1) / 3 = t by omega]
  rw [if_neg (fun z => absurd z.1 (by decide))]
  by_cases c2 : 0 ≤ w 333 (t + 3600)
  · rw [if_pos c2, if_pos ⟨by decide, c2⟩]
  · rw [if_neg c2, if_neg (fun z => c2 z.2)]
theorem enR_2 (w : eW) (t : Int) : enR w (3 * t + 2) = w 334 (t + 3600) := by
  unfold enR
  rw [show (3 * t + 2) % 3 = 2 by omega, show (3 * t + 2) / 3 = t by omega]
  rw [if_neg (fun z => absurd z.1 (by decide)), if_neg (fun z => absurd z.1 (by decide))]
/-- from the part s1 of the try t to another part, or out of it (s2), where the place n is noted in the cell g -/
theorem GZ.turn {w w' : eW} {N n mm nt nw s1 s2 o t i1 g : Int} {P OW : Int → Prop} (h : GZ w N n mm nt nw P s1 OW o) (ht : 0 ≤ t ∧ t < nt) (hs1 : s1 = 3 * t + i1) (hi1 : 0 ≤ i1 ∧ i1 ≤ 2) (hs2 : s2 = w 331 (t + 3600) ∨ ((∃ i, 0 ≤ i ∧ i ≤ 2 ∧ s2 = 3 * t + i))) (hgg : 332 ≤ g ∧ g ≤ 334) (ho : ∀ c k, (328 ≤ c ∧ c ≤ 336) ∨ (341 ≤ c ∧ c ≤ 344) → ¬ (c = g ∧ k = t + 3600) → w' c k = w c k)
    (hE : ∀ i, 0 ≤ i → i ≤ 2 → 3 * t + i = s2 ∨ enR w' (3 * t + i) = n ∨ (enR w' (3 * t + i) = enR w (3 * t + i) ∧ 3 * t + i ≠ s1)) (hO : ∀ v, OW v → anc w (w 331 (t + 3600)) (w 335 (v + 3600))) (hpi : piR w (w 331 (t + 3600)) + 1 ≤ o) (hT : tyO w' n s2 True t) : GB w' N n mm nt nw P s2 OW o := by
  obtain ⟨h0, hd, hr⟩ := h
  have hti := h0.ti
  obtain ⟨i1', i2, i3, i4, i5, i6, i7, i8, i9, i10, i11⟩ := h0
  have hta := hti t ht.1 ht.2
  have e3 : c3E w w' := fun c k z => ho c k (by omega) (fun y => by have := y.1; omega)
  have x1 : ∀ k, w' 331 k = w 331 k := fun k => ho 331 k (by omega) (fun y => by have := y.1; omega)
  have x5 : ∀ c k, 335 ≤ c → c ≤ 336 → w' c k = w c k := fun c k z1 z2 => ho c k (by omega) (fun y => by have := y.1; omega)
  have xt : ∀ c t', 332 ≤ c → c ≤ 334 → t' ≠ t → w' c (t' + 3600) = w c (t' + 3600) := fun c t' z1 z2 z3 => ho c _ (by omega) (fun y => by have := y.2; omega)
  have e1 : t1E w w' := x1
  have en : ∀ r, r / 3 ≠ t → enR w' r = enR w r := fun r z => enR_eq (xt 332 (r / 3) (by decide) (by decide) z) (xt 333 (r / 3) (by decide) (by decide) z) (xt 334 (r / 3) (by decide) (by decide) z)
  have a1 : ∀ q, anc w s1 q ↔ q = s1 ∨ anc w (w 331 (t + 3600)) q := fun q => by rw [hs1]; exact anc.of3 ht.1 hi1.1 hi1.2
  have a2 : ∀ q, anc w s2 q → q = s2 ∨ anc w (w 331 (t + 3600)) q := fun q z => by
    rcases hs2 with c | ⟨i, z1, z2, c⟩
    · rw [c] at z
      exact Or.inr z
    · rw [c] at z ⊢
      exact (anc.of3 ht.1 z1 z2).1 z
  have a3 : ∀ q, anc w (w 331 (t + 3600)) q → anc w s2 q := fun q z => by
    rcases hs2 with c | ⟨i, z1, z2, c⟩
    · rw [c]
      exact z
    · rw [c]
      exact (anc.of3 ht.1 z1 z2).2 (Or.inr z)
  have al : ∀ q, anc w (w 331 (t + 3600)) q → q < 3 * t := fun q z => by
    have := anc.le hti hta.1 (by omega) z
    omega
  -- what was open or before its end
  have key : ∀ R x, x ≤ n → -1 ≤ R → R < 3 * nt → (anc w s1 R ∨ x ≤ enR w R) → anc w s2 R ∨ x ≤ enR w' R := fun R x hx z1 z2 z3 => by
    by_cases c : R / 3 = t
    · have eR : R = 3 * t + R % 3 := by omega
      rcases hE (R % 3) (by omega) (by omega) with y | y | ⟨y1, y2⟩
      · rw [← eR] at y
        rw [y]
        exact Or.inl (anc.refl w s2)
      · rw [← eR] at y
        rw [y]
        exact Or.inr hx
      · rw [← eR] at y1 y2
        rw [y1]
        refine z3.imp (fun z => ?_) id
        rcases (a1 R).1 z with z | z
        · exact absurd z y2
        · have := al R z
          omega
    · rw [en R c]
      refine z3.imp (fun z => ?_) id
      rcases (a1 R).1 z with z | z
      · exact absurd (by omega) c
      · exact a3 R z
  have hg : ∀ q r, tgS w n s1 False q r → tgS w' n s2 True q r := fun q r z => ⟨z.1, by rw [e3.dq]; exact z.2.1, fun y => by rw [e3 328 _ (by omega), e3 330 _ (by omega)]; exact z.2.2.1 y, fun y => (z.2.2.2 y).1.elim⟩
  have hc2 : ∀ t', t' ≠ t → clsT w s2 t' → clsT w s1 t' := fun t' z1 z2 i k1 k2 a => by
    rcases (a1 _).1 a with y | y
    · omega
    · exact z2 i k1 k2 (a3 _ y)
  have hc1 : ∀ t', clsT w s1 t' → t' ≠ t ∧ clsT w s2 t' := fun t' z => by
    have tn : t' ≠ t := fun c => z i1 hi1.1 hi1.2 (by rw [c, ← hs1]; exact anc.refl w s1)
    refine ⟨tn, fun i k1 k2 a => ?_⟩
    rcases a2 _ a with y | y
    · rcases hs2 with c | ⟨j, z1, z2, c⟩
      · exact z i k1 k2 ((a1 _).2 (Or.inr (by rw [y, c]; exact anc.refl w _)))
      · omega
    · exact z i k1 k2 ((a1 _).2 (Or.inr y))
  have hs2r : -1 ≤ s2 ∧ s2 < 3 * nt := by
    rcases hs2 with c | ⟨j, z1, z2, c⟩
    · omega
    · omega
  refine ⟨⟨⟨i1'.1.c3 e3 (fun t _ _ => x1 _) (Int.le_refl nt), i1'.2.c3 e3⟩, fun p g1 g2 => ?_, fun t' g1 g2 => ?_, fun v g1 g2 => ?_, fun m g1 g2 g3 => ?_, ⟨hs2r, i6.2⟩, ⟨fun r g1 g2 => by rw [piR_t1 e1]; exact i7.1 r g1 g2, ?_⟩, i8, fun z => by rw [e3 328 _ (by omega)]; exact i9 z, fun _ => trivial, i11.eq (fun m _ _ => e3 _ _ (by omega)) (fun m _ _ => e3 _ _ (by omega)) (fun k _ _ => e3 _ _ (by omega)) (Int.le_refl n) (fun _ _ z => z)⟩, by rw [e3.dq]; exact hd, fun q _ => (hr q s2).c3 e3 (fun t _ _ => x1 _) (Int.le_refl nt)⟩
  · obtain ⟨q1, q2, q3, q4⟩ := i2 p g1 g2
    unfold plO
    rw [e3 328 _ (by omega), e3 329 _ (by omega), e3 330 _ (by omega), anc_t1 e1]
    refine ⟨q1, ?_, fun g => (q3 g).imp id (fun ⟨r1, r2, r3⟩ => ⟨r1, ?_, r3.imp id (fun ⟨y1, y2⟩ => ?_)⟩), q4⟩
    · exact (key (w 330 (p + 40000)) (p + 1) (by omega) q1.1 q1.2 (q2.imp id (fun z => by omega))).imp id (fun z => by omega)
    · rw [anc_t1 e1, x5 335 _ (by decide) (by decide)]
      exact r2
    · unfold brO
      rw [x5 336 _ (by decide) (by decide), x5 335 _ (by decide) (by decide)]
      refine ⟨y1, fun r z1 z2 z3 => ?_⟩
      rw [anc_t1 e1] at z1 z2
      obtain ⟨v1, v2⟩ := y2 r z1 z2 z3
      obtain ⟨v3, v4⟩ := hc1 _ v1
      rw [cls_t1 e1, xt 334 (r / 3) (by decide) (by decide) v3]
      exact ⟨v4, v2⟩
  · by_cases c : t' = t
    · subst c
      exact hT
    · obtain ⟨q1, q2, q3, q4, q5⟩ := i3 t' g1 g2
      unfold tyO
      rw [x1, xt 332 t' (by decide) (by decide) c, xt 333 t' (by decide) (by decide) c, xt 334 t' (by decide) (by decide) c, cls_t1 e1, anc_t1 e1]
      refine ⟨q1, q2.imp id (hg _ _), q3.imp id (hg _ _), q4, fun z => ?_⟩
      obtain ⟨y1, y2, y3⟩ := q5 (hc2 t' c z)
      exact ⟨hg _ _ y1, y2, key _ _ y1.1.2 q1.1 (by omega) y3⟩
  · obtain ⟨q1, q2, q3⟩ := i4 v g1 g2
    unfold whO
    rw [x5 335 _ (by decide) (by decide), x5 336 _ (by decide) (by decide), anc_t1 e1]
    exact ⟨q1, fun z => a3 _ (hO v z), fun z => hg _ _ (q3 z)⟩
  · rw [e3 341 _ (by omega)] at g3
    rw [e3 344 _ (by omega)]
    exact hg _ _ (i5 m g1 g2 g3)
  · rw [piR_t1 e1]
    rcases hs2 with c | ⟨j, z1, z2, c⟩
    · rw [c]
      omega
    · rw [c, piR_step (r := 3 * t + j) hti (by omega) (by omega), show (3 * t + j) / 3 = t by omega]
      by_cases c2 : (3 * t + j) % 3 = 2
      · rw [if_pos c2]; omega
      · rw [if_neg c2]; omega
theorem anc_self_not {w : eW} {s t i : Int} (hi : 0 ≤ i ∧ i ≤ 2) (hs : s = 3 * t + i) : ¬ clsT w s t := fun z => z i hi.1 hi.2 (by rw [← hs]; exact anc.refl w s)
/-- the catch part begins -/
theorem GZ.cat {w w' : eW} {N n mm nt nw o t : Int} {P OW : Int → Prop} (h : GZ w N n mm nt nw P (3 * t) OW o) (ht : 0 ≤ t ∧ t < nt) (hv : w' 332 (t + 3600) = n) (hf : w 333 (t + 3600) < 0) (ho : ∀ c k, (328 ≤ c ∧ c ≤ 336) ∨ (341 ≤ c ∧ c ≤ 344) → ¬ (c = 332 ∧ k = t + 3600) → w' c k = w c k) (hO : ∀ v, OW v → anc w (w 331 (t + 3600)) (w 335 (v + 3600))) (hpi : piR w (w 331 (t + 3600)) + 1 ≤ o) : GB w' N n mm nt nw P (3 * t + 1) OW o := by
  have hn : 0 ≤ n := h.1.2.2.2.2.2.1.2.1
  have e1 : w' 331 (t + 3600) = w 331 (t + 3600) := ho 331 _ (by omega) (fun y => absurd y.1 (by decide))
  have e3 : w' 333 (t + 3600) = w 333 (t + 3600) := ho 333 _ (by omega) (fun y => absurd y.1 (by decide))
  have e4 : w' 334 (t + 3600) = w 334 (t + 3600) := ho 334 _ (by omega) (fun y => absurd y.1 (by decide))
  have ed : dp w' n = 0 := (dp_eq (fun k _ _ => ho 328 _ (by omega) (fun y => absurd y.1 (by decide)))).trans h.2.1
  refine h.turn (i1 := 0) (g := 332) ht (by omega) (by omega) (Or.inr ⟨1, by decide, by decide, rfl⟩) (by decide) ho (fun i k1 k2 => ?_) hO hpi ?_
  · obtain rfl | rfl | rfl : i = 0 ∨ i = 1 ∨ i = 2 := by omega
    · right; left
      rw [show 3 * t + 0 = 3 * t by omega, enR_0, hv, if_pos hn]
    · exact Or.inl rfl
    · right; right
      rw [enR_2, enR_2, e4]
      exact ⟨rfl, by omega⟩
  · unfold tyO
    rw [e1, hv, e3]
    exact ⟨h.1.ti t ht.1 ht.2, Or.inr ⟨⟨hn, Int.le_refl n⟩, ed, fun z => by omega, fun _ => ⟨trivial, rfl⟩⟩, Or.inl hf, Or.inr hf, fun z => absurd z (anc_self_not (i := 1) (by decide) rfl)⟩
/-- the finally part begins -/
theorem GZ.fina {w w' : eW} {N n mm nt nw o t i1 : Int} {P OW : Int → Prop} (h : GZ w N n mm nt nw P (3 * t + i1) OW o) (ht : 0 ≤ t ∧ t < nt) (hi : 0 ≤ i1 ∧ i1 ≤ 1) (hv : w' 333 (t + 3600) = n) (hc : (i1 = 0 ∧ w 332 (t + 3600) < 0) ∨ (i1 = 1 ∧ 0 ≤ w 332 (t + 3600) ∧ w 332 (t + 3600) < n)) (ho : ∀ c k, (328 ≤ c ∧ c ≤ 336) ∨ (341 ≤ c ∧ c ≤ 344) → ¬ (c = 333 ∧ k = t + 3600) → w' c k = w c k) (hO : ∀ v, OW v → anc w (w 331 (t + 3600)) (w 335 (v + 3600))) (hpi : piR w (w 331 (t + 3600)) + 1 ≤ o) : GB w' N n mm nt nw P (3 * t + 2) OW o := by
  have hn : 0 ≤ n := h.1.2.2.2.2.2.1.2.1
  have e1 : w' 331 (t + 3600) = w 331 (t + 3600) := ho 331 _ (by omega) (fun y => absurd y.1 (by decide))
  have e2 : w' 332 (t + 3600) = w 332 (t + 3600) := ho 332 _ (by omega) (fun y => absurd y.1 (by decide))
  have e8 : ∀ k, w' 328 k = w 328 k := fun k => ho 328 _ (by omega) (fun y => absurd y.1 (by decide))
  have e0 : ∀ k, w' 330 k = w 330 k := fun k => ho 330 _ (by omega) (fun y => absurd y.1 (by decide))
  have ed : ∀ p, dp w' p = dp w p := fun p => dp_eq (fun k _ _ => e8 _)
  have hty := (h.1.2.2.1 t ht.1 ht.2)
  refine h.turn (i1 := i1) (g := 333) ht rfl (by omega) (Or.inr ⟨2, by decide, by decide, rfl⟩) (by decide) ho (fun i k1 k2 => ?_) hO hpi ?_
  · obtain rfl | rfl | rfl : i = 0 ∨ i = 1 ∨ i = 2 := by omega
    · right
      rw [show 3 * t + 0 = 3 * t by omega, enR_0, enR_0, e2, hv, if_pos hn]
      rcases hc with ⟨c1, c2⟩ | ⟨c1, c2, c3⟩
      · left
        rw [if_neg (by omega)]
      · right
        rw [if_pos c2, if_pos c2]
        exact ⟨rfl, by omega⟩
    · right; left
      rw [enR_1, hv, if_pos hn]
    · exact Or.inl rfl
  · unfold tyO
    rw [e1, e2, hv]
    refine ⟨hty.1, ?_, Or.inr ⟨⟨hn, Int.le_refl n⟩, by rw [ed]; exact h.2.1, fun z => by omega, fun _ => ⟨trivial, rfl⟩⟩, Or.inl (by omega), fun z => absurd z (anc_self_not (i := 2) (by decide) rfl)⟩
    rcases hc with ⟨c1, c2⟩ | ⟨c1, c2, c3⟩
    · exact Or.inl c2
    · right
      have := hty.2.1.resolve_left (by omega)
      exact ⟨this.1, by rw [ed]; exact this.2.1, fun z => by rw [e8, e0]; exact this.2.2.1 z, fun z => by omega⟩
/-- the try is over -/
theorem GZ.over {w w' : eW} {N n mm nt nw o t i1 : Int} {P OW : Int → Prop} (h : GZ w N n mm nt nw P (3 * t + i1) OW o) (ht : 0 ≤ t ∧ t < nt) (hi : 0 ≤ i1 ∧ i1 ≤ 2) (hv : w' 334 (t + 3600) = n) (hc : (i1 = 0 ∧ w 332 (t + 3600) < 0 ∧ w 333 (t + 3600) < 0) ∨ (i1 = 1 ∧ 0 ≤ w 332 (t + 3600) ∧ w 332 (t + 3600) < n ∧ w 333 (t + 3600) < 0) ∨ (i1 = 2 ∧ 0 ≤ w 333 (t + 3600) ∧ w 333 (t + 3600) < n ∧ w 332 (t + 3600) < n)) (ho : ∀ c k, (328 ≤ c ∧ c ≤ 336) ∨ (341 ≤ c ∧ c ≤ 344) → ¬ (c = 334 ∧ k = t + 3600) → w' c k = w c k) (hO : ∀ v, OW v → anc w (w 331 (t + 3600)) (w 335 (v + 3600))) (hpi : piR w (w 331 (t + 3600)) + 1 ≤ o) : GB w' N n mm nt nw P (w 331 (t + 3600)) OW o := by
  have hn : 0 ≤ n := h.1.2.2.2.2.2.1.2.1
  have e1 : ∀ k, w' 331 k = w 331 k := fun k => ho 331 _ (by omega) (fun y => absurd y.1 (by decide))
  have e2 : w' 332 (t + 3600) = w 332 (t + 3600) := ho 332 _ (by omega) (fun y => absurd y.1 (by decide))
  have e3 : w' 333 (t + 3600) = w 333 (t + 3600) := ho 333 _ (by omega) (fun y => absurd y.1 (by decide))
  have e8 : ∀ k, w' 328 k = w 328 k := fun k => ho 328 _ (by omega) (fun y => absurd y.1 (by decide))
  have e0 : ∀ k, w' 330 k = w 330 k := fun k => ho 330 _ (by omega) (fun y => absurd y.1 (by decide))
  have ed : ∀ p, dp w' p = dp w p := fun p => dp_eq (fun k _ _ => e8 _)
  have hty := (h.1.2.2.1 t ht.1 ht.2)
  have hg : ∀ q r, q < n → tgS w n (3 * t + i1) False q r → tgS w' n (w 331 (t + 3600)) True q r := fun q r z0 z => ⟨z.1, by rw [ed]; exact z.2.1, fun y => by rw [e8, e0]; exact z.2.2.1 y, fun y => by omega⟩
  refine h.turn (i1 := i1) (g := 334) ht rfl hi (Or.inl rfl) (by decide) ho (fun i k1 k2 => ?_) hO hpi ?_
  · obtain rfl | rfl | rfl : i = 0 ∨ i = 1 ∨ i = 2 := by omega
    · right
      rw [show 3 * t + 0 = 3 * t by omega, enR_0, enR_0, e2, e3, hv]
      rcases hc with ⟨c1, c2, c3⟩ | ⟨c1, c2, c3, c4⟩ | ⟨c1, c2, c3, c4⟩
      · left
        rw [if_neg (by omega), if_neg (by omega)]
      · right
        rw [if_pos c2, if_pos c2]
        exact ⟨rfl, by omega⟩
      · right
        rw [if_pos c2, if_pos c2]
        exact ⟨rfl, by omega⟩
    · right
      rw [enR_1, enR_1, e3, hv]
      rcases hc with ⟨c1, c2, c3⟩ | ⟨c1, c2, c3, c4⟩ | ⟨c1, c2, c3, c4⟩
      · left
        rw [if_neg (by omega)]
      · left
        rw [if_neg (by omega)]
      · right
        rw [if_pos c2, if_pos c2]
        exact ⟨rfl, by omega⟩
    · right; left
      rw [enR_2]
      exact hv
  · unfold tyO
    rw [e1, e2, e3, hv]
    refine ⟨hty.1, ?_, ?_, ?_, fun z => ⟨⟨⟨hn, Int.le_refl n⟩, by rw [ed]; exact h.2.1, fun z => by omega, fun _ => ⟨trivial, rfl⟩⟩, by omega, Or.inl (anc.refl w' _)⟩⟩
    · rcases hc with ⟨c1, c2, c3⟩ | ⟨c1, c2, c3, c4⟩ | ⟨c1, c2, c3, c4⟩
      · exact Or.inl c2
      · exact Or.inr (hg _ _ c3 (hty.2.1.resolve_left (by omega)))
      · exact hty.2.1.imp id (hg _ _ c4)
    · rcases hc with ⟨c1, c2, c3⟩ | ⟨c1, c2, c3, c4⟩ | ⟨c1, c2, c3, c4⟩
      · exact Or.inl c3
      · exact Or.inl c4
      · exact Or.inr (hg _ _ c3 (hty.2.2.1.resolve_left (by omega)))
    · exact hty.2.2.2.1
end
end
-- part b9
section
noncomputable section
/-! the compiler's methods for statements: what they keep -/
def mStm (n nt nw m c k : Int) : Prop := ((c = 328 ∨ c = 329 ∨ c = 330) ∧ n + 40000 ≤ k) ∨ ((331 ≤ c ∧ c ≤ 334) ∧ nt + 3600 ≤ k) ∨ ((335 ≤ c ∧ c ≤ 336) ∧ nw + 3600 ≤ k) ∨ ((341 ≤ c ∧ c ≤ 344) ∧ m ≤ k) ∨ (c = 275 ∧ ((78 ≤ k ∧ k ≤ 89) ∨ k = 94))
def stL (w w' : eW) (z F : Int) : Prop := w 275 86 ≤ w' 275 86 ∧ w 275 78 ≤ w' 275 78 ∧ (w' 275 88 = 0 → w' 275 78 ≤ w 275 78 + 2 * (w' 275 86 - w 275 86) ∧ w' 275 83 = w 275 83 ∧ w 275 86 + z ≤ w' 275 86 ∧ 5 * (w' 275 79 - w 275 79) ≤ w' 275 86 - w 275 86 ∧ 5 * (w' 275 80 - w 275 80) ≤ w' 275 86 - w 275 86) ∧ w' 275 78 ≤ w 275 78 + 2 * (w' 275 86 - w 275 86) + F ∧ w 275 94 ≤ w' 275 94 ∧ w' 275 94 ≤ w 275 94 + (w' 275 86 - w 275 86) ∧ w 275 83 - 1 ≤ w' 275 83 ∧ w' 275 83 ≤ w 275 83 ∧ w' 275 81 = w 275 81 ∧ w' 275 82 = w 275 82 ∧ w 275 79 ≤ w' 275 79 ∧ w 275 80 ≤ w' 275 80
def stB (w : eW) (N o : Int) : Prop := (0 ≤ w 275 78 ∧ w 275 78 + 2 * (N - w 275 86) ≤ 8100) ∧ (0 ≤ w 275 94 ∧ w 275 94 + (N - w 275 86) ≤ 4050) ∧ (0 ≤ w 275 79 ∧ 5 * w 275 79 ≤ w 275 86 + 5 * o) ∧ 0 ≤ w 275 80 ∧ 5 * w 275 80 ≤ w 275 86 + 5 * o
def stQ (w w' : eW) (N : Int) (P OW : Int → Prop) (O z F : Int) : Prop := e_fr (mStm (w 275 78) (w 275 79) (w 275 80) (w 275 94)) w w' ∧ cSt w' N ∧ stL w w' z F ∧ (w' 275 88 = 0 → GB w' N (w' 275 78) (w' 275 94) (w' 275 79) (w' 275 80) P (w' 275 81) OW O)
/-- a method for statements, at o brackets and parts -/
def stC (M : Nat) (z o F : Int) (d : Nat) : Prop := ∀ (w : eW) (N O : Int) (P OW : Int → Prop), cSt w N → (0 ≤ N ∧ N ≤ 4000) → w 275 88 = 0 → w 275 83 = o → (w 275 82 = -1 ∨ OW (w 275 82)) → stB w N o → O ≤ o → GB w N (w 275 78) (w 275 94) (w 275 79) (w 275 80) P (w 275 81) OW O →
  e_Ok 20 elay ecode eI d M (0, [(0, (1, 275))], [], w) (fun r w' => r = [] ∧ stQ w w' N P OW O z F)
theorem mTq_fld {k : Int} (h : k < 84 ∨ 87 < k) : ¬ mTq 275 k := by unfold mTq; omega
theorem mTq_not {c k : Int} (h : c ≠ 275) : ¬ mTq c k := by unfold mTq; omega
theorem mTq_St {n nt nw m c k : Int} (h : mTq c k) : mStm n nt nw m c k := by unfold mTq at h; unfold mStm; omega
theorem mRf_fld {k : Int} (h : k < 88 ∨ 89 < k) : ¬ mRf 275 k := by unfold mRf; omega
theorem mRf_St {n nt nw m c k : Int} (h : mRf c k) : mStm n nt nw m c k := by unfold mRf at h; unfold mStm; omega
theorem mU_St {n nt nw m c k : Int} (h : c = 275 ∧ k = 83) : mStm n nt nw m c k := by unfold mStm; omega
theorem mNm_fld {k : Int} (h : k ≠ 94) : ¬ mNm 275 k := by unfold mNm; omega
theorem mEx_fld {n m k : Int} (h : 78 < k ∧ k < 83) : ¬ mEx n m 275 k := by unfold mEx; omega
theorem mEx_St {n nt nw m n' m' c k : Int} (h1 : n ≤ n') (h2 : m ≤ m') (h : mEx n' m' c k) : mStm n nt nw m c k := by unfold mEx at h; unfold mStm; omega
theorem mEx_lt {n m c k : Int} (hc : c < 331 ∧ c ≠ 275) (h : k < n + 40000) : ¬ mEx n m c k := by unfold mEx; omega
theorem mEx_far {n m c k : Int} (hc : 331 ≤ c ∧ c ≤ 340) : ¬ mEx n m c k := by unfold mEx; omega
theorem mEx_nm {n m c k : Int} (hc : 341 ≤ c ∧ c ≤ 344) (h : k < m) : ¬ mEx n m c k := by unfold mEx; omega
theorem mSt_St {n nt nw m n' nt' nw' m' c k : Int} (h1 : n ≤ n') (h2 : nt ≤ nt') (h3 : nw ≤ nw') (h4 : m ≤ m') (h : mStm n' nt' nw' m' c k) : mStm n nt nw m c k := by unfold mStm at h ⊢; omega
theorem EM.fld {w w' : eW} {n o x s k : Int} (h : EM w w' n o x s) (hk : k ≠ 78) : w' 275 k = w 275 k := h.1 275 k (by omega)
theorem EM.lt {w w' : eW} {n o x s c k : Int} (h : EM w w' n o x s) (hc : c ≠ 275) (hk : k < n + 40000) : w' c k = w c k := h.1 c k (by omega)
theorem EM.far {w w' : eW} {n o x s c k : Int} (h : EM w w' n o x s) (hc : 331 ≤ c) : w' c k = w c k := h.1 c k (by omega)
theorem EM.st {w w' : eW} {n n0 nt nw m o x s : Int} (h : EM w w' n o x s) (hn : n0 ≤ n) : e_fr (mStm n0 nt nw m) w w' := fun c k g => h.1 c k (fun y => g (by unfold mStm; omega))
theorem cSt.wr {w w' : eW} {N c k z : Int} (h : cSt w N) (hw : e_up w c k z = w') (hm : mTy c k = (-2147483648, 2147483647) ∨ mTy c k = (1, 0)) (hz : -2147483648 ≤ z ∧ z ≤ 2147483647) (hh : hTy c k = (1, 0)) (h5 : c = 275 → (k ≠ 9 ∧ ¬ (84 ≤ k ∧ k ≤ 87)) ∧ (k = 81 → -1 ≤ z ∧ z ≤ 2700)) : cSt w' N := by
  obtain ⟨h1, h2, h3, h4, h6⟩ := h
  have e : ∀ j, ¬ (c = 275 ∧ k = j) → w' 275 j = w 275 j := fun j q => by rw [← hw]; exact e_up_ne _ _ (by omega)
  have hT : e_Has mTy w' := by
    rcases hm with hm | hm
    · exact h1.upr hw hm hz
    · exact h1.ups hw hm
  refine ⟨hT, h2.ups hw hh, by rw [e 9 (fun q => (h5 q.1).1.1 q.2)]; exact h3, ?_, ?_⟩
  · unfold tkS
    rw [e 86 (fun q => (h5 q.1).1.2 (by omega)), e 87 (fun q => (h5 q.1).1.2 (by omega)), e 84 (fun q => (h5 q.1).1.2 (by omega)), e 85 (fun q => (h5 q.1).1.2 (by omega))]
    exact h4
  · by_cases q : c = 275 ∧ k = 81
    · rw [← hw, q.1, q.2, e_up_eq]
      exact (h5 q.1).2 q.2
    · rw [e 81 q]
      exact h6
theorem GB.re {w : eW} {N n mm nt nw s o n' mm' nt' nw' s' : Int} {P OW : Int → Prop} (h : GB w N n mm nt nw P s OW o) (e1 : n = n') (e2 : mm = mm') (e3 : nt = nt') (e4 : nw = nw') (e5 : s = s') : GB w N n' mm' nt' nw' P s' OW o := by
  subst e1 e2 e3 e4 e5
  exact h
theorem GA.re {w : eW} {N n mm nt nw s o n' mm' nt' nw' s' : Int} {P OW : Int → Prop} (h : GA w N n mm nt nw P s OW o) (e1 : n = n') (e2 : mm = mm') (e3 : nt = nt') (e4 : nw = nw') (e5 : s = s') : GA w N n' mm' nt' nw' P s' OW o := by
  subst e1 e2 e3 e4 e5
  exact h
theorem GZ.re {w : eW} {N n mm nt nw s o n' mm' nt' nw' s' : Int} {P OW : Int → Prop} (h : GZ w N n mm nt nw P s OW o) (e1 : n = n') (e2 : mm = mm') (e3 : nt = nt') (e4 : nw = nw') (e5 : s = s') : GZ w N n' mm' nt' nw' P s' OW o := by
  subst e1 e2 e3 e4 e5
  exact h
theorem GS.re {w : eW} {N n mm nt nw s o d n' mm' nt' nw' s' d' : Int} {P OW : Int → Prop} (h : GS w N n mm nt nw P s OW o d) (e1 : n = n') (e2 : mm = mm') (e3 : nt = nt') (e4 : nw = nw') (e5 : s = s') (e6 : d = d') : GS w N n' mm' nt' nw' P s' OW o d' := by
  subst e1 e2 e3 e4 e5 e6
  exact h
theorem GB.oo {w : eW} {N n mm nt nw s o o' : Int} {P OW : Int → Prop} (h : GB w N n mm nt nw P s OW o) (g : piR w s ≤ o') : GB w N n mm nt nw P s OW o' := ⟨⟨h.1.1, h.1.2.1, h.1.2.2.1, h.1.2.2.2.1, h.1.2.2.2.2.1, h.1.2.2.2.2.2.1, ⟨h.1.2.2.2.2.2.2.1.1, g⟩, h.1.2.2.2.2.2.2.2⟩, h.2⟩
theorem GB.ol {w : eW} {N n mm nt nw s o o' : Int} {P OW : Int → Prop} (h : GB w N n mm nt nw P s OW o) (g : o ≤ o') : GB w N n mm nt nw P s OW o' := h.oo (Int.le_trans h.1.2.2.2.2.2.2.1.2 g)
/-- what was open around a statement stays -/
theorem GB.ow {w w' : eW} {N n mm nt nw s o n' m' : Int} {P OW : Int → Prop} (h : GB w N n mm nt nw P s OW o) (hf : e_fr (mStm n' nt nw m') w w') : (∀ v, OW v → anc w' s (w' 335 (v + 3600))) ∧ piR w' s ≤ o := by
  have hti := h.1.ti
  have hs := h.1.2.2.2.2.2.1.1
  have et : ∀ t, 0 ≤ t → t < nt → w' 331 (t + 3600) = w 331 (t + 3600) := fun t _ z => hf 331 _ (by unfold mStm; omega)
  refine ⟨fun v z => ?_, by rw [piR_eq hti et hs.1 hs.2]; exact h.1.2.2.2.2.2.2.1.2⟩
  have hv := h.1.2.2.2.2.2.2.2.1 v z
  rw [hf 335 _ (by unfold mStm; omega)]
  exact (anc.eq hti et hs.1 hs.2).2 ((h.1.2.2.2.1 v hv.1 hv.2).2.1 z)
end
end
