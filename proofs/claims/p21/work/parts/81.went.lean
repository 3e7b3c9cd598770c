noncomputable section
theorem rW_gt {g d : Int} (hg : 1 ≤ g) (h : g < d) : d < rW g d := by
  rw [rW_step hg h]
  have := rW_le (d := d - g) hg (by omega)
  omega
/-- a step that leads away from the goal is small -/
theorem joOk.near {v s goal lo hi g : Int} (hg : 1 ≤ g) (h : joOk 1 v s goal lo hi g) : (v ≤ goal → -g ≤ s) ∧ (goal ≤ v → s ≤ g) := by
  obtain ⟨-, -, h3, -⟩ := h
  obtain ⟨-, h5, h6⟩ := h3 rfl
  refine ⟨fun q => ?_, fun q => ?_⟩
  · by_cases e : -g ≤ s
    · exact e
    · have := h6 (by omega)
      have := rW_gt (d := -s) hg (by omega)
      omega
  · by_cases e : s ≤ g
    · exact e
    · have := h5 (by omega) (by omega)
      have := rW_gt (d := s) hg (by omega)
      omega
/-- the arm x does not take up its way again -/
theorem mMo.quit {w w' : eW} {x : Int} (h : mMo w x) (hx : 0 ≤ x) (hty : moT w) (hf : ∀ c k, moK c k → w' c k = w c k) (hS : ∀ b, 0 ≤ b → b ≤ 3 → w' 276 (36 * b + 16) = w 276 (36 * b + 16)) (hT : ∀ b, 0 ≤ b → b ≤ 3 → b ≠ x → w' 276 (36 * b + 22) = w 276 (36 * b + 22)) (hx1 : w' 276 (36 * x + 22) ≠ 1) : mMo w' (-1) := by
  obtain ⟨h1, h2, h3⟩ := h
  have f5 : ∀ c k, c = 286 ∨ c = 288 ∨ c = 289 ∨ c = 291 → w' c k = w c k := fun c k q => hf c k (by unfold moK; omega)
  refine ⟨fun a j g1 g2 g3 g4 => ?_, fun a g1 g2 => ?_, fun e a g1 g2 => ?_⟩
  · rw [f5 286 _ (by omega)] at g4
    have y := hty.2 a g1 g2
    have q := h1 a j g1 g2 g3 g4
    unfold moJ at q ⊢
    rw [hf 276 _ (moK_j ⟨g1, g2⟩ (j := j) (f := 32) (by omega) (by omega)), hf 276 _ (moK_j ⟨g1, g2⟩ (j := j) (f := 38) (by omega) (by omega)), hf 276 _ (moK_j ⟨g1, g2⟩ (j := j) (f := 44) (by omega) (by omega)), f5 288 _ (by omega), f5 289 _ (by omega), f5 291 _ (by omega), hS a g1 g2]
    exact q
  · by_cases e : a = x
    · subst e
      obtain ⟨q1, q2⟩ := h2 a g1 g2
      obtain ⟨y1, y2, y3, y4⟩ := hty.2 a g1 g2
      refine ⟨fun e => ?_, fun e => absurd e hx1⟩
      have f1 := hf 276 _ (moK_a ⟨g1, g2⟩ (f := 19) (by omega))
      have f4 := hf 276 _ (moK_a ⟨g1, g2⟩ (f := 26) (by omega))
      rw [hf 276 _ (moK_a ⟨g1, g2⟩ (f := 20) (by omega))] at e
      obtain ⟨z1, z2, P, z3, z4⟩ := q1 e
      refine ⟨by rw [hf 275 10 (by unfold moK; omega)]; exact z1, by rw [f1]; exact z2, P, z3.fr ⟨g1, g2⟩ (by omega) y1 f1 f4 (fun c k q => f5 c k (by omega)) (fun k q1 q2 => hf 276 k (by unfold moK; omega)), fun j g3 g4 => ?_⟩
      rw [f5 286 _ (by omega)] at g4
      rw [hf 276 _ (moK_j ⟨g1, g2⟩ (j := j) (f := 32) (by omega) (by omega))]
      exact z4 j g3 g4
    · have q := (h2 a g1 g2).ne (x' := -1) e (by omega)
      have q2 := hT a g1 g2 e
      have q3 := hS a g1 g2
      exact q.fr hty ⟨g1, g2⟩ (fun c k q3 q4 => hf c k q3) (fun e => by omega)
  · rw [hf 276 1 (by unfold moK; omega)] at e
    rw [hf 275 10 (by unfold moK; omega)] at g2
    have := hty.1
    rw [hS a g1 (by omega)]
    exact h3 e a g1 g2
/-! tally: what it counts, nobody knows -/
def mTl (c _k : Int) : Prop := c = 280
theorem e_Has.hv {w : eW} (h : e_Has mTy w) : e_Has mTy (e_hv 280 w) := fun c k hl => by
  by_cases e : c = 280
  · rw [e] at hl
    exact absurd hl (by show ¬ ((1 : Int) ≤ 0); decide)
  · have : e_hv 280 w c k = w c k := if_neg e
    rw [this]
    exact h c k hl
theorem c_389 {d : Nat} {w : eW} (hT : e_Has mTy w) {x y : Int} (hx : 0 ≤ x ∧ x ≤ 3) : e_Ok 20 elay ecode eI d 389 (0, [(0, (1, 275)), (1, (0, x)), (2, (0, y))], [], w) (fun r w' => r = [] ∧ e_fr mTl w w' ∧ e_Has mTy w') := by
  refine e_Ok.step (f := e_mTal) (a := 0) (b := 0) (t' := (25, [(0, (1, 275)), (1, (0, x)), (2, (0, y))], [], e_hv 280 w)) rfl ?_ ?_
  · exact if_pos ⟨rfl, hx.1, hx.2, e_Has.eq hT rfl⟩
  · exact e_Ok.rets rfl rfl ⟨rfl, fun c k q => if_neg q, e_Has.hv hT⟩
theorem c_403 {d : Nat} {w : eW} (hT : e_Has mTy w) {y : Int} : e_Ok 20 elay ecode eI d 403 (0, [(0, (1, 275)), (1, (0, y))], [], w) (fun r w' => r = [] ∧ e_fr mTl w w' ∧ e_Has mTy w') := by
  refine e_Ok.step (f := e_mCj) (a := 0) (b := 0) (t' := (185, [], [], e_hv 280 w)) rfl ?_ ?_
  · exact if_pos ⟨rfl, hT⟩
  · exact e_Ok.rets rfl rfl ⟨rfl, fun c k q => if_neg q, e_Has.hv hT⟩
end
