noncomputable section
/-! the class: belts and parts -/
def kFl (c k : Int) : Prop := (31 ≤ c ∧ c ≤ 37) ∨ c = 39 ∨ c = 40
def kWy (c k : Int) : Prop := c = 37
/-- a belt's order; a part; the floor -/
def fO (w : eW) (b : Int) : Prop := (0 ≤ w 35 b ∧ w 35 b ≤ 32) ∧ ∀ i, 0 ≤ i → i < w 35 b → (0 ≤ w (b + 31) i ∧ w (b + 31) i < w 19 1) ∧ w 36 (w (b + 31) i) = b
def fP (w : eW) (p : Int) : Prop := (0 ≤ w 36 p ∧ w 36 p ≤ 8) ∧ (w 36 p < 4 → w 36 p < w 19 0 ∧ kn1 (w 37 p)) ∧ (w 36 p = 8 → kn1 (w 39 p) ∧ kn1 (w 40 p))
def fK (w : eW) : Prop := (∀ b, 0 ≤ b → b < w 19 0 → fO w b) ∧ ∀ p, 0 ≤ p → p < w 19 1 → fP w p
theorem fK.ord {w : eW} (h : fK w) {b i : Int} (hb : 0 ≤ b ∧ b < w 19 0) (hi : 0 ≤ i ∧ i < w 35 b) : (0 ≤ w (b + 31) i ∧ w (b + 31) i < w 19 1) ∧ w 36 (w (b + 31) i) = b := (h.1 b hb.1 hb.2).2 i hi.1 hi.2
theorem fK.way {w : eW} (h : fK w) (hB : w 19 0 ≤ 4) {b i : Int} (hb : 0 ≤ b ∧ b < w 19 0) (hi : 0 ≤ i ∧ i < w 35 b) : -2147483648 ≤ w 37 (w (b + 31) i) ∧ w 37 (w (b + 31) i) ≤ 2147483647 := by
  have q := h.ord hb hi
  exact ((h.2 _ q.1.1 q.1.2).2.1 (by omega)).2
theorem fK.fr {S : Int → Int → Prop} {w w' : eW} (f : e_fr S w w') (h1 : ∀ c k, 31 ≤ c → c ≤ 37 → ¬ S c k) (h2 : ∀ k, ¬ S 39 k ∧ ¬ S 40 k) (h3 : ¬ S 19 0 ∧ ¬ S 19 1) (hB : w 19 0 ≤ 4) (h : fK w) : fK w' := by
  have e35 : ∀ k, w' 35 k = w 35 k := fun k => f _ _ (h1 _ _ (by decide) (by decide))
  have e36 : ∀ k, w' 36 k = w 36 k := fun k => f _ _ (h1 _ _ (by decide) (by decide))
  have e37 : ∀ k, w' 37 k = w 37 k := fun k => f _ _ (h1 _ _ (by decide) (by decide))
  have e39 : ∀ k, w' 39 k = w 39 k := fun k => f _ _ (h2 k).1
  have e40 : ∀ k, w' 40 k = w 40 k := fun k => f _ _ (h2 k).2
  have e0 := f _ _ h3.1
  have e1 := f _ _ h3.2
  refine ⟨fun b g1 g2 => ?_, fun p g1 g2 => ?_⟩
  · rw [e0] at g2
    have q := h.1 b g1 g2
    have eo : ∀ k, w' (b + 31) k = w (b + 31) k := fun k => f _ _ (h1 _ _ (by omega) (by omega))
    unfold fO at q ⊢
    simp only [e35, e36, eo, e1]
    exact q
  · rw [e1] at g2
    have q := h.2 p g1 g2
    unfold fP at q ⊢
    simp only [e36, e37, e39, e40, e0]
    exact q
theorem fK.grip {w v w' : eW} {p a y : Int} (hf : fK w) (hB : w 19 0 ≤ 4) (hp : 0 ≤ p ∧ p < w 19 1) (hb : w 36 p < 4) (ha : 0 ≤ a ∧ a ≤ 3) (h1 : ∀ c k, c ≠ w 36 p + 31 → ¬ (c = 36 ∧ k = p) → v c k = w c k) (h2 : v 36 p = 4 + a)
    (h3 : ∀ j, 0 ≤ j → j < y → (0 ≤ v (w 36 p + 31) j ∧ v (w 36 p + 31) j < w 19 1) ∧ v (w 36 p + 31) j ≠ p ∧ w 36 (v (w 36 p + 31) j) = w 36 p) (hy : 0 ≤ y ∧ y ≤ w 35 (w 36 p)) (hw : e_up v 35 (w 36 p) y = w') : fK w' ∧ w' 36 p = 4 + a ∧ ∀ q, q ≠ p → w' 36 q = w 36 q := by
  have hP := hf.2 p hp.1 hp.2
  have hb0 : 0 ≤ w 36 p := hP.1.1
  have hbn : w 36 p < w 19 0 := (hP.2.1 hb).1
  have hO := hf.1 _ hb0 hbn
  have ev : ∀ c k, c ≠ 35 → w' c k = v c k := fun c k g => by rw [← hw]; exact e_up_ne _ _ (Or.inl g)
  have e : ∀ c k, c ≠ 35 → c ≠ w 36 p + 31 → ¬ (c = 36 ∧ k = p) → w' c k = w c k := fun c k g1 g2 g3 => (ev c k g1).trans (h1 c k g2 g3)
  have e35 : ∀ k, k ≠ w 36 p → w' 35 k = w 35 k := fun k g => by rw [← hw, e_up_ne _ _ (Or.inr g)]; exact h1 _ _ (by omega) (by omega)
  have e35b : w' 35 (w 36 p) = y := by rw [← hw]; exact e_up_eq _ _ _ _
  have ep : w' 36 p = 4 + a := (ev _ _ (by decide)).trans h2
  have eq : ∀ q, q ≠ p → w' 36 q = w 36 q := fun q g => e _ _ (by decide) (by omega) (by omega)
  have e0 : w' 19 0 = w 19 0 := e _ _ (by decide) (by omega) (by omega)
  have e1 : w' 19 1 = w 19 1 := e _ _ (by decide) (by omega) (by omega)
  refine ⟨⟨fun b g1 g2 => ?_, fun q g1 g2 => ?_⟩, ep, eq⟩
  · rw [e0] at g2
    by_cases hbb : b = w 36 p
    · rw [hbb]
      refine ⟨by rw [e35b]; have := hO.1; omega, fun i g3 g4 => ?_⟩
      rw [e35b] at g4
      have q := h3 i g3 g4
      rw [ev _ _ (by omega), e1, eq _ q.2.1]
      exact ⟨q.1, q.2.2⟩
    · have hOb := hf.1 b g1 g2
      have eo : ∀ k, w' (b + 31) k = w (b + 31) k := fun k => e _ _ (by omega) (by omega) (by omega)
      refine ⟨by rw [e35 b hbb]; exact hOb.1, fun i g3 g4 => ?_⟩
      rw [e35 b hbb] at g4
      have q := hOb.2 i g3 g4
      rw [eo, e1]
      have hne : w (b + 31) i ≠ p := fun g => by rw [g] at q; exact hbb q.2.symm
      rw [eq _ hne]
      exact q
  · rw [e1] at g2
    have hq := hf.2 q g1 g2
    unfold fP at hq ⊢
    rw [e 37 q (by decide) (by omega) (by omega), e 39 q (by decide) (by omega) (by omega), e 40 q (by decide) (by omega) (by omega), e0]
    by_cases g : q = p
    · rw [g, ep]
      exact ⟨by omega, fun g => by omega, fun g => by omega⟩
    · rw [eq q g]
      exact hq
theorem fK.grip8 {w w' : eW} {p a z : Int} (hf : fK w) (hB : w 19 0 ≤ 4) (hp : 0 ≤ p ∧ p < w 19 1) (hb : 4 ≤ w 36 p) (ha : 0 ≤ a ∧ a ≤ 3) (hz : z = 4 + a) (hw : e_up w 36 p z = w') : fK w' ∧ w' 36 p = 4 + a ∧ ∀ q, q ≠ p → w' 36 q = w 36 q := by
  have e : ∀ c k, ¬ (c = 36 ∧ k = p) → w' c k = w c k := fun c k g => by
    rw [← hw]
    refine e_up_ne _ _ ?_
    by_cases q : c = 36
    · exact Or.inr (fun q2 => g ⟨q, q2⟩)
    · exact Or.inl q
  have ep : w' 36 p = 4 + a := by rw [← hw, e_up_eq, hz]
  have eq : ∀ q, q ≠ p → w' 36 q = w 36 q := fun q g => e _ _ (by omega)
  refine ⟨⟨fun b g1 g2 => ?_, fun q g1 g2 => ?_⟩, ep, eq⟩
  · rw [e 19 0 (by omega)] at g2
    have hOb := hf.1 b g1 g2
    have eo : ∀ k, w' (b + 31) k = w (b + 31) k := fun k => e _ _ (by omega)
    refine ⟨by rw [e 35 b (by omega)]; exact hOb.1, fun i g3 g4 => ?_⟩
    rw [e 35 b (by omega)] at g4
    have q := hOb.2 i g3 g4
    rw [eo, e 19 1 (by omega)]
    have hne : w (b + 31) i ≠ p := fun g => by rw [g] at q; omega
    rw [eq _ hne]
    exact q
  · rw [e 19 1 (by omega)] at g2
    have hq := hf.2 q g1 g2
    unfold fP at hq ⊢
    rw [e 37 q (by omega), e 39 q (by omega), e 40 q (by omega), e 19 0 (by omega)]
    by_cases g : q = p
    · rw [g, ep]
      exact ⟨by omega, fun g => by omega, fun g => by omega⟩
    · rw [eq q g]
      exact hq
/-- a part comes to a belt -/
def cmT (w w' : eW) (b p s : Int) : Prop := (32 ≤ w 35 b ∧ w' = w) ∨ (w 35 b < 32 ∧ (w' 35 b = w 35 b + 1 ∧ w' 36 p = b ∧ w' 37 p = s) ∧ (∀ c k, c ≠ b + 31 → ¬ (c = 35 ∧ k = b) → ¬ (c = 36 ∧ k = p) → ¬ (c = 37 ∧ k = p) → w' c k = w c k) ∧ ∀ j, 0 ≤ j → j ≤ w 35 b → w' (b + 31) j = p ∨ ∃ i, (0 ≤ i ∧ i < w 35 b) ∧ w' (b + 31) j = w (b + 31) i)
theorem cmT.mk {w v w1 w2 w3 w' : eW} {b p s y n : Int} (hb : 0 ≤ b ∧ b ≤ 3) (h0 : w 35 b < 32) (hy : 0 ≤ y ∧ y ≤ w 35 b) (hv : ∀ c k, c ≠ b + 31 → v c k = w c k) (hl : ∀ j, 0 ≤ j → j < y → v (b + 31) j = w (b + 31) j) (hu : ∀ j, y < j → j ≤ w 35 b → v (b + 31) j = w (b + 31) (j - 1))
    (hn : n = w 35 b + 1) (h1 : e_up v (b + 31) y p = w1) (h2 : e_up w1 35 b n = w2) (h3 : e_up w2 36 p b = w3) (h4 : e_up w3 37 p s = w') : cmT w w' b p s := by
  have e4 : ∀ c k, ¬ (c = 37 ∧ k = p) → w' c k = w3 c k := fun c k g => by
    rw [← h4]; refine e_up_ne _ _ ?_
    by_cases q : c = 37
    · exact Or.inr (fun q2 => g ⟨q, q2⟩)
    · exact Or.inl q
  have e3 : ∀ c k, ¬ (c = 36 ∧ k = p) → w3 c k = w2 c k := fun c k g => by
    rw [← h3]; refine e_up_ne _ _ ?_
    by_cases q : c = 36
    · exact Or.inr (fun q2 => g ⟨q, q2⟩)
    · exact Or.inl q
  have e2 : ∀ c k, ¬ (c = 35 ∧ k = b) → w2 c k = w1 c k := fun c k g => by
    rw [← h2]; refine e_up_ne _ _ ?_
    by_cases q : c = 35
    · exact Or.inr (fun q2 => g ⟨q, q2⟩)
    · exact Or.inl q
  have e1 : ∀ c k, c ≠ b + 31 → w1 c k = v c k := fun c k g => by rw [← h1]; exact e_up_ne _ _ (Or.inl g)
  refine Or.inr ⟨h0, ⟨?_, ?_, ?_⟩, fun c k g1 g2 g3 g4 => ?_, fun j g1 g2 => ?_⟩
  · rw [e4 _ _ (by omega), e3 _ _ (by omega), ← h2, e_up_eq, hn]
  · rw [e4 _ _ (by omega), ← h3, e_up_eq]
  · rw [← h4, e_up_eq]
  · rw [e4 _ _ g4, e3 _ _ g3, e2 _ _ g2, e1 _ _ g1, hv _ _ g1]
  · rw [e4 _ _ (by omega), e3 _ _ (by omega), e2 _ _ (by omega)]
    by_cases q : j = y
    · rw [q, ← h1, e_up_eq]; exact Or.inl rfl
    · rw [← h1, e_up_ne _ _ (Or.inr q)]
      by_cases q2 : j < y
      · exact Or.inr ⟨j, by omega, hl j g1 q2⟩
      · exact Or.inr ⟨j - 1, by omega, hu j (by omega) g2⟩
theorem fK.come {w w' : eW} {b p s : Int} (hf : fK w) (hB : w 19 0 ≤ 4) (hb : 0 ≤ b ∧ b < w 19 0) (hp : 0 ≤ p ∧ p < w 19 1) (hs : kn1 s) (hn : ∀ b i, 0 ≤ b → b < w 19 0 → 0 ≤ i → i < w 35 b → w (b + 31) i ≠ p) (h : cmT w w' b p s) : fK w' ∧ ∀ q, q ≠ p → w' 36 q = w 36 q := by
  rcases h with ⟨-, rfl⟩ | ⟨h0, ⟨h35, h36, h37⟩, he, ho⟩
  · exact ⟨hf, fun _ _ => rfl⟩
  have e0 : w' 19 0 = w 19 0 := he _ _ (by omega) (by omega) (by omega) (by omega)
  have e1 : w' 19 1 = w 19 1 := he _ _ (by omega) (by omega) (by omega) (by omega)
  have eq : ∀ q, q ≠ p → w' 36 q = w 36 q := fun q g => he _ _ (by omega) (by omega) (by omega) (by omega)
  have hOb := hf.1 b hb.1 hb.2
  refine ⟨⟨fun b' g1 g2 => ?_, fun q g1 g2 => ?_⟩, eq⟩
  · rw [e0] at g2
    by_cases g : b' = b
    · rw [g]
      refine ⟨by rw [h35]; have := hOb.1; omega, fun i g3 g4 => ?_⟩
      rw [h35] at g4
      rcases ho i g3 (by omega) with q | ⟨j, hj, q⟩
      · rw [q, e1, h36]
        exact ⟨hp, rfl⟩
      · have q2 := hOb.2 j hj.1 hj.2
        rw [q, e1, eq _ (hn b j hb.1 hb.2 hj.1 hj.2)]
        exact q2
    · have hO := hf.1 b' g1 g2
      have eo : ∀ k, w' (b' + 31) k = w (b' + 31) k := fun k => he _ _ (by omega) (by omega) (by omega) (by omega)
      have e35 : w' 35 b' = w 35 b' := he _ _ (by omega) (by omega) (by omega) (by omega)
      refine ⟨by rw [e35]; exact hO.1, fun i g3 g4 => ?_⟩
      rw [e35] at g4
      rw [eo, e1, eq _ (hn b' i g1 g2 g3 g4)]
      exact hO.2 i g3 g4
  · rw [e1] at g2
    by_cases g : q = p
    · rw [g]
      unfold fP
      rw [h36, h37, e0]
      exact ⟨by omega, fun _ => ⟨hb.2, hs⟩, fun g => by omega⟩
    · have hq := hf.2 q g1 g2
      unfold fP at hq ⊢
      rw [eq q g, he 37 q (by omega) (by omega) (by omega) (by omega), he 39 q (by omega) (by omega) (by omega) (by omega), he 40 q (by omega) (by omega) (by omega) (by omega), e0]
      exact hq
theorem fK.lie {w w1 w2 w' : eW} {p x y : Int} (hf : fK w) (hB : w 19 0 ≤ 4) (hx : kn1 x) (hy : kn1 y) (hn : ∀ b i, 0 ≤ b → b < w 19 0 → 0 ≤ i → i < w 35 b → w (b + 31) i ≠ p) (h1 : e_up w 36 p 8 = w1) (h2 : e_up w1 39 p x = w2) (h3 : e_up w2 40 p y = w') : fK w' ∧ ∀ q, q ≠ p → w' 36 q = w 36 q := by
  have e : ∀ c k, k ≠ p ∨ (c ≠ 36 ∧ c ≠ 39 ∧ c ≠ 40) → w' c k = w c k := fun c k g => by
    rw [← h3, e_up_ne _ _ (by omega), ← h2, e_up_ne _ _ (by omega), ← h1]; exact e_up_ne _ _ (by omega)
  have e36 : w' 36 p = 8 := by rw [← h3, e_up_ne _ _ (by omega), ← h2, e_up_ne _ _ (by omega), ← h1]; exact e_up_eq _ _ _ _
  have e39 : w' 39 p = x := by rw [← h3, e_up_ne _ _ (by omega), ← h2]; exact e_up_eq _ _ _ _
  have e40 : w' 40 p = y := by rw [← h3]; exact e_up_eq _ _ _ _
  have e0 : w' 19 0 = w 19 0 := e _ _ (by omega)
  have e1 : w' 19 1 = w 19 1 := e _ _ (by omega)
  have eq : ∀ q, q ≠ p → w' 36 q = w 36 q := fun q g => e _ _ (Or.inl g)
  refine ⟨⟨fun b g1 g2 => ?_, fun q g1 g2 => ?_⟩, eq⟩
  · rw [e0] at g2
    have hO := hf.1 b g1 g2
    have eo : ∀ k, w' (b + 31) k = w (b + 31) k := fun k => e _ _ (by omega)
    have e35 : w' 35 b = w 35 b := e _ _ (by omega)
    refine ⟨by rw [e35]; exact hO.1, fun i g3 g4 => ?_⟩
    rw [e35] at g4
    rw [eo, e1, eq _ (hn b i g1 g2 g3 g4)]
    exact hO.2 i g3 g4
  · rw [e1] at g2
    by_cases g : q = p
    · rw [g]
      unfold fP
      rw [e36, e39, e40]
      exact ⟨by omega, fun g => by omega, fun _ => ⟨hx, hy⟩⟩
    · have hq := hf.2 q g1 g2
      unfold fP at hq ⊢
      rw [eq q g, e 37 q (Or.inl g), e 39 q (Or.inl g), e 40 q (Or.inl g), e0]
      exact hq
theorem c_81 {d : Nat} {w : eW} (hT : e_Has kTy w) {p : Int} (g_p : 0 ≤ p ∧ p ≤ 31) (hf : fK w) (hq : p < w 19 1) (hh : w 36 p < 4 ∨ w 36 p = 8) : e_Ok 20 elay kcode eI d 81 (0, [(0, (1, 19)), (1, (0, p))], [], w) (fun r w' => ∃ z : Int, r = [(0, z)] ∧ w = w' ∧ ((-2147483648) ≤ z ∧ z ≤ 2147483647)) := by
  have hB0 := e_Has.get hT (c := 19) (k := 0) (lo := 0) (hi := 4) rfl (by decide)
  have hP := hf.2 p (by omega) hq
  unfold fP kn1 at hP
  refine e_Ok.run (t' := (1, [(0, (1, 19)), (1, (0, p))], [(1, 19)], w)) 1 rfl ?_
  refine e_Ok.getr (z := 36) rfl (el_o rfl) rfl rfl (Eq.trans (e_Has.eq hT rfl) (by omega)) (by omega) ?_
  refine e_Ok.run (t' := (5, [(0, (1, 19)), (1, (0, p))], [(0, p), (1, 36)], w)) 1 rfl ?_
  refine e_Ok.ald (z := w 36 p) rfl (el_o rfl) rfl (by omega) rfl (by omega) ?_
  refine e_Ok.run (t' := (9, [(2, (0, w 36 p)), (0, (1, 19)), (1, (0, p))], [(0, 4), (0, w 36 p)], w)) 3 rfl ?_
  refine e_Ok.if2 rfl (fun h1 => ?_) (fun h1 => ?_)
  · replace h1 : (w 36 p : Int) ≥ 4 := h1
    refine e_Ok.run (t' := (36, [(2, (0, w 36 p)), (0, (1, 19)), (1, (0, p))], [(1, 19)], w)) 1 rfl ?_
    refine e_Ok.getr (z := 39) rfl (el_o rfl) rfl rfl (Eq.trans (e_Has.eq hT rfl) (by omega)) (by omega) ?_
    refine e_Ok.run (t' := (40, [(2, (0, w 36 p)), (0, (1, 19)), (1, (0, p))], [(0, p), (1, 39)], w)) 1 rfl ?_
    refine e_Ok.ald (z := w 39 p) rfl (el_o rfl) rfl (by omega) rfl (by omega) ?_
    refine e_Ok.rets rfl rfl ?_
    exact ⟨_, rfl, rfl, ⟨by omega, by omega⟩⟩
  · replace h1 : (w 36 p : Int) < 4 := by have q : ¬ ((w 36 p : Int) ≥ 4) := h1; omega
    refine e_Ok.run (t' := (13, [(2, (0, w 36 p)), (0, (1, 19)), (1, (0, p))], [(1, 19)], w)) 1 rfl ?_
    refine e_Ok.getr (z := 25) rfl (el_o rfl) rfl rfl (Eq.trans (e_Has.eq hT rfl) (by omega)) (by omega) ?_
    refine e_Ok.run (t' := (17, [(2, (0, w 36 p)), (0, (1, 19)), (1, (0, p))], [(0, w 36 p), (1, 25)], w)) 1 rfl ?_
    have h2 := (e_Has.get hT (c := 25) (k := w 36 p) (lo := (-2147483648)) (hi := 2147483647) rfl (by decide))
    refine e_Ok.ald (z := w 25 (w 36 p)) rfl (el_o rfl) rfl (by omega) rfl (by omega) ?_
    refine e_Ok.run (t' := (19, [(2, (0, w 36 p)), (0, (1, 19)), (1, (0, p))], [(1, 19), (0, w 25 (w 36 p))], w)) 1 rfl ?_
    refine e_Ok.getr (z := 37) rfl (el_o rfl) rfl rfl (Eq.trans (e_Has.eq hT rfl) (by omega)) (by omega) ?_
    refine e_Ok.run (t' := (23, [(2, (0, w 36 p)), (0, (1, 19)), (1, (0, p))], [(0, p), (1, 37), (0, w 25 (w 36 p))], w)) 1 rfl ?_
    refine e_Ok.ald (z := w 37 p) rfl (el_o rfl) rfl (by omega) rfl (by omega) ?_
    refine e_Ok.run (t' := (25, [(2, (0, w 36 p)), (0, (1, 19)), (1, (0, p))], [(1, 19), (0, w 37 p), (0, w 25 (w 36 p))], w)) 1 rfl ?_
    refine e_Ok.getr (z := 27) rfl (el_o rfl) rfl rfl (Eq.trans (e_Has.eq hT rfl) (by omega)) (by omega) ?_
    refine e_Ok.run (t' := (29, [(2, (0, w 36 p)), (0, (1, 19)), (1, (0, p))], [(0, w 36 p), (1, 27), (0, w 37 p), (0, w 25 (w 36 p))], w)) 1 rfl ?_
    have h3 := (e_Has.get hT (c := 27) (k := w 36 p) (lo := (-2147483648)) (hi := 2147483647) rfl (by decide))
    refine e_Ok.ald (z := w 27 (w 36 p)) rfl (el_o rfl) rfl (by omega) rfl (by omega) ?_
    refine e_Ok.any rfl (eF_mul_any _ _) (fun z4 z4a z4b => ?_)
    refine e_Ok.any rfl (eF_add_any _ _) (fun z5 z5a z5b => ?_)
    refine e_Ok.run (t' := (41, [(2, (0, w 36 p)), (0, (1, 19)), (1, (0, p))], [(0, z5)], w)) 1 rfl ?_
    refine e_Ok.rets rfl rfl ?_
    exact ⟨_, rfl, rfl, ⟨by omega, by omega⟩⟩
theorem c_82 {d : Nat} {w : eW} (hT : e_Has kTy w) {p : Int} (g_p : 0 ≤ p ∧ p ≤ 31) (hf : fK w) (hq : p < w 19 1) (hh : w 36 p < 4 ∨ w 36 p = 8) : e_Ok 20 elay kcode eI d 82 (0, [(0, (1, 19)), (1, (0, p))], [], w) (fun r w' => ∃ z : Int, r = [(0, z)] ∧ w = w' ∧ ((-2147483648) ≤ z ∧ z ≤ 2147483647)) := by
  have hB0 := e_Has.get hT (c := 19) (k := 0) (lo := 0) (hi := 4) rfl (by decide)
  have hP := hf.2 p (by omega) hq
  unfold fP kn1 at hP
  refine e_Ok.run (t' := (1, [(0, (1, 19)), (1, (0, p))], [(1, 19)], w)) 1 rfl ?_
  refine e_Ok.getr (z := 36) rfl (el_o rfl) rfl rfl (Eq.trans (e_Has.eq hT rfl) (by omega)) (by omega) ?_
  refine e_Ok.run (t' := (5, [(0, (1, 19)), (1, (0, p))], [(0, p), (1, 36)], w)) 1 rfl ?_
  refine e_Ok.ald (z := w 36 p) rfl (el_o rfl) rfl (by omega) rfl (by omega) ?_
  refine e_Ok.run (t' := (9, [(2, (0, w 36 p)), (0, (1, 19)), (1, (0, p))], [(0, 4), (0, w 36 p)], w)) 3 rfl ?_
  refine e_Ok.if2 rfl (fun h1 => ?_) (fun h1 => ?_)
  · replace h1 : (w 36 p : Int) ≥ 4 := h1
    refine e_Ok.run (t' := (36, [(2, (0, w 36 p)), (0, (1, 19)), (1, (0, p))], [(1, 19)], w)) 1 rfl ?_
    refine e_Ok.getr (z := 40) rfl (el_o rfl) rfl rfl (Eq.trans (e_Has.eq hT rfl) (by omega)) (by omega) ?_
    refine e_Ok.run (t' := (40, [(2, (0, w 36 p)), (0, (1, 19)), (1, (0, p))], [(0, p), (1, 40)], w)) 1 rfl ?_
    refine e_Ok.ald (z := w 40 p) rfl (el_o rfl) rfl (by omega) rfl (by omega) ?_
    refine e_Ok.rets rfl rfl ?_
    exact ⟨_, rfl, rfl, ⟨by omega, by omega⟩⟩
  · replace h1 : (w 36 p : Int) < 4 := by have q : ¬ ((w 36 p : Int) ≥ 4) := h1; omega
    refine e_Ok.run (t' := (13, [(2, (0, w 36 p)), (0, (1, 19)), (1, (0, p))], [(1, 19)], w)) 1 rfl ?_
    refine e_Ok.getr (z := 26) rfl (el_o rfl) rfl rfl (Eq.trans (e_Has.eq hT rfl) (by omega)) (by omega) ?_
    refine e_Ok.run (t' := (17, [(2, (0, w 36 p)), (0, (1, 19)), (1, (0, p))], [(0, w 36 p), (1, 26)], w)) 1 rfl ?_
    have h2 := (e_Has.get hT (c := 26) (k := w 36 p) (lo := (-2147483648)) (hi := 2147483647) rfl (by decide))
    refine e_Ok.ald (z := w 26 (w 36 p)) rfl (el_o rfl) rfl (by omega) rfl (by omega) ?_
    refine e_Ok.run (t' := (19, [(2, (0, w 36 p)), (0, (1, 19)), (1, (0, p))], [(1, 19), (0, w 26 (w 36 p))], w)) 1 rfl ?_
    refine e_Ok.getr (z := 37) rfl (el_o rfl) rfl rfl (Eq.trans (e_Has.eq hT rfl) (by omega)) (by omega) ?_
    refine e_Ok.run (t' := (23, [(2, (0, w 36 p)), (0, (1, 19)), (1, (0, p))], [(0, p), (1, 37), (0, w 26 (w 36 p))], w)) 1 rfl ?_
    refine e_Ok.ald (z := w 37 p) rfl (el_o rfl) rfl (by omega) rfl (by omega) ?_
    refine e_Ok.run (t' := (25, [(2, (0, w 36 p)), (0, (1, 19)), (1, (0, p))], [(1, 19), (0, w 37 p), (0, w 26 (w 36 p))], w)) 1 rfl ?_
    refine e_Ok.getr (z := 28) rfl (el_o rfl) rfl rfl (Eq.trans (e_Has.eq hT rfl) (by omega)) (by omega) ?_
    refine e_Ok.run (t' := (29, [(2, (0, w 36 p)), (0, (1, 19)), (1, (0, p))], [(0, w 36 p), (1, 28), (0, w 37 p), (0, w 26 (w 36 p))], w)) 1 rfl ?_
    have h3 := (e_Has.get hT (c := 28) (k := w 36 p) (lo := (-2147483648)) (hi := 2147483647) rfl (by decide))
    refine e_Ok.ald (z := w 28 (w 36 p)) rfl (el_o rfl) rfl (by omega) rfl (by omega) ?_
    refine e_Ok.any rfl (eF_mul_any _ _) (fun z4 z4a z4b => ?_)
    refine e_Ok.any rfl (eF_add_any _ _) (fun z5 z5a z5b => ?_)
    refine e_Ok.run (t' := (41, [(2, (0, w 36 p)), (0, (1, 19)), (1, (0, p))], [(0, z5)], w)) 1 rfl ?_
    refine e_Ok.rets rfl rfl ?_
    exact ⟨_, rfl, rfl, ⟨by omega, by omega⟩⟩
theorem c_83 {d : Nat} (hd : 21 ≤ d) {w : eW} (hT : e_Has kTy w) {x y rr : Int} (g_x : (-2147483648) ≤ x ∧ x ≤ 2147483647) (g_y : (-2147483648) ≤ y ∧ y ≤ 2147483647) (g_rr : (-2147483648) ≤ rr ∧ rr ≤ 2147483647) (hf : fK w) : e_Ok 20 elay kcode eI d 83 (0, [(0, (1, 19)), (1, (0, x)), (2, (0, y)), (3, (0, rr))], [], w) (fun r w' => ∃ z : Int, r = [(0, z)] ∧ w = w' ∧ ((-1) ≤ z ∧ z ≤ 31) ∧ z < w 19 1 ∧ (0 ≤ z → w 36 z < 4 ∨ w 36 z = 8)) := by
  obtain ⟨d, rfl⟩ : ∃ e, d = e + 1 := ⟨d - 1, by omega⟩
  have hB0 := e_Has.get hT (c := 19) (k := 0) (lo := 0) (hi := 4) rfl (by decide)
  have hM0 := e_Has.get hT (c := 19) (k := 1) (lo := 0) (hi := 32) rfl (by decide)
  refine e_Ok.run (t' := (7, [(4, (0, (-1))), (0, (1, 19)), (1, (0, x)), (2, (0, y)), (3, (0, rr))], [(4, rr), (4, rr)], w)) 6 rfl ?_
  refine e_Ok.anyL rfl ⟨_, rfl⟩ (fun x1 => ?_)
  refine e_Ok.run (t' := (13, [(7, (0, 0)), (5, (4, x1)), (4, (0, (-1))), (0, (1, 19)), (1, (0, x)), (2, (0, y)), (3, (0, rr))], [], w)) 3 rfl ?_
  have hL2 : ∀ (nn : Nat) (y4 : Int) (y5 : Int) (y7 : Int), ((-1 ≤ y4 ∧ y4 < w 19 1)) ∧ (0 ≤ y4 → w 36 y4 < 4 ∨ w 36 y4 = 8) ∧ (0 ≤ y7 ∧ y7 ≤ 32) → 32 - y7 < nn → e_Ok 20 elay kcode eI (d + 1) 83 (13, [(0, (1, 19)), (1, (0, x)), (2, (0, y)), (4, (0, y4)), (5, (4, y5)), (7, (0, y7))], [], w) (fun r w' => ∃ z : Int, r = [(0, z)] ∧ w = w' ∧ ((-1) ≤ z ∧ z ≤ 31) ∧ z < w 19 1 ∧ (0 ≤ z → w 36 z < 4 ∨ w 36 z = 8)) := by
    intro nn
    induction nn with
    | zero => intro y4 y5 y7 hj hm; obtain ⟨j4, j5, j6⟩ := hj; exfalso; omega
    | succ nn ih3 =>
      intro y4 y5 y7 hj hm
      obtain ⟨j4, j5, j6⟩ := hj
      refine e_Ok.run (t' := (16, [(0, (1, 19)), (1, (0, x)), (2, (0, y)), (4, (0, y4)), (5, (4, y5)), (7, (0, y7))], [(1, 19), (0, y7)], w)) 2 rfl ?_
      have h7 := (e_Has.get hT (c := 19) (k := 1) (lo := 0) (hi := 32) rfl (by decide))
      refine e_Ok.getf (z := w 19 1) rfl (el_o rfl) rfl rfl rfl (by omega) ?_
      refine e_Ok.if2 rfl (fun h8 => ?_) (fun h8 => ?_)
      · replace h8 : (y7 : Int) ≥ w 19 1 := h8
        refine e_Ok.run (t' := (106, [(0, (1, 19)), (1, (0, x)), (2, (0, y)), (4, (0, y4)), (5, (4, y5)), (7, (0, y7))], [(0, y4)], w)) 1 rfl ?_
        refine e_Ok.rets rfl rfl ?_
        exact ⟨_, rfl, rfl, ⟨by omega, by omega⟩, by omega, by omega⟩
      · replace h8 : (y7 : Int) < w 19 1 := by have q : ¬ ((y7 : Int) ≥ w 19 1) := h8; omega
        have hP := hf.2 y7 (by omega) (by omega)
        unfold fP kn1 at hP; replace hP := hP.1
        refine e_Ok.run (t' := (23, [(0, (1, 19)), (1, (0, x)), (2, (0, y)), (4, (0, y4)), (5, (4, y5)), (7, (0, y7))], [(1, 19)], w)) 1 rfl ?_
        refine e_Ok.getr (z := 36) rfl (el_o rfl) rfl rfl (Eq.trans (e_Has.eq hT rfl) (by omega)) (by omega) ?_
        refine e_Ok.run (t' := (28, [(0, (1, 19)), (1, (0, x)), (2, (0, y)), (4, (0, y4)), (5, (4, y5)), (7, (0, y7))], [(0, y7), (1, 36)], w)) 1 rfl ?_
        refine e_Ok.ald (z := w 36 y7) rfl (el_o rfl) rfl (by omega) rfl (by omega) ?_
        refine e_Ok.run (t' := (30, [(0, (1, 19)), (1, (0, x)), (2, (0, y)), (4, (0, y4)), (5, (4, y5)), (7, (0, y7))], [(0, 4), (0, w 36 y7)], w)) 1 rfl ?_
        refine e_Ok.if2 rfl (fun h9 => ?_) (fun h9 => ?_)
        · replace h9 : (w 36 y7 : Int) < 4 := h9
          refine e_Ok.run (t' := (51, [(0, (1, 19)), (1, (0, x)), (2, (0, y)), (4, (0, y4)), (5, (4, y5)), (7, (0, y7))], [(0, y7), (1, 19)], w)) 2 rfl ?_
          refine e_Ok.callV rfl (by omega) rfl rfl rfl rfl (c_81 hT (by omega) hf (by omega) (by omega)) (fun r10 w11 h12 => ?_)
          obtain ⟨z14, rfl, rfl, q13r⟩ := h12
          show e_Ok 20 elay kcode eI (d + 1) 83 (54, [(0, (1, 19)), (1, (0, x)), (2, (0, y)), (4, (0, y4)), (5, (4, y5)), (7, (0, y7))], [(0, z14)], w) _
          refine e_Ok.run (t' := (55, [(0, (1, 19)), (1, (0, x)), (2, (0, y)), (4, (0, y4)), (5, (4, y5)), (7, (0, y7))], [(0, x), (0, z14)], w)) 1 rfl ?_
          refine e_Ok.any rfl (eF_sub_any _ _) (fun z15 z15a z15b => ?_)
          refine e_Ok.run (t' := (59, [(0, (1, 19)), (1, (0, x)), (2, (0, y)), (4, (0, y4)), (5, (4, y5)), (7, (0, y7))], [(0, y7), (1, 19), (0, z15)], w)) 2 rfl ?_
          refine e_Ok.callV rfl (by omega) rfl rfl rfl rfl (c_82 hT (by omega) hf (by omega) (by omega)) (fun r16 w17 h18 => ?_)
          obtain ⟨z20, rfl, rfl, q19r⟩ := h18
          show e_Ok 20 elay kcode eI (d + 1) 83 (62, [(0, (1, 19)), (1, (0, x)), (2, (0, y)), (4, (0, y4)), (5, (4, y5)), (7, (0, y7))], [(0, z20), (0, z15)], w) _
          refine e_Ok.run (t' := (63, [(0, (1, 19)), (1, (0, x)), (2, (0, y)), (4, (0, y4)), (5, (4, y5)), (7, (0, y7))], [(0, y), (0, z20), (0, z15)], w)) 1 rfl ?_
          refine e_Ok.any rfl (eF_sub_any _ _) (fun z21 z21a z21b => ?_)
          refine e_Ok.callS rfl (by omega) rfl rfl (c_178 (by omega) (by omega)) (fun r22 w23 h24 => ?_)
          obtain ⟨x25, rfl, rfl⟩ := h24
          show e_Ok 20 elay kcode eI (d + 1) 83 (67, [(0, (1, 19)), (1, (0, x)), (2, (0, y)), (4, (0, y4)), (5, (4, y5)), (7, (0, y7))], [(4, x25)], w) _
          refine e_Ok.run (t' := (73, [(8, (4, x25)), (0, (1, 19)), (1, (0, x)), (2, (0, y)), (4, (0, y4)), (5, (4, y5)), (7, (0, y7))], [(4, y5), (4, x25)], w)) 3 rfl ?_
          refine e_Ok.lcmp rfl (fun z26 z26a z26b z26c => ?_)
          refine e_Ok.if1 rfl (fun h27 => ?_) (fun h27 => ?_)
          · replace h27 : (z26 : Int) < 0 := h27
            refine e_Ok.run (t' := (98, [(5, (4, x25)), (4, (0, y7)), (8, (4, x25)), (0, (1, 19)), (1, (0, x)), (2, (0, y)), (7, (0, y7))], [], w)) 4 rfl ?_
            refine e_Ok.inc (z := y7 + 1) rfl rfl (by omega) (by omega) ?_
            show e_Ok 20 elay kcode eI (d + 1) 83 (101, [(7, (0, y7 + 1)), (5, (4, x25)), (4, (0, y7)), (8, (4, x25)), (0, (1, 19)), (1, (0, x)), (2, (0, y))], [], w) _
            refine e_Ok.run (t' := (13, [(7, (0, y7 + 1)), (5, (4, x25)), (4, (0, y7)), (8, (4, x25)), (0, (1, 19)), (1, (0, x)), (2, (0, y))], [], w)) 1 rfl ?_
            refine e_Ok.sub kAlk (e_sub_of rfl ?_) (ih3 y7 x25 (y7 + 1) ⟨by omega, by omega, by omega⟩ (by omega))
            exact ⟨rfl, rfl, rfl, rfl, rfl, rfl, trivial⟩
          · replace h27 : (z26 : Int) ≥ 0 := by have q : ¬ ((z26 : Int) < 0) := h27; omega
            refine e_Ok.run (t' := (81, [(8, (4, x25)), (0, (1, 19)), (1, (0, x)), (2, (0, y)), (4, (0, y4)), (5, (4, y5)), (7, (0, y7))], [(4, y5), (4, x25)], w)) 2 rfl ?_
            refine e_Ok.lcmp rfl (fun z28 z28a z28b z28c => ?_)
            refine e_Ok.if1 rfl (fun h29 => ?_) (fun h29 => ?_)
            · replace h29 : (z28 : Int) ≠ 0 := h29
              refine e_Ok.inc (z := y7 + 1) rfl rfl (by omega) (by omega) ?_
              show e_Ok 20 elay kcode eI (d + 1) 83 (101, [(7, (0, y7 + 1)), (8, (4, x25)), (0, (1, 19)), (1, (0, x)), (2, (0, y)), (4, (0, y4)), (5, (4, y5))], [], w) _
              refine e_Ok.run (t' := (13, [(7, (0, y7 + 1)), (8, (4, x25)), (0, (1, 19)), (1, (0, x)), (2, (0, y)), (4, (0, y4)), (5, (4, y5))], [], w)) 1 rfl ?_
              refine e_Ok.sub kAlk (e_sub_of rfl ?_) (ih3 y4 y5 (y7 + 1) ⟨by omega, by omega, by omega⟩ (by omega))
              exact ⟨rfl, rfl, rfl, rfl, rfl, rfl, trivial⟩
            · replace h29 : (z28 : Int) = 0 := by have q : ¬ ((z28 : Int) ≠ 0) := h29; omega
              refine e_Ok.run (t' := (87, [(8, (4, x25)), (0, (1, 19)), (1, (0, x)), (2, (0, y)), (4, (0, y4)), (5, (4, y5)), (7, (0, y7))], [(0, y4)], w)) 1 rfl ?_
              refine e_Ok.if1 rfl (fun h30 => ?_) (fun h30 => ?_)
              · replace h30 : (y4 : Int) ≥ 0 := h30
                refine e_Ok.inc (z := y7 + 1) rfl rfl (by omega) (by omega) ?_
                show e_Ok 20 elay kcode eI (d + 1) 83 (101, [(7, (0, y7 + 1)), (8, (4, x25)), (0, (1, 19)), (1, (0, x)), (2, (0, y)), (4, (0, y4)), (5, (4, y5))], [], w) _
                refine e_Ok.run (t' := (13, [(7, (0, y7 + 1)), (8, (4, x25)), (0, (1, 19)), (1, (0, x)), (2, (0, y)), (4, (0, y4)), (5, (4, y5))], [], w)) 1 rfl ?_
                refine e_Ok.sub kAlk (e_sub_of rfl ?_) (ih3 y4 y5 (y7 + 1) ⟨by omega, by omega, by omega⟩ (by omega))
                exact ⟨rfl, rfl, rfl, rfl, rfl, rfl, trivial⟩
              · replace h30 : (y4 : Int) < 0 := by have q : ¬ ((y4 : Int) ≥ 0) := h30; omega
                refine e_Ok.run (t' := (98, [(5, (4, x25)), (4, (0, y7)), (8, (4, x25)), (0, (1, 19)), (1, (0, x)), (2, (0, y)), (7, (0, y7))], [], w)) 4 rfl ?_
                refine e_Ok.inc (z := y7 + 1) rfl rfl (by omega) (by omega) ?_
                show e_Ok 20 elay kcode eI (d + 1) 83 (101, [(7, (0, y7 + 1)), (5, (4, x25)), (4, (0, y7)), (8, (4, x25)), (0, (1, 19)), (1, (0, x)), (2, (0, y))], [], w) _
                refine e_Ok.run (t' := (13, [(7, (0, y7 + 1)), (5, (4, x25)), (4, (0, y7)), (8, (4, x25)), (0, (1, 19)), (1, (0, x)), (2, (0, y))], [], w)) 1 rfl ?_
                refine e_Ok.sub kAlk (e_sub_of rfl ?_) (ih3 y7 x25 (y7 + 1) ⟨by omega, by omega, by omega⟩ (by omega))
                exact ⟨rfl, rfl, rfl, rfl, rfl, rfl, trivial⟩
        · replace h9 : (w 36 y7 : Int) ≥ 4 := by have q : ¬ ((w 36 y7 : Int) < 4) := h9; omega
          refine e_Ok.run (t' := (34, [(0, (1, 19)), (1, (0, x)), (2, (0, y)), (4, (0, y4)), (5, (4, y5)), (7, (0, y7))], [(1, 19)], w)) 1 rfl ?_
          refine e_Ok.getr (z := 36) rfl (el_o rfl) rfl rfl (Eq.trans (e_Has.eq hT rfl) (by omega)) (by omega) ?_
          refine e_Ok.run (t' := (39, [(0, (1, 19)), (1, (0, x)), (2, (0, y)), (4, (0, y4)), (5, (4, y5)), (7, (0, y7))], [(0, y7), (1, 36)], w)) 1 rfl ?_
          refine e_Ok.ald (z := w 36 y7) rfl (el_o rfl) rfl (by omega) rfl (by omega) ?_
          refine e_Ok.run (t' := (42, [(0, (1, 19)), (1, (0, x)), (2, (0, y)), (4, (0, y4)), (5, (4, y5)), (7, (0, y7))], [(0, 8), (0, w 36 y7)], w)) 1 rfl ?_
          refine e_Ok.if2 rfl (fun h31 => ?_) (fun h31 => ?_)
          · replace h31 : (w 36 y7 : Int) = 8 := h31
            refine e_Ok.run (t' := (51, [(0, (1, 19)), (1, (0, x)), (2, (0, y)), (4, (0, y4)), (5, (4, y5)), (7, (0, y7))], [(0, y7), (1, 19)], w)) 2 rfl ?_
            refine e_Ok.callV rfl (by omega) rfl rfl rfl rfl (c_81 hT (by omega) hf (by omega) (by omega)) (fun r32 w33 h34 => ?_)
            obtain ⟨z36, rfl, rfl, q35r⟩ := h34
            show e_Ok 20 elay kcode eI (d + 1) 83 (54, [(0, (1, 19)), (1, (0, x)), (2, (0, y)), (4, (0, y4)), (5, (4, y5)), (7, (0, y7))], [(0, z36)], w) _
            refine e_Ok.run (t' := (55, [(0, (1, 19)), (1, (0, x)), (2, (0, y)), (4, (0, y4)), (5, (4, y5)), (7, (0, y7))], [(0, x), (0, z36)], w)) 1 rfl ?_
            refine e_Ok.any rfl (eF_sub_any _ _) (fun z37 z37a z37b => ?_)
            refine e_Ok.run (t' := (59, [(0, (1, 19)), (1, (0, x)), (2, (0, y)), (4, (0, y4)), (5, (4, y5)), (7, (0, y7))], [(0, y7), (1, 19), (0, z37)], w)) 2 rfl ?_
            refine e_Ok.callV rfl (by omega) rfl rfl rfl rfl (c_82 hT (by omega) hf (by omega) (by omega)) (fun r38 w40 h41 => ?_)
            obtain ⟨z43, rfl, rfl, q42r⟩ := h41
            show e_Ok 20 elay kcode eI (d + 1) 83 (62, [(0, (1, 19)), (1, (0, x)), (2, (0, y)), (4, (0, y4)), (5, (4, y5)), (7, (0, y7))], [(0, z43), (0, z37)], w) _
            refine e_Ok.run (t' := (63, [(0, (1, 19)), (1, (0, x)), (2, (0, y)), (4, (0, y4)), (5, (4, y5)), (7, (0, y7))], [(0, y), (0, z43), (0, z37)], w)) 1 rfl ?_
            refine e_Ok.any rfl (eF_sub_any _ _) (fun z44 z44a z44b => ?_)
            refine e_Ok.callS rfl (by omega) rfl rfl (c_178 (by omega) (by omega)) (fun r45 w46 h47 => ?_)
            obtain ⟨x48, rfl, rfl⟩ := h47
            show e_Ok 20 elay kcode eI (d + 1) 83 (67, [(0, (1, 19)), (1, (0, x)), (2, (0, y)), (4, (0, y4)), (5, (4, y5)), (7, (0, y7))], [(4, x48)], w) _
            refine e_Ok.run (t' := (73, [(8, (4, x48)), (0, (1, 19)), (1, (0, x)), (2, (0, y)), (4, (0, y4)), (5, (4, y5)), (7, (0, y7))], [(4, y5), (4, x48)], w)) 3 rfl ?_
            refine e_Ok.lcmp rfl (fun z49 z49a z49b z49c => ?_)
            refine e_Ok.if1 rfl (fun h50 => ?_) (fun h50 => ?_)
            · replace h50 : (z49 : Int) < 0 := h50
              refine e_Ok.run (t' := (98, [(5, (4, x48)), (4, (0, y7)), (8, (4, x48)), (0, (1, 19)), (1, (0, x)), (2, (0, y)), (7, (0, y7))], [], w)) 4 rfl ?_
              refine e_Ok.inc (z := y7 + 1) rfl rfl (by omega) (by omega) ?_
              show e_Ok 20 elay kcode eI (d + 1) 83 (101, [(7, (0, y7 + 1)), (5, (4, x48)), (4, (0, y7)), (8, (4, x48)), (0, (1, 19)), (1, (0, x)), (2, (0, y))], [], w) _
              refine e_Ok.run (t' := (13, [(7, (0, y7 + 1)), (5, (4, x48)), (4, (0, y7)), (8, (4, x48)), (0, (1, 19)), (1, (0, x)), (2, (0, y))], [], w)) 1 rfl ?_
              refine e_Ok.sub kAlk (e_sub_of rfl ?_) (ih3 y7 x48 (y7 + 1) ⟨by omega, by omega, by omega⟩ (by omega))
              exact ⟨rfl, rfl, rfl, rfl, rfl, rfl, trivial⟩
            · replace h50 : (z49 : Int) ≥ 0 := by have q : ¬ ((z49 : Int) < 0) := h50; omega
              refine e_Ok.run (t' := (81, [(8, (4, x48)), (0, (1, 19)), (1, (0, x)), (2, (0, y)), (4, (0, y4)), (5, (4, y5)), (7, (0, y7))], [(4, y5), (4, x48)], w)) 2 rfl ?_
              refine e_Ok.lcmp rfl (fun z51 z51a z51b z51c => ?_)
              refine e_Ok.if1 rfl (fun h52 => ?_) (fun h52 => ?_)
              · replace h52 : (z51 : Int) ≠ 0 := h52
                refine e_Ok.inc (z := y7 + 1) rfl rfl (by omega) (by omega) ?_
                show e_Ok 20 elay kcode eI (d + 1) 83 (101, [(7, (0, y7 + 1)), (8, (4, x48)), (0, (1, 19)), (1, (0, x)), (2, (0, y)), (4, (0, y4)), (5, (4, y5))], [], w) _
                refine e_Ok.run (t' := (13, [(7, (0, y7 + 1)), (8, (4, x48)), (0, (1, 19)), (1, (0, x)), (2, (0, y)), (4, (0, y4)), (5, (4, y5))], [], w)) 1 rfl ?_
                refine e_Ok.sub kAlk (e_sub_of rfl ?_) (ih3 y4 y5 (y7 + 1) ⟨by omega, by omega, by omega⟩ (by omega))
                exact ⟨rfl, rfl, rfl, rfl, rfl, rfl, trivial⟩
              · replace h52 : (z51 : Int) = 0 := by have q : ¬ ((z51 : Int) ≠ 0) := h52; omega
                refine e_Ok.run (t' := (87, [(8, (4, x48)), (0, (1, 19)), (1, (0, x)), (2, (0, y)), (4, (0, y4)), (5, (4, y5)), (7, (0, y7))], [(0, y4)], w)) 1 rfl ?_
                refine e_Ok.if1 rfl (fun h53 => ?_) (fun h53 => ?_)
                · replace h53 : (y4 : Int) ≥ 0 := h53
                  refine e_Ok.inc (z := y7 + 1) rfl rfl (by omega) (by omega) ?_
                  show e_Ok 20 elay kcode eI (d + 1) 83 (101, [(7, (0, y7 + 1)), (8, (4, x48)), (0, (1, 19)), (1, (0, x)), (2, (0, y)), (4, (0, y4)), (5, (4, y5))], [], w) _
                  refine e_Ok.run (t' := (13, [(7, (0, y7 + 1)), (8, (4, x48)), (0, (1, 19)), (1, (0, x)), (2, (0, y)), (4, (0, y4)), (5, (4, y5))], [], w)) 1 rfl ?_
                  refine e_Ok.sub kAlk (e_sub_of rfl ?_) (ih3 y4 y5 (y7 + 1) ⟨by omega, by omega, by omega⟩ (by omega))
                  exact ⟨rfl, rfl, rfl, rfl, rfl, rfl, trivial⟩
                · replace h53 : (y4 : Int) < 0 := by have q : ¬ ((y4 : Int) ≥ 0) := h53; omega
                  refine e_Ok.run (t' := (98, [(5, (4, x48)), (4, (0, y7)), (8, (4, x48)), (0, (1, 19)), (1, (0, x)), (2, (0, y)), (7, (0, y7))], [], w)) 4 rfl ?_
                  refine e_Ok.inc (z := y7 + 1) rfl rfl (by omega) (by omega) ?_
                  show e_Ok 20 elay kcode eI (d + 1) 83 (101, [(7, (0, y7 + 1)), (5, (4, x48)), (4, (0, y7)), (8, (4, x48)), (0, (1, 19)), (1, (0, x)), (2, (0, y))], [], w) _
                  refine e_Ok.run (t' := (13, [(7, (0, y7 + 1)), (5, (4, x48)), (4, (0, y7)), (8, (4, x48)), (0, (1, 19)), (1, (0, x)), (2, (0, y))], [], w)) 1 rfl ?_
                  refine e_Ok.sub kAlk (e_sub_of rfl ?_) (ih3 y7 x48 (y7 + 1) ⟨by omega, by omega, by omega⟩ (by omega))
                  exact ⟨rfl, rfl, rfl, rfl, rfl, rfl, trivial⟩
          · replace h31 : (w 36 y7 : Int) ≠ 8 := by have q : ¬ ((w 36 y7 : Int) = 8) := h31; omega
            refine e_Ok.run (t' := (98, [(0, (1, 19)), (1, (0, x)), (2, (0, y)), (4, (0, y4)), (5, (4, y5)), (7, (0, y7))], [], w)) 1 rfl ?_
            refine e_Ok.inc (z := y7 + 1) rfl rfl (by omega) (by omega) ?_
            show e_Ok 20 elay kcode eI (d + 1) 83 (101, [(7, (0, y7 + 1)), (0, (1, 19)), (1, (0, x)), (2, (0, y)), (4, (0, y4)), (5, (4, y5))], [], w) _
            refine e_Ok.run (t' := (13, [(7, (0, y7 + 1)), (0, (1, 19)), (1, (0, x)), (2, (0, y)), (4, (0, y4)), (5, (4, y5))], [], w)) 1 rfl ?_
            refine e_Ok.sub kAlk (e_sub_of rfl ?_) (ih3 y4 y5 (y7 + 1) ⟨by omega, by omega, by omega⟩ (by omega))
            exact ⟨rfl, rfl, rfl, rfl, rfl, rfl, trivial⟩
  refine e_Ok.sub kAlk (e_sub_of rfl ?_) (hL2 (32 + 1 : Int).toNat (-1) x1 0 ⟨by omega, by omega, by omega⟩ (by omega))
  exact ⟨rfl, rfl, rfl, rfl, rfl, rfl, trivial⟩
theorem c_84 {d : Nat} {w : eW} (hT : e_Has kTy w) {a p : Int} (g_a : 0 ≤ a ∧ a ≤ 3) (g_p : 0 ≤ p ∧ p ≤ 31) (hf : fK w) (hq0 : p < w 19 1) (hh : w 36 p < 4 ∨ w 36 p = 8) : e_Ok 20 elay kcode eI d 84 (0, [(0, (1, 19)), (1, (0, a)), (2, (0, p))], [], w) (fun r w' => r = [] ∧ e_fr kFl w w' ∧ e_Has kTy w' ∧ (fK w' ∧ w' 36 p = 4 + a ∧ ∀ q, q ≠ p → w' 36 q = w 36 q)) := by
  have hB0 := e_Has.get hT (c := 19) (k := 0) (lo := 0) (hi := 4) rfl (by decide)
  have hM0 := e_Has.get hT (c := 19) (k := 1) (lo := 0) (hi := 32) rfl (by decide)
  have hP := hf.2 p (by omega) hq0
  unfold fP kn1 at hP
  have hO := hf.1 (w 36 p)
  unfold fO at hO
  refine e_Ok.run (t' := (1, [(0, (1, 19)), (1, (0, a)), (2, (0, p))], [(1, 19)], w)) 1 rfl ?_
  refine e_Ok.getr (z := 36) rfl (el_o rfl) rfl rfl (Eq.trans (e_Has.eq hT rfl) (by omega)) (by omega) ?_
  refine e_Ok.run (t' := (5, [(0, (1, 19)), (1, (0, a)), (2, (0, p))], [(0, p), (1, 36)], w)) 1 rfl ?_
  refine e_Ok.ald (z := w 36 p) rfl (el_o rfl) rfl (by omega) rfl (by omega) ?_
  refine e_Ok.run (t' := (8, [(3, (0, w 36 p)), (0, (1, 19)), (1, (0, a)), (2, (0, p))], [(1, 19)], w)) 2 rfl ?_
  refine e_Ok.getr (z := 36) rfl (el_o rfl) rfl rfl (Eq.trans (e_Has.eq hT rfl) (by omega)) (by omega) ?_
  refine e_Ok.run (t' := (14, [(3, (0, w 36 p)), (0, (1, 19)), (1, (0, a)), (2, (0, p))], [(0, a), (0, 4), (0, p), (1, 36)], w)) 3 rfl ?_
  refine e_Ok.add (z := a + 4) rfl (by omega) (by omega) ?_
  refine e_Ok.ast rfl (el_o rfl) rfl rfl (by omega) ?_
  generalize hw1 : e_up w 36 p (a + 4) = w1
  have f2 : e_fr kFl w w1 := e_fr.up (e_fr.refl w) hw1 (by unfold kFl; omega)
  have hT3 : e_Has kTy w1 := e_Has.ups hT hw1 rfl
  refine e_Ok.run (t' := (18, [(3, (0, w 36 p)), (0, (1, 19)), (1, (0, a)), (2, (0, p))], [(0, 4), (0, w 36 p)], w1)) 2 rfl ?_
  refine e_Ok.if2 rfl (fun h4 => ?_) (fun h4 => ?_)
  · replace h4 : (w 36 p : Int) < 4 := h4
    refine e_Ok.run (t' := (28, [(5, (0, 0)), (4, (0, 0)), (3, (0, w 36 p)), (0, (1, 19)), (1, (0, a)), (2, (0, p))], [], w1)) 4 rfl ?_
    have hL5 : ∀ (nn : Nat) (y4 : Int) (y5 : Int) (v1 : eW), e_fr kFl w v1 ∧ e_Has kTy v1 ∧ (∀ c k, c ≠ w 36 p + 31 → ¬ (c = 36 ∧ k = p) → v1 c k = w c k) ∧ v1 36 p = 4 + a ∧ (∀ j, y5 ≤ j → v1 (w 36 p + 31) j = w (w 36 p + 31) j) ∧ (∀ j, 0 ≤ j → j < y4 → (0 ≤ v1 (w 36 p + 31) j ∧ v1 (w 36 p + 31) j < w 19 1) ∧ v1 (w 36 p + 31) j ≠ p ∧ w 36 (v1 (w 36 p + 31) j) = w 36 p) ∧ ((y4 ≤ y5 ∧ y5 ≤ w 35 (w 36 p))) ∧ (0 ≤ y4 ∧ y4 ≤ 32) ∧ (0 ≤ y5 ∧ y5 ≤ 32) → 32 - y5 < nn → e_Ok 20 elay kcode eI d 84 (28, [(0, (1, 19)), (1, (0, a)), (2, (0, p)), (3, (0, w 36 p)), (4, (0, y4)), (5, (0, y5))], [], v1) (fun r w' => r = [] ∧ e_fr kFl w w' ∧ e_Has kTy w' ∧ (fK w' ∧ w' 36 p = 4 + a ∧ ∀ q, q ≠ p → w' 36 q = w 36 q)) := by
      intro nn
      induction nn with
      | zero => intro y4 y5 v1 hj hm; obtain ⟨j7, j8, j9, j10, j11, j12, j13, j14, j15⟩ := hj; exfalso; omega
      | succ nn ih6 =>
        intro y4 y5 v1 hj hm
        obtain ⟨j7, j8, j9, j10, j11, j12, j13, j14, j15⟩ := hj
        have hO1 := (hO (by omega) (by omega)).1
        have e35 : v1 35 (w 36 p) = w 35 (w 36 p) := j9 _ _ (by omega) (by omega)
        refine e_Ok.run (t' := (31, [(0, (1, 19)), (1, (0, a)), (2, (0, p)), (3, (0, w 36 p)), (4, (0, y4)), (5, (0, y5))], [(1, 19), (0, y5)], v1)) 2 rfl ?_
        refine e_Ok.getr (z := 35) rfl (el_o rfl) rfl rfl ((j7 19 13 (by unfold kFl; omega)).trans (Eq.trans (e_Has.eq hT rfl) (by omega))) (by omega) ?_
        refine e_Ok.run (t' := (35, [(0, (1, 19)), (1, (0, a)), (2, (0, p)), (3, (0, w 36 p)), (4, (0, y4)), (5, (0, y5))], [(0, w 36 p), (1, 35), (0, y5)], v1)) 1 rfl ?_
        refine e_Ok.ald (z := w 35 (w 36 p)) rfl (el_o rfl) rfl (by omega) e35 (by omega) ?_
        refine e_Ok.if2 rfl (fun h16 => ?_) (fun h16 => ?_)
        · replace h16 : (y5 : Int) ≥ w 35 (w 36 p) := h16
          refine e_Ok.run (t' := (80, [(0, (1, 19)), (1, (0, a)), (2, (0, p)), (3, (0, w 36 p)), (4, (0, y4)), (5, (0, y5))], [(1, 19)], v1)) 1 rfl ?_
          refine e_Ok.getr (z := 35) rfl (el_o rfl) rfl rfl ((j7 19 13 (by unfold kFl; omega)).trans (Eq.trans (e_Has.eq hT rfl) (by omega))) (by omega) ?_
          refine e_Ok.run (t' := (86, [(0, (1, 19)), (1, (0, a)), (2, (0, p)), (3, (0, w 36 p)), (4, (0, y4)), (5, (0, y5))], [(0, y4), (0, w 36 p), (1, 35)], v1)) 2 rfl ?_
          refine e_Ok.ast rfl (el_o rfl) rfl rfl (by omega) ?_
          generalize hw17 : e_up v1 35 (w 36 p) y4 = w17
          have f18 : e_fr kFl w w17 := e_fr.up j7 hw17 (by unfold kFl; omega)
          have hT19 : e_Has kTy w17 := e_Has.ups j8 hw17 rfl
          refine e_Ok.rets rfl rfl ?_
          exact ⟨rfl, f18, hT19, fK.grip hf (by omega) (by omega) (by omega) (by omega) j9 (by omega) j12 (by omega) hw17⟩
        · replace h16 : (y5 : Int) < w 35 (w 36 p) := by have q : ¬ ((y5 : Int) ≥ w 35 (w 36 p)) := h16; omega
          have hq := hf.ord (b := w 36 p) (i := y5) (by omega) (by omega)
          have eq5 : v1 (w 36 p + 31) y5 = w (w 36 p + 31) y5 := j11 y5 (by omega)
          refine e_Ok.run (t' := (40, [(0, (1, 19)), (1, (0, a)), (2, (0, p)), (3, (0, w 36 p)), (4, (0, y4)), (5, (0, y5))], [(1, 19)], v1)) 1 rfl ?_
          refine e_Ok.getr (z := 30) rfl (el_o rfl) rfl rfl ((j7 19 12 (by unfold kFl; omega)).trans (Eq.trans (e_Has.eq hT rfl) (by omega))) (by omega) ?_
          refine e_Ok.run (t' := (44, [(0, (1, 19)), (1, (0, a)), (2, (0, p)), (3, (0, w 36 p)), (4, (0, y4)), (5, (0, y5))], [(0, w 36 p), (1, 30)], v1)) 1 rfl ?_
          refine e_Ok.aald (z := w 36 p + 31) rfl (el_o rfl) rfl (by omega) ((j7 30 (w 36 p) (by unfold kFl; omega)).trans (Eq.trans (e_Has.eq hT (k30 (by omega))) (by omega))) (by omega) ?_
          refine e_Ok.run (t' := (47, [(0, (1, 19)), (1, (0, a)), (2, (0, p)), (3, (0, w 36 p)), (4, (0, y4)), (5, (0, y5))], [(0, y5), (1, w 36 p + 31)], v1)) 1 rfl ?_
          refine e_Ok.ald (z := w (w 36 p + 31) y5) rfl (lO (b := (w 36 p)) (by omega) (by omega)) rfl (by omega) eq5 (by omega) ?_
          refine e_Ok.run (t' := (49, [(0, (1, 19)), (1, (0, a)), (2, (0, p)), (3, (0, w 36 p)), (4, (0, y4)), (5, (0, y5))], [(0, p), (0, w (w 36 p + 31) y5)], v1)) 1 rfl ?_
          refine e_Ok.if2 rfl (fun h20 => ?_) (fun h20 => ?_)
          · replace h20 : (w (w 36 p + 31) y5 : Int) = p := h20
            refine e_Ok.inc (z := y5 + 1) rfl rfl (by omega) (by omega) ?_
            show e_Ok 20 elay kcode eI d 84 (76, [(5, (0, y5 + 1)), (0, (1, 19)), (1, (0, a)), (2, (0, p)), (3, (0, w 36 p)), (4, (0, y4))], [], v1) _
            refine e_Ok.run (t' := (28, [(5, (0, y5 + 1)), (0, (1, 19)), (1, (0, a)), (2, (0, p)), (3, (0, w 36 p)), (4, (0, y4))], [], v1)) 1 rfl ?_
            refine e_Ok.sub kAlk (e_sub_of rfl ?_) (ih6 y4 (y5 + 1) v1 ⟨j7, j8, j9, j10, (fun j g => j11 j (by omega)), j12, by omega, by omega, by omega⟩ (by omega))
            exact ⟨rfl, rfl, rfl, rfl, rfl, rfl, trivial⟩
          · replace h20 : (w (w 36 p + 31) y5 : Int) ≠ p := by have q : ¬ ((w (w 36 p + 31) y5 : Int) = p) := h20; omega
            refine e_Ok.run (t' := (53, [(0, (1, 19)), (1, (0, a)), (2, (0, p)), (3, (0, w 36 p)), (4, (0, y4)), (5, (0, y5))], [(1, 19)], v1)) 1 rfl ?_
            refine e_Ok.getr (z := 30) rfl (el_o rfl) rfl rfl ((j7 19 12 (by unfold kFl; omega)).trans (Eq.trans (e_Has.eq hT rfl) (by omega))) (by omega) ?_
            refine e_Ok.run (t' := (57, [(0, (1, 19)), (1, (0, a)), (2, (0, p)), (3, (0, w 36 p)), (4, (0, y4)), (5, (0, y5))], [(0, w 36 p), (1, 30)], v1)) 1 rfl ?_
            refine e_Ok.aald (z := w 36 p + 31) rfl (el_o rfl) rfl (by omega) ((j7 30 (w 36 p) (by unfold kFl; omega)).trans (Eq.trans (e_Has.eq hT (k30 (by omega))) (by omega))) (by omega) ?_
            refine e_Ok.run (t' := (61, [(0, (1, 19)), (1, (0, a)), (2, (0, p)), (3, (0, w 36 p)), (4, (0, y4)), (5, (0, y5))], [(1, 19), (0, y4), (1, w 36 p + 31)], v1)) 2 rfl ?_
            refine e_Ok.getr (z := 30) rfl (el_o rfl) rfl rfl ((j7 19 12 (by unfold kFl; omega)).trans (Eq.trans (e_Has.eq hT rfl) (by omega))) (by omega) ?_
            refine e_Ok.run (t' := (65, [(0, (1, 19)), (1, (0, a)), (2, (0, p)), (3, (0, w 36 p)), (4, (0, y4)), (5, (0, y5))], [(0, w 36 p), (1, 30), (0, y4), (1, w 36 p + 31)], v1)) 1 rfl ?_
            refine e_Ok.aald (z := w 36 p + 31) rfl (el_o rfl) rfl (by omega) ((j7 30 (w 36 p) (by unfold kFl; omega)).trans (Eq.trans (e_Has.eq hT (k30 (by omega))) (by omega))) (by omega) ?_
            refine e_Ok.run (t' := (68, [(0, (1, 19)), (1, (0, a)), (2, (0, p)), (3, (0, w 36 p)), (4, (0, y4)), (5, (0, y5))], [(0, y5), (1, w 36 p + 31), (0, y4), (1, w 36 p + 31)], v1)) 1 rfl ?_
            refine e_Ok.ald (z := w (w 36 p + 31) y5) rfl (lO (b := (w 36 p)) (by omega) (by omega)) rfl (by omega) eq5 (by omega) ?_
            refine e_Ok.ast rfl (lO (b := (w 36 p)) (by omega) (by omega)) rfl rfl (by omega) ?_
            generalize hw21 : e_up v1 (w 36 p + 31) y4 (w (w 36 p + 31) y5) = w21
            have f22 : e_fr kFl w w21 := e_fr.up j7 hw21 (by unfold kFl; omega)
            have hT23 : e_Has kTy w21 := e_Has.ups j8 hw21 (kO (b := (w 36 p)) _ (by omega) (by omega))
            refine e_Ok.inc (z := y4 + 1) rfl rfl (by omega) (by omega) ?_
            show e_Ok 20 elay kcode eI d 84 (73, [(4, (0, y4 + 1)), (0, (1, 19)), (1, (0, a)), (2, (0, p)), (3, (0, w 36 p)), (5, (0, y5))], [], w21) _
            refine e_Ok.inc (z := y5 + 1) rfl rfl (by omega) (by omega) ?_
            show e_Ok 20 elay kcode eI d 84 (76, [(5, (0, y5 + 1)), (4, (0, y4 + 1)), (0, (1, 19)), (1, (0, a)), (2, (0, p)), (3, (0, w 36 p))], [], w21) _
            refine e_Ok.run (t' := (28, [(5, (0, y5 + 1)), (4, (0, y4 + 1)), (0, (1, 19)), (1, (0, a)), (2, (0, p)), (3, (0, w 36 p))], [], w21)) 1 rfl ?_
            refine e_Ok.sub kAlk (e_sub_of rfl ?_) (ih6 (y4 + 1) (y5 + 1) w21 ⟨f22, hT23, (fun c k g1 g2 => by rw [← hw21, e_up_ne _ _ (Or.inl g1)]; exact j9 c k g1 g2), (by rw [← hw21]; exact (e_up_ne _ _ (Or.inl (by omega))).trans j10), (fun j g => by rw [← hw21, e_up_ne _ _ (Or.inr (by omega))]; exact j11 j (by omega)), (fun j g1 g2 => by rw [← hw21]; by_cases e : j = y4; (rw [e, e_up_eq]; exact ⟨hq.1, by omega, hq.2⟩); (rw [e_up_ne _ _ (Or.inr e)]; exact j12 j g1 (by omega))), by omega, by omega, by omega⟩ (by omega))
            exact ⟨rfl, rfl, rfl, rfl, rfl, rfl, trivial⟩
    refine e_Ok.sub kAlk (e_sub_of rfl ?_) (hL5 (32 + 1 : Int).toNat 0 0 w1 ⟨f2, hT3, (fun c k g1 g2 => by rw [← hw1]; exact e_up_ne _ _ (by omega)), (by rw [← hw1, e_up_eq]; omega), (fun j g => by rw [← hw1]; exact e_up_ne _ _ (Or.inl (by omega))), (fun j g1 g2 => by omega), (by have := hO (by omega) (by omega); omega), by omega, by omega⟩ (by omega))
    exact ⟨rfl, rfl, rfl, rfl, rfl, rfl, trivial⟩
  · replace h4 : (w 36 p : Int) ≥ 4 := by have q : ¬ ((w 36 p : Int) < 4) := h4; omega
    refine e_Ok.rets rfl rfl ?_
    exact ⟨rfl, f2, hT3, fK.grip8 hf (by omega) (by omega) (by omega) (by omega) (by omega) hw1⟩
theorem c_79 {d : Nat} {w : eW} (hT : e_Has kTy w) {p x y : Int} (gp : 0 ≤ p ∧ p ≤ 31) (gx : -2147483648 ≤ x ∧ x ≤ 2147483647) (gy : -2147483648 ≤ y ∧ y ≤ 2147483647) : e_Ok 20 elay kcode eI d 79 (0, [(0, (1, 19)), (1, (0, p)), (2, (0, x)), (3, (0, y))], [], w) (fun r w' => r = [] ∧ e_fr kFl w w' ∧ e_Has kTy w' ∧ ∃ z8 w1 w2, z8 = 8 ∧ e_up w 36 p z8 = w1 ∧ e_up w1 39 p x = w2 ∧ e_up w2 40 p y = w') := by
  refine e_Ok.run (t' := (1, [(0, (1, 19)), (1, (0, p)), (2, (0, x)), (3, (0, y))], [(1, 19)], w)) 1 rfl ?_
  refine e_Ok.getr (z := 36) rfl (el_o rfl) rfl rfl (Eq.trans (e_Has.eq hT rfl) (by omega)) (by omega) ?_
  refine e_Ok.run (t' := (7, [(0, (1, 19)), (1, (0, p)), (2, (0, x)), (3, (0, y))], [(0, 8), (0, p), (1, 36)], w)) 2 rfl ?_
  refine e_Ok.ast rfl (el_o rfl) rfl rfl (by omega) ?_
  generalize hw1 : e_up w 36 p 8 = w1
  have f2 : e_fr kFl w w1 := e_fr.up (e_fr.refl w) hw1 (by unfold kFl; omega)
  have hT3 : e_Has kTy w1 := e_Has.ups hT hw1 rfl
  refine e_Ok.run (t' := (9, [(0, (1, 19)), (1, (0, p)), (2, (0, x)), (3, (0, y))], [(1, 19)], w1)) 1 rfl ?_
  refine e_Ok.getr (z := 39) rfl (el_o rfl) rfl rfl (by rw [← hw1]; exact (e_up_ne _ _ (Or.inl (by omega))).trans (Eq.trans (e_Has.eq hT rfl) (by omega))) (by omega) ?_
  refine e_Ok.run (t' := (14, [(0, (1, 19)), (1, (0, p)), (2, (0, x)), (3, (0, y))], [(0, x), (0, p), (1, 39)], w1)) 2 rfl ?_
  refine e_Ok.ast rfl (el_o rfl) rfl rfl (by omega) ?_
  generalize hw4 : e_up w1 39 p x = w4
  have f5 : e_fr kFl w w4 := e_fr.up f2 hw4 (by unfold kFl; omega)
  have hT6 : e_Has kTy w4 := e_Has.ups hT3 hw4 rfl
  refine e_Ok.run (t' := (16, [(0, (1, 19)), (1, (0, p)), (2, (0, x)), (3, (0, y))], [(1, 19)], w4)) 1 rfl ?_
  refine e_Ok.getr (z := 40) rfl (el_o rfl) rfl rfl (by rw [← hw4]; exact (e_up_ne _ _ (Or.inl (by omega))).trans (by rw [← hw1]; exact (e_up_ne _ _ (Or.inl (by omega))).trans (Eq.trans (e_Has.eq hT rfl) (by omega)))) (by omega) ?_
  refine e_Ok.run (t' := (21, [(0, (1, 19)), (1, (0, p)), (2, (0, x)), (3, (0, y))], [(0, y), (0, p), (1, 40)], w4)) 2 rfl ?_
  refine e_Ok.ast rfl (el_o rfl) rfl rfl (by omega) ?_
  generalize hw7 : e_up w4 40 p y = w7
  have f8 : e_fr kFl w w7 := e_fr.up f5 hw7 (by unfold kFl; omega)
  have hT9 : e_Has kTy w7 := e_Has.ups hT6 hw7 rfl
  refine e_Ok.rets rfl rfl ?_
  exact ⟨rfl, f8, hT9, 8, _, _, rfl, hw1, hw4, hw7⟩
theorem c_80 {d : Nat} {w : eW} (hT : e_Has kTy w) {b p s : Int} (g_b : 0 ≤ b ∧ b ≤ 3) (g_p : 0 ≤ p ∧ p ≤ 31) (g_s : (-2147483648) ≤ s ∧ s ≤ 2147483647) (hO : (0 ≤ w 35 b ∧ w 35 b ≤ 32) ∧ ∀ i, 0 ≤ i → i < w 35 b → (0 ≤ w (b + 31) i ∧ w (b + 31) i ≤ 31) ∧ kn1 (w 37 (w (b + 31) i))) : e_Ok 20 elay kcode eI d 80 (0, [(0, (1, 19)), (1, (0, b)), (2, (0, p)), (3, (0, s))], [], w) (fun r w' => r = [] ∧ e_fr kFl w w' ∧ e_Has kTy w' ∧ cmT w w' b p s) := by
  refine e_Ok.run (t' := (1, [(0, (1, 19)), (1, (0, b)), (2, (0, p)), (3, (0, s))], [(1, 19)], w)) 1 rfl ?_
  refine e_Ok.getr (z := 35) rfl (el_o rfl) rfl rfl (Eq.trans (e_Has.eq hT rfl) (by omega)) (by omega) ?_
  refine e_Ok.run (t' := (5, [(0, (1, 19)), (1, (0, b)), (2, (0, p)), (3, (0, s))], [(0, b), (1, 35)], w)) 1 rfl ?_
  refine e_Ok.ald (z := w 35 b) rfl (el_o rfl) rfl (by omega) rfl (by omega) ?_
  refine e_Ok.run (t' := (8, [(0, (1, 19)), (1, (0, b)), (2, (0, p)), (3, (0, s))], [(0, 32), (0, w 35 b)], w)) 1 rfl ?_
  refine e_Ok.if2 rfl (fun h1 => ?_) (fun h1 => ?_)
  · replace h1 : (w 35 b : Int) < 32 := h1
    refine e_Ok.run (t' := (13, [(0, (1, 19)), (1, (0, b)), (2, (0, p)), (3, (0, s))], [(1, 19)], w)) 1 rfl ?_
    refine e_Ok.getr (z := 35) rfl (el_o rfl) rfl rfl (Eq.trans (e_Has.eq hT rfl) (by omega)) (by omega) ?_
    refine e_Ok.run (t' := (17, [(0, (1, 19)), (1, (0, b)), (2, (0, p)), (3, (0, s))], [(0, b), (1, 35)], w)) 1 rfl ?_
    refine e_Ok.ald (z := w 35 b) rfl (el_o rfl) rfl (by omega) rfl (by omega) ?_
    refine e_Ok.run (t' := (20, [(4, (0, w 35 b)), (0, (1, 19)), (1, (0, b)), (2, (0, p)), (3, (0, s))], [], w)) 1 rfl ?_
    have hL2 : ∀ (nn : Nat) (y4 : Int) (v1 : eW), e_fr kFl w v1 ∧ e_Has kTy v1 ∧ (∀ c k, c ≠ b + 31 → v1 c k = w c k) ∧ (∀ j, 0 ≤ j → j < y4 → v1 (b + 31) j = w (b + 31) j) ∧ (∀ j, y4 < j → j ≤ w 35 b → v1 (b + 31) j = w (b + 31) (j - 1)) ∧ y4 ≤ w 35 b ∧ (0 ≤ y4 ∧ y4 ≤ 32) → y4 < nn → e_Ok 20 elay kcode eI d 80 (20, [(0, (1, 19)), (1, (0, b)), (2, (0, p)), (3, (0, s)), (4, (0, y4))], [], v1) (fun r w' => r = [] ∧ e_fr kFl w w' ∧ e_Has kTy w' ∧ cmT w w' b p s) := by
      intro nn
      induction nn with
      | zero => intro y4 v1 hj hm; obtain ⟨j4, j5, j6, j7, j8, j9, j10⟩ := hj; exfalso; omega
      | succ nn ih3 =>
        intro y4 v1 hj hm
        obtain ⟨j4, j5, j6, j7, j8, j9, j10⟩ := hj
        refine e_Ok.run (t' := (22, [(0, (1, 19)), (1, (0, b)), (2, (0, p)), (3, (0, s)), (4, (0, y4))], [(0, y4)], v1)) 1 rfl ?_
        refine e_Ok.if1 rfl (fun h11 => ?_) (fun h11 => ?_)
        · replace h11 : (y4 : Int) ≤ 0 := h11
          have e35 : v1 35 b = w 35 b := j6 _ _ (by omega)
          refine e_Ok.run (t' := (72, [(0, (1, 19)), (1, (0, b)), (2, (0, p)), (3, (0, s)), (4, (0, y4))], [(1, 19)], v1)) 1 rfl ?_
          refine e_Ok.getr (z := 30) rfl (el_o rfl) rfl rfl ((j4 19 12 (by unfold kFl; omega)).trans (Eq.trans (e_Has.eq hT rfl) (by omega))) (by omega) ?_
          refine e_Ok.run (t' := (76, [(0, (1, 19)), (1, (0, b)), (2, (0, p)), (3, (0, s)), (4, (0, y4))], [(0, b), (1, 30)], v1)) 1 rfl ?_
          refine e_Ok.aald (z := b + 31) rfl (el_o rfl) rfl (by omega) ((j4 30 b (by unfold kFl; omega)).trans (Eq.trans (e_Has.eq hT (k30 (by omega))) (by omega))) (by omega) ?_
          refine e_Ok.run (t' := (80, [(0, (1, 19)), (1, (0, b)), (2, (0, p)), (3, (0, s)), (4, (0, y4))], [(0, p), (0, y4), (1, b + 31)], v1)) 2 rfl ?_
          refine e_Ok.ast rfl (lO (b := b) (by omega) (by omega)) rfl rfl (by omega) ?_
          generalize hw12 : e_up v1 (b + 31) y4 p = w12
          have f13 : e_fr kFl w w12 := e_fr.up j4 hw12 (by unfold kFl; omega)
          have hT14 : e_Has kTy w12 := e_Has.ups j5 hw12 (kO (b := b) _ (by omega) (by omega))
          refine e_Ok.run (t' := (82, [(0, (1, 19)), (1, (0, b)), (2, (0, p)), (3, (0, s)), (4, (0, y4))], [(1, 19)], w12)) 1 rfl ?_
          refine e_Ok.getr (z := 35) rfl (el_o rfl) rfl rfl (by rw [← hw12]; exact (e_up_ne _ _ (Or.inl (by omega))).trans ((j4 19 13 (by unfold kFl; omega)).trans (Eq.trans (e_Has.eq hT rfl) (by omega)))) (by omega) ?_
          refine e_Ok.run (t' := (87, [(0, (1, 19)), (1, (0, b)), (2, (0, p)), (3, (0, s)), (4, (0, y4))], [(0, b), (1, 35), (0, b), (1, 35)], w12)) 2 rfl ?_
          refine e_Ok.ald (z := w 35 b) rfl (el_o rfl) rfl (by omega) (by rw [← hw12]; exact (e_up_ne _ _ (Or.inl (by omega))).trans e35) (by omega) ?_
          refine e_Ok.run (t' := (89, [(0, (1, 19)), (1, (0, b)), (2, (0, p)), (3, (0, s)), (4, (0, y4))], [(0, 1), (0, w 35 b), (0, b), (1, 35)], w12)) 1 rfl ?_
          refine e_Ok.add (z := w 35 b + 1) rfl (by omega) (by omega) ?_
          refine e_Ok.ast rfl (el_o rfl) rfl rfl (by omega) ?_
          generalize hw15 : e_up w12 35 b (w 35 b + 1) = w15
          have f16 : e_fr kFl w w15 := e_fr.up f13 hw15 (by unfold kFl; omega)
          have hT17 : e_Has kTy w15 := e_Has.ups hT14 hw15 rfl
          refine e_Ok.run (t' := (92, [(0, (1, 19)), (1, (0, b)), (2, (0, p)), (3, (0, s)), (4, (0, y4))], [(1, 19)], w15)) 1 rfl ?_
          refine e_Ok.getr (z := 36) rfl (el_o rfl) rfl rfl (by rw [← hw15]; exact (e_up_ne _ _ (Or.inl (by omega))).trans (by rw [← hw12]; exact (e_up_ne _ _ (Or.inl (by omega))).trans ((j4 19 14 (by unfold kFl; omega)).trans (Eq.trans (e_Has.eq hT rfl) (by omega))))) (by omega) ?_
          refine e_Ok.run (t' := (97, [(0, (1, 19)), (1, (0, b)), (2, (0, p)), (3, (0, s)), (4, (0, y4))], [(0, b), (0, p), (1, 36)], w15)) 2 rfl ?_
          refine e_Ok.ast rfl (el_o rfl) rfl rfl (by omega) ?_
          generalize hw18 : e_up w15 36 p b = w18
          have f19 : e_fr kFl w w18 := e_fr.up f16 hw18 (by unfold kFl; omega)
          have hT20 : e_Has kTy w18 := e_Has.ups hT17 hw18 rfl
          refine e_Ok.run (t' := (99, [(0, (1, 19)), (1, (0, b)), (2, (0, p)), (3, (0, s)), (4, (0, y4))], [(1, 19)], w18)) 1 rfl ?_
          refine e_Ok.getr (z := 37) rfl (el_o rfl) rfl rfl (by rw [← hw18]; exact (e_up_ne _ _ (Or.inl (by omega))).trans (by rw [← hw15]; exact (e_up_ne _ _ (Or.inl (by omega))).trans (by rw [← hw12]; exact (e_up_ne _ _ (Or.inl (by omega))).trans ((j4 19 15 (by unfold kFl; omega)).trans (Eq.trans (e_Has.eq hT rfl) (by omega)))))) (by omega) ?_
          refine e_Ok.run (t' := (104, [(0, (1, 19)), (1, (0, b)), (2, (0, p)), (3, (0, s)), (4, (0, y4))], [(0, s), (0, p), (1, 37)], w18)) 2 rfl ?_
          refine e_Ok.ast rfl (el_o rfl) rfl rfl (by omega) ?_
          generalize hw21 : e_up w18 37 p s = w21
          have f22 : e_fr kFl w w21 := e_fr.up f19 hw21 (by unfold kFl; omega)
          have hT23 : e_Has kTy w21 := e_Has.ups hT20 hw21 rfl
          refine e_Ok.rets rfl rfl ?_
          exact ⟨rfl, f22, hT23, cmT.mk (by omega) (by omega) (by omega) j6 j7 j8 (by omega) hw12 hw15 hw18 hw21⟩
        · replace h11 : (y4 : Int) > 0 := by have q : ¬ ((y4 : Int) ≤ 0) := h11; omega
          have hq := hO.2 (y4 - 1) (by omega) (by omega); unfold kn1 at hq
          have eq5 : v1 (b + 31) (y4 - 1) = w (b + 31) (y4 - 1) := j7 (y4 - 1) (by omega) (by omega)
          have eq6 : v1 37 (w (b + 31) (y4 - 1)) = w 37 (w (b + 31) (y4 - 1)) := j6 _ _ (by omega)
          refine e_Ok.run (t' := (26, [(0, (1, 19)), (1, (0, b)), (2, (0, p)), (3, (0, s)), (4, (0, y4))], [(1, 19)], v1)) 1 rfl ?_
          refine e_Ok.getr (z := 37) rfl (el_o rfl) rfl rfl ((j4 19 15 (by unfold kFl; omega)).trans (Eq.trans (e_Has.eq hT rfl) (by omega))) (by omega) ?_
          refine e_Ok.run (t' := (30, [(0, (1, 19)), (1, (0, b)), (2, (0, p)), (3, (0, s)), (4, (0, y4))], [(1, 19), (1, 37)], v1)) 1 rfl ?_
          refine e_Ok.getr (z := 30) rfl (el_o rfl) rfl rfl ((j4 19 12 (by unfold kFl; omega)).trans (Eq.trans (e_Has.eq hT rfl) (by omega))) (by omega) ?_
          refine e_Ok.run (t' := (34, [(0, (1, 19)), (1, (0, b)), (2, (0, p)), (3, (0, s)), (4, (0, y4))], [(0, b), (1, 30), (1, 37)], v1)) 1 rfl ?_
          refine e_Ok.aald (z := b + 31) rfl (el_o rfl) rfl (by omega) ((j4 30 b (by unfold kFl; omega)).trans (Eq.trans (e_Has.eq hT (k30 (by omega))) (by omega))) (by omega) ?_
          refine e_Ok.run (t' := (38, [(0, (1, 19)), (1, (0, b)), (2, (0, p)), (3, (0, s)), (4, (0, y4))], [(0, 1), (0, y4), (1, b + 31), (1, 37)], v1)) 2 rfl ?_
          refine e_Ok.sub' (z := y4 - 1) rfl (by omega) (by omega) ?_
          refine e_Ok.ald (z := w (b + 31) (y4 - 1)) rfl (lO (b := b) (by omega) (by omega)) rfl (by omega) eq5 (by omega) ?_
          refine e_Ok.ald (z := w 37 (w (b + 31) (y4 - 1))) rfl rfl rfl (by omega) eq6 (by omega) ?_
          refine e_Ok.run (t' := (42, [(0, (1, 19)), (1, (0, b)), (2, (0, p)), (3, (0, s)), (4, (0, y4))], [(0, s), (0, w 37 (w (b + 31) (y4 - 1)))], v1)) 1 rfl ?_
          refine e_Ok.if2 rfl (fun h24 => ?_) (fun h24 => ?_)
          · replace h24 : (w 37 (w (b + 31) (y4 - 1)) : Int) ≥ s := h24
            have e35 : v1 35 b = w 35 b := j6 _ _ (by omega)
            refine e_Ok.run (t' := (72, [(0, (1, 19)), (1, (0, b)), (2, (0, p)), (3, (0, s)), (4, (0, y4))], [(1, 19)], v1)) 1 rfl ?_
            refine e_Ok.getr (z := 30) rfl (el_o rfl) rfl rfl ((j4 19 12 (by unfold kFl; omega)).trans (Eq.trans (e_Has.eq hT rfl) (by omega))) (by omega) ?_
            refine e_Ok.run (t' := (76, [(0, (1, 19)), (1, (0, b)), (2, (0, p)), (3, (0, s)), (4, (0, y4))], [(0, b), (1, 30)], v1)) 1 rfl ?_
            refine e_Ok.aald (z := b + 31) rfl (el_o rfl) rfl (by omega) ((j4 30 b (by unfold kFl; omega)).trans (Eq.trans (e_Has.eq hT (k30 (by omega))) (by omega))) (by omega) ?_
            refine e_Ok.run (t' := (80, [(0, (1, 19)), (1, (0, b)), (2, (0, p)), (3, (0, s)), (4, (0, y4))], [(0, p), (0, y4), (1, b + 31)], v1)) 2 rfl ?_
            refine e_Ok.ast rfl (lO (b := b) (by omega) (by omega)) rfl rfl (by omega) ?_
            generalize hw25 : e_up v1 (b + 31) y4 p = w25
            have f26 : e_fr kFl w w25 := e_fr.up j4 hw25 (by unfold kFl; omega)
            have hT27 : e_Has kTy w25 := e_Has.ups j5 hw25 (kO (b := b) _ (by omega) (by omega))
            refine e_Ok.run (t' := (82, [(0, (1, 19)), (1, (0, b)), (2, (0, p)), (3, (0, s)), (4, (0, y4))], [(1, 19)], w25)) 1 rfl ?_
            refine e_Ok.getr (z := 35) rfl (el_o rfl) rfl rfl (by rw [← hw25]; exact (e_up_ne _ _ (Or.inl (by omega))).trans ((j4 19 13 (by unfold kFl; omega)).trans (Eq.trans (e_Has.eq hT rfl) (by omega)))) (by omega) ?_
            refine e_Ok.run (t' := (87, [(0, (1, 19)), (1, (0, b)), (2, (0, p)), (3, (0, s)), (4, (0, y4))], [(0, b), (1, 35), (0, b), (1, 35)], w25)) 2 rfl ?_
            refine e_Ok.ald (z := w 35 b) rfl (el_o rfl) rfl (by omega) (by rw [← hw25]; exact (e_up_ne _ _ (Or.inl (by omega))).trans e35) (by omega) ?_
            refine e_Ok.run (t' := (89, [(0, (1, 19)), (1, (0, b)), (2, (0, p)), (3, (0, s)), (4, (0, y4))], [(0, 1), (0, w 35 b), (0, b), (1, 35)], w25)) 1 rfl ?_
            refine e_Ok.add (z := w 35 b + 1) rfl (by omega) (by omega) ?_
            refine e_Ok.ast rfl (el_o rfl) rfl rfl (by omega) ?_
            generalize hw28 : e_up w25 35 b (w 35 b + 1) = w28
            have f29 : e_fr kFl w w28 := e_fr.up f26 hw28 (by unfold kFl; omega)
            have hT30 : e_Has kTy w28 := e_Has.ups hT27 hw28 rfl
            refine e_Ok.run (t' := (92, [(0, (1, 19)), (1, (0, b)), (2, (0, p)), (3, (0, s)), (4, (0, y4))], [(1, 19)], w28)) 1 rfl ?_
            refine e_Ok.getr (z := 36) rfl (el_o rfl) rfl rfl (by rw [← hw28]; exact (e_up_ne _ _ (Or.inl (by omega))).trans (by rw [← hw25]; exact (e_up_ne _ _ (Or.inl (by omega))).trans ((j4 19 14 (by unfold kFl; omega)).trans (Eq.trans (e_Has.eq hT rfl) (by omega))))) (by omega) ?_
            refine e_Ok.run (t' := (97, [(0, (1, 19)), (1, (0, b)), (2, (0, p)), (3, (0, s)), (4, (0, y4))], [(0, b), (0, p), (1, 36)], w28)) 2 rfl ?_
            refine e_Ok.ast rfl (el_o rfl) rfl rfl (by omega) ?_
            generalize hw31 : e_up w28 36 p b = w31
            have f32 : e_fr kFl w w31 := e_fr.up f29 hw31 (by unfold kFl; omega)
            have hT33 : e_Has kTy w31 := e_Has.ups hT30 hw31 rfl
            refine e_Ok.run (t' := (99, [(0, (1, 19)), (1, (0, b)), (2, (0, p)), (3, (0, s)), (4, (0, y4))], [(1, 19)], w31)) 1 rfl ?_
            refine e_Ok.getr (z := 37) rfl (el_o rfl) rfl rfl (by rw [← hw31]; exact (e_up_ne _ _ (Or.inl (by omega))).trans (by rw [← hw28]; exact (e_up_ne _ _ (Or.inl (by omega))).trans (by rw [← hw25]; exact (e_up_ne _ _ (Or.inl (by omega))).trans ((j4 19 15 (by unfold kFl; omega)).trans (Eq.trans (e_Has.eq hT rfl) (by omega)))))) (by omega) ?_
            refine e_Ok.run (t' := (104, [(0, (1, 19)), (1, (0, b)), (2, (0, p)), (3, (0, s)), (4, (0, y4))], [(0, s), (0, p), (1, 37)], w31)) 2 rfl ?_
            refine e_Ok.ast rfl (el_o rfl) rfl rfl (by omega) ?_
            generalize hw34 : e_up w31 37 p s = w34
            have f35 : e_fr kFl w w34 := e_fr.up f32 hw34 (by unfold kFl; omega)
            have hT36 : e_Has kTy w34 := e_Has.ups hT33 hw34 rfl
            refine e_Ok.rets rfl rfl ?_
            exact ⟨rfl, f35, hT36, cmT.mk (by omega) (by omega) (by omega) j6 j7 j8 (by omega) hw25 hw28 hw31 hw34⟩
          · replace h24 : (w 37 (w (b + 31) (y4 - 1)) : Int) < s := by have q : ¬ ((w 37 (w (b + 31) (y4 - 1)) : Int) ≥ s) := h24; omega
            refine e_Ok.run (t' := (46, [(0, (1, 19)), (1, (0, b)), (2, (0, p)), (3, (0, s)), (4, (0, y4))], [(1, 19)], v1)) 1 rfl ?_
            refine e_Ok.getr (z := 30) rfl (el_o rfl) rfl rfl ((j4 19 12 (by unfold kFl; omega)).trans (Eq.trans (e_Has.eq hT rfl) (by omega))) (by omega) ?_
            refine e_Ok.run (t' := (50, [(0, (1, 19)), (1, (0, b)), (2, (0, p)), (3, (0, s)), (4, (0, y4))], [(0, b), (1, 30)], v1)) 1 rfl ?_
            refine e_Ok.aald (z := b + 31) rfl (el_o rfl) rfl (by omega) ((j4 30 b (by unfold kFl; omega)).trans (Eq.trans (e_Has.eq hT (k30 (by omega))) (by omega))) (by omega) ?_
            refine e_Ok.run (t' := (54, [(0, (1, 19)), (1, (0, b)), (2, (0, p)), (3, (0, s)), (4, (0, y4))], [(1, 19), (0, y4), (1, b + 31)], v1)) 2 rfl ?_
            refine e_Ok.getr (z := 30) rfl (el_o rfl) rfl rfl ((j4 19 12 (by unfold kFl; omega)).trans (Eq.trans (e_Has.eq hT rfl) (by omega))) (by omega) ?_
            refine e_Ok.run (t' := (58, [(0, (1, 19)), (1, (0, b)), (2, (0, p)), (3, (0, s)), (4, (0, y4))], [(0, b), (1, 30), (0, y4), (1, b + 31)], v1)) 1 rfl ?_
            refine e_Ok.aald (z := b + 31) rfl (el_o rfl) rfl (by omega) ((j4 30 b (by unfold kFl; omega)).trans (Eq.trans (e_Has.eq hT (k30 (by omega))) (by omega))) (by omega) ?_
            refine e_Ok.run (t' := (62, [(0, (1, 19)), (1, (0, b)), (2, (0, p)), (3, (0, s)), (4, (0, y4))], [(0, 1), (0, y4), (1, b + 31), (0, y4), (1, b + 31)], v1)) 2 rfl ?_
            refine e_Ok.sub' (z := y4 - 1) rfl (by omega) (by omega) ?_
            refine e_Ok.ald (z := w (b + 31) (y4 - 1)) rfl (lO (b := b) (by omega) (by omega)) rfl (by omega) eq5 (by omega) ?_
            refine e_Ok.ast rfl (lO (b := b) (by omega) (by omega)) rfl rfl (by omega) ?_
            generalize hw37 : e_up v1 (b + 31) y4 (w (b + 31) (y4 - 1)) = w37
            have f38 : e_fr kFl w w37 := e_fr.up j4 hw37 (by unfold kFl; omega)
            have hT40 : e_Has kTy w37 := e_Has.ups j5 hw37 (kO (b := b) _ (by omega) (by omega))
            refine e_Ok.inc (z := y4 - 1) rfl rfl (by omega) (by omega) ?_
            show e_Ok 20 elay kcode eI d 80 (68, [(4, (0, y4 - 1)), (0, (1, 19)), (1, (0, b)), (2, (0, p)), (3, (0, s))], [], w37) _
            refine e_Ok.run (t' := (20, [(4, (0, y4 - 1)), (0, (1, 19)), (1, (0, b)), (2, (0, p)), (3, (0, s))], [], w37)) 1 rfl ?_
            refine e_Ok.sub kAlk (e_sub_of rfl ?_) (ih3 (y4 - 1) w37 ⟨f38, hT40, (fun c k g => by rw [← hw37, e_up_ne _ _ (Or.inl g)]; exact j6 c k g), (fun j g1 g2 => by rw [← hw37, e_up_ne _ _ (Or.inr (by omega))]; exact j7 j g1 (by omega)), (fun j g1 g2 => by rw [← hw37]; by_cases e : j = y4; (rw [e, e_up_eq]); (rw [e_up_ne _ _ (Or.inr e)]; exact j8 j (by omega) g2)), by omega, by omega⟩ (by omega))
            exact ⟨rfl, rfl, rfl, rfl, rfl, trivial⟩
    refine e_Ok.sub kAlk (e_sub_of rfl ?_) (hL2 (32 + 1 : Int).toNat (w 35 b) w ⟨(e_fr.refl w), hT, (fun _ _ _ => rfl), (fun _ _ _ => rfl), (fun j g1 g2 => by omega), by omega, by omega⟩ (by omega))
    exact ⟨rfl, rfl, rfl, rfl, rfl, trivial⟩
  · replace h1 : (w 35 b : Int) ≥ 32 := by have q : ¬ ((w 35 b : Int) < 32) := h1; omega
    refine e_Ok.rets rfl rfl ?_
    exact ⟨rfl, (e_fr.refl w), hT, Or.inl ⟨by omega, rfl⟩⟩
theorem c_85 {d : Nat} (hd : 21 ≤ d) {w : eW} (hT : e_Has kTy w) {p x y : Int} (g_p : 0 ≤ p ∧ p ≤ 31) (g_x : (-2147483648) ≤ x ∧ x ≤ 2147483647) (g_y : (-2147483648) ≤ y ∧ y ≤ 2147483647) (hf : fK w) (hq0 : p < w 19 1) (hn : ∀ b i, 0 ≤ b → b < w 19 0 → 0 ≤ i → i < w 35 b → w (b + 31) i ≠ p) : e_Ok 20 elay kcode eI d 85 (0, [(0, (1, 19)), (1, (0, p)), (2, (0, x)), (3, (0, y))], [], w) (fun r w' => r = [] ∧ e_fr kFl w w' ∧ e_Has kTy w' ∧ (fK w' ∧ ∀ q, q ≠ p → w' 36 q = w 36 q)) := by
  obtain ⟨d, rfl⟩ : ∃ e, d = e + 1 := ⟨d - 1, by omega⟩
  have hB0 := e_Has.get hT (c := 19) (k := 0) (lo := 0) (hi := 4) rfl (by decide)
  have hM0 := e_Has.get hT (c := 19) (k := 1) (lo := 0) (hi := 32) rfl (by decide)
  refine e_Ok.run (t' := (3, [(4, (0, 0)), (0, (1, 19)), (1, (0, p)), (2, (0, x)), (3, (0, y))], [], w)) 2 rfl ?_
  have hL1 : ∀ (nn : Nat) (y4 : Int), 0 ≤ y4 ∧ y4 ≤ 4 → 4 - y4 < nn → e_Ok 20 elay kcode eI (d + 1) 85 (3, [(0, (1, 19)), (1, (0, p)), (2, (0, x)), (3, (0, y)), (4, (0, y4))], [], w) (fun r w' => r = [] ∧ e_fr kFl w w' ∧ e_Has kTy w' ∧ (fK w' ∧ ∀ q, q ≠ p → w' 36 q = w 36 q)) := by
    intro nn
    induction nn with
    | zero => intro y4 hj hm; obtain j3 := hj; exfalso; omega
    | succ nn ih2 =>
      intro y4 hj hm
      obtain j3 := hj
      refine e_Ok.run (t' := (6, [(0, (1, 19)), (1, (0, p)), (2, (0, x)), (3, (0, y)), (4, (0, y4))], [(1, 19), (0, y4)], w)) 2 rfl ?_
      have h4 := (e_Has.get hT (c := 19) (k := 0) (lo := 0) (hi := 4) rfl (by decide))
      refine e_Ok.getf (z := w 19 0) rfl (el_o rfl) rfl rfl rfl (by omega) ?_
      refine e_Ok.if2 rfl (fun h5 => ?_) (fun h5 => ?_)
      · replace h5 : (y4 : Int) ≥ w 19 0 := h5
        refine e_Ok.run (t' := (131, [(0, (1, 19)), (1, (0, p)), (2, (0, x)), (3, (0, y)), (4, (0, y4))], [(0, y), (0, x), (0, p), (1, 19)], w)) 4 rfl ?_
        refine e_Ok.callV rfl (by omega) rfl rfl rfl rfl (c_79 hT (by omega) (by omega) (by omega)) (fun r6 w7 h8 => ?_)
        obtain ⟨rfl, q9f, q9T, q9x⟩ := h8
        have f10 : e_fr kFl w w7 := e_fr.trans (e_fr.refl w) (e_fr.mono q9f (fun c k q => by exact q))
        show e_Ok 20 elay kcode eI (d + 1) 85 (134, [(0, (1, 19)), (1, (0, p)), (2, (0, x)), (3, (0, y)), (4, (0, y4))], [], w7) _
        refine e_Ok.rets rfl rfl ?_
        exact ⟨rfl, f10, q9T, (by obtain ⟨_, u1, u2, rfl, k1, k2, k3⟩ := q9x; exact fK.lie hf (by omega) (by unfold kn1; omega) (by unfold kn1; omega) hn k1 k2 k3)⟩
      · replace h5 : (y4 : Int) < w 19 0 := by have q : ¬ ((y4 : Int) ≥ w 19 0) := h5; omega
        refine e_Ok.run (t' := (14, [(0, (1, 19)), (1, (0, p)), (2, (0, x)), (3, (0, y)), (4, (0, y4))], [(1, 19), (0, x)], w)) 2 rfl ?_
        refine e_Ok.getr (z := 25) rfl (el_o rfl) rfl rfl (Eq.trans (e_Has.eq hT rfl) (by omega)) (by omega) ?_
        refine e_Ok.run (t' := (19, [(0, (1, 19)), (1, (0, p)), (2, (0, x)), (3, (0, y)), (4, (0, y4))], [(0, y4), (1, 25), (0, x)], w)) 1 rfl ?_
        have h11 := (e_Has.get hT (c := 25) (k := y4) (lo := (-2147483648)) (hi := 2147483647) rfl (by decide))
        refine e_Ok.ald (z := w 25 y4) rfl (el_o rfl) rfl (by omega) rfl (by omega) ?_
        refine e_Ok.any rfl (eF_sub_any _ _) (fun z12 z12a z12b => ?_)
        refine e_Ok.run (t' := (25, [(5, (0, z12)), (0, (1, 19)), (1, (0, p)), (2, (0, x)), (3, (0, y)), (4, (0, y4))], [(1, 19), (0, y)], w)) 3 rfl ?_
        refine e_Ok.getr (z := 26) rfl (el_o rfl) rfl rfl (Eq.trans (e_Has.eq hT rfl) (by omega)) (by omega) ?_
        refine e_Ok.run (t' := (30, [(5, (0, z12)), (0, (1, 19)), (1, (0, p)), (2, (0, x)), (3, (0, y)), (4, (0, y4))], [(0, y4), (1, 26), (0, y)], w)) 1 rfl ?_
        have h13 := (e_Has.get hT (c := 26) (k := y4) (lo := (-2147483648)) (hi := 2147483647) rfl (by decide))
        refine e_Ok.ald (z := w 26 y4) rfl (el_o rfl) rfl (by omega) rfl (by omega) ?_
        refine e_Ok.any rfl (eF_sub_any _ _) (fun z14 z14a z14b => ?_)
        refine e_Ok.run (t' := (37, [(6, (0, z14)), (5, (0, z12)), (0, (1, 19)), (1, (0, p)), (2, (0, x)), (3, (0, y)), (4, (0, y4))], [(1, 19), (0, z12)], w)) 3 rfl ?_
        refine e_Ok.getr (z := 27) rfl (el_o rfl) rfl rfl (Eq.trans (e_Has.eq hT rfl) (by omega)) (by omega) ?_
        refine e_Ok.run (t' := (42, [(6, (0, z14)), (5, (0, z12)), (0, (1, 19)), (1, (0, p)), (2, (0, x)), (3, (0, y)), (4, (0, y4))], [(0, y4), (1, 27), (0, z12)], w)) 1 rfl ?_
        have h15 := (e_Has.get hT (c := 27) (k := y4) (lo := (-2147483648)) (hi := 2147483647) rfl (by decide))
        refine e_Ok.ald (z := w 27 y4) rfl (el_o rfl) rfl (by omega) rfl (by omega) ?_
        refine e_Ok.any rfl (eF_mul_any _ _) (fun z16 z16a z16b => ?_)
        refine e_Ok.run (t' := (47, [(6, (0, z14)), (5, (0, z12)), (0, (1, 19)), (1, (0, p)), (2, (0, x)), (3, (0, y)), (4, (0, y4))], [(1, 19), (0, z14), (0, z16)], w)) 2 rfl ?_
        refine e_Ok.getr (z := 28) rfl (el_o rfl) rfl rfl (Eq.trans (e_Has.eq hT rfl) (by omega)) (by omega) ?_
        refine e_Ok.run (t' := (52, [(6, (0, z14)), (5, (0, z12)), (0, (1, 19)), (1, (0, p)), (2, (0, x)), (3, (0, y)), (4, (0, y4))], [(0, y4), (1, 28), (0, z14), (0, z16)], w)) 1 rfl ?_
        have h17 := (e_Has.get hT (c := 28) (k := y4) (lo := (-2147483648)) (hi := 2147483647) rfl (by decide))
        refine e_Ok.ald (z := w 28 y4) rfl (el_o rfl) rfl (by omega) rfl (by omega) ?_
        refine e_Ok.any rfl (eF_mul_any _ _) (fun z18 z18a z18b => ?_)
        refine e_Ok.any rfl (eF_add_any _ _) (fun z19 z19a z19b => ?_)
        refine e_Ok.run (t' := (60, [(7, (0, z19)), (6, (0, z14)), (5, (0, z12)), (0, (1, 19)), (1, (0, p)), (2, (0, x)), (3, (0, y)), (4, (0, y4))], [(1, 19), (0, z12)], w)) 3 rfl ?_
        refine e_Ok.getr (z := 28) rfl (el_o rfl) rfl rfl (Eq.trans (e_Has.eq hT rfl) (by omega)) (by omega) ?_
        refine e_Ok.run (t' := (65, [(7, (0, z19)), (6, (0, z14)), (5, (0, z12)), (0, (1, 19)), (1, (0, p)), (2, (0, x)), (3, (0, y)), (4, (0, y4))], [(0, y4), (1, 28), (0, z12)], w)) 1 rfl ?_
        refine e_Ok.ald (z := w 28 y4) rfl (el_o rfl) rfl (by omega) rfl (by omega) ?_
        refine e_Ok.any rfl (eF_mul_any _ _) (fun z20 z20a z20b => ?_)
        refine e_Ok.run (t' := (70, [(7, (0, z19)), (6, (0, z14)), (5, (0, z12)), (0, (1, 19)), (1, (0, p)), (2, (0, x)), (3, (0, y)), (4, (0, y4))], [(1, 19), (0, z14), (0, z20)], w)) 2 rfl ?_
        refine e_Ok.getr (z := 27) rfl (el_o rfl) rfl rfl (Eq.trans (e_Has.eq hT rfl) (by omega)) (by omega) ?_
        refine e_Ok.run (t' := (75, [(7, (0, z19)), (6, (0, z14)), (5, (0, z12)), (0, (1, 19)), (1, (0, p)), (2, (0, x)), (3, (0, y)), (4, (0, y4))], [(0, y4), (1, 27), (0, z14), (0, z20)], w)) 1 rfl ?_
        refine e_Ok.ald (z := w 27 y4) rfl (el_o rfl) rfl (by omega) rfl (by omega) ?_
        refine e_Ok.any rfl (eF_mul_any _ _) (fun z21 z21a z21b => ?_)
        refine e_Ok.any rfl (eF_sub_any _ _) (fun z22 z22a z22b => ?_)
        refine e_Ok.mabs rfl rfl (by omega) (fun z23 z23r hz23 => ?_)
        replace hz23 : (0 ≤ z22 → z23 = z22) ∧ (z22 < 0 → -2147483647 ≤ z22 → z23 = -z22) := hz23
        refine e_Ok.run (t' := (87, [(8, (0, z23)), (7, (0, z19)), (6, (0, z14)), (5, (0, z12)), (0, (1, 19)), (1, (0, p)), (2, (0, x)), (3, (0, y)), (4, (0, y4))], [(1, 19), (0, 0), (0, z19)], w)) 4 rfl ?_
        refine e_Ok.getr (z := 20) rfl (el_o rfl) rfl rfl (Eq.trans (e_Has.eq hT rfl) (by omega)) (by omega) ?_
        refine e_Ok.run (t' := (92, [(8, (0, z23)), (7, (0, z19)), (6, (0, z14)), (5, (0, z12)), (0, (1, 19)), (1, (0, p)), (2, (0, x)), (3, (0, y)), (4, (0, y4))], [(0, y4), (1, 20), (0, 0), (0, z19)], w)) 1 rfl ?_
        have h24 := (e_Has.get hT (c := 20) (k := y4) (lo := (-2147483648)) (hi := 2147483647) rfl (by decide))
        refine e_Ok.ald (z := w 20 y4) rfl (el_o rfl) rfl (by omega) rfl (by omega) ?_
        refine e_Ok.callS rfl (by omega) rfl rfl (c_242 (by omega) (by omega) (by omega)) (fun r25 w26 h27 => ?_)
        obtain ⟨z28, rfl, rfl, q29⟩ := h27
        obtain ⟨rfl, q29⟩ | ⟨rfl, q29⟩ := q29
        · show e_Ok 20 elay kcode eI (d + 1) 85 (96, [(8, (0, z23)), (7, (0, z19)), (6, (0, z14)), (5, (0, z12)), (0, (1, 19)), (1, (0, p)), (2, (0, x)), (3, (0, y)), (4, (0, y4))], [(0, 1)], w) _
          refine e_Ok.if1 rfl (fun h30 => ?_) (fun h30 => ?_)
          · replace h30 : (1 : Int) = 0 := h30
            exfalso; omega
          · replace h30 : (1 : Int) ≠ 0 := by have q : ¬ ((1 : Int) = 0) := h30; omega
            refine e_Ok.run (t' := (102, [(8, (0, z23)), (7, (0, z19)), (6, (0, z14)), (5, (0, z12)), (0, (1, 19)), (1, (0, p)), (2, (0, x)), (3, (0, y)), (4, (0, y4))], [(1, 19), (0, z23)], w)) 2 rfl ?_
            refine e_Ok.getr (z := 29) rfl (el_o rfl) rfl rfl (Eq.trans (e_Has.eq hT rfl) (by omega)) (by omega) ?_
            refine e_Ok.run (t' := (107, [(8, (0, z23)), (7, (0, z19)), (6, (0, z14)), (5, (0, z12)), (0, (1, 19)), (1, (0, p)), (2, (0, x)), (3, (0, y)), (4, (0, y4))], [(0, y4), (1, 29), (0, z23)], w)) 1 rfl ?_
            have h31 := (e_Has.get hT (c := 29) (k := y4) (lo := (-2147483648)) (hi := 2147483647) rfl (by decide))
            refine e_Ok.ald (z := w 29 y4) rfl (el_o rfl) rfl (by omega) rfl (by omega) ?_
            refine e_Ok.if2 rfl (fun h32 => ?_) (fun h32 => ?_)
            · replace h32 : (z23 : Int) > w 29 y4 := h32
              refine e_Ok.inc (z := y4 + 1) rfl rfl (by omega) (by omega) ?_
              show e_Ok 20 elay kcode eI (d + 1) 85 (124, [(4, (0, y4 + 1)), (8, (0, z23)), (7, (0, z19)), (6, (0, z14)), (5, (0, z12)), (0, (1, 19)), (1, (0, p)), (2, (0, x)), (3, (0, y))], [], w) _
              refine e_Ok.run (t' := (3, [(4, (0, y4 + 1)), (8, (0, z23)), (7, (0, z19)), (6, (0, z14)), (5, (0, z12)), (0, (1, 19)), (1, (0, p)), (2, (0, x)), (3, (0, y))], [], w)) 1 rfl ?_
              refine e_Ok.sub kAlk (e_sub_of rfl ?_) (ih2 (y4 + 1) (by omega) (by omega))
              exact ⟨rfl, rfl, rfl, rfl, rfl, trivial⟩
            · replace h32 : (z23 : Int) ≤ w 29 y4 := by have q : ¬ ((z23 : Int) > w 29 y4) := h32; omega
              refine e_Ok.run (t' := (117, [(8, (0, z23)), (7, (0, z19)), (6, (0, z14)), (5, (0, z12)), (0, (1, 19)), (1, (0, p)), (2, (0, x)), (3, (0, y)), (4, (0, y4))], [(0, z19), (0, p), (0, y4), (1, 19)], w)) 4 rfl ?_
              refine e_Ok.callV rfl (by omega) rfl rfl rfl rfl (c_80 hT (by omega) (by omega) (by omega) ⟨(hf.1 y4 (by omega) (by omega)).1, fun i g1 g2 => ⟨by have := hf.ord (b := y4) (i := i) (by omega) (by omega); omega, hf.way (by omega) (by omega) (by omega)⟩⟩) (fun r33 w34 h35 => ?_)
              obtain ⟨rfl, q36f, q36T, q36x⟩ := h35
              have f37 : e_fr kFl w w34 := e_fr.trans (e_fr.refl w) (e_fr.mono q36f (fun c k q => by exact q))
              show e_Ok 20 elay kcode eI (d + 1) 85 (120, [(8, (0, z23)), (7, (0, z19)), (6, (0, z14)), (5, (0, z12)), (0, (1, 19)), (1, (0, p)), (2, (0, x)), (3, (0, y)), (4, (0, y4))], [], w34) _
              refine e_Ok.rets rfl rfl ?_
              exact ⟨rfl, f37, q36T, (fK.come hf (by omega) (by omega) (by omega) (by unfold kn1; omega) hn q36x)⟩
        · show e_Ok 20 elay kcode eI (d + 1) 85 (96, [(8, (0, z23)), (7, (0, z19)), (6, (0, z14)), (5, (0, z12)), (0, (1, 19)), (1, (0, p)), (2, (0, x)), (3, (0, y)), (4, (0, y4))], [(0, 0)], w) _
          refine e_Ok.if1 rfl (fun h38 => ?_) (fun h38 => ?_)
          · replace h38 : (0 : Int) = 0 := h38
            refine e_Ok.inc (z := y4 + 1) rfl rfl (by omega) (by omega) ?_
            show e_Ok 20 elay kcode eI (d + 1) 85 (124, [(4, (0, y4 + 1)), (8, (0, z23)), (7, (0, z19)), (6, (0, z14)), (5, (0, z12)), (0, (1, 19)), (1, (0, p)), (2, (0, x)), (3, (0, y))], [], w) _
            refine e_Ok.run (t' := (3, [(4, (0, y4 + 1)), (8, (0, z23)), (7, (0, z19)), (6, (0, z14)), (5, (0, z12)), (0, (1, 19)), (1, (0, p)), (2, (0, x)), (3, (0, y))], [], w)) 1 rfl ?_
            refine e_Ok.sub kAlk (e_sub_of rfl ?_) (ih2 (y4 + 1) (by omega) (by omega))
            exact ⟨rfl, rfl, rfl, rfl, rfl, trivial⟩
          · replace h38 : (0 : Int) ≠ 0 := by have q : ¬ ((0 : Int) = 0) := h38; omega
            exfalso; omega
  refine e_Ok.sub kAlk (e_sub_of rfl ?_) (hL1 (4 + 1 : Int).toNat 0 (by omega) (by omega))
  exact ⟨rfl, rfl, rfl, rfl, rfl, trivial⟩
theorem c_86 {d : Nat} {w : eW} (hT : e_Has kTy w) {b : Int} (g_b : 0 ≤ b ∧ b ≤ 3) (hf : fK w) (hb : b < w 19 0) : e_Ok 20 elay kcode eI d 86 (0, [(0, (1, 19)), (1, (0, b))], [], w) (fun r w' => r = [] ∧ e_fr kWy w w' ∧ e_Has kTy w' ∧ (∀ q, kn1 (w 37 q) → kn1 (w' 37 q))) := by
  have hB0 := e_Has.get hT (c := 19) (k := 0) (lo := 0) (hi := 4) rfl (by decide)
  have hM0 := e_Has.get hT (c := 19) (k := 1) (lo := 0) (hi := 32) rfl (by decide)
  have hO := (hf.1 b (by omega) hb).1
  refine e_Ok.run (t' := (2, [(2, (0, 0)), (0, (1, 19)), (1, (0, b))], [], w)) 2 rfl ?_
  have hL1 : ∀ (nn : Nat) (y2 : Int) (v1 : eW), e_fr kWy w v1 ∧ e_Has kTy v1 ∧ (∀ q, kn1 (w 37 q) → kn1 (v1 37 q)) ∧ (0 ≤ y2 ∧ y2 ≤ 32) → 32 - y2 < nn → e_Ok 20 elay kcode eI d 86 (2, [(0, (1, 19)), (1, (0, b)), (2, (0, y2))], [], v1) (fun r w' => r = [] ∧ e_fr kWy w w' ∧ e_Has kTy w' ∧ (∀ q, kn1 (w 37 q) → kn1 (w' 37 q))) := by
    intro nn
    induction nn with
    | zero => intro y2 v1 hj hm; obtain ⟨j3, j4, j5, j6⟩ := hj; exfalso; omega
    | succ nn ih2 =>
      intro y2 v1 hj hm
      obtain ⟨j3, j4, j5, j6⟩ := hj
      have e35 : v1 35 b = w 35 b := j3 _ _ (by unfold kWy; omega)
      refine e_Ok.run (t' := (4, [(0, (1, 19)), (1, (0, b)), (2, (0, y2))], [(1, 19), (0, y2)], v1)) 2 rfl ?_
      refine e_Ok.getr (z := 35) rfl (el_o rfl) rfl rfl ((j3 19 13 (by unfold kWy; omega)).trans (Eq.trans (e_Has.eq hT rfl) (by omega))) (by omega) ?_
      refine e_Ok.run (t' := (8, [(0, (1, 19)), (1, (0, b)), (2, (0, y2))], [(0, b), (1, 35), (0, y2)], v1)) 1 rfl ?_
      refine e_Ok.ald (z := w 35 b) rfl (el_o rfl) rfl (by omega) ((j3 35 b (by unfold kWy; omega)).trans rfl) (by omega) ?_
      refine e_Ok.if2 rfl (fun h7 => ?_) (fun h7 => ?_)
      · replace h7 : (y2 : Int) ≥ w 35 b := h7
        refine e_Ok.rets rfl rfl ?_
        exact ⟨rfl, j3, j4, j5⟩
      · replace h7 : (y2 : Int) < w 35 b := by have q : ¬ ((y2 : Int) ≥ w 35 b) := h7; omega
        have hq0 := hf.ord (b := b) (i := y2) (by omega) (by omega)
        have hk0 : kn1 (v1 37 (w (b + 31) y2)) := j5 _ (hf.way (by omega) (by omega) (by omega))
        unfold kn1 at hk0
        have eo0 : v1 (b + 31) y2 = w (b + 31) y2 := j3 _ _ (by unfold kWy; omega)
        refine e_Ok.run (t' := (13, [(0, (1, 19)), (1, (0, b)), (2, (0, y2))], [(1, 19)], v1)) 1 rfl ?_
        refine e_Ok.getr (z := 30) rfl (el_o rfl) rfl rfl ((j3 19 12 (by unfold kWy; omega)).trans (Eq.trans (e_Has.eq hT rfl) (by omega))) (by omega) ?_
        refine e_Ok.run (t' := (17, [(0, (1, 19)), (1, (0, b)), (2, (0, y2))], [(0, b), (1, 30)], v1)) 1 rfl ?_
        refine e_Ok.aald (z := b + 31) rfl (el_o rfl) rfl (by omega) ((j3 30 b (by unfold kWy; omega)).trans (Eq.trans (e_Has.eq hT (k30 (by omega))) (by omega))) (by omega) ?_
        refine e_Ok.run (t' := (19, [(0, (1, 19)), (1, (0, b)), (2, (0, y2))], [(0, y2), (1, b + 31)], v1)) 1 rfl ?_
        refine e_Ok.ald (z := w (b + 31) y2) rfl (lO (b := b) (by omega) (by omega)) rfl (by omega) ((j3 (b + 31) y2 (by unfold kWy; omega)).trans rfl) (by omega) ?_
        refine e_Ok.run (t' := (22, [(3, (0, w (b + 31) y2)), (0, (1, 19)), (1, (0, b)), (2, (0, y2))], [(1, 19)], v1)) 2 rfl ?_
        refine e_Ok.getr (z := 37) rfl (el_o rfl) rfl rfl ((j3 19 15 (by unfold kWy; omega)).trans (Eq.trans (e_Has.eq hT rfl) (by omega))) (by omega) ?_
        refine e_Ok.run (t' := (26, [(3, (0, w (b + 31) y2)), (0, (1, 19)), (1, (0, b)), (2, (0, y2))], [(0, w (b + 31) y2), (1, 37)], v1)) 1 rfl ?_
        refine e_Ok.ald (z := v1 37 (w (b + 31) y2)) rfl rfl rfl (by omega) rfl (by omega) ?_
        refine e_Ok.run (t' := (28, [(3, (0, w (b + 31) y2)), (0, (1, 19)), (1, (0, b)), (2, (0, y2))], [(1, 19), (0, v1 37 (w (b + 31) y2))], v1)) 1 rfl ?_
        refine e_Ok.getr (z := 21) rfl (el_o rfl) rfl rfl ((j3 19 3 (by unfold kWy; omega)).trans (Eq.trans (e_Has.eq hT rfl) (by omega))) (by omega) ?_
        refine e_Ok.run (t' := (32, [(3, (0, w (b + 31) y2)), (0, (1, 19)), (1, (0, b)), (2, (0, y2))], [(0, b), (1, 21), (0, v1 37 (w (b + 31) y2))], v1)) 1 rfl ?_
        have h8 := (e_Has.get hT (c := 21) (k := b) (lo := (-2147483648)) (hi := 2147483647) rfl (by decide))
        refine e_Ok.ald (z := w 21 b) rfl (el_o rfl) rfl (by omega) ((j3 21 b (by unfold kWy; omega)).trans rfl) (by omega) ?_
        refine e_Ok.any rfl (eF_add_any _ _) (fun z9 z9a z9b => ?_)
        refine e_Ok.run (t' := (35, [(3, (0, w (b + 31) y2)), (0, (1, 19)), (1, (0, b)), (2, (0, y2))], [(1, 19), (0, z9)], v1)) 1 rfl ?_
        refine e_Ok.getr (z := 20) rfl (el_o rfl) rfl rfl ((j3 19 2 (by unfold kWy; omega)).trans (Eq.trans (e_Has.eq hT rfl) (by omega))) (by omega) ?_
        refine e_Ok.run (t' := (39, [(3, (0, w (b + 31) y2)), (0, (1, 19)), (1, (0, b)), (2, (0, y2))], [(0, b), (1, 20), (0, z9)], v1)) 1 rfl ?_
        have h10 := (e_Has.get hT (c := 20) (k := b) (lo := (-2147483648)) (hi := 2147483647) rfl (by decide))
        refine e_Ok.ald (z := w 20 b) rfl (el_o rfl) rfl (by omega) ((j3 20 b (by unfold kWy; omega)).trans rfl) (by omega) ?_
        refine e_Ok.mmin rfl rfl (fun z11 hz11 => ?_)
        replace hz11 : ((w 20 b) < z9 ∧ z11 = w 20 b) ∨ (z9 ≤ w 20 b ∧ z11 = z9) := hz11
        refine e_Ok.run (t' := (46, [(4, (0, z11)), (3, (0, w (b + 31) y2)), (0, (1, 19)), (1, (0, b)), (2, (0, y2))], [(0, y2)], v1)) 2 rfl ?_
        refine e_Ok.if1 rfl (fun h12 => ?_) (fun h12 => ?_)
        · replace h12 : (y2 : Int) ≤ 0 := h12
          refine e_Ok.run (t' := (91, [(4, (0, z11)), (3, (0, w (b + 31) y2)), (0, (1, 19)), (1, (0, b)), (2, (0, y2))], [(1, 19)], v1)) 1 rfl ?_
          refine e_Ok.getr (z := 37) rfl (el_o rfl) rfl rfl ((j3 19 15 (by unfold kWy; omega)).trans (Eq.trans (e_Has.eq hT rfl) (by omega))) (by omega) ?_
          refine e_Ok.run (t' := (96, [(4, (0, z11)), (3, (0, w (b + 31) y2)), (0, (1, 19)), (1, (0, b)), (2, (0, y2))], [(1, 19), (0, w (b + 31) y2), (1, 37)], v1)) 2 rfl ?_
          refine e_Ok.getr (z := 37) rfl (el_o rfl) rfl rfl ((j3 19 15 (by unfold kWy; omega)).trans (Eq.trans (e_Has.eq hT rfl) (by omega))) (by omega) ?_
          refine e_Ok.run (t' := (100, [(4, (0, z11)), (3, (0, w (b + 31) y2)), (0, (1, 19)), (1, (0, b)), (2, (0, y2))], [(0, w (b + 31) y2), (1, 37), (0, w (b + 31) y2), (1, 37)], v1)) 1 rfl ?_
          refine e_Ok.ald (z := v1 37 (w (b + 31) y2)) rfl rfl rfl (by omega) rfl (by omega) ?_
          refine e_Ok.run (t' := (103, [(4, (0, z11)), (3, (0, w (b + 31) y2)), (0, (1, 19)), (1, (0, b)), (2, (0, y2))], [(0, z11), (0, v1 37 (w (b + 31) y2)), (0, w (b + 31) y2), (1, 37)], v1)) 1 rfl ?_
          refine e_Ok.mmax rfl rfl (fun z13 hz13 => ?_)
          replace hz13 : ((v1 37 (w (b + 31) y2)) < z11 ∧ z13 = z11) ∨ (z11 ≤ v1 37 (w (b + 31) y2) ∧ z13 = v1 37 (w (b + 31) y2)) := hz13
          refine e_Ok.ast rfl (el_o rfl) rfl rfl (by omega) ?_
          generalize hw14 : e_up v1 37 (w (b + 31) y2) z13 = w14
          have f15 : e_fr kWy w w14 := e_fr.up j3 hw14 (by unfold kWy; omega)
          have hT16 : e_Has kTy w14 := e_Has.ups j4 hw14 rfl
          refine e_Ok.inc (z := y2 + 1) rfl rfl (by omega) (by omega) ?_
          show e_Ok 20 elay kcode eI d 86 (110, [(2, (0, y2 + 1)), (4, (0, z11)), (3, (0, w (b + 31) y2)), (0, (1, 19)), (1, (0, b))], [], w14) _
          refine e_Ok.run (t' := (2, [(2, (0, y2 + 1)), (4, (0, z11)), (3, (0, w (b + 31) y2)), (0, (1, 19)), (1, (0, b))], [], w14)) 1 rfl ?_
          refine e_Ok.sub kAlk (e_sub_of rfl ?_) (ih2 (y2 + 1) w14 ⟨f15, hT16, (fun q g => by rw [← hw14]; by_cases e : q = w (b + 31) y2; (rw [e, e_up_eq]; unfold kn1; omega); (rw [e_up_ne _ _ (Or.inr e)]; exact j5 q g)), by omega⟩ (by omega))
          exact ⟨rfl, rfl, rfl, trivial⟩
        · replace h12 : (y2 : Int) > 0 := by have q : ¬ ((y2 : Int) ≤ 0) := h12; omega
          have hq1 := hf.ord (b := b) (i := y2 - 1) (by omega) (by omega)
          have hk1 : kn1 (v1 37 (w (b + 31) (y2 - 1))) := j5 _ (hf.way (by omega) (by omega) (by omega))
          unfold kn1 at hk1
          have eo1 : v1 (b + 31) (y2 - 1) = w (b + 31) (y2 - 1) := j3 _ _ (by unfold kWy; omega)
          refine e_Ok.run (t' := (50, [(4, (0, z11)), (3, (0, w (b + 31) y2)), (0, (1, 19)), (1, (0, b)), (2, (0, y2))], [(1, 19)], v1)) 1 rfl ?_
          refine e_Ok.getr (z := 30) rfl (el_o rfl) rfl rfl ((j3 19 12 (by unfold kWy; omega)).trans (Eq.trans (e_Has.eq hT rfl) (by omega))) (by omega) ?_
          refine e_Ok.run (t' := (54, [(4, (0, z11)), (3, (0, w (b + 31) y2)), (0, (1, 19)), (1, (0, b)), (2, (0, y2))], [(0, b), (1, 30)], v1)) 1 rfl ?_
          refine e_Ok.aald (z := b + 31) rfl (el_o rfl) rfl (by omega) ((j3 30 b (by unfold kWy; omega)).trans (Eq.trans (e_Has.eq hT (k30 (by omega))) (by omega))) (by omega) ?_
          refine e_Ok.run (t' := (57, [(4, (0, z11)), (3, (0, w (b + 31) y2)), (0, (1, 19)), (1, (0, b)), (2, (0, y2))], [(0, 1), (0, y2), (1, b + 31)], v1)) 2 rfl ?_
          refine e_Ok.sub' (z := y2 - 1) rfl (by omega) (by omega) ?_
          refine e_Ok.ald (z := w (b + 31) (y2 - 1)) rfl (lO (b := b) (by omega) (by omega)) rfl (by omega) ((j3 (b + 31) (y2 - 1) (by unfold kWy; omega)).trans rfl) (by omega) ?_
          refine e_Ok.run (t' := (64, [(5, (0, w (b + 31) (y2 - 1))), (4, (0, z11)), (3, (0, w (b + 31) y2)), (0, (1, 19)), (1, (0, b)), (2, (0, y2))], [(1, 19), (0, z11)], v1)) 3 rfl ?_
          refine e_Ok.getr (z := 37) rfl (el_o rfl) rfl rfl ((j3 19 15 (by unfold kWy; omega)).trans (Eq.trans (e_Has.eq hT rfl) (by omega))) (by omega) ?_
          refine e_Ok.run (t' := (69, [(5, (0, w (b + 31) (y2 - 1))), (4, (0, z11)), (3, (0, w (b + 31) y2)), (0, (1, 19)), (1, (0, b)), (2, (0, y2))], [(0, w (b + 31) (y2 - 1)), (1, 37), (0, z11)], v1)) 1 rfl ?_
          refine e_Ok.ald (z := v1 37 (w (b + 31) (y2 - 1))) rfl rfl rfl (by omega) rfl (by omega) ?_
          refine e_Ok.run (t' := (71, [(5, (0, w (b + 31) (y2 - 1))), (4, (0, z11)), (3, (0, w (b + 31) y2)), (0, (1, 19)), (1, (0, b)), (2, (0, y2))], [(1, 19), (0, v1 37 (w (b + 31) (y2 - 1))), (0, z11)], v1)) 1 rfl ?_
          refine e_Ok.getr (z := 38) rfl (el_o rfl) rfl rfl ((j3 19 16 (by unfold kWy; omega)).trans (Eq.trans (e_Has.eq hT rfl) (by omega))) (by omega) ?_
          refine e_Ok.run (t' := (76, [(5, (0, w (b + 31) (y2 - 1))), (4, (0, z11)), (3, (0, w (b + 31) y2)), (0, (1, 19)), (1, (0, b)), (2, (0, y2))], [(0, w (b + 31) (y2 - 1)), (1, 38), (0, v1 37 (w (b + 31) (y2 - 1))), (0, z11)], v1)) 1 rfl ?_
          have h17 := (e_Has.get hT (c := 38) (k := w (b + 31) (y2 - 1)) (lo := (-2147483648)) (hi := 2147483647) rfl (by decide))
          refine e_Ok.ald (z := w 38 (w (b + 31) (y2 - 1))) rfl rfl rfl (by omega) ((j3 38 (w (b + 31) (y2 - 1)) (by unfold kWy; omega)).trans rfl) (by omega) ?_
          refine e_Ok.any rfl (eF_sub_any _ _) (fun z18 z18a z18b => ?_)
          refine e_Ok.run (t' := (79, [(5, (0, w (b + 31) (y2 - 1))), (4, (0, z11)), (3, (0, w (b + 31) y2)), (0, (1, 19)), (1, (0, b)), (2, (0, y2))], [(1, 19), (0, z18), (0, z11)], v1)) 1 rfl ?_
          refine e_Ok.getr (z := 38) rfl (el_o rfl) rfl rfl ((j3 19 16 (by unfold kWy; omega)).trans (Eq.trans (e_Has.eq hT rfl) (by omega))) (by omega) ?_
          refine e_Ok.run (t' := (83, [(5, (0, w (b + 31) (y2 - 1))), (4, (0, z11)), (3, (0, w (b + 31) y2)), (0, (1, 19)), (1, (0, b)), (2, (0, y2))], [(0, w (b + 31) y2), (1, 38), (0, z18), (0, z11)], v1)) 1 rfl ?_
          have h19 := (e_Has.get hT (c := 38) (k := w (b + 31) y2) (lo := (-2147483648)) (hi := 2147483647) rfl (by decide))
          refine e_Ok.ald (z := w 38 (w (b + 31) y2)) rfl rfl rfl (by omega) ((j3 38 (w (b + 31) y2) (by unfold kWy; omega)).trans rfl) (by omega) ?_
          refine e_Ok.any rfl (eF_sub_any _ _) (fun z20 z20a z20b => ?_)
          refine e_Ok.mmin rfl rfl (fun z21 hz21 => ?_)
          replace hz21 : (z20 < z11 ∧ z21 = z20) ∨ (z11 ≤ z20 ∧ z21 = z11) := hz21
          refine e_Ok.run (t' := (91, [(4, (0, z21)), (5, (0, w (b + 31) (y2 - 1))), (3, (0, w (b + 31) y2)), (0, (1, 19)), (1, (0, b)), (2, (0, y2))], [(1, 19)], v1)) 2 rfl ?_
          refine e_Ok.getr (z := 37) rfl (el_o rfl) rfl rfl ((j3 19 15 (by unfold kWy; omega)).trans (Eq.trans (e_Has.eq hT rfl) (by omega))) (by omega) ?_
          refine e_Ok.run (t' := (96, [(4, (0, z21)), (5, (0, w (b + 31) (y2 - 1))), (3, (0, w (b + 31) y2)), (0, (1, 19)), (1, (0, b)), (2, (0, y2))], [(1, 19), (0, w (b + 31) y2), (1, 37)], v1)) 2 rfl ?_
          refine e_Ok.getr (z := 37) rfl (el_o rfl) rfl rfl ((j3 19 15 (by unfold kWy; omega)).trans (Eq.trans (e_Has.eq hT rfl) (by omega))) (by omega) ?_
          refine e_Ok.run (t' := (100, [(4, (0, z21)), (5, (0, w (b + 31) (y2 - 1))), (3, (0, w (b + 31) y2)), (0, (1, 19)), (1, (0, b)), (2, (0, y2))], [(0, w (b + 31) y2), (1, 37), (0, w (b + 31) y2), (1, 37)], v1)) 1 rfl ?_
          refine e_Ok.ald (z := v1 37 (w (b + 31) y2)) rfl rfl rfl (by omega) rfl (by omega) ?_
          refine e_Ok.run (t' := (103, [(4, (0, z21)), (5, (0, w (b + 31) (y2 - 1))), (3, (0, w (b + 31) y2)), (0, (1, 19)), (1, (0, b)), (2, (0, y2))], [(0, z21), (0, v1 37 (w (b + 31) y2)), (0, w (b + 31) y2), (1, 37)], v1)) 1 rfl ?_
          refine e_Ok.mmax rfl rfl (fun z22 hz22 => ?_)
          replace hz22 : ((v1 37 (w (b + 31) y2)) < z21 ∧ z22 = z21) ∨ (z21 ≤ v1 37 (w (b + 31) y2) ∧ z22 = v1 37 (w (b + 31) y2)) := hz22
          refine e_Ok.ast rfl (el_o rfl) rfl rfl (by omega) ?_
          generalize hw23 : e_up v1 37 (w (b + 31) y2) z22 = w23
          have f24 : e_fr kWy w w23 := e_fr.up j3 hw23 (by unfold kWy; omega)
          have hT25 : e_Has kTy w23 := e_Has.ups j4 hw23 rfl
          refine e_Ok.inc (z := y2 + 1) rfl rfl (by omega) (by omega) ?_
          show e_Ok 20 elay kcode eI d 86 (110, [(2, (0, y2 + 1)), (4, (0, z21)), (5, (0, w (b + 31) (y2 - 1))), (3, (0, w (b + 31) y2)), (0, (1, 19)), (1, (0, b))], [], w23) _
          refine e_Ok.run (t' := (2, [(2, (0, y2 + 1)), (4, (0, z21)), (5, (0, w (b + 31) (y2 - 1))), (3, (0, w (b + 31) y2)), (0, (1, 19)), (1, (0, b))], [], w23)) 1 rfl ?_
          refine e_Ok.sub kAlk (e_sub_of rfl ?_) (ih2 (y2 + 1) w23 ⟨f24, hT25, (fun q g => by rw [← hw23]; by_cases e : q = w (b + 31) y2; (rw [e, e_up_eq]; unfold kn1; omega); (rw [e_up_ne _ _ (Or.inr e)]; exact j5 q g)), by omega⟩ (by omega))
          exact ⟨rfl, rfl, rfl, trivial⟩
  refine e_Ok.sub kAlk (e_sub_of rfl ?_) (hL1 (32 + 1 : Int).toNat 0 w ⟨(e_fr.refl w), hT, (fun _ g => g), by omega⟩ (by omega))
  exact ⟨rfl, rfl, rfl, trivial⟩
theorem c_87 {d : Nat} (hd : 21 ≤ d) {w : eW} (hT : e_Has kTy w) {b : Int} (g_b : 0 ≤ b ∧ b ≤ 3) (hf : fK w) (hb : b < w 19 0) : e_Ok 20 elay kcode eI d 87 (0, [(0, (1, 19)), (1, (0, b))], [], w) (fun r w' => ∃ z : Int, r = [(0, z)] ∧ w = w' ∧ (0 ≤ z ∧ z ≤ 1)) := by
  obtain ⟨d, rfl⟩ : ∃ e, d = e + 1 := ⟨d - 1, by omega⟩
  have hB0 := e_Has.get hT (c := 19) (k := 0) (lo := 0) (hi := 4) rfl (by decide)
  have hM0 := e_Has.get hT (c := 19) (k := 1) (lo := 0) (hi := 32) rfl (by decide)
  have hO := (hf.1 b (by omega) hb).1
  refine e_Ok.run (t' := (2, [(2, (0, 0)), (0, (1, 19)), (1, (0, b))], [], w)) 2 rfl ?_
  have hL1 : ∀ (nn : Nat) (y2 : Int), 0 ≤ y2 ∧ y2 ≤ 32 → 32 - y2 < nn → e_Ok 20 elay kcode eI (d + 1) 87 (2, [(0, (1, 19)), (1, (0, b)), (2, (0, y2))], [], w) (fun r w' => ∃ z : Int, r = [(0, z)] ∧ w = w' ∧ (0 ≤ z ∧ z ≤ 1)) := by
    intro nn
    induction nn with
    | zero => intro y2 hj hm; obtain j3 := hj; exfalso; omega
    | succ nn ih2 =>
      intro y2 hj hm
      obtain j3 := hj
      refine e_Ok.run (t' := (4, [(0, (1, 19)), (1, (0, b)), (2, (0, y2))], [(1, 19), (0, y2)], w)) 2 rfl ?_
      refine e_Ok.getr (z := 35) rfl (el_o rfl) rfl rfl (Eq.trans (e_Has.eq hT rfl) (by omega)) (by omega) ?_
      refine e_Ok.run (t' := (8, [(0, (1, 19)), (1, (0, b)), (2, (0, y2))], [(0, b), (1, 35), (0, y2)], w)) 1 rfl ?_
      refine e_Ok.ald (z := w 35 b) rfl (el_o rfl) rfl (by omega) rfl (by omega) ?_
      refine e_Ok.if2 rfl (fun h4 => ?_) (fun h4 => ?_)
      · replace h4 : (y2 : Int) ≥ w 35 b := h4
        refine e_Ok.run (t' := (52, [(0, (1, 19)), (1, (0, b)), (2, (0, y2))], [(0, 0)], w)) 1 rfl ?_
        refine e_Ok.rets rfl rfl ?_
        exact ⟨_, rfl, rfl, ⟨by omega, by omega⟩⟩
      · replace h4 : (y2 : Int) < w 35 b := by have q : ¬ ((y2 : Int) ≥ w 35 b) := h4; omega
        have hq := hf.ord (b := b) (i := y2) (by omega) (by omega)
        have hk := hf.way (b := b) (i := y2) (by omega) (by omega) (by omega)
        refine e_Ok.run (t' := (13, [(0, (1, 19)), (1, (0, b)), (2, (0, y2))], [(1, 19)], w)) 1 rfl ?_
        refine e_Ok.getr (z := 37) rfl (el_o rfl) rfl rfl (Eq.trans (e_Has.eq hT rfl) (by omega)) (by omega) ?_
        refine e_Ok.run (t' := (17, [(0, (1, 19)), (1, (0, b)), (2, (0, y2))], [(1, 19), (1, 37)], w)) 1 rfl ?_
        refine e_Ok.getr (z := 30) rfl (el_o rfl) rfl rfl (Eq.trans (e_Has.eq hT rfl) (by omega)) (by omega) ?_
        refine e_Ok.run (t' := (21, [(0, (1, 19)), (1, (0, b)), (2, (0, y2))], [(0, b), (1, 30), (1, 37)], w)) 1 rfl ?_
        refine e_Ok.aald (z := b + 31) rfl (el_o rfl) rfl (by omega) (Eq.trans (e_Has.eq hT (k30 (by omega))) (by omega)) (by omega) ?_
        refine e_Ok.run (t' := (23, [(0, (1, 19)), (1, (0, b)), (2, (0, y2))], [(0, y2), (1, b + 31), (1, 37)], w)) 1 rfl ?_
        refine e_Ok.ald (z := w (b + 31) y2) rfl (lO (b := b) (by omega) (by omega)) rfl (by omega) rfl (by omega) ?_
        refine e_Ok.ald (z := w 37 (w (b + 31) y2)) rfl rfl rfl (by omega) rfl (by omega) ?_
        refine e_Ok.run (t' := (26, [(0, (1, 19)), (1, (0, b)), (2, (0, y2))], [(1, 19), (0, w 37 (w (b + 31) y2))], w)) 1 rfl ?_
        refine e_Ok.getr (z := 23) rfl (el_o rfl) rfl rfl (Eq.trans (e_Has.eq hT rfl) (by omega)) (by omega) ?_
        refine e_Ok.run (t' := (30, [(0, (1, 19)), (1, (0, b)), (2, (0, y2))], [(0, b), (1, 23), (0, w 37 (w (b + 31) y2))], w)) 1 rfl ?_
        have h5 := (e_Has.get hT (c := 23) (k := b) (lo := (-2147483648)) (hi := 2147483647) rfl (by decide))
        refine e_Ok.ald (z := w 23 b) rfl (el_o rfl) rfl (by omega) rfl (by omega) ?_
        refine e_Ok.run (t' := (32, [(0, (1, 19)), (1, (0, b)), (2, (0, y2))], [(1, 19), (0, w 23 b), (0, w 37 (w (b + 31) y2))], w)) 1 rfl ?_
        refine e_Ok.getr (z := 24) rfl (el_o rfl) rfl rfl (Eq.trans (e_Has.eq hT rfl) (by omega)) (by omega) ?_
        refine e_Ok.run (t' := (36, [(0, (1, 19)), (1, (0, b)), (2, (0, y2))], [(0, b), (1, 24), (0, w 23 b), (0, w 37 (w (b + 31) y2))], w)) 1 rfl ?_
        have h6 := (e_Has.get hT (c := 24) (k := b) (lo := (-2147483648)) (hi := 2147483647) rfl (by decide))
        refine e_Ok.ald (z := w 24 b) rfl (el_o rfl) rfl (by omega) rfl (by omega) ?_
        refine e_Ok.callS rfl (by omega) rfl rfl (c_242 (by omega) (by omega) (by omega)) (fun r7 w8 h9 => ?_)
        obtain ⟨z10, rfl, rfl, q11⟩ := h9
        obtain ⟨rfl, q11⟩ | ⟨rfl, q11⟩ := q11
        · show e_Ok 20 elay kcode eI (d + 1) 87 (40, [(0, (1, 19)), (1, (0, b)), (2, (0, y2))], [(0, 1)], w) _
          refine e_Ok.if1 rfl (fun h12 => ?_) (fun h12 => ?_)
          · replace h12 : (1 : Int) = 0 := h12
            exfalso; omega
          · replace h12 : (1 : Int) ≠ 0 := by have q : ¬ ((1 : Int) = 0) := h12; omega
            refine e_Ok.run (t' := (44, [(0, (1, 19)), (1, (0, b)), (2, (0, y2))], [(0, 1)], w)) 1 rfl ?_
            refine e_Ok.rets rfl rfl ?_
            exact ⟨_, rfl, rfl, ⟨by omega, by omega⟩⟩
        · show e_Ok 20 elay kcode eI (d + 1) 87 (40, [(0, (1, 19)), (1, (0, b)), (2, (0, y2))], [(0, 0)], w) _
          refine e_Ok.if1 rfl (fun h13 => ?_) (fun h13 => ?_)
          · replace h13 : (0 : Int) = 0 := h13
            refine e_Ok.inc (z := y2 + 1) rfl rfl (by omega) (by omega) ?_
            show e_Ok 20 elay kcode eI (d + 1) 87 (48, [(2, (0, y2 + 1)), (0, (1, 19)), (1, (0, b))], [], w) _
            refine e_Ok.run (t' := (2, [(2, (0, y2 + 1)), (0, (1, 19)), (1, (0, b))], [], w)) 1 rfl ?_
            refine e_Ok.sub kAlk (e_sub_of rfl ?_) (ih2 (y2 + 1) (by omega) (by omega))
            exact ⟨rfl, rfl, rfl, trivial⟩
          · replace h13 : (0 : Int) ≠ 0 := by have q : ¬ ((0 : Int) = 0) := h13; omega
            exfalso; omega
  refine e_Ok.sub kAlk (e_sub_of rfl ?_) (hL1 (32 + 1 : Int).toNat 0 (by omega) (by omega))
  exact ⟨rfl, rfl, rfl, trivial⟩
end
