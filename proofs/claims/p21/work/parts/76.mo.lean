noncomputable section
/-! what the arms' motion keeps: joints within their limits, ways that lead within them -/
/-- P m j: where the joint j of the arm a is after m steps of its way, from the step i on -/
def wyP (w : eW) (a i : Int) (P : Int → Int → Int) : Prop :=
  (∀ m, i ≤ m → m < w 276 (36 * a + 19) → w 276 (1000 * a + m + 21060) < 2 * w 286 a) ∧
  (∀ m j, i ≤ m → m < w 276 (36 * a + 19) → 0 ≤ j → j ≤ 5 → (w 276 (1000 * a + m + 21060) = 2 * j → P (m + 1) j = P m j + w 276 (36 * a + 26)) ∧ (w 276 (1000 * a + m + 21060) = 2 * j + 1 → P (m + 1) j = P m j - w 276 (36 * a + 26)) ∧ (w 276 (1000 * a + m + 21060) ≠ 2 * j → w 276 (1000 * a + m + 21060) ≠ 2 * j + 1 → P (m + 1) j = P m j)) ∧
  (∀ m j, i ≤ m → m ≤ w 276 (36 * a + 19) → 0 ≤ j → j < w 286 a → w 288 (6 * a + j) ≤ P m j ∧ P m j ≤ w 289 (6 * a + j))
def moJ (w : eW) (a j : Int) : Prop := joOk (w 276 (36 * a + 16)) (w 276 (36 * a + j + 32)) (w 276 (36 * a + j + 38)) (w 276 (36 * a + j + 44)) (w 288 (6 * a + j)) (w 289 (6 * a + j)) (w 291 (6 * a + j))
/-- the way of the arm a; x: that arm stands, and is to take up its way again -/
def mWy (w : eW) (x a : Int) : Prop :=
  (w 276 (36 * a + 20) = 1 → a < w 275 10 ∧ 0 ≤ w 276 (36 * a + 19) ∧ ∃ P, wyP w a 0 P ∧ ∀ j, 0 ≤ j → j < w 286 a → P 0 j = w 276 (36 * a + j + 32)) ∧
  (w 276 (36 * a + 22) = 1 → (a = x ∨ w 276 (36 * a + 16) = 1) ∧ w 276 (36 * a + 23) ≤ w 276 (36 * a + 19) ∧ ∃ P, wyP w a (w 276 (36 * a + 23)) P ∧ ∀ j, 0 ≤ j → j < w 286 a → (a ≠ x → P (w 276 (36 * a + 23)) j = w 276 (36 * a + j + 44)) ∧ (a = x → P (w 276 (36 * a + 23)) j = w 276 (36 * a + j + 32)))
def mMo (w : eW) (x : Int) : Prop := (∀ a j, 0 ≤ a → a ≤ 3 → 0 ≤ j → j < w 286 a → moJ w a j) ∧ (∀ a, 0 ≤ a → a ≤ 3 → mWy w x a) ∧ (w 276 1 = 0 → ∀ a, 0 ≤ a → a < w 275 10 → w 276 (36 * a + 16) = 0)
/-- what mMo reads, but for states and travels -/
def moK (c k : Int) : Prop := (c = 275 ∧ k = 10) ∨ c = 286 ∨ (288 ≤ c ∧ c ≤ 291) ∨ (c = 276 ∧ (k = 1 ∨ (16 ≤ k ∧ k < 160 ∧ ((k - 16) % 36 = 3 ∨ (k - 16) % 36 = 4 ∨ (k - 16) % 36 = 7 ∨ (k - 16) % 36 = 10 ∨ (16 ≤ (k - 16) % 36 ∧ (k - 16) % 36 ≤ 33))) ∨ (21060 ≤ k ∧ k < 25060)))
theorem wyP.fr {w w' : eW} {a i : Int} {P : Int → Int → Int} (h : wyP w a i P) (ha : 0 ≤ a ∧ a ≤ 3) (hi : 0 ≤ i) (hs : w 276 (36 * a + 19) ≤ 999) (h1 : w' 276 (36 * a + 19) = w 276 (36 * a + 19)) (h2 : w' 276 (36 * a + 26) = w 276 (36 * a + 26)) (h3 : ∀ c k, c = 286 ∨ c = 288 ∨ c = 289 → w' c k = w c k) (h4 : ∀ k, 21060 ≤ k → k < 25060 → w' 276 k = w 276 k) : wyP w' a i P := by
  obtain ⟨q1, q2, q3⟩ := h
  refine ⟨fun m g1 g2 => ?_, fun m j g1 g2 g3 g4 => ?_, fun m j g1 g2 g3 g4 => ?_⟩
  · rw [h1] at g2
    rw [h4 _ (by omega) (by omega), h3 286 _ (by omega)]
    exact q1 m g1 g2
  · rw [h1] at g2
    rw [h4 _ (by omega) (by omega), h2]
    exact q2 m j g1 g2 g3 g4
  · rw [h1] at g2
    rw [h3 286 _ (by omega)] at g4
    rw [h3 288 _ (by omega), h3 289 _ (by omega)]
    exact q3 m j g1 g2 g3 g4
theorem moK_a {a f : Int} (ha : 0 ≤ a ∧ a ≤ 3) (hf : f = 19 ∨ f = 20 ∨ f = 23 ∨ f = 26) : moK 276 (36 * a + f) := by unfold moK; omega
theorem moK_j {a j f : Int} (ha : 0 ≤ a ∧ a ≤ 3) (hj : 0 ≤ j ∧ j ≤ 5) (hf : f = 32 ∨ f = 38 ∨ f = 44) : moK 276 (36 * a + j + f) := by unfold moK; omega
/-- the types that mMo's own proofs want -/
def moT (w : eW) : Prop := w 275 10 ≤ 4 ∧ ∀ a, 0 ≤ a → a ≤ 3 → w 276 (36 * a + 19) ≤ 999 ∧ 0 ≤ w 276 (36 * a + 23) ∧ 0 ≤ w 286 a ∧ w 286 a ≤ 6
theorem mWy.fr {w w' : eW} {x a : Int} (hty : moT w) (ha : 0 ≤ a ∧ a ≤ 3) (hf : ∀ c k, moK c k → (c = 276 → k < 160 → 36 * a + 16 ≤ k ∧ k ≤ 36 * a + 51) → w' c k = w c k) (hS : w' 276 (36 * a + 22) = 1 → w' 276 (36 * a + 16) = w 276 (36 * a + 16) ∧ w 276 (36 * a + 22) = 1) (h : mWy w x a) : mWy w' x a := by
  obtain ⟨y1, y2, y3, y4⟩ := hty.2 a ha.1 ha.2
  have f1 := hf 276 _ (moK_a ha (f := 19) (by omega)) (by omega)
  have f2 := hf 276 _ (moK_a ha (f := 20) (by omega)) (by omega)
  have f3 := hf 276 _ (moK_a ha (f := 23) (by omega)) (by omega)
  have f4 := hf 276 _ (moK_a ha (f := 26) (by omega)) (by omega)
  have f5 : ∀ c k, c = 286 ∨ c = 288 ∨ c = 289 → w' c k = w c k := fun c k q => hf c k (by unfold moK; omega) (by omega)
  have f6 : ∀ k, 21060 ≤ k → k < 25060 → w' 276 k = w 276 k := fun k q1 q2 => hf 276 k (by unfold moK; omega) (by omega)
  have f7 : w' 275 10 = w 275 10 := hf 275 10 (by unfold moK; omega) (by omega)
  obtain ⟨q1, q2⟩ := h
  refine ⟨fun e => ?_, fun e => ?_⟩
  · rw [f2] at e
    obtain ⟨z1, z2, P, z3, z4⟩ := q1 e
    refine ⟨by rw [f7]; exact z1, by rw [f1]; exact z2, P, z3.fr ha (by omega) y1 f1 f4 f5 f6, fun j g1 g2 => ?_⟩
    rw [f5 286 _ (by omega)] at g2
    rw [hf 276 _ (moK_j ha (j := j) (f := 32) (by omega) (by omega)) (by omega)]
    exact z4 j g1 g2
  · obtain ⟨s1, s2⟩ := hS e
    obtain ⟨z1, z2, P, z3, z4⟩ := q2 s2
    rw [f3, f1, s1]
    refine ⟨z1, z2, P, z3.fr ha y2 y1 f1 f4 f5 f6, fun j g1 g2 => ?_⟩
    rw [f5 286 _ (by omega)] at g2
    rw [hf 276 _ (moK_j ha (j := j) (f := 32) (by omega) (by omega)) (by omega), hf 276 _ (moK_j ha (j := j) (f := 44) (by omega) (by omega)) (by omega)]
    exact z4 j g1 g2
theorem mMo.rel {w w' : eW} {x : Int} (h : mMo w x) (hty : moT w) (hg : mCf w) (hs : sRel w w') (hf : ∀ c k, moK c k → w' c k = w c k) : mMo w' x := by
  obtain ⟨h1, h2, h3⟩ := h
  have f5 : ∀ c k, c = 286 ∨ c = 288 ∨ c = 289 ∨ c = 291 → w' c k = w c k := fun c k q => hf c k (by unfold moK; omega)
  refine ⟨fun a j g1 g2 g3 g4 => ?_, fun a g1 g2 => ?_, fun e a g1 g2 => ?_⟩
  · rw [f5 286 _ (by omega)] at g4
    have y := hty.2 a g1 g2
    have q := h1 a j g1 g2 g3 g4
    unfold moJ at q ⊢
    rw [hf 276 _ (moK_j ⟨g1, g2⟩ (j := j) (f := 32) (by omega) (by omega)), hf 276 _ (moK_j ⟨g1, g2⟩ (j := j) (f := 38) (by omega) (by omega)), hf 276 _ (moK_j ⟨g1, g2⟩ (j := j) (f := 44) (by omega) (by omega)), f5 288 _ (by omega), f5 289 _ (by omega), f5 291 _ (by omega)]
    rcases hs a g1 g2 with s | s
    · rw [s.1]; exact q
    · rw [s.2.1]
      rw [s.1] at q
      exact joOk.brake (hg a j g1 g2 g3 g4).2 q
  · refine (h2 a g1 g2).fr hty ⟨g1, g2⟩ (fun c k q _ => hf c k q) (fun e => ?_)
    rcases hs a g1 g2 with s | s <;> omega
  · have e1 : w' 276 1 = w 276 1 := hf 276 1 (by unfold moK; omega)
    have e2 : w' 275 10 = w 275 10 := hf 275 10 (by unfold moK; omega)
    rw [e1] at e
    rw [e2] at g2
    have q := h3 e a g1 g2
    have y := hty.1
    rcases hs a g1 (by omega) with s | s <;> omega
theorem mWy.ne {w : eW} {x x' a : Int} (h : mWy w x a) (h1 : a ≠ x) (h2 : a ≠ x') : mWy w x' a := by
  obtain ⟨q1, q2⟩ := h
  refine ⟨q1, fun e => ?_⟩
  obtain ⟨z1, z2, P, z3, z4⟩ := q2 e
  exact ⟨Or.inr (z1.resolve_left h1), z2, P, z3, fun j g1 g2 => ⟨fun _ => (z4 j g1 g2).1 h1, fun e => absurd e h2⟩⟩
/-- the arm a, which stands, begins a move -/
theorem mMo.begin {w w' : eW} {x a : Int} (h : mMo w x) (hx : x = -1 ∨ x = a) (hty : moT w) (ha : 0 ≤ a ∧ a ≤ 3) (hS : w 276 (36 * a + 16) = 0) (hP : w 276 1 ≠ 0)
    (hf : ∀ c k, moK c k → ¬ (c = 276 ∧ ((36 * a + 44 ≤ k ∧ k ≤ 36 * a + 49) ∨ k = 36 * a + 23)) → w' c k = w c k) (hb : ∀ b, 0 ≤ b → b ≤ 3 → b ≠ a → w' 276 (36 * b + 16) = w 276 (36 * b + 16) ∧ w' 276 (36 * b + 22) = w 276 (36 * b + 22))
    (hS' : w' 276 (36 * a + 16) = 1) (hg : ∀ j, 0 ≤ j → j < w 286 a → w 288 (6 * a + j) ≤ w' 276 (36 * a + j + 44) ∧ w' 276 (36 * a + j + 44) ≤ w 289 (6 * a + j))
    (hW : w' 276 (36 * a + 22) = 1 → w' 276 (36 * a + 23) ≤ w' 276 (36 * a + 19) ∧ ∃ P, wyP w' a (w' 276 (36 * a + 23)) P ∧ ∀ j, 0 ≤ j → j < w' 286 a → P (w' 276 (36 * a + 23)) j = w' 276 (36 * a + j + 44)) : mMo w' (-1) := by
  obtain ⟨h1, h2, h3⟩ := h
  have f5 : ∀ c k, c = 286 ∨ c = 288 ∨ c = 289 ∨ c = 291 → w' c k = w c k := fun c k q => hf c k (by unfold moK; omega) (by omega)
  refine ⟨fun b j g1 g2 g3 g4 => ?_, fun b g1 g2 => ?_, fun e b g1 g2 => ?_⟩
  · rw [f5 286 _ (by omega)] at g4
    have y := hty.2 b g1 g2
    have q := h1 b j g1 g2 g3 g4
    unfold moJ at q ⊢
    rw [hf 276 _ (moK_j ⟨g1, g2⟩ (j := j) (f := 32) (by omega) (by omega)) (by omega), hf 276 _ (moK_j ⟨g1, g2⟩ (j := j) (f := 38) (by omega) (by omega)) (by omega), f5 288 _ (by omega), f5 289 _ (by omega), f5 291 _ (by omega)]
    by_cases e : b = a
    · subst e
      rw [hS']
      rw [hS] at q
      obtain ⟨q1, q2, -, -⟩ := q
      have q3 := hg j g3 g4
      have q4 := q2 rfl
      refine ⟨q1, by omega, fun _ => ⟨q3, by omega, by omega⟩, by omega⟩
    · rw [hf 276 _ (moK_j ⟨g1, g2⟩ (j := j) (f := 44) (by omega) (by omega)) (by omega), (hb b g1 g2 e).1]
      exact q
  · by_cases e : b = a
    · subst e
      obtain ⟨y1, y2, y3, y4⟩ := hty.2 b g1 g2
      obtain ⟨q1, q2⟩ := h2 b g1 g2
      refine ⟨fun e => ?_, fun e => ?_⟩
      · have f1 := hf 276 _ (moK_a ⟨g1, g2⟩ (f := 19) (by omega)) (by omega)
        have f4 := hf 276 _ (moK_a ⟨g1, g2⟩ (f := 26) (by omega)) (by omega)
        rw [hf 276 _ (moK_a ⟨g1, g2⟩ (f := 20) (by omega)) (by omega)] at e
        obtain ⟨z1, z2, P, z3, z4⟩ := q1 e
        refine ⟨by rw [hf 275 10 (by unfold moK; omega) (by omega)]; exact z1, by rw [f1]; exact z2, P, z3.fr ⟨g1, g2⟩ (by omega) y1 f1 f4 (fun c k q => f5 c k (by omega)) (fun k q1 q2 => hf 276 k (by unfold moK; omega) (by omega)), fun j g3 g4 => ?_⟩
        rw [f5 286 _ (by omega)] at g4
        rw [hf 276 _ (moK_j ⟨g1, g2⟩ (j := j) (f := 32) (by omega) (by omega)) (by omega)]
        exact z4 j g3 g4
      · obtain ⟨z1, P, z2, z3⟩ := hW e
        exact ⟨Or.inr hS', z1, P, z2, fun j g3 g4 => ⟨fun _ => z3 j g3 g4, fun e => by omega⟩⟩
    · have q := (h2 b g1 g2).ne (x' := -1) (by omega) (by omega)
      have q2 := hb b g1 g2 e
      exact q.fr hty ⟨g1, g2⟩ (fun c k q3 q4 => hf c k q3 (by omega)) (fun e => by omega)
  · exact absurd (Eq.trans (hf 276 1 (by unfold moK; omega) (by omega)).symm e) hP
/-- the arm a has gone on by a tick -/
theorem mMo.went {w w' : eW} {x a : Int} (h : mMo w (-1)) (hx : x = -1 ∨ x = a) (hty : moT w) (ha : 0 ≤ a ∧ a ≤ 3) (hP : w 276 1 ≠ 0)
    (hf : ∀ c k, moK c k → ¬ (c = 276 ∧ ((36 * a + 32 ≤ k ∧ k ≤ 36 * a + 43) ∨ (k < 160 ∧ (k - 16) % 36 = 4))) → w' c k = w c k) (hb : ∀ b, 0 ≤ b → b ≤ 3 → b ≠ a → w' 276 (36 * b + 16) = w 276 (36 * b + 16) ∧ w' 276 (36 * b + 22) = w 276 (36 * b + 22)) (hbT : w' 276 (36 * a + 22) = w 276 (36 * a + 22))
    (hj : ∀ j, 0 ≤ j → j < w 286 a → moJ w' a j) (hS : w 276 (36 * a + 16) = 1 → (x = a ∧ ∀ j, 0 ≤ j → j < w 286 a → w' 276 (36 * a + j + 32) = w 276 (36 * a + j + 44)) ∨ (x = -1 ∧ w' 276 (36 * a + 16) = 1))
    (hF : (∀ b, 0 ≤ b → b < w 275 10 → w' 276 (36 * b + 20) = 0) ∨ ((∀ b, 0 ≤ b → b ≤ 3 → w' 276 (36 * b + 20) = w 276 (36 * b + 20)) ∧ ∀ j, 0 ≤ j → j < w 286 a → w' 276 (36 * a + j + 32) = w 276 (36 * a + j + 32))) (hF2 : ∀ b, 0 ≤ b → b ≤ 3 → w' 276 (36 * b + 20) = 0 ∨ w' 276 (36 * b + 20) = w 276 (36 * b + 20)) : mMo w' x := by
  obtain ⟨h1, h2, h3⟩ := h
  have f5 : ∀ c k, c = 286 ∨ c = 288 ∨ c = 289 ∨ c = 291 → w' c k = w c k := fun c k q => hf c k (by unfold moK; omega) (by omega)
  refine ⟨fun b j g1 g2 g3 g4 => ?_, fun b g1 g2 => ?_, fun e b g1 g2 => ?_⟩
  · rw [f5 286 _ (by omega)] at g4
    have y := hty.2 b g1 g2
    by_cases e : b = a
    · subst e
      exact hj j g3 g4
    · have q := h1 b j g1 g2 g3 g4
      unfold moJ at q ⊢
      rw [hf 276 _ (moK_j ⟨g1, g2⟩ (j := j) (f := 32) (by omega) (by omega)) (by omega), hf 276 _ (moK_j ⟨g1, g2⟩ (j := j) (f := 38) (by omega) (by omega)) (by omega), hf 276 _ (moK_j ⟨g1, g2⟩ (j := j) (f := 44) (by omega) (by omega)) (by omega), f5 288 _ (by omega), f5 289 _ (by omega), f5 291 _ (by omega), (hb b g1 g2 e).1]
      exact q
  · obtain ⟨y1, y2, y3, y4⟩ := hty.2 b g1 g2
    have f1 := hf 276 _ (moK_a ⟨g1, g2⟩ (f := 19) (by omega)) (by omega)
    have f3 := hf 276 _ (moK_a ⟨g1, g2⟩ (f := 23) (by omega)) (by omega)
    have f4 := hf 276 _ (moK_a ⟨g1, g2⟩ (f := 26) (by omega)) (by omega)
    have f6 : ∀ k, 21060 ≤ k → k < 25060 → w' 276 k = w 276 k := fun k q1 q2 => hf 276 k (by unfold moK; omega) (by omega)
    obtain ⟨q1, q2⟩ := h2 b g1 g2
    refine ⟨fun e => ?_, fun e => ?_⟩
    · have e1 : w 276 (36 * b + 20) = 1 := by have := hF2 b g1 g2; omega
      obtain ⟨z1, z2, P, z3, z4⟩ := q1 e1
      rcases hF with hF | hF
      · have := hF b g1 z1; omega
      · refine ⟨by rw [hf 275 10 (by unfold moK; omega) (by omega)]; exact z1, by rw [f1]; exact z2, P, z3.fr ⟨g1, g2⟩ (by omega) y1 f1 f4 (fun c k q => f5 c k (by omega)) f6, fun j g3 g4 => ?_⟩
        rw [f5 286 _ (by omega)] at g4
        by_cases e : b = a
        · subst e
          rw [hF.2 j g3 g4]
          exact z4 j g3 g4
        · rw [hf 276 _ (moK_j ⟨g1, g2⟩ (j := j) (f := 32) (by omega) (by omega)) (by omega)]
          exact z4 j g3 g4
    · have e1 : w 276 (36 * b + 22) = 1 := by
        by_cases e9 : b = a
        · subst e9; omega
        · have := hb b g1 g2 e9; omega
      obtain ⟨z1, z2, P, z3, z4⟩ := q2 e1
      rw [f1, f3]
      have zz : w 276 (36 * b + 16) = 1 := z1.resolve_left (by omega)
      refine ⟨?_, z2, P, z3.fr ⟨g1, g2⟩ y2 y1 f1 f4 (fun c k q => f5 c k (by omega)) f6, fun j g3 g4 => ?_⟩
      · by_cases e9 : b = a
        · subst e9
          rcases hS zz with q | q
          · exact Or.inl q.1.symm
          · exact Or.inr q.2
        · exact Or.inr (by have := hb b g1 g2 e9; omega)
      · rw [f5 286 _ (by omega)] at g4
        have z5 := (z4 j g3 g4).1 (by omega)
        rw [hf 276 _ (moK_j ⟨g1, g2⟩ (j := j) (f := 44) (by omega) (by omega)) (by omega)]
        refine ⟨fun _ => z5, fun e2 => ?_⟩
        subst e2
        rcases hx with hx | hx
        · omega
        · subst hx
          rcases hS zz with q | q
          · rw [q.2 j g3 g4]; exact z5
          · omega
  · exact absurd (Eq.trans (hf 276 1 (by unfold moK; omega) (by omega)).symm e) hP
/-- ways grow old; states and travels are as they were -/
theorem mMo.old {w w' : eW} {x : Int} (h : mMo w x) (hty : moT w) (hs : ∀ b, 0 ≤ b → b ≤ 3 → w' 276 (36 * b + 16) = w 276 (36 * b + 16) ∧ w' 276 (36 * b + 22) = w 276 (36 * b + 22)) (hf : ∀ c k, moK c k → ¬ (c = 276 ∧ k < 160 ∧ (k - 16) % 36 = 4) → w' c k = w c k) (hF : ∀ b, 0 ≤ b → b ≤ 3 → w' 276 (36 * b + 20) = 0 ∨ w' 276 (36 * b + 20) = w 276 (36 * b + 20)) : mMo w' x := by
  obtain ⟨h1, h2, h3⟩ := h
  have f5 : ∀ c k, c = 286 ∨ c = 288 ∨ c = 289 ∨ c = 291 → w' c k = w c k := fun c k q => hf c k (by unfold moK; omega) (by omega)
  refine ⟨fun a j g1 g2 g3 g4 => ?_, fun a g1 g2 => ?_, fun e a g1 g2 => ?_⟩
  · rw [f5 286 _ (by omega)] at g4
    have y := hty.2 a g1 g2
    have q := h1 a j g1 g2 g3 g4
    unfold moJ at q ⊢
    rw [hf 276 _ (moK_j ⟨g1, g2⟩ (j := j) (f := 32) (by omega) (by omega)) (by omega), hf 276 _ (moK_j ⟨g1, g2⟩ (j := j) (f := 38) (by omega) (by omega)) (by omega), hf 276 _ (moK_j ⟨g1, g2⟩ (j := j) (f := 44) (by omega) (by omega)) (by omega), f5 288 _ (by omega), f5 289 _ (by omega), f5 291 _ (by omega), (hs a g1 g2).1]
    exact q
  · obtain ⟨y1, y2, y3, y4⟩ := hty.2 a g1 g2
    have f1 := hf 276 _ (moK_a ⟨g1, g2⟩ (f := 19) (by omega)) (by omega)
    have f3 := hf 276 _ (moK_a ⟨g1, g2⟩ (f := 23) (by omega)) (by omega)
    have f4 := hf 276 _ (moK_a ⟨g1, g2⟩ (f := 26) (by omega)) (by omega)
    have f6 : ∀ k, 21060 ≤ k → k < 25060 → w' 276 k = w 276 k := fun k q1 q2 => hf 276 k (by unfold moK; omega) (by omega)
    have f7 : w' 275 10 = w 275 10 := hf 275 10 (by unfold moK; omega) (by omega)
    obtain ⟨q1, q2⟩ := h2 a g1 g2
    refine ⟨fun e => ?_, fun e => ?_⟩
    · have e1 : w 276 (36 * a + 20) = 1 := by have := hF a g1 g2; omega
      obtain ⟨z1, z2, P, z3, z4⟩ := q1 e1
      refine ⟨by rw [f7]; exact z1, by rw [f1]; exact z2, P, z3.fr ⟨g1, g2⟩ (by omega) y1 f1 f4 (fun c k q => f5 c k (by omega)) f6, fun j g3 g4 => ?_⟩
      rw [f5 286 _ (by omega)] at g4
      rw [hf 276 _ (moK_j ⟨g1, g2⟩ (j := j) (f := 32) (by omega) (by omega)) (by omega)]
      exact z4 j g3 g4
    · rw [(hs a g1 g2).2] at e
      obtain ⟨z1, z2, P, z3, z4⟩ := q2 e
      rw [f3, f1, (hs a g1 g2).1]
      refine ⟨z1, z2, P, z3.fr ⟨g1, g2⟩ y2 y1 f1 f4 (fun c k q => f5 c k (by omega)) f6, fun j g3 g4 => ?_⟩
      rw [f5 286 _ (by omega)] at g4
      rw [hf 276 _ (moK_j ⟨g1, g2⟩ (j := j) (f := 32) (by omega) (by omega)) (by omega), hf 276 _ (moK_j ⟨g1, g2⟩ (j := j) (f := 44) (by omega) (by omega)) (by omega)]
      exact z4 j g3 g4
  · rw [hf 276 1 (by unfold moK; omega) (by omega)] at e
    rw [hf 275 10 (by unfold moK; omega) (by omega)] at g2
    have := hty.1
    rw [(hs a g1 (by omega)).1]
    exact h3 e a g1 g2
theorem e_Has.mo {w : eW} (h : e_Has mTy w) : moT w :=
  ⟨(h.get (c := 275) (k := 10) (lo := 0) (hi := 4) rfl (by decide)).2, fun a g1 g2 => ⟨(h.get (nR_WAY_SIZE ⟨g1, g2⟩) (by decide)).2, (h.get (nR_TRAVEL_AT ⟨g1, g2⟩) (by decide)).1, (h.get (c := 286) (k := a) (lo := 0) (hi := 6) rfl (by decide)).1, (h.get (c := 286) (k := a) (lo := 0) (hi := 6) rfl (by decide)).2⟩⟩
end
