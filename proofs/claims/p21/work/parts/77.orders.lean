noncomputable section
/-! belts: a part is in at most one order, at one place -/
theorem pig : ∀ (m n : Nat) (f : Int → Int), (∀ i : Int, 1 ≤ i → i ≤ n → 0 ≤ f i ∧ f i < m) → (∀ i j : Int, 1 ≤ i → i < j → j ≤ n → f i ≠ f j) → n ≤ m := by
  intro m
  induction m with
  | zero =>
    intro n f h _
    by_cases e : n = 0
    · omega
    · have := h 1 (by omega) (by omega); omega
  | succ m ih =>
    intro n f h hi
    by_cases e : n = 0
    · omega
    · obtain ⟨k, rfl⟩ : ∃ k, n = k + 1 := ⟨n - 1, by omega⟩
      have := ih k (fun i => if f i = m then f (k + 1 : Nat) else f i) (fun i g1 g2 => by
        have q1 := h i g1 (by omega)
        have q2 := h (k + 1 : Nat) (by omega) (by omega)
        have q3 := hi i (k + 1 : Nat) g1 (by omega) (by omega)
        split <;> omega) (fun i j g1 g2 g3 => by
        have q1 := hi i j g1 g2 (by omega)
        have q2 := hi i (k + 1 : Nat) g1 (by omega) (by omega)
        have q3 := hi j (k + 1 : Nat) (by omega) (by omega) (by omega)
        split <;> split <;> omega)
      omega
def mOr (w : eW) (m : Int) : Prop :=
  (∀ b i, 0 ≤ b → b ≤ 3 → 1 ≤ i → i ≤ w 276 (33 * b + 20704) → (0 ≤ w 276 (33 * b + i + 20704) ∧ w 276 (33 * b + i + 20704) < m) ∧ w 276 (4 * w 276 (33 * b + i + 20704) + 20576) = b) ∧
  (∀ b i j, 0 ≤ b → b ≤ 3 → 1 ≤ i → i < j → j ≤ w 276 (33 * b + 20704) → w 276 (33 * b + i + 20704) ≠ w 276 (33 * b + j + 20704)) ∧
  (∀ p, 0 ≤ p → p < m → w 276 (4 * p + 20576) < 4 → ∃ i, 1 ≤ i ∧ i ≤ w 276 (33 * w 276 (4 * p + 20576) + 20704) ∧ w 276 (33 * w 276 (4 * p + 20576) + i + 20704) = p) ∧
  (∀ a, 0 ≤ a → a ≤ 3 → 0 ≤ w 276 (36 * a + 17) → w 276 (36 * a + 17) < m ∧ w 276 (4 * w 276 (36 * a + 17) + 20576) = a + 4)
/-- what mOr reads -/
def orK (k : Int) : Prop := (20576 ≤ k ∧ k < 20704 ∧ k % 4 = 0) ∨ (20704 ≤ k ∧ k < 20836) ∨ (16 ≤ k ∧ k < 160 ∧ (k - 16) % 36 = 1)
theorem mOr.fr {w w' : eW} {m : Int} (h : mOr w m) (hm : m ≤ 32) (hn : ∀ b, 0 ≤ b → b ≤ 3 → w 276 (33 * b + 20704) ≤ 32) (h0 : ∀ p, 0 ≤ p → p < m → 0 ≤ w 276 (4 * p + 20576)) (hf : ∀ k, orK k → w' 276 k = w 276 k) : mOr w' m := by
  obtain ⟨h1, h2, h3, h4⟩ := h
  have e0 : ∀ b, 0 ≤ b → b ≤ 3 → w' 276 (33 * b + 20704) = w 276 (33 * b + 20704) := fun b g1 g2 => hf _ (by unfold orK; omega)
  have e1 : ∀ b i, 0 ≤ b → b ≤ 3 → 1 ≤ i → i ≤ w 276 (33 * b + 20704) → w' 276 (33 * b + i + 20704) = w 276 (33 * b + i + 20704) := fun b i g1 g2 g3 g4 => hf _ (by have := hn b g1 g2; unfold orK; omega)
  have e2 : ∀ p, 0 ≤ p → p < m → w' 276 (4 * p + 20576) = w 276 (4 * p + 20576) := fun p g1 g2 => hf _ (by unfold orK; omega)
  have e3 : ∀ a, 0 ≤ a → a ≤ 3 → w' 276 (36 * a + 17) = w 276 (36 * a + 17) := fun a g1 g2 => hf _ (by unfold orK; omega)
  refine ⟨fun b i g1 g2 g3 g4 => ?_, fun b i j g1 g2 g3 g4 g5 => ?_, fun p g1 g2 g3 => ?_, fun a g1 g2 g3 => ?_⟩
  · rw [e0 b g1 g2] at g4
    have q := h1 b i g1 g2 g3 g4
    rw [e1 b i g1 g2 g3 g4, e2 _ q.1.1 q.1.2]
    exact q
  · rw [e0 b g1 g2] at g5
    rw [e1 b i g1 g2 g3 (by omega), e1 b j g1 g2 (by omega) g5]
    exact h2 b i j g1 g2 g3 g4 g5
  · rw [e2 p g1 g2] at g3 ⊢
    obtain ⟨i, q1, q2, q3⟩ := h3 p g1 g2 g3
    have := h0 p g1 g2
    exact ⟨i, q1, by rw [e0 _ this (by omega)]; exact q2, by rw [e1 _ i this (by omega) q1 q2]; exact q3⟩
  · rw [e3 a g1 g2] at g3 ⊢
    have q := h4 a g1 g2 g3
    rw [e2 _ g3 q.1]
    exact q
/-- p is in no order: there is room -/
theorem mOr.room {w : eW} {m p b : Int} (h : mOr w m) (hm : m ≤ 32) (hp : 0 ≤ p ∧ p ≤ 31) (hb : 0 ≤ b ∧ b ≤ 3) (hw : p < m → 4 ≤ w 276 (4 * p + 20576)) : w 276 (33 * b + 20704) ≤ 31 := by
  by_cases hc : w 276 (33 * b + 20704) ≤ 31
  · exact hc
  · exfalso
    have hne : ∀ i, 1 ≤ i → i ≤ w 276 (33 * b + 20704) → w 276 (33 * b + i + 20704) ≠ p := by
      intro i g1 g2 e
      have q := h.1 b i hb.1 hb.2 g1 g2
      rw [e] at q
      have := hw q.1.2
      omega
    have := pig 32 33 (fun i => if i = 33 then p else w 276 (33 * b + i + 20704)) (fun i g1 g2 => by
      split
      · omega
      · have := h.1 b i hb.1 hb.2 g1 (by omega); omega) (fun i j g1 g2 g3 => by
      rw [if_neg (by omega)]
      split
      · exact hne i g1 (by omega)
      · exact h.2.1 b i j hb.1 hb.2 g1 g2 (by omega))
    omega
theorem mOr.comes {w w' : eW} {m m' p b k : Int} (h : mOr w m) (hm : m' ≤ 32) (hmm : (m' = m ∧ p < m) ∨ (m' = m + 1 ∧ p = m)) (hn : ∀ b, 0 ≤ b → b ≤ 3 → w 276 (33 * b + 20704) ≤ 32) (h0 : ∀ p, 0 ≤ p → p < m → 0 ≤ w 276 (4 * p + 20576)) (hp : 0 ≤ p ∧ p ≤ 31) (hb : 0 ≤ b ∧ b ≤ 3) (hw : p < m → 4 ≤ w 276 (4 * p + 20576)) (hh : ∀ a, 0 ≤ a → a ≤ 3 → w 276 (36 * a + 17) ≠ p)
    (hk : 0 ≤ k ∧ k ≤ w 276 (33 * b + 20704)) (c1 : ∀ i, 1 ≤ i → i ≤ k → w' 276 (33 * b + i + 20704) = w 276 (33 * b + i + 20704)) (c2 : w' 276 (33 * b + k + 20705) = p) (c3 : ∀ i, k + 2 ≤ i → i ≤ w 276 (33 * b + 20704) + 1 → w' 276 (33 * b + i + 20704) = w 276 (33 * b + i + 20703)) (c4 : w' 276 (33 * b + 20704) = w 276 (33 * b + 20704) + 1) (c5 : w' 276 (4 * p + 20576) = b)
    (hf : ∀ k, orK k → ¬ (33 * b + 20704 ≤ k ∧ k ≤ 33 * b + 20736) → k ≠ 4 * p + 20576 → w' 276 k = w 276 k) : mOr w' m' := by
  obtain ⟨h1, h2, h3, h4⟩ := h
  have e0 : ∀ c, 0 ≤ c → c ≤ 3 → c ≠ b → w' 276 (33 * c + 20704) = w 276 (33 * c + 20704) := fun c g1 g2 g3 => hf _ (by unfold orK; omega) (by omega) (by omega)
  have e1 : ∀ c i, 0 ≤ c → c ≤ 3 → c ≠ b → 1 ≤ i → i ≤ w 276 (33 * c + 20704) → w' 276 (33 * c + i + 20704) = w 276 (33 * c + i + 20704) := fun c i g1 g2 g0 g3 g4 => hf _ (by have := hn c g1 g2; unfold orK; omega) (by have := hn c g1 g2; omega) (by omega)
  have e2 : ∀ q, 0 ≤ q → q < m → q ≠ p → w' 276 (4 * q + 20576) = w 276 (4 * q + 20576) := fun q g1 g2 g3 => hf _ (by unfold orK; omega) (by omega) (by omega)
  have e3 : ∀ a, 0 ≤ a → a ≤ 3 → w' 276 (36 * a + 17) = w 276 (36 * a + 17) := fun a g1 g2 => hf _ (by unfold orK; omega) (by omega) (by omega)
  have hne : ∀ c i, 0 ≤ c → c ≤ 3 → 1 ≤ i → i ≤ w 276 (33 * c + 20704) → w 276 (33 * c + i + 20704) ≠ p := by
    intro c i g0 g00 g1 g2 e
    have q := h1 c i g0 g00 g1 g2
    rw [e] at q
    have := hw q.1.2
    omega
  -- an entry of the new order
  have en : ∀ i, 1 ≤ i → i ≤ w 276 (33 * b + 20704) + 1 → (i = k + 1 ∧ w' 276 (33 * b + i + 20704) = p) ∨ (i ≠ k + 1 ∧ ∃ i', 1 ≤ i' ∧ i' ≤ w 276 (33 * b + 20704) ∧ (i' = i ∧ i ≤ k ∨ (i' = i - 1 ∧ k + 2 ≤ i)) ∧ w' 276 (33 * b + i + 20704) = w 276 (33 * b + i' + 20704)) := by
    intro i g1 g2
    rcases Int.lt_or_le k i with g | g
    · by_cases e : i = k + 1
      · exact Or.inl ⟨e, by rw [e, show 33 * b + (k + 1) + 20704 = 33 * b + k + 20705 by omega]; exact c2⟩
      · exact Or.inr ⟨e, i - 1, by omega, by omega, Or.inr ⟨rfl, by omega⟩, by rw [c3 i (by omega) g2, show 33 * b + (i - 1) + 20704 = 33 * b + i + 20703 by omega]⟩
    · exact Or.inr ⟨by omega, i, g1, by omega, Or.inl ⟨rfl, g⟩, c1 i g1 g⟩
  refine ⟨fun c i g1 g2 g3 g4 => ?_, fun c i j g1 g2 g3 g4 g5 => ?_, fun q g1 g2 g3 => ?_, fun a g1 g2 g3 => ?_⟩
  · by_cases e : c = b
    · subst e
      rcases en i g3 (by omega) with ⟨z1, z2⟩ | ⟨z1, i', z2, z3, z4, z5⟩
      · rw [z2]; exact ⟨by omega, c5⟩
      · rw [z5]
        have q := h1 c i' g1 g2 z2 z3
        rw [e2 _ q.1.1 q.1.2 (hne c i' g1 g2 z2 z3)]
        exact ⟨by omega, q.2⟩
    · rw [e0 c g1 g2 e] at g4
      rw [e1 c i g1 g2 e g3 g4]
      have q := h1 c i g1 g2 g3 g4
      rw [e2 _ q.1.1 q.1.2 (hne c i g1 g2 g3 g4)]
      exact ⟨by omega, q.2⟩
  · by_cases e : c = b
    · subst e
      rcases en i g3 (by omega) with ⟨z1, z2⟩ | ⟨z1, i', z2, z3, z4, z5⟩
      · rcases en j (by omega) (by omega) with ⟨u1, u2⟩ | ⟨u1, j', u2, u3, u4, u5⟩
        · omega
        · rw [z2, u5]; exact (hne c j' g1 g2 u2 u3).symm
      · rcases en j (by omega) (by omega) with ⟨u1, u2⟩ | ⟨u1, j', u2, u3, u4, u5⟩
        · rw [z5, u2]; exact hne c i' g1 g2 z2 z3
        · rw [z5, u5]; exact h2 c i' j' g1 g2 z2 (by omega) u3
    · rw [e0 c g1 g2 e] at g5
      rw [e1 c i g1 g2 e g3 (by omega), e1 c j g1 g2 e (by omega) g5]
      exact h2 c i j g1 g2 g3 g4 g5
  · by_cases e : q = p
    · subst e
      rw [c5]
      exact ⟨k + 1, by omega, by omega, by rw [show 33 * b + (k + 1) + 20704 = 33 * b + k + 20705 by omega]; exact c2⟩
    · have g4 : q < m := by omega
      rw [e2 q g1 g4 e] at g3 ⊢
      obtain ⟨i, q1, q2, q3⟩ := h3 q g1 g4 g3
      have q0 := h0 q g1 g4
      by_cases e9 : w 276 (4 * q + 20576) = b
      · rw [e9] at q2 q3 ⊢
        rcases Int.lt_or_le k i with g | g
        · exact ⟨i + 1, by omega, by omega, by rw [c3 (i + 1) (by omega) (by omega), show 33 * b + (i + 1) + 20703 = 33 * b + i + 20704 by omega]; exact q3⟩
        · exact ⟨i, q1, by omega, by rw [c1 i q1 g]; exact q3⟩
      · exact ⟨i, q1, by rw [e0 _ q0 (by omega) e9]; exact q2, by rw [e1 _ i q0 (by omega) e9 q1 q2]; exact q3⟩
  · rw [e3 a g1 g2] at g3 ⊢
    have q := h4 a g1 g2 g3
    rw [e2 _ g3 q.1 (hh a g1 g2)]
    exact ⟨by omega, q.2⟩
/-- the arm a takes p, which lies -/
theorem mOr.up {w w' : eW} {m p a : Int} (h : mOr w m) (hm : m ≤ 32) (hn : ∀ b, 0 ≤ b → b ≤ 3 → w 276 (33 * b + 20704) ≤ 32) (h0 : ∀ p, 0 ≤ p → p < m → 0 ≤ w 276 (4 * p + 20576)) (hp : 0 ≤ p ∧ p < m) (ha : 0 ≤ a ∧ a ≤ 3) (hw : w 276 (4 * p + 20576) = 8) (c5 : w' 276 (4 * p + 20576) = a + 4) (c6 : w' 276 (36 * a + 17) = p)
    (hf : ∀ k, orK k → k ≠ 4 * p + 20576 → k ≠ 36 * a + 17 → w' 276 k = w 276 k) : mOr w' m := by
  obtain ⟨h1, h2, h3, h4⟩ := h
  have e0 : ∀ c, 0 ≤ c → c ≤ 3 → w' 276 (33 * c + 20704) = w 276 (33 * c + 20704) := fun c g1 g2 => hf _ (by unfold orK; omega) (by omega) (by omega)
  have e1 : ∀ c i, 0 ≤ c → c ≤ 3 → 1 ≤ i → i ≤ w 276 (33 * c + 20704) → w' 276 (33 * c + i + 20704) = w 276 (33 * c + i + 20704) := fun c i g1 g2 g3 g4 => hf _ (by have := hn c g1 g2; unfold orK; omega) (by omega) (by omega)
  have e2 : ∀ q, 0 ≤ q → q < m → q ≠ p → w' 276 (4 * q + 20576) = w 276 (4 * q + 20576) := fun q g1 g2 g3 => hf _ (by unfold orK; omega) (by omega) (by omega)
  have e3 : ∀ b, 0 ≤ b → b ≤ 3 → b ≠ a → w' 276 (36 * b + 17) = w 276 (36 * b + 17) := fun b g1 g2 g3 => hf _ (by unfold orK; omega) (by omega) (by omega)
  have hne : ∀ c i, 0 ≤ c → c ≤ 3 → 1 ≤ i → i ≤ w 276 (33 * c + 20704) → w 276 (33 * c + i + 20704) ≠ p := by
    intro c i g0 g00 g1 g2 e
    have q := h1 c i g0 g00 g1 g2
    rw [e] at q
    omega
  refine ⟨fun c i g1 g2 g3 g4 => ?_, fun c i j g1 g2 g3 g4 g5 => ?_, fun q g1 g2 g3 => ?_, fun b g1 g2 g3 => ?_⟩
  · rw [e0 c g1 g2] at g4
    have q := h1 c i g1 g2 g3 g4
    rw [e1 c i g1 g2 g3 g4, e2 _ q.1.1 q.1.2 (hne c i g1 g2 g3 g4)]
    exact q
  · rw [e0 c g1 g2] at g5
    rw [e1 c i g1 g2 g3 (by omega), e1 c j g1 g2 (by omega) g5]
    exact h2 c i j g1 g2 g3 g4 g5
  · by_cases e : q = p
    · subst e; omega
    · rw [e2 q g1 g2 e] at g3 ⊢
      obtain ⟨i, q1, q2, q3⟩ := h3 q g1 g2 g3
      have := h0 q g1 g2
      exact ⟨i, q1, by rw [e0 _ this (by omega)]; exact q2, by rw [e1 _ i this (by omega) q1 q2]; exact q3⟩
  · by_cases e : b = a
    · subst e
      rw [c6]; exact ⟨hp.2, c5⟩
    · rw [e3 b g1 g2 e] at g3 ⊢
      have q := h4 b g1 g2 g3
      by_cases e9 : w 276 (36 * b + 17) = p
      · rw [e9] at q; omega
      · rw [e2 _ g3 q.1 e9]; exact q
/-- the arm a takes p from the place k of the belt b -/
theorem mOr.grip {w w' : eW} {m p a b k : Int} (h : mOr w m) (hm : m ≤ 32) (hn : ∀ b, 0 ≤ b → b ≤ 3 → w 276 (33 * b + 20704) ≤ 32) (h0 : ∀ p, 0 ≤ p → p < m → 0 ≤ w 276 (4 * p + 20576)) (hp : 0 ≤ p ∧ p < m) (ha : 0 ≤ a ∧ a ≤ 3) (hb : 0 ≤ b ∧ b ≤ 3) (hk : 1 ≤ k ∧ k ≤ w 276 (33 * b + 20704)) (hkp : w 276 (33 * b + k + 20704) = p)
    (c1 : ∀ i, 1 ≤ i → i < k → w' 276 (33 * b + i + 20704) = w 276 (33 * b + i + 20704)) (c3 : ∀ i, k ≤ i → i < w 276 (33 * b + 20704) → w' 276 (33 * b + i + 20704) = w 276 (33 * b + i + 20705)) (c4 : w' 276 (33 * b + 20704) = w 276 (33 * b + 20704) - 1) (c5 : w' 276 (4 * p + 20576) = a + 4) (c6 : w' 276 (36 * a + 17) = p)
    (hf : ∀ k, orK k → ¬ (33 * b + 20704 ≤ k ∧ k ≤ 33 * b + 20736) → k ≠ 4 * p + 20576 → k ≠ 36 * a + 17 → w' 276 k = w 276 k) : mOr w' m := by
  obtain ⟨h1, h2, h3, h4⟩ := h
  have hpb := (h1 b k hb.1 hb.2 hk.1 hk.2).2
  rw [hkp] at hpb
  have e0 : ∀ c, 0 ≤ c → c ≤ 3 → c ≠ b → w' 276 (33 * c + 20704) = w 276 (33 * c + 20704) := fun c g1 g2 g3 => hf _ (by unfold orK; omega) (by omega) (by omega) (by omega)
  have e1 : ∀ c i, 0 ≤ c → c ≤ 3 → c ≠ b → 1 ≤ i → i ≤ w 276 (33 * c + 20704) → w' 276 (33 * c + i + 20704) = w 276 (33 * c + i + 20704) := fun c i g1 g2 g0 g3 g4 => hf _ (by have := hn c g1 g2; unfold orK; omega) (by have := hn c g1 g2; omega) (by omega) (by omega)
  have e2 : ∀ q, 0 ≤ q → q < m → q ≠ p → w' 276 (4 * q + 20576) = w 276 (4 * q + 20576) := fun q g1 g2 g3 => hf _ (by unfold orK; omega) (by omega) (by omega) (by omega)
  have e3 : ∀ b, 0 ≤ b → b ≤ 3 → b ≠ a → w' 276 (36 * b + 17) = w 276 (36 * b + 17) := fun b g1 g2 g3 => hf _ (by unfold orK; omega) (by omega) (by omega) (by omega)
  have hne : ∀ c i, 0 ≤ c → c ≤ 3 → 1 ≤ i → i ≤ w 276 (33 * c + 20704) → (c = b → i ≠ k) → w 276 (33 * c + i + 20704) ≠ p := by
    intro c i g0 g00 g1 g2 g3 e
    have q := h1 c i g0 g00 g1 g2
    rw [e] at q
    have e9 : c = b := by omega
    subst e9
    have e8 := g3 rfl
    rcases Int.lt_or_le i k with g | g
    · exact h2 c i k g0 g00 g1 g hk.2 (by rw [e, hkp])
    · exact h2 c k i g0 g00 hk.1 (by omega) g2 (by rw [e, hkp])
  have en : ∀ i, 1 ≤ i → i ≤ w 276 (33 * b + 20704) - 1 → ∃ i', 1 ≤ i' ∧ i' ≤ w 276 (33 * b + 20704) ∧ i' ≠ k ∧ (i' = i ∧ i < k ∨ (i' = i + 1 ∧ k ≤ i)) ∧ w' 276 (33 * b + i + 20704) = w 276 (33 * b + i' + 20704) := by
    intro i g1 g2
    rcases Int.lt_or_le i k with g | g
    · exact ⟨i, g1, by omega, by omega, Or.inl ⟨rfl, g⟩, c1 i g1 g⟩
    · exact ⟨i + 1, by omega, by omega, by omega, Or.inr ⟨rfl, g⟩, by rw [c3 i g (by omega), show 33 * b + (i + 1) + 20704 = 33 * b + i + 20705 by omega]⟩
  refine ⟨fun c i g1 g2 g3 g4 => ?_, fun c i j g1 g2 g3 g4 g5 => ?_, fun q g1 g2 g3 => ?_, fun c g1 g2 g3 => ?_⟩
  · by_cases e : c = b
    · subst e
      obtain ⟨i', z2, z3, z0, z4, z5⟩ := en i g3 (by omega)
      rw [z5]
      have q := h1 c i' g1 g2 z2 z3
      rw [e2 _ q.1.1 q.1.2 (hne c i' g1 g2 z2 z3 (fun _ => z0))]
      exact q
    · rw [e0 c g1 g2 e] at g4
      rw [e1 c i g1 g2 e g3 g4]
      have q := h1 c i g1 g2 g3 g4
      rw [e2 _ q.1.1 q.1.2 (hne c i g1 g2 g3 g4 (fun e' => absurd e' e))]
      exact q
  · by_cases e : c = b
    · subst e
      obtain ⟨i', z2, z3, z0, z4, z5⟩ := en i g3 (by omega)
      obtain ⟨j', u2, u3, u0, u4, u5⟩ := en j (by omega) (by omega)
      rw [z5, u5]; exact h2 c i' j' g1 g2 z2 (by omega) u3
    · rw [e0 c g1 g2 e] at g5
      rw [e1 c i g1 g2 e g3 (by omega), e1 c j g1 g2 e (by omega) g5]
      exact h2 c i j g1 g2 g3 g4 g5
  · by_cases e : q = p
    · subst e; omega
    · rw [e2 q g1 g2 e] at g3 ⊢
      obtain ⟨i, q1, q2, q3⟩ := h3 q g1 g2 g3
      have q0 := h0 q g1 g2
      by_cases e9 : w 276 (4 * q + 20576) = b
      · rw [e9] at q2 q3 ⊢
        have hik : i ≠ k := fun e8 => by rw [e8, hkp] at q3; omega
        rcases Int.lt_or_le i k with g | g
        · exact ⟨i, q1, by omega, by rw [c1 i q1 g]; exact q3⟩
        · exact ⟨i - 1, by omega, by omega, by rw [c3 (i - 1) (by omega) (by omega), show 33 * b + (i - 1) + 20705 = 33 * b + i + 20704 by omega]; exact q3⟩
      · exact ⟨i, q1, by rw [e0 _ q0 (by omega) e9]; exact q2, by rw [e1 _ i q0 (by omega) e9 q1 q2]; exact q3⟩
  · by_cases e : c = a
    · subst e
      rw [c6]; exact ⟨hp.2, c5⟩
    · rw [e3 c g1 g2 e] at g3 ⊢
      have q := h4 c g1 g2 g3
      by_cases e9 : w 276 (36 * c + 17) = p
      · rw [e9] at q; omega
      · rw [e2 _ g3 q.1 e9]; exact q
/-- p, which nobody holds, lies now -/
theorem mOr.lies {w w' : eW} {m m' p : Int} (h : mOr w m) (hm : m' ≤ 32) (hmm : (m' = m ∧ p < m) ∨ (m' = m + 1 ∧ p = m)) (hn : ∀ b, 0 ≤ b → b ≤ 3 → w 276 (33 * b + 20704) ≤ 32) (h0 : ∀ p, 0 ≤ p → p < m → 0 ≤ w 276 (4 * p + 20576)) (hp : 0 ≤ p ∧ p ≤ 31) (hw : p < m → 4 ≤ w 276 (4 * p + 20576)) (hh : ∀ a, 0 ≤ a → a ≤ 3 → w 276 (36 * a + 17) ≠ p) (c5 : w' 276 (4 * p + 20576) = 8)
    (hf : ∀ k, orK k → k ≠ 4 * p + 20576 → w' 276 k = w 276 k) : mOr w' m' := by
  obtain ⟨h1, h2, h3, h4⟩ := h
  have e0 : ∀ c, 0 ≤ c → c ≤ 3 → w' 276 (33 * c + 20704) = w 276 (33 * c + 20704) := fun c g1 g2 => hf _ (by unfold orK; omega) (by omega)
  have e1 : ∀ c i, 0 ≤ c → c ≤ 3 → 1 ≤ i → i ≤ w 276 (33 * c + 20704) → w' 276 (33 * c + i + 20704) = w 276 (33 * c + i + 20704) := fun c i g1 g2 g3 g4 => hf _ (by have := hn c g1 g2; unfold orK; omega) (by omega)
  have e2 : ∀ q, 0 ≤ q → q < m → q ≠ p → w' 276 (4 * q + 20576) = w 276 (4 * q + 20576) := fun q g1 g2 g3 => hf _ (by unfold orK; omega) (by omega)
  have e3 : ∀ b, 0 ≤ b → b ≤ 3 → w' 276 (36 * b + 17) = w 276 (36 * b + 17) := fun b g1 g2 => hf _ (by unfold orK; omega) (by omega)
  have hne : ∀ c i, 0 ≤ c → c ≤ 3 → 1 ≤ i → i ≤ w 276 (33 * c + 20704) → w 276 (33 * c + i + 20704) ≠ p := by
    intro c i g0 g00 g1 g2 e
    have q := h1 c i g0 g00 g1 g2
    rw [e] at q
    have := hw q.1.2
    omega
  refine ⟨fun c i g1 g2 g3 g4 => ?_, fun c i j g1 g2 g3 g4 g5 => ?_, fun q g1 g2 g3 => ?_, fun b g1 g2 g3 => ?_⟩
  · rw [e0 c g1 g2] at g4
    have q := h1 c i g1 g2 g3 g4
    rw [e1 c i g1 g2 g3 g4, e2 _ q.1.1 q.1.2 (hne c i g1 g2 g3 g4)]
    exact ⟨by omega, q.2⟩
  · rw [e0 c g1 g2] at g5
    rw [e1 c i g1 g2 g3 (by omega), e1 c j g1 g2 (by omega) g5]
    exact h2 c i j g1 g2 g3 g4 g5
  · by_cases e : q = p
    · subst e; omega
    · have g4 : q < m := by omega
      rw [e2 q g1 g4 e] at g3 ⊢
      obtain ⟨i, q1, q2, q3⟩ := h3 q g1 g4 g3
      have := h0 q g1 g4
      exact ⟨i, q1, by rw [e0 _ this (by omega)]; exact q2, by rw [e1 _ i this (by omega) q1 q2]; exact q3⟩
  · rw [e3 b g1 g2] at g3 ⊢
    have q := h4 b g1 g2 g3
    rw [e2 _ g3 q.1 (hh b g1 g2)]
    exact ⟨by omega, q.2⟩
/-- the arm a lets go -/
theorem mOr.off {w w' : eW} {m a : Int} (h : mOr w m) (hm : m ≤ 32) (hn : ∀ b, 0 ≤ b → b ≤ 3 → w 276 (33 * b + 20704) ≤ 32) (h0 : ∀ p, 0 ≤ p → p < m → 0 ≤ w 276 (4 * p + 20576)) (ha : 0 ≤ a ∧ a ≤ 3) (c6 : w' 276 (36 * a + 17) = -1) (hf : ∀ k, orK k → k ≠ 36 * a + 17 → w' 276 k = w 276 k) : mOr w' m := by
  obtain ⟨h1, h2, h3, h4⟩ := h
  have e0 : ∀ c, 0 ≤ c → c ≤ 3 → w' 276 (33 * c + 20704) = w 276 (33 * c + 20704) := fun c g1 g2 => hf _ (by unfold orK; omega) (by omega)
  have e1 : ∀ c i, 0 ≤ c → c ≤ 3 → 1 ≤ i → i ≤ w 276 (33 * c + 20704) → w' 276 (33 * c + i + 20704) = w 276 (33 * c + i + 20704) := fun c i g1 g2 g3 g4 => hf _ (by have := hn c g1 g2; unfold orK; omega) (by omega)
  have e2 : ∀ q, 0 ≤ q → q < m → w' 276 (4 * q + 20576) = w 276 (4 * q + 20576) := fun q g1 g2 => hf _ (by unfold orK; omega) (by omega)
  have e3 : ∀ b, 0 ≤ b → b ≤ 3 → b ≠ a → w' 276 (36 * b + 17) = w 276 (36 * b + 17) := fun b g1 g2 g3 => hf _ (by unfold orK; omega) (by omega)
  refine ⟨fun c i g1 g2 g3 g4 => ?_, fun c i j g1 g2 g3 g4 g5 => ?_, fun q g1 g2 g3 => ?_, fun b g1 g2 g3 => ?_⟩
  · rw [e0 c g1 g2] at g4
    have q := h1 c i g1 g2 g3 g4
    rw [e1 c i g1 g2 g3 g4, e2 _ q.1.1 q.1.2]
    exact q
  · rw [e0 c g1 g2] at g5
    rw [e1 c i g1 g2 g3 (by omega), e1 c j g1 g2 (by omega) g5]
    exact h2 c i j g1 g2 g3 g4 g5
  · rw [e2 q g1 g2] at g3 ⊢
    obtain ⟨i, q1, q2, q3⟩ := h3 q g1 g2 g3
    have := h0 q g1 g2
    exact ⟨i, q1, by rw [e0 _ this (by omega)]; exact q2, by rw [e1 _ i this (by omega) q1 q2]; exact q3⟩
  · by_cases e : b = a
    · subst e; omega
    · rw [e3 b g1 g2 e] at g3 ⊢
      have q := h4 b g1 g2 g3
      rw [e2 _ g3 q.1]
      exact q
theorem e_Has.orn {w : eW} (h : e_Has mTy w) : ∀ b, 0 ≤ b → b ≤ 3 → w 276 (33 * b + 20704) ≤ 32 := fun b g1 g2 => (h.get (nR_ORDER (b := b) ⟨g1, g2⟩) (by decide)).2
theorem e_Has.orw {w : eW} {m : Int} (h : e_Has mTy w) (hm : m ≤ 32) : ∀ p, 0 ≤ p → p < m → 0 ≤ w 276 (4 * p + 20576) := fun p g1 g2 => (h.get (nR_WHERE (p := p) ⟨g1, by omega⟩) (by decide)).1
end
