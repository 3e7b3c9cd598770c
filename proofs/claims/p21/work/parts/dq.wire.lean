noncomputable section
/-! the class: a wire more makes no circle; the order of the points -/
def kAc (w : eW) : Prop := ∃ rk : Int → Int, ∀ p, 0 ≤ p → p ≤ 63 → (0 ≤ rk p ∧ rk p ≤ 63) ∧ (0 ≤ w 15 p → rk (w 15 p) < rk p)
theorem kAc.eq {w w' : eW} (e : ∀ k, 0 ≤ k → k ≤ 63 → w' 15 k = w 15 k) (h : kAc w) : kAc w' := by
  obtain ⟨rk, h⟩ := h
  exact ⟨rk, fun p h1 h2 => by rw [e p h1 h2]; exact h p h1 h2⟩
theorem kAc.none {w : eW} (e : ∀ k, 0 ≤ k → k ≤ 63 → w 15 k < 0) : kAc w := ⟨fun _ => 0, fun p h1 h2 => ⟨⟨Int.le_refl 0, (by decide : (0 : Int) ≤ 63)⟩, fun g => by have := e p h1 h2; omega⟩⟩
theorem kAc.rk1 {w : eW} (h : kAc w) : ∃ rk : Int → Int, (∀ p, 0 ≤ p → p ≤ 63 → (0 ≤ rk p ∧ rk p ≤ 63) ∧ (0 ≤ w 15 p → rk (w 15 p) < rk p)) ∧ rk (-1) = -1 := by
  obtain ⟨rk, h⟩ := h
  refine ⟨fun p => if p = -1 then -1 else rk p, fun p h0 h1 => ?_, if_pos rfl⟩
  have q := h p h0 h1
  show (0 ≤ (if p = -1 then -1 else rk p) ∧ (if p = -1 then -1 else rk p) ≤ 63) ∧ (0 ≤ w 15 p → (if w 15 p = -1 then -1 else rk (w 15 p)) < (if p = -1 then -1 else rk p))
  rw [if_neg (by omega)]
  exact ⟨q.1, fun g => by rw [if_neg (by omega)]; exact q.2 g⟩
theorem kpig : ∀ (m n : Nat) (f : Int → Int), (∀ i : Int, 1 ≤ i → i ≤ n → 0 ≤ f i ∧ f i < m) → (∀ i j : Int, 1 ≤ i → i < j → j ≤ n → f i ≠ f j) → n ≤ m := by
  intro m
  induction m with
  | zero =>
    intro n f h _
    by_cases e : n = 0
    · omega
    · have := h 1 (by omega) (by omega); omega
  | succ m ih =>
    intro n f h hi
    by_cases e : n = 0
    · omega
    · obtain ⟨k, rfl⟩ : ∃ k, n = k + 1 := ⟨n - 1, by omega⟩
      have := ih k (fun i => if f i = m then f (k + 1 : Nat) else f i) (fun i g1 g2 => by
        have q1 := h i g1 (by omega)
        have q2 := h (k + 1 : Nat) (by omega) (by omega)
        have q3 := hi i (k + 1 : Nat) g1 (by omega) (by omega)
        split <;> omega) (fun i j g1 g2 g3 => by
        have q1 := hi i j g1 g2 (by omega)
        have q2 := hi i (k + 1 : Nat) g1 (by omega) (by omega)
        have q3 := hi j (k + 1 : Nat) (by omega) (by omega) (by omega)
        split <;> split <;> omega)
      omega
theorem kcnt_le {α : Type} (P Q : α → Bool) : ∀ l : List α, (∀ x ∈ l, P x = true → Q x = true) → (l.filter P).length ≤ (l.filter Q).length
  | [], _ => Nat.le_refl _
  | a :: r, h => by
    have ih := kcnt_le P Q r (fun x hx => h x (List.mem_cons_of_mem _ hx))
    have ha := h a List.mem_cons_self
    cases hp : P a <;> cases hq : Q a <;> simp [List.filter_cons, hp, hq] <;> first | omega | simp [hp, hq] at ha
theorem kcnt_lt {α : Type} (P Q : α → Bool) : ∀ l : List α, (∀ x ∈ l, P x = true → Q x = true) → (∃ x ∈ l, P x = false ∧ Q x = true) → (l.filter P).length < (l.filter Q).length
  | [], _, h => by obtain ⟨x, hx, -⟩ := h; cases hx
  | a :: r, h, hx => by
    have hr := fun x hx => h x (List.mem_cons_of_mem _ hx)
    have ha := h a List.mem_cons_self
    have hle := kcnt_le P Q r hr
    cases hp : P a <;> cases hq : Q a
    · obtain ⟨x, k1, k2, k3⟩ := hx
      rcases List.mem_cons.mp k1 with rfl | k1
      · rw [hq] at k3; cases k3
      · have := kcnt_lt P Q r hr ⟨x, k1, k2, k3⟩
        simp [List.filter_cons, hp, hq]; omega
    · simp [List.filter_cons, hp, hq]; omega
    · simp [hp, hq] at ha
    · obtain ⟨x, k1, k2, k3⟩ := hx
      rcases List.mem_cons.mp k1 with rfl | k1
      · rw [hp] at k2; cases k2
      · have := kcnt_lt P Q r hr ⟨x, k1, k2, k3⟩
        simp [List.filter_cons, hp, hq]; omega
def krkOf (key : Int → Int) (p : Int) : Int := (((List.range 64).filter (fun q : Nat => decide (key (q : Int) < key p))).length : Int)
theorem kAc.ofKey {w : eW} (key : Int → Int) (hw : ∀ p, 0 ≤ p → p ≤ 63 → w 15 p ≤ 63) (h : ∀ p, 0 ≤ p → p ≤ 63 → 0 ≤ w 15 p → key (w 15 p) < key p) : kAc w := by
  refine ⟨krkOf key, fun p h0 h1 => ⟨⟨?_, ?_⟩, fun hq => ?_⟩⟩
  · unfold krkOf; omega
  · have : ((List.range 64).filter (fun q : Nat => decide (key (q : Int) < key p))).length < ((List.range 64).filter (fun _ : Nat => true)).length := by
      refine kcnt_lt _ _ _ (fun _ _ _ => rfl) ⟨p.toNat, List.mem_range.mpr (by omega), ?_, rfl⟩
      rw [show ((p.toNat : Nat) : Int) = p by omega]
      exact decide_eq_false (by omega)
    have e : ((List.range 64).filter (fun _ : Nat => true)).length = 64 := by decide
    unfold krkOf
    omega
  · have hk := h p h0 h1 hq
    have hle := hw p h0 h1
    have : ((List.range 64).filter (fun q : Nat => decide (key (q : Int) < key (w 15 p)))).length < ((List.range 64).filter (fun q : Nat => decide (key (q : Int) < key p))).length := by
      refine kcnt_lt _ _ _ (fun x _ hx => ?_) ⟨(w 15 p).toNat, List.mem_range.mpr (by omega), ?_, ?_⟩
      · have := of_decide_eq_true hx
        exact decide_eq_true (by omega)
      · rw [show (((w 15 p).toNat : Nat) : Int) = w 15 p by omega]; exact decide_eq_false (by omega)
      · rw [show (((w 15 p).toNat : Nat) : Int) = w 15 p by omega]; exact decide_eq_true hk
    unfold krkOf
    omega
def kHit (w : eW) (to : Int) : Nat → Int → Prop
  | 0, p => p = to
  | n + 1, p => 0 ≤ p ∧ kHit w to n (w 15 p)
theorem kAc.wire {w w' : eW} {a b : Int} (hA : kAc w) (hT : ∀ p, 0 ≤ p → p ≤ 63 → -1 ≤ w 15 p ∧ w 15 p ≤ 63) (ha : 0 ≤ a ∧ a ≤ 63) (hb : 0 ≤ b ∧ b ≤ 63) (hn : ¬ ∃ n, kHit w b n a) (hw : ∀ p, w' 15 p = if p = b then a else w 15 p) : kAc w' := by
  obtain ⟨rk, hrk⟩ := hA
  classical
  refine kAc.ofKey (fun p => if (∃ n, kHit w b n p) then rk p + 64 else rk p) (fun p h0 h1 => ?_) (fun p h0 h1 hq => ?_)
  · rw [hw]; by_cases e : p = b
    · rw [if_pos e]; exact ha.2
    · rw [if_neg e]; exact (hT p h0 h1).2
  · have hp := hrk p h0 h1
    rw [hw] at hq ⊢
    by_cases e : p = b
    · rw [if_pos e]
      have k1 : ∃ n, kHit w b n p := ⟨0, e⟩
      have k2 := hrk a ha.1 ha.2
      simp only [if_neg hn, if_pos k1]
      omega
    · rw [if_neg e] at hq ⊢
      have hlt := hp.2 hq
      by_cases k : ∃ n, kHit w b n p
      · have k2 : ∃ n, kHit w b n (w 15 p) := by
          obtain ⟨n, hn'⟩ := k
          cases n with
          | zero => exact absurd hn' e
          | succ n => exact ⟨n, hn'.2⟩
        simp only [if_pos k, if_pos k2]
        omega
      · have k2 : ¬ ∃ n, kHit w b n (w 15 p) := fun ⟨n, hn'⟩ => k ⟨n + 1, h0, hn'⟩
        simp only [if_neg k, if_neg k2]
        exact hlt
section AR
variable {w v u : eW} {m n i q : Int}
def plc (v : eW) (m p : Int) : Prop := ∃ k, (0 ≤ k ∧ k < m) ∧ v 18 k = p
/-- the points without a wire, below n -/
def bJ (w v : eW) (m n : Int) : Prop := (0 ≤ m ∧ m ≤ n) ∧ (∀ k, 0 ≤ k → k < m → (0 ≤ v 18 k ∧ v 18 k < n) ∧ w 15 (v 18 k) < 0) ∧ (∀ j k, 0 ≤ j → j < k → k < m → v 18 j < v 18 k) ∧ ∀ p, 0 ≤ p → p < n → w 15 p < 0 → plc v m p
theorem bJ.zero : bJ w v 0 0 := ⟨by omega, fun k a b => by omega, fun j k a b c => by omega, fun p a b => by omega⟩
theorem bJ.skip (h : bJ w v m n) (hp : 0 ≤ w 15 n) : bJ w v m (n + 1) := by
  obtain ⟨h1, h2, h3, h4⟩ := h
  refine ⟨by omega, fun k a b => ⟨by have := (h2 k a b).1; omega, (h2 k a b).2⟩, h3, fun p a b c => ?_⟩
  by_cases e : p = n
  · rw [e] at c; omega
  · exact h4 p a (by omega) c
theorem bJ.add (h : bJ w v m n) (hp : w 15 n < 0) (hu : ∀ k, k ≠ m → u 18 k = v 18 k) (hm : u 18 m = n) : bJ w u (m + 1) (n + 1) := by
  obtain ⟨h1, h2, h3, h4⟩ := h
  refine ⟨by omega, fun k a b => ?_, fun j k a b c => ?_, fun p a b c => ?_⟩
  · by_cases e : k = m
    · rw [e, hm]; exact ⟨by omega, hp⟩
    · rw [hu k e]; exact ⟨by have := (h2 k a (by omega)).1; omega, (h2 k a (by omega)).2⟩
  · by_cases e : k = m
    · rw [e, hm, hu j (by omega)]; have := (h2 j a (by omega)).1; omega
    · rw [hu k e, hu j (by omega)]; exact h3 j k a b (by omega)
  · by_cases e : p = n
    · exact ⟨m, by omega, by rw [hm, e]⟩
    · obtain ⟨k, k1, k2⟩ := h4 p a (by omega) c
      exact ⟨k, by omega, by rw [hu k (by omega)]; exact k2⟩
/-- the rest, behind the points that their wires come from: i is looked at, up to q -/
def aJ (w v : eW) (m i q : Int) : Prop := (0 ≤ m ∧ m ≤ 64 ∧ 0 ≤ i ∧ i ≤ m) ∧ (∀ k, 0 ≤ k → k < m → (0 ≤ v 18 k ∧ v 18 k ≤ 63) ∧ (w 15 (v 18 k) < 0 ∨ ∃ j, (0 ≤ j ∧ j < k) ∧ v 18 j = w 15 (v 18 k) ∧ (j < i ∨ (j = i ∧ v 18 k < q)))) ∧ (∀ j k, 0 ≤ j → j < k → k < m → v 18 j ≠ v 18 k) ∧ (m = 64 ∨ ((∀ p, 0 ≤ p → p ≤ 63 → w 15 p < 0 → plc v m p) ∧ (∀ p j, 0 ≤ p → p ≤ 63 → 0 ≤ j → j < i → v 18 j = w 15 p → plc v m p) ∧ ∀ p, 0 ≤ p → p ≤ 63 → p < q → w 15 p = v 18 i → plc v m p))
theorem bJ.out (h : bJ w v m 64) : aJ w v m 0 0 := by
  obtain ⟨h1, h2, h3, h4⟩ := h
  refine ⟨by omega, fun k a b => ⟨by have := (h2 k a b).1; omega, Or.inl (h2 k a b).2⟩, fun j k a b c => by have := h3 j k a b c; omega, Or.inr ⟨fun p a b c => h4 p a (by omega) c, fun p j a b c d => by omega, fun p a b c => by omega⟩⟩
theorem aJ.skip (h : aJ w v m i q) (hp : w 15 q ≠ v 18 i ∨ 64 ≤ m) : aJ w v m i (q + 1) := by
  obtain ⟨h1, h2, h3, h4⟩ := h
  refine ⟨h1, fun k a b => ⟨(h2 k a b).1, ?_⟩, h3, ?_⟩
  · rcases (h2 k a b).2 with g | ⟨j, j1, j2, j3⟩
    · exact Or.inl g
    · exact Or.inr ⟨j, j1, j2, by omega⟩
  · rcases h4 with g | ⟨g1, g2, g3⟩
    · exact Or.inl g
    · by_cases e : m = 64
      · exact Or.inl e
      · refine Or.inr ⟨g1, g2, fun p a b c d => ?_⟩
        by_cases e2 : p = q
        · rw [e2] at d
          rcases hp with hp | hp
          · exact absurd d hp
          · omega
        · exact g3 p a b (by omega) d
theorem aJ.add (h : aJ w v m i q) (hq : 0 ≤ q ∧ q ≤ 63) (hi : i < m) (hm : m < 64) (hp : w 15 q = v 18 i) (hu : ∀ k, k ≠ m → u 18 k = v 18 k) (hum : u 18 m = q) : aJ w u (m + 1) i (q + 1) := by
  obtain ⟨h1, h2, h3, h4⟩ := h
  have hi0 := (h2 i h1.2.2.1 hi).1
  have hnew : ∀ k, 0 ≤ k → k < m → v 18 k ≠ q := fun k a b e => by
    rcases (h2 k a b).2 with g | ⟨j, j1, j2, j3⟩
    · rw [e] at g; omega
    · rw [e, hp] at j2
      rcases j3 with j3 | j3
      · exact h3 j i j1.1 j3 hi j2
      · omega
  have hpl : ∀ p, plc v m p → plc u (m + 1) p := fun p g => by
    obtain ⟨k, k1, k2⟩ := g
    exact ⟨k, by omega, by rw [hu k (by omega)]; exact k2⟩
  refine ⟨by omega, fun k a b => ?_, fun j k a b c => ?_, ?_⟩
  · by_cases e : k = m
    · rw [e, hum]
      refine ⟨by omega, Or.inr ⟨i, by omega, ?_, Or.inr ⟨rfl, by omega⟩⟩⟩
      rw [hu i (by omega)]; exact hp.symm
    · rw [hu k e]
      refine ⟨(h2 k a (by omega)).1, ?_⟩
      rcases (h2 k a (by omega)).2 with g | ⟨j, j1, j2, j3⟩
      · exact Or.inl g
      · exact Or.inr ⟨j, j1, by rw [hu j (by omega)]; exact j2, by omega⟩
  · by_cases e : k = m
    · rw [e, hum, hu j (by omega)]; exact hnew j a (by omega)
    · rw [hu k e, hu j (by omega)]; exact h3 j k a b (by omega)
  · rcases h4 with g | ⟨g1, g2, g3⟩
    · omega
    · refine Or.inr ⟨fun p a b c => hpl p (g1 p a b c), fun p j a b c d e => hpl p (g2 p j a b c d (by rw [← hu j (by omega)]; exact e)), fun p a b c d => ?_⟩
      by_cases e2 : p = q
      · exact ⟨m, by omega, by rw [hum, e2]⟩
      · exact hpl p (g3 p a b (by omega) (by rw [← hu i (by omega)]; exact d))
theorem aJ.next (h : aJ w v m i 64) (hi : i < m) : aJ w v m (i + 1) 0 := by
  obtain ⟨h1, h2, h3, h4⟩ := h
  refine ⟨by omega, fun k a b => ⟨(h2 k a b).1, ?_⟩, h3, ?_⟩
  · rcases (h2 k a b).2 with g | ⟨j, j1, j2, j3⟩
    · exact Or.inl g
    · exact Or.inr ⟨j, j1, j2, by omega⟩
  · rcases h4 with g | ⟨g1, g2, g3⟩
    · exact Or.inl g
    · refine Or.inr ⟨g1, fun p j a b c d e => ?_, fun p a b c => by omega⟩
      by_cases e2 : j = i
      · rw [e2] at e; exact g3 p a b (by omega) e.symm
      · exact g2 p j a b c (by omega) e
theorem aJ.fin (hA : kAc w) (hT : ∀ p, 0 ≤ p → p ≤ 63 → w 15 p ≤ 63) (h : aJ w v m i 0) (he : m ≤ i ∨ 64 ≤ m) : m = 64 ∧ (∀ k, 0 ≤ k → k ≤ 63 → 0 ≤ w 15 (v 18 k) → ∃ j, (0 ≤ j ∧ j < k) ∧ v 18 j = w 15 (v 18 k)) ∧ ∀ p, 0 ≤ p → p ≤ 63 → ∃ k, (0 ≤ k ∧ k ≤ 63) ∧ v 18 k = p := by
  obtain ⟨h1, h2, h3, h4⟩ := h
  have m64 : m = 64 := by
    rcases h4 with g | ⟨g1, g2, g3⟩
    · exact g
    · apply Classical.byContradiction
      intro hm
      obtain ⟨rk, hrk⟩ := hA
      have all : ∀ (N : Nat) (p : Int), 0 ≤ p → p ≤ 63 → rk p < N → plc v m p := by
        intro N
        induction N with
        | zero => intro p a b c; have := (hrk p a b).1; omega
        | succ N ih =>
          intro p a b c
          by_cases e : w 15 p < 0
          · exact g1 p a b e
          · have hr := (hrk p a b).2 (by omega)
            obtain ⟨k, k1, k2⟩ := ih (w 15 p) (by omega) (hT p a b) (by omega)
            exact g2 p k a b k1.1 (by omega) k2
      have al : ∀ p, 0 ≤ p → p ≤ 63 → plc v m p := fun p a b => all 64 p a b (by have := (hrk p a b).1; omega)
      have ix : ∀ p : Int, ∃ k : Int, 0 ≤ p → p ≤ 63 → (0 ≤ k ∧ k < m) ∧ v 18 k = p := fun p => by
        by_cases a : 0 ≤ p ∧ p ≤ 63
        · obtain ⟨k, k1, k2⟩ := al p a.1 a.2
          exact ⟨k, fun _ _ => ⟨k1, k2⟩⟩
        · exact ⟨0, fun b c => absurd ⟨b, c⟩ a⟩
      have key := kpig m.toNat 64 (fun i => Classical.choose (ix (i - 1))) (fun i a b => by
        have z := (Classical.choose_spec (ix (i - 1)) (by omega) (by omega)).1
        show 0 ≤ Classical.choose (ix (i - 1)) ∧ Classical.choose (ix (i - 1)) < (m.toNat : Int)
        omega) (fun i j a b c e => by
        have z1 := (Classical.choose_spec (ix (i - 1)) (by omega) (by omega)).2
        have z2 := (Classical.choose_spec (ix (j - 1)) (by omega) (by omega)).2
        rw [show Classical.choose (ix (i - 1)) = Classical.choose (ix (j - 1)) from e] at z1
        omega)
      omega
  refine ⟨m64, fun k a b c => ?_, fun p a b => ?_⟩
  · rcases (h2 k a (by omega)).2 with g | ⟨j, j1, j2, -⟩
    · omega
    · exact ⟨j, j1, j2⟩
  · apply Classical.byContradiction
    intro hn
    have hne : ∀ k, 0 ≤ k → k ≤ 63 → v 18 k ≠ p := fun k c d e => hn ⟨k, ⟨c, d⟩, e⟩
    have key := kpig 63 64 (fun i => if p < v 18 (i - 1) then v 18 (i - 1) - 1 else v 18 (i - 1)) (fun i c d => by
      have z1 := (h2 (i - 1) (by omega) (by omega)).1
      have z2 := hne (i - 1) (by omega) (by omega)
      show 0 ≤ (if p < v 18 (i - 1) then v 18 (i - 1) - 1 else v 18 (i - 1)) ∧ (if p < v 18 (i - 1) then v 18 (i - 1) - 1 else v 18 (i - 1)) < 63
      split <;> omega) (fun i j c d e => by
      have z1 := hne (i - 1) (by omega) (by omega)
      have z2 := hne (j - 1) (by omega) (by omega)
      have z3 := h3 (i - 1) (j - 1) (by omega) (by omega) (by omega)
      show (if p < v 18 (i - 1) then v 18 (i - 1) - 1 else v 18 (i - 1)) ≠ (if p < v 18 (j - 1) then v 18 (j - 1) - 1 else v 18 (j - 1))
      split <;> split <;> omega)
    omega
end AR
end
