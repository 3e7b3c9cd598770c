noncomputable section
/-! the class: instructions and tasks -/
def kTk (t : Int) (c k : Int) : Prop := 6 * t + 154 ≤ c ∧ c ≤ 6 * t + 159
def kLv (t : Int) (c k : Int) : Prop := (c = 6 * t + 154 ∧ (k = 3 ∨ k = 4 ∨ k = 6 ∨ k = 15)) ∨ c = 6 * t + 158 ∨ c = 6 * t + 159
def kEn (t : Int) (c k : Int) : Prop := (c = 6 * t + 154 ∧ (k = 3 ∨ k = 4)) ∨ c = 6 * t + 155 ∨ c = 6 * t + 156
def kOt (t : Int) (c k : Int) : Prop := (c = 6 * t + 154 ∧ k = 15) ∨ c = 6 * t + 157 ∨ c = 6 * t + 158
def kFi (t : Int) (c k : Int) : Prop := c = 6 * t + 154 ∧ (k = 1 ∨ k = 4 ∨ k = 15)
def kBg (t : Int) (c k : Int) : Prop := (c = 6 * t + 154 ∧ ((1 ≤ k ∧ k ≤ 7) ∨ k = 10 ∨ k = 11 ∨ k = 14 ∨ k = 15)) ∨ c = 6 * t + 155 ∨ c = 6 * t + 156
/-- the program at cd: what stands at a place, as op and operand -/
def kCd (w : eW) (cd : Int) (op od : Int → Int) : Prop := isCd cd ∧ ∀ p, (0 ≤ p → p < w cd 0 → 0 ≤ w (cd + 2) p ∧ op p = w (cd + 2) p % 64 ∧ od p = w (cd + 2) p / 64) ∧ (¬ (0 ≤ p ∧ p < w cd 0) → op p = 43 ∧ od p = 0)
theorem kCd.fr {S : Int → Int → Prop} {w w' : eW} {cd : Int} {op od : Int → Int} (f : e_fr S w w') (h1 : ¬ S cd 0) (h2 : ∀ k, ¬ S (cd + 2) k) (h : kCd w cd op od) : kCd w' cd op od := by
  refine ⟨h.1, fun p => ?_⟩
  rw [f _ _ h1, f _ _ (h2 p)]
  exact h.2 p
theorem kCd.op0 {w : eW} {cd : Int} {op od : Int → Int} (hT : e_Has kTy w) (h : kCd w cd op od) (p : Int) : (0 ≤ op p ∧ op p ≤ 63) ∧ (0 ≤ od p ∧ od p ≤ 33554431) := by
  have q := h.2 p
  by_cases g : 0 ≤ p ∧ p < w cd 0
  · have q1 := q.1 g.1 g.2
    have q2 := e_Has.get hT (c := cd + 2) (k := p) (lo := -2147483648) (hi := 2147483647) (kD2 (d := cd) p rfl h.1) (by decide)
    omega
  · have q1 := q.2 g
    omega
/-- how a program may go: targets, places behind, what a place asks -/
def cD (op od col : Int → Int) : Prop := 40 ≤ op 0 ∧ (∀ q, 40 ≤ op q → col q ≤ 0) ∧ ∀ p,
  (op p = 2 ∨ op p = 25 ∨ op p = 33 ∨ op p = 34 ∨ op p = 39 → od p ≤ 31) ∧
  (op p = 40 ∨ op p = 41 ∨ op p = 49 → 40 ≤ op (od p)) ∧
  (op p = 41 ∨ (45 ≤ op p ∧ op p ≠ 50) ∨ (25 ≤ op p ∧ op p ≤ 39 ∧ op p ≠ 26) → 40 ≤ op (p + 1)) ∧
  (op p = 46 → op (p + 1) = 49 ∧ op (p + 2) = 49 ∧ op (p + 3) = 49) ∧
  (op p = 44 → op (od p + 1) = 49) ∧
  (op p ≤ 24 ∨ op p = 50 → col (p + 1) ≤ col p) ∧
  (op p = 12 ∨ op p = 13 → col (od p) ≤ col p) ∧
  (op p = 26 → col (p + 1) ≤ col p + 1 ∧ od p = col p) ∧
  (op p = 27 → od p ≤ col p) ∧
  (op p = 29 → col (od p) ≤ 0)
/-- a task's calls and tries -/
def tS (w : eW) (c : Int) (op : Int → Int) (H : Int) : Prop :=
  (0 ≤ w c 15 ∧ w c 15 ≤ H ∧ H ≤ 600) ∧
  (∀ i, 0 ≤ i → i < w c 4 → (-2147483648 ≤ w (c + 1) i ∧ w (c + 1) i ≤ 2147483647) ∧ (0 < i → 40 ≤ op (w (c + 1) i)) ∧ 0 ≤ w (c + 2) i ∧ w (c + 2) i ≤ H) ∧
  (∀ i, 0 ≤ i → i < H → ((0 ≤ w (c + 3) i ∧ w (c + 3) i ≤ 3999) ∧ op (w (c + 3) i + 1) = 49 ∧ op (w (c + 3) i + 2) = 49 ∧ op (w (c + 3) i + 3) = 49) ∧ ((0 ≤ w (c + 4) i ∧ w (c + 4) i ≤ 15) ∧ (4 ≤ w (c + 4) i → w (c + 4) i % 4 = 2)) ∧ (4 ≤ w (c + 4) i → (-2147483648 ≤ w (c + 5) i ∧ w (c + 5) i ≤ 2147483647) ∧ (12 ≤ w (c + 4) i → op (w (c + 5) i + 1) = 49)))
def tSx (w : eW) (c : Int) (op : Int → Int) : Prop := ∃ H, tS w c op H
theorem tS.fr {S : Int → Int → Prop} {w w' : eW} {c H : Int} {op : Int → Int} (f : e_fr S w w') (h1 : ¬ S c 15 ∧ ¬ S c 4) (h2 : ∀ d k, c + 1 ≤ d → d ≤ c + 5 → ¬ S d k) (h : tS w c op H) : tS w' c op H := by
  have e : ∀ d k, c + 1 ≤ d → d ≤ c + 5 → w' d k = w d k := fun d k g1 g2 => f _ _ (h2 d k g1 g2)
  unfold tS at h ⊢
  rw [f _ _ h1.1, f _ _ h1.2]
  refine ⟨h.1, fun i g1 g2 => ?_, fun i g1 g2 => ?_⟩
  · rw [e _ _ (by omega) (by omega), e _ _ (by omega) (by omega)]; exact h.2.1 i g1 g2
  · rw [e _ _ (by omega) (by omega), e _ _ (by omega) (by omega), e _ _ (by omega) (by omega)]; exact h.2.2 i g1 g2
theorem tSx.fr {S : Int → Int → Prop} {w w' : eW} {c : Int} {op : Int → Int} (f : e_fr S w w') (h1 : ¬ S c 15 ∧ ¬ S c 4) (h2 : ∀ d k, c + 1 ≤ d → d ≤ c + 5 → ¬ S d k) (h : tSx w c op) : tSx w' c op := h.elim (fun H q => ⟨H, q.fr f h1 h2⟩)
/-- fewer frames, fewer tries -/
theorem tS.less {w w' : eW} {c H : Int} {op : Int → Int} (h : tS w c op H) (h1 : 0 ≤ w' c 15 ∧ w' c 15 ≤ H) (h2 : w' c 4 ≤ w c 4) (h3 : ∀ d k, c + 1 ≤ d → d ≤ c + 5 → w' d k = w d k) : tS w' c op H := by
  refine ⟨⟨h1.1, h1.2, h.1.2.2⟩, fun i g1 g2 => ?_, fun i g1 g2 => ?_⟩
  · rw [h3 _ _ (by omega) (by omega), h3 _ _ (by omega) (by omega)]; exact h.2.1 i g1 (by omega)
  · rw [h3 _ _ (by omega) (by omega), h3 _ _ (by omega) (by omega), h3 _ _ (by omega) (by omega)]; exact h.2.2 i g1 g2
/-- a part of the try x is gone to -/
theorem tS.part {w w' : eW} {c H x z : Int} {op : Int → Int} (h : tS w c op H) (hz : (0 ≤ z ∧ z ≤ 15) ∧ (4 ≤ z → z % 4 = 2)) (h1 : 0 ≤ w' c 15 ∧ w' c 15 ≤ H) (h2 : w' c 4 ≤ w c 4) (h3 : ∀ d k, c + 1 ≤ d → d ≤ c + 3 → w' d k = w d k) (h4 : ∀ k, k ≠ x → w' (c + 4) k = w (c + 4) k) (h5 : w' (c + 4) x = z) (h6 : ∀ k, k ≠ x → w' (c + 5) k = w (c + 5) k)
    (h7 : 4 ≤ z → (-2147483648 ≤ w' (c + 5) x ∧ w' (c + 5) x ≤ 2147483647) ∧ (12 ≤ z → op (w' (c + 5) x + 1) = 49)) : tS w' c op H := by
  refine ⟨⟨h1.1, h1.2, h.1.2.2⟩, fun i g1 g2 => ?_, fun i g1 g2 => ?_⟩
  · rw [h3 _ _ (by omega) (by omega), h3 _ _ (by omega) (by omega)]; exact h.2.1 i g1 (by omega)
  · rw [h3 _ _ (by omega) (by omega)]
    have q := h.2.2 i g1 g2
    by_cases e : i = x
    · rw [e] at q ⊢
      rw [h5]
      exact ⟨q.1, hz, h7⟩
    · rw [h4 i e, h6 i e]
      exact q
theorem tS.val {v w' : eW} {c H x z c5 : Int} {op : Int → Int} (h : tS v c op H) (d5 : c5 = c + 5) (hx : v (c + 4) x % 4 ≠ 2) (k : e_up v c5 x z = w') : tS w' c op H := by
  subst d5
  have e : ∀ d i, d ≠ c + 5 → w' d i = v d i := fun d i g => by rw [← k]; exact e_up_ne _ _ (Or.inl g)
  refine ⟨by rw [e _ _ (by omega)]; exact h.1, fun i g1 g2 => ?_, fun i g1 g2 => ?_⟩
  · rw [e _ _ (by omega)] at g2
    rw [e _ _ (by omega), e _ _ (by omega)]; exact h.2.1 i g1 g2
  · rw [e _ _ (by omega), e _ _ (by omega)]
    have q := h.2.2 i g1 g2
    refine ⟨q.1, q.2.1, fun g => ?_⟩
    by_cases g3 : i = x
    · have := q.2.1.2 g
      rw [g3] at this
      exact absurd this hx
    · rw [← k, e_up_ne _ _ (Or.inr g3)]
      exact q.2.2 g
theorem tS.oth {v w' : eW} {c H k z : Int} {op : Int → Int} (h : tS v c op H) (hk : k ≠ 4 ∧ k ≠ 15) (hw : e_up v c k z = w') : tS w' c op H :=
  h.fr (S := fun d i => d = c ∧ i = k) (fun d i g => by rw [← hw]; exact e_up_ne _ _ (by omega)) (by omega) (fun d i g1 g2 => by omega)
/-- a frame more -/
theorem tS.push {w w1 w2 w3 w' : eW} {c H n p : Int} {op : Int → Int} (h : tS w c op H) (h0 : 0 ≤ w c 4) (hp : -2147483648 ≤ w c 3 ∧ w c 3 ≤ 2147483647) (hc : 0 < w c 4 → 40 ≤ op (w c 3)) (hn : n = w c 4 + 1) {x y i j : Int} (hi : i = w c 4) (hj : j = w c 4) (hx : x = w c 3) (hy : y = w c 15)
    {c1 c2 : Int} (d1 : c1 = c + 1) (d2 : c2 = c + 2) (k1 : e_up w c1 i x = w1) (k2 : e_up w1 c2 j y = w2) (k3 : e_up w2 c 4 n = w3) (k4 : e_up w3 c 3 p = w') : tS w' c op H := by
  subst d1 d2
  have e : ∀ d k, ¬ (d = c ∧ (k = 3 ∨ k = 4)) → d ≠ c + 1 → d ≠ c + 2 → w' d k = w d k := fun d k g1 g2 g3 => by
    rw [← k4, e_up_ne _ _ (by omega), ← k3, e_up_ne _ _ (by omega), ← k2, e_up_ne _ _ (Or.inl g3), ← k1, e_up_ne _ _ (Or.inl g2)]
  have e4 : w' c 4 = w c 4 + 1 := by rw [← k4, e_up_ne _ _ (by omega), ← k3, e_up_eq, hn]
  have e1 : ∀ k, k ≠ w c 4 → w' (c + 1) k = w (c + 1) k := fun k g => by
    rw [← k4, e_up_ne _ _ (by omega), ← k3, e_up_ne _ _ (by omega), ← k2, e_up_ne _ _ (by omega), ← k1, e_up_ne _ _ (by omega)]
  have e2 : ∀ k, k ≠ w c 4 → w' (c + 2) k = w (c + 2) k := fun k g => by
    rw [← k4, e_up_ne _ _ (by omega), ← k3, e_up_ne _ _ (by omega), ← k2, e_up_ne _ _ (by omega), ← k1, e_up_ne _ _ (by omega)]
  have f1 : w' (c + 1) (w c 4) = w c 3 := by
    rw [← k4, e_up_ne _ _ (by omega), ← k3, e_up_ne _ _ (by omega), ← k2, e_up_ne _ _ (by omega), ← k1, hi, e_up_eq, hx]
  have f2 : w' (c + 2) (w c 4) = w c 15 := by
    rw [← k4, e_up_ne _ _ (by omega), ← k3, e_up_ne _ _ (by omega), ← k2, hj, e_up_eq, hy]
  have e15 : w' c 15 = w c 15 := e _ _ (by omega) (by omega) (by omega)
  have h15 := h.1
  refine ⟨by rw [e15]; exact h.1, fun i g1 g2 => ?_, fun i g1 g2 => ?_⟩
  · rw [e4] at g2
    by_cases q : i = w c 4
    · rw [q, f1, f2]
      exact ⟨hp, hc, by omega, by omega⟩
    · rw [e1 i q, e2 i q]
      exact h.2.1 i g1 (by omega)
  · rw [e _ _ (by omega) (by omega) (by omega), e _ _ (by omega) (by omega) (by omega), e _ _ (by omega) (by omega) (by omega)]
    exact h.2.2 i g1 g2
/-- a try more -/
theorem tS.opn {w w1 w2 w' : eW} {c H n x i j : Int} {op : Int → Int} (h : tS w c op H) (ht : w c 15 < 600) (hx : (0 ≤ x ∧ x ≤ 3999) ∧ op (x + 1) = 49 ∧ op (x + 2) = 49 ∧ op (x + 3) = 49) (hn : n = w c 15 + 1) (hi : i = w c 15) (hj : j = w c 15)
    {c3 c4 : Int} (d3 : c3 = c + 3) (d4 : c4 = c + 4) (k1 : e_up w c3 i x = w1) (k2 : e_up w1 c4 j 0 = w2) (k3 : e_up w2 c 15 n = w') : tSx w' c op := by
  subst d3 d4
  have h15 := h.1
  have e : ∀ d k, ¬ (d = c ∧ k = 15) → d ≠ c + 3 → d ≠ c + 4 → w' d k = w d k := fun d k g1 g2 g3 => by
    rw [← k3, e_up_ne _ _ (by omega), ← k2, e_up_ne _ _ (Or.inl g3), ← k1, e_up_ne _ _ (Or.inl g2)]
  have e15 : w' c 15 = w c 15 + 1 := by rw [← k3, e_up_eq, hn]
  have e3 : ∀ k, k ≠ w c 15 → w' (c + 3) k = w (c + 3) k := fun k g => by rw [← k3, e_up_ne _ _ (by omega), ← k2, e_up_ne _ _ (by omega), ← k1, e_up_ne _ _ (by omega)]
  have e4 : ∀ k, k ≠ w c 15 → w' (c + 4) k = w (c + 4) k := fun k g => by rw [← k3, e_up_ne _ _ (by omega), ← k2, e_up_ne _ _ (by omega), ← k1, e_up_ne _ _ (by omega)]
  have f3 : w' (c + 3) (w c 15) = x := by rw [← k3, e_up_ne _ _ (by omega), ← k2, e_up_ne _ _ (by omega), ← k1, hi, e_up_eq]
  have f4 : w' (c + 4) (w c 15) = 0 := by rw [← k3, e_up_ne _ _ (by omega), ← k2, hj, e_up_eq]
  have key : ∀ H', (H' = H ∨ H' = w c 15 + 1) → H ≤ H' → w c 15 + 1 ≤ H' → H' ≤ 600 → tS w' c op H' := by
    intro H' g0 g1 g2 g3
    refine ⟨by rw [e15]; omega, fun i q1 q2 => ?_, fun i q1 q2 => ?_⟩
    · rw [e _ _ (by omega) (by omega) (by omega)] at q2
      rw [e _ _ (by omega) (by omega) (by omega), e _ _ (by omega) (by omega) (by omega)]
      have q := h.2.1 i q1 q2
      exact ⟨q.1, q.2.1, q.2.2.1, by omega⟩
    · by_cases q : i = w c 15
      · rw [q, f3, f4]
        exact ⟨hx, by omega, fun g => by omega⟩
      · rw [e3 i q, e4 i q, e _ _ (by omega) (by omega) (by omega)]
        exact h.2.2 i q1 (by omega)
  by_cases q : w c 15 + 1 ≤ H
  · exact ⟨H, key H (Or.inl rfl) (by omega) q (by omega)⟩
  · exact ⟨w c 15 + 1, key _ (Or.inr rfl) (by omega) (by omega) (by omega)⟩
theorem c_23 {d : Nat} {w : eW} (hT : e_Has kTy w) {cd : Int} {op od : Int → Int} (hk : kCd w cd op od) {p : Int} (gp : -2147483648 ≤ p ∧ p ≤ 2147483647) : e_Ok 20 elay kcode eI d 23 (0, [(0, (1, cd)), (1, (0, p))], [], w) (fun r w' => ∃ z : Int, r = [(0, z)] ∧ w = w' ∧ (z = op p) ∧ 0 ≤ z ∧ z ≤ 63) := by
  have hcd := hk.1
  have hcd0 := hk.1
  unfold isCd at hcd0
  have hp := hk.2 p
  refine e_Ok.run (t' := (1, [(0, (1, cd)), (1, (0, p))], [(0, p)], w)) 1 rfl ?_
  refine e_Ok.if1 rfl (fun h1 => ?_) (fun h1 => ?_)
  · replace h1 : (p : Int) < 0 := h1
    refine e_Ok.run (t' := (26, [(0, (1, cd)), (1, (0, p))], [(0, 43)], w)) 1 rfl ?_
    refine e_Ok.rets rfl rfl ?_
    exact ⟨_, rfl, rfl, by omega, by omega, by omega⟩
  · replace h1 : (p : Int) ≥ 0 := by have q : ¬ ((p : Int) < 0) := h1; omega
    refine e_Ok.run (t' := (6, [(0, (1, cd)), (1, (0, p))], [(1, cd), (0, p)], w)) 2 rfl ?_
    have h2 := (e_Has.get hT (c := cd) (k := 0) (lo := 0) (hi := 4000) (kD_0 hcd) (by decide))
    refine e_Ok.getf (z := w cd 0) rfl (lD0 hcd) rfl rfl rfl (by omega) ?_
    refine e_Ok.if2 rfl (fun h3 => ?_) (fun h3 => ?_)
    · replace h3 : (p : Int) ≥ w cd 0 := h3
      refine e_Ok.run (t' := (26, [(0, (1, cd)), (1, (0, p))], [(0, 43)], w)) 1 rfl ?_
      refine e_Ok.rets rfl rfl ?_
      exact ⟨_, rfl, rfl, by omega, by omega, by omega⟩
    · replace h3 : (p : Int) < w cd 0 := by have q : ¬ ((p : Int) ≥ w cd 0) := h3; omega
      refine e_Ok.run (t' := (13, [(0, (1, cd)), (1, (0, p))], [(1, cd)], w)) 1 rfl ?_
      refine e_Ok.getr (z := cd + 2) rfl (lD0 hcd) rfl rfl (Eq.trans (e_Has.eq hT (kD_4 hcd)) (by omega)) (by omega) ?_
      refine e_Ok.run (t' := (17, [(0, (1, cd)), (1, (0, p))], [(0, p), (1, cd + 2)], w)) 1 rfl ?_
      have h4 := (e_Has.get hT (c := cd + 2) (k := p) (lo := (-2147483648)) (hi := 2147483647) (kD2 (d := cd) _ (by omega) hcd) (by decide))
      refine e_Ok.ald (z := w (cd + 2) p) rfl (lD2 (d := cd) (by omega) hcd) rfl (by omega) rfl (by omega) ?_
      refine e_Ok.run (t' := (20, [(0, (1, cd)), (1, (0, p))], [(0, 63), (0, w (cd + 2) p)], w)) 1 rfl ?_
      refine e_Ok.andm 63 6 rfl (by decide) (fun z5 hz5 => ?_)
      replace hz5 : z5 = (w (cd + 2) p) % 64 := hz5
      have hz5r : 0 ≤ z5 ∧ z5 ≤ 63 := by omega
      refine e_Ok.run (t' := (26, [(0, (1, cd)), (1, (0, p))], [(0, z5)], w)) 1 rfl ?_
      refine e_Ok.rets rfl rfl ?_
      exact ⟨_, rfl, rfl, by omega, by omega, by omega⟩
theorem c_24 {d : Nat} {w : eW} (hT : e_Has kTy w) {cd : Int} {op od : Int → Int} (hk : kCd w cd op od) {p : Int} (gp : -2147483648 ≤ p ∧ p ≤ 2147483647) : e_Ok 20 elay kcode eI d 24 (0, [(0, (1, cd)), (1, (0, p))], [], w) (fun r w' => ∃ z : Int, r = [(0, z)] ∧ w = w' ∧ (z = od p) ∧ 0 ≤ z ∧ z ≤ 33554431) := by
  have hcd := hk.1
  have hcd0 := hk.1
  unfold isCd at hcd0
  have hp := hk.2 p
  refine e_Ok.run (t' := (1, [(0, (1, cd)), (1, (0, p))], [(0, p)], w)) 1 rfl ?_
  refine e_Ok.if1 rfl (fun h1 => ?_) (fun h1 => ?_)
  · replace h1 : (p : Int) < 0 := h1
    refine e_Ok.run (t' := (25, [(0, (1, cd)), (1, (0, p))], [(0, 0)], w)) 1 rfl ?_
    refine e_Ok.rets rfl rfl ?_
    exact ⟨_, rfl, rfl, by omega, by omega, by omega⟩
  · replace h1 : (p : Int) ≥ 0 := by have q : ¬ ((p : Int) < 0) := h1; omega
    refine e_Ok.run (t' := (6, [(0, (1, cd)), (1, (0, p))], [(1, cd), (0, p)], w)) 2 rfl ?_
    have h2 := (e_Has.get hT (c := cd) (k := 0) (lo := 0) (hi := 4000) (kD_0 hcd) (by decide))
    refine e_Ok.getf (z := w cd 0) rfl (lD0 hcd) rfl rfl rfl (by omega) ?_
    refine e_Ok.if2 rfl (fun h3 => ?_) (fun h3 => ?_)
    · replace h3 : (p : Int) ≥ w cd 0 := h3
      refine e_Ok.run (t' := (25, [(0, (1, cd)), (1, (0, p))], [(0, 0)], w)) 1 rfl ?_
      refine e_Ok.rets rfl rfl ?_
      exact ⟨_, rfl, rfl, by omega, by omega, by omega⟩
    · replace h3 : (p : Int) < w cd 0 := by have q : ¬ ((p : Int) ≥ w cd 0) := h3; omega
      refine e_Ok.run (t' := (13, [(0, (1, cd)), (1, (0, p))], [(1, cd)], w)) 1 rfl ?_
      refine e_Ok.getr (z := cd + 2) rfl (lD0 hcd) rfl rfl (Eq.trans (e_Has.eq hT (kD_4 hcd)) (by omega)) (by omega) ?_
      refine e_Ok.run (t' := (17, [(0, (1, cd)), (1, (0, p))], [(0, p), (1, cd + 2)], w)) 1 rfl ?_
      have h4 := (e_Has.get hT (c := cd + 2) (k := p) (lo := (-2147483648)) (hi := 2147483647) (kD2 (d := cd) _ (by omega) hcd) (by decide))
      refine e_Ok.ald (z := w (cd + 2) p) rfl (lD2 (d := cd) (by omega) hcd) rfl (by omega) rfl (by omega) ?_
      refine e_Ok.run (t' := (20, [(0, (1, cd)), (1, (0, p))], [(0, 6), (0, w (cd + 2) p)], w)) 1 rfl ?_
      refine e_Ok.shr6 rfl (by omega) (fun z5 hz5 => ?_)
      replace hz5 : z5 = (w (cd + 2) p) / 64 := hz5
      refine e_Ok.run (t' := (25, [(0, (1, cd)), (1, (0, p))], [(0, z5)], w)) 1 rfl ?_
      refine e_Ok.rets rfl rfl ?_
      exact ⟨_, rfl, rfl, by omega, by omega, by omega⟩
theorem c_182 {d : Nat} {w : eW} (hT : e_Has kTy w) {t : Int} (gt : 0 ≤ t ∧ t ≤ 15) {op : Int → Int} {p : Int} (gp : -2147483648 ≤ p ∧ p ≤ 2147483647) (hs : tSx w (6 * t + 154) op) (hc : 0 < w (6 * t + 154) 4 → 40 ≤ op (w (6 * t + 154) 3)) : e_Ok 20 elay kcode eI d 182 (0, [(0, (1, 6 * t + 154)), (1, (0, p))], [], w) (fun r w' => ∃ z : Int, r = [(0, z)] ∧ e_fr (kEn t) w w' ∧ e_Has kTy w' ∧ tSx w' (6 * t + 154) op ∧ ((z = 1 ∧ (w' (6 * t + 154) 4 = w (6 * t + 154) 4 + 1) ∧ w' (6 * t + 154) 3 = p) ∨ (z = 0 ∧ w' = w ∧ 20 ≤ w (6 * t + 154) 4))) := by
  have h3 := e_Has.get hT (c := 6 * t + 154) (k := 3) (lo := -2147483648) (hi := 2147483647) (kT_3 (t := t) rfl gt) (by decide)
  have h15 := e_Has.get hT (c := 6 * t + 154) (k := 15) (lo := 0) (hi := 600) (kT_15 (t := t) rfl gt) (by decide)
  refine e_Ok.run (t' := (1, [(0, (1, 6 * t + 154)), (1, (0, p))], [(1, 6 * t + 154)], w)) 1 rfl ?_
  have h1 := (e_Has.get hT (c := 6 * t + 154) (k := 4) (lo := 0) (hi := 20) (kT_4 (t := t) (by omega) (by omega)) (by decide))
  refine e_Ok.getf (z := w (6 * t + 154) 4) rfl (lT0 (t := t) (by omega) (by omega)) rfl rfl rfl (by omega) ?_
  refine e_Ok.run (t' := (6, [(0, (1, 6 * t + 154)), (1, (0, p))], [(0, 20), (0, w (6 * t + 154) 4)], w)) 1 rfl ?_
  refine e_Ok.if2 rfl (fun h2 => ?_) (fun h2 => ?_)
  · replace h2 : (w (6 * t + 154) 4 : Int) < 20 := h2
    refine e_Ok.run (t' := (12, [(0, (1, 6 * t + 154)), (1, (0, p))], [(1, 6 * t + 154)], w)) 1 rfl ?_
    refine e_Ok.getr (z := 6 * t + 155) rfl (lT0 (t := t) (by omega) (by omega)) rfl rfl (Eq.trans (e_Has.eq hT (kT_16 (t := t) (by omega) (by omega))) (by omega)) (by omega) ?_
    refine e_Ok.run (t' := (16, [(0, (1, 6 * t + 154)), (1, (0, p))], [(1, 6 * t + 154), (1, 6 * t + 155)], w)) 1 rfl ?_
    refine e_Ok.getf (z := w (6 * t + 154) 4) rfl (lT0 (t := t) (by omega) (by omega)) rfl rfl rfl (by omega) ?_
    refine e_Ok.run (t' := (20, [(0, (1, 6 * t + 154)), (1, (0, p))], [(1, 6 * t + 154), (0, w (6 * t + 154) 4), (1, 6 * t + 155)], w)) 1 rfl ?_
    have h3 := (e_Has.get hT (c := 6 * t + 154) (k := 3) (lo := (-2147483648)) (hi := 2147483647) (kT_3 (t := t) (by omega) (by omega)) (by decide))
    refine e_Ok.getf (z := w (6 * t + 154) 3) rfl (lT0 (t := t) (by omega) (by omega)) rfl rfl rfl (by omega) ?_
    refine e_Ok.ast rfl (lT1 (t := t) (by omega) (by omega)) rfl rfl (by omega) ?_
    generalize hw4 : e_up w (6 * t + 155) (w (6 * t + 154) 4) (w (6 * t + 154) 3) = w4
    have f5 : e_fr (kEn t) w w4 := e_fr.up (e_fr.refl w) hw4 (by unfold kEn; omega)
    have hT6 : e_Has kTy w4 := e_Has.ups hT hw4 (kT155 (t := t) _ (by omega) (by omega))
    refine e_Ok.run (t' := (25, [(0, (1, 6 * t + 154)), (1, (0, p))], [(1, 6 * t + 154)], w4)) 1 rfl ?_
    refine e_Ok.getr (z := 6 * t + 156) rfl (lT0 (t := t) (by omega) (by omega)) rfl rfl (by rw [← hw4]; exact (e_up_ne _ _ (Or.inl (by omega))).trans (Eq.trans (e_Has.eq hT (kT_17 (t := t) (by omega) (by omega))) (by omega))) (by omega) ?_
    refine e_Ok.run (t' := (29, [(0, (1, 6 * t + 154)), (1, (0, p))], [(1, 6 * t + 154), (1, 6 * t + 156)], w4)) 1 rfl ?_
    refine e_Ok.getf (z := w (6 * t + 154) 4) rfl (lT0 (t := t) (by omega) (by omega)) rfl rfl (by rw [← hw4]; exact (e_up_ne _ _ (Or.inl (by omega))).trans rfl) (by omega) ?_
    refine e_Ok.run (t' := (33, [(0, (1, 6 * t + 154)), (1, (0, p))], [(1, 6 * t + 154), (0, w (6 * t + 154) 4), (1, 6 * t + 156)], w4)) 1 rfl ?_
    have h7 := (e_Has.get hT (c := 6 * t + 154) (k := 15) (lo := 0) (hi := 600) (kT_15 (t := t) (by omega) (by omega)) (by decide))
    refine e_Ok.getf (z := w (6 * t + 154) 15) rfl (lT0 (t := t) (by omega) (by omega)) rfl rfl (by rw [← hw4]; exact (e_up_ne _ _ (Or.inl (by omega))).trans rfl) (by omega) ?_
    refine e_Ok.ast rfl (lT2 (t := t) (by omega) (by omega)) rfl rfl (by omega) ?_
    generalize hw8 : e_up w4 (6 * t + 156) (w (6 * t + 154) 4) (w (6 * t + 154) 15) = w8
    have f9 : e_fr (kEn t) w w8 := e_fr.up f5 hw8 (by unfold kEn; omega)
    have hT10 : e_Has kTy w8 := e_Has.ups hT6 hw8 (kT156 (t := t) _ (by omega) (by omega))
    refine e_Ok.run (t' := (39, [(0, (1, 6 * t + 154)), (1, (0, p))], [(1, 6 * t + 154), (1, 6 * t + 154)], w8)) 2 rfl ?_
    refine e_Ok.getf (z := w (6 * t + 154) 4) rfl (lT0 (t := t) (by omega) (by omega)) rfl rfl (by rw [← hw8]; exact (e_up_ne _ _ (Or.inl (by omega))).trans (by rw [← hw4]; exact (e_up_ne _ _ (Or.inl (by omega))).trans rfl)) (by omega) ?_
    refine e_Ok.run (t' := (43, [(0, (1, 6 * t + 154)), (1, (0, p))], [(0, 1), (0, w (6 * t + 154) 4), (1, 6 * t + 154)], w8)) 1 rfl ?_
    refine e_Ok.add (z := w (6 * t + 154) 4 + 1) rfl (by omega) (by omega) ?_
    refine e_Ok.putf rfl (lT0 (t := t) (by omega) (by omega)) rfl rfl ?_
    generalize hw11 : e_up w8 (6 * t + 154) 4 (w (6 * t + 154) 4 + 1) = w11
    have f12 : e_fr (kEn t) w w11 := e_fr.up f9 hw11 (by unfold kEn; omega)
    have hT13 : e_Has kTy w11 := e_Has.upr hT10 hw11 (kT_4 (t := t) (by omega) (by omega)) (by omega)
    refine e_Ok.run (t' := (49, [(0, (1, 6 * t + 154)), (1, (0, p))], [(0, p), (1, 6 * t + 154)], w11)) 2 rfl ?_
    refine e_Ok.putf rfl (lT0 (t := t) (by omega) (by omega)) rfl rfl ?_
    generalize hw14 : e_up w11 (6 * t + 154) 3 p = w14
    have f15 : e_fr (kEn t) w w14 := e_fr.up f12 hw14 (by unfold kEn; omega)
    have hT16 : e_Has kTy w14 := e_Has.upr hT13 hw14 (kT_3 (t := t) (by omega) (by omega)) (by omega)
    refine e_Ok.run (t' := (53, [(0, (1, 6 * t + 154)), (1, (0, p))], [(0, 1)], w14)) 1 rfl ?_
    refine e_Ok.rets rfl rfl ?_
    exact ⟨_, rfl, f15, hT16, hs.elim (fun H q => ⟨H, tS.push q (by omega) (by omega) hc (by omega) rfl rfl rfl rfl (by omega) (by omega) hw4 hw8 hw11 hw14⟩), Or.inl ⟨rfl, by have := (show w14 (6 * t + 154) 4 = w (6 * t + 154) 4 + 1 from (by rw [← hw14]; exact (e_up_ne _ _ (Or.inr (by omega))).trans (by rw [← hw11]; exact e_up_eq _ _ _ _))); omega, (by rw [← hw14]; exact e_up_eq _ _ _ _)⟩⟩
  · replace h2 : (w (6 * t + 154) 4 : Int) ≥ 20 := by have q : ¬ ((w (6 * t + 154) 4 : Int) < 20) := h2; omega
    refine e_Ok.run (t' := (10, [(0, (1, 6 * t + 154)), (1, (0, p))], [(0, 0)], w)) 1 rfl ?_
    refine e_Ok.rets rfl rfl ?_
    exact ⟨_, rfl, e_fr.refl w, hT, hs, Or.inr ⟨rfl, rfl, by omega⟩⟩
theorem c_181 {d : Nat} {w : eW} (hT : e_Has kTy w) {t : Int} (gt : 0 ≤ t ∧ t ≤ 15) {op : Int → Int} {p : Int} (gp : 0 ≤ p ∧ p ≤ 7) : e_Ok 20 elay kcode eI d 181 (0, [(0, (1, 6 * t + 154)), (1, (0, p))], [], w) (fun r w' => r = [] ∧ e_fr (kFi t) w w' ∧ e_Has kTy w' ∧ w' (6 * t + 154) 1 = p ∧ w' (6 * t + 154) 4 = 0 ∧ w' (6 * t + 154) 15 = 0) := by
  refine e_Ok.run (t' := (2, [(0, (1, 6 * t + 154)), (1, (0, p))], [(0, p), (1, 6 * t + 154)], w)) 2 rfl ?_
  refine e_Ok.putf rfl (lT0 (t := t) (by omega) (by omega)) rfl rfl ?_
  generalize hw1 : e_up w (6 * t + 154) 1 p = w1
  have f2 : e_fr (kFi t) w w1 := e_fr.up (e_fr.refl w) hw1 (by unfold kFi; omega)
  have hT3 : e_Has kTy w1 := e_Has.upr hT hw1 (kT_1 (t := t) (by omega) (by omega)) (by omega)
  refine e_Ok.run (t' := (7, [(0, (1, 6 * t + 154)), (1, (0, p))], [(0, 0), (1, 6 * t + 154)], w1)) 2 rfl ?_
  refine e_Ok.putf rfl (lT0 (t := t) (by omega) (by omega)) rfl rfl ?_
  generalize hw4 : e_up w1 (6 * t + 154) 4 0 = w4
  have f5 : e_fr (kFi t) w w4 := e_fr.up f2 hw4 (by unfold kFi; omega)
  have hT6 : e_Has kTy w4 := e_Has.upr hT3 hw4 (kT_4 (t := t) (by omega) (by omega)) (by omega)
  refine e_Ok.run (t' := (12, [(0, (1, 6 * t + 154)), (1, (0, p))], [(0, 0), (1, 6 * t + 154)], w4)) 2 rfl ?_
  refine e_Ok.putf rfl (lT0 (t := t) (by omega) (by omega)) rfl rfl ?_
  generalize hw7 : e_up w4 (6 * t + 154) 15 0 = w7
  have f8 : e_fr (kFi t) w w7 := e_fr.up f5 hw7 (by unfold kFi; omega)
  have hT9 : e_Has kTy w7 := e_Has.upr hT6 hw7 (kT_15 (t := t) (by omega) (by omega)) (by omega)
  refine e_Ok.rets rfl rfl ?_
  exact ⟨rfl, f8, hT9, (by rw [← hw7]; exact (e_up_ne _ _ (Or.inr (by omega))).trans (by rw [← hw4]; exact (e_up_ne _ _ (Or.inr (by omega))).trans (by rw [← hw1]; exact e_up_eq _ _ _ _))), (by rw [← hw7]; exact (e_up_ne _ _ (Or.inr (by omega))).trans (by rw [← hw4]; exact e_up_eq _ _ _ _)), (by rw [← hw7]; exact e_up_eq _ _ _ _)⟩
theorem c_183 {d : Nat} {w : eW} (hT : e_Has kTy w) {t : Int} (gt : 0 ≤ t ∧ t ≤ 15) {op : Int → Int} {H : Int} (hs : tS w (6 * t + 154) op H) : e_Ok 20 elay kcode eI d 183 (0, [(0, (1, 6 * t + 154))], [], w) (fun r w' => r = [] ∧ e_fr (kLv t) w w' ∧ e_Has kTy w' ∧ tS w' (6 * t + 154) op H ∧ ((w (6 * t + 154) 4 < 1 ∧ w' = w) ∨ (1 ≤ w (6 * t + 154) 4 ∧ w' (6 * t + 154) 4 = w (6 * t + 154) 4 - 1 ∧ (0 < w' (6 * t + 154) 4 → 40 ≤ op (w' (6 * t + 154) 3))))) := by
  have h4 := e_Has.get hT (c := 6 * t + 154) (k := 4) (lo := 0) (hi := 20) (kT_4 (t := t) rfl gt) (by decide)
  have h15 := e_Has.get hT (c := 6 * t + 154) (k := 15) (lo := 0) (hi := 600) (kT_15 (t := t) rfl gt) (by decide)
  refine e_Ok.run (t' := (1, [(0, (1, 6 * t + 154))], [(1, 6 * t + 154)], w)) 1 rfl ?_
  have h1 := (e_Has.get hT (c := 6 * t + 154) (k := 4) (lo := 0) (hi := 20) (kT_4 (t := t) (by omega) (by omega)) (by decide))
  refine e_Ok.getf (z := w (6 * t + 154) 4) rfl (lT0 (t := t) (by omega) (by omega)) rfl rfl rfl (by omega) ?_
  refine e_Ok.run (t' := (5, [(0, (1, 6 * t + 154))], [(0, 1), (0, w (6 * t + 154) 4)], w)) 1 rfl ?_
  refine e_Ok.if2 rfl (fun h2 => ?_) (fun h2 => ?_)
  · replace h2 : (w (6 * t + 154) 4 : Int) ≥ 1 := h2
    have hq := hs.2.1 (w (6 * t + 154) 4 - 1) (by omega) (by omega)
    have hq1 : (-2147483648 ≤ w (6 * t + 155) (w (6 * t + 154) 4 - 1) ∧ w (6 * t + 155) (w (6 * t + 154) 4 - 1) ≤ 2147483647) ∧ (0 < w (6 * t + 154) 4 - 1 → 40 ≤ op (w (6 * t + 155) (w (6 * t + 154) 4 - 1))) := by rw [show 6 * t + 155 = (6 * t + 154) + 1 by omega]; exact ⟨hq.1, hq.2.1⟩
    have hq2 : 0 ≤ w (6 * t + 156) (w (6 * t + 154) 4 - 1) ∧ w (6 * t + 156) (w (6 * t + 154) 4 - 1) ≤ H := by rw [show 6 * t + 156 = (6 * t + 154) + 2 by omega]; exact hq.2.2
    have hH := hs.1; clear hq
    refine e_Ok.run (t' := (11, [(0, (1, 6 * t + 154))], [(1, 6 * t + 154), (1, 6 * t + 154)], w)) 2 rfl ?_
    refine e_Ok.getf (z := w (6 * t + 154) 4) rfl (lT0 (t := t) (by omega) (by omega)) rfl rfl rfl (by omega) ?_
    refine e_Ok.run (t' := (15, [(0, (1, 6 * t + 154))], [(0, 1), (0, w (6 * t + 154) 4), (1, 6 * t + 154)], w)) 1 rfl ?_
    refine e_Ok.sub' (z := w (6 * t + 154) 4 - 1) rfl (by omega) (by omega) ?_
    refine e_Ok.putf rfl (lT0 (t := t) (by omega) (by omega)) rfl rfl ?_
    generalize hw3 : e_up w (6 * t + 154) 4 (w (6 * t + 154) 4 - 1) = w3
    have f4 : e_fr (kLv t) w w3 := e_fr.up (e_fr.refl w) hw3 (by unfold kLv; omega)
    have hT5 : e_Has kTy w3 := e_Has.upr hT hw3 (kT_4 (t := t) (by omega) (by omega)) (by omega)
    refine e_Ok.run (t' := (21, [(0, (1, 6 * t + 154))], [(1, 6 * t + 154), (1, 6 * t + 154)], w3)) 2 rfl ?_
    refine e_Ok.getr (z := 6 * t + 156) rfl (lT0 (t := t) (by omega) (by omega)) rfl rfl (by rw [← hw3]; exact (e_up_ne _ _ (Or.inr (by omega))).trans (Eq.trans (e_Has.eq hT (kT_17 (t := t) (by omega) (by omega))) (by omega))) (by omega) ?_
    refine e_Ok.run (t' := (25, [(0, (1, 6 * t + 154))], [(1, 6 * t + 154), (1, 6 * t + 156), (1, 6 * t + 154)], w3)) 1 rfl ?_
    refine e_Ok.getf (z := w (6 * t + 154) 4 - 1) rfl (lT0 (t := t) (by omega) (by omega)) rfl rfl (by rw [← hw3]; exact e_up_eq _ _ _ _) (by omega) ?_
    refine e_Ok.ald (z := w (6 * t + 156) (w (6 * t + 154) 4 - 1)) rfl (lT2 (t := t) (by omega) (by omega)) rfl (by omega) (by rw [← hw3]; exact (e_up_ne _ _ (Or.inl (by omega))).trans rfl) (by omega) ?_
    refine e_Ok.putf rfl (lT0 (t := t) (by omega) (by omega)) rfl rfl ?_
    generalize hw6 : e_up w3 (6 * t + 154) 15 (w (6 * t + 156) (w (6 * t + 154) 4 - 1)) = w6
    have f7 : e_fr (kLv t) w w6 := e_fr.up f4 hw6 (by unfold kLv; omega)
    have hT8 : e_Has kTy w6 := e_Has.upr hT5 hw6 (kT_15 (t := t) (by omega) (by omega)) (by omega)
    refine e_Ok.run (t' := (34, [(0, (1, 6 * t + 154))], [(1, 6 * t + 154), (1, 6 * t + 154)], w6)) 2 rfl ?_
    refine e_Ok.getr (z := 6 * t + 155) rfl (lT0 (t := t) (by omega) (by omega)) rfl rfl (by rw [← hw6]; exact (e_up_ne _ _ (Or.inr (by omega))).trans (by rw [← hw3]; exact (e_up_ne _ _ (Or.inr (by omega))).trans (Eq.trans (e_Has.eq hT (kT_16 (t := t) (by omega) (by omega))) (by omega)))) (by omega) ?_
    refine e_Ok.run (t' := (38, [(0, (1, 6 * t + 154))], [(1, 6 * t + 154), (1, 6 * t + 155), (1, 6 * t + 154)], w6)) 1 rfl ?_
    refine e_Ok.getf (z := w (6 * t + 154) 4 - 1) rfl (lT0 (t := t) (by omega) (by omega)) rfl rfl (by rw [← hw6]; exact (e_up_ne _ _ (Or.inr (by omega))).trans (by rw [← hw3]; exact e_up_eq _ _ _ _)) (by omega) ?_
    refine e_Ok.ald (z := w (6 * t + 155) (w (6 * t + 154) 4 - 1)) rfl (lT1 (t := t) (by omega) (by omega)) rfl (by omega) (by rw [← hw6]; exact (e_up_ne _ _ (Or.inl (by omega))).trans (by rw [← hw3]; exact (e_up_ne _ _ (Or.inl (by omega))).trans rfl)) (by omega) ?_
    refine e_Ok.putf rfl (lT0 (t := t) (by omega) (by omega)) rfl rfl ?_
    generalize hw9 : e_up w6 (6 * t + 154) 3 (w (6 * t + 155) (w (6 * t + 154) 4 - 1)) = w9
    have f10 : e_fr (kLv t) w w9 := e_fr.up f7 hw9 (by unfold kLv; omega)
    have hT11 : e_Has kTy w9 := e_Has.upr hT8 hw9 (kT_3 (t := t) (by omega) (by omega)) (by omega)
    refine e_Ok.rets rfl rfl ?_
    have e15 : w9 (6 * t + 154) 15 = w (6 * t + 156) (w (6 * t + 154) 4 - 1) := (by rw [← hw9]; exact (e_up_ne _ _ (Or.inr (by omega))).trans (by rw [← hw6]; exact e_up_eq _ _ _ _))
    have e4 : w9 (6 * t + 154) 4 = w (6 * t + 154) 4 - 1 := (by rw [← hw9]; exact (e_up_ne _ _ (Or.inr (by omega))).trans (by rw [← hw6]; exact (e_up_ne _ _ (Or.inr (by omega))).trans (by rw [← hw3]; exact e_up_eq _ _ _ _)))
    have e3 : w9 (6 * t + 154) 3 = w (6 * t + 155) (w (6 * t + 154) 4 - 1) := (by rw [← hw9]; exact e_up_eq _ _ _ _)
    exact ⟨rfl, f10, hT11, tS.less hs (by omega) (by omega) (fun d k g1 g2 => by rw [← hw9, e_up_ne _ _ (by omega), ← hw6, e_up_ne _ _ (by omega), ← hw3, e_up_ne _ _ (by omega)]), Or.inr ⟨by omega, by omega, by rw [e3]; omega⟩⟩
  · replace h2 : (w (6 * t + 154) 4 : Int) < 1 := by have q : ¬ ((w (6 * t + 154) 4 : Int) ≥ 1) := h2; omega
    refine e_Ok.rets rfl rfl ?_
    exact ⟨rfl, e_fr.refl w, hT, hs, Or.inl ⟨by omega, rfl⟩⟩
theorem c_184 {d : Nat} {w : eW} (hT : e_Has kTy w) {t : Int} (gt : 0 ≤ t ∧ t ≤ 15) {op : Int → Int} {p : Int} (hx : (0 ≤ p ∧ p ≤ 3999) ∧ op (p + 1) = 49 ∧ op (p + 2) = 49 ∧ op (p + 3) = 49) (hs : tSx w (6 * t + 154) op) : e_Ok 20 elay kcode eI d 184 (0, [(0, (1, 6 * t + 154)), (1, (0, p))], [], w) (fun r w' => r = [] ∧ e_fr (kOt t) w w' ∧ e_Has kTy w' ∧ tSx w' (6 * t + 154) op) := by
  have h15 := e_Has.get hT (c := 6 * t + 154) (k := 15) (lo := 0) (hi := 600) (kT_15 (t := t) rfl gt) (by decide)
  refine e_Ok.run (t' := (1, [(0, (1, 6 * t + 154)), (1, (0, p))], [(1, 6 * t + 154)], w)) 1 rfl ?_
  have h1 := (e_Has.get hT (c := 6 * t + 154) (k := 15) (lo := 0) (hi := 600) (kT_15 (t := t) (by omega) (by omega)) (by decide))
  refine e_Ok.getf (z := w (6 * t + 154) 15) rfl (lT0 (t := t) (by omega) (by omega)) rfl rfl rfl (by omega) ?_
  refine e_Ok.run (t' := (7, [(0, (1, 6 * t + 154)), (1, (0, p))], [(0, 600), (0, w (6 * t + 154) 15)], w)) 1 rfl ?_
  refine e_Ok.if2 rfl (fun h2 => ?_) (fun h2 => ?_)
  · replace h2 : (w (6 * t + 154) 15 : Int) < 600 := h2
    refine e_Ok.run (t' := (12, [(0, (1, 6 * t + 154)), (1, (0, p))], [(1, 6 * t + 154)], w)) 1 rfl ?_
    refine e_Ok.getr (z := 6 * t + 157) rfl (lT0 (t := t) (by omega) (by omega)) rfl rfl (Eq.trans (e_Has.eq hT (kT_18 (t := t) (by omega) (by omega))) (by omega)) (by omega) ?_
    refine e_Ok.run (t' := (16, [(0, (1, 6 * t + 154)), (1, (0, p))], [(1, 6 * t + 154), (1, 6 * t + 157)], w)) 1 rfl ?_
    refine e_Ok.getf (z := w (6 * t + 154) 15) rfl (lT0 (t := t) (by omega) (by omega)) rfl rfl rfl (by omega) ?_
    refine e_Ok.run (t' := (20, [(0, (1, 6 * t + 154)), (1, (0, p))], [(0, p), (0, w (6 * t + 154) 15), (1, 6 * t + 157)], w)) 1 rfl ?_
    refine e_Ok.ast rfl (lT3 (t := t) (by omega) (by omega)) rfl rfl (by omega) ?_
    generalize hw3 : e_up w (6 * t + 157) (w (6 * t + 154) 15) p = w3
    have f4 : e_fr (kOt t) w w3 := e_fr.up (e_fr.refl w) hw3 (by unfold kOt; omega)
    have hT5 : e_Has kTy w3 := e_Has.ups hT hw3 (kT157 (t := t) _ (by omega) (by omega))
    refine e_Ok.run (t' := (22, [(0, (1, 6 * t + 154)), (1, (0, p))], [(1, 6 * t + 154)], w3)) 1 rfl ?_
    refine e_Ok.getr (z := 6 * t + 158) rfl (lT0 (t := t) (by omega) (by omega)) rfl rfl (by rw [← hw3]; exact (e_up_ne _ _ (Or.inl (by omega))).trans (Eq.trans (e_Has.eq hT (kT_19 (t := t) (by omega) (by omega))) (by omega))) (by omega) ?_
    refine e_Ok.run (t' := (26, [(0, (1, 6 * t + 154)), (1, (0, p))], [(1, 6 * t + 154), (1, 6 * t + 158)], w3)) 1 rfl ?_
    refine e_Ok.getf (z := w (6 * t + 154) 15) rfl (lT0 (t := t) (by omega) (by omega)) rfl rfl (by rw [← hw3]; exact (e_up_ne _ _ (Or.inl (by omega))).trans rfl) (by omega) ?_
    refine e_Ok.run (t' := (30, [(0, (1, 6 * t + 154)), (1, (0, p))], [(0, 0), (0, w (6 * t + 154) 15), (1, 6 * t + 158)], w3)) 1 rfl ?_
    refine e_Ok.ast rfl (lT4 (t := t) (by omega) (by omega)) rfl rfl (by omega) ?_
    generalize hw6 : e_up w3 (6 * t + 158) (w (6 * t + 154) 15) 0 = w6
    have f7 : e_fr (kOt t) w w6 := e_fr.up f4 hw6 (by unfold kOt; omega)
    have hT8 : e_Has kTy w6 := e_Has.ups hT5 hw6 (kT158 (t := t) _ (by omega) (by omega))
    refine e_Ok.run (t' := (33, [(0, (1, 6 * t + 154)), (1, (0, p))], [(1, 6 * t + 154), (1, 6 * t + 154)], w6)) 2 rfl ?_
    refine e_Ok.getf (z := w (6 * t + 154) 15) rfl (lT0 (t := t) (by omega) (by omega)) rfl rfl (by rw [← hw6]; exact (e_up_ne _ _ (Or.inl (by omega))).trans (by rw [← hw3]; exact (e_up_ne _ _ (Or.inl (by omega))).trans rfl)) (by omega) ?_
    refine e_Ok.run (t' := (37, [(0, (1, 6 * t + 154)), (1, (0, p))], [(0, 1), (0, w (6 * t + 154) 15), (1, 6 * t + 154)], w6)) 1 rfl ?_
    refine e_Ok.add (z := w (6 * t + 154) 15 + 1) rfl (by omega) (by omega) ?_
    refine e_Ok.putf rfl (lT0 (t := t) (by omega) (by omega)) rfl rfl ?_
    generalize hw9 : e_up w6 (6 * t + 154) 15 (w (6 * t + 154) 15 + 1) = w9
    have f10 : e_fr (kOt t) w w9 := e_fr.up f7 hw9 (by unfold kOt; omega)
    have hT11 : e_Has kTy w9 := e_Has.upr hT8 hw9 (kT_15 (t := t) (by omega) (by omega)) (by omega)
    refine e_Ok.rets rfl rfl ?_
    exact ⟨rfl, f10, hT11, hs.elim (fun H q => tS.opn q (by omega) hx (by omega) rfl rfl (by omega) (by omega) hw3 hw6 hw9)⟩
  · replace h2 : (w (6 * t + 154) 15 : Int) ≥ 600 := by have q : ¬ ((w (6 * t + 154) 15 : Int) < 600) := h2; omega
    refine e_Ok.rets rfl rfl ?_
    exact ⟨rfl, e_fr.refl w, hT, hs⟩
theorem c_186 {d : Nat} {w : eW} (hT : e_Has kTy w) {t : Int} (gt : 0 ≤ t ∧ t ≤ 15) {op : Int → Int} {H : Int} (hs : tS w (6 * t + 154) op H) : e_Ok 20 elay kcode eI d 186 (0, [(0, (1, 6 * t + 154))], [], w) (fun r w' => ∃ z : Int, r = [(0, z)] ∧ e_fr (kLv t) w w' ∧ e_Has kTy w' ∧ tS w' (6 * t + 154) op H ∧ (0 ≤ z ∧ z ≤ 3) ∧ (1 ≤ z → (-2147483648 ≤ w' ((6 * t + 154) + 5) (w' (6 * t + 154) 15) ∧ w' ((6 * t + 154) + 5) (w' (6 * t + 154) 15) ≤ 2147483647) ∧ (z = 3 → op (w' ((6 * t + 154) + 5) (w' (6 * t + 154) 15) + 1) = 49))) := by
  have h15 := e_Has.get hT (c := 6 * t + 154) (k := 15) (lo := 0) (hi := 600) (kT_15 (t := t) rfl gt) (by decide)
  have h4 := e_Has.get hT (c := 6 * t + 154) (k := 4) (lo := 0) (hi := 20) (kT_4 (t := t) rfl gt) (by decide)
  have hH := hs.1
  refine e_Ok.run (t' := (1, [(0, (1, 6 * t + 154))], [(1, 6 * t + 154)], w)) 1 rfl ?_
  have h1 := (e_Has.get hT (c := 6 * t + 154) (k := 15) (lo := 0) (hi := 600) (kT_15 (t := t) (by omega) (by omega)) (by decide))
  refine e_Ok.getf (z := w (6 * t + 154) 15) rfl (lT0 (t := t) (by omega) (by omega)) rfl rfl rfl (by omega) ?_
  refine e_Ok.run (t' := (5, [(0, (1, 6 * t + 154))], [(0, 1), (0, w (6 * t + 154) 15)], w)) 1 rfl ?_
  refine e_Ok.if2 rfl (fun h2 => ?_) (fun h2 => ?_)
  · replace h2 : (w (6 * t + 154) 15 : Int) ≥ 1 := h2
    have hq := hs.2.2 (w (6 * t + 154) 15 - 1) (by omega) (by omega)
    have hq3 : ((0 ≤ w (6 * t + 157) (w (6 * t + 154) 15 - 1) ∧ w (6 * t + 157) (w (6 * t + 154) 15 - 1) ≤ 3999) ∧ op (w (6 * t + 157) (w (6 * t + 154) 15 - 1) + 1) = 49 ∧ op (w (6 * t + 157) (w (6 * t + 154) 15 - 1) + 2) = 49 ∧ op (w (6 * t + 157) (w (6 * t + 154) 15 - 1) + 3) = 49) ∧ (0 ≤ w (6 * t + 158) (w (6 * t + 154) 15 - 1) ∧ w (6 * t + 158) (w (6 * t + 154) 15 - 1) ≤ 15) := by rw [show 6 * t + 157 = (6 * t + 154) + 3 by omega, show 6 * t + 158 = (6 * t + 154) + 4 by omega]; exact ⟨hq.1, hq.2.1.1⟩
    refine e_Ok.run (t' := (12, [(0, (1, 6 * t + 154))], [(1, 6 * t + 154), (1, 6 * t + 154)], w)) 2 rfl ?_
    refine e_Ok.getf (z := w (6 * t + 154) 15) rfl (lT0 (t := t) (by omega) (by omega)) rfl rfl rfl (by omega) ?_
    refine e_Ok.run (t' := (16, [(0, (1, 6 * t + 154))], [(0, 1), (0, w (6 * t + 154) 15), (1, 6 * t + 154)], w)) 1 rfl ?_
    refine e_Ok.sub' (z := w (6 * t + 154) 15 - 1) rfl (by omega) (by omega) ?_
    refine e_Ok.putf rfl (lT0 (t := t) (by omega) (by omega)) rfl rfl ?_
    generalize hw3 : e_up w (6 * t + 154) 15 (w (6 * t + 154) 15 - 1) = w3
    have f4 : e_fr (kLv t) w w3 := e_fr.up (e_fr.refl w) hw3 (by unfold kLv; omega)
    have hT5 : e_Has kTy w3 := e_Has.upr hT hw3 (kT_15 (t := t) (by omega) (by omega)) (by omega)
    refine e_Ok.run (t' := (21, [(0, (1, 6 * t + 154))], [(1, 6 * t + 154)], w3)) 1 rfl ?_
    refine e_Ok.getr (z := 6 * t + 158) rfl (lT0 (t := t) (by omega) (by omega)) rfl rfl (by rw [← hw3]; exact (e_up_ne _ _ (Or.inr (by omega))).trans (Eq.trans (e_Has.eq hT (kT_19 (t := t) (by omega) (by omega))) (by omega))) (by omega) ?_
    refine e_Ok.run (t' := (25, [(0, (1, 6 * t + 154))], [(1, 6 * t + 154), (1, 6 * t + 158)], w3)) 1 rfl ?_
    refine e_Ok.getf (z := w (6 * t + 154) 15 - 1) rfl (lT0 (t := t) (by omega) (by omega)) rfl rfl (by rw [← hw3]; exact e_up_eq _ _ _ _) (by omega) ?_
    refine e_Ok.ald (z := w (6 * t + 158) (w (6 * t + 154) 15 - 1)) rfl (lT4 (t := t) (by omega) (by omega)) rfl (by omega) (by rw [← hw3]; exact (e_up_ne _ _ (Or.inl (by omega))).trans rfl) (by omega) ?_
    refine e_Ok.run (t' := (30, [(0, (1, 6 * t + 154))], [(0, 2), (0, w (6 * t + 158) (w (6 * t + 154) 15 - 1))], w3)) 1 rfl ?_
    refine e_Ok.shr2 rfl (by omega) (fun z6 hz6 => ?_)
    replace hz6 : z6 = (w (6 * t + 158) (w (6 * t + 154) 15 - 1)) / 4 := hz6
    refine e_Ok.rets rfl rfl ?_
    have e15 : w3 (6 * t + 154) 15 = w (6 * t + 154) 15 - 1 := (by rw [← hw3]; exact e_up_eq _ _ _ _)
    exact ⟨_, rfl, f4, hT5, tS.less hs (by omega) (by rw [show w3 (6 * t + 154) 4 = w (6 * t + 154) 4 from (by rw [← hw3]; exact (e_up_ne _ _ (Or.inr (by omega))).trans rfl)]; omega) (fun d k g1 g2 => by rw [← hw3, e_up_ne _ _ (by omega)]), by omega, fun g => by rw [e15, show w3 ((6 * t + 154) + 5) = w ((6 * t + 154) + 5) from funext fun k => by rw [← hw3, e_up_ne _ _ (by omega)]]; exact ⟨(hq.2.2 (by rw [show (6 * t + 154) + 4 = 6 * t + 158 by omega]; omega)).1, fun g3 => (hq.2.2 (by rw [show (6 * t + 154) + 4 = 6 * t + 158 by omega]; omega)).2 (by rw [show (6 * t + 154) + 4 = 6 * t + 158 by omega]; omega)⟩⟩
  · replace h2 : (w (6 * t + 154) 15 : Int) < 1 := by have q : ¬ ((w (6 * t + 154) 15 : Int) ≥ 1) := h2; omega
    refine e_Ok.run (t' := (9, [(0, (1, 6 * t + 154))], [(0, 0)], w)) 1 rfl ?_
    refine e_Ok.rets rfl rfl ?_
    exact ⟨_, rfl, e_fr.refl w, hT, hs, by omega, fun g => by omega⟩
theorem c_187 {d : Nat} {w : eW} (hT : e_Has kTy w) {t : Int} (gt : 0 ≤ t ∧ t ≤ 15) {op : Int → Int} {v : Int} (hv : w ((6 * t + 154) + 5) (w (6 * t + 154) 15) = v) (hr : -2147483648 ≤ v ∧ v ≤ 2147483647) (h6 : w (6 * t + 154) 15 < 600) : e_Ok 20 elay kcode eI d 187 (0, [(0, (1, 6 * t + 154))], [], w) (fun r w' => ∃ z : Int, r = [(0, z)] ∧ w = w' ∧ z = v) := by
  have h15 := e_Has.get hT (c := 6 * t + 154) (k := 15) (lo := 0) (hi := 600) (kT_15 (t := t) rfl gt) (by decide)
  have hv1 : w (6 * t + 159) (w (6 * t + 154) 15) = v := by rw [show 6 * t + 159 = (6 * t + 154) + 5 by omega]; exact hv
  refine e_Ok.run (t' := (1, [(0, (1, 6 * t + 154))], [(1, 6 * t + 154)], w)) 1 rfl ?_
  have h1 := (e_Has.get hT (c := 6 * t + 154) (k := 15) (lo := 0) (hi := 600) (kT_15 (t := t) (by omega) (by omega)) (by decide))
  refine e_Ok.getf (z := w (6 * t + 154) 15) rfl (lT0 (t := t) (by omega) (by omega)) rfl rfl rfl (by omega) ?_
  refine e_Ok.run (t' := (7, [(0, (1, 6 * t + 154))], [(0, 600), (0, w (6 * t + 154) 15)], w)) 1 rfl ?_
  refine e_Ok.if2 rfl (fun h2 => ?_) (fun h2 => ?_)
  · replace h2 : (w (6 * t + 154) 15 : Int) ≥ 600 := h2
    refine e_Ok.run (t' := (23, [(0, (1, 6 * t + 154))], [(0, 0)], w)) 1 rfl ?_
    refine e_Ok.rets rfl rfl ?_
    exact ⟨_, rfl, rfl, by omega⟩
  · replace h2 : (w (6 * t + 154) 15 : Int) < 600 := by have q : ¬ ((w (6 * t + 154) 15 : Int) ≥ 600) := h2; omega
    refine e_Ok.run (t' := (11, [(0, (1, 6 * t + 154))], [(1, 6 * t + 154)], w)) 1 rfl ?_
    refine e_Ok.getr (z := 6 * t + 159) rfl (lT0 (t := t) (by omega) (by omega)) rfl rfl (Eq.trans (e_Has.eq hT (kT_20 (t := t) (by omega) (by omega))) (by omega)) (by omega) ?_
    refine e_Ok.run (t' := (15, [(0, (1, 6 * t + 154))], [(1, 6 * t + 154), (1, 6 * t + 159)], w)) 1 rfl ?_
    refine e_Ok.getf (z := w (6 * t + 154) 15) rfl (lT0 (t := t) (by omega) (by omega)) rfl rfl rfl (by omega) ?_
    refine e_Ok.ald (z := v) rfl (lT5 (t := t) (by omega) (by omega)) rfl (by omega) hv1 (by omega) ?_
    refine e_Ok.run (t' := (23, [(0, (1, 6 * t + 154))], [(0, v)], w)) 1 rfl ?_
    refine e_Ok.rets rfl rfl ?_
    exact ⟨_, rfl, rfl, by omega⟩
theorem c_189 {d : Nat} {w : eW} (hT : e_Has kTy w) {t : Int} (gt : 0 ≤ t ∧ t ≤ 15) {op : Int → Int} {z p H : Int} (gz : (0 ≤ z ∧ z ≤ 15) ∧ (4 ≤ z → z % 4 = 2)) (gp : -2147483648 ≤ p ∧ p ≤ 2147483647) (h1 : 1 ≤ w (6 * t + 154) 15) (hs : tS w (6 * t + 154) op H) (hv : 4 ≤ z → (-2147483648 ≤ w ((6 * t + 154) + 5) (w (6 * t + 154) 15 - 1) ∧ w ((6 * t + 154) + 5) (w (6 * t + 154) 15 - 1) ≤ 2147483647) ∧ (12 ≤ z → op (w ((6 * t + 154) + 5) (w (6 * t + 154) 15 - 1) + 1) = 49)) : e_Ok 20 elay kcode eI d 189 (0, [(0, (1, 6 * t + 154)), (1, (0, z)), (2, (0, p))], [], w) (fun r w' => r = [] ∧ e_fr (kLv t) w w' ∧ e_Has kTy w' ∧ tS w' (6 * t + 154) op H ∧ w' (6 * t + 154) 3 = p ∧ w' (6 * t + 154) 4 ≤ w (6 * t + 154) 4) := by
  have h15 := e_Has.get hT (c := 6 * t + 154) (k := 15) (lo := 0) (hi := 600) (kT_15 (t := t) rfl gt) (by decide)
  have h4 := e_Has.get hT (c := 6 * t + 154) (k := 4) (lo := 0) (hi := 20) (kT_4 (t := t) rfl gt) (by decide)
  refine e_Ok.run (t' := (1, [(0, (1, 6 * t + 154)), (1, (0, z)), (2, (0, p))], [(1, 6 * t + 154)], w)) 1 rfl ?_
  refine e_Ok.getr (z := 6 * t + 158) rfl (lT0 (t := t) (by omega) (by omega)) rfl rfl (Eq.trans (e_Has.eq hT (kT_19 (t := t) (by omega) (by omega))) (by omega)) (by omega) ?_
  refine e_Ok.run (t' := (5, [(0, (1, 6 * t + 154)), (1, (0, z)), (2, (0, p))], [(1, 6 * t + 154), (1, 6 * t + 158)], w)) 1 rfl ?_
  have h1 := (e_Has.get hT (c := 6 * t + 154) (k := 15) (lo := 0) (hi := 600) (kT_15 (t := t) (by omega) (by omega)) (by decide))
  refine e_Ok.getf (z := w (6 * t + 154) 15) rfl (lT0 (t := t) (by omega) (by omega)) rfl rfl rfl (by omega) ?_
  refine e_Ok.run (t' := (9, [(0, (1, 6 * t + 154)), (1, (0, z)), (2, (0, p))], [(0, 1), (0, w (6 * t + 154) 15), (1, 6 * t + 158)], w)) 1 rfl ?_
  refine e_Ok.sub' (z := w (6 * t + 154) 15 - 1) rfl (by omega) (by omega) ?_
  refine e_Ok.run (t' := (11, [(0, (1, 6 * t + 154)), (1, (0, z)), (2, (0, p))], [(0, z), (0, w (6 * t + 154) 15 - 1), (1, 6 * t + 158)], w)) 1 rfl ?_
  refine e_Ok.ast rfl (lT4 (t := t) (by omega) (by omega)) rfl rfl (by omega) ?_
  generalize hw2 : e_up w (6 * t + 158) (w (6 * t + 154) 15 - 1) z = w2
  have f3 : e_fr (kLv t) w w2 := e_fr.up (e_fr.refl w) hw2 (by unfold kLv; omega)
  have hT4 : e_Has kTy w2 := e_Has.ups hT hw2 (kT158 (t := t) _ (by omega) (by omega))
  have hL5 : ∀ (nn : Nat) (v1 : eW), e_fr (kLv t) w v1 ∧ e_Has kTy v1 ∧ (∀ c k, ¬ (c = (6 * t + 154) ∧ k = 4) → ¬ (c = 6 * t + 158 ∧ k = w (6 * t + 154) 15 - 1) → v1 c k = w c k) ∧ v1 (6 * t + 158) (w (6 * t + 154) 15 - 1) = z ∧ ((0 ≤ v1 (6 * t + 154) 4 ∧ v1 (6 * t + 154) 4 ≤ w (6 * t + 154) 4)) → v1 (6 * t + 154) 4 < nn → e_Ok 20 elay kcode eI d 189 (12, [(0, (1, 6 * t + 154)), (1, (0, z)), (2, (0, p))], [], v1) (fun r w' => r = [] ∧ e_fr (kLv t) w w' ∧ e_Has kTy w' ∧ tS w' (6 * t + 154) op H ∧ w' (6 * t + 154) 3 = p ∧ w' (6 * t + 154) 4 ≤ w (6 * t + 154) 4) := by
    intro nn
    induction nn with
    | zero => intro v1 hj hm; obtain ⟨j7, j8, j9, j10, j11⟩ := hj; exfalso; omega
    | succ nn ih6 =>
      intro v1 hj hm
      obtain ⟨j7, j8, j9, j10, j11⟩ := hj
      have e15 : v1 (6 * t + 154) 15 = w (6 * t + 154) 15 := j9 _ _ (by omega) (by omega)
      refine e_Ok.run (t' := (13, [(0, (1, 6 * t + 154)), (1, (0, z)), (2, (0, p))], [(1, 6 * t + 154)], v1)) 1 rfl ?_
      refine e_Ok.getf (z := v1 (6 * t + 154) 4) rfl (lT0 (t := t) (by omega) (by omega)) rfl rfl rfl (by omega) ?_
      refine e_Ok.run (t' := (17, [(0, (1, 6 * t + 154)), (1, (0, z)), (2, (0, p))], [(0, 1), (0, v1 (6 * t + 154) 4)], v1)) 1 rfl ?_
      refine e_Ok.if2 rfl (fun h12 => ?_) (fun h12 => ?_)
      · replace h12 : (v1 (6 * t + 154) 4 : Int) ≤ 1 := h12
        refine e_Ok.run (t' := (53, [(0, (1, 6 * t + 154)), (1, (0, z)), (2, (0, p))], [(0, p), (1, 6 * t + 154)], v1)) 2 rfl ?_
        refine e_Ok.putf rfl (lT0 (t := t) (by omega) (by omega)) rfl rfl ?_
        generalize hw13 : e_up v1 (6 * t + 154) 3 p = w13
        have f14 : e_fr (kLv t) w w13 := e_fr.up j7 hw13 (by unfold kLv; omega)
        have hT15 : e_Has kTy w13 := e_Has.upr j8 hw13 (kT_3 (t := t) (by omega) (by omega)) (by omega)
        refine e_Ok.rets rfl rfl ?_
        have e4 : w13 (6 * t + 154) 4 = v1 (6 * t + 154) 4 := (by rw [← hw13]; exact (e_up_ne _ _ (Or.inr (by omega))).trans rfl)
        have e15 : w13 (6 * t + 154) 15 = w (6 * t + 154) 15 := by rw [← hw13, e_up_ne _ _ (by omega)]; exact j9 _ _ (by omega) (by omega)
        have ex : ∀ d k, d ≠ (6 * t + 154) → ¬ (d = (6 * t + 154) + 4 ∧ k = w (6 * t + 154) 15 - 1) → w13 d k = w d k := fun d k g1 g2 => by rw [← hw13, e_up_ne _ _ (by omega)]; exact j9 d k (by omega) (by omega)
        have e5 : w13 ((6 * t + 154) + 4) (w (6 * t + 154) 15 - 1) = z := by rw [← hw13, e_up_ne _ _ (by omega), show (6 * t + 154) + 4 = 6 * t + 158 by omega]; exact j10
        exact ⟨rfl, f14, hT15, tS.part (x := w (6 * t + 154) 15 - 1) hs (by omega) (by have := hs.1; omega) (by omega) (fun d k g1 g2 => ex _ _ (by omega) (by omega)) (fun k g => ex _ _ (by omega) (by omega)) e5 (fun k g => ex _ _ (by omega) (by omega)) (fun g => by rw [ex _ _ (by omega) (by omega)]; exact hv g), (by rw [← hw13]; exact e_up_eq _ _ _ _), by omega⟩
      · replace h12 : (v1 (6 * t + 154) 4 : Int) > 1 := by have q : ¬ ((v1 (6 * t + 154) 4 : Int) ≤ 1) := h12; omega
        have hq := hs.2.1 (v1 (6 * t + 154) 4 - 1) (by omega) (by omega)
        have hq2 : v1 (6 * t + 156) (v1 (6 * t + 154) 4 - 1) = w (6 * t + 156) (v1 (6 * t + 154) 4 - 1) := j9 _ _ (by omega) (by omega)
        have hq3 : 0 ≤ w (6 * t + 156) (v1 (6 * t + 154) 4 - 1) ∧ w (6 * t + 156) (v1 (6 * t + 154) 4 - 1) ≤ H := by rw [show 6 * t + 156 = (6 * t + 154) + 2 by omega]; exact hq.2.2
        have hH := hs.1; clear hq
        refine e_Ok.run (t' := (21, [(0, (1, 6 * t + 154)), (1, (0, z)), (2, (0, p))], [(1, 6 * t + 154)], v1)) 1 rfl ?_
        refine e_Ok.getr (z := 6 * t + 156) rfl (lT0 (t := t) (by omega) (by omega)) rfl rfl ((j7 (6 * t + 154) 17 (by unfold kLv; omega)).trans (Eq.trans (e_Has.eq hT (kT_17 (t := t) (by omega) (by omega))) (by omega))) (by omega) ?_
        refine e_Ok.run (t' := (25, [(0, (1, 6 * t + 154)), (1, (0, z)), (2, (0, p))], [(1, 6 * t + 154), (1, 6 * t + 156)], v1)) 1 rfl ?_
        refine e_Ok.getf (z := v1 (6 * t + 154) 4) rfl (lT0 (t := t) (by omega) (by omega)) rfl rfl rfl (by omega) ?_
        refine e_Ok.run (t' := (29, [(0, (1, 6 * t + 154)), (1, (0, z)), (2, (0, p))], [(0, 1), (0, v1 (6 * t + 154) 4), (1, 6 * t + 156)], v1)) 1 rfl ?_
        refine e_Ok.sub' (z := v1 (6 * t + 154) 4 - 1) rfl (by omega) (by omega) ?_
        refine e_Ok.ald (z := w (6 * t + 156) (v1 (6 * t + 154) 4 - 1)) rfl (lT2 (t := t) (by omega) (by omega)) rfl (by omega) ((j7 (6 * t + 156) (v1 (6 * t + 154) 4 - 1) (by unfold kLv; omega)).trans rfl) (by omega) ?_
        refine e_Ok.run (t' := (32, [(0, (1, 6 * t + 154)), (1, (0, z)), (2, (0, p))], [(1, 6 * t + 154), (0, w (6 * t + 156) (v1 (6 * t + 154) 4 - 1))], v1)) 1 rfl ?_
        refine e_Ok.getf (z := w (6 * t + 154) 15) rfl (lT0 (t := t) (by omega) (by omega)) rfl rfl e15 (by omega) ?_
        refine e_Ok.if2 rfl (fun h16 => ?_) (fun h16 => ?_)
        · replace h16 : (w (6 * t + 156) (v1 (6 * t + 154) 4 - 1) : Int) < w (6 * t + 154) 15 := h16
          refine e_Ok.run (t' := (53, [(0, (1, 6 * t + 154)), (1, (0, z)), (2, (0, p))], [(0, p), (1, 6 * t + 154)], v1)) 2 rfl ?_
          refine e_Ok.putf rfl (lT0 (t := t) (by omega) (by omega)) rfl rfl ?_
          generalize hw17 : e_up v1 (6 * t + 154) 3 p = w17
          have f18 : e_fr (kLv t) w w17 := e_fr.up j7 hw17 (by unfold kLv; omega)
          have hT19 : e_Has kTy w17 := e_Has.upr j8 hw17 (kT_3 (t := t) (by omega) (by omega)) (by omega)
          refine e_Ok.rets rfl rfl ?_
          have e4 : w17 (6 * t + 154) 4 = v1 (6 * t + 154) 4 := (by rw [← hw17]; exact (e_up_ne _ _ (Or.inr (by omega))).trans rfl)
          have e15 : w17 (6 * t + 154) 15 = w (6 * t + 154) 15 := by rw [← hw17, e_up_ne _ _ (by omega)]; exact j9 _ _ (by omega) (by omega)
          have ex : ∀ d k, d ≠ (6 * t + 154) → ¬ (d = (6 * t + 154) + 4 ∧ k = w (6 * t + 154) 15 - 1) → w17 d k = w d k := fun d k g1 g2 => by rw [← hw17, e_up_ne _ _ (by omega)]; exact j9 d k (by omega) (by omega)
          have e5 : w17 ((6 * t + 154) + 4) (w (6 * t + 154) 15 - 1) = z := by rw [← hw17, e_up_ne _ _ (by omega), show (6 * t + 154) + 4 = 6 * t + 158 by omega]; exact j10
          exact ⟨rfl, f18, hT19, tS.part (x := w (6 * t + 154) 15 - 1) hs (by omega) (by have := hs.1; omega) (by omega) (fun d k g1 g2 => ex _ _ (by omega) (by omega)) (fun k g => ex _ _ (by omega) (by omega)) e5 (fun k g => ex _ _ (by omega) (by omega)) (fun g => by rw [ex _ _ (by omega) (by omega)]; exact hv g), (by rw [← hw17]; exact e_up_eq _ _ _ _), by omega⟩
        · replace h16 : (w (6 * t + 156) (v1 (6 * t + 154) 4 - 1) : Int) ≥ w (6 * t + 154) 15 := by have q : ¬ ((w (6 * t + 156) (v1 (6 * t + 154) 4 - 1) : Int) < w (6 * t + 154) 15) := h16; omega
          refine e_Ok.run (t' := (40, [(0, (1, 6 * t + 154)), (1, (0, z)), (2, (0, p))], [(1, 6 * t + 154), (1, 6 * t + 154)], v1)) 2 rfl ?_
          refine e_Ok.getf (z := v1 (6 * t + 154) 4) rfl (lT0 (t := t) (by omega) (by omega)) rfl rfl rfl (by omega) ?_
          refine e_Ok.run (t' := (44, [(0, (1, 6 * t + 154)), (1, (0, z)), (2, (0, p))], [(0, 1), (0, v1 (6 * t + 154) 4), (1, 6 * t + 154)], v1)) 1 rfl ?_
          refine e_Ok.sub' (z := v1 (6 * t + 154) 4 - 1) rfl (by omega) (by omega) ?_
          refine e_Ok.putf rfl (lT0 (t := t) (by omega) (by omega)) rfl rfl ?_
          generalize hw20 : e_up v1 (6 * t + 154) 4 (v1 (6 * t + 154) 4 - 1) = w20
          have f21 : e_fr (kLv t) w w20 := e_fr.up j7 hw20 (by unfold kLv; omega)
          have hT22 : e_Has kTy w20 := e_Has.upr j8 hw20 (kT_4 (t := t) (by omega) (by omega)) (by omega)
          refine e_Ok.run (t' := (12, [(0, (1, 6 * t + 154)), (1, (0, z)), (2, (0, p))], [], w20)) 1 rfl ?_
          refine e_Ok.sub kAlk (e_sub_of rfl ?_) (ih6  w20 ⟨f21, hT22, (fun c k g1 g2 => by rw [← hw20, e_up_ne _ _ (by omega)]; exact j9 c k g1 g2), (by rw [← hw20]; exact (e_up_ne _ _ (by omega)).trans j10), (by have e : w20 (6 * t + 154) 4 = v1 (6 * t + 154) 4 - 1 := (by rw [← hw20]; exact e_up_eq _ _ _ _); omega)⟩ (by have e : w20 (6 * t + 154) 4 = v1 (6 * t + 154) 4 - 1 := (by rw [← hw20]; exact e_up_eq _ _ _ _); omega))
          exact ⟨rfl, rfl, rfl, trivial⟩
  refine e_Ok.sub kAlk (e_sub_of rfl ?_) (hL5 (20 + 1 : Int).toNat  w2 ⟨f3, hT4, (fun c k g1 g2 => by rw [← hw2]; exact e_up_ne _ _ (by omega)), (by rw [← hw2]; exact e_up_eq _ _ _ _), (by have e : w2 (6 * t + 154) 4 = w (6 * t + 154) 4 := (by rw [← hw2]; exact (e_up_ne _ _ (Or.inl (by omega))).trans rfl); omega)⟩ (by have e : w2 (6 * t + 154) 4 = w (6 * t + 154) 4 := (by rw [← hw2]; exact (e_up_ne _ _ (Or.inl (by omega))).trans rfl); omega))
  exact ⟨rfl, rfl, rfl, trivial⟩
theorem c_185 {d : Nat} (hd : 21 ≤ d) {w : eW} (hT : e_Has kTy w) {t : Int} (gt : 0 ≤ t ∧ t ≤ 15) {cd : Int} {op od : Int → Int} (hk : kCd w cd op od) {col : Int → Int} (hD : cD op od col) {H : Int} (hs : tS w (6 * t + 154) op H) : e_Ok 20 elay kcode eI d 185 (0, [(0, (1, 6 * t + 154)), (1, (1, cd))], [], w) (fun r w' => r = [] ∧ e_fr (kLv t) w w' ∧ e_Has kTy w' ∧ tS w' (6 * t + 154) op H ∧ ((w (6 * t + 154) 15 < 1 ∧ w' = w) ∨ (40 ≤ op (w' (6 * t + 154) 3) ∧ w' (6 * t + 154) 4 = w (6 * t + 154) 4))) := by
  obtain ⟨d, rfl⟩ : ∃ e, d = e + 1 := ⟨d - 1, by omega⟩
  have hcd := hk.1
  have hcd0 := hk.1
  unfold isCd at hcd0
  have h15 := e_Has.get hT (c := 6 * t + 154) (k := 15) (lo := 0) (hi := 600) (kT_15 (t := t) rfl gt) (by decide)
  have h4 := e_Has.get hT (c := 6 * t + 154) (k := 4) (lo := 0) (hi := 20) (kT_4 (t := t) rfl gt) (by decide)
  have hH := hs.1
  refine e_Ok.run (t' := (1, [(0, (1, 6 * t + 154)), (1, (1, cd))], [(1, 6 * t + 154)], w)) 1 rfl ?_
  have h1 := (e_Has.get hT (c := 6 * t + 154) (k := 15) (lo := 0) (hi := 600) (kT_15 (t := t) (by omega) (by omega)) (by decide))
  refine e_Ok.getf (z := w (6 * t + 154) 15) rfl (lT0 (t := t) (by omega) (by omega)) rfl rfl rfl (by omega) ?_
  refine e_Ok.run (t' := (5, [(0, (1, 6 * t + 154)), (1, (1, cd))], [(0, 1), (0, w (6 * t + 154) 15)], w)) 1 rfl ?_
  refine e_Ok.if2 rfl (fun h2 => ?_) (fun h2 => ?_)
  · replace h2 : (w (6 * t + 154) 15 : Int) ≥ 1 := h2
    have hq := hs.2.2 (w (6 * t + 154) 15 - 1) (by omega) (by omega)
    have hq3 : ((0 ≤ w (6 * t + 157) (w (6 * t + 154) 15 - 1) ∧ w (6 * t + 157) (w (6 * t + 154) 15 - 1) ≤ 3999) ∧ op (w (6 * t + 157) (w (6 * t + 154) 15 - 1) + 1) = 49 ∧ op (w (6 * t + 157) (w (6 * t + 154) 15 - 1) + 2) = 49 ∧ op (w (6 * t + 157) (w (6 * t + 154) 15 - 1) + 3) = 49) ∧ (0 ≤ w (6 * t + 158) (w (6 * t + 154) 15 - 1) ∧ w (6 * t + 158) (w (6 * t + 154) 15 - 1) ≤ 15) := by rw [show 6 * t + 157 = (6 * t + 154) + 3 by omega, show 6 * t + 158 = (6 * t + 154) + 4 by omega]; exact ⟨hq.1, hq.2.1.1⟩
    clear hq
    refine e_Ok.run (t' := (10, [(0, (1, 6 * t + 154)), (1, (1, cd))], [(1, 6 * t + 154)], w)) 1 rfl ?_
    refine e_Ok.getr (z := 6 * t + 157) rfl (lT0 (t := t) (by omega) (by omega)) rfl rfl (Eq.trans (e_Has.eq hT (kT_18 (t := t) (by omega) (by omega))) (by omega)) (by omega) ?_
    refine e_Ok.run (t' := (14, [(0, (1, 6 * t + 154)), (1, (1, cd))], [(1, 6 * t + 154), (1, 6 * t + 157)], w)) 1 rfl ?_
    refine e_Ok.getf (z := w (6 * t + 154) 15) rfl (lT0 (t := t) (by omega) (by omega)) rfl rfl rfl (by omega) ?_
    refine e_Ok.run (t' := (18, [(0, (1, 6 * t + 154)), (1, (1, cd))], [(0, 1), (0, w (6 * t + 154) 15), (1, 6 * t + 157)], w)) 1 rfl ?_
    refine e_Ok.sub' (z := w (6 * t + 154) 15 - 1) rfl (by omega) (by omega) ?_
    refine e_Ok.ald (z := w (6 * t + 157) (w (6 * t + 154) 15 - 1)) rfl (lT3 (t := t) (by omega) (by omega)) rfl (by omega) rfl (by omega) ?_
    refine e_Ok.run (t' := (24, [(2, (0, w (6 * t + 157) (w (6 * t + 154) 15 - 1))), (0, (1, 6 * t + 154)), (1, (1, cd))], [(0, 2), (0, w (6 * t + 157) (w (6 * t + 154) 15 - 1)), (1, cd)], w)) 4 rfl ?_
    refine e_Ok.add (z := w (6 * t + 157) (w (6 * t + 154) 15 - 1) + 2) rfl (by omega) (by omega) ?_
    refine e_Ok.callV rfl (by omega) rfl (lD0 hcd) rfl rfl (c_24 hT hk (by omega)) (fun r3 w4 h5 => ?_)
    obtain ⟨z6, rfl, rfl, q7, q7r⟩ := h5
    replace q7 : z6 = od (w (6 * t + 157) (w (6 * t + 154) 15 - 1) + 2) := q7
    show e_Ok 20 elay kcode eI (d + 1) 185 (28, [(2, (0, w (6 * t + 157) (w (6 * t + 154) 15 - 1))), (0, (1, 6 * t + 154)), (1, (1, cd))], [(0, z6)], w) _
    refine e_Ok.run (t' := (30, [(3, (0, z6)), (2, (0, w (6 * t + 157) (w (6 * t + 154) 15 - 1))), (0, (1, 6 * t + 154)), (1, (1, cd))], [(0, z6)], w)) 2 rfl ?_
    refine e_Ok.if1 rfl (fun h8 => ?_) (fun h8 => ?_)
    · replace h8 : (z6 : Int) ≠ 0 := h8
      refine e_Ok.run (t' := (58, [(3, (0, z6)), (2, (0, w (6 * t + 157) (w (6 * t + 154) 15 - 1))), (0, (1, 6 * t + 154)), (1, (1, cd))], [(1, 6 * t + 154)], w)) 1 rfl ?_
      refine e_Ok.getr (z := 6 * t + 158) rfl (lT0 (t := t) (by omega) (by omega)) rfl rfl (Eq.trans (e_Has.eq hT (kT_19 (t := t) (by omega) (by omega))) (by omega)) (by omega) ?_
      refine e_Ok.run (t' := (62, [(3, (0, z6)), (2, (0, w (6 * t + 157) (w (6 * t + 154) 15 - 1))), (0, (1, 6 * t + 154)), (1, (1, cd))], [(1, 6 * t + 154), (1, 6 * t + 158)], w)) 1 rfl ?_
      refine e_Ok.getf (z := w (6 * t + 154) 15) rfl (lT0 (t := t) (by omega) (by omega)) rfl rfl rfl (by omega) ?_
      refine e_Ok.run (t' := (66, [(3, (0, z6)), (2, (0, w (6 * t + 157) (w (6 * t + 154) 15 - 1))), (0, (1, 6 * t + 154)), (1, (1, cd))], [(0, 1), (0, w (6 * t + 154) 15), (1, 6 * t + 158)], w)) 1 rfl ?_
      refine e_Ok.sub' (z := w (6 * t + 154) 15 - 1) rfl (by omega) (by omega) ?_
      refine e_Ok.run (t' := (68, [(3, (0, z6)), (2, (0, w (6 * t + 157) (w (6 * t + 154) 15 - 1))), (0, (1, 6 * t + 154)), (1, (1, cd))], [(0, 2), (0, w (6 * t + 154) 15 - 1), (1, 6 * t + 158)], w)) 1 rfl ?_
      refine e_Ok.ast rfl (lT4 (t := t) (by omega) (by omega)) rfl rfl (by omega) ?_
      generalize hw9 : e_up w (6 * t + 158) (w (6 * t + 154) 15 - 1) 2 = w9
      have f10 : e_fr (kLv t) w w9 := e_fr.up (e_fr.refl w) hw9 (by unfold kLv; omega)
      have hT11 : e_Has kTy w9 := e_Has.ups hT hw9 (kT158 (t := t) _ (by omega) (by omega))
      refine e_Ok.run (t' := (71, [(3, (0, z6)), (2, (0, w (6 * t + 157) (w (6 * t + 154) 15 - 1))), (0, (1, 6 * t + 154)), (1, (1, cd))], [(0, z6), (1, 6 * t + 154)], w9)) 2 rfl ?_
      refine e_Ok.putf rfl (lT0 (t := t) (by omega) (by omega)) rfl rfl ?_
      generalize hw12 : e_up w9 (6 * t + 154) 3 z6 = w12
      have f13 : e_fr (kLv t) w w12 := e_fr.up f10 hw12 (by unfold kLv; omega)
      have hT14 : e_Has kTy w12 := e_Has.upr hT11 hw12 (kT_3 (t := t) (by omega) (by omega)) (by omega)
      refine e_Ok.rets rfl rfl ?_
      have e15 : w12 (6 * t + 154) 15 = w (6 * t + 154) 15 := (by rw [← hw12]; exact (e_up_ne _ _ (Or.inr (by omega))).trans (by rw [← hw9]; exact (e_up_ne _ _ (Or.inl (by omega))).trans rfl))
      have e4 : w12 (6 * t + 154) 4 = w (6 * t + 154) 4 := (by rw [← hw12]; exact (e_up_ne _ _ (Or.inr (by omega))).trans (by rw [← hw9]; exact (e_up_ne _ _ (Or.inl (by omega))).trans rfl))
      have e3 : w12 (6 * t + 154) 3 = z6 := (by rw [← hw12]; exact e_up_eq _ _ _ _)
      have ht := (hD.2.2 (w (6 * t + 157) (w (6 * t + 154) 15 - 1) + 2)).2.1 (Or.inr (Or.inr (by omega)))
      exact ⟨rfl, f13, hT14, tS.part (x := w (6 * t + 154) 15 - 1) (z := 2) hs (by omega) (by have := hs.1; omega) (by omega) (fun d k g1 g2 => by rw [← hw12, e_up_ne _ _ (by omega), ← hw9, e_up_ne _ _ (by omega)]) (fun k g => by rw [← hw12, e_up_ne _ _ (by omega), ← hw9, e_up_ne _ _ (by omega)]) (by rw [← hw12, e_up_ne _ _ (by omega), ← hw9, show (6 * t + 154) + 4 = 6 * t + 158 by omega]; exact e_up_eq _ _ _ _) (fun k g => by rw [← hw12, e_up_ne _ _ (by omega), ← hw9, e_up_ne _ _ (by omega)]) (fun g => by omega), Or.inr ⟨by rw [e3, q7]; exact ht, by omega⟩⟩
    · replace h8 : (z6 : Int) = 0 := by have q : ¬ ((z6 : Int) ≠ 0) := h8; omega
      refine e_Ok.run (t' := (35, [(3, (0, z6)), (2, (0, w (6 * t + 157) (w (6 * t + 154) 15 - 1))), (0, (1, 6 * t + 154)), (1, (1, cd))], [(1, 6 * t + 154), (1, 6 * t + 154)], w)) 2 rfl ?_
      refine e_Ok.getf (z := w (6 * t + 154) 15) rfl (lT0 (t := t) (by omega) (by omega)) rfl rfl rfl (by omega) ?_
      refine e_Ok.run (t' := (39, [(3, (0, z6)), (2, (0, w (6 * t + 157) (w (6 * t + 154) 15 - 1))), (0, (1, 6 * t + 154)), (1, (1, cd))], [(0, 1), (0, w (6 * t + 154) 15), (1, 6 * t + 154)], w)) 1 rfl ?_
      refine e_Ok.sub' (z := w (6 * t + 154) 15 - 1) rfl (by omega) (by omega) ?_
      refine e_Ok.putf rfl (lT0 (t := t) (by omega) (by omega)) rfl rfl ?_
      generalize hw15 : e_up w (6 * t + 154) 15 (w (6 * t + 154) 15 - 1) = w15
      have f16 : e_fr (kLv t) w w15 := e_fr.up (e_fr.refl w) hw15 (by unfold kLv; omega)
      have hT17 : e_Has kTy w15 := e_Has.upr hT hw15 (kT_15 (t := t) (by omega) (by omega)) (by omega)
      refine e_Ok.run (t' := (47, [(3, (0, z6)), (2, (0, w (6 * t + 157) (w (6 * t + 154) 15 - 1))), (0, (1, 6 * t + 154)), (1, (1, cd))], [(0, 3), (0, w (6 * t + 157) (w (6 * t + 154) 15 - 1)), (1, cd), (1, 6 * t + 154)], w15)) 4 rfl ?_
      refine e_Ok.add (z := w (6 * t + 157) (w (6 * t + 154) 15 - 1) + 3) rfl (by omega) (by omega) ?_
      refine e_Ok.callV rfl (by omega) rfl (lD0 hcd) rfl rfl (c_24 hT17 (kCd.fr f16 (by unfold kLv; omega) (fun k => by unfold kLv; omega) hk) (by omega)) (fun r18 w19 h20 => ?_)
      obtain ⟨z21, rfl, rfl, q22, q22r⟩ := h20
      replace q22 : z21 = od (w (6 * t + 157) (w (6 * t + 154) 15 - 1) + 3) := q22
      show e_Ok 20 elay kcode eI (d + 1) 185 (51, [(3, (0, z6)), (2, (0, w (6 * t + 157) (w (6 * t + 154) 15 - 1))), (0, (1, 6 * t + 154)), (1, (1, cd))], [(0, z21), (1, 6 * t + 154)], w15) _
      refine e_Ok.putf rfl (lT0 (t := t) (by omega) (by omega)) rfl rfl ?_
      generalize hw23 : e_up w15 (6 * t + 154) 3 z21 = w23
      have f24 : e_fr (kLv t) w w23 := e_fr.up f16 hw23 (by unfold kLv; omega)
      have hT25 : e_Has kTy w23 := e_Has.upr hT17 hw23 (kT_3 (t := t) (by omega) (by omega)) (by omega)
      refine e_Ok.run (t' := (74, [(3, (0, z6)), (2, (0, w (6 * t + 157) (w (6 * t + 154) 15 - 1))), (0, (1, 6 * t + 154)), (1, (1, cd))], [], w23)) 1 rfl ?_
      refine e_Ok.rets rfl rfl ?_
      have e15 : w23 (6 * t + 154) 15 = w (6 * t + 154) 15 - 1 := (by rw [← hw23]; exact (e_up_ne _ _ (Or.inr (by omega))).trans (by rw [← hw15]; exact e_up_eq _ _ _ _))
      have e4 : w23 (6 * t + 154) 4 = w (6 * t + 154) 4 := (by rw [← hw23]; exact (e_up_ne _ _ (Or.inr (by omega))).trans (by rw [← hw15]; exact (e_up_ne _ _ (Or.inr (by omega))).trans rfl))
      have e3 : w23 (6 * t + 154) 3 = z21 := (by rw [← hw23]; exact e_up_eq _ _ _ _)
      have ht := (hD.2.2 (w (6 * t + 157) (w (6 * t + 154) 15 - 1) + 3)).2.1 (Or.inr (Or.inr (by omega)))
      exact ⟨rfl, f24, hT25, tS.less hs (by have := hs.1; omega) (by omega) (fun d k g1 g2 => by rw [← hw23, e_up_ne _ _ (by omega), ← hw15, e_up_ne _ _ (by omega)]), Or.inr ⟨by rw [e3, q22]; exact ht, by omega⟩⟩
  · replace h2 : (w (6 * t + 154) 15 : Int) < 1 := by have q : ¬ ((w (6 * t + 154) 15 : Int) ≥ 1) := h2; omega
    refine e_Ok.rets rfl rfl ?_
    exact ⟨rfl, e_fr.refl w, hT, hs, Or.inl ⟨by omega, rfl⟩⟩
end
