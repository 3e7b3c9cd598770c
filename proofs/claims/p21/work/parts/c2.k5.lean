noncomputable section
/-! the class: joints and arms -/
theorem rW_b3 {g d : Int} (hg : 1 ≤ g ∧ g ≤ 2000) (hd : 0 ≤ d ∧ d ≤ 2000) (z : Int) (hz : z = (d + g - 1) / g) (q : Int) (hq : q = z * (z - 1) / 2) : 0 ≤ g * q ∧ g * q ≤ 4000000 := by
  have hb := rW_bd hg hd z hz
  have hb2 := hb.2.2.2 q hq
  have h1 : z * g ≤ d + g - 1 := by rw [hz]; exact Int.ediv_mul_le _ (by omega)
  refine ⟨hb2.2.1.1, ?_⟩
  by_cases e : z = 0
  · have q0 : q = 0 := by rw [hq, e]; rfl
    rw [q0]
    omega
  · have h2 : (z * g) * (z - 1) ≤ 3999 * 1999 := Int.mul_le_mul (by omega) (by omega) (by omega) (by decide)
    have h3 : g * (z * (z - 1)) = (z * g) * (z - 1) := by rw [← Int.mul_assoc, Int.mul_comm g z]
    have h4 : 2 * q ≤ z * (z - 1) := by omega
    have h5 : g * (2 * q) ≤ g * (z * (z - 1)) := Int.mul_le_mul_of_nonneg_left h4 (by omega)
    have h6 : g * (2 * q) = 2 * (g * q) := by rw [← Int.mul_assoc, Int.mul_comm g 2, Int.mul_assoc]
    omega
/-- a joint as it was told; and it goes as its limits allow -/
def jC (w : eW) (c : Int) : Prop := ((-100000 ≤ w c 1 ∧ w c 1 ≤ 0) ∧ (0 ≤ w c 2 ∧ w c 2 ≤ 100000)) ∧ (1 ≤ w c 5 ∧ w c 5 ≤ 2000) ∧ (1 ≤ w c 6 ∧ w c 6 ≤ 2000)
def jM (w : eW) (st c : Int) : Prop := joOk st (w c 7) (w c 8) (w c 9) (w c 1) (w c 2) (w c 6)
def aMs (w : eW) (a n st : Int) : Prop := ∀ i, 0 ≤ i → i < n → jC w (17 * a + i + 97) ∧ jM w st (17 * a + i + 97)
theorem jq.oth {w w' : eW} {st c c' k z : Int} (h : jC w c ∧ jM w st c) (hw : e_up w c' k z = w') (hn : c ≠ c') : jC w' c ∧ jM w' st c := by
  have e : ∀ i, w' c i = w c i := fun i => by rw [← hw]; exact e_up_ne _ _ (Or.inl hn)
  unfold jC jM at h ⊢
  simp only [e]
  exact h
theorem jq.step {w w1 w2 : eW} {st c d v : Int} (h : jC w c ∧ jM w st c) (h1 : e_up w c 8 d = w1) (h2 : e_up w1 c 7 v = w2) (hv : v = w c 7 + d)
    (hd : (st = 1 ∧ ((0 ≤ d ∧ (d = 0 ∨ rW (w c 6) d ≤ w c 9 - w c 7)) ∨ (d ≤ 0 ∧ (d = 0 ∨ rW (w c 6) (-d) ≤ w c 7 - w c 9)))) ∨ (st = 2 ∧ ((w c 6 < w c 8 ∧ d = w c 8 - w c 6) ∨ (w c 8 < -(w c 6) ∧ d = w c 8 + w c 6) ∨ (-(w c 6) ≤ w c 8 ∧ w c 8 ≤ w c 6 ∧ d = 0)))) : jC w2 c ∧ jM w2 st c := by
  have e : ∀ i, i ≠ 7 → i ≠ 8 → w2 c i = w c i := fun i g1 g2 => by rw [← h2, e_up_ne _ _ (Or.inr g1), ← h1]; exact e_up_ne _ _ (Or.inr g2)
  have e7 : w2 c 7 = w c 7 + d := by rw [← h2, e_up_eq, hv]
  have e8 : w2 c 8 = d := by rw [← h2, e_up_ne _ _ (Or.inr (by decide)), ← h1]; exact e_up_eq _ _ _ _
  obtain ⟨hc, hm⟩ := h
  have hg : 1 ≤ w c 6 := hc.2.2.1
  refine ⟨?_, ?_⟩
  · unfold jC at hc ⊢
    rw [e 1 (by decide) (by decide), e 2 (by decide) (by decide), e 5 (by decide) (by decide), e 6 (by decide) (by decide)]
    exact hc
  · unfold jM at hm ⊢
    rw [e 1 (by decide) (by decide), e 2 (by decide) (by decide), e 9 (by decide) (by decide), e 6 (by decide) (by decide), e7, e8]
    rcases hd with ⟨rfl, hd⟩ | ⟨rfl, hd⟩
    · exact hm.go1 hg hd
    · exact hm.slow hg hd
theorem aK.up {w w' : eW} {a c k z : Int} (h : aK w a) (hw : e_up w c k z = w') (h1 : c ≠ 17 * a + 88) (h2 : c ≠ 17 * a + 89) (h3 : ¬ (c = 17 * a + 86 ∧ k = 8)) : aK w' a := by
  have e : w' (17 * a + 86) 8 = w (17 * a + 86) 8 := by
    rw [← hw]
    refine e_up_ne _ _ ?_
    by_cases q : 17 * a + 86 = c
    · exact Or.inr (fun q2 => h3 ⟨q.symm, q2.symm⟩)
    · exact Or.inl q
  unfold aK at h ⊢
  rw [e]
  exact ⟨h.1.oth hw (fun q => h1 q.symm), h.2.oth hw (fun q => h2 q.symm)⟩
def kPl (a : Int) (c k : Int) : Prop := (c = 17 * a + 88 ∨ c = 17 * a + 89) ∧ 1 ≤ k
def kOl (a : Int) (c k : Int) : Prop := c = 17 * a + 90 ∨ c = 17 * a + 91
def kSt (a : Int) (c k : Int) : Prop := (c = 17 * a + 86 ∧ (k = 11 ∨ k = 13 ∨ k = 18)) ∨ (17 * a + 97 ≤ c ∧ c ≤ 17 * a + 102 ∧ k = 8)
def kSp (a : Int) (c k : Int) : Prop := 17 * a + 97 ≤ c ∧ c ≤ 17 * a + 102 ∧ k = 11
def kBm (a : Int) (c k : Int) : Prop := (c = 17 * a + 86 ∧ 11 ≤ k ∧ k ≤ 13) ∨ (17 * a + 97 ≤ c ∧ c ≤ 17 * a + 102 ∧ k = 10)
def kGo (a : Int) (c k : Int) : Prop := (c = 17 * a + 86 ∧ k = 12) ∨ (17 * a + 97 ≤ c ∧ c ≤ 17 * a + 102 ∧ (k = 7 ∨ k = 8)) ∨ ((c = 17 * a + 88 ∨ c = 17 * a + 89) ∧ 1 ≤ k)
theorem c_89 {d : Nat} (hd : 21 ≤ d) {w : eW} (hT : e_Has kTy w) {a j v : Int} (ga : 0 ≤ a ∧ a ≤ 3) (gj : 0 ≤ j ∧ j ≤ 5) (gv : -2147483648 ≤ v ∧ v ≤ 2147483647) : e_Ok 20 elay kcode eI d 89 (0, [(0, (1, 17 * a + j + 97)), (1, (0, v))], [], w) (fun r w' => ∃ z : Int, r = [(0, z)] ∧ w = w' ∧ ((z = 1 ∧ w (17 * a + j + 97) 1 ≤ v ∧ v ≤ w (17 * a + j + 97) 2) ∨ (z = 0 ∧ ¬ (w (17 * a + j + 97) 1 ≤ v ∧ v ≤ w (17 * a + j + 97) 2)))) := by
  obtain ⟨d, rfl⟩ : ∃ e, d = e + 1 := ⟨d - 1, by omega⟩
  refine e_Ok.run (t' := (2, [(0, (1, 17 * a + j + 97)), (1, (0, v))], [(1, 17 * a + j + 97), (0, v)], w)) 2 rfl ?_
  have h1 := (e_Has.get hT (c := 17 * a + j + 97) (k := 1) (lo := (-2147483648)) (hi := 2147483647) (kJ_1 (a := a) (j := j) (by omega) (by omega) (by omega)) (by decide))
  refine e_Ok.getf (z := w (17 * a + j + 97) 1) rfl (lJ (a := a) (j := j) (by omega) (by omega) (by omega)) rfl rfl rfl (by omega) ?_
  refine e_Ok.run (t' := (6, [(0, (1, 17 * a + j + 97)), (1, (0, v))], [(1, 17 * a + j + 97), (0, w (17 * a + j + 97) 1), (0, v)], w)) 1 rfl ?_
  have h2 := (e_Has.get hT (c := 17 * a + j + 97) (k := 2) (lo := (-2147483648)) (hi := 2147483647) (kJ_2 (a := a) (j := j) (by omega) (by omega) (by omega)) (by decide))
  refine e_Ok.getf (z := w (17 * a + j + 97) 2) rfl (lJ (a := a) (j := j) (by omega) (by omega) (by omega)) rfl rfl rfl (by omega) ?_
  refine e_Ok.callS rfl (by omega) rfl rfl (c_242 (by omega) (by omega) (by omega)) (fun r3 w4 h5 => ?_)
  obtain ⟨z6, rfl, rfl, q7⟩ := h5
  obtain ⟨rfl, q7⟩ | ⟨rfl, q7⟩ := q7
  · show e_Ok 20 elay kcode eI (d + 1) 89 (12, [(0, (1, 17 * a + j + 97)), (1, (0, v))], [(0, 1)], w) _
    refine e_Ok.rets rfl rfl ?_
    exact ⟨_, rfl, rfl, Or.inl ⟨rfl, by omega, by omega⟩⟩
  · show e_Ok 20 elay kcode eI (d + 1) 89 (12, [(0, (1, 17 * a + j + 97)), (1, (0, v))], [(0, 0)], w) _
    refine e_Ok.rets rfl rfl ?_
    exact ⟨_, rfl, rfl, Or.inr ⟨rfl, by omega⟩⟩
theorem c_92 {d : Nat} {w : eW} (hT : e_Has kTy w) {a j : Int} (ga : 0 ≤ a ∧ a ≤ 3) (gj : 0 ≤ j ∧ j ≤ 5) {g : Int} (hg : 1 ≤ g ∧ g ≤ 2000) (hG : w (17 * a + j + 97) 6 = g) {f : Int} (hf : 0 ≤ f ∧ f ≤ 2000) : e_Ok 20 elay kcode eI d 92 (0, [(0, (1, 17 * a + j + 97)), (1, (0, f))], [], w) (fun r w' => ∃ z : Int, r = [(0, z)] ∧ w = w' ∧ (z = rW g f) ∧ -2147483648 ≤ z ∧ z ≤ 2147483647) := by
  refine e_Ok.run (t' := (1, [(0, (1, 17 * a + j + 97)), (1, (0, f))], [(1, 17 * a + j + 97)], w)) 1 rfl ?_
  refine e_Ok.getf (z := g) rfl (lJ (a := a) (j := j) (by omega) (by omega) (by omega)) rfl rfl hG (by omega) ?_
  refine e_Ok.run (t' := (5, [(0, (1, 17 * a + j + 97)), (1, (0, f))], [(0, 1), (0, g)], w)) 1 rfl ?_
  refine e_Ok.if2 rfl (fun h1 => ?_) (fun h1 => ?_)
  · replace h1 : (g : Int) ≥ 1 := h1
    refine e_Ok.run (t' := (12, [(0, (1, 17 * a + j + 97)), (1, (0, f))], [(1, 17 * a + j + 97), (0, f)], w)) 2 rfl ?_
    refine e_Ok.getf (z := g) rfl (lJ (a := a) (j := j) (by omega) (by omega) (by omega)) rfl rfl hG (by omega) ?_
    refine e_Ok.add (z := f + g) rfl (by omega) (by omega) ?_
    refine e_Ok.run (t' := (17, [(0, (1, 17 * a + j + 97)), (1, (0, f))], [(0, 1), (0, f + g)], w)) 1 rfl ?_
    refine e_Ok.sub' (z := f + g - 1) rfl (by omega) (by omega) ?_
    refine e_Ok.run (t' := (19, [(0, (1, 17 * a + j + 97)), (1, (0, f))], [(1, 17 * a + j + 97), (0, f + g - 1)], w)) 1 rfl ?_
    refine e_Ok.getf (z := g) rfl (lJ (a := a) (j := j) (by omega) (by omega) (by omega)) rfl rfl hG (by omega) ?_
    refine e_Ok.divn (fun z2 hz2 => ?_) rfl (by omega) (by omega)
    replace hz2 : z2 = (f + g - 1) / g := hz2
    have hb := rW_bd (g := g) (d := f) (by omega) (by omega) z2 hz2
    refine e_Ok.run (t' := (26, [(2, (0, z2)), (0, (1, 17 * a + j + 97)), (1, (0, f))], [(0, f), (0, z2)], w)) 3 rfl ?_
    refine e_Ok.mul (z := z2 * f) rfl (by omega) (by omega) ?_
    refine e_Ok.run (t' := (28, [(2, (0, z2)), (0, (1, 17 * a + j + 97)), (1, (0, f))], [(1, 17 * a + j + 97), (0, z2 * f)], w)) 1 rfl ?_
    refine e_Ok.getf (z := g) rfl (lJ (a := a) (j := j) (by omega) (by omega) (by omega)) rfl rfl hG (by omega) ?_
    refine e_Ok.run (t' := (34, [(2, (0, z2)), (0, (1, 17 * a + j + 97)), (1, (0, f))], [(0, 1), (0, z2), (0, z2), (0, g), (0, z2 * f)], w)) 3 rfl ?_
    refine e_Ok.sub' (z := z2 - 1) rfl (by omega) (by omega) ?_
    refine e_Ok.mul (z := z2 * (z2 - 1)) rfl (by omega) (by omega) ?_
    refine e_Ok.run (t' := (37, [(2, (0, z2)), (0, (1, 17 * a + j + 97)), (1, (0, f))], [(0, 2), (0, z2 * (z2 - 1)), (0, g), (0, z2 * f)], w)) 1 rfl ?_
    refine e_Ok.divn (fun z3 hz3 => ?_) rfl (by omega) (by omega)
    replace hz3 : z3 = (z2 * (z2 - 1)) / 2 := hz3
    have z3r : 0 ≤ z3 ∧ z3 ≤ 2000000 := by omega
    have hb2 := hb.2.2.2 z3 hz3
    have hb3 := rW_b3 (g := g) (d := f) (by omega) (by omega) z2 hz2 z3 hz3
    refine e_Ok.mul (z := g * z3) rfl (by omega) (by omega) ?_
    refine e_Ok.sub' (z := z2 * f - g * z3) rfl (by omega) (by omega) ?_
    refine e_Ok.rets rfl rfl ?_
    exact ⟨_, rfl, rfl, by omega, by omega, by omega⟩
  · replace h1 : (g : Int) < 1 := by have q : ¬ ((g : Int) ≥ 1) := h1; omega
    exfalso; omega
theorem c_90 {d : Nat} (hd : 21 ≤ d) {w : eW} (hT : e_Has kTy w) {a j : Int} (ga : 0 ≤ a ∧ a ≤ 3) (gj : 0 ≤ j ∧ j ≤ 5) {g : Int} (hg : 1 ≤ g ∧ g ≤ 2000) (hG : w (17 * a + j + 97) 6 = g) {v s go sp : Int} (hv : -100000 ≤ v ∧ v ≤ 100000) (hgo : -100000 ≤ go ∧ go ≤ 100000) (hsp : 1 ≤ sp ∧ sp ≤ 2000) (hs : -2000 ≤ s ∧ s ≤ 2000) (hV : w (17 * a + j + 97) 7 = v) (hS : w (17 * a + j + 97) 8 = s) (hGo : w (17 * a + j + 97) 9 = go) (hSp : w (17 * a + j + 97) 5 = sp) : e_Ok 20 elay kcode eI d 90 (0, [(0, (1, 17 * a + j + 97))], [], w) (fun r w' => ∃ z : Int, r = [(0, z)] ∧ w = w' ∧ (-2000 ≤ z ∧ z ≤ 2000) ∧ ((0 ≤ z ∧ (z = 0 ∨ rW g z ≤ go - v)) ∨ (z ≤ 0 ∧ (z = 0 ∨ rW g (-z) ≤ v - go)))) := by
  obtain ⟨d, rfl⟩ : ∃ e, d = e + 1 := ⟨d - 1, by omega⟩
  refine e_Ok.run (t' := (1, [(0, (1, 17 * a + j + 97))], [(1, 17 * a + j + 97)], w)) 1 rfl ?_
  refine e_Ok.getf (z := go) rfl (lJ (a := a) (j := j) (by omega) (by omega) (by omega)) rfl rfl hGo (by omega) ?_
  refine e_Ok.run (t' := (5, [(0, (1, 17 * a + j + 97))], [(1, 17 * a + j + 97), (0, go)], w)) 1 rfl ?_
  refine e_Ok.getf (z := v) rfl (lJ (a := a) (j := j) (by omega) (by omega) (by omega)) rfl rfl hV (by omega) ?_
  refine e_Ok.if2 rfl (fun h1 => ?_) (fun h1 => ?_)
  · replace h1 : (go : Int) ≥ v := h1
    refine e_Ok.run (t' := (18, [(1, (0, 1)), (0, (1, 17 * a + j + 97))], [(1, 17 * a + j + 97)], w)) 3 rfl ?_
    refine e_Ok.getf (z := go) rfl (lJ (a := a) (j := j) (by omega) (by omega) (by omega)) rfl rfl hGo (by omega) ?_
    refine e_Ok.run (t' := (22, [(1, (0, 1)), (0, (1, 17 * a + j + 97))], [(1, 17 * a + j + 97), (0, go)], w)) 1 rfl ?_
    refine e_Ok.getf (z := v) rfl (lJ (a := a) (j := j) (by omega) (by omega) (by omega)) rfl rfl hV (by omega) ?_
    refine e_Ok.sub' (z := go - v) rfl (by omega) (by omega) ?_
    refine e_Ok.run (t' := (27, [(1, (0, 1)), (0, (1, 17 * a + j + 97))], [(0, 1), (0, go - v)], w)) 1 rfl ?_
    refine e_Ok.mul (z := go - v) rfl (by omega) (by omega) ?_
    refine e_Ok.run (t' := (29, [(2, (0, go - v)), (1, (0, 1)), (0, (1, 17 * a + j + 97))], [], w)) 1 rfl ?_
    refine e_Ok.run (t' := (33, [(3, (0, 0)), (2, (0, go - v)), (1, (0, 1)), (0, (1, 17 * a + j + 97))], [(1, 17 * a + j + 97), (0, 0)], w)) 4 rfl ?_
    refine e_Ok.getf (z := sp) rfl (lJ (a := a) (j := j) (by omega) (by omega) (by omega)) rfl rfl hSp (by omega) ?_
    refine e_Ok.run (t' := (37, [(3, (0, 0)), (2, (0, go - v)), (1, (0, 1)), (0, (1, 17 * a + j + 97))], [(1, 17 * a + j + 97), (0, sp), (0, 0)], w)) 1 rfl ?_
    refine e_Ok.getf (z := s) rfl (lJ (a := a) (j := j) (by omega) (by omega) (by omega)) rfl rfl hS (by omega) ?_
    refine e_Ok.run (t' := (41, [(3, (0, 0)), (2, (0, go - v)), (1, (0, 1)), (0, (1, 17 * a + j + 97))], [(0, 1), (0, s), (0, sp), (0, 0)], w)) 1 rfl ?_
    refine e_Ok.mul (z := s) rfl (by omega) (by omega) ?_
    refine e_Ok.run (t' := (43, [(3, (0, 0)), (2, (0, go - v)), (1, (0, 1)), (0, (1, 17 * a + j + 97))], [(1, 17 * a + j + 97), (0, s), (0, sp), (0, 0)], w)) 1 rfl ?_
    refine e_Ok.getf (z := g) rfl (lJ (a := a) (j := j) (by omega) (by omega) (by omega)) rfl rfl hG (by omega) ?_
    refine e_Ok.add (z := s + g) rfl (by omega) (by omega) ?_
    refine e_Ok.mmin rfl rfl (fun z2 hz2 => ?_)
    replace hz2 : ((s + g) < sp ∧ z2 = s + g) ∨ (sp ≤ s + g ∧ z2 = sp) := hz2
    refine e_Ok.mmax rfl rfl (fun z3 hz3 => ?_)
    replace hz3 : (0 < z2 ∧ z3 = z2) ∨ (z2 ≤ 0 ∧ z3 = 0) := hz3
    refine e_Ok.run (t' := (58, [(5, (0, 0)), (4, (0, z3)), (3, (0, 0)), (2, (0, go - v)), (1, (0, 1)), (0, (1, 17 * a + j + 97))], [], w)) 3 rfl ?_
    have hL4 : ∀ (nn : Nat) (y3 : Int) (y4 : Int) (y5 : Int), (0 ≤ y3 ∧ y3 ≤ 2000) ∧ (-2147483648 ≤ y4 ∧ y4 ≤ 2000) ∧ (0 ≤ y5 ∧ y5 ≤ 12) ∧ (y3 = 0 ∨ rW g y3 ≤ go - v) → 12 - y5 < nn → e_Ok 20 elay kcode eI (d + 1) 90 (58, [(0, (1, 17 * a + j + 97)), (1, (0, 1)), (2, (0, go - v)), (3, (0, y3)), (4, (0, y4)), (5, (0, y5))], [], w) (fun r w' => ∃ z : Int, r = [(0, z)] ∧ w = w' ∧ (-2000 ≤ z ∧ z ≤ 2000) ∧ ((0 ≤ z ∧ (z = 0 ∨ rW g z ≤ go - v)) ∨ (z ≤ 0 ∧ (z = 0 ∨ rW g (-z) ≤ v - go)))) := by
      intro nn
      induction nn with
      | zero => intro y3 y4 y5 hj hm; obtain ⟨j6, j7, j8, j9⟩ := hj; exfalso; omega
      | succ nn ih5 =>
        intro y3 y4 y5 hj hm
        obtain ⟨j6, j7, j8, j9⟩ := hj
        refine e_Ok.run (t' := (62, [(0, (1, 17 * a + j + 97)), (1, (0, 1)), (2, (0, go - v)), (3, (0, y3)), (4, (0, y4)), (5, (0, y5))], [(0, 12), (0, y5)], w)) 2 rfl ?_
        refine e_Ok.if2 rfl (fun h10 => ?_) (fun h10 => ?_)
        · replace h10 : (y5 : Int) ≥ 12 := h10
          refine e_Ok.run (t' := (111, [(0, (1, 17 * a + j + 97)), (1, (0, 1)), (2, (0, go - v)), (3, (0, y3)), (4, (0, y4)), (5, (0, y5))], [(0, 1), (0, y3)], w)) 2 rfl ?_
          refine e_Ok.mul (z := y3) rfl (by omega) (by omega) ?_
          refine e_Ok.rets rfl rfl ?_
          exact ⟨_, rfl, rfl, by omega, Or.inl ⟨by omega, by omega⟩⟩
        · replace h10 : (y5 : Int) < 12 := by have q : ¬ ((y5 : Int) ≥ 12) := h10; omega
          refine e_Ok.run (t' := (68, [(0, (1, 17 * a + j + 97)), (1, (0, 1)), (2, (0, go - v)), (3, (0, y3)), (4, (0, y4)), (5, (0, y5))], [(0, y4), (0, y3)], w)) 2 rfl ?_
          refine e_Ok.if2 rfl (fun h11 => ?_) (fun h11 => ?_)
          · replace h11 : (y3 : Int) ≥ y4 := h11
            refine e_Ok.run (t' := (111, [(0, (1, 17 * a + j + 97)), (1, (0, 1)), (2, (0, go - v)), (3, (0, y3)), (4, (0, y4)), (5, (0, y5))], [(0, 1), (0, y3)], w)) 2 rfl ?_
            refine e_Ok.mul (z := y3) rfl (by omega) (by omega) ?_
            refine e_Ok.rets rfl rfl ?_
            exact ⟨_, rfl, rfl, by omega, Or.inl ⟨by omega, by omega⟩⟩
          · replace h11 : (y3 : Int) < y4 := by have q : ¬ ((y3 : Int) ≥ y4) := h11; omega
            refine e_Ok.run (t' := (74, [(0, (1, 17 * a + j + 97)), (1, (0, 1)), (2, (0, go - v)), (3, (0, y3)), (4, (0, y4)), (5, (0, y5))], [(0, y4), (0, y3)], w)) 2 rfl ?_
            refine e_Ok.add (z := y3 + y4) rfl (by omega) (by omega) ?_
            refine e_Ok.run (t' := (76, [(0, (1, 17 * a + j + 97)), (1, (0, 1)), (2, (0, go - v)), (3, (0, y3)), (4, (0, y4)), (5, (0, y5))], [(0, 1), (0, y3 + y4)], w)) 1 rfl ?_
            refine e_Ok.add (z := y3 + y4 + 1) rfl (by omega) (by omega) ?_
            refine e_Ok.run (t' := (78, [(0, (1, 17 * a + j + 97)), (1, (0, 1)), (2, (0, go - v)), (3, (0, y3)), (4, (0, y4)), (5, (0, y5))], [(0, 2), (0, y3 + y4 + 1)], w)) 1 rfl ?_
            refine e_Ok.divn (fun z12 hz12 => ?_) rfl (by omega) (by omega)
            replace hz12 : z12 = (y3 + y4 + 1) / 2 := hz12
            have z12r : 1 ≤ z12 ∧ z12 ≤ 2000 := by omega
            refine e_Ok.run (t' := (84, [(6, (0, z12)), (0, (1, 17 * a + j + 97)), (1, (0, 1)), (2, (0, go - v)), (3, (0, y3)), (4, (0, y4)), (5, (0, y5))], [(0, z12), (1, 17 * a + j + 97)], w)) 3 rfl ?_
            refine e_Ok.callV rfl (by omega) rfl (lJ (a := a) (j := j) (by omega) (by omega) (by omega)) rfl rfl (c_92 (a := a) (j := j) hT (by omega) (by omega) (g := g) (by omega) hG (by omega)) (fun r13 w14 h15 => ?_)
            obtain ⟨z16, rfl, rfl, q17, q17r⟩ := h15
            show e_Ok 20 elay kcode eI (d + 1) 90 (87, [(6, (0, z12)), (0, (1, 17 * a + j + 97)), (1, (0, 1)), (2, (0, go - v)), (3, (0, y3)), (4, (0, y4)), (5, (0, y5))], [(0, z16)], w) _
            refine e_Ok.run (t' := (88, [(6, (0, z12)), (0, (1, 17 * a + j + 97)), (1, (0, 1)), (2, (0, go - v)), (3, (0, y3)), (4, (0, y4)), (5, (0, y5))], [(0, go - v), (0, z16)], w)) 1 rfl ?_
            refine e_Ok.if2 rfl (fun h18 => ?_) (fun h18 => ?_)
            · replace h18 : (z16 : Int) > go - v := h18
              refine e_Ok.run (t' := (100, [(6, (0, z12)), (0, (1, 17 * a + j + 97)), (1, (0, 1)), (2, (0, go - v)), (3, (0, y3)), (4, (0, y4)), (5, (0, y5))], [(0, 1), (0, z12)], w)) 2 rfl ?_
              refine e_Ok.sub' (z := z12 - 1) rfl (by omega) (by omega) ?_
              refine e_Ok.run (t' := (103, [(4, (0, z12 - 1)), (6, (0, z12)), (0, (1, 17 * a + j + 97)), (1, (0, 1)), (2, (0, go - v)), (3, (0, y3)), (5, (0, y5))], [], w)) 1 rfl ?_
              refine e_Ok.inc (z := y5 + 1) rfl rfl (by omega) (by omega) ?_
              show e_Ok 20 elay kcode eI (d + 1) 90 (106, [(5, (0, y5 + 1)), (4, (0, z12 - 1)), (6, (0, z12)), (0, (1, 17 * a + j + 97)), (1, (0, 1)), (2, (0, go - v)), (3, (0, y3))], [], w) _
              refine e_Ok.run (t' := (58, [(5, (0, y5 + 1)), (4, (0, z12 - 1)), (6, (0, z12)), (0, (1, 17 * a + j + 97)), (1, (0, 1)), (2, (0, go - v)), (3, (0, y3))], [], w)) 1 rfl ?_
              refine e_Ok.sub kAlk (e_sub_of rfl ?_) (ih5 y3 (z12 - 1) (y5 + 1) ⟨by omega, by omega, by omega, by omega⟩ (by omega))
              exact ⟨rfl, rfl, rfl, rfl, rfl, rfl, trivial⟩
            · replace h18 : (z16 : Int) ≤ go - v := by have q : ¬ ((z16 : Int) > go - v) := h18; omega
              refine e_Ok.run (t' := (103, [(3, (0, z12)), (6, (0, z12)), (0, (1, 17 * a + j + 97)), (1, (0, 1)), (2, (0, go - v)), (4, (0, y4)), (5, (0, y5))], [], w)) 3 rfl ?_
              refine e_Ok.inc (z := y5 + 1) rfl rfl (by omega) (by omega) ?_
              show e_Ok 20 elay kcode eI (d + 1) 90 (106, [(5, (0, y5 + 1)), (3, (0, z12)), (6, (0, z12)), (0, (1, 17 * a + j + 97)), (1, (0, 1)), (2, (0, go - v)), (4, (0, y4))], [], w) _
              refine e_Ok.run (t' := (58, [(5, (0, y5 + 1)), (3, (0, z12)), (6, (0, z12)), (0, (1, 17 * a + j + 97)), (1, (0, 1)), (2, (0, go - v)), (4, (0, y4))], [], w)) 1 rfl ?_
              refine e_Ok.sub kAlk (e_sub_of rfl ?_) (ih5 z12 y4 (y5 + 1) ⟨by omega, by omega, by omega, by omega⟩ (by omega))
              exact ⟨rfl, rfl, rfl, rfl, rfl, rfl, trivial⟩
    refine e_Ok.sub kAlk (e_sub_of rfl ?_) (hL4 (12 + 1 : Int).toNat 0 z3 0 ⟨by omega, by omega, by omega, by omega⟩ (by omega))
    exact ⟨rfl, rfl, rfl, rfl, rfl, rfl, trivial⟩
  · replace h1 : (go : Int) < v := by have q : ¬ ((go : Int) ≥ v) := h1; omega
    refine e_Ok.run (t' := (18, [(1, (0, (-1))), (0, (1, 17 * a + j + 97))], [(1, 17 * a + j + 97)], w)) 4 rfl ?_
    refine e_Ok.getf (z := go) rfl (lJ (a := a) (j := j) (by omega) (by omega) (by omega)) rfl rfl hGo (by omega) ?_
    refine e_Ok.run (t' := (22, [(1, (0, (-1))), (0, (1, 17 * a + j + 97))], [(1, 17 * a + j + 97), (0, go)], w)) 1 rfl ?_
    refine e_Ok.getf (z := v) rfl (lJ (a := a) (j := j) (by omega) (by omega) (by omega)) rfl rfl hV (by omega) ?_
    refine e_Ok.sub' (z := go - v) rfl (by omega) (by omega) ?_
    refine e_Ok.run (t' := (27, [(1, (0, (-1))), (0, (1, 17 * a + j + 97))], [(0, (-1)), (0, go - v)], w)) 1 rfl ?_
    refine e_Ok.mul (z := -go + v) rfl (by omega) (by omega) ?_
    refine e_Ok.run (t' := (29, [(2, (0, -go + v)), (1, (0, (-1))), (0, (1, 17 * a + j + 97))], [], w)) 1 rfl ?_
    refine e_Ok.run (t' := (33, [(3, (0, 0)), (2, (0, -go + v)), (1, (0, (-1))), (0, (1, 17 * a + j + 97))], [(1, 17 * a + j + 97), (0, 0)], w)) 4 rfl ?_
    refine e_Ok.getf (z := sp) rfl (lJ (a := a) (j := j) (by omega) (by omega) (by omega)) rfl rfl hSp (by omega) ?_
    refine e_Ok.run (t' := (37, [(3, (0, 0)), (2, (0, -go + v)), (1, (0, (-1))), (0, (1, 17 * a + j + 97))], [(1, 17 * a + j + 97), (0, sp), (0, 0)], w)) 1 rfl ?_
    refine e_Ok.getf (z := s) rfl (lJ (a := a) (j := j) (by omega) (by omega) (by omega)) rfl rfl hS (by omega) ?_
    refine e_Ok.run (t' := (41, [(3, (0, 0)), (2, (0, -go + v)), (1, (0, (-1))), (0, (1, 17 * a + j + 97))], [(0, (-1)), (0, s), (0, sp), (0, 0)], w)) 1 rfl ?_
    refine e_Ok.mul (z := -s) rfl (by omega) (by omega) ?_
    refine e_Ok.run (t' := (43, [(3, (0, 0)), (2, (0, -go + v)), (1, (0, (-1))), (0, (1, 17 * a + j + 97))], [(1, 17 * a + j + 97), (0, -s), (0, sp), (0, 0)], w)) 1 rfl ?_
    refine e_Ok.getf (z := g) rfl (lJ (a := a) (j := j) (by omega) (by omega) (by omega)) rfl rfl hG (by omega) ?_
    refine e_Ok.add (z := -s + g) rfl (by omega) (by omega) ?_
    refine e_Ok.mmin rfl rfl (fun z19 hz19 => ?_)
    replace hz19 : ((-s + g) < sp ∧ z19 = -s + g) ∨ (sp ≤ -s + g ∧ z19 = sp) := hz19
    refine e_Ok.mmax rfl rfl (fun z20 hz20 => ?_)
    replace hz20 : (0 < z19 ∧ z20 = z19) ∨ (z19 ≤ 0 ∧ z20 = 0) := hz20
    refine e_Ok.run (t' := (58, [(5, (0, 0)), (4, (0, z20)), (3, (0, 0)), (2, (0, -go + v)), (1, (0, (-1))), (0, (1, 17 * a + j + 97))], [], w)) 3 rfl ?_
    have hL21 : ∀ (nn : Nat) (y3 : Int) (y4 : Int) (y5 : Int), (0 ≤ y3 ∧ y3 ≤ 2000) ∧ (-2147483648 ≤ y4 ∧ y4 ≤ 2000) ∧ (0 ≤ y5 ∧ y5 ≤ 12) ∧ (y3 = 0 ∨ rW g y3 ≤ -go + v) → 12 - y5 < nn → e_Ok 20 elay kcode eI (d + 1) 90 (58, [(0, (1, 17 * a + j + 97)), (1, (0, (-1))), (2, (0, -go + v)), (3, (0, y3)), (4, (0, y4)), (5, (0, y5))], [], w) (fun r w' => ∃ z : Int, r = [(0, z)] ∧ w = w' ∧ (-2000 ≤ z ∧ z ≤ 2000) ∧ ((0 ≤ z ∧ (z = 0 ∨ rW g z ≤ go - v)) ∨ (z ≤ 0 ∧ (z = 0 ∨ rW g (-z) ≤ v - go)))) := by
      intro nn
      induction nn with
      | zero => intro y3 y4 y5 hj hm; obtain ⟨j23, j24, j25, j26⟩ := hj; exfalso; omega
      | succ nn ih22 =>
        intro y3 y4 y5 hj hm
        obtain ⟨j23, j24, j25, j26⟩ := hj
        refine e_Ok.run (t' := (62, [(0, (1, 17 * a + j + 97)), (1, (0, (-1))), (2, (0, -go + v)), (3, (0, y3)), (4, (0, y4)), (5, (0, y5))], [(0, 12), (0, y5)], w)) 2 rfl ?_
        refine e_Ok.if2 rfl (fun h27 => ?_) (fun h27 => ?_)
        · replace h27 : (y5 : Int) ≥ 12 := h27
          refine e_Ok.run (t' := (111, [(0, (1, 17 * a + j + 97)), (1, (0, (-1))), (2, (0, -go + v)), (3, (0, y3)), (4, (0, y4)), (5, (0, y5))], [(0, (-1)), (0, y3)], w)) 2 rfl ?_
          refine e_Ok.mul (z := -y3) rfl (by omega) (by omega) ?_
          refine e_Ok.rets rfl rfl ?_
          exact ⟨_, rfl, rfl, by omega, Or.inr ⟨by omega, by rw [show (-(-y3) : Int) = y3 by omega]; omega⟩⟩
        · replace h27 : (y5 : Int) < 12 := by have q : ¬ ((y5 : Int) ≥ 12) := h27; omega
          refine e_Ok.run (t' := (68, [(0, (1, 17 * a + j + 97)), (1, (0, (-1))), (2, (0, -go + v)), (3, (0, y3)), (4, (0, y4)), (5, (0, y5))], [(0, y4), (0, y3)], w)) 2 rfl ?_
          refine e_Ok.if2 rfl (fun h28 => ?_) (fun h28 => ?_)
          · replace h28 : (y3 : Int) ≥ y4 := h28
            refine e_Ok.run (t' := (111, [(0, (1, 17 * a + j + 97)), (1, (0, (-1))), (2, (0, -go + v)), (3, (0, y3)), (4, (0, y4)), (5, (0, y5))], [(0, (-1)), (0, y3)], w)) 2 rfl ?_
            refine e_Ok.mul (z := -y3) rfl (by omega) (by omega) ?_
            refine e_Ok.rets rfl rfl ?_
            exact ⟨_, rfl, rfl, by omega, Or.inr ⟨by omega, by rw [show (-(-y3) : Int) = y3 by omega]; omega⟩⟩
          · replace h28 : (y3 : Int) < y4 := by have q : ¬ ((y3 : Int) ≥ y4) := h28; omega
            refine e_Ok.run (t' := (74, [(0, (1, 17 * a + j + 97)), (1, (0, (-1))), (2, (0, -go + v)), (3, (0, y3)), (4, (0, y4)), (5, (0, y5))], [(0, y4), (0, y3)], w)) 2 rfl ?_
            refine e_Ok.add (z := y3 + y4) rfl (by omega) (by omega) ?_
            refine e_Ok.run (t' := (76, [(0, (1, 17 * a + j + 97)), (1, (0, (-1))), (2, (0, -go + v)), (3, (0, y3)), (4, (0, y4)), (5, (0, y5))], [(0, 1), (0, y3 + y4)], w)) 1 rfl ?_
            refine e_Ok.add (z := y3 + y4 + 1) rfl (by omega) (by omega) ?_
            refine e_Ok.run (t' := (78, [(0, (1, 17 * a + j + 97)), (1, (0, (-1))), (2, (0, -go + v)), (3, (0, y3)), (4, (0, y4)), (5, (0, y5))], [(0, 2), (0, y3 + y4 + 1)], w)) 1 rfl ?_
            refine e_Ok.divn (fun z29 hz29 => ?_) rfl (by omega) (by omega)
            replace hz29 : z29 = (y3 + y4 + 1) / 2 := hz29
            have z29r : 1 ≤ z29 ∧ z29 ≤ 2000 := by omega
            refine e_Ok.run (t' := (84, [(6, (0, z29)), (0, (1, 17 * a + j + 97)), (1, (0, (-1))), (2, (0, -go + v)), (3, (0, y3)), (4, (0, y4)), (5, (0, y5))], [(0, z29), (1, 17 * a + j + 97)], w)) 3 rfl ?_
            refine e_Ok.callV rfl (by omega) rfl (lJ (a := a) (j := j) (by omega) (by omega) (by omega)) rfl rfl (c_92 (a := a) (j := j) hT (by omega) (by omega) (g := g) (by omega) hG (by omega)) (fun r30 w31 h32 => ?_)
            obtain ⟨z33, rfl, rfl, q34, q34r⟩ := h32
            show e_Ok 20 elay kcode eI (d + 1) 90 (87, [(6, (0, z29)), (0, (1, 17 * a + j + 97)), (1, (0, (-1))), (2, (0, -go + v)), (3, (0, y3)), (4, (0, y4)), (5, (0, y5))], [(0, z33)], w) _
            refine e_Ok.run (t' := (88, [(6, (0, z29)), (0, (1, 17 * a + j + 97)), (1, (0, (-1))), (2, (0, -go + v)), (3, (0, y3)), (4, (0, y4)), (5, (0, y5))], [(0, -go + v), (0, z33)], w)) 1 rfl ?_
            refine e_Ok.if2 rfl (fun h35 => ?_) (fun h35 => ?_)
            · replace h35 : (z33 : Int) > -go + v := h35
              refine e_Ok.run (t' := (100, [(6, (0, z29)), (0, (1, 17 * a + j + 97)), (1, (0, (-1))), (2, (0, -go + v)), (3, (0, y3)), (4, (0, y4)), (5, (0, y5))], [(0, 1), (0, z29)], w)) 2 rfl ?_
              refine e_Ok.sub' (z := z29 - 1) rfl (by omega) (by omega) ?_
              refine e_Ok.run (t' := (103, [(4, (0, z29 - 1)), (6, (0, z29)), (0, (1, 17 * a + j + 97)), (1, (0, (-1))), (2, (0, -go + v)), (3, (0, y3)), (5, (0, y5))], [], w)) 1 rfl ?_
              refine e_Ok.inc (z := y5 + 1) rfl rfl (by omega) (by omega) ?_
              show e_Ok 20 elay kcode eI (d + 1) 90 (106, [(5, (0, y5 + 1)), (4, (0, z29 - 1)), (6, (0, z29)), (0, (1, 17 * a + j + 97)), (1, (0, (-1))), (2, (0, -go + v)), (3, (0, y3))], [], w) _
              refine e_Ok.run (t' := (58, [(5, (0, y5 + 1)), (4, (0, z29 - 1)), (6, (0, z29)), (0, (1, 17 * a + j + 97)), (1, (0, (-1))), (2, (0, -go + v)), (3, (0, y3))], [], w)) 1 rfl ?_
              refine e_Ok.sub kAlk (e_sub_of rfl ?_) (ih22 y3 (z29 - 1) (y5 + 1) ⟨by omega, by omega, by omega, by omega⟩ (by omega))
              exact ⟨rfl, rfl, rfl, rfl, rfl, rfl, trivial⟩
            · replace h35 : (z33 : Int) ≤ -go + v := by have q : ¬ ((z33 : Int) > -go + v) := h35; omega
              refine e_Ok.run (t' := (103, [(3, (0, z29)), (6, (0, z29)), (0, (1, 17 * a + j + 97)), (1, (0, (-1))), (2, (0, -go + v)), (4, (0, y4)), (5, (0, y5))], [], w)) 3 rfl ?_
              refine e_Ok.inc (z := y5 + 1) rfl rfl (by omega) (by omega) ?_
              show e_Ok 20 elay kcode eI (d + 1) 90 (106, [(5, (0, y5 + 1)), (3, (0, z29)), (6, (0, z29)), (0, (1, 17 * a + j + 97)), (1, (0, (-1))), (2, (0, -go + v)), (4, (0, y4))], [], w) _
              refine e_Ok.run (t' := (58, [(5, (0, y5 + 1)), (3, (0, z29)), (6, (0, z29)), (0, (1, 17 * a + j + 97)), (1, (0, (-1))), (2, (0, -go + v)), (4, (0, y4))], [], w)) 1 rfl ?_
              refine e_Ok.sub kAlk (e_sub_of rfl ?_) (ih22 z29 y4 (y5 + 1) ⟨by omega, by omega, by omega, by omega⟩ (by omega))
              exact ⟨rfl, rfl, rfl, rfl, rfl, rfl, trivial⟩
    refine e_Ok.sub kAlk (e_sub_of rfl ?_) (hL21 (12 + 1 : Int).toNat 0 z20 0 ⟨by omega, by omega, by omega, by omega⟩ (by omega))
    exact ⟨rfl, rfl, rfl, rfl, rfl, rfl, trivial⟩
theorem c_91 {d : Nat} {w : eW} (hT : e_Has kTy w) {a j : Int} (ga : 0 ≤ a ∧ a ≤ 3) (gj : 0 ≤ j ∧ j ≤ 5) {g : Int} (hg : 1 ≤ g ∧ g ≤ 2000) (hG : w (17 * a + j + 97) 6 = g) {s : Int} (hs : -2000 ≤ s ∧ s ≤ 2000) (hS : w (17 * a + j + 97) 8 = s) : e_Ok 20 elay kcode eI d 91 (0, [(0, (1, 17 * a + j + 97))], [], w) (fun r w' => ∃ z : Int, r = [(0, z)] ∧ w = w' ∧ (-2000 ≤ z ∧ z ≤ 2000) ∧ ((g < s ∧ z = s - g) ∨ (s < -g ∧ z = s + g) ∨ (-g ≤ s ∧ s ≤ g ∧ z = 0))) := by
  refine e_Ok.run (t' := (1, [(0, (1, 17 * a + j + 97))], [(1, 17 * a + j + 97)], w)) 1 rfl ?_
  refine e_Ok.getf (z := s) rfl (lJ (a := a) (j := j) (by omega) (by omega) (by omega)) rfl rfl hS (by omega) ?_
  refine e_Ok.if1 rfl (fun h1 => ?_) (fun h1 => ?_)
  · replace h1 : (s : Int) ≤ 0 := h1
    refine e_Ok.run (t' := (23, [(0, (1, 17 * a + j + 97))], [(1, 17 * a + j + 97), (0, 0)], w)) 2 rfl ?_
    refine e_Ok.getf (z := s) rfl (lJ (a := a) (j := j) (by omega) (by omega) (by omega)) rfl rfl hS (by omega) ?_
    refine e_Ok.run (t' := (27, [(0, (1, 17 * a + j + 97))], [(1, 17 * a + j + 97), (0, s), (0, 0)], w)) 1 rfl ?_
    refine e_Ok.getf (z := g) rfl (lJ (a := a) (j := j) (by omega) (by omega) (by omega)) rfl rfl hG (by omega) ?_
    refine e_Ok.add (z := s + g) rfl (by omega) (by omega) ?_
    refine e_Ok.mmin rfl rfl (fun z2 hz2 => ?_)
    replace hz2 : ((s + g) < 0 ∧ z2 = s + g) ∨ (0 ≤ s + g ∧ z2 = 0) := hz2
    refine e_Ok.rets rfl rfl ?_
    exact ⟨_, rfl, rfl, by omega, by omega⟩
  · replace h1 : (s : Int) > 0 := by have q : ¬ ((s : Int) ≤ 0) := h1; omega
    refine e_Ok.run (t' := (9, [(0, (1, 17 * a + j + 97))], [(1, 17 * a + j + 97), (0, 0)], w)) 2 rfl ?_
    refine e_Ok.getf (z := s) rfl (lJ (a := a) (j := j) (by omega) (by omega) (by omega)) rfl rfl hS (by omega) ?_
    refine e_Ok.run (t' := (13, [(0, (1, 17 * a + j + 97))], [(1, 17 * a + j + 97), (0, s), (0, 0)], w)) 1 rfl ?_
    refine e_Ok.getf (z := g) rfl (lJ (a := a) (j := j) (by omega) (by omega) (by omega)) rfl rfl hG (by omega) ?_
    refine e_Ok.sub' (z := s - g) rfl (by omega) (by omega) ?_
    refine e_Ok.mmax rfl rfl (fun z3 hz3 => ?_)
    replace hz3 : (0 < s - g ∧ z3 = s - g) ∨ ((s - g) ≤ 0 ∧ z3 = 0) := hz3
    refine e_Ok.rets rfl rfl ?_
    exact ⟨_, rfl, rfl, by omega, by omega⟩
theorem c_10 {d : Nat} (hd : 22 ≤ d) {w : eW} (hT : e_Has kTy w) {a : Int} (g_a : 0 ≤ a ∧ a ≤ 3) (hx : kn1 (w (17 * a + 88) 0)) (hy : kn1 (w (17 * a + 89) 0)) : e_Ok 20 elay kcode eI d 10 (0, [(0, (1, 17 * a + 86))], [], w) (fun r w' => r = [] ∧ e_fr (kPl a) w w' ∧ e_Has kTy w' ∧ aK w' a) := by
  obtain ⟨d, rfl⟩ : ∃ e, d = e + 1 := ⟨d - 1, by omega⟩
  have hjn := kn_joints hT (a := a) (by omega)
  have hx0 := hx
  have hy0 := hy
  unfold kn1 at hx hy
  refine e_Ok.run (t' := (1, [(0, (1, 17 * a + 86))], [(1, 17 * a + 86)], w)) 1 rfl ?_
  refine e_Ok.getr (z := 17 * a + 88) rfl (lA0 (a := a) (by omega) (by omega)) rfl rfl (Eq.trans (e_Has.eq hT (kA_1 (a := a) (by omega) (by omega))) (by omega)) (by omega) ?_
  refine e_Ok.run (t' := (5, [(0, (1, 17 * a + 86))], [(0, 0), (1, 17 * a + 88)], w)) 1 rfl ?_
  have h1 := ((fun i g1 g2 => by rw [show i = 0 by omega]; exact hx0 : e_kn w (17 * a + 88) 0 0) 0 (by omega) (by omega))
  refine e_Ok.ald (z := w (17 * a + 88) 0) rfl (lA2 (a := a) (by omega) (by omega)) rfl (by omega) rfl (by omega) ?_
  refine e_Ok.run (t' := (9, [(0, (1, 17 * a + 86))], [(0, 20), (4, w (17 * a + 88) 0)], w)) 2 rfl ?_
  refine e_Ok.anyS rfl ⟨_, rfl⟩ (fun x2 => ?_)
  refine e_Ok.run (t' := (12, [(1, (4, x2)), (0, (1, 17 * a + 86))], [(1, 17 * a + 86)], w)) 2 rfl ?_
  refine e_Ok.getr (z := 17 * a + 89) rfl (lA0 (a := a) (by omega) (by omega)) rfl rfl (Eq.trans (e_Has.eq hT (kA_2 (a := a) (by omega) (by omega))) (by omega)) (by omega) ?_
  refine e_Ok.run (t' := (16, [(1, (4, x2)), (0, (1, 17 * a + 86))], [(0, 0), (1, 17 * a + 89)], w)) 1 rfl ?_
  have h3 := ((fun i g1 g2 => by rw [show i = 0 by omega]; exact hy0 : e_kn w (17 * a + 89) 0 0) 0 (by omega) (by omega))
  refine e_Ok.ald (z := w (17 * a + 89) 0) rfl (lA3 (a := a) (by omega) (by omega)) rfl (by omega) rfl (by omega) ?_
  refine e_Ok.run (t' := (20, [(1, (4, x2)), (0, (1, 17 * a + 86))], [(0, 20), (4, w (17 * a + 89) 0)], w)) 2 rfl ?_
  refine e_Ok.anyS rfl ⟨_, rfl⟩ (fun x4 => ?_)
  refine e_Ok.run (t' := (23, [(3, (4, x4)), (1, (4, x2)), (0, (1, 17 * a + 86))], [(1, 17 * a + 86)], w)) 2 rfl ?_
  have h5 := (e_Has.get hT (c := 17 * a + 86) (k := 9) (lo := (-2147483648)) (hi := 2147483647) (kA_9 (a := a) (by omega) (by omega)) (by decide))
  refine e_Ok.getf (z := w (17 * a + 86) 9) rfl (lA0 (a := a) (by omega) (by omega)) rfl rfl rfl (by omega) ?_
  refine e_Ok.run (t' := (31, [(6, (0, 0)), (5, (0, w (17 * a + 86) 9)), (3, (4, x4)), (1, (4, x2)), (0, (1, 17 * a + 86))], [], w)) 3 rfl ?_
  have hL6 : ∀ (nn : Nat) (y1 : Int) (y3 : Int) (y5 : Int) (y6 : Int) (v1 : eW), e_fr (kPl a) w v1 ∧ e_Has kTy v1 ∧ e_kn v1 (17 * a + 88) 0 y6 ∧ e_kn v1 (17 * a + 89) 0 y6 ∧ y6 ≤ w (17 * a + 86) 8 ∧ ((-2147483648) ≤ y5 ∧ y5 ≤ 2147483647) ∧ (0 ≤ y6 ∧ y6 ≤ 6) → 6 - y6 < nn → e_Ok 20 elay kcode eI (d + 1) 10 (31, [(0, (1, 17 * a + 86)), (1, (4, y1)), (3, (4, y3)), (5, (0, y5)), (6, (0, y6))], [], v1) (fun r w' => r = [] ∧ e_fr (kPl a) w w' ∧ e_Has kTy w' ∧ aK w' a) := by
    intro nn
    induction nn with
    | zero => intro y1 y3 y5 y6 v1 hj hm; obtain ⟨j8, j9, j10, j11, j12, j13, j14⟩ := hj; exfalso; omega
    | succ nn ih7 =>
      intro y1 y3 y5 y6 v1 hj hm
      obtain ⟨j8, j9, j10, j11, j12, j13, j14⟩ := hj
      have l15 : v1 (17 * a + 86) 8 = w (17 * a + 86) 8 := j8 (17 * a + 86) 8 (by unfold kPl; omega)
      refine e_Ok.run (t' := (34, [(0, (1, 17 * a + 86)), (1, (4, y1)), (3, (4, y3)), (5, (0, y5)), (6, (0, y6))], [(1, 17 * a + 86), (0, y6)], v1)) 2 rfl ?_
      have h16 := (e_Has.get hT (c := 17 * a + 86) (k := 8) (lo := 0) (hi := 6) (kA_8 (a := a) (by omega) (by omega)) (by decide))
      refine e_Ok.getf (z := w (17 * a + 86) 8) rfl (lA0 (a := a) (by omega) (by omega)) rfl rfl ((j8 (17 * a + 86) 8 (by unfold kPl; omega)).trans rfl) (by omega) ?_
      refine e_Ok.if2 rfl (fun h17 => ?_) (fun h17 => ?_)
      · replace h17 : (y6 : Int) ≥ w (17 * a + 86) 8 := h17
        refine e_Ok.run (t' := (167, [(0, (1, 17 * a + 86)), (1, (4, y1)), (3, (4, y3)), (5, (0, y5)), (6, (0, y6))], [(1, 17 * a + 86)], v1)) 1 rfl ?_
        refine e_Ok.getr (z := 17 * a + 88) rfl (lA0 (a := a) (by omega) (by omega)) rfl rfl ((j8 (17 * a + 86) 1 (by unfold kPl; omega)).trans (Eq.trans (e_Has.eq hT (kA_1 (a := a) (by omega) (by omega))) (by omega))) (by omega) ?_
        refine e_Ok.run (t' := (171, [(0, (1, 17 * a + 86)), (1, (4, y1)), (3, (4, y3)), (5, (0, y5)), (6, (0, y6))], [(1, 17 * a + 86), (1, 17 * a + 88)], v1)) 1 rfl ?_
        refine e_Ok.getf (z := w (17 * a + 86) 8) rfl (lA0 (a := a) (by omega) (by omega)) rfl rfl ((j8 (17 * a + 86) 8 (by unfold kPl; omega)).trans rfl) (by omega) ?_
        refine e_Ok.run (t' := (175, [(0, (1, 17 * a + 86)), (1, (4, y1)), (3, (4, y3)), (5, (0, y5)), (6, (0, y6))], [(0, 1), (0, w (17 * a + 86) 8), (1, 17 * a + 88)], v1)) 1 rfl ?_
        refine e_Ok.add (z := w (17 * a + 86) 8 + 1) rfl (by omega) (by omega) ?_
        refine e_Ok.run (t' := (177, [(0, (1, 17 * a + 86)), (1, (4, y1)), (3, (4, y3)), (5, (0, y5)), (6, (0, y6))], [(1, 17 * a + 86), (0, w (17 * a + 86) 8 + 1), (1, 17 * a + 88)], v1)) 1 rfl ?_
        refine e_Ok.getr (z := 17 * a + 88) rfl (lA0 (a := a) (by omega) (by omega)) rfl rfl ((j8 (17 * a + 86) 1 (by unfold kPl; omega)).trans (Eq.trans (e_Has.eq hT (kA_1 (a := a) (by omega) (by omega))) (by omega))) (by omega) ?_
        refine e_Ok.run (t' := (181, [(0, (1, 17 * a + 86)), (1, (4, y1)), (3, (4, y3)), (5, (0, y5)), (6, (0, y6))], [(1, 17 * a + 86), (1, 17 * a + 88), (0, w (17 * a + 86) 8 + 1), (1, 17 * a + 88)], v1)) 1 rfl ?_
        refine e_Ok.getf (z := w (17 * a + 86) 8) rfl (lA0 (a := a) (by omega) (by omega)) rfl rfl ((j8 (17 * a + 86) 8 (by unfold kPl; omega)).trans rfl) (by omega) ?_
        have h18 := (j10 (w (17 * a + 86) 8) (by omega) (by omega))
        refine e_Ok.ald (z := v1 (17 * a + 88) (w (17 * a + 86) 8)) rfl (lA2 (a := a) (by omega) (by omega)) rfl (by omega) rfl (by omega) ?_
        refine e_Ok.ast rfl (lA2 (a := a) (by omega) (by omega)) rfl rfl (by omega) ?_
        generalize hw19 : e_up v1 (17 * a + 88) (w (17 * a + 86) 8 + 1) (v1 (17 * a + 88) (w (17 * a + 86) 8)) = w19
        have f20 : e_fr (kPl a) w w19 := e_fr.up j8 hw19 (by unfold kPl; omega)
        have l21 : w19 (17 * a + 86) 8 = w (17 * a + 86) 8 := f20 (17 * a + 86) 8 (by unfold kPl; omega)
        have hT22 : e_Has kTy w19 := e_Has.ups j9 hw19 (kA88 (a := a) _ (by omega) (by omega))
        refine e_Ok.run (t' := (187, [(0, (1, 17 * a + 86)), (1, (4, y1)), (3, (4, y3)), (5, (0, y5)), (6, (0, y6))], [(1, 17 * a + 86)], w19)) 1 rfl ?_
        refine e_Ok.getr (z := 17 * a + 89) rfl (lA0 (a := a) (by omega) (by omega)) rfl rfl (by rw [← hw19]; exact (e_up_ne _ _ (Or.inl (by omega))).trans ((j8 (17 * a + 86) 2 (by unfold kPl; omega)).trans (Eq.trans (e_Has.eq hT (kA_2 (a := a) (by omega) (by omega))) (by omega)))) (by omega) ?_
        refine e_Ok.run (t' := (191, [(0, (1, 17 * a + 86)), (1, (4, y1)), (3, (4, y3)), (5, (0, y5)), (6, (0, y6))], [(1, 17 * a + 86), (1, 17 * a + 89)], w19)) 1 rfl ?_
        refine e_Ok.getf (z := w (17 * a + 86) 8) rfl (lA0 (a := a) (by omega) (by omega)) rfl rfl (by rw [← hw19]; exact (e_up_ne _ _ (Or.inl (by omega))).trans ((j8 (17 * a + 86) 8 (by unfold kPl; omega)).trans rfl)) (by omega) ?_
        refine e_Ok.run (t' := (195, [(0, (1, 17 * a + 86)), (1, (4, y1)), (3, (4, y3)), (5, (0, y5)), (6, (0, y6))], [(0, 1), (0, w (17 * a + 86) 8), (1, 17 * a + 89)], w19)) 1 rfl ?_
        refine e_Ok.add (z := w (17 * a + 86) 8 + 1) rfl (by omega) (by omega) ?_
        refine e_Ok.run (t' := (197, [(0, (1, 17 * a + 86)), (1, (4, y1)), (3, (4, y3)), (5, (0, y5)), (6, (0, y6))], [(1, 17 * a + 86), (0, w (17 * a + 86) 8 + 1), (1, 17 * a + 89)], w19)) 1 rfl ?_
        refine e_Ok.getr (z := 17 * a + 89) rfl (lA0 (a := a) (by omega) (by omega)) rfl rfl (by rw [← hw19]; exact (e_up_ne _ _ (Or.inl (by omega))).trans ((j8 (17 * a + 86) 2 (by unfold kPl; omega)).trans (Eq.trans (e_Has.eq hT (kA_2 (a := a) (by omega) (by omega))) (by omega)))) (by omega) ?_
        refine e_Ok.run (t' := (201, [(0, (1, 17 * a + 86)), (1, (4, y1)), (3, (4, y3)), (5, (0, y5)), (6, (0, y6))], [(1, 17 * a + 86), (1, 17 * a + 89), (0, w (17 * a + 86) 8 + 1), (1, 17 * a + 89)], w19)) 1 rfl ?_
        refine e_Ok.getf (z := w (17 * a + 86) 8) rfl (lA0 (a := a) (by omega) (by omega)) rfl rfl (by rw [← hw19]; exact (e_up_ne _ _ (Or.inl (by omega))).trans ((j8 (17 * a + 86) 8 (by unfold kPl; omega)).trans rfl)) (by omega) ?_
        have h23 := (j11 (w (17 * a + 86) 8) (by omega) (by omega))
        refine e_Ok.ald (z := v1 (17 * a + 89) (w (17 * a + 86) 8)) rfl (lA3 (a := a) (by omega) (by omega)) rfl (by omega) (by rw [← hw19]; exact (e_up_ne _ _ (Or.inl (by omega))).trans rfl) (by omega) ?_
        refine e_Ok.ast rfl (lA3 (a := a) (by omega) (by omega)) rfl rfl (by omega) ?_
        generalize hw24 : e_up w19 (17 * a + 89) (w (17 * a + 86) 8 + 1) (v1 (17 * a + 89) (w (17 * a + 86) 8)) = w24
        have f25 : e_fr (kPl a) w w24 := e_fr.up f20 hw24 (by unfold kPl; omega)
        have l26 : w24 (17 * a + 86) 8 = w (17 * a + 86) 8 := f25 (17 * a + 86) 8 (by unfold kPl; omega)
        have hT27 : e_Has kTy w24 := e_Has.ups hT22 hw24 (kA89 (a := a) _ (by omega) (by omega))
        refine e_Ok.rets rfl rfl ?_
        exact ⟨rfl, f25, hT27, (by unfold aK; rw [(show w24 (17 * a + 86) 8 = w (17 * a + 86) 8 from f25 _ _ (by unfold kPl; omega))]; exact ⟨e_kn_sub (e_kn.oth (e_kn.ext (e_kn_sub (a' := 0) (b' := y6) j10 (by omega) (by omega)) hw19 (by omega) (by omega)) hw24 (by omega)) (by omega) (by omega), e_kn_sub (e_kn.ext (e_kn.oth (e_kn_sub (a' := 0) (b' := y6) j11 (by omega) (by omega)) hw19 (by omega)) hw24 (by omega) (by omega)) (by omega) (by omega)⟩)⟩
      · replace h17 : (y6 : Int) < w (17 * a + 86) 8 := by have q : ¬ ((y6 : Int) ≥ w (17 * a + 86) 8) := h17; omega
        refine e_Ok.run (t' := (41, [(0, (1, 17 * a + 86)), (1, (4, y1)), (3, (4, y3)), (5, (0, y5)), (6, (0, y6))], [(1, 17 * a + 86)], v1)) 1 rfl ?_
        refine e_Ok.getr (z := 17 * a + 87) rfl (lA0 (a := a) (by omega) (by omega)) rfl rfl ((j8 (17 * a + 86) 0 (by unfold kPl; omega)).trans (Eq.trans (e_Has.eq hT (kA_0 (a := a) (by omega) (by omega))) (by omega))) (by omega) ?_
        refine e_Ok.run (t' := (46, [(0, (1, 17 * a + 86)), (1, (4, y1)), (3, (4, y3)), (5, (0, y5)), (6, (0, y6))], [(0, y6), (1, 17 * a + 87)], v1)) 1 rfl ?_
        refine e_Ok.aald (z := 17 * a + y6 + 97) rfl (lA1 (a := a) (by omega) (by omega)) rfl (by omega) ((j8 (17 * a + 87) y6 (by unfold kPl; omega)).trans (Eq.trans (e_Has.eq hT (kA87 (a := a) (by omega) (by omega) (by omega))) (by omega))) (by omega) ?_
        have h28 := (e_Has.get hT (c := 17 * a + y6 + 97) (k := 3) (lo := (-2147483648)) (hi := 2147483647) (kJ_3 (a := a) (j := y6) (by omega) (by omega) (by omega)) (by decide))
        refine e_Ok.getf (z := w (17 * a + y6 + 97) 3) rfl (lJ (a := a) (j := y6) (by omega) (by omega) (by omega)) rfl rfl ((j8 (17 * a + y6 + 97) 3 (by unfold kPl; omega)).trans rfl) (by omega) ?_
        refine e_Ok.run (t' := (53, [(7, (0, w (17 * a + y6 + 97) 3)), (0, (1, 17 * a + 86)), (1, (4, y1)), (3, (4, y3)), (5, (0, y5)), (6, (0, y6))], [(1, 17 * a + 86)], v1)) 2 rfl ?_
        refine e_Ok.getr (z := 17 * a + 87) rfl (lA0 (a := a) (by omega) (by omega)) rfl rfl ((j8 (17 * a + 86) 0 (by unfold kPl; omega)).trans (Eq.trans (e_Has.eq hT (kA_0 (a := a) (by omega) (by omega))) (by omega))) (by omega) ?_
        refine e_Ok.run (t' := (58, [(7, (0, w (17 * a + y6 + 97) 3)), (0, (1, 17 * a + 86)), (1, (4, y1)), (3, (4, y3)), (5, (0, y5)), (6, (0, y6))], [(0, y6), (1, 17 * a + 87)], v1)) 1 rfl ?_
        refine e_Ok.aald (z := 17 * a + y6 + 97) rfl (lA1 (a := a) (by omega) (by omega)) rfl (by omega) ((j8 (17 * a + 87) y6 (by unfold kPl; omega)).trans (Eq.trans (e_Has.eq hT (kA87 (a := a) (by omega) (by omega) (by omega))) (by omega))) (by omega) ?_
        have h29 := (e_Has.get hT (c := 17 * a + y6 + 97) (k := 0) (lo := (-2147483648)) (hi := 2147483647) (kJ_0 (a := a) (j := y6) (by omega) (by omega) (by omega)) (by decide))
        refine e_Ok.getf (z := w (17 * a + y6 + 97) 0) rfl (lJ (a := a) (j := y6) (by omega) (by omega) (by omega)) rfl rfl ((j8 (17 * a + y6 + 97) 0 (by unfold kPl; omega)).trans rfl) (by omega) ?_
        refine e_Ok.if1 rfl (fun h30 => ?_) (fun h30 => ?_)
        · replace h30 : (w (17 * a + y6 + 97) 0 : Int) ≠ 0 := h30
          refine e_Ok.run (t' := (86, [(7, (0, w (17 * a + y6 + 97) 3)), (0, (1, 17 * a + 86)), (1, (4, y1)), (3, (4, y3)), (5, (0, y5)), (6, (0, y6))], [(1, 17 * a + 86), (0, w (17 * a + y6 + 97) 3)], v1)) 2 rfl ?_
          refine e_Ok.getr (z := 17 * a + 87) rfl (lA0 (a := a) (by omega) (by omega)) rfl rfl ((j8 (17 * a + 86) 0 (by unfold kPl; omega)).trans (Eq.trans (e_Has.eq hT (kA_0 (a := a) (by omega) (by omega))) (by omega))) (by omega) ?_
          refine e_Ok.run (t' := (91, [(7, (0, w (17 * a + y6 + 97) 3)), (0, (1, 17 * a + 86)), (1, (4, y1)), (3, (4, y3)), (5, (0, y5)), (6, (0, y6))], [(0, y6), (1, 17 * a + 87), (0, w (17 * a + y6 + 97) 3)], v1)) 1 rfl ?_
          refine e_Ok.aald (z := 17 * a + y6 + 97) rfl (lA1 (a := a) (by omega) (by omega)) rfl (by omega) ((j8 (17 * a + 87) y6 (by unfold kPl; omega)).trans (Eq.trans (e_Has.eq hT (kA87 (a := a) (by omega) (by omega) (by omega))) (by omega))) (by omega) ?_
          have h31 := (e_Has.get hT (c := 17 * a + y6 + 97) (k := 7) (lo := (-2147483648)) (hi := 2147483647) (kJ_7 (a := a) (j := y6) (by omega) (by omega) (by omega)) (by decide))
          refine e_Ok.getf (z := w (17 * a + y6 + 97) 7) rfl (lJ (a := a) (j := y6) (by omega) (by omega) (by omega)) rfl rfl ((j8 (17 * a + y6 + 97) 7 (by unfold kPl; omega)).trans rfl) (by omega) ?_
          refine e_Ok.any rfl (eF_add_any _ _) (fun z32 z32a z32b => ?_)
          refine e_Ok.run (t' := (104, [(7, (0, z32)), (0, (1, 17 * a + 86)), (1, (4, y1)), (3, (4, y3)), (5, (0, y5)), (6, (0, y6))], [(0, y5), (4, z32), (4, y1)], v1)) 5 rfl ?_
          refine e_Ok.callS rfl (by omega) rfl rfl (c_250 (by omega) (by omega)) (fun r33 w34 h35 => ?_)
          obtain ⟨z37, rfl, rfl, q36r⟩ := h35
          show e_Ok 20 elay kcode eI (d + 1) 10 (107, [(7, (0, z32)), (0, (1, 17 * a + 86)), (1, (4, y1)), (3, (4, y3)), (5, (0, y5)), (6, (0, y6))], [(0, z37), (4, z32), (4, y1)], v1) _
          refine e_Ok.run (t' := (108, [(7, (0, z32)), (0, (1, 17 * a + 86)), (1, (4, y1)), (3, (4, y3)), (5, (0, y5)), (6, (0, y6))], [(4, z37), (4, z32), (4, y1)], v1)) 1 rfl ?_
          refine e_Ok.anyL rfl ⟨_, rfl⟩ (fun x38 => ?_)
          refine e_Ok.anyL rfl ⟨_, rfl⟩ (fun x40 => ?_)
          refine e_Ok.run (t' := (117, [(1, (4, x40)), (7, (0, z32)), (0, (1, 17 * a + 86)), (3, (4, y3)), (5, (0, y5)), (6, (0, y6))], [(0, y5), (4, z32), (4, y3)], v1)) 5 rfl ?_
          refine e_Ok.callS rfl (by omega) rfl rfl (c_249 (by omega)) (fun r41 w42 h43 => ?_)
          obtain ⟨z45, rfl, rfl, q44r⟩ := h43
          show e_Ok 20 elay kcode eI (d + 1) 10 (120, [(1, (4, x40)), (7, (0, z32)), (0, (1, 17 * a + 86)), (3, (4, y3)), (5, (0, y5)), (6, (0, y6))], [(0, z45), (4, z32), (4, y3)], v1) _
          refine e_Ok.run (t' := (121, [(1, (4, x40)), (7, (0, z32)), (0, (1, 17 * a + 86)), (3, (4, y3)), (5, (0, y5)), (6, (0, y6))], [(4, z45), (4, z32), (4, y3)], v1)) 1 rfl ?_
          refine e_Ok.anyL rfl ⟨_, rfl⟩ (fun x46 => ?_)
          refine e_Ok.anyL rfl ⟨_, rfl⟩ (fun x47 => ?_)
          refine e_Ok.run (t' := (125, [(3, (4, x47)), (1, (4, x40)), (7, (0, z32)), (0, (1, 17 * a + 86)), (5, (0, y5)), (6, (0, y6))], [(1, 17 * a + 86)], v1)) 2 rfl ?_
          refine e_Ok.getr (z := 17 * a + 88) rfl (lA0 (a := a) (by omega) (by omega)) rfl rfl ((j8 (17 * a + 86) 1 (by unfold kPl; omega)).trans (Eq.trans (e_Has.eq hT (kA_1 (a := a) (by omega) (by omega))) (by omega))) (by omega) ?_
          refine e_Ok.run (t' := (131, [(3, (4, x47)), (1, (4, x40)), (7, (0, z32)), (0, (1, 17 * a + 86)), (5, (0, y5)), (6, (0, y6))], [(0, 1), (0, y6), (1, 17 * a + 88)], v1)) 2 rfl ?_
          refine e_Ok.add (z := y6 + 1) rfl (by omega) (by omega) ?_
          refine e_Ok.run (t' := (136, [(3, (4, x47)), (1, (4, x40)), (7, (0, z32)), (0, (1, 17 * a + 86)), (5, (0, y5)), (6, (0, y6))], [(4, 524288), (4, x40), (0, y6 + 1), (1, 17 * a + 88)], v1)) 2 rfl ?_
          refine e_Ok.anyL rfl ⟨_, rfl⟩ (fun x48 => ?_)
          refine e_Ok.run (t' := (139, [(3, (4, x47)), (1, (4, x40)), (7, (0, z32)), (0, (1, 17 * a + 86)), (5, (0, y5)), (6, (0, y6))], [(0, 20), (4, x48), (0, y6 + 1), (1, 17 * a + 88)], v1)) 1 rfl ?_
          refine e_Ok.anyS rfl ⟨_, rfl⟩ (fun x49 => ?_)
          refine e_Ok.l2i rfl (fun z50 z50a z50b => ?_)
          refine e_Ok.ast rfl (lA2 (a := a) (by omega) (by omega)) rfl rfl (by omega) ?_
          generalize hw51 : e_up v1 (17 * a + 88) (y6 + 1) z50 = w51
          have f52 : e_fr (kPl a) w w51 := e_fr.up j8 hw51 (by unfold kPl; omega)
          have l53 : w51 (17 * a + 86) 8 = w (17 * a + 86) 8 := f52 (17 * a + 86) 8 (by unfold kPl; omega)
          have hT54 : e_Has kTy w51 := e_Has.ups j9 hw51 (kA88 (a := a) _ (by omega) (by omega))
          refine e_Ok.run (t' := (143, [(3, (4, x47)), (1, (4, x40)), (7, (0, z32)), (0, (1, 17 * a + 86)), (5, (0, y5)), (6, (0, y6))], [(1, 17 * a + 86)], w51)) 1 rfl ?_
          refine e_Ok.getr (z := 17 * a + 89) rfl (lA0 (a := a) (by omega) (by omega)) rfl rfl (by rw [← hw51]; exact (e_up_ne _ _ (Or.inl (by omega))).trans ((j8 (17 * a + 86) 2 (by unfold kPl; omega)).trans (Eq.trans (e_Has.eq hT (kA_2 (a := a) (by omega) (by omega))) (by omega)))) (by omega) ?_
          refine e_Ok.run (t' := (149, [(3, (4, x47)), (1, (4, x40)), (7, (0, z32)), (0, (1, 17 * a + 86)), (5, (0, y5)), (6, (0, y6))], [(0, 1), (0, y6), (1, 17 * a + 89)], w51)) 2 rfl ?_
          refine e_Ok.add (z := y6 + 1) rfl (by omega) (by omega) ?_
          refine e_Ok.run (t' := (154, [(3, (4, x47)), (1, (4, x40)), (7, (0, z32)), (0, (1, 17 * a + 86)), (5, (0, y5)), (6, (0, y6))], [(4, 524288), (4, x47), (0, y6 + 1), (1, 17 * a + 89)], w51)) 2 rfl ?_
          refine e_Ok.anyL rfl ⟨_, rfl⟩ (fun x55 => ?_)
          refine e_Ok.run (t' := (157, [(3, (4, x47)), (1, (4, x40)), (7, (0, z32)), (0, (1, 17 * a + 86)), (5, (0, y5)), (6, (0, y6))], [(0, 20), (4, x55), (0, y6 + 1), (1, 17 * a + 89)], w51)) 1 rfl ?_
          refine e_Ok.anyS rfl ⟨_, rfl⟩ (fun x56 => ?_)
          refine e_Ok.l2i rfl (fun z57 z57a z57b => ?_)
          refine e_Ok.ast rfl (lA3 (a := a) (by omega) (by omega)) rfl rfl (by omega) ?_
          generalize hw58 : e_up w51 (17 * a + 89) (y6 + 1) z57 = w58
          have f59 : e_fr (kPl a) w w58 := e_fr.up f52 hw58 (by unfold kPl; omega)
          have l60 : w58 (17 * a + 86) 8 = w (17 * a + 86) 8 := f59 (17 * a + 86) 8 (by unfold kPl; omega)
          have hT61 : e_Has kTy w58 := e_Has.ups hT54 hw58 (kA89 (a := a) _ (by omega) (by omega))
          refine e_Ok.inc (z := y6 + 1) rfl rfl (by omega) (by omega) ?_
          show e_Ok 20 elay kcode eI (d + 1) 10 (163, [(6, (0, y6 + 1)), (3, (4, x47)), (1, (4, x40)), (7, (0, z32)), (0, (1, 17 * a + 86)), (5, (0, y5))], [], w58) _
          refine e_Ok.run (t' := (31, [(6, (0, y6 + 1)), (3, (4, x47)), (1, (4, x40)), (7, (0, z32)), (0, (1, 17 * a + 86)), (5, (0, y5))], [], w58)) 1 rfl ?_
          refine e_Ok.sub kAlk (e_sub_of rfl ?_) (ih7 x40 x47 y5 (y6 + 1) w58 ⟨f59, hT61, (e_kn_sub (e_kn.oth (e_kn.ext j10 hw51 (by omega) (by omega)) hw58 (by omega)) (by omega) (by omega)), (e_kn_sub (e_kn.ext (e_kn.oth j11 hw51 (by omega)) hw58 (by omega) (by omega)) (by omega) (by omega)), by omega, by omega, by omega⟩ (by omega))
          exact ⟨rfl, rfl, rfl, rfl, rfl, trivial⟩
        · replace h30 : (w (17 * a + y6 + 97) 0 : Int) = 0 := by have q : ¬ ((w (17 * a + y6 + 97) 0 : Int) ≠ 0) := h30; omega
          refine e_Ok.run (t' := (68, [(7, (0, w (17 * a + y6 + 97) 3)), (0, (1, 17 * a + 86)), (1, (4, y1)), (3, (4, y3)), (5, (0, y5)), (6, (0, y6))], [(1, 17 * a + 86), (0, y5)], v1)) 2 rfl ?_
          refine e_Ok.getr (z := 17 * a + 87) rfl (lA0 (a := a) (by omega) (by omega)) rfl rfl ((j8 (17 * a + 86) 0 (by unfold kPl; omega)).trans (Eq.trans (e_Has.eq hT (kA_0 (a := a) (by omega) (by omega))) (by omega))) (by omega) ?_
          refine e_Ok.run (t' := (73, [(7, (0, w (17 * a + y6 + 97) 3)), (0, (1, 17 * a + 86)), (1, (4, y1)), (3, (4, y3)), (5, (0, y5)), (6, (0, y6))], [(0, y6), (1, 17 * a + 87), (0, y5)], v1)) 1 rfl ?_
          refine e_Ok.aald (z := 17 * a + y6 + 97) rfl (lA1 (a := a) (by omega) (by omega)) rfl (by omega) ((j8 (17 * a + 87) y6 (by unfold kPl; omega)).trans (Eq.trans (e_Has.eq hT (kA87 (a := a) (by omega) (by omega) (by omega))) (by omega))) (by omega) ?_
          have h62 := (e_Has.get hT (c := 17 * a + y6 + 97) (k := 7) (lo := (-2147483648)) (hi := 2147483647) (kJ_7 (a := a) (j := y6) (by omega) (by omega) (by omega)) (by decide))
          refine e_Ok.getf (z := w (17 * a + y6 + 97) 7) rfl (lJ (a := a) (j := y6) (by omega) (by omega) (by omega)) rfl rfl ((j8 (17 * a + y6 + 97) 7 (by unfold kPl; omega)).trans rfl) (by omega) ?_
          refine e_Ok.any rfl (eF_add_any _ _) (fun z63 z63a z63b => ?_)
          refine e_Ok.run (t' := (104, [(5, (0, z63)), (7, (0, w (17 * a + y6 + 97) 3)), (0, (1, 17 * a + 86)), (1, (4, y1)), (3, (4, y3)), (6, (0, y6))], [(0, z63), (4, w (17 * a + y6 + 97) 3), (4, y1)], v1)) 6 rfl ?_
          refine e_Ok.callS rfl (by omega) rfl rfl (c_250 (by omega) (by omega)) (fun r64 w65 h66 => ?_)
          obtain ⟨z68, rfl, rfl, q67r⟩ := h66
          show e_Ok 20 elay kcode eI (d + 1) 10 (107, [(5, (0, z63)), (7, (0, w (17 * a + y6 + 97) 3)), (0, (1, 17 * a + 86)), (1, (4, y1)), (3, (4, y3)), (6, (0, y6))], [(0, z68), (4, w (17 * a + y6 + 97) 3), (4, y1)], v1) _
          refine e_Ok.run (t' := (108, [(5, (0, z63)), (7, (0, w (17 * a + y6 + 97) 3)), (0, (1, 17 * a + 86)), (1, (4, y1)), (3, (4, y3)), (6, (0, y6))], [(4, z68), (4, w (17 * a + y6 + 97) 3), (4, y1)], v1)) 1 rfl ?_
          refine e_Ok.anyL rfl ⟨_, rfl⟩ (fun x69 => ?_)
          refine e_Ok.anyL rfl ⟨_, rfl⟩ (fun x70 => ?_)
          refine e_Ok.run (t' := (117, [(1, (4, x70)), (5, (0, z63)), (7, (0, w (17 * a + y6 + 97) 3)), (0, (1, 17 * a + 86)), (3, (4, y3)), (6, (0, y6))], [(0, z63), (4, w (17 * a + y6 + 97) 3), (4, y3)], v1)) 5 rfl ?_
          refine e_Ok.callS rfl (by omega) rfl rfl (c_249 (by omega)) (fun r71 w72 h73 => ?_)
          obtain ⟨z75, rfl, rfl, q74r⟩ := h73
          show e_Ok 20 elay kcode eI (d + 1) 10 (120, [(1, (4, x70)), (5, (0, z63)), (7, (0, w (17 * a + y6 + 97) 3)), (0, (1, 17 * a + 86)), (3, (4, y3)), (6, (0, y6))], [(0, z75), (4, w (17 * a + y6 + 97) 3), (4, y3)], v1) _
          refine e_Ok.run (t' := (121, [(1, (4, x70)), (5, (0, z63)), (7, (0, w (17 * a + y6 + 97) 3)), (0, (1, 17 * a + 86)), (3, (4, y3)), (6, (0, y6))], [(4, z75), (4, w (17 * a + y6 + 97) 3), (4, y3)], v1)) 1 rfl ?_
          refine e_Ok.anyL rfl ⟨_, rfl⟩ (fun x76 => ?_)
          refine e_Ok.anyL rfl ⟨_, rfl⟩ (fun x77 => ?_)
          refine e_Ok.run (t' := (125, [(3, (4, x77)), (1, (4, x70)), (5, (0, z63)), (7, (0, w (17 * a + y6 + 97) 3)), (0, (1, 17 * a + 86)), (6, (0, y6))], [(1, 17 * a + 86)], v1)) 2 rfl ?_
          refine e_Ok.getr (z := 17 * a + 88) rfl (lA0 (a := a) (by omega) (by omega)) rfl rfl ((j8 (17 * a + 86) 1 (by unfold kPl; omega)).trans (Eq.trans (e_Has.eq hT (kA_1 (a := a) (by omega) (by omega))) (by omega))) (by omega) ?_
          refine e_Ok.run (t' := (131, [(3, (4, x77)), (1, (4, x70)), (5, (0, z63)), (7, (0, w (17 * a + y6 + 97) 3)), (0, (1, 17 * a + 86)), (6, (0, y6))], [(0, 1), (0, y6), (1, 17 * a + 88)], v1)) 2 rfl ?_
          refine e_Ok.add (z := y6 + 1) rfl (by omega) (by omega) ?_
          refine e_Ok.run (t' := (136, [(3, (4, x77)), (1, (4, x70)), (5, (0, z63)), (7, (0, w (17 * a + y6 + 97) 3)), (0, (1, 17 * a + 86)), (6, (0, y6))], [(4, 524288), (4, x70), (0, y6 + 1), (1, 17 * a + 88)], v1)) 2 rfl ?_
          refine e_Ok.anyL rfl ⟨_, rfl⟩ (fun x78 => ?_)
          refine e_Ok.run (t' := (139, [(3, (4, x77)), (1, (4, x70)), (5, (0, z63)), (7, (0, w (17 * a + y6 + 97) 3)), (0, (1, 17 * a + 86)), (6, (0, y6))], [(0, 20), (4, x78), (0, y6 + 1), (1, 17 * a + 88)], v1)) 1 rfl ?_
          refine e_Ok.anyS rfl ⟨_, rfl⟩ (fun x79 => ?_)
          refine e_Ok.l2i rfl (fun z80 z80a z80b => ?_)
          refine e_Ok.ast rfl (lA2 (a := a) (by omega) (by omega)) rfl rfl (by omega) ?_
          generalize hw81 : e_up v1 (17 * a + 88) (y6 + 1) z80 = w81
          have f82 : e_fr (kPl a) w w81 := e_fr.up j8 hw81 (by unfold kPl; omega)
          have l83 : w81 (17 * a + 86) 8 = w (17 * a + 86) 8 := f82 (17 * a + 86) 8 (by unfold kPl; omega)
          have hT84 : e_Has kTy w81 := e_Has.ups j9 hw81 (kA88 (a := a) _ (by omega) (by omega))
          refine e_Ok.run (t' := (143, [(3, (4, x77)), (1, (4, x70)), (5, (0, z63)), (7, (0, w (17 * a + y6 + 97) 3)), (0, (1, 17 * a + 86)), (6, (0, y6))], [(1, 17 * a + 86)], w81)) 1 rfl ?_
          refine e_Ok.getr (z := 17 * a + 89) rfl (lA0 (a := a) (by omega) (by omega)) rfl rfl (by rw [← hw81]; exact (e_up_ne _ _ (Or.inl (by omega))).trans ((j8 (17 * a + 86) 2 (by unfold kPl; omega)).trans (Eq.trans (e_Has.eq hT (kA_2 (a := a) (by omega) (by omega))) (by omega)))) (by omega) ?_
          refine e_Ok.run (t' := (149, [(3, (4, x77)), (1, (4, x70)), (5, (0, z63)), (7, (0, w (17 * a + y6 + 97) 3)), (0, (1, 17 * a + 86)), (6, (0, y6))], [(0, 1), (0, y6), (1, 17 * a + 89)], w81)) 2 rfl ?_
          refine e_Ok.add (z := y6 + 1) rfl (by omega) (by omega) ?_
          refine e_Ok.run (t' := (154, [(3, (4, x77)), (1, (4, x70)), (5, (0, z63)), (7, (0, w (17 * a + y6 + 97) 3)), (0, (1, 17 * a + 86)), (6, (0, y6))], [(4, 524288), (4, x77), (0, y6 + 1), (1, 17 * a + 89)], w81)) 2 rfl ?_
          refine e_Ok.anyL rfl ⟨_, rfl⟩ (fun x85 => ?_)
          refine e_Ok.run (t' := (157, [(3, (4, x77)), (1, (4, x70)), (5, (0, z63)), (7, (0, w (17 * a + y6 + 97) 3)), (0, (1, 17 * a + 86)), (6, (0, y6))], [(0, 20), (4, x85), (0, y6 + 1), (1, 17 * a + 89)], w81)) 1 rfl ?_
          refine e_Ok.anyS rfl ⟨_, rfl⟩ (fun x86 => ?_)
          refine e_Ok.l2i rfl (fun z87 z87a z87b => ?_)
          refine e_Ok.ast rfl (lA3 (a := a) (by omega) (by omega)) rfl rfl (by omega) ?_
          generalize hw88 : e_up w81 (17 * a + 89) (y6 + 1) z87 = w88
          have f89 : e_fr (kPl a) w w88 := e_fr.up f82 hw88 (by unfold kPl; omega)
          have l90 : w88 (17 * a + 86) 8 = w (17 * a + 86) 8 := f89 (17 * a + 86) 8 (by unfold kPl; omega)
          have hT91 : e_Has kTy w88 := e_Has.ups hT84 hw88 (kA89 (a := a) _ (by omega) (by omega))
          refine e_Ok.inc (z := y6 + 1) rfl rfl (by omega) (by omega) ?_
          show e_Ok 20 elay kcode eI (d + 1) 10 (163, [(6, (0, y6 + 1)), (3, (4, x77)), (1, (4, x70)), (5, (0, z63)), (7, (0, w (17 * a + y6 + 97) 3)), (0, (1, 17 * a + 86))], [], w88) _
          refine e_Ok.run (t' := (31, [(6, (0, y6 + 1)), (3, (4, x77)), (1, (4, x70)), (5, (0, z63)), (7, (0, w (17 * a + y6 + 97) 3)), (0, (1, 17 * a + 86))], [], w88)) 1 rfl ?_
          refine e_Ok.sub kAlk (e_sub_of rfl ?_) (ih7 x70 x77 z63 (y6 + 1) w88 ⟨f89, hT91, (e_kn_sub (e_kn.oth (e_kn.ext j10 hw81 (by omega) (by omega)) hw88 (by omega)) (by omega) (by omega)), (e_kn_sub (e_kn.ext (e_kn.oth j11 hw81 (by omega)) hw88 (by omega) (by omega)) (by omega) (by omega)), by omega, by omega, by omega⟩ (by omega))
          exact ⟨rfl, rfl, rfl, rfl, rfl, trivial⟩
  refine e_Ok.sub kAlk (e_sub_of rfl ?_) (hL6 (6 + 1 : Int).toNat x2 x4 (w (17 * a + 86) 9) 0 w ⟨(e_fr.refl w), hT, (fun i g1 g2 => by rw [show i = 0 by omega]; exact hx0), (fun i g1 g2 => by rw [show i = 0 by omega]; exact hy0), by omega, by omega, by omega⟩ (by omega))
  exact ⟨rfl, rfl, rfl, rfl, rfl, trivial⟩
theorem c_17 {d : Nat} {w : eW} (hT : e_Has kTy w) {a : Int} (g_a : 0 ≤ a ∧ a ≤ 3) : e_Ok 20 elay kcode eI d 17 (0, [(0, (1, 17 * a + 86))], [], w) (fun r w' => r = [] ∧ e_fr (kSt a) w w' ∧ e_Has kTy w' ∧ w' (17 * a + 86) 11 = 0 ∧ ∀ i, 0 ≤ i → i < 6 → w' (17 * a + i + 97) 8 = 0) := by
  refine e_Ok.run (t' := (2, [(0, (1, 17 * a + 86))], [(0, 0), (1, 17 * a + 86)], w)) 2 rfl ?_
  refine e_Ok.putf rfl (lA0 (a := a) (by omega) (by omega)) rfl rfl ?_
  generalize hw1 : e_up w (17 * a + 86) 11 0 = w1
  have f2 : e_fr (kSt a) w w1 := e_fr.up (e_fr.refl w) hw1 (by unfold kSt; omega)
  have hT3 : e_Has kTy w1 := e_Has.upr hT hw1 (kA_11 (a := a) (by omega) (by omega)) (by omega)
  refine e_Ok.run (t' := (7, [(0, (1, 17 * a + 86))], [(0, (-1)), (1, 17 * a + 86)], w1)) 2 rfl ?_
  refine e_Ok.putf rfl (lA0 (a := a) (by omega) (by omega)) rfl rfl ?_
  generalize hw4 : e_up w1 (17 * a + 86) 13 (-1) = w4
  have f5 : e_fr (kSt a) w w4 := e_fr.up f2 hw4 (by unfold kSt; omega)
  have hT6 : e_Has kTy w4 := e_Has.upr hT3 hw4 (kA_13 (a := a) (by omega) (by omega)) (by omega)
  refine e_Ok.run (t' := (12, [(0, (1, 17 * a + 86))], [(0, (-1)), (1, 17 * a + 86)], w4)) 2 rfl ?_
  refine e_Ok.putf rfl (lA0 (a := a) (by omega) (by omega)) rfl rfl ?_
  generalize hw7 : e_up w4 (17 * a + 86) 18 (-1) = w7
  have f8 : e_fr (kSt a) w w7 := e_fr.up f5 hw7 (by unfold kSt; omega)
  have hT9 : e_Has kTy w7 := e_Has.upr hT6 hw7 (kA_18 (a := a) (by omega) (by omega)) (by omega)
  refine e_Ok.run (t' := (17, [(1, (0, 0)), (0, (1, 17 * a + 86))], [], w7)) 2 rfl ?_
  have hL10 : ∀ (nn : Nat) (y1 : Int) (v1 : eW), e_fr (kSt a) w v1 ∧ e_Has kTy v1 ∧ (∀ i, 0 ≤ i → i < y1 → v1 (17 * a + i + 97) 8 = 0) ∧ v1 (17 * a + 86) 11 = 0 ∧ (0 ≤ y1 ∧ y1 ≤ 6) → 6 - y1 < nn → e_Ok 20 elay kcode eI d 17 (17, [(0, (1, 17 * a + 86)), (1, (0, y1))], [], v1) (fun r w' => r = [] ∧ e_fr (kSt a) w w' ∧ e_Has kTy w' ∧ w' (17 * a + 86) 11 = 0 ∧ ∀ i, 0 ≤ i → i < 6 → w' (17 * a + i + 97) 8 = 0) := by
    intro nn
    induction nn with
    | zero => intro y1 v1 hj hm; obtain ⟨j12, j13, j14, j15, j16⟩ := hj; exfalso; omega
    | succ nn ih11 =>
      intro y1 v1 hj hm
      obtain ⟨j12, j13, j14, j15, j16⟩ := hj
      refine e_Ok.run (t' := (20, [(0, (1, 17 * a + 86)), (1, (0, y1))], [(0, 6), (0, y1)], v1)) 2 rfl ?_
      refine e_Ok.if2 rfl (fun h17 => ?_) (fun h17 => ?_)
      · replace h17 : (y1 : Int) ≥ 6 := h17
        refine e_Ok.rets rfl rfl ?_
        exact ⟨rfl, j12, j13, ⟨j15, fun i g1 g2 => j14 i g1 (by omega)⟩⟩
      · replace h17 : (y1 : Int) < 6 := by have q : ¬ ((y1 : Int) ≥ 6) := h17; omega
        refine e_Ok.run (t' := (24, [(0, (1, 17 * a + 86)), (1, (0, y1))], [(1, 17 * a + 86)], v1)) 1 rfl ?_
        refine e_Ok.getr (z := 17 * a + 87) rfl (lA0 (a := a) (by omega) (by omega)) rfl rfl ((j12 (17 * a + 86) 0 (by unfold kSt; omega)).trans (Eq.trans (e_Has.eq hT (kA_0 (a := a) (by omega) (by omega))) (by omega))) (by omega) ?_
        refine e_Ok.run (t' := (28, [(0, (1, 17 * a + 86)), (1, (0, y1))], [(0, y1), (1, 17 * a + 87)], v1)) 1 rfl ?_
        refine e_Ok.aald (z := 17 * a + y1 + 97) rfl (lA1 (a := a) (by omega) (by omega)) rfl (by omega) ((j12 (17 * a + 87) y1 (by unfold kSt; omega)).trans (Eq.trans (e_Has.eq hT (kA87 (a := a) (by omega) (by omega) (by omega))) (by omega))) (by omega) ?_
        refine e_Ok.run (t' := (30, [(0, (1, 17 * a + 86)), (1, (0, y1))], [(0, 0), (1, 17 * a + y1 + 97)], v1)) 1 rfl ?_
        refine e_Ok.putf rfl (lJ (a := a) (j := y1) (by omega) (by omega) (by omega)) rfl rfl ?_
        generalize hw18 : e_up v1 (17 * a + y1 + 97) 8 0 = w18
        have f19 : e_fr (kSt a) w w18 := e_fr.up j12 hw18 (by unfold kSt; omega)
        have hT20 : e_Has kTy w18 := e_Has.upr j13 hw18 (kJ_8 (a := a) (j := y1) (by omega) (by omega) (by omega)) (by omega)
        refine e_Ok.inc (z := y1 + 1) rfl rfl (by omega) (by omega) ?_
        show e_Ok 20 elay kcode eI d 17 (36, [(1, (0, y1 + 1)), (0, (1, 17 * a + 86))], [], w18) _
        refine e_Ok.run (t' := (17, [(1, (0, y1 + 1)), (0, (1, 17 * a + 86))], [], w18)) 1 rfl ?_
        refine e_Ok.sub kAlk (e_sub_of rfl ?_) (ih11 (y1 + 1) w18 ⟨f19, hT20, (fun i g1 g2 => by rw [← hw18]; by_cases e : i = y1; (rw [e]; exact e_up_eq _ _ _ _); (rw [e_up_ne _ _ (Or.inl (by omega))]; exact j14 i g1 (by omega))), (by rw [← hw18]; exact (e_up_ne _ _ (Or.inl (by omega))).trans j15), by omega⟩ (by omega))
        exact ⟨rfl, rfl, trivial⟩
  refine e_Ok.sub kAlk (e_sub_of rfl ?_) (hL10 (6 + 1 : Int).toNat 0 w7 ⟨f8, hT9, (fun i g1 g2 => by omega), (show w7 (17 * a + 86) 11 = 0 from (by rw [← hw7]; exact (e_up_ne _ _ (Or.inr (by omega))).trans (by rw [← hw4]; exact (e_up_ne _ _ (Or.inr (by omega))).trans (by rw [← hw1]; exact e_up_eq _ _ _ _)))), by omega⟩ (by omega))
  exact ⟨rfl, rfl, trivial⟩
theorem c_11 {d : Nat} {w : eW} (hT : e_Has kTy w) {a : Int} (g_a : 0 ≤ a ∧ a ≤ 3) (kx : aK w a) : e_Ok 20 elay kcode eI d 11 (0, [(0, (1, 17 * a + 86))], [], w) (fun r w' => r = [] ∧ e_fr (kOl a) w w' ∧ e_Has kTy w' ∧ oK w' a) := by
  have hjn := kn_joints hT (a := a) (by omega)
  refine e_Ok.run (t' := (2, [(1, (0, 0)), (0, (1, 17 * a + 86))], [], w)) 2 rfl ?_
  have hL1 : ∀ (nn : Nat) (y1 : Int) (v1 : eW), e_fr (kOl a) w v1 ∧ e_Has kTy v1 ∧ e_kn v1 (17 * a + 90) 0 (y1 - 1) ∧ e_kn v1 (17 * a + 91) 0 (y1 - 1) ∧ y1 ≤ w (17 * a + 86) 8 + 1 ∧ (0 ≤ y1 ∧ y1 ≤ 7) → 7 - y1 < nn → e_Ok 20 elay kcode eI d 11 (2, [(0, (1, 17 * a + 86)), (1, (0, y1))], [], v1) (fun r w' => r = [] ∧ e_fr (kOl a) w w' ∧ e_Has kTy w' ∧ oK w' a) := by
    intro nn
    induction nn with
    | zero => intro y1 v1 hj hm; obtain ⟨j3, j4, j5, j6, j7, j8⟩ := hj; exfalso; omega
    | succ nn ih2 =>
      intro y1 v1 hj hm
      obtain ⟨j3, j4, j5, j6, j7, j8⟩ := hj
      have l9 : v1 (17 * a + 86) 8 = w (17 * a + 86) 8 := j3 (17 * a + 86) 8 (by unfold kOl; omega)
      refine e_Ok.run (t' := (4, [(0, (1, 17 * a + 86)), (1, (0, y1))], [(1, 17 * a + 86), (0, y1)], v1)) 2 rfl ?_
      have h10 := (e_Has.get hT (c := 17 * a + 86) (k := 8) (lo := 0) (hi := 6) (kA_8 (a := a) (by omega) (by omega)) (by decide))
      refine e_Ok.getf (z := w (17 * a + 86) 8) rfl (lA0 (a := a) (by omega) (by omega)) rfl rfl ((j3 (17 * a + 86) 8 (by unfold kOl; omega)).trans rfl) (by omega) ?_
      refine e_Ok.if2 rfl (fun h11 => ?_) (fun h11 => ?_)
      · replace h11 : (y1 : Int) > w (17 * a + 86) 8 := h11
        refine e_Ok.rets rfl rfl ?_
        exact ⟨rfl, j3, j4, (by unfold oK; rw [(show v1 (17 * a + 86) 8 = w (17 * a + 86) 8 from j3 _ _ (by unfold kOl; omega))]; exact ⟨e_kn_sub j5 (by omega) (by omega), e_kn_sub j6 (by omega) (by omega)⟩)⟩
      · replace h11 : (y1 : Int) ≤ w (17 * a + 86) 8 := by have q : ¬ ((y1 : Int) > w (17 * a + 86) 8) := h11; omega
        refine e_Ok.run (t' := (11, [(0, (1, 17 * a + 86)), (1, (0, y1))], [(1, 17 * a + 86)], v1)) 1 rfl ?_
        refine e_Ok.getr (z := 17 * a + 90) rfl (lA0 (a := a) (by omega) (by omega)) rfl rfl ((j3 (17 * a + 86) 3 (by unfold kOl; omega)).trans (Eq.trans (e_Has.eq hT (kA_3 (a := a) (by omega) (by omega))) (by omega))) (by omega) ?_
        refine e_Ok.run (t' := (16, [(0, (1, 17 * a + 86)), (1, (0, y1))], [(1, 17 * a + 86), (0, y1), (1, 17 * a + 90)], v1)) 2 rfl ?_
        refine e_Ok.getr (z := 17 * a + 88) rfl (lA0 (a := a) (by omega) (by omega)) rfl rfl ((j3 (17 * a + 86) 1 (by unfold kOl; omega)).trans (Eq.trans (e_Has.eq hT (kA_1 (a := a) (by omega) (by omega))) (by omega))) (by omega) ?_
        refine e_Ok.run (t' := (20, [(0, (1, 17 * a + 86)), (1, (0, y1))], [(0, y1), (1, 17 * a + 88), (0, y1), (1, 17 * a + 90)], v1)) 1 rfl ?_
        have h12 := (kx.1 y1 (by omega) (by omega))
        refine e_Ok.ald (z := w (17 * a + 88) y1) rfl (lA2 (a := a) (by omega) (by omega)) rfl (by omega) ((j3 (17 * a + 88) y1 (by unfold kOl; omega)).trans rfl) (by omega) ?_
        refine e_Ok.ast rfl (lA4 (a := a) (by omega) (by omega)) rfl rfl (by omega) ?_
        generalize hw13 : e_up v1 (17 * a + 90) y1 (w (17 * a + 88) y1) = w13
        have f14 : e_fr (kOl a) w w13 := e_fr.up j3 hw13 (by unfold kOl; omega)
        have l15 : w13 (17 * a + 86) 8 = w (17 * a + 86) 8 := f14 (17 * a + 86) 8 (by unfold kOl; omega)
        have hT16 : e_Has kTy w13 := e_Has.ups j4 hw13 (kA90 (a := a) _ (by omega) (by omega))
        refine e_Ok.run (t' := (23, [(0, (1, 17 * a + 86)), (1, (0, y1))], [(1, 17 * a + 86)], w13)) 1 rfl ?_
        refine e_Ok.getr (z := 17 * a + 91) rfl (lA0 (a := a) (by omega) (by omega)) rfl rfl (by rw [← hw13]; exact (e_up_ne _ _ (Or.inl (by omega))).trans ((j3 (17 * a + 86) 4 (by unfold kOl; omega)).trans (Eq.trans (e_Has.eq hT (kA_4 (a := a) (by omega) (by omega))) (by omega)))) (by omega) ?_
        refine e_Ok.run (t' := (28, [(0, (1, 17 * a + 86)), (1, (0, y1))], [(1, 17 * a + 86), (0, y1), (1, 17 * a + 91)], w13)) 2 rfl ?_
        refine e_Ok.getr (z := 17 * a + 89) rfl (lA0 (a := a) (by omega) (by omega)) rfl rfl (by rw [← hw13]; exact (e_up_ne _ _ (Or.inl (by omega))).trans ((j3 (17 * a + 86) 2 (by unfold kOl; omega)).trans (Eq.trans (e_Has.eq hT (kA_2 (a := a) (by omega) (by omega))) (by omega)))) (by omega) ?_
        refine e_Ok.run (t' := (32, [(0, (1, 17 * a + 86)), (1, (0, y1))], [(0, y1), (1, 17 * a + 89), (0, y1), (1, 17 * a + 91)], w13)) 1 rfl ?_
        have h17 := (kx.2 y1 (by omega) (by omega))
        refine e_Ok.ald (z := w (17 * a + 89) y1) rfl (lA3 (a := a) (by omega) (by omega)) rfl (by omega) (by rw [← hw13]; exact (e_up_ne _ _ (Or.inl (by omega))).trans ((j3 (17 * a + 89) y1 (by unfold kOl; omega)).trans rfl)) (by omega) ?_
        refine e_Ok.ast rfl (lA5 (a := a) (by omega) (by omega)) rfl rfl (by omega) ?_
        generalize hw18 : e_up w13 (17 * a + 91) y1 (w (17 * a + 89) y1) = w18
        have f19 : e_fr (kOl a) w w18 := e_fr.up f14 hw18 (by unfold kOl; omega)
        have l20 : w18 (17 * a + 86) 8 = w (17 * a + 86) 8 := f19 (17 * a + 86) 8 (by unfold kOl; omega)
        have hT21 : e_Has kTy w18 := e_Has.ups hT16 hw18 (kA91 (a := a) _ (by omega) (by omega))
        refine e_Ok.inc (z := y1 + 1) rfl rfl (by omega) (by omega) ?_
        show e_Ok 20 elay kcode eI d 11 (37, [(1, (0, y1 + 1)), (0, (1, 17 * a + 86))], [], w18) _
        refine e_Ok.run (t' := (2, [(1, (0, y1 + 1)), (0, (1, 17 * a + 86))], [], w18)) 1 rfl ?_
        refine e_Ok.sub kAlk (e_sub_of rfl ?_) (ih2 (y1 + 1) w18 ⟨f19, hT21, (e_kn_sub (e_kn.oth (e_kn.ext j5 hw13 (by omega) (by omega)) hw18 (by omega)) (by omega) (by omega)), (e_kn_sub (e_kn.ext (e_kn.oth j6 hw13 (by omega)) hw18 (by omega) (by omega)) (by omega) (by omega)), by omega, by omega⟩ (by omega))
        exact ⟨rfl, rfl, trivial⟩
  refine e_Ok.sub kAlk (e_sub_of rfl ?_) (hL1 (7 + 1 : Int).toNat 0 w ⟨(e_fr.refl w), hT, (fun i g1 g2 => by omega), (fun i g1 g2 => by omega), by omega, by omega⟩ (by omega))
  exact ⟨rfl, rfl, trivial⟩
theorem c_12 {d : Nat} {w : eW} (hT : e_Has kTy w) {a : Int} (g_a : 0 ≤ a ∧ a ≤ 3) : e_Ok 20 elay kcode eI d 12 (0, [(0, (1, 17 * a + 86))], [], w) (fun r w' => r = [] ∧ e_fr (kSp a) w w' ∧ e_Has kTy w' ∧ ∀ i, 0 ≤ i → i < w (17 * a + 86) 8 → kn1 (w' (17 * a + i + 97) 11)) := by
  have hjn := kn_joints hT (a := a) (by omega)
  refine e_Ok.run (t' := (2, [(1, (0, 0)), (0, (1, 17 * a + 86))], [], w)) 2 rfl ?_
  have hL1 : ∀ (nn : Nat) (y1 : Int) (v1 : eW), e_fr (kSp a) w v1 ∧ e_Has kTy v1 ∧ (∀ i, 0 ≤ i → i < y1 → kn1 (v1 (17 * a + i + 97) 11)) ∧ y1 ≤ w (17 * a + 86) 8 ∧ (0 ≤ y1 ∧ y1 ≤ 6) → 6 - y1 < nn → e_Ok 20 elay kcode eI d 12 (2, [(0, (1, 17 * a + 86)), (1, (0, y1))], [], v1) (fun r w' => r = [] ∧ e_fr (kSp a) w w' ∧ e_Has kTy w' ∧ ∀ i, 0 ≤ i → i < w (17 * a + 86) 8 → kn1 (w' (17 * a + i + 97) 11)) := by
    intro nn
    induction nn with
    | zero => intro y1 v1 hj hm; obtain ⟨j3, j4, j5, j6, j7⟩ := hj; exfalso; omega
    | succ nn ih2 =>
      intro y1 v1 hj hm
      obtain ⟨j3, j4, j5, j6, j7⟩ := hj
      have l8 : v1 (17 * a + 86) 8 = w (17 * a + 86) 8 := j3 (17 * a + 86) 8 (by unfold kSp; omega)
      refine e_Ok.run (t' := (4, [(0, (1, 17 * a + 86)), (1, (0, y1))], [(1, 17 * a + 86), (0, y1)], v1)) 2 rfl ?_
      have h9 := (e_Has.get hT (c := 17 * a + 86) (k := 8) (lo := 0) (hi := 6) (kA_8 (a := a) (by omega) (by omega)) (by decide))
      refine e_Ok.getf (z := w (17 * a + 86) 8) rfl (lA0 (a := a) (by omega) (by omega)) rfl rfl ((j3 (17 * a + 86) 8 (by unfold kSp; omega)).trans rfl) (by omega) ?_
      refine e_Ok.if2 rfl (fun h10 => ?_) (fun h10 => ?_)
      · replace h10 : (y1 : Int) ≥ w (17 * a + 86) 8 := h10
        refine e_Ok.rets rfl rfl ?_
        exact ⟨rfl, j3, j4, fun i g1 g2 => j5 i g1 (by omega)⟩
      · replace h10 : (y1 : Int) < w (17 * a + 86) 8 := by have q : ¬ ((y1 : Int) ≥ w (17 * a + 86) 8) := h10; omega
        refine e_Ok.run (t' := (11, [(0, (1, 17 * a + 86)), (1, (0, y1))], [(1, 17 * a + 86)], v1)) 1 rfl ?_
        refine e_Ok.getr (z := 17 * a + 87) rfl (lA0 (a := a) (by omega) (by omega)) rfl rfl ((j3 (17 * a + 86) 0 (by unfold kSp; omega)).trans (Eq.trans (e_Has.eq hT (kA_0 (a := a) (by omega) (by omega))) (by omega))) (by omega) ?_
        refine e_Ok.run (t' := (15, [(0, (1, 17 * a + 86)), (1, (0, y1))], [(0, y1), (1, 17 * a + 87)], v1)) 1 rfl ?_
        refine e_Ok.aald (z := 17 * a + y1 + 97) rfl (lA1 (a := a) (by omega) (by omega)) rfl (by omega) ((j3 (17 * a + 87) y1 (by unfold kSp; omega)).trans (Eq.trans (e_Has.eq hT (kA87 (a := a) (by omega) (by omega) (by omega))) (by omega))) (by omega) ?_
        refine e_Ok.run (t' := (17, [(0, (1, 17 * a + 86)), (1, (0, y1))], [(1, 17 * a + 86), (1, 17 * a + y1 + 97)], v1)) 1 rfl ?_
        refine e_Ok.getr (z := 17 * a + 87) rfl (lA0 (a := a) (by omega) (by omega)) rfl rfl ((j3 (17 * a + 86) 0 (by unfold kSp; omega)).trans (Eq.trans (e_Has.eq hT (kA_0 (a := a) (by omega) (by omega))) (by omega))) (by omega) ?_
        refine e_Ok.run (t' := (21, [(0, (1, 17 * a + 86)), (1, (0, y1))], [(0, y1), (1, 17 * a + 87), (1, 17 * a + y1 + 97)], v1)) 1 rfl ?_
        refine e_Ok.aald (z := 17 * a + y1 + 97) rfl (lA1 (a := a) (by omega) (by omega)) rfl (by omega) ((j3 (17 * a + 87) y1 (by unfold kSp; omega)).trans (Eq.trans (e_Has.eq hT (kA87 (a := a) (by omega) (by omega) (by omega))) (by omega))) (by omega) ?_
        have h11 := (e_Has.get hT (c := 17 * a + y1 + 97) (k := 8) (lo := (-2000)) (hi := 2000) (kJ_8 (a := a) (j := y1) (by omega) (by omega) (by omega)) (by decide))
        refine e_Ok.getf (z := w (17 * a + y1 + 97) 8) rfl (lJ (a := a) (j := y1) (by omega) (by omega) (by omega)) rfl rfl ((j3 (17 * a + y1 + 97) 8 (by unfold kSp; omega)).trans rfl) (by omega) ?_
        refine e_Ok.putf rfl (lJ (a := a) (j := y1) (by omega) (by omega) (by omega)) rfl rfl ?_
        generalize hw12 : e_up v1 (17 * a + y1 + 97) 11 (w (17 * a + y1 + 97) 8) = w12
        have f13 : e_fr (kSp a) w w12 := e_fr.up j3 hw12 (by unfold kSp; omega)
        have l14 : w12 (17 * a + 86) 8 = w (17 * a + 86) 8 := f13 (17 * a + 86) 8 (by unfold kSp; omega)
        have hT15 : e_Has kTy w12 := e_Has.ups j4 hw12 (kJ_11 (a := a) (j := y1) (by omega) (by omega) (by omega))
        refine e_Ok.inc (z := y1 + 1) rfl rfl (by omega) (by omega) ?_
        show e_Ok 20 elay kcode eI d 12 (31, [(1, (0, y1 + 1)), (0, (1, 17 * a + 86))], [], w12) _
        refine e_Ok.run (t' := (2, [(1, (0, y1 + 1)), (0, (1, 17 * a + 86))], [], w12)) 1 rfl ?_
        refine e_Ok.sub kAlk (e_sub_of rfl ?_) (ih2 (y1 + 1) w12 ⟨f13, hT15, (fun i g1 g2 => by rw [← hw12]; by_cases e : i = y1; (rw [e, e_up_eq]; unfold kn1; omega); (rw [e_up_ne _ _ (Or.inl (by omega))]; exact j5 i g1 (by omega))), by omega, by omega⟩ (by omega))
        exact ⟨rfl, rfl, trivial⟩
  refine e_Ok.sub kAlk (e_sub_of rfl ?_) (hL1 (6 + 1 : Int).toNat 0 w ⟨(e_fr.refl w), hT, (fun i g1 g2 => by omega), by omega, by omega⟩ (by omega))
  exact ⟨rfl, rfl, trivial⟩
theorem c_13 {d : Nat} {w : eW} (hT : e_Has kTy w) {a o : Int} (g_a : 0 ≤ a ∧ a ≤ 3) (g_o : (-1) ≤ o ∧ o ≤ 15) : e_Ok 20 elay kcode eI d 13 (0, [(0, (1, 17 * a + 86)), (1, (0, o))], [], w) (fun r w' => r = [] ∧ e_fr (kBm a) w w' ∧ e_Has kTy w' ∧ (w' (17 * a + 86) 11 = 1 ∧ w' (17 * a + 86) 12 = 0 ∧ w' (17 * a + 86) 13 = o) ∧ ∀ i, 0 ≤ i → i < w (17 * a + 86) 8 → kn1 (w' (17 * a + i + 97) 10)) := by
  have hjn := kn_joints hT (a := a) (by omega)
  refine e_Ok.run (t' := (2, [(0, (1, 17 * a + 86)), (1, (0, o))], [(0, 1), (1, 17 * a + 86)], w)) 2 rfl ?_
  refine e_Ok.putf rfl (lA0 (a := a) (by omega) (by omega)) rfl rfl ?_
  generalize hw1 : e_up w (17 * a + 86) 11 1 = w1
  have f2 : e_fr (kBm a) w w1 := e_fr.up (e_fr.refl w) hw1 (by unfold kBm; omega)
  have l3 : w1 (17 * a + 86) 8 = w (17 * a + 86) 8 := f2 (17 * a + 86) 8 (by unfold kBm; omega)
  have hT4 : e_Has kTy w1 := e_Has.upr hT hw1 (kA_11 (a := a) (by omega) (by omega)) (by omega)
  refine e_Ok.run (t' := (7, [(0, (1, 17 * a + 86)), (1, (0, o))], [(0, 0), (1, 17 * a + 86)], w1)) 2 rfl ?_
  refine e_Ok.putf rfl (lA0 (a := a) (by omega) (by omega)) rfl rfl ?_
  generalize hw5 : e_up w1 (17 * a + 86) 12 0 = w5
  have f6 : e_fr (kBm a) w w5 := e_fr.up f2 hw5 (by unfold kBm; omega)
  have l7 : w5 (17 * a + 86) 8 = w (17 * a + 86) 8 := f6 (17 * a + 86) 8 (by unfold kBm; omega)
  have hT8 : e_Has kTy w5 := e_Has.ups hT4 hw5 (kA_12 (a := a) (by omega) (by omega))
  refine e_Ok.run (t' := (12, [(0, (1, 17 * a + 86)), (1, (0, o))], [(0, o), (1, 17 * a + 86)], w5)) 2 rfl ?_
  refine e_Ok.putf rfl (lA0 (a := a) (by omega) (by omega)) rfl rfl ?_
  generalize hw9 : e_up w5 (17 * a + 86) 13 o = w9
  have f10 : e_fr (kBm a) w w9 := e_fr.up f6 hw9 (by unfold kBm; omega)
  have l11 : w9 (17 * a + 86) 8 = w (17 * a + 86) 8 := f10 (17 * a + 86) 8 (by unfold kBm; omega)
  have hT12 : e_Has kTy w9 := e_Has.upr hT8 hw9 (kA_13 (a := a) (by omega) (by omega)) (by omega)
  refine e_Ok.run (t' := (17, [(2, (0, 0)), (0, (1, 17 * a + 86)), (1, (0, o))], [], w9)) 2 rfl ?_
  have hL13 : ∀ (nn : Nat) (y2 : Int) (v1 : eW), e_fr (kBm a) w v1 ∧ e_Has kTy v1 ∧ (∀ i, 0 ≤ i → i < y2 → kn1 (v1 (17 * a + i + 97) 10)) ∧ v1 (17 * a + 86) 11 = 1 ∧ v1 (17 * a + 86) 12 = 0 ∧ v1 (17 * a + 86) 13 = o ∧ y2 ≤ w (17 * a + 86) 8 ∧ (0 ≤ y2 ∧ y2 ≤ 6) → 6 - y2 < nn → e_Ok 20 elay kcode eI d 13 (17, [(0, (1, 17 * a + 86)), (2, (0, y2))], [], v1) (fun r w' => r = [] ∧ e_fr (kBm a) w w' ∧ e_Has kTy w' ∧ (w' (17 * a + 86) 11 = 1 ∧ w' (17 * a + 86) 12 = 0 ∧ w' (17 * a + 86) 13 = o) ∧ ∀ i, 0 ≤ i → i < w (17 * a + 86) 8 → kn1 (w' (17 * a + i + 97) 10)) := by
    intro nn
    induction nn with
    | zero => intro y2 v1 hj hm; obtain ⟨j15, j16, j17, j18, j19, j20, j21, j22⟩ := hj; exfalso; omega
    | succ nn ih14 =>
      intro y2 v1 hj hm
      obtain ⟨j15, j16, j17, j18, j19, j20, j21, j22⟩ := hj
      have l23 : v1 (17 * a + 86) 8 = w (17 * a + 86) 8 := j15 (17 * a + 86) 8 (by unfold kBm; omega)
      refine e_Ok.run (t' := (19, [(0, (1, 17 * a + 86)), (2, (0, y2))], [(1, 17 * a + 86), (0, y2)], v1)) 2 rfl ?_
      have h24 := (e_Has.get hT (c := 17 * a + 86) (k := 8) (lo := 0) (hi := 6) (kA_8 (a := a) (by omega) (by omega)) (by decide))
      refine e_Ok.getf (z := w (17 * a + 86) 8) rfl (lA0 (a := a) (by omega) (by omega)) rfl rfl ((j15 (17 * a + 86) 8 (by unfold kBm; omega)).trans rfl) (by omega) ?_
      refine e_Ok.if2 rfl (fun h25 => ?_) (fun h25 => ?_)
      · replace h25 : (y2 : Int) ≥ w (17 * a + 86) 8 := h25
        refine e_Ok.rets rfl rfl ?_
        exact ⟨rfl, j15, j16, ⟨⟨j18, j19, j20⟩, fun i g1 g2 => j17 i g1 (by omega)⟩⟩
      · replace h25 : (y2 : Int) < w (17 * a + 86) 8 := by have q : ¬ ((y2 : Int) ≥ w (17 * a + 86) 8) := h25; omega
        refine e_Ok.run (t' := (26, [(0, (1, 17 * a + 86)), (2, (0, y2))], [(1, 17 * a + 86)], v1)) 1 rfl ?_
        refine e_Ok.getr (z := 17 * a + 87) rfl (lA0 (a := a) (by omega) (by omega)) rfl rfl ((j15 (17 * a + 86) 0 (by unfold kBm; omega)).trans (Eq.trans (e_Has.eq hT (kA_0 (a := a) (by omega) (by omega))) (by omega))) (by omega) ?_
        refine e_Ok.run (t' := (30, [(0, (1, 17 * a + 86)), (2, (0, y2))], [(0, y2), (1, 17 * a + 87)], v1)) 1 rfl ?_
        refine e_Ok.aald (z := 17 * a + y2 + 97) rfl (lA1 (a := a) (by omega) (by omega)) rfl (by omega) ((j15 (17 * a + 87) y2 (by unfold kBm; omega)).trans (Eq.trans (e_Has.eq hT (kA87 (a := a) (by omega) (by omega) (by omega))) (by omega))) (by omega) ?_
        refine e_Ok.run (t' := (32, [(0, (1, 17 * a + 86)), (2, (0, y2))], [(1, 17 * a + 86), (1, 17 * a + y2 + 97)], v1)) 1 rfl ?_
        refine e_Ok.getr (z := 17 * a + 87) rfl (lA0 (a := a) (by omega) (by omega)) rfl rfl ((j15 (17 * a + 86) 0 (by unfold kBm; omega)).trans (Eq.trans (e_Has.eq hT (kA_0 (a := a) (by omega) (by omega))) (by omega))) (by omega) ?_
        refine e_Ok.run (t' := (36, [(0, (1, 17 * a + 86)), (2, (0, y2))], [(0, y2), (1, 17 * a + 87), (1, 17 * a + y2 + 97)], v1)) 1 rfl ?_
        refine e_Ok.aald (z := 17 * a + y2 + 97) rfl (lA1 (a := a) (by omega) (by omega)) rfl (by omega) ((j15 (17 * a + 87) y2 (by unfold kBm; omega)).trans (Eq.trans (e_Has.eq hT (kA87 (a := a) (by omega) (by omega) (by omega))) (by omega))) (by omega) ?_
        have h26 := (e_Has.get hT (c := 17 * a + y2 + 97) (k := 7) (lo := (-2147483648)) (hi := 2147483647) (kJ_7 (a := a) (j := y2) (by omega) (by omega) (by omega)) (by decide))
        refine e_Ok.getf (z := w (17 * a + y2 + 97) 7) rfl (lJ (a := a) (j := y2) (by omega) (by omega) (by omega)) rfl rfl ((j15 (17 * a + y2 + 97) 7 (by unfold kBm; omega)).trans rfl) (by omega) ?_
        refine e_Ok.putf rfl (lJ (a := a) (j := y2) (by omega) (by omega) (by omega)) rfl rfl ?_
        generalize hw27 : e_up v1 (17 * a + y2 + 97) 10 (w (17 * a + y2 + 97) 7) = w27
        have f28 : e_fr (kBm a) w w27 := e_fr.up j15 hw27 (by unfold kBm; omega)
        have l29 : w27 (17 * a + 86) 8 = w (17 * a + 86) 8 := f28 (17 * a + 86) 8 (by unfold kBm; omega)
        have hT30 : e_Has kTy w27 := e_Has.ups j16 hw27 (kJ_10 (a := a) (j := y2) (by omega) (by omega) (by omega))
        refine e_Ok.inc (z := y2 + 1) rfl rfl (by omega) (by omega) ?_
        show e_Ok 20 elay kcode eI d 13 (46, [(2, (0, y2 + 1)), (0, (1, 17 * a + 86))], [], w27) _
        refine e_Ok.run (t' := (17, [(2, (0, y2 + 1)), (0, (1, 17 * a + 86))], [], w27)) 1 rfl ?_
        refine e_Ok.sub kAlk (e_sub_of rfl ?_) (ih14 (y2 + 1) w27 ⟨f28, hT30, (fun i g1 g2 => by rw [← hw27]; by_cases e : i = y2; (rw [e, e_up_eq]; unfold kn1; omega); (rw [e_up_ne _ _ (Or.inl (by omega))]; exact j17 i g1 (by omega))), (by rw [← hw27]; exact (e_up_ne _ _ (Or.inl (by omega))).trans j18), (by rw [← hw27]; exact (e_up_ne _ _ (Or.inl (by omega))).trans j19), (by rw [← hw27]; exact (e_up_ne _ _ (Or.inl (by omega))).trans j20), by omega, by omega⟩ (by omega))
        exact ⟨rfl, rfl, trivial⟩
  refine e_Ok.sub kAlk (e_sub_of rfl ?_) (hL13 (6 + 1 : Int).toNat 0 w9 ⟨f10, hT12, (fun i g1 g2 => by omega), (show w9 (17 * a + 86) 11 = 1 from (by rw [← hw9]; exact (e_up_ne _ _ (Or.inr (by omega))).trans (by rw [← hw5]; exact (e_up_ne _ _ (Or.inr (by omega))).trans (by rw [← hw1]; exact e_up_eq _ _ _ _)))), (show w9 (17 * a + 86) 12 = 0 from (by rw [← hw9]; exact (e_up_ne _ _ (Or.inr (by omega))).trans (by rw [← hw5]; exact e_up_eq _ _ _ _))), (show w9 (17 * a + 86) 13 = o from (by rw [← hw9]; exact e_up_eq _ _ _ _)), by omega, by omega⟩ (by omega))
  exact ⟨rfl, rfl, trivial⟩
theorem c_15 {d : Nat} {w : eW} (hT : e_Has kTy w) {a : Int} (g_a : 0 ≤ a ∧ a ≤ 3) : e_Ok 20 elay kcode eI d 15 (0, [(0, (1, 17 * a + 86))], [], w) (fun r w' => ∃ z : Int, r = [(0, z)] ∧ w = w' ∧ (0 ≤ z ∧ z ≤ 1) ∧ (z = 1 → ∀ i, 0 ≤ i → i < w (17 * a + 86) 8 → w (17 * a + i + 97) 8 = 0)) := by
  have hjn := kn_joints hT (a := a) (by omega)
  refine e_Ok.run (t' := (2, [(1, (0, 0)), (0, (1, 17 * a + 86))], [], w)) 2 rfl ?_
  have hL1 : ∀ (nn : Nat) (y1 : Int), (∀ i, 0 ≤ i → i < y1 → w (17 * a + i + 97) 8 = 0) ∧ (0 ≤ y1 ∧ y1 ≤ 6) ∧ y1 ≤ w (17 * a + 86) 8 → 6 - y1 < nn → e_Ok 20 elay kcode eI d 15 (2, [(0, (1, 17 * a + 86)), (1, (0, y1))], [], w) (fun r w' => ∃ z : Int, r = [(0, z)] ∧ w = w' ∧ (0 ≤ z ∧ z ≤ 1) ∧ (z = 1 → ∀ i, 0 ≤ i → i < w (17 * a + 86) 8 → w (17 * a + i + 97) 8 = 0)) := by
    intro nn
    induction nn with
    | zero => intro y1 hj hm; obtain ⟨j3, j4, j5⟩ := hj; exfalso; omega
    | succ nn ih2 =>
      intro y1 hj hm
      obtain ⟨j3, j4, j5⟩ := hj
      refine e_Ok.run (t' := (4, [(0, (1, 17 * a + 86)), (1, (0, y1))], [(1, 17 * a + 86), (0, y1)], w)) 2 rfl ?_
      have h6 := (e_Has.get hT (c := 17 * a + 86) (k := 8) (lo := 0) (hi := 6) (kA_8 (a := a) (by omega) (by omega)) (by decide))
      refine e_Ok.getf (z := w (17 * a + 86) 8) rfl (lA0 (a := a) (by omega) (by omega)) rfl rfl rfl (by omega) ?_
      refine e_Ok.if2 rfl (fun h7 => ?_) (fun h7 => ?_)
      · replace h7 : (y1 : Int) ≥ w (17 * a + 86) 8 := h7
        refine e_Ok.run (t' := (31, [(0, (1, 17 * a + 86)), (1, (0, y1))], [(0, 1)], w)) 1 rfl ?_
        refine e_Ok.rets rfl rfl ?_
        exact ⟨_, rfl, rfl, ⟨by omega, by omega⟩, fun _ i g1 g2 => j3 i g1 (by omega)⟩
      · replace h7 : (y1 : Int) < w (17 * a + 86) 8 := by have q : ¬ ((y1 : Int) ≥ w (17 * a + 86) 8) := h7; omega
        refine e_Ok.run (t' := (11, [(0, (1, 17 * a + 86)), (1, (0, y1))], [(1, 17 * a + 86)], w)) 1 rfl ?_
        refine e_Ok.getr (z := 17 * a + 87) rfl (lA0 (a := a) (by omega) (by omega)) rfl rfl (Eq.trans (e_Has.eq hT (kA_0 (a := a) (by omega) (by omega))) (by omega)) (by omega) ?_
        refine e_Ok.run (t' := (15, [(0, (1, 17 * a + 86)), (1, (0, y1))], [(0, y1), (1, 17 * a + 87)], w)) 1 rfl ?_
        refine e_Ok.aald (z := 17 * a + y1 + 97) rfl (lA1 (a := a) (by omega) (by omega)) rfl (by omega) (Eq.trans (e_Has.eq hT (kA87 (a := a) (by omega) (by omega) (by omega))) (by omega)) (by omega) ?_
        have h8 := (e_Has.get hT (c := 17 * a + y1 + 97) (k := 8) (lo := (-2000)) (hi := 2000) (kJ_8 (a := a) (j := y1) (by omega) (by omega) (by omega)) (by decide))
        refine e_Ok.getf (z := w (17 * a + y1 + 97) 8) rfl (lJ (a := a) (j := y1) (by omega) (by omega) (by omega)) rfl rfl rfl (by omega) ?_
        refine e_Ok.if1 rfl (fun h9 => ?_) (fun h9 => ?_)
        · replace h9 : (w (17 * a + y1 + 97) 8 : Int) = 0 := h9
          refine e_Ok.inc (z := y1 + 1) rfl rfl (by omega) (by omega) ?_
          show e_Ok 20 elay kcode eI d 15 (27, [(1, (0, y1 + 1)), (0, (1, 17 * a + 86))], [], w) _
          refine e_Ok.run (t' := (2, [(1, (0, y1 + 1)), (0, (1, 17 * a + 86))], [], w)) 1 rfl ?_
          refine e_Ok.sub kAlk (e_sub_of rfl ?_) (ih2 (y1 + 1) ⟨(fun i g1 g2 => if e : i = y1 then by rw [e]; omega else j3 i g1 (by omega)), by omega, by omega⟩ (by omega))
          exact ⟨rfl, rfl, trivial⟩
        · replace h9 : (w (17 * a + y1 + 97) 8 : Int) ≠ 0 := by have q : ¬ ((w (17 * a + y1 + 97) 8 : Int) = 0) := h9; omega
          refine e_Ok.run (t' := (23, [(0, (1, 17 * a + 86)), (1, (0, y1))], [(0, 0)], w)) 1 rfl ?_
          refine e_Ok.rets rfl rfl ?_
          exact ⟨_, rfl, rfl, ⟨by omega, by omega⟩, fun q => absurd q (by decide)⟩
  refine e_Ok.sub kAlk (e_sub_of rfl ?_) (hL1 (6 + 1 : Int).toNat 0 ⟨(fun i g1 g2 => by omega), by omega, by omega⟩ (by omega))
  exact ⟨rfl, rfl, trivial⟩
theorem c_16 {d : Nat} (hd : 21 ≤ d) {w : eW} (hT : e_Has kTy w) {a : Int} (g_a : 0 ≤ a ∧ a ≤ 3) : e_Ok 20 elay kcode eI d 16 (0, [(0, (1, 17 * a + 86))], [], w) (fun r w' => ∃ z : Int, r = [(0, z)] ∧ w = w' ∧ (0 ≤ z ∧ z ≤ 1) ∧ (z = 1 → ∀ i, 0 ≤ i → i < w (17 * a + 86) 8 → w (17 * a + i + 97) 7 = w (17 * a + i + 97) 9 ∧ w (17 * a + i + 97) 8 = 0)) := by
  obtain ⟨d, rfl⟩ : ∃ e, d = e + 1 := ⟨d - 1, by omega⟩
  have hjn := kn_joints hT (a := a) (by omega)
  refine e_Ok.run (t' := (2, [(1, (0, 0)), (0, (1, 17 * a + 86))], [], w)) 2 rfl ?_
  have hL1 : ∀ (nn : Nat) (y1 : Int), (∀ i, 0 ≤ i → i < y1 → w (17 * a + i + 97) 7 = w (17 * a + i + 97) 9) ∧ (0 ≤ y1 ∧ y1 ≤ 6) ∧ y1 ≤ w (17 * a + 86) 8 → 6 - y1 < nn → e_Ok 20 elay kcode eI (d + 1) 16 (2, [(0, (1, 17 * a + 86)), (1, (0, y1))], [], w) (fun r w' => ∃ z : Int, r = [(0, z)] ∧ w = w' ∧ (0 ≤ z ∧ z ≤ 1) ∧ (z = 1 → ∀ i, 0 ≤ i → i < w (17 * a + 86) 8 → w (17 * a + i + 97) 7 = w (17 * a + i + 97) 9 ∧ w (17 * a + i + 97) 8 = 0)) := by
    intro nn
    induction nn with
    | zero => intro y1 hj hm; obtain ⟨j3, j4, j5⟩ := hj; exfalso; omega
    | succ nn ih2 =>
      intro y1 hj hm
      obtain ⟨j3, j4, j5⟩ := hj
      refine e_Ok.run (t' := (4, [(0, (1, 17 * a + 86)), (1, (0, y1))], [(1, 17 * a + 86), (0, y1)], w)) 2 rfl ?_
      have h6 := (e_Has.get hT (c := 17 * a + 86) (k := 8) (lo := 0) (hi := 6) (kA_8 (a := a) (by omega) (by omega)) (by decide))
      refine e_Ok.getf (z := w (17 * a + 86) 8) rfl (lA0 (a := a) (by omega) (by omega)) rfl rfl rfl (by omega) ?_
      refine e_Ok.if2 rfl (fun h7 => ?_) (fun h7 => ?_)
      · replace h7 : (y1 : Int) ≥ w (17 * a + 86) 8 := h7
        refine e_Ok.run (t' := (40, [(0, (1, 17 * a + 86)), (1, (0, y1))], [(1, 17 * a + 86)], w)) 1 rfl ?_
        refine e_Ok.callV rfl (by omega) rfl (lA0 (a := a) (by omega) (by omega)) rfl rfl (c_15 (a := a) hT (by omega)) (fun r8 w9 h10 => ?_)
        obtain ⟨z12, rfl, rfl, q11r, q11x⟩ := h10
        show e_Ok 20 elay kcode eI (d + 1) 16 (43, [(0, (1, 17 * a + 86)), (1, (0, y1))], [(0, z12)], w) _
        refine e_Ok.retb rfl (by omega) ?_
        exact ⟨_, rfl, rfl, ⟨by omega, by omega⟩, fun q i g1 g2 => ⟨j3 i g1 (by omega), q11x q i g1 g2⟩⟩
      · replace h7 : (y1 : Int) < w (17 * a + 86) 8 := by have q : ¬ ((y1 : Int) ≥ w (17 * a + 86) 8) := h7; omega
        refine e_Ok.run (t' := (11, [(0, (1, 17 * a + 86)), (1, (0, y1))], [(1, 17 * a + 86)], w)) 1 rfl ?_
        refine e_Ok.getr (z := 17 * a + 87) rfl (lA0 (a := a) (by omega) (by omega)) rfl rfl (Eq.trans (e_Has.eq hT (kA_0 (a := a) (by omega) (by omega))) (by omega)) (by omega) ?_
        refine e_Ok.run (t' := (15, [(0, (1, 17 * a + 86)), (1, (0, y1))], [(0, y1), (1, 17 * a + 87)], w)) 1 rfl ?_
        refine e_Ok.aald (z := 17 * a + y1 + 97) rfl (lA1 (a := a) (by omega) (by omega)) rfl (by omega) (Eq.trans (e_Has.eq hT (kA87 (a := a) (by omega) (by omega) (by omega))) (by omega)) (by omega) ?_
        have h13 := (e_Has.get hT (c := 17 * a + y1 + 97) (k := 7) (lo := (-2147483648)) (hi := 2147483647) (kJ_7 (a := a) (j := y1) (by omega) (by omega) (by omega)) (by decide))
        refine e_Ok.getf (z := w (17 * a + y1 + 97) 7) rfl (lJ (a := a) (j := y1) (by omega) (by omega) (by omega)) rfl rfl rfl (by omega) ?_
        refine e_Ok.run (t' := (20, [(0, (1, 17 * a + 86)), (1, (0, y1))], [(1, 17 * a + 86), (0, w (17 * a + y1 + 97) 7)], w)) 1 rfl ?_
        refine e_Ok.getr (z := 17 * a + 87) rfl (lA0 (a := a) (by omega) (by omega)) rfl rfl (Eq.trans (e_Has.eq hT (kA_0 (a := a) (by omega) (by omega))) (by omega)) (by omega) ?_
        refine e_Ok.run (t' := (24, [(0, (1, 17 * a + 86)), (1, (0, y1))], [(0, y1), (1, 17 * a + 87), (0, w (17 * a + y1 + 97) 7)], w)) 1 rfl ?_
        refine e_Ok.aald (z := 17 * a + y1 + 97) rfl (lA1 (a := a) (by omega) (by omega)) rfl (by omega) (Eq.trans (e_Has.eq hT (kA87 (a := a) (by omega) (by omega) (by omega))) (by omega)) (by omega) ?_
        have h14 := (e_Has.get hT (c := 17 * a + y1 + 97) (k := 9) (lo := (-2147483648)) (hi := 2147483647) (kJ_9 (a := a) (j := y1) (by omega) (by omega) (by omega)) (by decide))
        refine e_Ok.getf (z := w (17 * a + y1 + 97) 9) rfl (lJ (a := a) (j := y1) (by omega) (by omega) (by omega)) rfl rfl rfl (by omega) ?_
        refine e_Ok.if2 rfl (fun h15 => ?_) (fun h15 => ?_)
        · replace h15 : (w (17 * a + y1 + 97) 7 : Int) = w (17 * a + y1 + 97) 9 := h15
          refine e_Ok.inc (z := y1 + 1) rfl rfl (by omega) (by omega) ?_
          show e_Ok 20 elay kcode eI (d + 1) 16 (36, [(1, (0, y1 + 1)), (0, (1, 17 * a + 86))], [], w) _
          refine e_Ok.run (t' := (2, [(1, (0, y1 + 1)), (0, (1, 17 * a + 86))], [], w)) 1 rfl ?_
          refine e_Ok.sub kAlk (e_sub_of rfl ?_) (ih2 (y1 + 1) ⟨(fun i g1 g2 => if e : i = y1 then by rw [e]; omega else j3 i g1 (by omega)), by omega, by omega⟩ (by omega))
          exact ⟨rfl, rfl, trivial⟩
        · replace h15 : (w (17 * a + y1 + 97) 7 : Int) ≠ w (17 * a + y1 + 97) 9 := by have q : ¬ ((w (17 * a + y1 + 97) 7 : Int) = w (17 * a + y1 + 97) 9) := h15; omega
          refine e_Ok.run (t' := (32, [(0, (1, 17 * a + 86)), (1, (0, y1))], [(0, 0)], w)) 1 rfl ?_
          refine e_Ok.rets rfl rfl ?_
          exact ⟨_, rfl, rfl, ⟨by omega, by omega⟩, fun q => absurd q (by decide)⟩
  refine e_Ok.sub kAlk (e_sub_of rfl ?_) (hL1 (6 + 1 : Int).toNat 0 ⟨(fun i g1 g2 => by omega), by omega, by omega⟩ (by omega))
  exact ⟨rfl, rfl, trivial⟩
theorem c_5 {d : Nat} {w : eW} (hT : e_Has kTy w) {a : Int} (g_a : 0 ≤ a ∧ a ≤ 3) : e_Ok 20 elay kcode eI d 5 (0, [(0, (1, 17 * a + 86))], [], w) (fun r w' => ∃ z : Int, r = [(0, z)] ∧ w = w' ∧ ((-2147483648) ≤ z ∧ z ≤ 2147483647)) := by
  refine e_Ok.run (t' := (4, [(2, (0, 0)), (1, (0, 0)), (0, (1, 17 * a + 86))], [], w)) 4 rfl ?_
  have hL1 : ∀ (nn : Nat) (y1 : Int) (y2 : Int), (-2147483648 ≤ y1 ∧ y1 ≤ 2147483647) ∧ (0 ≤ y2 ∧ y2 ≤ 6) → 6 - y2 < nn → e_Ok 20 elay kcode eI d 5 (4, [(0, (1, 17 * a + 86)), (1, (0, y1)), (2, (0, y2))], [], w) (fun r w' => ∃ z : Int, r = [(0, z)] ∧ w = w' ∧ ((-2147483648) ≤ z ∧ z ≤ 2147483647)) := by
    intro nn
    induction nn with
    | zero => intro y1 y2 hj hm; obtain ⟨j3, j4⟩ := hj; exfalso; omega
    | succ nn ih2 =>
      intro y1 y2 hj hm
      obtain ⟨j3, j4⟩ := hj
      refine e_Ok.run (t' := (6, [(0, (1, 17 * a + 86)), (1, (0, y1)), (2, (0, y2))], [(1, 17 * a + 86), (0, y2)], w)) 2 rfl ?_
      have h5 := (e_Has.get hT (c := 17 * a + 86) (k := 8) (lo := 0) (hi := 6) (kA_8 (a := a) (by omega) (by omega)) (by decide))
      refine e_Ok.getf (z := w (17 * a + 86) 8) rfl (lA0 (a := a) (by omega) (by omega)) rfl rfl rfl (by omega) ?_
      refine e_Ok.if2 rfl (fun h6 => ?_) (fun h6 => ?_)
      · replace h6 : (y2 : Int) ≥ w (17 * a + 86) 8 := h6
        refine e_Ok.run (t' := (58, [(0, (1, 17 * a + 86)), (1, (0, y1)), (2, (0, y2))], [(0, y1)], w)) 1 rfl ?_
        refine e_Ok.rets rfl rfl ?_
        exact ⟨_, rfl, rfl, ⟨by omega, by omega⟩⟩
      · replace h6 : (y2 : Int) < w (17 * a + 86) 8 := by have q : ¬ ((y2 : Int) ≥ w (17 * a + 86) 8) := h6; omega
        refine e_Ok.run (t' := (14, [(0, (1, 17 * a + 86)), (1, (0, y1)), (2, (0, y2))], [(1, 17 * a + 86), (0, y1)], w)) 2 rfl ?_
        refine e_Ok.getr (z := 17 * a + 87) rfl (lA0 (a := a) (by omega) (by omega)) rfl rfl (Eq.trans (e_Has.eq hT (kA_0 (a := a) (by omega) (by omega))) (by omega)) (by omega) ?_
        refine e_Ok.run (t' := (18, [(0, (1, 17 * a + 86)), (1, (0, y1)), (2, (0, y2))], [(0, y2), (1, 17 * a + 87), (0, y1)], w)) 1 rfl ?_
        refine e_Ok.aald (z := 17 * a + y2 + 97) rfl (lA1 (a := a) (by omega) (by omega)) rfl (by omega) (Eq.trans (e_Has.eq hT (kA87 (a := a) (by omega) (by omega) (by omega))) (by omega)) (by omega) ?_
        have h7 := (e_Has.get hT (c := 17 * a + y2 + 97) (k := 3) (lo := (-2147483648)) (hi := 2147483647) (kJ_3 (a := a) (j := y2) (by omega) (by omega) (by omega)) (by decide))
        refine e_Ok.getf (z := w (17 * a + y2 + 97) 3) rfl (lJ (a := a) (j := y2) (by omega) (by omega) (by omega)) rfl rfl rfl (by omega) ?_
        refine e_Ok.run (t' := (23, [(0, (1, 17 * a + 86)), (1, (0, y1)), (2, (0, y2))], [(1, 17 * a + 86), (0, w (17 * a + y2 + 97) 3), (0, y1)], w)) 1 rfl ?_
        refine e_Ok.getr (z := 17 * a + 87) rfl (lA0 (a := a) (by omega) (by omega)) rfl rfl (Eq.trans (e_Has.eq hT (kA_0 (a := a) (by omega) (by omega))) (by omega)) (by omega) ?_
        refine e_Ok.run (t' := (27, [(0, (1, 17 * a + 86)), (1, (0, y1)), (2, (0, y2))], [(0, y2), (1, 17 * a + 87), (0, w (17 * a + y2 + 97) 3), (0, y1)], w)) 1 rfl ?_
        refine e_Ok.aald (z := 17 * a + y2 + 97) rfl (lA1 (a := a) (by omega) (by omega)) rfl (by omega) (Eq.trans (e_Has.eq hT (kA87 (a := a) (by omega) (by omega) (by omega))) (by omega)) (by omega) ?_
        have h8 := (e_Has.get hT (c := 17 * a + y2 + 97) (k := 0) (lo := (-2147483648)) (hi := 2147483647) (kJ_0 (a := a) (j := y2) (by omega) (by omega) (by omega)) (by decide))
        refine e_Ok.getf (z := w (17 * a + y2 + 97) 0) rfl (lJ (a := a) (j := y2) (by omega) (by omega) (by omega)) rfl rfl rfl (by omega) ?_
        refine e_Ok.run (t' := (32, [(0, (1, 17 * a + 86)), (1, (0, y1)), (2, (0, y2))], [(0, 1), (0, w (17 * a + y2 + 97) 0), (0, w (17 * a + y2 + 97) 3), (0, y1)], w)) 1 rfl ?_
        refine e_Ok.if2 rfl (fun h9 => ?_) (fun h9 => ?_)
        · replace h9 : (w (17 * a + y2 + 97) 0 : Int) ≠ 1 := h9
          refine e_Ok.run (t' := (48, [(0, (1, 17 * a + 86)), (1, (0, y1)), (2, (0, y2))], [(0, 0), (0, w (17 * a + y2 + 97) 3), (0, y1)], w)) 1 rfl ?_
          refine e_Ok.add (z := w (17 * a + y2 + 97) 3) rfl (by omega) (by omega) ?_
          refine e_Ok.any rfl (eF_add_any _ _) (fun z10 z10a z10b => ?_)
          refine e_Ok.run (t' := (51, [(1, (0, z10)), (0, (1, 17 * a + 86)), (2, (0, y2))], [], w)) 1 rfl ?_
          refine e_Ok.inc (z := y2 + 1) rfl rfl (by omega) (by omega) ?_
          show e_Ok 20 elay kcode eI d 5 (54, [(2, (0, y2 + 1)), (1, (0, z10)), (0, (1, 17 * a + 86))], [], w) _
          refine e_Ok.run (t' := (4, [(2, (0, y2 + 1)), (1, (0, z10)), (0, (1, 17 * a + 86))], [], w)) 1 rfl ?_
          refine e_Ok.sub kAlk (e_sub_of rfl ?_) (ih2 z10 (y2 + 1) ⟨by omega, by omega⟩ (by omega))
          exact ⟨rfl, rfl, rfl, trivial⟩
        · replace h9 : (w (17 * a + y2 + 97) 0 : Int) = 1 := by have q : ¬ ((w (17 * a + y2 + 97) 0 : Int) ≠ 1) := h9; omega
          refine e_Ok.run (t' := (36, [(0, (1, 17 * a + 86)), (1, (0, y1)), (2, (0, y2))], [(1, 17 * a + 86), (0, w (17 * a + y2 + 97) 3), (0, y1)], w)) 1 rfl ?_
          refine e_Ok.getr (z := 17 * a + 87) rfl (lA0 (a := a) (by omega) (by omega)) rfl rfl (Eq.trans (e_Has.eq hT (kA_0 (a := a) (by omega) (by omega))) (by omega)) (by omega) ?_
          refine e_Ok.run (t' := (40, [(0, (1, 17 * a + 86)), (1, (0, y1)), (2, (0, y2))], [(0, y2), (1, 17 * a + 87), (0, w (17 * a + y2 + 97) 3), (0, y1)], w)) 1 rfl ?_
          refine e_Ok.aald (z := 17 * a + y2 + 97) rfl (lA1 (a := a) (by omega) (by omega)) rfl (by omega) (Eq.trans (e_Has.eq hT (kA87 (a := a) (by omega) (by omega) (by omega))) (by omega)) (by omega) ?_
          have h11 := (e_Has.get hT (c := 17 * a + y2 + 97) (k := 2) (lo := (-2147483648)) (hi := 2147483647) (kJ_2 (a := a) (j := y2) (by omega) (by omega) (by omega)) (by decide))
          refine e_Ok.getf (z := w (17 * a + y2 + 97) 2) rfl (lJ (a := a) (j := y2) (by omega) (by omega) (by omega)) rfl rfl rfl (by omega) ?_
          refine e_Ok.run (t' := (48, [(0, (1, 17 * a + 86)), (1, (0, y1)), (2, (0, y2))], [(0, w (17 * a + y2 + 97) 2), (0, w (17 * a + y2 + 97) 3), (0, y1)], w)) 1 rfl ?_
          refine e_Ok.any rfl (eF_add_any _ _) (fun z12 z12a z12b => ?_)
          refine e_Ok.any rfl (eF_add_any _ _) (fun z13 z13a z13b => ?_)
          refine e_Ok.run (t' := (51, [(1, (0, z13)), (0, (1, 17 * a + 86)), (2, (0, y2))], [], w)) 1 rfl ?_
          refine e_Ok.inc (z := y2 + 1) rfl rfl (by omega) (by omega) ?_
          show e_Ok 20 elay kcode eI d 5 (54, [(2, (0, y2 + 1)), (1, (0, z13)), (0, (1, 17 * a + 86))], [], w) _
          refine e_Ok.run (t' := (4, [(2, (0, y2 + 1)), (1, (0, z13)), (0, (1, 17 * a + 86))], [], w)) 1 rfl ?_
          refine e_Ok.sub kAlk (e_sub_of rfl ?_) (ih2 z13 (y2 + 1) ⟨by omega, by omega⟩ (by omega))
          exact ⟨rfl, rfl, rfl, trivial⟩
  refine e_Ok.sub kAlk (e_sub_of rfl ?_) (hL1 (6 + 1 : Int).toNat 0 0 ⟨by omega, by omega⟩ (by omega))
  exact ⟨rfl, rfl, rfl, trivial⟩
theorem c_14 {d : Nat} (hd : 23 ≤ d) {w : eW} (hT : e_Has kTy w) {a : Int} (g_a : 0 ≤ a ∧ a ≤ 3) (kx : aK w a) (ht : kn1 (w (17 * a + 86) 12)) (hst : w (17 * a + 86) 11 = 1 ∨ w (17 * a + 86) 11 = 2) (hm : aMs w a (w (17 * a + 86) 8) (w (17 * a + 86) 11)) : e_Ok 20 elay kcode eI d 14 (0, [(0, (1, 17 * a + 86))], [], w) (fun r w' => ∃ z : Int, r = [(0, z)] ∧ e_fr (kGo a) w w' ∧ e_Has kTy w' ∧ (0 ≤ z ∧ z ≤ 1) ∧ (aMs w' a (w (17 * a + 86) 8) (w (17 * a + 86) 11) ∧ aK w' a)) := by
  obtain ⟨d, rfl⟩ : ∃ e, d = e + 1 := ⟨d - 1, by omega⟩
  have hjn := kn_joints hT (a := a) (by omega)
  have ht0 := ht
  unfold kn1 at ht
  refine e_Ok.run (t' := (4, [(1, (0, 0)), (0, (1, 17 * a + 86))], [(1, 17 * a + 86), (1, 17 * a + 86)], w)) 4 rfl ?_
  refine e_Ok.getf (z := w (17 * a + 86) 12) rfl (lA0 (a := a) (by omega) (by omega)) rfl rfl rfl (by omega) ?_
  refine e_Ok.run (t' := (8, [(1, (0, 0)), (0, (1, 17 * a + 86))], [(0, 1), (0, w (17 * a + 86) 12), (1, 17 * a + 86)], w)) 1 rfl ?_
  refine e_Ok.any rfl (eF_add_any _ _) (fun z1 z1a z1b => ?_)
  refine e_Ok.putf rfl (lA0 (a := a) (by omega) (by omega)) rfl rfl ?_
  generalize hw2 : e_up w (17 * a + 86) 12 z1 = w2
  have f3 : e_fr (kGo a) w w2 := e_fr.up (e_fr.refl w) hw2 (by unfold kGo; omega)
  have l4 : w2 (17 * a + 86) 8 = w (17 * a + 86) 8 := f3 (17 * a + 86) 8 (by unfold kGo; omega)
  have l5 : w2 (17 * a + 86) 11 = w (17 * a + 86) 11 := f3 (17 * a + 86) 11 (by unfold kGo; omega)
  have hT6 : e_Has kTy w2 := e_Has.ups hT hw2 (kA_12 (a := a) (by omega) (by omega))
  refine e_Ok.run (t' := (14, [(2, (0, 0)), (1, (0, 0)), (0, (1, 17 * a + 86))], [], w2)) 2 rfl ?_
  have hL7 : ∀ (nn : Nat) (y1 : Int) (y2 : Int) (v1 : eW), e_fr (kGo a) w v1 ∧ e_Has kTy v1 ∧ aMs v1 a (w (17 * a + 86) 8) (w (17 * a + 86) 11) ∧ aK v1 a ∧ (0 ≤ y1 ∧ y1 ≤ 1) ∧ (0 ≤ y2 ∧ y2 ≤ 6) → 6 - y2 < nn → e_Ok 20 elay kcode eI (d + 1) 14 (14, [(0, (1, 17 * a + 86)), (1, (0, y1)), (2, (0, y2))], [], v1) (fun r w' => ∃ z : Int, r = [(0, z)] ∧ e_fr (kGo a) w w' ∧ e_Has kTy w' ∧ (0 ≤ z ∧ z ≤ 1) ∧ (aMs w' a (w (17 * a + 86) 8) (w (17 * a + 86) 11) ∧ aK w' a)) := by
    intro nn
    induction nn with
    | zero => intro y1 y2 v1 hj hm; obtain ⟨j9, j10, j11, j12, j13, j14⟩ := hj; exfalso; omega
    | succ nn ih8 =>
      intro y1 y2 v1 hj hm
      obtain ⟨j9, j10, j11, j12, j13, j14⟩ := hj
      have l15 : v1 (17 * a + 86) 8 = w (17 * a + 86) 8 := j9 (17 * a + 86) 8 (by unfold kGo; omega)
      have l16 : v1 (17 * a + 86) 11 = w (17 * a + 86) 11 := j9 (17 * a + 86) 11 (by unfold kGo; omega)
      refine e_Ok.run (t' := (16, [(0, (1, 17 * a + 86)), (1, (0, y1)), (2, (0, y2))], [(1, 17 * a + 86), (0, y2)], v1)) 2 rfl ?_
      have h17 := (e_Has.get hT (c := 17 * a + 86) (k := 8) (lo := 0) (hi := 6) (kA_8 (a := a) (by omega) (by omega)) (by decide))
      refine e_Ok.getf (z := w (17 * a + 86) 8) rfl (lA0 (a := a) (by omega) (by omega)) rfl rfl ((j9 (17 * a + 86) 8 (by unfold kGo; omega)).trans rfl) (by omega) ?_
      refine e_Ok.if2 rfl (fun h18 => ?_) (fun h18 => ?_)
      · replace h18 : (y2 : Int) ≥ w (17 * a + 86) 8 := h18
        refine e_Ok.run (t' := (89, [(0, (1, 17 * a + 86)), (1, (0, y1)), (2, (0, y2))], [(0, y1)], v1)) 1 rfl ?_
        refine e_Ok.if1 rfl (fun h19 => ?_) (fun h19 => ?_)
        · replace h19 : (y1 : Int) = 0 := h19
          refine e_Ok.run (t' := (97, [(0, (1, 17 * a + 86)), (1, (0, y1)), (2, (0, y2))], [(0, y1)], v1)) 1 rfl ?_
          refine e_Ok.retb rfl (by omega) ?_
          exact ⟨_, rfl, j9, j10, ⟨by omega, by omega⟩, ⟨j11, j12⟩⟩
        · replace h19 : (y1 : Int) ≠ 0 := by have q : ¬ ((y1 : Int) = 0) := h19; omega
          refine e_Ok.run (t' := (93, [(0, (1, 17 * a + 86)), (1, (0, y1)), (2, (0, y2))], [(1, 17 * a + 86)], v1)) 1 rfl ?_
          refine e_Ok.callV rfl (by omega) rfl (lA0 (a := a) (by omega) (by omega)) rfl rfl (c_10 (by omega) (a := a) j10 (by omega) (j12.1 0 (by omega) (by omega)) (j12.2 0 (by omega) (by omega))) (fun r20 w21 h22 => ?_)
          obtain ⟨rfl, q23f, q23T, q23x⟩ := h22
          have f24 : e_fr (kGo a) w w21 := e_fr.trans j9 (e_fr.mono q23f (fun c k q => by unfold kPl at q; unfold kGo; omega))
          have l25 : w21 (17 * a + 86) 8 = w (17 * a + 86) 8 := f24 (17 * a + 86) 8 (by unfold kGo; omega)
          have l26 : w21 (17 * a + 86) 11 = w (17 * a + 86) 11 := f24 (17 * a + 86) 11 (by unfold kGo; omega)
          show e_Ok 20 elay kcode eI (d + 1) 14 (96, [(0, (1, 17 * a + 86)), (1, (0, y1)), (2, (0, y2))], [], w21) _
          refine e_Ok.run (t' := (97, [(0, (1, 17 * a + 86)), (1, (0, y1)), (2, (0, y2))], [(0, y1)], w21)) 1 rfl ?_
          refine e_Ok.retb rfl (by omega) ?_
          exact ⟨_, rfl, f24, q23T, ⟨by omega, by omega⟩, ⟨fun i g1 g2 => by have e : ∀ k, w21 (17 * a + i + 97) k = v1 (17 * a + i + 97) k := fun k => q23f _ _ (by unfold kPl; omega); have q := j11 i g1 g2; unfold jC jM at q ⊢; simp only [e]; exact q, q23x⟩⟩
      · replace h18 : (y2 : Int) < w (17 * a + 86) 8 := by have q : ¬ ((y2 : Int) ≥ w (17 * a + 86) 8) := h18; omega
        refine e_Ok.run (t' := (23, [(0, (1, 17 * a + 86)), (1, (0, y1)), (2, (0, y2))], [(1, 17 * a + 86)], v1)) 1 rfl ?_
        refine e_Ok.getr (z := 17 * a + 87) rfl (lA0 (a := a) (by omega) (by omega)) rfl rfl ((j9 (17 * a + 86) 0 (by unfold kGo; omega)).trans (Eq.trans (e_Has.eq hT (kA_0 (a := a) (by omega) (by omega))) (by omega))) (by omega) ?_
        refine e_Ok.run (t' := (27, [(0, (1, 17 * a + 86)), (1, (0, y1)), (2, (0, y2))], [(0, y2), (1, 17 * a + 87)], v1)) 1 rfl ?_
        refine e_Ok.aald (z := 17 * a + y2 + 97) rfl (lA1 (a := a) (by omega) (by omega)) rfl (by omega) ((j9 (17 * a + 87) y2 (by unfold kGo; omega)).trans (Eq.trans (e_Has.eq hT (kA87 (a := a) (by omega) (by omega) (by omega))) (by omega))) (by omega) ?_
        refine e_Ok.run (t' := (29, [(3, (1, 17 * a + y2 + 97)), (0, (1, 17 * a + 86)), (1, (0, y1)), (2, (0, y2))], [], v1)) 1 rfl ?_
        have hq := j11 y2 (by omega) (by omega)
        have hqc := hq.1; have hqm := hq.2; unfold jC at hqc; unfold jM joOk at hqm
        have hqt := e_Has.get j10 (c := 17 * a + y2 + 97) (k := 8) (lo := -2000) (hi := 2000) (kJ_8 (a := a) (j := y2) (by omega) (by omega) (by omega)) (by decide)
        have hqv := hqm.1; have hqg := hqm.2.2.1; clear hqm
        refine e_Ok.run (t' := (31, [(3, (1, 17 * a + y2 + 97)), (0, (1, 17 * a + 86)), (1, (0, y1)), (2, (0, y2))], [(1, 17 * a + 86), (1, 17 * a + y2 + 97)], v1)) 2 rfl ?_
        have h27 := (e_Has.get hT (c := 17 * a + 86) (k := 11) (lo := 0) (hi := 2) (kA_11 (a := a) (by omega) (by omega)) (by decide))
        refine e_Ok.getf (z := w (17 * a + 86) 11) rfl (lA0 (a := a) (by omega) (by omega)) rfl rfl ((j9 (17 * a + 86) 11 (by unfold kGo; omega)).trans rfl) (by omega) ?_
        refine e_Ok.run (t' := (35, [(3, (1, 17 * a + y2 + 97)), (0, (1, 17 * a + 86)), (1, (0, y1)), (2, (0, y2))], [(0, 2), (0, w (17 * a + 86) 11), (1, 17 * a + y2 + 97)], v1)) 1 rfl ?_
        refine e_Ok.if2 rfl (fun h28 => ?_) (fun h28 => ?_)
        · replace h28 : (w (17 * a + 86) 11 : Int) ≠ 2 := h28
          refine e_Ok.run (t' := (46, [(3, (1, 17 * a + y2 + 97)), (0, (1, 17 * a + 86)), (1, (0, y1)), (2, (0, y2))], [(1, 17 * a + y2 + 97), (1, 17 * a + y2 + 97)], v1)) 1 rfl ?_
          refine e_Ok.callV rfl (by omega) rfl (lJ (a := a) (j := y2) (by omega) (by omega) (by omega)) rfl rfl (c_90 (by omega) (a := a) (j := y2) j10 (by omega) (by omega) (g := v1 (17 * a + y2 + 97) 6) (by omega) rfl (v := v1 (17 * a + y2 + 97) 7) (s := v1 (17 * a + y2 + 97) 8) (go := v1 (17 * a + y2 + 97) 9) (sp := v1 (17 * a + y2 + 97) 5) (by omega) (by have := hqg (by omega); omega) (by omega) (by omega) rfl rfl rfl rfl) (fun r29 w30 h31 => ?_)
          obtain ⟨z32, rfl, rfl, q33r, q33d⟩ := h31
          clear hqg
          show e_Ok 20 elay kcode eI (d + 1) 14 (49, [(3, (1, 17 * a + y2 + 97)), (0, (1, 17 * a + 86)), (1, (0, y1)), (2, (0, y2))], [(0, z32), (1, 17 * a + y2 + 97)], v1) _
          refine e_Ok.putf rfl (lJ (a := a) (j := y2) (by omega) (by omega) (by omega)) rfl rfl ?_
          generalize hw34 : e_up v1 (17 * a + y2 + 97) 8 z32 = w34
          have f35 : e_fr (kGo a) w w34 := e_fr.up j9 hw34 (by unfold kGo; omega)
          have l36 : w34 (17 * a + 86) 8 = w (17 * a + 86) 8 := f35 (17 * a + 86) 8 (by unfold kGo; omega)
          have l37 : w34 (17 * a + 86) 11 = w (17 * a + 86) 11 := f35 (17 * a + 86) 11 (by unfold kGo; omega)
          have hT38 : e_Has kTy w34 := e_Has.upr j10 hw34 (kJ_8 (a := a) (j := y2) (by omega) (by omega) (by omega)) (by omega)
          refine e_Ok.run (t' := (54, [(3, (1, 17 * a + y2 + 97)), (0, (1, 17 * a + 86)), (1, (0, y1)), (2, (0, y2))], [(1, 17 * a + y2 + 97), (1, 17 * a + y2 + 97)], w34)) 2 rfl ?_
          refine e_Ok.getf (z := v1 (17 * a + y2 + 97) 7) rfl (lJ (a := a) (j := y2) (by omega) (by omega) (by omega)) rfl rfl (by rw [← hw34]; exact (e_up_ne _ _ (Or.inr (by omega))).trans rfl) (by omega) ?_
          refine e_Ok.run (t' := (58, [(3, (1, 17 * a + y2 + 97)), (0, (1, 17 * a + 86)), (1, (0, y1)), (2, (0, y2))], [(1, 17 * a + y2 + 97), (0, v1 (17 * a + y2 + 97) 7), (1, 17 * a + y2 + 97)], w34)) 1 rfl ?_
          refine e_Ok.getf (z := z32) rfl (lJ (a := a) (j := y2) (by omega) (by omega) (by omega)) rfl rfl (by rw [← hw34]; exact e_up_eq _ _ _ _) (by omega) ?_
          refine e_Ok.add (z := v1 (17 * a + y2 + 97) 7 + z32) rfl (by omega) (by omega) ?_
          refine e_Ok.putf rfl (lJ (a := a) (j := y2) (by omega) (by omega) (by omega)) rfl rfl ?_
          generalize hw40 : e_up w34 (17 * a + y2 + 97) 7 (v1 (17 * a + y2 + 97) 7 + z32) = w40
          have f41 : e_fr (kGo a) w w40 := e_fr.up f35 hw40 (by unfold kGo; omega)
          have l42 : w40 (17 * a + 86) 8 = w (17 * a + 86) 8 := f41 (17 * a + 86) 8 (by unfold kGo; omega)
          have l43 : w40 (17 * a + 86) 11 = w (17 * a + 86) 11 := f41 (17 * a + 86) 11 (by unfold kGo; omega)
          have hT44 : e_Has kTy w40 := e_Has.upr hT38 hw40 (kJ_7 (a := a) (j := y2) (by omega) (by omega) (by omega)) (by omega)
          refine e_Ok.run (t' := (66, [(3, (1, 17 * a + y2 + 97)), (0, (1, 17 * a + 86)), (1, (0, y1)), (2, (0, y2))], [(0, y1)], w40)) 1 rfl ?_
          refine e_Ok.if1 rfl (fun h45 => ?_) (fun h45 => ?_)
          · replace h45 : (y1 : Int) ≠ 0 := h45
            refine e_Ok.run (t' := (82, [(1, (0, 1)), (3, (1, 17 * a + y2 + 97)), (0, (1, 17 * a + 86)), (2, (0, y2))], [], w40)) 3 rfl ?_
            refine e_Ok.inc (z := y2 + 1) rfl rfl (by omega) (by omega) ?_
            show e_Ok 20 elay kcode eI (d + 1) 14 (85, [(2, (0, y2 + 1)), (1, (0, 1)), (3, (1, 17 * a + y2 + 97)), (0, (1, 17 * a + 86))], [], w40) _
            refine e_Ok.run (t' := (14, [(2, (0, y2 + 1)), (1, (0, 1)), (3, (1, 17 * a + y2 + 97)), (0, (1, 17 * a + 86))], [], w40)) 1 rfl ?_
            refine e_Ok.sub kAlk (e_sub_of rfl ?_) (ih8 1 (y2 + 1) w40 ⟨f41, hT44, (fun i g1 g2 => if e : i = y2 then by rw [e]; exact jq.step hq hw34 hw40 (by omega) (Or.inl ⟨by omega, q33d⟩) else jq.oth (jq.oth (j11 i g1 g2) hw34 (by omega)) hw40 (by omega)), (aK.up (aK.up j12 hw34 (by omega) (by omega) (by omega)) hw40 (by omega) (by omega) (by omega)), by omega, by omega⟩ (by omega))
            exact ⟨rfl, rfl, rfl, trivial⟩
          · replace h45 : (y1 : Int) = 0 := by have q : ¬ ((y1 : Int) ≠ 0) := h45; omega
            refine e_Ok.run (t' := (70, [(3, (1, 17 * a + y2 + 97)), (0, (1, 17 * a + 86)), (1, (0, y1)), (2, (0, y2))], [(1, 17 * a + y2 + 97)], w40)) 1 rfl ?_
            refine e_Ok.getf (z := z32) rfl (lJ (a := a) (j := y2) (by omega) (by omega) (by omega)) rfl rfl (by rw [← hw40]; exact (e_up_ne _ _ (Or.inr (by omega))).trans (by rw [← hw34]; exact e_up_eq _ _ _ _)) (by omega) ?_
            have hJ48 : ∀ m47 : Int, 0 ≤ m47 ∧ m47 ≤ 1 → e_Ok 20 elay kcode eI (d + 1) 14 (81, [(3, (1, 17 * a + y2 + 97)), (0, (1, 17 * a + 86)), (1, (0, y1)), (2, (0, y2))], [(0, m47)], w40) (fun r w' => ∃ z : Int, r = [(0, z)] ∧ e_fr (kGo a) w w' ∧ e_Has kTy w' ∧ (0 ≤ z ∧ z ≤ 1) ∧ (aMs w' a (w (17 * a + 86) 8) (w (17 * a + 86) 11) ∧ aK w' a)) := by
              intro m47 m47r
              refine e_Ok.run (t' := (82, [(1, (0, m47)), (3, (1, 17 * a + y2 + 97)), (0, (1, 17 * a + 86)), (2, (0, y2))], [], w40)) 1 rfl ?_
              refine e_Ok.inc (z := y2 + 1) rfl rfl (by omega) (by omega) ?_
              show e_Ok 20 elay kcode eI (d + 1) 14 (85, [(2, (0, y2 + 1)), (1, (0, m47)), (3, (1, 17 * a + y2 + 97)), (0, (1, 17 * a + 86))], [], w40) _
              refine e_Ok.run (t' := (14, [(2, (0, y2 + 1)), (1, (0, m47)), (3, (1, 17 * a + y2 + 97)), (0, (1, 17 * a + 86))], [], w40)) 1 rfl ?_
              refine e_Ok.sub kAlk (e_sub_of rfl ?_) (ih8 m47 (y2 + 1) w40 ⟨f41, hT44, (fun i g1 g2 => if e : i = y2 then by rw [e]; exact jq.step hq hw34 hw40 (by omega) (Or.inl ⟨by omega, q33d⟩) else jq.oth (jq.oth (j11 i g1 g2) hw34 (by omega)) hw40 (by omega)), (aK.up (aK.up j12 hw34 (by omega) (by omega) (by omega)) hw40 (by omega) (by omega) (by omega)), by omega, by omega⟩ (by omega))
              exact ⟨rfl, rfl, rfl, trivial⟩
            refine e_Ok.if1 rfl (fun h46 => ?_) (fun h46 => ?_)
            · exact e_Ok.run 1 rfl (hJ48 0 (by omega))
            · exact e_Ok.run 2 rfl (hJ48 1 (by omega))
        · replace h28 : (w (17 * a + 86) 11 : Int) = 2 := by have q : ¬ ((w (17 * a + 86) 11 : Int) ≠ 2) := h28; omega
          refine e_Ok.run (t' := (39, [(3, (1, 17 * a + y2 + 97)), (0, (1, 17 * a + 86)), (1, (0, y1)), (2, (0, y2))], [(1, 17 * a + y2 + 97), (1, 17 * a + y2 + 97)], v1)) 1 rfl ?_
          refine e_Ok.callV rfl (by omega) rfl (lJ (a := a) (j := y2) (by omega) (by omega) (by omega)) rfl rfl (c_91 (a := a) (j := y2) j10 (by omega) (by omega) (g := v1 (17 * a + y2 + 97) 6) (by omega) rfl (s := v1 (17 * a + y2 + 97) 8) (by omega) rfl) (fun r49 w50 h51 => ?_)
          obtain ⟨z52, rfl, rfl, q53r, q53d⟩ := h51
          clear hqg
          show e_Ok 20 elay kcode eI (d + 1) 14 (42, [(3, (1, 17 * a + y2 + 97)), (0, (1, 17 * a + 86)), (1, (0, y1)), (2, (0, y2))], [(0, z52), (1, 17 * a + y2 + 97)], v1) _
          refine e_Ok.run (t' := (49, [(3, (1, 17 * a + y2 + 97)), (0, (1, 17 * a + 86)), (1, (0, y1)), (2, (0, y2))], [(0, z52), (1, 17 * a + y2 + 97)], v1)) 1 rfl ?_
          refine e_Ok.putf rfl (lJ (a := a) (j := y2) (by omega) (by omega) (by omega)) rfl rfl ?_
          generalize hw54 : e_up v1 (17 * a + y2 + 97) 8 z52 = w54
          have f55 : e_fr (kGo a) w w54 := e_fr.up j9 hw54 (by unfold kGo; omega)
          have l56 : w54 (17 * a + 86) 8 = w (17 * a + 86) 8 := f55 (17 * a + 86) 8 (by unfold kGo; omega)
          have l57 : w54 (17 * a + 86) 11 = w (17 * a + 86) 11 := f55 (17 * a + 86) 11 (by unfold kGo; omega)
          have hT58 : e_Has kTy w54 := e_Has.upr j10 hw54 (kJ_8 (a := a) (j := y2) (by omega) (by omega) (by omega)) (by omega)
          refine e_Ok.run (t' := (54, [(3, (1, 17 * a + y2 + 97)), (0, (1, 17 * a + 86)), (1, (0, y1)), (2, (0, y2))], [(1, 17 * a + y2 + 97), (1, 17 * a + y2 + 97)], w54)) 2 rfl ?_
          refine e_Ok.getf (z := v1 (17 * a + y2 + 97) 7) rfl (lJ (a := a) (j := y2) (by omega) (by omega) (by omega)) rfl rfl (by rw [← hw54]; exact (e_up_ne _ _ (Or.inr (by omega))).trans rfl) (by omega) ?_
          refine e_Ok.run (t' := (58, [(3, (1, 17 * a + y2 + 97)), (0, (1, 17 * a + 86)), (1, (0, y1)), (2, (0, y2))], [(1, 17 * a + y2 + 97), (0, v1 (17 * a + y2 + 97) 7), (1, 17 * a + y2 + 97)], w54)) 1 rfl ?_
          refine e_Ok.getf (z := z52) rfl (lJ (a := a) (j := y2) (by omega) (by omega) (by omega)) rfl rfl (by rw [← hw54]; exact e_up_eq _ _ _ _) (by omega) ?_
          refine e_Ok.add (z := v1 (17 * a + y2 + 97) 7 + z52) rfl (by omega) (by omega) ?_
          refine e_Ok.putf rfl (lJ (a := a) (j := y2) (by omega) (by omega) (by omega)) rfl rfl ?_
          generalize hw59 : e_up w54 (17 * a + y2 + 97) 7 (v1 (17 * a + y2 + 97) 7 + z52) = w59
          have f60 : e_fr (kGo a) w w59 := e_fr.up f55 hw59 (by unfold kGo; omega)
          have l61 : w59 (17 * a + 86) 8 = w (17 * a + 86) 8 := f60 (17 * a + 86) 8 (by unfold kGo; omega)
          have l62 : w59 (17 * a + 86) 11 = w (17 * a + 86) 11 := f60 (17 * a + 86) 11 (by unfold kGo; omega)
          have hT63 : e_Has kTy w59 := e_Has.upr hT58 hw59 (kJ_7 (a := a) (j := y2) (by omega) (by omega) (by omega)) (by omega)
          refine e_Ok.run (t' := (66, [(3, (1, 17 * a + y2 + 97)), (0, (1, 17 * a + 86)), (1, (0, y1)), (2, (0, y2))], [(0, y1)], w59)) 1 rfl ?_
          refine e_Ok.if1 rfl (fun h64 => ?_) (fun h64 => ?_)
          · replace h64 : (y1 : Int) ≠ 0 := h64
            refine e_Ok.run (t' := (82, [(1, (0, 1)), (3, (1, 17 * a + y2 + 97)), (0, (1, 17 * a + 86)), (2, (0, y2))], [], w59)) 3 rfl ?_
            refine e_Ok.inc (z := y2 + 1) rfl rfl (by omega) (by omega) ?_
            show e_Ok 20 elay kcode eI (d + 1) 14 (85, [(2, (0, y2 + 1)), (1, (0, 1)), (3, (1, 17 * a + y2 + 97)), (0, (1, 17 * a + 86))], [], w59) _
            refine e_Ok.run (t' := (14, [(2, (0, y2 + 1)), (1, (0, 1)), (3, (1, 17 * a + y2 + 97)), (0, (1, 17 * a + 86))], [], w59)) 1 rfl ?_
            refine e_Ok.sub kAlk (e_sub_of rfl ?_) (ih8 1 (y2 + 1) w59 ⟨f60, hT63, (fun i g1 g2 => if e : i = y2 then by rw [e]; exact jq.step hq hw54 hw59 (by omega) (Or.inr ⟨by omega, q53d⟩) else jq.oth (jq.oth (j11 i g1 g2) hw54 (by omega)) hw59 (by omega)), (aK.up (aK.up j12 hw54 (by omega) (by omega) (by omega)) hw59 (by omega) (by omega) (by omega)), by omega, by omega⟩ (by omega))
            exact ⟨rfl, rfl, rfl, trivial⟩
          · replace h64 : (y1 : Int) = 0 := by have q : ¬ ((y1 : Int) ≠ 0) := h64; omega
            refine e_Ok.run (t' := (70, [(3, (1, 17 * a + y2 + 97)), (0, (1, 17 * a + 86)), (1, (0, y1)), (2, (0, y2))], [(1, 17 * a + y2 + 97)], w59)) 1 rfl ?_
            refine e_Ok.getf (z := z52) rfl (lJ (a := a) (j := y2) (by omega) (by omega) (by omega)) rfl rfl (by rw [← hw59]; exact (e_up_ne _ _ (Or.inr (by omega))).trans (by rw [← hw54]; exact e_up_eq _ _ _ _)) (by omega) ?_
            have hJ67 : ∀ m66 : Int, 0 ≤ m66 ∧ m66 ≤ 1 → e_Ok 20 elay kcode eI (d + 1) 14 (81, [(3, (1, 17 * a + y2 + 97)), (0, (1, 17 * a + 86)), (1, (0, y1)), (2, (0, y2))], [(0, m66)], w59) (fun r w' => ∃ z : Int, r = [(0, z)] ∧ e_fr (kGo a) w w' ∧ e_Has kTy w' ∧ (0 ≤ z ∧ z ≤ 1) ∧ (aMs w' a (w (17 * a + 86) 8) (w (17 * a + 86) 11) ∧ aK w' a)) := by
              intro m66 m66r
              refine e_Ok.run (t' := (82, [(1, (0, m66)), (3, (1, 17 * a + y2 + 97)), (0, (1, 17 * a + 86)), (2, (0, y2))], [], w59)) 1 rfl ?_
              refine e_Ok.inc (z := y2 + 1) rfl rfl (by omega) (by omega) ?_
              show e_Ok 20 elay kcode eI (d + 1) 14 (85, [(2, (0, y2 + 1)), (1, (0, m66)), (3, (1, 17 * a + y2 + 97)), (0, (1, 17 * a + 86))], [], w59) _
              refine e_Ok.run (t' := (14, [(2, (0, y2 + 1)), (1, (0, m66)), (3, (1, 17 * a + y2 + 97)), (0, (1, 17 * a + 86))], [], w59)) 1 rfl ?_
              refine e_Ok.sub kAlk (e_sub_of rfl ?_) (ih8 m66 (y2 + 1) w59 ⟨f60, hT63, (fun i g1 g2 => if e : i = y2 then by rw [e]; exact jq.step hq hw54 hw59 (by omega) (Or.inr ⟨by omega, q53d⟩) else jq.oth (jq.oth (j11 i g1 g2) hw54 (by omega)) hw59 (by omega)), (aK.up (aK.up j12 hw54 (by omega) (by omega) (by omega)) hw59 (by omega) (by omega) (by omega)), by omega, by omega⟩ (by omega))
              exact ⟨rfl, rfl, rfl, trivial⟩
            refine e_Ok.if1 rfl (fun h65 => ?_) (fun h65 => ?_)
            · exact e_Ok.run 1 rfl (hJ67 0 (by omega))
            · exact e_Ok.run 2 rfl (hJ67 1 (by omega))
  refine e_Ok.sub kAlk (e_sub_of rfl ?_) (hL7 (6 + 1 : Int).toNat 0 0 w2 ⟨f3, hT6, (fun i g1 g2 => jq.oth (hm i g1 g2) hw2 (by omega)), (aK.up kx hw2 (by omega) (by omega) (by omega)), by omega, by omega⟩ (by omega))
  exact ⟨rfl, rfl, rfl, trivial⟩
end
