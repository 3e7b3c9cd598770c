noncomputable section
/-! the class: the floor is as at the beginning -/
section D2
variable {w w' : eW}
/-- the parts below n are put where they were told -/
def fKn (w : eW) (n : Int) : Prop := (∀ b, 0 ≤ b → b < w 19 0 → (0 ≤ w 35 b ∧ w 35 b ≤ n) ∧ ∀ i, 0 ≤ i → i < w 35 b → (0 ≤ w (b + 31) i ∧ w (b + 31) i < n) ∧ w 36 (w (b + 31) i) = b) ∧ ∀ p, 0 ≤ p → p < n → fP w p
theorem fKn.fK {n : Int} (h : fKn w n) (hn : w 19 1 = n) (h2 : n ≤ 32) : fK w := by
  refine ⟨fun b g1 g2 => ?_, fun p g1 g2 => h.2 p g1 (by omega)⟩
  have q := h.1 b g1 g2
  unfold fO
  rw [hn]
  exact ⟨⟨q.1.1, by omega⟩, q.2⟩
theorem fKn.ord {n b : Int} (h : fKn w n) (hb : 0 ≤ b ∧ b < w 19 0) (hB : w 19 0 ≤ 4) (hn : n < 32) : (0 ≤ w 35 b ∧ w 35 b ≤ 32) ∧ ∀ i, 0 ≤ i → i < w 35 b → (0 ≤ w (b + 31) i ∧ w (b + 31) i ≤ 31) ∧ kn1 (w 37 (w (b + 31) i)) := by
  have q := h.1 b hb.1 hb.2
  refine ⟨⟨q.1.1, by omega⟩, fun i g1 g2 => ?_⟩
  have z := q.2 i g1 g2
  have y := h.2 _ z.1.1 z.1.2
  exact ⟨⟨z.1.1, by omega⟩, (y.2.1 (by omega)).2⟩
theorem fP.eq {p : Int} (h : ∀ c k, (c = 36 ∨ c = 37 ∨ c = 39 ∨ c = 40) → k = p → w' c k = w c k) (h0 : w' 19 0 = w 19 0) (q : fP w p) : fP w' p := by
  unfold fP at q ⊢
  rw [h 36 p (by omega) rfl, h 37 p (by omega) rfl, h 39 p (by omega) rfl, h 40 p (by omega) rfl, h0]
  exact q
theorem fKn.come {n b s : Int} (h : fKn w n) (hb : 0 ≤ b ∧ b < w 19 0) (hB : w 19 0 ≤ 4) (hn : 0 ≤ n ∧ n < 32) (hs : kn1 s) (hc : cmT w w' b n s) : fKn w' (n + 1) := by
  have qb := h.1 b hb.1 hb.2
  rcases hc with ⟨g, -⟩ | ⟨-, ⟨e1, e2, e3⟩, e4, e5⟩
  · omega
  have e0 : w' 19 0 = w 19 0 := e4 19 0 (by omega) (by omega) (by omega) (by omega)
  refine ⟨fun b' g1 g2 => ?_, fun p g1 g2 => ?_⟩
  · rw [e0] at g2
    by_cases e : b' = b
    · rw [e, e1]
      refine ⟨by omega, fun i g3 g4 => ?_⟩
      rcases e5 i g3 (by omega) with g5 | ⟨j, g5, g6⟩
      · rw [g5]
        exact ⟨by omega, e2⟩
      · rw [g6]
        have z := qb.2 j g5.1 g5.2
        rw [e4 36 _ (by omega) (by omega) (by omega) (by omega)]
        exact ⟨by omega, z.2⟩
    · have q := h.1 b' g1 g2
      rw [e4 35 b' (by omega) (by omega) (by omega) (by omega)]
      refine ⟨by omega, fun i g3 g4 => ?_⟩
      have z := q.2 i g3 g4
      rw [e4 (b' + 31) i (by omega) (by omega) (by omega) (by omega), e4 36 _ (by omega) (by omega) (by omega) (by omega)]
      exact ⟨by omega, z.2⟩
  · by_cases e : p = n
    · rw [e]
      unfold fP
      rw [e2, e3, e0]
      exact ⟨by omega, fun _ => ⟨hb.2, hs⟩, fun g => by omega⟩
    · exact (h.2 p g1 (by omega)).eq (fun c k g3 g4 => e4 c k (by omega) (by omega) (by omega) (by omega)) e0
theorem fKn.lie {n x y : Int} {w1 w2 : eW} (h : fKn w n) (hB : w 19 0 ≤ 4) (hn : 0 ≤ n) (hx : kn1 x) (hy : kn1 y) (h1 : e_up w 36 n 8 = w1) (h2 : e_up w1 39 n x = w2) (h3 : e_up w2 40 n y = w') : fKn w' (n + 1) := by
  have e4 : ∀ c k, ¬ ((c = 36 ∨ c = 39 ∨ c = 40) ∧ k = n) → w' c k = w c k := fun c k g => by rw [← h3, e_up_ne _ _ (by omega), ← h2, e_up_ne _ _ (by omega), ← h1, e_up_ne _ _ (by omega)]
  have e36 : w' 36 n = 8 := by rw [← h3, e_up_ne _ _ (by omega), ← h2, e_up_ne _ _ (by omega), ← h1, e_up_eq]
  have e39 : w' 39 n = x := by rw [← h3, e_up_ne _ _ (by omega), ← h2, e_up_eq]
  have e40 : w' 40 n = y := by rw [← h3, e_up_eq]
  have e0 : w' 19 0 = w 19 0 := e4 19 0 (by omega)
  refine ⟨fun b g1 g2 => ?_, fun p g1 g2 => ?_⟩
  · rw [e0] at g2
    have q := h.1 b g1 g2
    rw [e4 35 b (by omega)]
    refine ⟨by omega, fun i g3 g4 => ?_⟩
    have z := q.2 i g3 g4
    rw [e4 (b + 31) i (by omega), e4 36 _ (by omega)]
    exact ⟨by omega, z.2⟩
  · by_cases e : p = n
    · rw [e]
      unfold fP
      rw [e36, e39, e40]
      exact ⟨by decide, fun g => absurd g (by decide), fun _ => ⟨hx, hy⟩⟩
    · exact (h.2 p g1 (by omega)).eq (fun c k g3 g4 => e4 c k (by omega)) e0
end D2
theorem c_79_z {d : Nat} {w : eW} (hT : e_Has kCy w) {p x y : Int} (gp : 0 ≤ p ∧ p ≤ 31) (gx : -2147483648 ≤ x ∧ x ≤ 2147483647) (gy : -2147483648 ≤ y ∧ y ≤ 2147483647) : e_Ok 20 elay kcode eI d 79 (0, [(0, (1, 19)), (1, (0, p)), (2, (0, x)), (3, (0, y))], [], w) (fun r w' => r = [] ∧ e_fr kFl w w' ∧ e_Has kCy w' ∧ ∃ z8 w1 w2, z8 = 8 ∧ e_up w 36 p z8 = w1 ∧ e_up w1 39 p x = w2 ∧ e_up w2 40 p y = w') := by
  refine e_Ok.run (t' := (1, [(0, (1, 19)), (1, (0, p)), (2, (0, x)), (3, (0, y))], [(1, 19)], w)) 1 rfl ?_
  refine e_Ok.getr (z := 36) rfl (el_o rfl) rfl rfl (Eq.trans (e_Has.eq hT (kCy_c rfl)) (by omega)) (by omega) ?_
  refine e_Ok.run (t' := (7, [(0, (1, 19)), (1, (0, p)), (2, (0, x)), (3, (0, y))], [(0, 8), (0, p), (1, 36)], w)) 2 rfl ?_
  refine e_Ok.ast rfl (el_o rfl) rfl rfl (by omega) ?_
  generalize hw1 : e_up w 36 p 8 = w1
  have f2 : e_fr kFl w w1 := e_fr.up (e_fr.refl w) hw1 (by unfold kFl; omega)
  have hT3 : e_Has kCy w1 := e_Has.ups hT hw1 (kCy_no1 rfl)
  refine e_Ok.run (t' := (9, [(0, (1, 19)), (1, (0, p)), (2, (0, x)), (3, (0, y))], [(1, 19)], w1)) 1 rfl ?_
  refine e_Ok.getr (z := 39) rfl (el_o rfl) rfl rfl (by rw [← hw1]; exact (e_up_ne _ _ (Or.inl (by omega))).trans (Eq.trans (e_Has.eq hT (kCy_c rfl)) (by omega))) (by omega) ?_
  refine e_Ok.run (t' := (14, [(0, (1, 19)), (1, (0, p)), (2, (0, x)), (3, (0, y))], [(0, x), (0, p), (1, 39)], w1)) 2 rfl ?_
  refine e_Ok.ast rfl (el_o rfl) rfl rfl (by omega) ?_
  generalize hw4 : e_up w1 39 p x = w4
  have f5 : e_fr kFl w w4 := e_fr.up f2 hw4 (by unfold kFl; omega)
  have hT6 : e_Has kCy w4 := e_Has.ups hT3 hw4 (kCy_no1 rfl)
  refine e_Ok.run (t' := (16, [(0, (1, 19)), (1, (0, p)), (2, (0, x)), (3, (0, y))], [(1, 19)], w4)) 1 rfl ?_
  refine e_Ok.getr (z := 40) rfl (el_o rfl) rfl rfl (by rw [← hw4]; exact (e_up_ne _ _ (Or.inl (by omega))).trans (by rw [← hw1]; exact (e_up_ne _ _ (Or.inl (by omega))).trans (Eq.trans (e_Has.eq hT (kCy_c rfl)) (by omega)))) (by omega) ?_
  refine e_Ok.run (t' := (21, [(0, (1, 19)), (1, (0, p)), (2, (0, x)), (3, (0, y))], [(0, y), (0, p), (1, 40)], w4)) 2 rfl ?_
  refine e_Ok.ast rfl (el_o rfl) rfl rfl (by omega) ?_
  generalize hw7 : e_up w4 40 p y = w7
  have f8 : e_fr kFl w w7 := e_fr.up f5 hw7 (by unfold kFl; omega)
  have hT9 : e_Has kCy w7 := e_Has.ups hT6 hw7 (kCy_no1 rfl)
  refine e_Ok.rets rfl rfl ?_
  exact ⟨rfl, f8, hT9, 8, _, _, rfl, hw1, hw4, hw7⟩
theorem c_80_z {d : Nat} {w : eW} (hT : e_Has kCy w) {b p s : Int} (g_b : 0 ≤ b ∧ b ≤ 3) (g_p : 0 ≤ p ∧ p ≤ 31) (g_s : (-2147483648) ≤ s ∧ s ≤ 2147483647) (hO : (0 ≤ w 35 b ∧ w 35 b ≤ 32) ∧ ∀ i, 0 ≤ i → i < w 35 b → (0 ≤ w (b + 31) i ∧ w (b + 31) i ≤ 31) ∧ kn1 (w 37 (w (b + 31) i))) : e_Ok 20 elay kcode eI d 80 (0, [(0, (1, 19)), (1, (0, b)), (2, (0, p)), (3, (0, s))], [], w) (fun r w' => r = [] ∧ e_fr kFl w w' ∧ e_Has kCy w' ∧ cmT w w' b p s) := by
  refine e_Ok.run (t' := (1, [(0, (1, 19)), (1, (0, b)), (2, (0, p)), (3, (0, s))], [(1, 19)], w)) 1 rfl ?_
  refine e_Ok.getr (z := 35) rfl (el_o rfl) rfl rfl (Eq.trans (e_Has.eq hT (kCy_c rfl)) (by omega)) (by omega) ?_
  refine e_Ok.run (t' := (5, [(0, (1, 19)), (1, (0, b)), (2, (0, p)), (3, (0, s))], [(0, b), (1, 35)], w)) 1 rfl ?_
  refine e_Ok.ald (z := w 35 b) rfl (el_o rfl) rfl (by omega) rfl (by omega) ?_
  refine e_Ok.run (t' := (8, [(0, (1, 19)), (1, (0, b)), (2, (0, p)), (3, (0, s))], [(0, 32), (0, w 35 b)], w)) 1 rfl ?_
  refine e_Ok.if2 rfl (fun h1 => ?_) (fun h1 => ?_)
  · replace h1 : (w 35 b : Int) < 32 := h1
    refine e_Ok.run (t' := (13, [(0, (1, 19)), (1, (0, b)), (2, (0, p)), (3, (0, s))], [(1, 19)], w)) 1 rfl ?_
    refine e_Ok.getr (z := 35) rfl (el_o rfl) rfl rfl (Eq.trans (e_Has.eq hT (kCy_c rfl)) (by omega)) (by omega) ?_
    refine e_Ok.run (t' := (17, [(0, (1, 19)), (1, (0, b)), (2, (0, p)), (3, (0, s))], [(0, b), (1, 35)], w)) 1 rfl ?_
    refine e_Ok.ald (z := w 35 b) rfl (el_o rfl) rfl (by omega) rfl (by omega) ?_
    refine e_Ok.run (t' := (20, [(4, (0, w 35 b)), (0, (1, 19)), (1, (0, b)), (2, (0, p)), (3, (0, s))], [], w)) 1 rfl ?_
    have hL2 : ∀ (nn : Nat) (y4 : Int) (v1 : eW), e_fr kFl w v1 ∧ e_Has kCy v1 ∧ (∀ c k, c ≠ b + 31 → v1 c k = w c k) ∧ (∀ j, 0 ≤ j → j < y4 → v1 (b + 31) j = w (b + 31) j) ∧ (∀ j, y4 < j → j ≤ w 35 b → v1 (b + 31) j = w (b + 31) (j - 1)) ∧ y4 ≤ w 35 b ∧ (0 ≤ y4 ∧ y4 ≤ 32) → y4 < nn → e_Ok 20 elay kcode eI d 80 (20, [(0, (1, 19)), (1, (0, b)), (2, (0, p)), (3, (0, s)), (4, (0, y4))], [], v1) (fun r w' => r = [] ∧ e_fr kFl w w' ∧ e_Has kCy w' ∧ cmT w w' b p s) := by
      intro nn
      induction nn with
      | zero => intro y4 v1 hj hm; obtain ⟨j4, j5, j6, j7, j8, j9, j10⟩ := hj; exfalso; omega
      | succ nn ih3 =>
        intro y4 v1 hj hm
        obtain ⟨j4, j5, j6, j7, j8, j9, j10⟩ := hj
        refine e_Ok.run (t' := (22, [(0, (1, 19)), (1, (0, b)), (2, (0, p)), (3, (0, s)), (4, (0, y4))], [(0, y4)], v1)) 1 rfl ?_
        refine e_Ok.if1 rfl (fun h11 => ?_) (fun h11 => ?_)
        · replace h11 : (y4 : Int) ≤ 0 := h11
          have e35 : v1 35 b = w 35 b := j6 _ _ (by omega)
          refine e_Ok.run (t' := (72, [(0, (1, 19)), (1, (0, b)), (2, (0, p)), (3, (0, s)), (4, (0, y4))], [(1, 19)], v1)) 1 rfl ?_
          refine e_Ok.getr (z := 30) rfl (el_o rfl) rfl rfl ((j4 19 12 (by unfold kFl; omega)).trans (Eq.trans (e_Has.eq hT (kCy_c rfl)) (by omega))) (by omega) ?_
          refine e_Ok.run (t' := (76, [(0, (1, 19)), (1, (0, b)), (2, (0, p)), (3, (0, s)), (4, (0, y4))], [(0, b), (1, 30)], v1)) 1 rfl ?_
          refine e_Ok.aald (z := b + 31) rfl (el_o rfl) rfl (by omega) ((j4 30 b (by unfold kFl; omega)).trans (Eq.trans (e_Has.eq hT (kCy_c (k30 (by omega)))) (by omega))) (by omega) ?_
          refine e_Ok.run (t' := (80, [(0, (1, 19)), (1, (0, b)), (2, (0, p)), (3, (0, s)), (4, (0, y4))], [(0, p), (0, y4), (1, b + 31)], v1)) 2 rfl ?_
          refine e_Ok.ast rfl (lO (b := b) (by omega) (by omega)) rfl rfl (by omega) ?_
          generalize hw12 : e_up v1 (b + 31) y4 p = w12
          have f13 : e_fr kFl w w12 := e_fr.up j4 hw12 (by unfold kFl; omega)
          have hT14 : e_Has kCy w12 := e_Has.ups j5 hw12 (kCy_no1 (kO (b := b) _ (by omega) (by omega)))
          refine e_Ok.run (t' := (82, [(0, (1, 19)), (1, (0, b)), (2, (0, p)), (3, (0, s)), (4, (0, y4))], [(1, 19)], w12)) 1 rfl ?_
          refine e_Ok.getr (z := 35) rfl (el_o rfl) rfl rfl (by rw [← hw12]; exact (e_up_ne _ _ (Or.inl (by omega))).trans ((j4 19 13 (by unfold kFl; omega)).trans (Eq.trans (e_Has.eq hT (kCy_c rfl)) (by omega)))) (by omega) ?_
          refine e_Ok.run (t' := (87, [(0, (1, 19)), (1, (0, b)), (2, (0, p)), (3, (0, s)), (4, (0, y4))], [(0, b), (1, 35), (0, b), (1, 35)], w12)) 2 rfl ?_
          refine e_Ok.ald (z := w 35 b) rfl (el_o rfl) rfl (by omega) (by rw [← hw12]; exact (e_up_ne _ _ (Or.inl (by omega))).trans e35) (by omega) ?_
          refine e_Ok.run (t' := (89, [(0, (1, 19)), (1, (0, b)), (2, (0, p)), (3, (0, s)), (4, (0, y4))], [(0, 1), (0, w 35 b), (0, b), (1, 35)], w12)) 1 rfl ?_
          refine e_Ok.add (z := w 35 b + 1) rfl (by omega) (by omega) ?_
          refine e_Ok.ast rfl (el_o rfl) rfl rfl (by omega) ?_
          generalize hw15 : e_up w12 35 b (w 35 b + 1) = w15
          have f16 : e_fr kFl w w15 := e_fr.up f13 hw15 (by unfold kFl; omega)
          have hT17 : e_Has kCy w15 := e_Has.ups hT14 hw15 (kCy_no1 rfl)
          refine e_Ok.run (t' := (92, [(0, (1, 19)), (1, (0, b)), (2, (0, p)), (3, (0, s)), (4, (0, y4))], [(1, 19)], w15)) 1 rfl ?_
          refine e_Ok.getr (z := 36) rfl (el_o rfl) rfl rfl (by rw [← hw15]; exact (e_up_ne _ _ (Or.inl (by omega))).trans (by rw [← hw12]; exact (e_up_ne _ _ (Or.inl (by omega))).trans ((j4 19 14 (by unfold kFl; omega)).trans (Eq.trans (e_Has.eq hT (kCy_c rfl)) (by omega))))) (by omega) ?_
          refine e_Ok.run (t' := (97, [(0, (1, 19)), (1, (0, b)), (2, (0, p)), (3, (0, s)), (4, (0, y4))], [(0, b), (0, p), (1, 36)], w15)) 2 rfl ?_
          refine e_Ok.ast rfl (el_o rfl) rfl rfl (by omega) ?_
          generalize hw18 : e_up w15 36 p b = w18
          have f19 : e_fr kFl w w18 := e_fr.up f16 hw18 (by unfold kFl; omega)
          have hT20 : e_Has kCy w18 := e_Has.ups hT17 hw18 (kCy_no1 rfl)
          refine e_Ok.run (t' := (99, [(0, (1, 19)), (1, (0, b)), (2, (0, p)), (3, (0, s)), (4, (0, y4))], [(1, 19)], w18)) 1 rfl ?_
          refine e_Ok.getr (z := 37) rfl (el_o rfl) rfl rfl (by rw [← hw18]; exact (e_up_ne _ _ (Or.inl (by omega))).trans (by rw [← hw15]; exact (e_up_ne _ _ (Or.inl (by omega))).trans (by rw [← hw12]; exact (e_up_ne _ _ (Or.inl (by omega))).trans ((j4 19 15 (by unfold kFl; omega)).trans (Eq.trans (e_Has.eq hT (kCy_c rfl)) (by omega)))))) (by omega) ?_
          refine e_Ok.run (t' := (104, [(0, (1, 19)), (1, (0, b)), (2, (0, p)), (3, (0, s)), (4, (0, y4))], [(0, s), (0, p), (1, 37)], w18)) 2 rfl ?_
          refine e_Ok.ast rfl (el_o rfl) rfl rfl (by omega) ?_
          generalize hw21 : e_up w18 37 p s = w21
          have f22 : e_fr kFl w w21 := e_fr.up f19 hw21 (by unfold kFl; omega)
          have hT23 : e_Has kCy w21 := e_Has.ups hT20 hw21 (kCy_no1 rfl)
          refine e_Ok.rets rfl rfl ?_
          exact ⟨rfl, f22, hT23, cmT.mk (by omega) (by omega) (by omega) j6 j7 j8 (by omega) hw12 hw15 hw18 hw21⟩
        · replace h11 : (y4 : Int) > 0 := by have q : ¬ ((y4 : Int) ≤ 0) := h11; omega
          have hq := hO.2 (y4 - 1) (by omega) (by omega); unfold kn1 at hq
          have eq5 : v1 (b + 31) (y4 - 1) = w (b + 31) (y4 - 1) := j7 (y4 - 1) (by omega) (by omega)
          have eq6 : v1 37 (w (b + 31) (y4 - 1)) = w 37 (w (b + 31) (y4 - 1)) := j6 _ _ (by omega)
          refine e_Ok.run (t' := (26, [(0, (1, 19)), (1, (0, b)), (2, (0, p)), (3, (0, s)), (4, (0, y4))], [(1, 19)], v1)) 1 rfl ?_
          refine e_Ok.getr (z := 37) rfl (el_o rfl) rfl rfl ((j4 19 15 (by unfold kFl; omega)).trans (Eq.trans (e_Has.eq hT (kCy_c rfl)) (by omega))) (by omega) ?_
          refine e_Ok.run (t' := (30, [(0, (1, 19)), (1, (0, b)), (2, (0, p)), (3, (0, s)), (4, (0, y4))], [(1, 19), (1, 37)], v1)) 1 rfl ?_
          refine e_Ok.getr (z := 30) rfl (el_o rfl) rfl rfl ((j4 19 12 (by unfold kFl; omega)).trans (Eq.trans (e_Has.eq hT (kCy_c rfl)) (by omega))) (by omega) ?_
          refine e_Ok.run (t' := (34, [(0, (1, 19)), (1, (0, b)), (2, (0, p)), (3, (0, s)), (4, (0, y4))], [(0, b), (1, 30), (1, 37)], v1)) 1 rfl ?_
          refine e_Ok.aald (z := b + 31) rfl (el_o rfl) rfl (by omega) ((j4 30 b (by unfold kFl; omega)).trans (Eq.trans (e_Has.eq hT (kCy_c (k30 (by omega)))) (by omega))) (by omega) ?_
          refine e_Ok.run (t' := (38, [(0, (1, 19)), (1, (0, b)), (2, (0, p)), (3, (0, s)), (4, (0, y4))], [(0, 1), (0, y4), (1, b + 31), (1, 37)], v1)) 2 rfl ?_
          refine e_Ok.sub' (z := y4 - 1) rfl (by omega) (by omega) ?_
          refine e_Ok.ald (z := w (b + 31) (y4 - 1)) rfl (lO (b := b) (by omega) (by omega)) rfl (by omega) eq5 (by omega) ?_
          refine e_Ok.ald (z := w 37 (w (b + 31) (y4 - 1))) rfl rfl rfl (by omega) eq6 (by omega) ?_
          refine e_Ok.run (t' := (42, [(0, (1, 19)), (1, (0, b)), (2, (0, p)), (3, (0, s)), (4, (0, y4))], [(0, s), (0, w 37 (w (b + 31) (y4 - 1)))], v1)) 1 rfl ?_
          refine e_Ok.if2 rfl (fun h24 => ?_) (fun h24 => ?_)
          · replace h24 : (w 37 (w (b + 31) (y4 - 1)) : Int) ≥ s := h24
            have e35 : v1 35 b = w 35 b := j6 _ _ (by omega)
            refine e_Ok.run (t' := (72, [(0, (1, 19)), (1, (0, b)), (2, (0, p)), (3, (0, s)), (4, (0, y4))], [(1, 19)], v1)) 1 rfl ?_
            refine e_Ok.getr (z := 30) rfl (el_o rfl) rfl rfl ((j4 19 12 (by unfold kFl; omega)).trans (Eq.trans (e_Has.eq hT (kCy_c rfl)) (by omega))) (by omega) ?_
            refine e_Ok.run (t' := (76, [(0, (1, 19)), (1, (0, b)), (2, (0, p)), (3, (0, s)), (4, (0, y4))], [(0, b), (1, 30)], v1)) 1 rfl ?_
            refine e_Ok.aald (z := b + 31) rfl (el_o rfl) rfl (by omega) ((j4 30 b (by unfold kFl; omega)).trans (Eq.trans (e_Has.eq hT (kCy_c (k30 (by omega)))) (by omega))) (by omega) ?_
            refine e_Ok.run (t' := (80, [(0, (1, 19)), (1, (0, b)), (2, (0, p)), (3, (0, s)), (4, (0, y4))], [(0, p), (0, y4), (1, b + 31)], v1)) 2 rfl ?_
            refine e_Ok.ast rfl (lO (b := b) (by omega) (by omega)) rfl rfl (by omega) ?_
            generalize hw25 : e_up v1 (b + 31) y4 p = w25
            have f26 : e_fr kFl w w25 := e_fr.up j4 hw25 (by unfold kFl; omega)
            have hT27 : e_Has kCy w25 := e_Has.ups j5 hw25 (kCy_no1 (kO (b := b) _ (by omega) (by omega)))
            refine e_Ok.run (t' := (82, [(0, (1, 19)), (1, (0, b)), (2, (0, p)), (3, (0, s)), (4, (0, y4))], [(1, 19)], w25)) 1 rfl ?_
            refine e_Ok.getr (z := 35) rfl (el_o rfl) rfl rfl (by rw [← hw25]; exact (e_up_ne _ _ (Or.inl (by omega))).trans ((j4 19 13 (by unfold kFl; omega)).trans (Eq.trans (e_Has.eq hT (kCy_c rfl)) (by omega)))) (by omega) ?_
            refine e_Ok.run (t' := (87, [(0, (1, 19)), (1, (0, b)), (2, (0, p)), (3, (0, s)), (4, (0, y4))], [(0, b), (1, 35), (0, b), (1, 35)], w25)) 2 rfl ?_
            refine e_Ok.ald (z := w 35 b) rfl (el_o rfl) rfl (by omega) (by rw [← hw25]; exact (e_up_ne _ _ (Or.inl (by omega))).trans e35) (by omega) ?_
            refine e_Ok.run (t' := (89, [(0, (1, 19)), (1, (0, b)), (2, (0, p)), (3, (0, s)), (4, (0, y4))], [(0, 1), (0, w 35 b), (0, b), (1, 35)], w25)) 1 rfl ?_
            refine e_Ok.add (z := w 35 b + 1) rfl (by omega) (by omega) ?_
            refine e_Ok.ast rfl (el_o rfl) rfl rfl (by omega) ?_
            generalize hw28 : e_up w25 35 b (w 35 b + 1) = w28
            have f29 : e_fr kFl w w28 := e_fr.up f26 hw28 (by unfold kFl; omega)
            have hT30 : e_Has kCy w28 := e_Has.ups hT27 hw28 (kCy_no1 rfl)
            refine e_Ok.run (t' := (92, [(0, (1, 19)), (1, (0, b)), (2, (0, p)), (3, (0, s)), (4, (0, y4))], [(1, 19)], w28)) 1 rfl ?_
            refine e_Ok.getr (z := 36) rfl (el_o rfl) rfl rfl (by rw [← hw28]; exact (e_up_ne _ _ (Or.inl (by omega))).trans (by rw [← hw25]; exact (e_up_ne _ _ (Or.inl (by omega))).trans ((j4 19 14 (by unfold kFl; omega)).trans (Eq.trans (e_Has.eq hT (kCy_c rfl)) (by omega))))) (by omega) ?_
            refine e_Ok.run (t' := (97, [(0, (1, 19)), (1, (0, b)), (2, (0, p)), (3, (0, s)), (4, (0, y4))], [(0, b), (0, p), (1, 36)], w28)) 2 rfl ?_
            refine e_Ok.ast rfl (el_o rfl) rfl rfl (by omega) ?_
            generalize hw31 : e_up w28 36 p b = w31
            have f32 : e_fr kFl w w31 := e_fr.up f29 hw31 (by unfold kFl; omega)
            have hT33 : e_Has kCy w31 := e_Has.ups hT30 hw31 (kCy_no1 rfl)
            refine e_Ok.run (t' := (99, [(0, (1, 19)), (1, (0, b)), (2, (0, p)), (3, (0, s)), (4, (0, y4))], [(1, 19)], w31)) 1 rfl ?_
            refine e_Ok.getr (z := 37) rfl (el_o rfl) rfl rfl (by rw [← hw31]; exact (e_up_ne _ _ (Or.inl (by omega))).trans (by rw [← hw28]; exact (e_up_ne _ _ (Or.inl (by omega))).trans (by rw [← hw25]; exact (e_up_ne _ _ (Or.inl (by omega))).trans ((j4 19 15 (by unfold kFl; omega)).trans (Eq.trans (e_Has.eq hT (kCy_c rfl)) (by omega)))))) (by omega) ?_
            refine e_Ok.run (t' := (104, [(0, (1, 19)), (1, (0, b)), (2, (0, p)), (3, (0, s)), (4, (0, y4))], [(0, s), (0, p), (1, 37)], w31)) 2 rfl ?_
            refine e_Ok.ast rfl (el_o rfl) rfl rfl (by omega) ?_
            generalize hw34 : e_up w31 37 p s = w34
            have f35 : e_fr kFl w w34 := e_fr.up f32 hw34 (by unfold kFl; omega)
            have hT36 : e_Has kCy w34 := e_Has.ups hT33 hw34 (kCy_no1 rfl)
            refine e_Ok.rets rfl rfl ?_
            exact ⟨rfl, f35, hT36, cmT.mk (by omega) (by omega) (by omega) j6 j7 j8 (by omega) hw25 hw28 hw31 hw34⟩
          · replace h24 : (w 37 (w (b + 31) (y4 - 1)) : Int) < s := by have q : ¬ ((w 37 (w (b + 31) (y4 - 1)) : Int) ≥ s) := h24; omega
            refine e_Ok.run (t' := (46, [(0, (1, 19)), (1, (0, b)), (2, (0, p)), (3, (0, s)), (4, (0, y4))], [(1, 19)], v1)) 1 rfl ?_
            refine e_Ok.getr (z := 30) rfl (el_o rfl) rfl rfl ((j4 19 12 (by unfold kFl; omega)).trans (Eq.trans (e_Has.eq hT (kCy_c rfl)) (by omega))) (by omega) ?_
            refine e_Ok.run (t' := (50, [(0, (1, 19)), (1, (0, b)), (2, (0, p)), (3, (0, s)), (4, (0, y4))], [(0, b), (1, 30)], v1)) 1 rfl ?_
            refine e_Ok.aald (z := b + 31) rfl (el_o rfl) rfl (by omega) ((j4 30 b (by unfold kFl; omega)).trans (Eq.trans (e_Has.eq hT (kCy_c (k30 (by omega)))) (by omega))) (by omega) ?_
            refine e_Ok.run (t' := (54, [(0, (1, 19)), (1, (0, b)), (2, (0, p)), (3, (0, s)), (4, (0, y4))], [(1, 19), (0, y4), (1, b + 31)], v1)) 2 rfl ?_
            refine e_Ok.getr (z := 30) rfl (el_o rfl) rfl rfl ((j4 19 12 (by unfold kFl; omega)).trans (Eq.trans (e_Has.eq hT (kCy_c rfl)) (by omega))) (by omega) ?_
            refine e_Ok.run (t' := (58, [(0, (1, 19)), (1, (0, b)), (2, (0, p)), (3, (0, s)), (4, (0, y4))], [(0, b), (1, 30), (0, y4), (1, b + 31)], v1)) 1 rfl ?_
            refine e_Ok.aald (z := b + 31) rfl (el_o rfl) rfl (by omega) ((j4 30 b (by unfold kFl; omega)).trans (Eq.trans (e_Has.eq hT (kCy_c (k30 (by omega)))) (by omega))) (by omega) ?_
            refine e_Ok.run (t' := (62, [(0, (1, 19)), (1, (0, b)), (2, (0, p)), (3, (0, s)), (4, (0, y4))], [(0, 1), (0, y4), (1, b + 31), (0, y4), (1, b + 31)], v1)) 2 rfl ?_
            refine e_Ok.sub' (z := y4 - 1) rfl (by omega) (by omega) ?_
            refine e_Ok.ald (z := w (b + 31) (y4 - 1)) rfl (lO (b := b) (by omega) (by omega)) rfl (by omega) eq5 (by omega) ?_
            refine e_Ok.ast rfl (lO (b := b) (by omega) (by omega)) rfl rfl (by omega) ?_
            generalize hw37 : e_up v1 (b + 31) y4 (w (b + 31) (y4 - 1)) = w37
            have f38 : e_fr kFl w w37 := e_fr.up j4 hw37 (by unfold kFl; omega)
            have hT40 : e_Has kCy w37 := e_Has.ups j5 hw37 (kCy_no1 (kO (b := b) _ (by omega) (by omega)))
            refine e_Ok.inc (z := y4 - 1) rfl rfl (by omega) (by omega) ?_
            show e_Ok 20 elay kcode eI d 80 (68, [(4, (0, y4 - 1)), (0, (1, 19)), (1, (0, b)), (2, (0, p)), (3, (0, s))], [], w37) _
            refine e_Ok.run (t' := (20, [(4, (0, y4 - 1)), (0, (1, 19)), (1, (0, b)), (2, (0, p)), (3, (0, s))], [], w37)) 1 rfl ?_
            refine e_Ok.sub kAlk (e_sub_of rfl ?_) (ih3 (y4 - 1) w37 ⟨f38, hT40, (fun c k g => by rw [← hw37, e_up_ne _ _ (Or.inl g)]; exact j6 c k g), (fun j g1 g2 => by rw [← hw37, e_up_ne _ _ (Or.inr (by omega))]; exact j7 j g1 (by omega)), (fun j g1 g2 => by rw [← hw37]; by_cases e : j = y4; (rw [e, e_up_eq]); (rw [e_up_ne _ _ (Or.inr e)]; exact j8 j (by omega) g2)), by omega, by omega⟩ (by omega))
            exact ⟨rfl, rfl, rfl, rfl, rfl, trivial⟩
    refine e_Ok.sub kAlk (e_sub_of rfl ?_) (hL2 (32 + 1 : Int).toNat (w 35 b) w ⟨(e_fr.refl w), hT, (fun _ _ _ => rfl), (fun _ _ _ => rfl), (fun j g1 g2 => by omega), by omega, by omega⟩ (by omega))
    exact ⟨rfl, rfl, rfl, rfl, rfl, trivial⟩
  · replace h1 : (w 35 b : Int) ≥ 32 := by have q : ¬ ((w 35 b : Int) < 32) := h1; omega
    refine e_Ok.rets rfl rfl ?_
    exact ⟨rfl, (e_fr.refl w), hT, Or.inl ⟨by omega, rfl⟩⟩
theorem c_78_z {d : Nat} (hd : 22 ≤ d) {w : eW} (hT : e_Has kCy w) {p : Int} (gp : 0 ≤ p ∧ p ≤ 31) (hf : fKn w p) (hF : w (p + 42) 0 < 4 → w (p + 42) 0 < w 19 0) : e_Ok 20 elay kcode eI d 78 (0, [(0, (1, 19)), (1, (0, p))], [], w) (fun r w' => r = [] ∧ e_fr kFl w w' ∧ e_Has kCy w' ∧ fKn w' (p + 1)) := by
  obtain ⟨d, rfl⟩ : ∃ e, d = e + 1 := ⟨d - 1, by omega⟩
  have hB := e_Has.get hT (kCy_n (c := 19) (k := 0) (lo := 0) (hi := 4) (by unfold kNh kNw; omega) rfl) (by decide)
  have hG0 := e_Has.get hT (kCy_n (c := p + 42) (k := 0) (by unfold kNh kNw; omega) (kG_0 (p := p) rfl gp)) (by decide)
  have hG1 := e_Has.get hT (kCy_n (c := p + 42) (k := 1) (by unfold kNh kNw; omega) (kG_1 (p := p) rfl gp)) (by decide)
  have hG2 := e_Has.get hT (kCy_n (c := p + 42) (k := 2) (by unfold kNh kNw; omega) (kG_2 (p := p) rfl gp)) (by decide)
  have hG3 := e_Has.get hT (kCy_n (c := p + 42) (k := 3) (by unfold kNh kNw; omega) (kG_3 (p := p) rfl gp)) (by decide)
  refine e_Ok.run (t' := (1, [(0, (1, 19)), (1, (0, p))], [(1, 19)], w)) 1 rfl ?_
  refine e_Ok.getr (z := 41) rfl (el_o rfl) rfl rfl (Eq.trans (e_Has.eq hT (kCy_c rfl)) (by omega)) (by omega) ?_
  refine e_Ok.run (t' := (5, [(0, (1, 19)), (1, (0, p))], [(0, p), (1, 41)], w)) 1 rfl ?_
  refine e_Ok.aald (z := p + 42) rfl (el_o rfl) rfl (by omega) (Eq.trans (e_Has.eq hT (kCy_c (k41 (by omega)))) (by omega)) (by omega) ?_
  refine e_Ok.run (t' := (7, [(0, (1, 19)), (1, (0, p))], [(0, 0), (1, p + 42)], w)) 1 rfl ?_
  have h1 := (e_Has.get hT (c := p + 42) (k := 0) (lo := 0) (hi := 8) (kCy_n (by unfold kNh kNw; omega) (kG_0 (p := p) (by omega) (by omega))) (by decide))
  refine e_Ok.ald (z := w (p + 42) 0) rfl (lG (p := p) (by omega) (by omega)) rfl (by omega) rfl (by omega) ?_
  refine e_Ok.run (t' := (9, [(0, (1, 19)), (1, (0, p))], [(0, 4), (0, w (p + 42) 0)], w)) 1 rfl ?_
  refine e_Ok.if2 rfl (fun h2 => ?_) (fun h2 => ?_)
  · replace h2 : (w (p + 42) 0 : Int) ≥ 4 := h2
    refine e_Ok.run (t' := (39, [(0, (1, 19)), (1, (0, p))], [(1, 19), (0, p), (1, 19)], w)) 3 rfl ?_
    refine e_Ok.getr (z := 41) rfl (el_o rfl) rfl rfl (Eq.trans (e_Has.eq hT (kCy_c rfl)) (by omega)) (by omega) ?_
    refine e_Ok.run (t' := (43, [(0, (1, 19)), (1, (0, p))], [(0, p), (1, 41), (0, p), (1, 19)], w)) 1 rfl ?_
    refine e_Ok.aald (z := p + 42) rfl (el_o rfl) rfl (by omega) (Eq.trans (e_Has.eq hT (kCy_c (k41 (by omega)))) (by omega)) (by omega) ?_
    refine e_Ok.run (t' := (45, [(0, (1, 19)), (1, (0, p))], [(0, 2), (1, p + 42), (0, p), (1, 19)], w)) 1 rfl ?_
    have h3 := (e_Has.get hT (c := p + 42) (k := 2) (lo := (-2147483648)) (hi := 2147483647) (kCy_n (by unfold kNh kNw; omega) (kG_2 (p := p) (by omega) (by omega))) (by decide))
    refine e_Ok.ald (z := w (p + 42) 2) rfl (lG (p := p) (by omega) (by omega)) rfl (by omega) rfl (by omega) ?_
    refine e_Ok.run (t' := (47, [(0, (1, 19)), (1, (0, p))], [(1, 19), (0, w (p + 42) 2), (0, p), (1, 19)], w)) 1 rfl ?_
    refine e_Ok.getr (z := 41) rfl (el_o rfl) rfl rfl (Eq.trans (e_Has.eq hT (kCy_c rfl)) (by omega)) (by omega) ?_
    refine e_Ok.run (t' := (51, [(0, (1, 19)), (1, (0, p))], [(0, p), (1, 41), (0, w (p + 42) 2), (0, p), (1, 19)], w)) 1 rfl ?_
    refine e_Ok.aald (z := p + 42) rfl (el_o rfl) rfl (by omega) (Eq.trans (e_Has.eq hT (kCy_c (k41 (by omega)))) (by omega)) (by omega) ?_
    refine e_Ok.run (t' := (53, [(0, (1, 19)), (1, (0, p))], [(0, 3), (1, p + 42), (0, w (p + 42) 2), (0, p), (1, 19)], w)) 1 rfl ?_
    have h4 := (e_Has.get hT (c := p + 42) (k := 3) (lo := (-2147483648)) (hi := 2147483647) (kCy_n (by unfold kNh kNw; omega) (kG_3 (p := p) (by omega) (by omega))) (by decide))
    refine e_Ok.ald (z := w (p + 42) 3) rfl (lG (p := p) (by omega) (by omega)) rfl (by omega) rfl (by omega) ?_
    refine e_Ok.callV rfl (by omega) rfl rfl rfl rfl (c_79_z hT (by omega) (by omega) (by omega)) (fun r5 w6 h7 => ?_)
    obtain ⟨rfl, q8f, q8T, q8x⟩ := h7
    have f9 : e_fr kFl w w6 := e_fr.trans (e_fr.refl w) (e_fr.mono q8f (fun c k q => by exact q))
    show e_Ok 20 elay kcode eI (d + 1) 78 (57, [(0, (1, 19)), (1, (0, p))], [], w6) _
    refine e_Ok.rets rfl rfl ?_
    obtain ⟨z8, x1, x2, rfl, k1, k2, k3⟩ := q8x
    exact ⟨rfl, f9, q8T, hf.lie (by omega) (by omega) (show kn1 (w (p + 42) 2) from by unfold kn1; omega) (show kn1 (w (p + 42) 3) from by unfold kn1; omega) k1 k2 k3⟩
  · replace h2 : (w (p + 42) 0 : Int) < 4 := by have q : ¬ ((w (p + 42) 0 : Int) ≥ 4) := h2; omega
    refine e_Ok.run (t' := (14, [(0, (1, 19)), (1, (0, p))], [(1, 19), (1, 19)], w)) 2 rfl ?_
    refine e_Ok.getr (z := 41) rfl (el_o rfl) rfl rfl (Eq.trans (e_Has.eq hT (kCy_c rfl)) (by omega)) (by omega) ?_
    refine e_Ok.run (t' := (18, [(0, (1, 19)), (1, (0, p))], [(0, p), (1, 41), (1, 19)], w)) 1 rfl ?_
    refine e_Ok.aald (z := p + 42) rfl (el_o rfl) rfl (by omega) (Eq.trans (e_Has.eq hT (kCy_c (k41 (by omega)))) (by omega)) (by omega) ?_
    refine e_Ok.run (t' := (20, [(0, (1, 19)), (1, (0, p))], [(0, 0), (1, p + 42), (1, 19)], w)) 1 rfl ?_
    refine e_Ok.ald (z := w (p + 42) 0) rfl (lG (p := p) (by omega) (by omega)) rfl (by omega) rfl (by omega) ?_
    refine e_Ok.run (t' := (23, [(0, (1, 19)), (1, (0, p))], [(1, 19), (0, p), (0, w (p + 42) 0), (1, 19)], w)) 2 rfl ?_
    refine e_Ok.getr (z := 41) rfl (el_o rfl) rfl rfl (Eq.trans (e_Has.eq hT (kCy_c rfl)) (by omega)) (by omega) ?_
    refine e_Ok.run (t' := (27, [(0, (1, 19)), (1, (0, p))], [(0, p), (1, 41), (0, p), (0, w (p + 42) 0), (1, 19)], w)) 1 rfl ?_
    refine e_Ok.aald (z := p + 42) rfl (el_o rfl) rfl (by omega) (Eq.trans (e_Has.eq hT (kCy_c (k41 (by omega)))) (by omega)) (by omega) ?_
    refine e_Ok.run (t' := (29, [(0, (1, 19)), (1, (0, p))], [(0, 1), (1, p + 42), (0, p), (0, w (p + 42) 0), (1, 19)], w)) 1 rfl ?_
    have h10 := (e_Has.get hT (c := p + 42) (k := 1) (lo := (-2147483648)) (hi := 2147483647) (kCy_n (by unfold kNh kNw; omega) (kG_1 (p := p) (by omega) (by omega))) (by decide))
    refine e_Ok.ald (z := w (p + 42) 1) rfl (lG (p := p) (by omega) (by omega)) rfl (by omega) rfl (by omega) ?_
    have hb := hF (by omega)
    refine e_Ok.callV rfl (by omega) rfl rfl rfl rfl (c_80_z hT (by omega) (by omega) (by omega) (hf.ord (by omega) (by omega) (by omega))) (fun r11 w12 h13 => ?_)
    obtain ⟨rfl, q14f, q14T, q14x⟩ := h13
    have f15 : e_fr kFl w w12 := e_fr.trans (e_fr.refl w) (e_fr.mono q14f (fun c k q => by exact q))
    show e_Ok 20 elay kcode eI (d + 1) 78 (33, [(0, (1, 19)), (1, (0, p))], [], w12) _
    refine e_Ok.run (t' := (57, [(0, (1, 19)), (1, (0, p))], [], w12)) 1 rfl ?_
    refine e_Ok.rets rfl rfl ?_
    exact ⟨rfl, f15, q14T, hf.come (by omega) (by omega) (by omega) (show kn1 (w (p + 42) 1) from by unfold kn1; omega) q14x⟩
theorem c_77_z {d : Nat} (hd : 23 ≤ d) {w : eW} (hT : e_Has kCy w) (hF : ∀ p, 0 ≤ p → p < w 19 1 → w (p + 42) 0 < 4 → w (p + 42) 0 < w 19 0) : e_Ok 20 elay kcode eI d 77 (0, [(0, (1, 19))], [], w) (fun r w' => r = [] ∧ e_fr kFl w w' ∧ e_Has kCy w' ∧ fK w') := by
  obtain ⟨d, rfl⟩ : ∃ e, d = e + 1 := ⟨d - 1, by omega⟩
  have hB := e_Has.get hT (kCy_n (c := 19) (k := 0) (lo := 0) (hi := 4) (by unfold kNh kNw; omega) rfl) (by decide)
  have hP := e_Has.get hT (kCy_n (c := 19) (k := 1) (lo := 0) (hi := 32) (by unfold kNh kNw; omega) rfl) (by decide)
  refine e_Ok.run (t' := (2, [(1, (0, 0)), (0, (1, 19))], [], w)) 2 rfl ?_
  have hL1 : ∀ (nn : Nat) (y1 : Int) (v1 : eW), e_fr kFl w v1 ∧ e_Has kCy v1 ∧ (∀ i, 0 ≤ i → i < y1 → v1 35 i = 0) ∧ (0 ≤ y1 ∧ y1 ≤ 4) → 4 - y1 < nn → e_Ok 20 elay kcode eI (d + 1) 77 (2, [(0, (1, 19)), (1, (0, y1))], [], v1) (fun r w' => r = [] ∧ e_fr kFl w w' ∧ e_Has kCy w' ∧ fK w') := by
    intro nn
    induction nn with
    | zero => intro y1 v1 hj hm; obtain ⟨j3, j4, j5, j6⟩ := hj; exfalso; omega
    | succ nn ih2 =>
      intro y1 v1 hj hm
      obtain ⟨j3, j4, j5, j6⟩ := hj
      refine e_Ok.run (t' := (4, [(0, (1, 19)), (1, (0, y1))], [(1, 19), (0, y1)], v1)) 2 rfl ?_
      have h7 := (e_Has.get hT (c := 19) (k := 0) (lo := 0) (hi := 4) (kCy_n (by unfold kNh kNw; omega) rfl) (by decide))
      refine e_Ok.getf (z := w 19 0) rfl (el_o rfl) rfl rfl ((j3 19 0 (by unfold kFl; omega)).trans rfl) (by omega) ?_
      refine e_Ok.if2 rfl (fun h8 => ?_) (fun h8 => ?_)
      · replace h8 : (y1 : Int) ≥ w 19 0 := h8
        refine e_Ok.run (t' := (25, [(1, (0, 0)), (0, (1, 19))], [], v1)) 2 rfl ?_
        have hL9 : ∀ (nn : Nat) (y1b : Int) (v2 : eW), e_fr kFl w v2 ∧ e_Has kCy v2 ∧ fKn v2 y1b ∧ y1b ≤ w 19 1 ∧ (0 ≤ y1b ∧ y1b ≤ 32) → 32 - y1b < nn → e_Ok 20 elay kcode eI (d + 1) 77 (25, [(0, (1, 19)), (1, (0, y1b))], [], v2) (fun r w' => r = [] ∧ e_fr kFl w w' ∧ e_Has kCy w' ∧ fK w') := by
          intro nn
          induction nn with
          | zero => intro y1b v2 hj hm; obtain ⟨j11, j12, j13, j14, j15⟩ := hj; exfalso; omega
          | succ nn ih10 =>
            intro y1b v2 hj hm
            obtain ⟨j11, j12, j13, j14, j15⟩ := hj
            refine e_Ok.run (t' := (27, [(0, (1, 19)), (1, (0, y1b))], [(1, 19), (0, y1b)], v2)) 2 rfl ?_
            have h16 := (e_Has.get hT (c := 19) (k := 1) (lo := 0) (hi := 32) (kCy_n (by unfold kNh kNw; omega) rfl) (by decide))
            refine e_Ok.getf (z := w 19 1) rfl (el_o rfl) rfl rfl ((j11 19 1 (by unfold kFl; omega)).trans rfl) (by omega) ?_
            refine e_Ok.if2 rfl (fun h17 => ?_) (fun h17 => ?_)
            · replace h17 : (y1b : Int) ≥ w 19 1 := h17
              refine e_Ok.rets rfl rfl ?_
              exact ⟨rfl, j11, j12, (show fKn v2 (w 19 1) from by have g := j13; rw [show y1b = w 19 1 by omega] at g; exact g).fK (j11 19 1 (by unfold kFl; omega)) (by omega)⟩
            · replace h17 : (y1b : Int) < w 19 1 := by have q : ¬ ((y1b : Int) ≥ w 19 1) := h17; omega
              refine e_Ok.run (t' := (35, [(0, (1, 19)), (1, (0, y1b))], [(0, y1b), (1, 19)], v2)) 2 rfl ?_
              refine e_Ok.callV rfl (by omega) rfl rfl rfl rfl (c_78_z (by omega) j12 (by omega) j13 (by rw [j11 _ 0 (by unfold kFl; omega), j11 19 0 (by unfold kFl; omega)]; exact hF y1b (by omega) (by omega))) (fun r18 w19 h20 => ?_)
              obtain ⟨rfl, q21f, q21T, q21x⟩ := h20
              have f22 : e_fr kFl w w19 := e_fr.trans j11 (e_fr.mono q21f (fun c k q => by exact q))
              show e_Ok 20 elay kcode eI (d + 1) 77 (38, [(0, (1, 19)), (1, (0, y1b))], [], w19) _
              refine e_Ok.inc (z := y1b + 1) rfl rfl (by omega) (by omega) ?_
              show e_Ok 20 elay kcode eI (d + 1) 77 (41, [(1, (0, y1b + 1)), (0, (1, 19))], [], w19) _
              refine e_Ok.run (t' := (25, [(1, (0, y1b + 1)), (0, (1, 19))], [], w19)) 1 rfl ?_
              refine e_Ok.sub kAlk (e_sub_of rfl ?_) (ih10 (y1b + 1) w19 ⟨f22, q21T, q21x, by omega, by omega⟩ (by omega))
              exact ⟨rfl, rfl, trivial⟩
        refine e_Ok.sub kAlk (e_sub_of rfl ?_) (hL9 (32 + 1 : Int).toNat 0 v1 ⟨j3, j4, ⟨fun b g1 g2 => by rw [j3 19 0 (by unfold kFl; omega)] at g2; have z := j5 b g1 (by omega); exact ⟨by omega, fun i g3 g4 => by omega⟩, fun p g1 g2 => by omega⟩, by omega, by omega⟩ (by omega))
        exact ⟨rfl, rfl, trivial⟩
      · replace h8 : (y1 : Int) < w 19 0 := by have q : ¬ ((y1 : Int) ≥ w 19 0) := h8; omega
        refine e_Ok.run (t' := (11, [(0, (1, 19)), (1, (0, y1))], [(1, 19)], v1)) 1 rfl ?_
        refine e_Ok.getr (z := 35) rfl (el_o rfl) rfl rfl ((j3 19 13 (by unfold kFl; omega)).trans (Eq.trans (e_Has.eq hT (kCy_c rfl)) (by omega))) (by omega) ?_
        refine e_Ok.run (t' := (16, [(0, (1, 19)), (1, (0, y1))], [(0, 0), (0, y1), (1, 35)], v1)) 2 rfl ?_
        refine e_Ok.ast rfl (el_o rfl) rfl rfl (by omega) ?_
        generalize hw23 : e_up v1 35 y1 0 = w23
        have f24 : e_fr kFl w w23 := e_fr.up j3 hw23 (by unfold kFl; omega)
        have hT25 : e_Has kCy w23 := e_Has.ups j4 hw23 (kCy_no1 rfl)
        refine e_Ok.inc (z := y1 + 1) rfl rfl (by omega) (by omega) ?_
        show e_Ok 20 elay kcode eI (d + 1) 77 (20, [(1, (0, y1 + 1)), (0, (1, 19))], [], w23) _
        refine e_Ok.run (t' := (2, [(1, (0, y1 + 1)), (0, (1, 19))], [], w23)) 1 rfl ?_
        refine e_Ok.sub kAlk (e_sub_of rfl ?_) (ih2 (y1 + 1) w23 ⟨f24, hT25, (fun i g1 g2 => by rw [← hw23]; by_cases e : i = y1; (rw [e, e_up_eq]); (rw [e_up_ne _ _ (Or.inr e)]; exact j5 i g1 (by omega))), by omega⟩ (by omega))
        exact ⟨rfl, rfl, trivial⟩
  refine e_Ok.sub kAlk (e_sub_of rfl ?_) (hL1 (4 + 1 : Int).toNat 0 w ⟨(e_fr.refl w), hT, (fun i g1 g2 => by omega), by omega⟩ (by omega))
  exact ⟨rfl, rfl, trivial⟩
theorem c_79_k {d : Nat} {w : eW} (hT : e_Has kTy w) {p x y : Int} (gp : 0 ≤ p ∧ p ≤ 31) (gx : -2147483648 ≤ x ∧ x ≤ 2147483647) (gy : -2147483648 ≤ y ∧ y ≤ 2147483647) : e_Ok 20 elay kcode eI d 79 (0, [(0, (1, 19)), (1, (0, p)), (2, (0, x)), (3, (0, y))], [], w) (fun r w' => r = [] ∧ e_fr kFl w w' ∧ e_Has kTy w' ∧ ∃ z8 w1 w2, z8 = 8 ∧ e_up w 36 p z8 = w1 ∧ e_up w1 39 p x = w2 ∧ e_up w2 40 p y = w') := by
  refine e_Ok.run (t' := (1, [(0, (1, 19)), (1, (0, p)), (2, (0, x)), (3, (0, y))], [(1, 19)], w)) 1 rfl ?_
  refine e_Ok.getr (z := 36) rfl (el_o rfl) rfl rfl (Eq.trans (e_Has.eq hT rfl) (by omega)) (by omega) ?_
  refine e_Ok.run (t' := (7, [(0, (1, 19)), (1, (0, p)), (2, (0, x)), (3, (0, y))], [(0, 8), (0, p), (1, 36)], w)) 2 rfl ?_
  refine e_Ok.ast rfl (el_o rfl) rfl rfl (by omega) ?_
  generalize hw1 : e_up w 36 p 8 = w1
  have f2 : e_fr kFl w w1 := e_fr.up (e_fr.refl w) hw1 (by unfold kFl; omega)
  have hT3 : e_Has kTy w1 := e_Has.ups hT hw1 rfl
  refine e_Ok.run (t' := (9, [(0, (1, 19)), (1, (0, p)), (2, (0, x)), (3, (0, y))], [(1, 19)], w1)) 1 rfl ?_
  refine e_Ok.getr (z := 39) rfl (el_o rfl) rfl rfl (by rw [← hw1]; exact (e_up_ne _ _ (Or.inl (by omega))).trans (Eq.trans (e_Has.eq hT rfl) (by omega))) (by omega) ?_
  refine e_Ok.run (t' := (14, [(0, (1, 19)), (1, (0, p)), (2, (0, x)), (3, (0, y))], [(0, x), (0, p), (1, 39)], w1)) 2 rfl ?_
  refine e_Ok.ast rfl (el_o rfl) rfl rfl (by omega) ?_
  generalize hw4 : e_up w1 39 p x = w4
  have f5 : e_fr kFl w w4 := e_fr.up f2 hw4 (by unfold kFl; omega)
  have hT6 : e_Has kTy w4 := e_Has.ups hT3 hw4 rfl
  refine e_Ok.run (t' := (16, [(0, (1, 19)), (1, (0, p)), (2, (0, x)), (3, (0, y))], [(1, 19)], w4)) 1 rfl ?_
  refine e_Ok.getr (z := 40) rfl (el_o rfl) rfl rfl (by rw [← hw4]; exact (e_up_ne _ _ (Or.inl (by omega))).trans (by rw [← hw1]; exact (e_up_ne _ _ (Or.inl (by omega))).trans (Eq.trans (e_Has.eq hT rfl) (by omega)))) (by omega) ?_
  refine e_Ok.run (t' := (21, [(0, (1, 19)), (1, (0, p)), (2, (0, x)), (3, (0, y))], [(0, y), (0, p), (1, 40)], w4)) 2 rfl ?_
  refine e_Ok.ast rfl (el_o rfl) rfl rfl (by omega) ?_
  generalize hw7 : e_up w4 40 p y = w7
  have f8 : e_fr kFl w w7 := e_fr.up f5 hw7 (by unfold kFl; omega)
  have hT9 : e_Has kTy w7 := e_Has.ups hT6 hw7 rfl
  refine e_Ok.rets rfl rfl ?_
  exact ⟨rfl, f8, hT9, 8, _, _, rfl, hw1, hw4, hw7⟩
theorem c_80_k {d : Nat} {w : eW} (hT : e_Has kTy w) {b p s : Int} (g_b : 0 ≤ b ∧ b ≤ 3) (g_p : 0 ≤ p ∧ p ≤ 31) (g_s : (-2147483648) ≤ s ∧ s ≤ 2147483647) (hO : (0 ≤ w 35 b ∧ w 35 b ≤ 32) ∧ ∀ i, 0 ≤ i → i < w 35 b → (0 ≤ w (b + 31) i ∧ w (b + 31) i ≤ 31) ∧ kn1 (w 37 (w (b + 31) i))) : e_Ok 20 elay kcode eI d 80 (0, [(0, (1, 19)), (1, (0, b)), (2, (0, p)), (3, (0, s))], [], w) (fun r w' => r = [] ∧ e_fr kFl w w' ∧ e_Has kTy w' ∧ cmT w w' b p s) := by
  refine e_Ok.run (t' := (1, [(0, (1, 19)), (1, (0, b)), (2, (0, p)), (3, (0, s))], [(1, 19)], w)) 1 rfl ?_
  refine e_Ok.getr (z := 35) rfl (el_o rfl) rfl rfl (Eq.trans (e_Has.eq hT rfl) (by omega)) (by omega) ?_
  refine e_Ok.run (t' := (5, [(0, (1, 19)), (1, (0, b)), (2, (0, p)), (3, (0, s))], [(0, b), (1, 35)], w)) 1 rfl ?_
  refine e_Ok.ald (z := w 35 b) rfl (el_o rfl) rfl (by omega) rfl (by omega) ?_
  refine e_Ok.run (t' := (8, [(0, (1, 19)), (1, (0, b)), (2, (0, p)), (3, (0, s))], [(0, 32), (0, w 35 b)], w)) 1 rfl ?_
  refine e_Ok.if2 rfl (fun h1 => ?_) (fun h1 => ?_)
  · replace h1 : (w 35 b : Int) < 32 := h1
    refine e_Ok.run (t' := (13, [(0, (1, 19)), (1, (0, b)), (2, (0, p)), (3, (0, s))], [(1, 19)], w)) 1 rfl ?_
    refine e_Ok.getr (z := 35) rfl (el_o rfl) rfl rfl (Eq.trans (e_Has.eq hT rfl) (by omega)) (by omega) ?_
    refine e_Ok.run (t' := (17, [(0, (1, 19)), (1, (0, b)), (2, (0, p)), (3, (0, s))], [(0, b), (1, 35)], w)) 1 rfl ?_
    refine e_Ok.ald (z := w 35 b) rfl (el_o rfl) rfl (by omega) rfl (by omega) ?_
    refine e_Ok.run (t' := (20, [(4, (0, w 35 b)), (0, (1, 19)), (1, (0, b)), (2, (0, p)), (3, (0, s))], [], w)) 1 rfl ?_
    have hL2 : ∀ (nn : Nat) (y4 : Int) (v1 : eW), e_fr kFl w v1 ∧ e_Has kTy v1 ∧ (∀ c k, c ≠ b + 31 → v1 c k = w c k) ∧ (∀ j, 0 ≤ j → j < y4 → v1 (b + 31) j = w (b + 31) j) ∧ (∀ j, y4 < j → j ≤ w 35 b → v1 (b + 31) j = w (b + 31) (j - 1)) ∧ y4 ≤ w 35 b ∧ (0 ≤ y4 ∧ y4 ≤ 32) → y4 < nn → e_Ok 20 elay kcode eI d 80 (20, [(0, (1, 19)), (1, (0, b)), (2, (0, p)), (3, (0, s)), (4, (0, y4))], [], v1) (fun r w' => r = [] ∧ e_fr kFl w w' ∧ e_Has kTy w' ∧ cmT w w' b p s) := by
      intro nn
      induction nn with
      | zero => intro y4 v1 hj hm; obtain ⟨j4, j5, j6, j7, j8, j9, j10⟩ := hj; exfalso; omega
      | succ nn ih3 =>
        intro y4 v1 hj hm
        obtain ⟨j4, j5, j6, j7, j8, j9, j10⟩ := hj
        refine e_Ok.run (t' := (22, [(0, (1, 19)), (1, (0, b)), (2, (0, p)), (3, (0, s)), (4, (0, y4))], [(0, y4)], v1)) 1 rfl ?_
        refine e_Ok.if1 rfl (fun h11 => ?_) (fun h11 => ?_)
        · replace h11 : (y4 : Int) ≤ 0 := h11
          have e35 : v1 35 b = w 35 b := j6 _ _ (by omega)
          refine e_Ok.run (t' := (72, [(0, (1, 19)), (1, (0, b)), (2, (0, p)), (3, (0, s)), (4, (0, y4))], [(1, 19)], v1)) 1 rfl ?_
          refine e_Ok.getr (z := 30) rfl (el_o rfl) rfl rfl ((j4 19 12 (by unfold kFl; omega)).trans (Eq.trans (e_Has.eq hT rfl) (by omega))) (by omega) ?_
          refine e_Ok.run (t' := (76, [(0, (1, 19)), (1, (0, b)), (2, (0, p)), (3, (0, s)), (4, (0, y4))], [(0, b), (1, 30)], v1)) 1 rfl ?_
          refine e_Ok.aald (z := b + 31) rfl (el_o rfl) rfl (by omega) ((j4 30 b (by unfold kFl; omega)).trans (Eq.trans (e_Has.eq hT (k30 (by omega))) (by omega))) (by omega) ?_
          refine e_Ok.run (t' := (80, [(0, (1, 19)), (1, (0, b)), (2, (0, p)), (3, (0, s)), (4, (0, y4))], [(0, p), (0, y4), (1, b + 31)], v1)) 2 rfl ?_
          refine e_Ok.ast rfl (lO (b := b) (by omega) (by omega)) rfl rfl (by omega) ?_
          generalize hw12 : e_up v1 (b + 31) y4 p = w12
          have f13 : e_fr kFl w w12 := e_fr.up j4 hw12 (by unfold kFl; omega)
          have hT14 : e_Has kTy w12 := e_Has.ups j5 hw12 (kO (b := b) _ (by omega) (by omega))
          refine e_Ok.run (t' := (82, [(0, (1, 19)), (1, (0, b)), (2, (0, p)), (3, (0, s)), (4, (0, y4))], [(1, 19)], w12)) 1 rfl ?_
          refine e_Ok.getr (z := 35) rfl (el_o rfl) rfl rfl (by rw [← hw12]; exact (e_up_ne _ _ (Or.inl (by omega))).trans ((j4 19 13 (by unfold kFl; omega)).trans (Eq.trans (e_Has.eq hT rfl) (by omega)))) (by omega) ?_
          refine e_Ok.run (t' := (87, [(0, (1, 19)), (1, (0, b)), (2, (0, p)), (3, (0, s)), (4, (0, y4))], [(0, b), (1, 35), (0, b), (1, 35)], w12)) 2 rfl ?_
          refine e_Ok.ald (z := w 35 b) rfl (el_o rfl) rfl (by omega) (by rw [← hw12]; exact (e_up_ne _ _ (Or.inl (by omega))).trans e35) (by omega) ?_
          refine e_Ok.run (t' := (89, [(0, (1, 19)), (1, (0, b)), (2, (0, p)), (3, (0, s)), (4, (0, y4))], [(0, 1), (0, w 35 b), (0, b), (1, 35)], w12)) 1 rfl ?_
          refine e_Ok.add (z := w 35 b + 1) rfl (by omega) (by omega) ?_
          refine e_Ok.ast rfl (el_o rfl) rfl rfl (by omega) ?_
          generalize hw15 : e_up w12 35 b (w 35 b + 1) = w15
          have f16 : e_fr kFl w w15 := e_fr.up f13 hw15 (by unfold kFl; omega)
          have hT17 : e_Has kTy w15 := e_Has.ups hT14 hw15 rfl
          refine e_Ok.run (t' := (92, [(0, (1, 19)), (1, (0, b)), (2, (0, p)), (3, (0, s)), (4, (0, y4))], [(1, 19)], w15)) 1 rfl ?_
          refine e_Ok.getr (z := 36) rfl (el_o rfl) rfl rfl (by rw [← hw15]; exact (e_up_ne _ _ (Or.inl (by omega))).trans (by rw [← hw12]; exact (e_up_ne _ _ (Or.inl (by omega))).trans ((j4 19 14 (by unfold kFl; omega)).trans (Eq.trans (e_Has.eq hT rfl) (by omega))))) (by omega) ?_
          refine e_Ok.run (t' := (97, [(0, (1, 19)), (1, (0, b)), (2, (0, p)), (3, (0, s)), (4, (0, y4))], [(0, b), (0, p), (1, 36)], w15)) 2 rfl ?_
          refine e_Ok.ast rfl (el_o rfl) rfl rfl (by omega) ?_
          generalize hw18 : e_up w15 36 p b = w18
          have f19 : e_fr kFl w w18 := e_fr.up f16 hw18 (by unfold kFl; omega)
          have hT20 : e_Has kTy w18 := e_Has.ups hT17 hw18 rfl
          refine e_Ok.run (t' := (99, [(0, (1, 19)), (1, (0, b)), (2, (0, p)), (3, (0, s)), (4, (0, y4))], [(1, 19)], w18)) 1 rfl ?_
          refine e_Ok.getr (z := 37) rfl (el_o rfl) rfl rfl (by rw [← hw18]; exact (e_up_ne _ _ (Or.inl (by omega))).trans (by rw [← hw15]; exact (e_up_ne _ _ (Or.inl (by omega))).trans (by rw [← hw12]; exact (e_up_ne _ _ (Or.inl (by omega))).trans ((j4 19 15 (by unfold kFl; omega)).trans (Eq.trans (e_Has.eq hT rfl) (by omega)))))) (by omega) ?_
          refine e_Ok.run (t' := (104, [(0, (1, 19)), (1, (0, b)), (2, (0, p)), (3, (0, s)), (4, (0, y4))], [(0, s), (0, p), (1, 37)], w18)) 2 rfl ?_
          refine e_Ok.ast rfl (el_o rfl) rfl rfl (by omega) ?_
          generalize hw21 : e_up w18 37 p s = w21
          have f22 : e_fr kFl w w21 := e_fr.up f19 hw21 (by unfold kFl; omega)
          have hT23 : e_Has kTy w21 := e_Has.ups hT20 hw21 rfl
          refine e_Ok.rets rfl rfl ?_
          exact ⟨rfl, f22, hT23, cmT.mk (by omega) (by omega) (by omega) j6 j7 j8 (by omega) hw12 hw15 hw18 hw21⟩
        · replace h11 : (y4 : Int) > 0 := by have q : ¬ ((y4 : Int) ≤ 0) := h11; omega
          have hq := hO.2 (y4 - 1) (by omega) (by omega); unfold kn1 at hq
          have eq5 : v1 (b + 31) (y4 - 1) = w (b + 31) (y4 - 1) := j7 (y4 - 1) (by omega) (by omega)
          have eq6 : v1 37 (w (b + 31) (y4 - 1)) = w 37 (w (b + 31) (y4 - 1)) := j6 _ _ (by omega)
          refine e_Ok.run (t' := (26, [(0, (1, 19)), (1, (0, b)), (2, (0, p)), (3, (0, s)), (4, (0, y4))], [(1, 19)], v1)) 1 rfl ?_
          refine e_Ok.getr (z := 37) rfl (el_o rfl) rfl rfl ((j4 19 15 (by unfold kFl; omega)).trans (Eq.trans (e_Has.eq hT rfl) (by omega))) (by omega) ?_
          refine e_Ok.run (t' := (30, [(0, (1, 19)), (1, (0, b)), (2, (0, p)), (3, (0, s)), (4, (0, y4))], [(1, 19), (1, 37)], v1)) 1 rfl ?_
          refine e_Ok.getr (z := 30) rfl (el_o rfl) rfl rfl ((j4 19 12 (by unfold kFl; omega)).trans (Eq.trans (e_Has.eq hT rfl) (by omega))) (by omega) ?_
          refine e_Ok.run (t' := (34, [(0, (1, 19)), (1, (0, b)), (2, (0, p)), (3, (0, s)), (4, (0, y4))], [(0, b), (1, 30), (1, 37)], v1)) 1 rfl ?_
          refine e_Ok.aald (z := b + 31) rfl (el_o rfl) rfl (by omega) ((j4 30 b (by unfold kFl; omega)).trans (Eq.trans (e_Has.eq hT (k30 (by omega))) (by omega))) (by omega) ?_
          refine e_Ok.run (t' := (38, [(0, (1, 19)), (1, (0, b)), (2, (0, p)), (3, (0, s)), (4, (0, y4))], [(0, 1), (0, y4), (1, b + 31), (1, 37)], v1)) 2 rfl ?_
          refine e_Ok.sub' (z := y4 - 1) rfl (by omega) (by omega) ?_
          refine e_Ok.ald (z := w (b + 31) (y4 - 1)) rfl (lO (b := b) (by omega) (by omega)) rfl (by omega) eq5 (by omega) ?_
          refine e_Ok.ald (z := w 37 (w (b + 31) (y4 - 1))) rfl rfl rfl (by omega) eq6 (by omega) ?_
          refine e_Ok.run (t' := (42, [(0, (1, 19)), (1, (0, b)), (2, (0, p)), (3, (0, s)), (4, (0, y4))], [(0, s), (0, w 37 (w (b + 31) (y4 - 1)))], v1)) 1 rfl ?_
          refine e_Ok.if2 rfl (fun h24 => ?_) (fun h24 => ?_)
          · replace h24 : (w 37 (w (b + 31) (y4 - 1)) : Int) ≥ s := h24
            have e35 : v1 35 b = w 35 b := j6 _ _ (by omega)
            refine e_Ok.run (t' := (72, [(0, (1, 19)), (1, (0, b)), (2, (0, p)), (3, (0, s)), (4, (0, y4))], [(1, 19)], v1)) 1 rfl ?_
            refine e_Ok.getr (z := 30) rfl (el_o rfl) rfl rfl ((j4 19 12 (by unfold kFl; omega)).trans (Eq.trans (e_Has.eq hT rfl) (by omega))) (by omega) ?_
            refine e_Ok.run (t' := (76, [(0, (1, 19)), (1, (0, b)), (2, (0, p)), (3, (0, s)), (4, (0, y4))], [(0, b), (1, 30)], v1)) 1 rfl ?_
            refine e_Ok.aald (z := b + 31) rfl (el_o rfl) rfl (by omega) ((j4 30 b (by unfold kFl; omega)).trans (Eq.trans (e_Has.eq hT (k30 (by omega))) (by omega))) (by omega) ?_
            refine e_Ok.run (t' := (80, [(0, (1, 19)), (1, (0, b)), (2, (0, p)), (3, (0, s)), (4, (0, y4))], [(0, p), (0, y4), (1, b + 31)], v1)) 2 rfl ?_
            refine e_Ok.ast rfl (lO (b := b) (by omega) (by omega)) rfl rfl (by omega) ?_
            generalize hw25 : e_up v1 (b + 31) y4 p = w25
            have f26 : e_fr kFl w w25 := e_fr.up j4 hw25 (by unfold kFl; omega)
            have hT27 : e_Has kTy w25 := e_Has.ups j5 hw25 (kO (b := b) _ (by omega) (by omega))
            refine e_Ok.run (t' := (82, [(0, (1, 19)), (1, (0, b)), (2, (0, p)), (3, (0, s)), (4, (0, y4))], [(1, 19)], w25)) 1 rfl ?_
            refine e_Ok.getr (z := 35) rfl (el_o rfl) rfl rfl (by rw [← hw25]; exact (e_up_ne _ _ (Or.inl (by omega))).trans ((j4 19 13 (by unfold kFl; omega)).trans (Eq.trans (e_Has.eq hT rfl) (by omega)))) (by omega) ?_
            refine e_Ok.run (t' := (87, [(0, (1, 19)), (1, (0, b)), (2, (0, p)), (3, (0, s)), (4, (0, y4))], [(0, b), (1, 35), (0, b), (1, 35)], w25)) 2 rfl ?_
            refine e_Ok.ald (z := w 35 b) rfl (el_o rfl) rfl (by omega) (by rw [← hw25]; exact (e_up_ne _ _ (Or.inl (by omega))).trans e35) (by omega) ?_
            refine e_Ok.run (t' := (89, [(0, (1, 19)), (1, (0, b)), (2, (0, p)), (3, (0, s)), (4, (0, y4))], [(0, 1), (0, w 35 b), (0, b), (1, 35)], w25)) 1 rfl ?_
            refine e_Ok.add (z := w 35 b + 1) rfl (by omega) (by omega) ?_
            refine e_Ok.ast rfl (el_o rfl) rfl rfl (by omega) ?_
            generalize hw28 : e_up w25 35 b (w 35 b + 1) = w28
            have f29 : e_fr kFl w w28 := e_fr.up f26 hw28 (by unfold kFl; omega)
            have hT30 : e_Has kTy w28 := e_Has.ups hT27 hw28 rfl
            refine e_Ok.run (t' := (92, [(0, (1, 19)), (1, (0, b)), (2, (0, p)), (3, (0, s)), (4, (0, y4))], [(1, 19)], w28)) 1 rfl ?_
            refine e_Ok.getr (z := 36) rfl (el_o rfl) rfl rfl (by rw [← hw28]; exact (e_up_ne _ _ (Or.inl (by omega))).trans (by rw [← hw25]; exact (e_up_ne _ _ (Or.inl (by omega))).trans ((j4 19 14 (by unfold kFl; omega)).trans (Eq.trans (e_Has.eq hT rfl) (by omega))))) (by omega) ?_
            refine e_Ok.run (t' := (97, [(0, (1, 19)), (1, (0, b)), (2, (0, p)), (3, (0, s)), (4, (0, y4))], [(0, b), (0, p), (1, 36)], w28)) 2 rfl ?_
            refine e_Ok.ast rfl (el_o rfl) rfl rfl (by omega) ?_
            generalize hw31 : e_up w28 36 p b = w31
            have f32 : e_fr kFl w w31 := e_fr.up f29 hw31 (by unfold kFl; omega)
            have hT33 : e_Has kTy w31 := e_Has.ups hT30 hw31 rfl
            refine e_Ok.run (t' := (99, [(0, (1, 19)), (1, (0, b)), (2, (0, p)), (3, (0, s)), (4, (0, y4))], [(1, 19)], w31)) 1 rfl ?_
            refine e_Ok.getr (z := 37) rfl (el_o rfl) rfl rfl (by rw [← hw31]; exact (e_up_ne _ _ (Or.inl (by omega))).trans (by rw [← hw28]; exact (e_up_ne _ _ (Or.inl (by omega))).trans (by rw [← hw25]; exact (e_up_ne _ _ (Or.inl (by omega))).trans ((j4 19 15 (by unfold kFl; omega)).trans (Eq.trans (e_Has.eq hT rfl) (by omega)))))) (by omega) ?_
            refine e_Ok.run (t' := (104, [(0, (1, 19)), (1, (0, b)), (2, (0, p)), (3, (0, s)), (4, (0, y4))], [(0, s), (0, p), (1, 37)], w31)) 2 rfl ?_
            refine e_Ok.ast rfl (el_o rfl) rfl rfl (by omega) ?_
            generalize hw34 : e_up w31 37 p s = w34
            have f35 : e_fr kFl w w34 := e_fr.up f32 hw34 (by unfold kFl; omega)
            have hT36 : e_Has kTy w34 := e_Has.ups hT33 hw34 rfl
            refine e_Ok.rets rfl rfl ?_
            exact ⟨rfl, f35, hT36, cmT.mk (by omega) (by omega) (by omega) j6 j7 j8 (by omega) hw25 hw28 hw31 hw34⟩
          · replace h24 : (w 37 (w (b + 31) (y4 - 1)) : Int) < s := by have q : ¬ ((w 37 (w (b + 31) (y4 - 1)) : Int) ≥ s) := h24; omega
            refine e_Ok.run (t' := (46, [(0, (1, 19)), (1, (0, b)), (2, (0, p)), (3, (0, s)), (4, (0, y4))], [(1, 19)], v1)) 1 rfl ?_
            refine e_Ok.getr (z := 30) rfl (el_o rfl) rfl rfl ((j4 19 12 (by unfold kFl; omega)).trans (Eq.trans (e_Has.eq hT rfl) (by omega))) (by omega) ?_
            refine e_Ok.run (t' := (50, [(0, (1, 19)), (1, (0, b)), (2, (0, p)), (3, (0, s)), (4, (0, y4))], [(0, b), (1, 30)], v1)) 1 rfl ?_
            refine e_Ok.aald (z := b + 31) rfl (el_o rfl) rfl (by omega) ((j4 30 b (by unfold kFl; omega)).trans (Eq.trans (e_Has.eq hT (k30 (by omega))) (by omega))) (by omega) ?_
            refine e_Ok.run (t' := (54, [(0, (1, 19)), (1, (0, b)), (2, (0, p)), (3, (0, s)), (4, (0, y4))], [(1, 19), (0, y4), (1, b + 31)], v1)) 2 rfl ?_
            refine e_Ok.getr (z := 30) rfl (el_o rfl) rfl rfl ((j4 19 12 (by unfold kFl; omega)).trans (Eq.trans (e_Has.eq hT rfl) (by omega))) (by omega) ?_
            refine e_Ok.run (t' := (58, [(0, (1, 19)), (1, (0, b)), (2, (0, p)), (3, (0, s)), (4, (0, y4))], [(0, b), (1, 30), (0, y4), (1, b + 31)], v1)) 1 rfl ?_
            refine e_Ok.aald (z := b + 31) rfl (el_o rfl) rfl (by omega) ((j4 30 b (by unfold kFl; omega)).trans (Eq.trans (e_Has.eq hT (k30 (by omega))) (by omega))) (by omega) ?_
            refine e_Ok.run (t' := (62, [(0, (1, 19)), (1, (0, b)), (2, (0, p)), (3, (0, s)), (4, (0, y4))], [(0, 1), (0, y4), (1, b + 31), (0, y4), (1, b + 31)], v1)) 2 rfl ?_
            refine e_Ok.sub' (z := y4 - 1) rfl (by omega) (by omega) ?_
            refine e_Ok.ald (z := w (b + 31) (y4 - 1)) rfl (lO (b := b) (by omega) (by omega)) rfl (by omega) eq5 (by omega) ?_
            refine e_Ok.ast rfl (lO (b := b) (by omega) (by omega)) rfl rfl (by omega) ?_
            generalize hw37 : e_up v1 (b + 31) y4 (w (b + 31) (y4 - 1)) = w37
            have f38 : e_fr kFl w w37 := e_fr.up j4 hw37 (by unfold kFl; omega)
            have hT40 : e_Has kTy w37 := e_Has.ups j5 hw37 (kO (b := b) _ (by omega) (by omega))
            refine e_Ok.inc (z := y4 - 1) rfl rfl (by omega) (by omega) ?_
            show e_Ok 20 elay kcode eI d 80 (68, [(4, (0, y4 - 1)), (0, (1, 19)), (1, (0, b)), (2, (0, p)), (3, (0, s))], [], w37) _
            refine e_Ok.run (t' := (20, [(4, (0, y4 - 1)), (0, (1, 19)), (1, (0, b)), (2, (0, p)), (3, (0, s))], [], w37)) 1 rfl ?_
            refine e_Ok.sub kAlk (e_sub_of rfl ?_) (ih3 (y4 - 1) w37 ⟨f38, hT40, (fun c k g => by rw [← hw37, e_up_ne _ _ (Or.inl g)]; exact j6 c k g), (fun j g1 g2 => by rw [← hw37, e_up_ne _ _ (Or.inr (by omega))]; exact j7 j g1 (by omega)), (fun j g1 g2 => by rw [← hw37]; by_cases e : j = y4; (rw [e, e_up_eq]); (rw [e_up_ne _ _ (Or.inr e)]; exact j8 j (by omega) g2)), by omega, by omega⟩ (by omega))
            exact ⟨rfl, rfl, rfl, rfl, rfl, trivial⟩
    refine e_Ok.sub kAlk (e_sub_of rfl ?_) (hL2 (32 + 1 : Int).toNat (w 35 b) w ⟨(e_fr.refl w), hT, (fun _ _ _ => rfl), (fun _ _ _ => rfl), (fun j g1 g2 => by omega), by omega, by omega⟩ (by omega))
    exact ⟨rfl, rfl, rfl, rfl, rfl, trivial⟩
  · replace h1 : (w 35 b : Int) ≥ 32 := by have q : ¬ ((w 35 b : Int) < 32) := h1; omega
    refine e_Ok.rets rfl rfl ?_
    exact ⟨rfl, (e_fr.refl w), hT, Or.inl ⟨by omega, rfl⟩⟩
theorem c_78_k {d : Nat} (hd : 22 ≤ d) {w : eW} (hT : e_Has kTy w) {p : Int} (gp : 0 ≤ p ∧ p ≤ 31) (hf : fKn w p) (hF : w (p + 42) 0 < 4 → w (p + 42) 0 < w 19 0) : e_Ok 20 elay kcode eI d 78 (0, [(0, (1, 19)), (1, (0, p))], [], w) (fun r w' => r = [] ∧ e_fr kFl w w' ∧ e_Has kTy w' ∧ fKn w' (p + 1)) := by
  obtain ⟨d, rfl⟩ : ∃ e, d = e + 1 := ⟨d - 1, by omega⟩
  have hB := e_Has.get hT (c := 19) (k := 0) (lo := 0) (hi := 4) rfl (by decide)
  have hG0 := e_Has.get hT (c := p + 42) (k := 0) (kG_0 (p := p) rfl gp) (by decide)
  have hG1 := e_Has.get hT (c := p + 42) (k := 1) (kG_1 (p := p) rfl gp) (by decide)
  have hG2 := e_Has.get hT (c := p + 42) (k := 2) (kG_2 (p := p) rfl gp) (by decide)
  have hG3 := e_Has.get hT (c := p + 42) (k := 3) (kG_3 (p := p) rfl gp) (by decide)
  refine e_Ok.run (t' := (1, [(0, (1, 19)), (1, (0, p))], [(1, 19)], w)) 1 rfl ?_
  refine e_Ok.getr (z := 41) rfl (el_o rfl) rfl rfl (Eq.trans (e_Has.eq hT rfl) (by omega)) (by omega) ?_
  refine e_Ok.run (t' := (5, [(0, (1, 19)), (1, (0, p))], [(0, p), (1, 41)], w)) 1 rfl ?_
  refine e_Ok.aald (z := p + 42) rfl (el_o rfl) rfl (by omega) (Eq.trans (e_Has.eq hT (k41 (by omega))) (by omega)) (by omega) ?_
  refine e_Ok.run (t' := (7, [(0, (1, 19)), (1, (0, p))], [(0, 0), (1, p + 42)], w)) 1 rfl ?_
  have h1 := (e_Has.get hT (c := p + 42) (k := 0) (lo := 0) (hi := 8) (kG_0 (p := p) (by omega) (by omega)) (by decide))
  refine e_Ok.ald (z := w (p + 42) 0) rfl (lG (p := p) (by omega) (by omega)) rfl (by omega) rfl (by omega) ?_
  refine e_Ok.run (t' := (9, [(0, (1, 19)), (1, (0, p))], [(0, 4), (0, w (p + 42) 0)], w)) 1 rfl ?_
  refine e_Ok.if2 rfl (fun h2 => ?_) (fun h2 => ?_)
  · replace h2 : (w (p + 42) 0 : Int) ≥ 4 := h2
    refine e_Ok.run (t' := (39, [(0, (1, 19)), (1, (0, p))], [(1, 19), (0, p), (1, 19)], w)) 3 rfl ?_
    refine e_Ok.getr (z := 41) rfl (el_o rfl) rfl rfl (Eq.trans (e_Has.eq hT rfl) (by omega)) (by omega) ?_
    refine e_Ok.run (t' := (43, [(0, (1, 19)), (1, (0, p))], [(0, p), (1, 41), (0, p), (1, 19)], w)) 1 rfl ?_
    refine e_Ok.aald (z := p + 42) rfl (el_o rfl) rfl (by omega) (Eq.trans (e_Has.eq hT (k41 (by omega))) (by omega)) (by omega) ?_
    refine e_Ok.run (t' := (45, [(0, (1, 19)), (1, (0, p))], [(0, 2), (1, p + 42), (0, p), (1, 19)], w)) 1 rfl ?_
    have h3 := (e_Has.get hT (c := p + 42) (k := 2) (lo := (-2147483648)) (hi := 2147483647) (kG_2 (p := p) (by omega) (by omega)) (by decide))
    refine e_Ok.ald (z := w (p + 42) 2) rfl (lG (p := p) (by omega) (by omega)) rfl (by omega) rfl (by omega) ?_
    refine e_Ok.run (t' := (47, [(0, (1, 19)), (1, (0, p))], [(1, 19), (0, w (p + 42) 2), (0, p), (1, 19)], w)) 1 rfl ?_
    refine e_Ok.getr (z := 41) rfl (el_o rfl) rfl rfl (Eq.trans (e_Has.eq hT rfl) (by omega)) (by omega) ?_
    refine e_Ok.run (t' := (51, [(0, (1, 19)), (1, (0, p))], [(0, p), (1, 41), (0, w (p + 42) 2), (0, p), (1, 19)], w)) 1 rfl ?_
    refine e_Ok.aald (z := p + 42) rfl (el_o rfl) rfl (by omega) (Eq.trans (e_Has.eq hT (k41 (by omega))) (by omega)) (by omega) ?_
    refine e_Ok.run (t' := (53, [(0, (1, 19)), (1, (0, p))], [(0, 3), (1, p + 42), (0, w (p + 42) 2), (0, p), (1, 19)], w)) 1 rfl ?_
    have h4 := (e_Has.get hT (c := p + 42) (k := 3) (lo := (-2147483648)) (hi := 2147483647) (kG_3 (p := p) (by omega) (by omega)) (by decide))
    refine e_Ok.ald (z := w (p + 42) 3) rfl (lG (p := p) (by omega) (by omega)) rfl (by omega) rfl (by omega) ?_
    refine e_Ok.callV rfl (by omega) rfl rfl rfl rfl (c_79_k hT (by omega) (by omega) (by omega)) (fun r5 w6 h7 => ?_)
    obtain ⟨rfl, q8f, q8T, q8x⟩ := h7
    have f9 : e_fr kFl w w6 := e_fr.trans (e_fr.refl w) (e_fr.mono q8f (fun c k q => by exact q))
    show e_Ok 20 elay kcode eI (d + 1) 78 (57, [(0, (1, 19)), (1, (0, p))], [], w6) _
    refine e_Ok.rets rfl rfl ?_
    obtain ⟨z8, x1, x2, rfl, k1, k2, k3⟩ := q8x
    exact ⟨rfl, f9, q8T, hf.lie (by omega) (by omega) (show kn1 (w (p + 42) 2) from by unfold kn1; omega) (show kn1 (w (p + 42) 3) from by unfold kn1; omega) k1 k2 k3⟩
  · replace h2 : (w (p + 42) 0 : Int) < 4 := by have q : ¬ ((w (p + 42) 0 : Int) ≥ 4) := h2; omega
    refine e_Ok.run (t' := (14, [(0, (1, 19)), (1, (0, p))], [(1, 19), (1, 19)], w)) 2 rfl ?_
    refine e_Ok.getr (z := 41) rfl (el_o rfl) rfl rfl (Eq.trans (e_Has.eq hT rfl) (by omega)) (by omega) ?_
    refine e_Ok.run (t' := (18, [(0, (1, 19)), (1, (0, p))], [(0, p), (1, 41), (1, 19)], w)) 1 rfl ?_
    refine e_Ok.aald (z := p + 42) rfl (el_o rfl) rfl (by omega) (Eq.trans (e_Has.eq hT (k41 (by omega))) (by omega)) (by omega) ?_
    refine e_Ok.run (t' := (20, [(0, (1, 19)), (1, (0, p))], [(0, 0), (1, p + 42), (1, 19)], w)) 1 rfl ?_
    refine e_Ok.ald (z := w (p + 42) 0) rfl (lG (p := p) (by omega) (by omega)) rfl (by omega) rfl (by omega) ?_
    refine e_Ok.run (t' := (23, [(0, (1, 19)), (1, (0, p))], [(1, 19), (0, p), (0, w (p + 42) 0), (1, 19)], w)) 2 rfl ?_
    refine e_Ok.getr (z := 41) rfl (el_o rfl) rfl rfl (Eq.trans (e_Has.eq hT rfl) (by omega)) (by omega) ?_
    refine e_Ok.run (t' := (27, [(0, (1, 19)), (1, (0, p))], [(0, p), (1, 41), (0, p), (0, w (p + 42) 0), (1, 19)], w)) 1 rfl ?_
    refine e_Ok.aald (z := p + 42) rfl (el_o rfl) rfl (by omega) (Eq.trans (e_Has.eq hT (k41 (by omega))) (by omega)) (by omega) ?_
    refine e_Ok.run (t' := (29, [(0, (1, 19)), (1, (0, p))], [(0, 1), (1, p + 42), (0, p), (0, w (p + 42) 0), (1, 19)], w)) 1 rfl ?_
    have h10 := (e_Has.get hT (c := p + 42) (k := 1) (lo := (-2147483648)) (hi := 2147483647) (kG_1 (p := p) (by omega) (by omega)) (by decide))
    refine e_Ok.ald (z := w (p + 42) 1) rfl (lG (p := p) (by omega) (by omega)) rfl (by omega) rfl (by omega) ?_
    have hb := hF (by omega)
    refine e_Ok.callV rfl (by omega) rfl rfl rfl rfl (c_80_k hT (by omega) (by omega) (by omega) (hf.ord (by omega) (by omega) (by omega))) (fun r11 w12 h13 => ?_)
    obtain ⟨rfl, q14f, q14T, q14x⟩ := h13
    have f15 : e_fr kFl w w12 := e_fr.trans (e_fr.refl w) (e_fr.mono q14f (fun c k q => by exact q))
    show e_Ok 20 elay kcode eI (d + 1) 78 (33, [(0, (1, 19)), (1, (0, p))], [], w12) _
    refine e_Ok.run (t' := (57, [(0, (1, 19)), (1, (0, p))], [], w12)) 1 rfl ?_
    refine e_Ok.rets rfl rfl ?_
    exact ⟨rfl, f15, q14T, hf.come (by omega) (by omega) (by omega) (show kn1 (w (p + 42) 1) from by unfold kn1; omega) q14x⟩
theorem c_77_k {d : Nat} (hd : 23 ≤ d) {w : eW} (hT : e_Has kTy w) (hF : ∀ p, 0 ≤ p → p < w 19 1 → w (p + 42) 0 < 4 → w (p + 42) 0 < w 19 0) : e_Ok 20 elay kcode eI d 77 (0, [(0, (1, 19))], [], w) (fun r w' => r = [] ∧ e_fr kFl w w' ∧ e_Has kTy w' ∧ fK w') := by
  obtain ⟨d, rfl⟩ : ∃ e, d = e + 1 := ⟨d - 1, by omega⟩
  have hB := e_Has.get hT (c := 19) (k := 0) (lo := 0) (hi := 4) rfl (by decide)
  have hP := e_Has.get hT (c := 19) (k := 1) (lo := 0) (hi := 32) rfl (by decide)
  refine e_Ok.run (t' := (2, [(1, (0, 0)), (0, (1, 19))], [], w)) 2 rfl ?_
  have hL1 : ∀ (nn : Nat) (y1 : Int) (v1 : eW), e_fr kFl w v1 ∧ e_Has kTy v1 ∧ (∀ i, 0 ≤ i → i < y1 → v1 35 i = 0) ∧ (0 ≤ y1 ∧ y1 ≤ 4) → 4 - y1 < nn → e_Ok 20 elay kcode eI (d + 1) 77 (2, [(0, (1, 19)), (1, (0, y1))], [], v1) (fun r w' => r = [] ∧ e_fr kFl w w' ∧ e_Has kTy w' ∧ fK w') := by
    intro nn
    induction nn with
    | zero => intro y1 v1 hj hm; obtain ⟨j3, j4, j5, j6⟩ := hj; exfalso; omega
    | succ nn ih2 =>
      intro y1 v1 hj hm
      obtain ⟨j3, j4, j5, j6⟩ := hj
      refine e_Ok.run (t' := (4, [(0, (1, 19)), (1, (0, y1))], [(1, 19), (0, y1)], v1)) 2 rfl ?_
      have h7 := (e_Has.get hT (c := 19) (k := 0) (lo := 0) (hi := 4) rfl (by decide))
      refine e_Ok.getf (z := w 19 0) rfl (el_o rfl) rfl rfl ((j3 19 0 (by unfold kFl; omega)).trans rfl) (by omega) ?_
      refine e_Ok.if2 rfl (fun h8 => ?_) (fun h8 => ?_)
      · replace h8 : (y1 : Int) ≥ w 19 0 := h8
        refine e_Ok.run (t' := (25, [(1, (0, 0)), (0, (1, 19))], [], v1)) 2 rfl ?_
        have hL9 : ∀ (nn : Nat) (y1b : Int) (v2 : eW), e_fr kFl w v2 ∧ e_Has kTy v2 ∧ fKn v2 y1b ∧ y1b ≤ w 19 1 ∧ (0 ≤ y1b ∧ y1b ≤ 32) → 32 - y1b < nn → e_Ok 20 elay kcode eI (d + 1) 77 (25, [(0, (1, 19)), (1, (0, y1b))], [], v2) (fun r w' => r = [] ∧ e_fr kFl w w' ∧ e_Has kTy w' ∧ fK w') := by
          intro nn
          induction nn with
          | zero => intro y1b v2 hj hm; obtain ⟨j11, j12, j13, j14, j15⟩ := hj; exfalso; omega
          | succ nn ih10 =>
            intro y1b v2 hj hm
            obtain ⟨j11, j12, j13, j14, j15⟩ := hj
            refine e_Ok.run (t' := (27, [(0, (1, 19)), (1, (0, y1b))], [(1, 19), (0, y1b)], v2)) 2 rfl ?_
            have h16 := (e_Has.get hT (c := 19) (k := 1) (lo := 0) (hi := 32) rfl (by decide))
            refine e_Ok.getf (z := w 19 1) rfl (el_o rfl) rfl rfl ((j11 19 1 (by unfold kFl; omega)).trans rfl) (by omega) ?_
            refine e_Ok.if2 rfl (fun h17 => ?_) (fun h17 => ?_)
            · replace h17 : (y1b : Int) ≥ w 19 1 := h17
              refine e_Ok.rets rfl rfl ?_
              exact ⟨rfl, j11, j12, (show fKn v2 (w 19 1) from by have g := j13; rw [show y1b = w 19 1 by omega] at g; exact g).fK (j11 19 1 (by unfold kFl; omega)) (by omega)⟩
            · replace h17 : (y1b : Int) < w 19 1 := by have q : ¬ ((y1b : Int) ≥ w 19 1) := h17; omega
              refine e_Ok.run (t' := (35, [(0, (1, 19)), (1, (0, y1b))], [(0, y1b), (1, 19)], v2)) 2 rfl ?_
              refine e_Ok.callV rfl (by omega) rfl rfl rfl rfl (c_78_k (by omega) j12 (by omega) j13 (by rw [j11 _ 0 (by unfold kFl; omega), j11 19 0 (by unfold kFl; omega)]; exact hF y1b (by omega) (by omega))) (fun r18 w19 h20 => ?_)
              obtain ⟨rfl, q21f, q21T, q21x⟩ := h20
              have f22 : e_fr kFl w w19 := e_fr.trans j11 (e_fr.mono q21f (fun c k q => by exact q))
              show e_Ok 20 elay kcode eI (d + 1) 77 (38, [(0, (1, 19)), (1, (0, y1b))], [], w19) _
              refine e_Ok.inc (z := y1b + 1) rfl rfl (by omega) (by omega) ?_
              show e_Ok 20 elay kcode eI (d + 1) 77 (41, [(1, (0, y1b + 1)), (0, (1, 19))], [], w19) _
              refine e_Ok.run (t' := (25, [(1, (0, y1b + 1)), (0, (1, 19))], [], w19)) 1 rfl ?_
              refine e_Ok.sub kAlk (e_sub_of rfl ?_) (ih10 (y1b + 1) w19 ⟨f22, q21T, q21x, by omega, by omega⟩ (by omega))
              exact ⟨rfl, rfl, trivial⟩
        refine e_Ok.sub kAlk (e_sub_of rfl ?_) (hL9 (32 + 1 : Int).toNat 0 v1 ⟨j3, j4, ⟨fun b g1 g2 => by rw [j3 19 0 (by unfold kFl; omega)] at g2; have z := j5 b g1 (by omega); exact ⟨by omega, fun i g3 g4 => by omega⟩, fun p g1 g2 => by omega⟩, by omega, by omega⟩ (by omega))
        exact ⟨rfl, rfl, trivial⟩
      · replace h8 : (y1 : Int) < w 19 0 := by have q : ¬ ((y1 : Int) ≥ w 19 0) := h8; omega
        refine e_Ok.run (t' := (11, [(0, (1, 19)), (1, (0, y1))], [(1, 19)], v1)) 1 rfl ?_
        refine e_Ok.getr (z := 35) rfl (el_o rfl) rfl rfl ((j3 19 13 (by unfold kFl; omega)).trans (Eq.trans (e_Has.eq hT rfl) (by omega))) (by omega) ?_
        refine e_Ok.run (t' := (16, [(0, (1, 19)), (1, (0, y1))], [(0, 0), (0, y1), (1, 35)], v1)) 2 rfl ?_
        refine e_Ok.ast rfl (el_o rfl) rfl rfl (by omega) ?_
        generalize hw23 : e_up v1 35 y1 0 = w23
        have f24 : e_fr kFl w w23 := e_fr.up j3 hw23 (by unfold kFl; omega)
        have hT25 : e_Has kTy w23 := e_Has.ups j4 hw23 rfl
        refine e_Ok.inc (z := y1 + 1) rfl rfl (by omega) (by omega) ?_
        show e_Ok 20 elay kcode eI (d + 1) 77 (20, [(1, (0, y1 + 1)), (0, (1, 19))], [], w23) _
        refine e_Ok.run (t' := (2, [(1, (0, y1 + 1)), (0, (1, 19))], [], w23)) 1 rfl ?_
        refine e_Ok.sub kAlk (e_sub_of rfl ?_) (ih2 (y1 + 1) w23 ⟨f24, hT25, (fun i g1 g2 => by rw [← hw23]; by_cases e : i = y1; (rw [e, e_up_eq]); (rw [e_up_ne _ _ (Or.inr e)]; exact j5 i g1 (by omega))), by omega⟩ (by omega))
        exact ⟨rfl, rfl, trivial⟩
  refine e_Ok.sub kAlk (e_sub_of rfl ?_) (hL1 (4 + 1 : Int).toNat 0 w ⟨(e_fr.refl w), hT, (fun i g1 g2 => by omega), by omega⟩ (by omega))
  exact ⟨rfl, rfl, trivial⟩
end
