noncomputable section
/-! the class: what only counts for never() -/
theorem c_89_n {d : Nat} (hd : 21 ≤ d) {w : eW} (hT : e_Has kTy w) {a j : Int} (ga : 0 ≤ a ∧ a ≤ 3) (gj : 0 ≤ j ∧ j ≤ 5) {x : Int} (g_x : (-2147483648) ≤ x ∧ x ≤ 2147483647) : e_Ok 20 elay kcode eI d 89 (0, [(0, (1, 17 * a + j + 97)), (1, (0, x))], [], w) (fun r w' => ∃ z : Int, r = [(0, z)] ∧ w = w' ∧ (0 ≤ z ∧ z ≤ 1)) := by
  obtain ⟨d, rfl⟩ : ∃ e, d = e + 1 := ⟨d - 1, by omega⟩
  refine e_Ok.run (t' := (2, [(0, (1, 17 * a + j + 97)), (1, (0, x))], [(1, 17 * a + j + 97), (0, x)], w)) 2 rfl ?_
  have h1 := (e_Has.get hT (c := 17 * a + j + 97) (k := 1) (lo := (-2147483648)) (hi := 2147483647) (kJ_1 (a := a) (j := j) (by omega) (by omega) (by omega)) (by decide))
  refine e_Ok.getf (z := w (17 * a + j + 97) 1) rfl (lJ (a := a) (j := j) (by omega) (by omega) (by omega)) rfl rfl rfl (by omega) ?_
  refine e_Ok.run (t' := (6, [(0, (1, 17 * a + j + 97)), (1, (0, x))], [(1, 17 * a + j + 97), (0, w (17 * a + j + 97) 1), (0, x)], w)) 1 rfl ?_
  have h2 := (e_Has.get hT (c := 17 * a + j + 97) (k := 2) (lo := (-2147483648)) (hi := 2147483647) (kJ_2 (a := a) (j := j) (by omega) (by omega) (by omega)) (by decide))
  refine e_Ok.getf (z := w (17 * a + j + 97) 2) rfl (lJ (a := a) (j := j) (by omega) (by omega) (by omega)) rfl rfl rfl (by omega) ?_
  refine e_Ok.callS rfl (by omega) rfl rfl (c_242 (by omega) (by omega) (by omega)) (fun r3 w4 h5 => ?_)
  obtain ⟨z6, rfl, rfl, q7⟩ := h5
  obtain ⟨rfl, q7⟩ | ⟨rfl, q7⟩ := q7
  · show e_Ok 20 elay kcode eI (d + 1) 89 (12, [(0, (1, 17 * a + j + 97)), (1, (0, x))], [(0, 1)], w) _
    refine e_Ok.rets rfl rfl ?_
    exact ⟨_, rfl, rfl, by omega⟩
  · show e_Ok 20 elay kcode eI (d + 1) 89 (12, [(0, (1, 17 * a + j + 97)), (1, (0, x))], [(0, 0)], w) _
    refine e_Ok.rets rfl rfl ?_
    exact ⟨_, rfl, rfl, by omega⟩
theorem c_94_n {d : Nat} (hd : 22 ≤ d) {w : eW} (hT : e_Has kTy w) {a j : Int} (ga : 0 ≤ a ∧ a ≤ 3) (gj : 0 ≤ j ∧ j ≤ 5) {x : Int} (g_x : 0 ≤ x ∧ x ≤ 1) (hb : kn1 (w (17 * a + j + 97) 11)) : e_Ok 20 elay kcode eI d 94 (0, [(0, (1, 17 * a + j + 97)), (1, (0, x))], [], w) (fun r w' => ∃ z : Int, r = [(0, z)] ∧ w = w' ∧ (0 ≤ z ∧ z ≤ 1)) := by
  obtain ⟨d, rfl⟩ : ∃ e, d = e + 1 := ⟨d - 1, by omega⟩
  unfold kn1 at hb
  refine e_Ok.run (t' := (2, [(0, (1, 17 * a + j + 97)), (1, (0, x))], [(1, 17 * a + j + 97), (1, 17 * a + j + 97)], w)) 2 rfl ?_
  have h1 := (e_Has.get hT (c := 17 * a + j + 97) (k := 7) (lo := (-2147483648)) (hi := 2147483647) (kJ_7 (a := a) (j := j) (by omega) (by omega) (by omega)) (by decide))
  refine e_Ok.getf (z := w (17 * a + j + 97) 7) rfl (lJ (a := a) (j := j) (by omega) (by omega) (by omega)) rfl rfl rfl (by omega) ?_
  refine e_Ok.callV rfl (by omega) rfl (lJ (a := a) (j := j) (by omega) (by omega) (by omega)) rfl rfl (c_89_n (by omega) hT (by omega) (by omega) (by omega)) (fun r2 w3 h4 => ?_)
  obtain ⟨z5, rfl, rfl, q6⟩ := h4
  show e_Ok 20 elay kcode eI (d + 1) 94 (8, [(0, (1, 17 * a + j + 97)), (1, (0, x))], [(0, z5)], w) _
  refine e_Ok.if1 rfl (fun h7 => ?_) (fun h7 => ?_)
  · replace h7 : (z5 : Int) ≠ 0 := h7
    refine e_Ok.run (t' := (14, [(0, (1, 17 * a + j + 97)), (1, (0, x))], [(0, x)], w)) 1 rfl ?_
    refine e_Ok.if1 rfl (fun h8 => ?_) (fun h8 => ?_)
    · replace h8 : (x : Int) = 0 := h8
      refine e_Ok.run (t' := (55, [(0, (1, 17 * a + j + 97)), (1, (0, x))], [(0, 0)], w)) 1 rfl ?_
      refine e_Ok.rets rfl rfl ?_
      exact ⟨_, rfl, rfl, by omega⟩
    · replace h8 : (x : Int) ≠ 0 := by have q : ¬ ((x : Int) = 0) := h8; omega
      refine e_Ok.run (t' := (18, [(0, (1, 17 * a + j + 97)), (1, (0, x))], [(1, 17 * a + j + 97)], w)) 1 rfl ?_
      have h9 := (e_Has.get hT (c := 17 * a + j + 97) (k := 8) (lo := (-2000)) (hi := 2000) (kJ_8 (a := a) (j := j) (by omega) (by omega) (by omega)) (by decide))
      refine e_Ok.getf (z := w (17 * a + j + 97) 8) rfl (lJ (a := a) (j := j) (by omega) (by omega) (by omega)) rfl rfl rfl (by omega) ?_
      refine e_Ok.mabs rfl rfl (by omega) (fun z10 z10r hz10 => ?_)
      replace hz10 : (0 ≤ (w (17 * a + j + 97) 8) → z10 = w (17 * a + j + 97) 8) ∧ ((w (17 * a + j + 97) 8) < 0 → -2147483647 ≤ (w (17 * a + j + 97) 8) → z10 = -(w (17 * a + j + 97) 8)) := hz10
      refine e_Ok.run (t' := (25, [(0, (1, 17 * a + j + 97)), (1, (0, x))], [(1, 17 * a + j + 97), (0, z10)], w)) 1 rfl ?_
      have h11 := (e_Has.get hT (c := 17 * a + j + 97) (k := 5) (lo := (-2147483648)) (hi := 2147483647) (kJ_5 (a := a) (j := j) (by omega) (by omega) (by omega)) (by decide))
      refine e_Ok.getf (z := w (17 * a + j + 97) 5) rfl (lJ (a := a) (j := j) (by omega) (by omega) (by omega)) rfl rfl rfl (by omega) ?_
      refine e_Ok.if2 rfl (fun h12 => ?_) (fun h12 => ?_)
      · replace h12 : (z10 : Int) > w (17 * a + j + 97) 5 := h12
        refine e_Ok.run (t' := (55, [(0, (1, 17 * a + j + 97)), (1, (0, x))], [(0, 1)], w)) 2 rfl ?_
        refine e_Ok.rets rfl rfl ?_
        exact ⟨_, rfl, rfl, by omega⟩
      · replace h12 : (z10 : Int) ≤ w (17 * a + j + 97) 5 := by have q : ¬ ((z10 : Int) > w (17 * a + j + 97) 5) := h12; omega
        refine e_Ok.run (t' := (32, [(0, (1, 17 * a + j + 97)), (1, (0, x))], [(1, 17 * a + j + 97)], w)) 1 rfl ?_
        refine e_Ok.getf (z := w (17 * a + j + 97) 8) rfl (lJ (a := a) (j := j) (by omega) (by omega) (by omega)) rfl rfl rfl (by omega) ?_
        refine e_Ok.run (t' := (36, [(0, (1, 17 * a + j + 97)), (1, (0, x))], [(1, 17 * a + j + 97), (0, w (17 * a + j + 97) 8)], w)) 1 rfl ?_
        refine e_Ok.getf (z := w (17 * a + j + 97) 11) rfl (lJ (a := a) (j := j) (by omega) (by omega) (by omega)) rfl rfl rfl (by omega) ?_
        refine e_Ok.any rfl (eF_sub_any _ _) (fun z13 z13a z13b => ?_)
        refine e_Ok.mabs rfl rfl (by omega) (fun z14 z14r hz14 => ?_)
        replace hz14 : (0 ≤ z13 → z14 = z13) ∧ (z13 < 0 → -2147483647 ≤ z13 → z14 = -z13) := hz14
        refine e_Ok.run (t' := (44, [(0, (1, 17 * a + j + 97)), (1, (0, x))], [(1, 17 * a + j + 97), (0, z14)], w)) 1 rfl ?_
        have h15 := (e_Has.get hT (c := 17 * a + j + 97) (k := 6) (lo := (-2147483648)) (hi := 2147483647) (kJ_6 (a := a) (j := j) (by omega) (by omega) (by omega)) (by decide))
        refine e_Ok.getf (z := w (17 * a + j + 97) 6) rfl (lJ (a := a) (j := j) (by omega) (by omega) (by omega)) rfl rfl rfl (by omega) ?_
        refine e_Ok.if2 rfl (fun h16 => ?_) (fun h16 => ?_)
        · replace h16 : (z14 : Int) ≤ w (17 * a + j + 97) 6 := h16
          refine e_Ok.run (t' := (55, [(0, (1, 17 * a + j + 97)), (1, (0, x))], [(0, 0)], w)) 1 rfl ?_
          refine e_Ok.rets rfl rfl ?_
          exact ⟨_, rfl, rfl, by omega⟩
        · replace h16 : (z14 : Int) > w (17 * a + j + 97) 6 := by have q : ¬ ((z14 : Int) ≤ w (17 * a + j + 97) 6) := h16; omega
          refine e_Ok.run (t' := (55, [(0, (1, 17 * a + j + 97)), (1, (0, x))], [(0, 1)], w)) 2 rfl ?_
          refine e_Ok.rets rfl rfl ?_
          exact ⟨_, rfl, rfl, by omega⟩
  · replace h7 : (z5 : Int) = 0 := by have q : ¬ ((z5 : Int) ≠ 0) := h7; omega
    refine e_Ok.run (t' := (12, [(0, (1, 17 * a + j + 97)), (1, (0, x))], [(0, 1)], w)) 1 rfl ?_
    refine e_Ok.rets rfl rfl ?_
    exact ⟨_, rfl, rfl, by omega⟩
theorem c_19_n {d : Nat} (hd : 24 ≤ d) {w : eW} (hT : e_Has kTy w) {a : Int} (ga : 0 ≤ a ∧ a ≤ 3) {x : Int} (g_x : 0 ≤ x ∧ x ≤ 1) (hb : ∀ j, 0 ≤ j → j < w (17 * a + 86) 8 → kn1 (w (17 * a + j + 97) 11)) : e_Ok 20 elay kcode eI d 19 (0, [(0, (1, 17 * a + 86)), (1, (0, x))], [], w) (fun r w' => ∃ z : Int, r = [(0, z)] ∧ w = w' ∧ (0 ≤ z ∧ z ≤ 6)) := by
  obtain ⟨d, rfl⟩ : ∃ e, d = e + 1 := ⟨d - 1, by omega⟩
  have hjn := kn_joints hT (a := a) (by omega)
  refine e_Ok.run (t' := (4, [(3, (0, 0)), (2, (0, 0)), (0, (1, 17 * a + 86)), (1, (0, x))], [], w)) 4 rfl ?_
  have hL1 : ∀ (nn : Nat) (y2 : Int) (y3 : Int), (0 ≤ y2 ∧ y2 ≤ y3 ∧ y3 ≤ 6) → 7 - y3 < nn → e_Ok 20 elay kcode eI (d + 1) 19 (4, [(0, (1, 17 * a + 86)), (1, (0, x)), (2, (0, y2)), (3, (0, y3))], [], w) (fun r w' => ∃ z : Int, r = [(0, z)] ∧ w = w' ∧ (0 ≤ z ∧ z ≤ 6)) := by
    intro nn
    induction nn with
    | zero => intro y2 y3 hj hm; obtain j3 := hj; exfalso; omega
    | succ nn ih2 =>
      intro y2 y3 hj hm
      obtain j3 := hj
      refine e_Ok.run (t' := (6, [(0, (1, 17 * a + 86)), (1, (0, x)), (2, (0, y2)), (3, (0, y3))], [(1, 17 * a + 86), (0, y3)], w)) 2 rfl ?_
      have h4 := (e_Has.get hT (c := 17 * a + 86) (k := 8) (lo := 0) (hi := 6) (kA_8 (a := a) (by omega) (by omega)) (by decide))
      refine e_Ok.getf (z := w (17 * a + 86) 8) rfl (lA0 (a := a) (by omega) (by omega)) rfl rfl rfl (by omega) ?_
      refine e_Ok.if2 rfl (fun h5 => ?_) (fun h5 => ?_)
      · replace h5 : (y3 : Int) ≥ w (17 * a + 86) 8 := h5
        refine e_Ok.run (t' := (35, [(0, (1, 17 * a + 86)), (1, (0, x)), (2, (0, y2)), (3, (0, y3))], [(0, y2)], w)) 1 rfl ?_
        refine e_Ok.rets rfl rfl ?_
        exact ⟨_, rfl, rfl, by omega⟩
      · replace h5 : (y3 : Int) < w (17 * a + 86) 8 := by have q : ¬ ((y3 : Int) ≥ w (17 * a + 86) 8) := h5; omega
        refine e_Ok.run (t' := (13, [(0, (1, 17 * a + 86)), (1, (0, x)), (2, (0, y2)), (3, (0, y3))], [(1, 17 * a + 86)], w)) 1 rfl ?_
        refine e_Ok.getr (z := 17 * a + 87) rfl (lA0 (a := a) (by omega) (by omega)) rfl rfl (Eq.trans (e_Has.eq hT (kA_0 (a := a) (by omega) (by omega))) (by omega)) (by omega) ?_
        refine e_Ok.run (t' := (17, [(0, (1, 17 * a + 86)), (1, (0, x)), (2, (0, y2)), (3, (0, y3))], [(0, y3), (1, 17 * a + 87)], w)) 1 rfl ?_
        refine e_Ok.aald (z := 17 * a + y3 + 97) rfl (lA1 (a := a) (by omega) (by omega)) rfl (by omega) (Eq.trans (e_Has.eq hT (kA87 (a := a) (by omega) (by omega) (by omega))) (by omega)) (by omega) ?_
        refine e_Ok.run (t' := (19, [(0, (1, 17 * a + 86)), (1, (0, x)), (2, (0, y2)), (3, (0, y3))], [(0, x), (1, 17 * a + y3 + 97)], w)) 1 rfl ?_
        refine e_Ok.callV rfl (by omega) rfl (lJ (a := a) (j := y3) (by omega) (by omega) (by omega)) rfl rfl (c_94_n (by omega) (a := a) (j := y3) hT (by omega) (by omega) (by omega) (hb y3 (by omega) (by omega))) (fun r6 w7 h8 => ?_)
        obtain ⟨z9, rfl, rfl, q10⟩ := h8
        show e_Ok 20 elay kcode eI (d + 1) 19 (22, [(0, (1, 17 * a + 86)), (1, (0, x)), (2, (0, y2)), (3, (0, y3))], [(0, z9)], w) _
        refine e_Ok.if1 rfl (fun h11 => ?_) (fun h11 => ?_)
        · replace h11 : (z9 : Int) = 0 := h11
          refine e_Ok.inc (z := y3 + 1) rfl rfl (by omega) (by omega) ?_
          show e_Ok 20 elay kcode eI (d + 1) 19 (31, [(3, (0, y3 + 1)), (0, (1, 17 * a + 86)), (1, (0, x)), (2, (0, y2))], [], w) _
          refine e_Ok.run (t' := (4, [(3, (0, y3 + 1)), (0, (1, 17 * a + 86)), (1, (0, x)), (2, (0, y2))], [], w)) 1 rfl ?_
          refine e_Ok.sub kAlk (e_sub_of rfl ?_) (ih2 y2 (y3 + 1) ((by omega)) (by omega))
          exact ⟨rfl, rfl, rfl, rfl, trivial⟩
        · replace h11 : (z9 : Int) ≠ 0 := by have q : ¬ ((z9 : Int) = 0) := h11; omega
          refine e_Ok.inc (z := y2 + 1) rfl rfl (by omega) (by omega) ?_
          show e_Ok 20 elay kcode eI (d + 1) 19 (28, [(2, (0, y2 + 1)), (0, (1, 17 * a + 86)), (1, (0, x)), (3, (0, y3))], [], w) _
          refine e_Ok.inc (z := y3 + 1) rfl rfl (by omega) (by omega) ?_
          show e_Ok 20 elay kcode eI (d + 1) 19 (31, [(3, (0, y3 + 1)), (2, (0, y2 + 1)), (0, (1, 17 * a + 86)), (1, (0, x))], [], w) _
          refine e_Ok.run (t' := (4, [(3, (0, y3 + 1)), (2, (0, y2 + 1)), (0, (1, 17 * a + 86)), (1, (0, x))], [], w)) 1 rfl ?_
          refine e_Ok.sub kAlk (e_sub_of rfl ?_) (ih2 (y2 + 1) (y3 + 1) ((by omega)) (by omega))
          exact ⟨rfl, rfl, rfl, rfl, trivial⟩
  refine e_Ok.sub kAlk (e_sub_of rfl ?_) (hL1 (7 + 1 : Int).toNat 0 0 ((by omega)) (by omega))
  exact ⟨rfl, rfl, rfl, rfl, trivial⟩
theorem c_93_n {d : Nat} {w : eW} (hT : e_Has kTy w) {a j : Int} (ga : 0 ≤ a ∧ a ≤ 3) (gj : 0 ≤ j ∧ j ≤ 5) (hb : kn1 (w (17 * a + j + 97) 10)) : e_Ok 20 elay kcode eI d 93 (0, [(0, (1, 17 * a + j + 97))], [], w) (fun r w' => ∃ z : Int, r = [(0, z)] ∧ w = w' ∧ (0 ≤ z ∧ z ≤ 6000)) := by
  unfold kn1 at hb
  refine e_Ok.run (t' := (1, [(0, (1, 17 * a + j + 97))], [(1, 17 * a + j + 97)], w)) 1 rfl ?_
  have h1 := (e_Has.get hT (c := 17 * a + j + 97) (k := 9) (lo := (-2147483648)) (hi := 2147483647) (kJ_9 (a := a) (j := j) (by omega) (by omega) (by omega)) (by decide))
  refine e_Ok.getf (z := w (17 * a + j + 97) 9) rfl (lJ (a := a) (j := j) (by omega) (by omega) (by omega)) rfl rfl rfl (by omega) ?_
  refine e_Ok.run (t' := (5, [(0, (1, 17 * a + j + 97))], [(1, 17 * a + j + 97), (0, w (17 * a + j + 97) 9)], w)) 1 rfl ?_
  refine e_Ok.getf (z := w (17 * a + j + 97) 10) rfl (lJ (a := a) (j := j) (by omega) (by omega) (by omega)) rfl rfl rfl (by omega) ?_
  refine e_Ok.any rfl (eF_sub_any _ _) (fun z2 z2a z2b => ?_)
  refine e_Ok.mabs rfl rfl (by omega) (fun z3 z3r hz3 => ?_)
  replace hz3 : (0 ≤ z2 → z3 = z2) ∧ (z2 < 0 → -2147483647 ≤ z2 → z3 = -z2) := hz3
  refine e_Ok.run (t' := (17, [(3, (0, 0)), (2, (0, 0)), (1, (0, z3)), (0, (1, 17 * a + j + 97))], [], w)) 5 rfl ?_
  have hL4 : ∀ (nn : Nat) (y2 : Int) (y3 : Int), ((-2147483648 ≤ y2 ∧ y2 ≤ 2147483647)) ∧ ((0 ≤ y3 ∧ y3 ≤ 6000)) → 6001 - y3 < nn → e_Ok 20 elay kcode eI d 93 (17, [(0, (1, 17 * a + j + 97)), (1, (0, z3)), (2, (0, y2)), (3, (0, y3))], [], w) (fun r w' => ∃ z : Int, r = [(0, z)] ∧ w = w' ∧ (0 ≤ z ∧ z ≤ 6000)) := by
    intro nn
    induction nn with
    | zero => intro y2 y3 hj hm; obtain ⟨j6, j7⟩ := hj; exfalso; omega
    | succ nn ih5 =>
      intro y2 y3 hj hm
      obtain ⟨j6, j7⟩ := hj
      refine e_Ok.run (t' := (19, [(0, (1, 17 * a + j + 97)), (1, (0, z3)), (2, (0, y2)), (3, (0, y3))], [(0, z3), (0, y2)], w)) 2 rfl ?_
      refine e_Ok.if2 rfl (fun h8 => ?_) (fun h8 => ?_)
      · replace h8 : (y2 : Int) ≥ z3 := h8
        refine e_Ok.run (t' := (56, [(0, (1, 17 * a + j + 97)), (1, (0, z3)), (2, (0, y2)), (3, (0, y3))], [(0, y3)], w)) 1 rfl ?_
        refine e_Ok.rets rfl rfl ?_
        exact ⟨_, rfl, rfl, by omega⟩
      · replace h8 : (y2 : Int) < z3 := by have q : ¬ ((y2 : Int) ≥ z3) := h8; omega
        refine e_Ok.run (t' := (26, [(0, (1, 17 * a + j + 97)), (1, (0, z3)), (2, (0, y2)), (3, (0, y3))], [(0, 6000), (0, y3)], w)) 2 rfl ?_
        refine e_Ok.if2 rfl (fun h9 => ?_) (fun h9 => ?_)
        · replace h9 : (y3 : Int) ≥ 6000 := h9
          refine e_Ok.run (t' := (56, [(0, (1, 17 * a + j + 97)), (1, (0, z3)), (2, (0, y2)), (3, (0, y3))], [(0, y3)], w)) 1 rfl ?_
          refine e_Ok.rets rfl rfl ?_
          exact ⟨_, rfl, rfl, by omega⟩
        · replace h9 : (y3 : Int) < 6000 := by have q : ¬ ((y3 : Int) ≥ 6000) := h9; omega
          refine e_Ok.inc (z := y3 + 1) rfl rfl (by omega) (by omega) ?_
          show e_Ok 20 elay kcode eI d 93 (32, [(3, (0, y3 + 1)), (0, (1, 17 * a + j + 97)), (1, (0, z3)), (2, (0, y2))], [], w) _
          refine e_Ok.run (t' := (34, [(3, (0, y3 + 1)), (0, (1, 17 * a + j + 97)), (1, (0, z3)), (2, (0, y2))], [(1, 17 * a + j + 97), (0, y2)], w)) 2 rfl ?_
          have h10 := (e_Has.get hT (c := 17 * a + j + 97) (k := 5) (lo := (-2147483648)) (hi := 2147483647) (kJ_5 (a := a) (j := j) (by omega) (by omega) (by omega)) (by decide))
          refine e_Ok.getf (z := w (17 * a + j + 97) 5) rfl (lJ (a := a) (j := j) (by omega) (by omega) (by omega)) rfl rfl rfl (by omega) ?_
          refine e_Ok.run (t' := (38, [(3, (0, y3 + 1)), (0, (1, 17 * a + j + 97)), (1, (0, z3)), (2, (0, y2))], [(1, 17 * a + j + 97), (0, w (17 * a + j + 97) 5), (0, y2)], w)) 1 rfl ?_
          have h11 := (e_Has.get hT (c := 17 * a + j + 97) (k := 6) (lo := (-2147483648)) (hi := 2147483647) (kJ_6 (a := a) (j := j) (by omega) (by omega) (by omega)) (by decide))
          refine e_Ok.getf (z := w (17 * a + j + 97) 6) rfl (lJ (a := a) (j := j) (by omega) (by omega) (by omega)) rfl rfl rfl (by omega) ?_
          refine e_Ok.run (t' := (43, [(3, (0, y3 + 1)), (0, (1, 17 * a + j + 97)), (1, (0, z3)), (2, (0, y2))], [(0, 1), (0, y3 + 1), (0, w (17 * a + j + 97) 6), (0, w (17 * a + j + 97) 5), (0, y2)], w)) 2 rfl ?_
          refine e_Ok.add (z := y3 + 2) rfl (by omega) (by omega) ?_
          refine e_Ok.run (t' := (45, [(3, (0, y3 + 1)), (0, (1, 17 * a + j + 97)), (1, (0, z3)), (2, (0, y2))], [(0, 2), (0, y3 + 2), (0, w (17 * a + j + 97) 6), (0, w (17 * a + j + 97) 5), (0, y2)], w)) 1 rfl ?_
          refine e_Ok.divn (fun z12 hz12 => ?_) rfl (by omega) (by omega)
          replace hz12 : z12 = (y3 + 2) / 2 := hz12
          have z12r : 1 ≤ z12 ∧ z12 ≤ 3000 := by omega
          refine e_Ok.any rfl (eF_mul_any _ _) (fun z13 z13a z13b => ?_)
          refine e_Ok.mmin rfl rfl (fun z14 hz14 => ?_)
          replace hz14 : (z13 < w (17 * a + j + 97) 5 ∧ z14 = z13) ∨ ((w (17 * a + j + 97) 5) ≤ z13 ∧ z14 = w (17 * a + j + 97) 5) := hz14
          refine e_Ok.any rfl (eF_add_any _ _) (fun z15 z15a z15b => ?_)
          refine e_Ok.run (t' := (17, [(2, (0, z15)), (3, (0, y3 + 1)), (0, (1, 17 * a + j + 97)), (1, (0, z3))], [], w)) 2 rfl ?_
          refine e_Ok.sub kAlk (e_sub_of rfl ?_) (ih5 z15 (y3 + 1) ⟨(by omega), (by omega)⟩ (by omega))
          exact ⟨rfl, rfl, rfl, rfl, trivial⟩
  refine e_Ok.sub kAlk (e_sub_of rfl ?_) (hL4 (6001 + 1 : Int).toNat 0 0 ⟨(by omega), (by omega)⟩ (by omega))
  exact ⟨rfl, rfl, rfl, rfl, trivial⟩
theorem c_18_n {d : Nat} (hd : 22 ≤ d) {w : eW} (hT : e_Has kTy w) {a : Int} (ga : 0 ≤ a ∧ a ≤ 3) (hb : ∀ j, 0 ≤ j → j < w (17 * a + 86) 8 → kn1 (w (17 * a + j + 97) 10)) : e_Ok 20 elay kcode eI d 18 (0, [(0, (1, 17 * a + 86))], [], w) (fun r w' => ∃ z : Int, r = [(0, z)] ∧ w = w' ∧ (0 ≤ z ∧ z ≤ 6000)) := by
  obtain ⟨d, rfl⟩ : ∃ e, d = e + 1 := ⟨d - 1, by omega⟩
  have hjn := kn_joints hT (a := a) (by omega)
  refine e_Ok.run (t' := (4, [(2, (0, 0)), (1, (0, 0)), (0, (1, 17 * a + 86))], [], w)) 4 rfl ?_
  have hL1 : ∀ (nn : Nat) (y1 : Int) (y2 : Int), ((0 ≤ y1 ∧ y1 ≤ 6000)) ∧ ((0 ≤ y2 ∧ y2 ≤ 6)) → 7 - y2 < nn → e_Ok 20 elay kcode eI (d + 1) 18 (4, [(0, (1, 17 * a + 86)), (1, (0, y1)), (2, (0, y2))], [], w) (fun r w' => ∃ z : Int, r = [(0, z)] ∧ w = w' ∧ (0 ≤ z ∧ z ≤ 6000)) := by
    intro nn
    induction nn with
    | zero => intro y1 y2 hj hm; obtain ⟨j3, j4⟩ := hj; exfalso; omega
    | succ nn ih2 =>
      intro y1 y2 hj hm
      obtain ⟨j3, j4⟩ := hj
      refine e_Ok.run (t' := (6, [(0, (1, 17 * a + 86)), (1, (0, y1)), (2, (0, y2))], [(1, 17 * a + 86), (0, y2)], w)) 2 rfl ?_
      have h5 := (e_Has.get hT (c := 17 * a + 86) (k := 8) (lo := 0) (hi := 6) (kA_8 (a := a) (by omega) (by omega)) (by decide))
      refine e_Ok.getf (z := w (17 * a + 86) 8) rfl (lA0 (a := a) (by omega) (by omega)) rfl rfl rfl (by omega) ?_
      refine e_Ok.if2 rfl (fun h6 => ?_) (fun h6 => ?_)
      · replace h6 : (y2 : Int) ≥ w (17 * a + 86) 8 := h6
        refine e_Ok.run (t' := (33, [(0, (1, 17 * a + 86)), (1, (0, y1)), (2, (0, y2))], [(0, y1)], w)) 1 rfl ?_
        refine e_Ok.rets rfl rfl ?_
        exact ⟨_, rfl, rfl, by omega⟩
      · replace h6 : (y2 : Int) < w (17 * a + 86) 8 := by have q : ¬ ((y2 : Int) ≥ w (17 * a + 86) 8) := h6; omega
        refine e_Ok.run (t' := (14, [(0, (1, 17 * a + 86)), (1, (0, y1)), (2, (0, y2))], [(1, 17 * a + 86), (0, y1)], w)) 2 rfl ?_
        refine e_Ok.getr (z := 17 * a + 87) rfl (lA0 (a := a) (by omega) (by omega)) rfl rfl (Eq.trans (e_Has.eq hT (kA_0 (a := a) (by omega) (by omega))) (by omega)) (by omega) ?_
        refine e_Ok.run (t' := (18, [(0, (1, 17 * a + 86)), (1, (0, y1)), (2, (0, y2))], [(0, y2), (1, 17 * a + 87), (0, y1)], w)) 1 rfl ?_
        refine e_Ok.aald (z := 17 * a + y2 + 97) rfl (lA1 (a := a) (by omega) (by omega)) rfl (by omega) (Eq.trans (e_Has.eq hT (kA87 (a := a) (by omega) (by omega) (by omega))) (by omega)) (by omega) ?_
        refine e_Ok.callV rfl (by omega) rfl (lJ (a := a) (j := y2) (by omega) (by omega) (by omega)) rfl rfl (c_93_n (a := a) (j := y2) hT (by omega) (by omega) (hb y2 (by omega) (by omega))) (fun r7 w8 h9 => ?_)
        obtain ⟨z10, rfl, rfl, q11⟩ := h9
        show e_Ok 20 elay kcode eI (d + 1) 18 (22, [(0, (1, 17 * a + 86)), (1, (0, y1)), (2, (0, y2))], [(0, z10), (0, y1)], w) _
        refine e_Ok.mmax rfl rfl (fun z12 hz12 => ?_)
        replace hz12 : (y1 < z10 ∧ z12 = z10) ∨ (z10 ≤ y1 ∧ z12 = y1) := hz12
        refine e_Ok.run (t' := (26, [(1, (0, z12)), (0, (1, 17 * a + 86)), (2, (0, y2))], [], w)) 1 rfl ?_
        refine e_Ok.inc (z := y2 + 1) rfl rfl (by omega) (by omega) ?_
        show e_Ok 20 elay kcode eI (d + 1) 18 (29, [(2, (0, y2 + 1)), (1, (0, z12)), (0, (1, 17 * a + 86))], [], w) _
        refine e_Ok.run (t' := (4, [(2, (0, y2 + 1)), (1, (0, z12)), (0, (1, 17 * a + 86))], [], w)) 1 rfl ?_
        refine e_Ok.sub kAlk (e_sub_of rfl ?_) (ih2 z12 (y2 + 1) ⟨(by omega), (by omega)⟩ (by omega))
        exact ⟨rfl, rfl, rfl, trivial⟩
  refine e_Ok.sub kAlk (e_sub_of rfl ?_) (hL1 (7 + 1 : Int).toNat 0 0 ⟨(by omega), (by omega)⟩ (by omega))
  exact ⟨rfl, rfl, rfl, trivial⟩
set_option maxHeartbeats 4000000 in
theorem c_88_n {d : Nat} {w : eW} (h0 : kM1 w) {n : Int} (gn : 0 ≤ n ∧ n ≤ 4) : e_Ok 20 elay kcode eI d 88 (0, [(0, (1, 19)), (1, (1, 9)), (2, (0, n))], [], w) (fun r w' => ∃ z : Int, r = [(0, z)] ∧ w = w' ∧ (0 ≤ z ∧ z ≤ 32)) := by
  obtain ⟨hT, h1, h2⟩ := h0
  have hb0 := e_Has.get hT (c := 19) (k := 0) (lo := 0) (hi := 4) rfl (by decide)
  have hp0 := e_Has.get hT (c := 19) (k := 1) (lo := 0) (hi := 32) rfl (by decide)
  refine e_Ok.run (t' := (8, [(5, (0, 0)), (4, (0, 0)), (3, (0, 0)), (0, (1, 19)), (1, (1, 9)), (2, (0, n))], [], w)) 6 rfl ?_
  have hL1 : ∀ (nn : Nat) (y3 : Int) (y4 : Int) (y5 : Int), ((-2147483648 ≤ y3 ∧ y3 ≤ 2147483647)) ∧ ((-2147483648 ≤ y4 ∧ y4 ≤ 2147483647)) ∧ ((0 ≤ y5 ∧ y5 ≤ 4)) → 5 - y5 < nn → e_Ok 20 elay kcode eI d 88 (8, [(0, (1, 19)), (1, (1, 9)), (2, (0, n)), (3, (0, y3)), (4, (0, y4)), (5, (0, y5))], [], w) (fun r w' => ∃ z : Int, r = [(0, z)] ∧ w = w' ∧ (0 ≤ z ∧ z ≤ 32)) := by
    intro nn
    induction nn with
    | zero => intro y3 y4 y5 hj hm; obtain ⟨j3, j4, j5⟩ := hj; exfalso; omega
    | succ nn ih2 =>
      intro y3 y4 y5 hj hm
      obtain ⟨j3, j4, j5⟩ := hj
      refine e_Ok.run (t' := (11, [(0, (1, 19)), (1, (1, 9)), (2, (0, n)), (3, (0, y3)), (4, (0, y4)), (5, (0, y5))], [(1, 19), (0, y5)], w)) 2 rfl ?_
      have h6 := (e_Has.get hT (c := 19) (k := 0) (lo := 0) (hi := 4) rfl (by decide))
      refine e_Ok.getf (z := w 19 0) rfl rfl rfl rfl rfl (by omega) ?_
      refine e_Ok.if2 rfl (fun h7 => ?_) (fun h7 => ?_)
      · replace h7 : (y5 : Int) ≥ w 19 0 := h7
        refine e_Ok.run (t' := (81, [(5, (0, 0)), (0, (1, 19)), (1, (1, 9)), (2, (0, n)), (3, (0, y3)), (4, (0, y4))], [], w)) 2 rfl ?_
        have hL8 : ∀ (nn : Nat) (u3 : Int) (u4 : Int) (u5 : Int), ((-2147483648 ≤ u3 ∧ u3 ≤ 2147483647)) ∧ ((-2147483648 ≤ u4 ∧ u4 ≤ 2147483647)) ∧ ((0 ≤ u5 ∧ u5 ≤ 4)) → 5 - u5 < nn → e_Ok 20 elay kcode eI d 88 (81, [(0, (1, 19)), (1, (1, 9)), (2, (0, n)), (3, (0, u3)), (4, (0, u4)), (5, (0, u5))], [], w) (fun r w' => ∃ z : Int, r = [(0, z)] ∧ w = w' ∧ (0 ≤ z ∧ z ≤ 32)) := by
          intro nn
          induction nn with
          | zero => intro u3 u4 u5 hj hm; obtain ⟨j10, j11, j12⟩ := hj; exfalso; omega
          | succ nn ih9 =>
            intro u3 u4 u5 hj hm
            obtain ⟨j10, j11, j12⟩ := hj
            refine e_Ok.run (t' := (84, [(0, (1, 19)), (1, (1, 9)), (2, (0, n)), (3, (0, u3)), (4, (0, u4)), (5, (0, u5))], [(0, n), (0, u5)], w)) 2 rfl ?_
            refine e_Ok.if2 rfl (fun h13 => ?_) (fun h13 => ?_)
            · replace h13 : (u5 : Int) ≥ n := h13
              refine e_Ok.run (t' := (138, [(6, (0, 0)), (5, (0, 0)), (0, (1, 19)), (1, (1, 9)), (2, (0, n)), (3, (0, u3)), (4, (0, u4))], [], w)) 4 rfl ?_
              have hL14 : ∀ (nn : Nat) (t5 : Int) (t6 : Int), (0 ≤ t5 ∧ t5 ≤ t6 ∧ t6 ≤ 32) → 33 - t6 < nn → e_Ok 20 elay kcode eI d 88 (138, [(0, (1, 19)), (1, (1, 9)), (2, (0, n)), (3, (0, u3)), (4, (0, u4)), (5, (0, t5)), (6, (0, t6))], [], w) (fun r w' => ∃ z : Int, r = [(0, z)] ∧ w = w' ∧ (0 ≤ z ∧ z ≤ 32)) := by
                intro nn
                induction nn with
                | zero => intro t5 t6 hj hm; obtain j16 := hj; exfalso; omega
                | succ nn ih15 =>
                  intro t5 t6 hj hm
                  obtain j16 := hj
                  refine e_Ok.run (t' := (141, [(0, (1, 19)), (1, (1, 9)), (2, (0, n)), (3, (0, u3)), (4, (0, u4)), (5, (0, t5)), (6, (0, t6))], [(1, 19), (0, t6)], w)) 2 rfl ?_
                  have h17 := (e_Has.get hT (c := 19) (k := 1) (lo := 0) (hi := 32) rfl (by decide))
                  refine e_Ok.getf (z := w 19 1) rfl rfl rfl rfl rfl (by omega) ?_
                  refine e_Ok.if2 rfl (fun h18 => ?_) (fun h18 => ?_)
                  · replace h18 : (t6 : Int) ≥ w 19 1 := h18
                    refine e_Ok.run (t' := (198, [(0, (1, 19)), (1, (1, 9)), (2, (0, n)), (3, (0, u3)), (4, (0, u4)), (5, (0, t5)), (6, (0, t6))], [(0, t5)], w)) 1 rfl ?_
                    refine e_Ok.rets rfl rfl ?_
                    exact ⟨_, rfl, rfl, by omega⟩
                  · replace h18 : (t6 : Int) < w 19 1 := by have q : ¬ ((t6 : Int) ≥ w 19 1) := h18; omega
                    have hb3 := h2 t6 (by omega) (by omega); unfold kn1 at hb3
                    refine e_Ok.run (t' := (150, [(0, (1, 19)), (1, (1, 9)), (2, (0, n)), (3, (0, u3)), (4, (0, u4)), (5, (0, t5)), (6, (0, t6))], [(0, t6), (0, u3)], w)) 2 rfl ?_
                    refine e_Ok.any rfl (eB_any _ _) (fun z19 z19a z19b => ?_)
                    refine e_Ok.run (t' := (152, [(0, (1, 19)), (1, (1, 9)), (2, (0, n)), (3, (0, u3)), (4, (0, u4)), (5, (0, t5)), (6, (0, t6))], [(0, 1), (0, z19)], w)) 1 rfl ?_
                    refine e_Ok.andm 1 1 rfl (by decide) (fun z20 hz20 => ?_)
                    replace hz20 : 0 ≤ z20 ∧ z20 ≤ 1 := by omega
                    refine e_Ok.run (t' := (157, [(0, (1, 19)), (1, (1, 9)), (2, (0, n)), (3, (0, u3)), (4, (0, u4)), (5, (0, t5)), (6, (0, t6))], [(0, t6), (0, u4), (0, z20)], w)) 2 rfl ?_
                    refine e_Ok.any rfl (eB_any _ _) (fun z21 z21a z21b => ?_)
                    refine e_Ok.run (t' := (159, [(0, (1, 19)), (1, (1, 9)), (2, (0, n)), (3, (0, u3)), (4, (0, u4)), (5, (0, t5)), (6, (0, t6))], [(0, 1), (0, z21), (0, z20)], w)) 1 rfl ?_
                    refine e_Ok.andm 1 1 rfl (by decide) (fun z22 hz22 => ?_)
                    replace hz22 : 0 ≤ z22 ∧ z22 ≤ 1 := by omega
                    refine e_Ok.add (z := z20 + z22) rfl (by omega) (by omega) ?_
                    refine e_Ok.run (t' := (162, [(0, (1, 19)), (1, (1, 9)), (2, (0, n)), (3, (0, u3)), (4, (0, u4)), (5, (0, t5)), (6, (0, t6))], [(1, 19), (0, z20 + z22)], w)) 1 rfl ?_
                    refine e_Ok.getr (z := 36) rfl rfl rfl rfl (Eq.trans (e_Has.eq hT rfl) (by omega)) (by omega) ?_
                    refine e_Ok.run (t' := (167, [(0, (1, 19)), (1, (1, 9)), (2, (0, n)), (3, (0, u3)), (4, (0, u4)), (5, (0, t5)), (6, (0, t6))], [(0, t6), (1, 36), (0, z20 + z22)], w)) 1 rfl ?_
                    refine e_Ok.ald (z := w 36 t6) rfl rfl rfl (by omega) rfl (by omega) ?_
                    refine e_Ok.run (t' := (170, [(0, (1, 19)), (1, (1, 9)), (2, (0, n)), (3, (0, u3)), (4, (0, u4)), (5, (0, t5)), (6, (0, t6))], [(0, 8), (0, w 36 t6), (0, z20 + z22)], w)) 1 rfl ?_
                    refine e_Ok.if2 rfl (fun h23 => ?_) (fun h23 => ?_)
                    · replace h23 : (w 36 t6 : Int) ≠ 8 := h23
                      refine e_Ok.run (t' := (178, [(0, (1, 19)), (1, (1, 9)), (2, (0, n)), (3, (0, u3)), (4, (0, u4)), (5, (0, t5)), (6, (0, t6))], [(0, 0), (0, z20 + z22)], w)) 1 rfl ?_
                      refine e_Ok.add (z := z20 + z22) rfl (by omega) (by omega) ?_
                      refine e_Ok.run (t' := (184, [(7, (0, z20 + z22)), (0, (1, 19)), (1, (1, 9)), (2, (0, n)), (3, (0, u3)), (4, (0, u4)), (5, (0, t5)), (6, (0, t6))], [(0, 1), (0, z20 + z22)], w)) 3 rfl ?_
                      refine e_Ok.if2 rfl (fun h24 => ?_) (fun h24 => ?_)
                      · replace h24 : (z20 + z22 : Int) = 1 := h24
                        refine e_Ok.inc (z := t6 + 1) rfl rfl (by omega) (by omega) ?_
                        show e_Ok 20 elay kcode eI d 88 (193, [(6, (0, t6 + 1)), (7, (0, z20 + z22)), (0, (1, 19)), (1, (1, 9)), (2, (0, n)), (3, (0, u3)), (4, (0, u4)), (5, (0, t5))], [], w) _
                        refine e_Ok.run (t' := (138, [(6, (0, t6 + 1)), (7, (0, z20 + z22)), (0, (1, 19)), (1, (1, 9)), (2, (0, n)), (3, (0, u3)), (4, (0, u4)), (5, (0, t5))], [], w)) 1 rfl ?_
                        refine e_Ok.sub kAlk (e_sub_of rfl ?_) (ih15 t5 (t6 + 1) ((by omega)) (by omega))
                        exact ⟨rfl, rfl, rfl, rfl, rfl, rfl, rfl, trivial⟩
                      · replace h24 : (z20 + z22 : Int) ≠ 1 := by have q : ¬ ((z20 + z22 : Int) = 1) := h24; omega
                        refine e_Ok.inc (z := t5 + 1) rfl rfl (by omega) (by omega) ?_
                        show e_Ok 20 elay kcode eI d 88 (190, [(5, (0, t5 + 1)), (7, (0, z20 + z22)), (0, (1, 19)), (1, (1, 9)), (2, (0, n)), (3, (0, u3)), (4, (0, u4)), (6, (0, t6))], [], w) _
                        refine e_Ok.inc (z := t6 + 1) rfl rfl (by omega) (by omega) ?_
                        show e_Ok 20 elay kcode eI d 88 (193, [(6, (0, t6 + 1)), (5, (0, t5 + 1)), (7, (0, z20 + z22)), (0, (1, 19)), (1, (1, 9)), (2, (0, n)), (3, (0, u3)), (4, (0, u4))], [], w) _
                        refine e_Ok.run (t' := (138, [(6, (0, t6 + 1)), (5, (0, t5 + 1)), (7, (0, z20 + z22)), (0, (1, 19)), (1, (1, 9)), (2, (0, n)), (3, (0, u3)), (4, (0, u4))], [], w)) 1 rfl ?_
                        refine e_Ok.sub kAlk (e_sub_of rfl ?_) (ih15 (t5 + 1) (t6 + 1) ((by omega)) (by omega))
                        exact ⟨rfl, rfl, rfl, rfl, rfl, rfl, rfl, trivial⟩
                    · replace h23 : (w 36 t6 : Int) = 8 := by have q : ¬ ((w 36 t6 : Int) ≠ 8) := h23; omega
                      refine e_Ok.run (t' := (178, [(0, (1, 19)), (1, (1, 9)), (2, (0, n)), (3, (0, u3)), (4, (0, u4)), (5, (0, t5)), (6, (0, t6))], [(0, 1), (0, z20 + z22)], w)) 2 rfl ?_
                      refine e_Ok.add (z := z20 + z22 + 1) rfl (by omega) (by omega) ?_
                      refine e_Ok.run (t' := (184, [(7, (0, z20 + z22 + 1)), (0, (1, 19)), (1, (1, 9)), (2, (0, n)), (3, (0, u3)), (4, (0, u4)), (5, (0, t5)), (6, (0, t6))], [(0, 1), (0, z20 + z22 + 1)], w)) 3 rfl ?_
                      refine e_Ok.if2 rfl (fun h25 => ?_) (fun h25 => ?_)
                      · replace h25 : (z20 + z22 + 1 : Int) = 1 := h25
                        refine e_Ok.inc (z := t6 + 1) rfl rfl (by omega) (by omega) ?_
                        show e_Ok 20 elay kcode eI d 88 (193, [(6, (0, t6 + 1)), (7, (0, z20 + z22 + 1)), (0, (1, 19)), (1, (1, 9)), (2, (0, n)), (3, (0, u3)), (4, (0, u4)), (5, (0, t5))], [], w) _
                        refine e_Ok.run (t' := (138, [(6, (0, t6 + 1)), (7, (0, z20 + z22 + 1)), (0, (1, 19)), (1, (1, 9)), (2, (0, n)), (3, (0, u3)), (4, (0, u4)), (5, (0, t5))], [], w)) 1 rfl ?_
                        refine e_Ok.sub kAlk (e_sub_of rfl ?_) (ih15 t5 (t6 + 1) ((by omega)) (by omega))
                        exact ⟨rfl, rfl, rfl, rfl, rfl, rfl, rfl, trivial⟩
                      · replace h25 : (z20 + z22 + 1 : Int) ≠ 1 := by have q : ¬ ((z20 + z22 + 1 : Int) = 1) := h25; omega
                        refine e_Ok.inc (z := t5 + 1) rfl rfl (by omega) (by omega) ?_
                        show e_Ok 20 elay kcode eI d 88 (190, [(5, (0, t5 + 1)), (7, (0, z20 + z22 + 1)), (0, (1, 19)), (1, (1, 9)), (2, (0, n)), (3, (0, u3)), (4, (0, u4)), (6, (0, t6))], [], w) _
                        refine e_Ok.inc (z := t6 + 1) rfl rfl (by omega) (by omega) ?_
                        show e_Ok 20 elay kcode eI d 88 (193, [(6, (0, t6 + 1)), (5, (0, t5 + 1)), (7, (0, z20 + z22 + 1)), (0, (1, 19)), (1, (1, 9)), (2, (0, n)), (3, (0, u3)), (4, (0, u4))], [], w) _
                        refine e_Ok.run (t' := (138, [(6, (0, t6 + 1)), (5, (0, t5 + 1)), (7, (0, z20 + z22 + 1)), (0, (1, 19)), (1, (1, 9)), (2, (0, n)), (3, (0, u3)), (4, (0, u4))], [], w)) 1 rfl ?_
                        refine e_Ok.sub kAlk (e_sub_of rfl ?_) (ih15 (t5 + 1) (t6 + 1) ((by omega)) (by omega))
                        exact ⟨rfl, rfl, rfl, rfl, rfl, rfl, rfl, trivial⟩
              refine e_Ok.sub kAlk (e_sub_of rfl ?_) (hL14 (33 + 1 : Int).toNat 0 0 ((by omega)) (by omega))
              exact ⟨rfl, rfl, rfl, rfl, rfl, rfl, rfl, trivial⟩
            · replace h13 : (u5 : Int) < n := by have q : ¬ ((u5 : Int) ≥ n) := h13; omega
              refine e_Ok.run (t' := (90, [(0, (1, 19)), (1, (1, 9)), (2, (0, n)), (3, (0, u3)), (4, (0, u4)), (5, (0, u5))], [(0, u5), (1, 9)], w)) 2 rfl ?_
              refine e_Ok.aald (z := 17 * u5 + 86) rfl rfl rfl (by omega) (Eq.trans (e_Has.eq hT (k9 (by omega))) (by omega)) (by omega) ?_
              have h26 := (e_Has.get hT (c := 17 * u5 + 86) (k := 14) (lo := (-1)) (hi := 31) (kA_14 (a := u5) (by omega) (by omega)) (by decide))
              refine e_Ok.getf (z := w (17 * u5 + 86) 14) rfl (lA0 (a := u5) (by omega) (by omega)) rfl rfl rfl (by omega) ?_
              refine e_Ok.if1 rfl (fun h27 => ?_) (fun h27 => ?_)
              · replace h27 : (w (17 * u5 + 86) 14 : Int) ≥ 0 := h27
                refine e_Ok.run (t' := (105, [(0, (1, 19)), (1, (1, 9)), (2, (0, n)), (3, (0, u3)), (4, (0, u4)), (5, (0, u5))], [(0, u5), (1, 9), (0, 1)], w)) 3 rfl ?_
                refine e_Ok.aald (z := 17 * u5 + 86) rfl rfl rfl (by omega) (Eq.trans (e_Has.eq hT (k9 (by omega))) (by omega)) (by omega) ?_
                refine e_Ok.getf (z := w (17 * u5 + 86) 14) rfl (lA0 (a := u5) (by omega) (by omega)) rfl rfl rfl (by omega) ?_
                refine e_Ok.any rfl (eB_any _ _) (fun z28 z28a z28b => ?_)
                refine e_Ok.run (t' := (117, [(6, (0, z28)), (0, (1, 19)), (1, (1, 9)), (2, (0, n)), (3, (0, u3)), (4, (0, u4)), (5, (0, u5))], [(0, z28), (0, u3), (0, u4)], w)) 4 rfl ?_
                refine e_Ok.any rfl (eB_any _ _) (fun z29 z29a z29b => ?_)
                refine e_Ok.any rfl (eB_any _ _) (fun z30 z30a z30b => ?_)
                refine e_Ok.run (t' := (124, [(4, (0, z30)), (6, (0, z28)), (0, (1, 19)), (1, (1, 9)), (2, (0, n)), (3, (0, u3)), (5, (0, u5))], [(0, z28), (0, u3)], w)) 3 rfl ?_
                refine e_Ok.any rfl (eB_any _ _) (fun z31 z31a z31b => ?_)
                refine e_Ok.run (t' := (126, [(3, (0, z31)), (4, (0, z30)), (6, (0, z28)), (0, (1, 19)), (1, (1, 9)), (2, (0, n)), (5, (0, u5))], [], w)) 1 rfl ?_
                refine e_Ok.inc (z := u5 + 1) rfl rfl (by omega) (by omega) ?_
                show e_Ok 20 elay kcode eI d 88 (129, [(5, (0, u5 + 1)), (3, (0, z31)), (4, (0, z30)), (6, (0, z28)), (0, (1, 19)), (1, (1, 9)), (2, (0, n))], [], w) _
                refine e_Ok.run (t' := (81, [(5, (0, u5 + 1)), (3, (0, z31)), (4, (0, z30)), (6, (0, z28)), (0, (1, 19)), (1, (1, 9)), (2, (0, n))], [], w)) 1 rfl ?_
                refine e_Ok.sub kAlk (e_sub_of rfl ?_) (ih9 z31 z30 (u5 + 1) ⟨(by omega), (by omega), (by omega)⟩ (by omega))
                exact ⟨rfl, rfl, rfl, rfl, rfl, rfl, trivial⟩
              · replace h27 : (w (17 * u5 + 86) 14 : Int) < 0 := by have q : ¬ ((w (17 * u5 + 86) 14 : Int) ≥ 0) := h27; omega
                refine e_Ok.run (t' := (117, [(6, (0, 0)), (0, (1, 19)), (1, (1, 9)), (2, (0, n)), (3, (0, u3)), (4, (0, u4)), (5, (0, u5))], [(0, 0), (0, u3), (0, u4)], w)) 6 rfl ?_
                refine e_Ok.andm 0 0 rfl (by decide) (fun z32 hz32 => ?_)
                replace hz32 : 0 ≤ z32 ∧ z32 ≤ 0 := by omega
                refine e_Ok.any rfl (eB_any _ _) (fun z33 z33a z33b => ?_)
                refine e_Ok.run (t' := (124, [(4, (0, z33)), (6, (0, 0)), (0, (1, 19)), (1, (1, 9)), (2, (0, n)), (3, (0, u3)), (5, (0, u5))], [(0, 0), (0, u3)], w)) 3 rfl ?_
                refine e_Ok.any rfl (eB_any _ _) (fun z34 z34a z34b => ?_)
                refine e_Ok.run (t' := (126, [(3, (0, z34)), (4, (0, z33)), (6, (0, 0)), (0, (1, 19)), (1, (1, 9)), (2, (0, n)), (5, (0, u5))], [], w)) 1 rfl ?_
                refine e_Ok.inc (z := u5 + 1) rfl rfl (by omega) (by omega) ?_
                show e_Ok 20 elay kcode eI d 88 (129, [(5, (0, u5 + 1)), (3, (0, z34)), (4, (0, z33)), (6, (0, 0)), (0, (1, 19)), (1, (1, 9)), (2, (0, n))], [], w) _
                refine e_Ok.run (t' := (81, [(5, (0, u5 + 1)), (3, (0, z34)), (4, (0, z33)), (6, (0, 0)), (0, (1, 19)), (1, (1, 9)), (2, (0, n))], [], w)) 1 rfl ?_
                refine e_Ok.sub kAlk (e_sub_of rfl ?_) (ih9 z34 z33 (u5 + 1) ⟨(by omega), (by omega), (by omega)⟩ (by omega))
                exact ⟨rfl, rfl, rfl, rfl, rfl, rfl, trivial⟩
        refine e_Ok.sub kAlk (e_sub_of rfl ?_) (hL8 (5 + 1 : Int).toNat y3 y4 0 ⟨(by omega), (by omega), (by omega)⟩ (by omega))
        exact ⟨rfl, rfl, rfl, rfl, rfl, rfl, trivial⟩
      · replace h7 : (y5 : Int) < w 19 0 := by have q : ¬ ((y5 : Int) ≥ w 19 0) := h7; omega
        have hb1 := h1 y5 (by omega) (by omega)
        refine e_Ok.run (t' := (20, [(6, (0, 0)), (0, (1, 19)), (1, (1, 9)), (2, (0, n)), (3, (0, y3)), (4, (0, y4)), (5, (0, y5))], [], w)) 2 rfl ?_
        have hL35 : ∀ (nn : Nat) (x3 : Int) (x4 : Int) (y6 : Int), ((-2147483648 ≤ x3 ∧ x3 ≤ 2147483647)) ∧ ((-2147483648 ≤ x4 ∧ x4 ≤ 2147483647)) ∧ ((0 ≤ y6 ∧ y6 ≤ 32)) → 33 - y6 < nn → e_Ok 20 elay kcode eI d 88 (20, [(0, (1, 19)), (1, (1, 9)), (2, (0, n)), (3, (0, x3)), (4, (0, x4)), (5, (0, y5)), (6, (0, y6))], [], w) (fun r w' => ∃ z : Int, r = [(0, z)] ∧ w = w' ∧ (0 ≤ z ∧ z ≤ 32)) := by
          intro nn
          induction nn with
          | zero => intro x3 x4 y6 hj hm; obtain ⟨j37, j38, j40⟩ := hj; exfalso; omega
          | succ nn ih36 =>
            intro x3 x4 y6 hj hm
            obtain ⟨j37, j38, j40⟩ := hj
            refine e_Ok.run (t' := (23, [(0, (1, 19)), (1, (1, 9)), (2, (0, n)), (3, (0, x3)), (4, (0, x4)), (5, (0, y5)), (6, (0, y6))], [(1, 19), (0, y6)], w)) 2 rfl ?_
            refine e_Ok.getr (z := 35) rfl rfl rfl rfl (Eq.trans (e_Has.eq hT rfl) (by omega)) (by omega) ?_
            refine e_Ok.run (t' := (28, [(0, (1, 19)), (1, (1, 9)), (2, (0, n)), (3, (0, x3)), (4, (0, x4)), (5, (0, y5)), (6, (0, y6))], [(0, y5), (1, 35), (0, y6)], w)) 1 rfl ?_
            refine e_Ok.ald (z := w 35 y5) rfl rfl rfl (by omega) rfl (by omega) ?_
            refine e_Ok.if2 rfl (fun h41 => ?_) (fun h41 => ?_)
            · replace h41 : (y6 : Int) ≥ w 35 y5 := h41
              refine e_Ok.inc (z := y5 + 1) rfl rfl (by omega) (by omega) ?_
              show e_Ok 20 elay kcode eI d 88 (75, [(5, (0, y5 + 1)), (0, (1, 19)), (1, (1, 9)), (2, (0, n)), (3, (0, x3)), (4, (0, x4)), (6, (0, y6))], [], w) _
              refine e_Ok.run (t' := (8, [(5, (0, y5 + 1)), (0, (1, 19)), (1, (1, 9)), (2, (0, n)), (3, (0, x3)), (4, (0, x4)), (6, (0, y6))], [], w)) 1 rfl ?_
              refine e_Ok.sub kAlk (e_sub_of rfl ?_) (ih2 x3 x4 (y5 + 1) ⟨(by omega), (by omega), (by omega)⟩ (by omega))
              exact ⟨rfl, rfl, rfl, rfl, rfl, rfl, trivial⟩
            · replace h41 : (y6 : Int) < w 35 y5 := by have q : ¬ ((y6 : Int) ≥ w 35 y5) := h41; omega
              have hb2 := hb1.2 y6 (by omega) (by omega); unfold kn1 at hb2
              refine e_Ok.run (t' := (37, [(0, (1, 19)), (1, (1, 9)), (2, (0, n)), (3, (0, x3)), (4, (0, x4)), (5, (0, y5)), (6, (0, y6))], [(1, 19), (0, 1), (0, x3), (0, x4)], w)) 4 rfl ?_
              refine e_Ok.getr (z := 30) rfl rfl rfl rfl (Eq.trans (e_Has.eq hT rfl) (by omega)) (by omega) ?_
              refine e_Ok.run (t' := (42, [(0, (1, 19)), (1, (1, 9)), (2, (0, n)), (3, (0, x3)), (4, (0, x4)), (5, (0, y5)), (6, (0, y6))], [(0, y5), (1, 30), (0, 1), (0, x3), (0, x4)], w)) 1 rfl ?_
              refine e_Ok.aald (z := y5 + 31) rfl rfl rfl (by omega) (Eq.trans (e_Has.eq hT (k30 (by omega))) (by omega)) (by omega) ?_
              refine e_Ok.run (t' := (45, [(0, (1, 19)), (1, (1, 9)), (2, (0, n)), (3, (0, x3)), (4, (0, x4)), (5, (0, y5)), (6, (0, y6))], [(0, y6), (1, y5 + 31), (0, 1), (0, x3), (0, x4)], w)) 1 rfl ?_
              refine e_Ok.ald (z := w (y5 + 31) y6) rfl (lO (b := y5) (by omega) (by omega)) rfl (by omega) rfl (by omega) ?_
              refine e_Ok.any rfl (eB_any _ _) (fun z42 z42a z42b => ?_)
              refine e_Ok.any rfl (eB_any _ _) (fun z43 z43a z43b => ?_)
              refine e_Ok.any rfl (eB_any _ _) (fun z44 z44a z44b => ?_)
              refine e_Ok.run (t' := (54, [(4, (0, z44)), (0, (1, 19)), (1, (1, 9)), (2, (0, n)), (3, (0, x3)), (5, (0, y5)), (6, (0, y6))], [(1, 19), (0, 1), (0, x3)], w)) 4 rfl ?_
              refine e_Ok.getr (z := 30) rfl rfl rfl rfl (Eq.trans (e_Has.eq hT rfl) (by omega)) (by omega) ?_
              refine e_Ok.run (t' := (59, [(4, (0, z44)), (0, (1, 19)), (1, (1, 9)), (2, (0, n)), (3, (0, x3)), (5, (0, y5)), (6, (0, y6))], [(0, y5), (1, 30), (0, 1), (0, x3)], w)) 1 rfl ?_
              refine e_Ok.aald (z := y5 + 31) rfl rfl rfl (by omega) (Eq.trans (e_Has.eq hT (k30 (by omega))) (by omega)) (by omega) ?_
              refine e_Ok.run (t' := (62, [(4, (0, z44)), (0, (1, 19)), (1, (1, 9)), (2, (0, n)), (3, (0, x3)), (5, (0, y5)), (6, (0, y6))], [(0, y6), (1, y5 + 31), (0, 1), (0, x3)], w)) 1 rfl ?_
              refine e_Ok.ald (z := w (y5 + 31) y6) rfl (lO (b := y5) (by omega) (by omega)) rfl (by omega) rfl (by omega) ?_
              refine e_Ok.any rfl (eB_any _ _) (fun z45 z45a z45b => ?_)
              refine e_Ok.any rfl (eB_any _ _) (fun z46 z46a z46b => ?_)
              refine e_Ok.run (t' := (66, [(3, (0, z46)), (4, (0, z44)), (0, (1, 19)), (1, (1, 9)), (2, (0, n)), (5, (0, y5)), (6, (0, y6))], [], w)) 1 rfl ?_
              refine e_Ok.inc (z := y6 + 1) rfl rfl (by omega) (by omega) ?_
              show e_Ok 20 elay kcode eI d 88 (69, [(6, (0, y6 + 1)), (3, (0, z46)), (4, (0, z44)), (0, (1, 19)), (1, (1, 9)), (2, (0, n)), (5, (0, y5))], [], w) _
              refine e_Ok.run (t' := (20, [(6, (0, y6 + 1)), (3, (0, z46)), (4, (0, z44)), (0, (1, 19)), (1, (1, 9)), (2, (0, n)), (5, (0, y5))], [], w)) 1 rfl ?_
              refine e_Ok.sub kAlk (e_sub_of rfl ?_) (ih36 z46 z44 (y6 + 1) ⟨(by omega), (by omega), (by omega)⟩ (by omega))
              exact ⟨rfl, rfl, rfl, rfl, rfl, rfl, rfl, trivial⟩
        refine e_Ok.sub kAlk (e_sub_of rfl ?_) (hL35 (33 + 1 : Int).toNat y3 y4 0 ⟨(by omega), (by omega), (by omega)⟩ (by omega))
        exact ⟨rfl, rfl, rfl, rfl, rfl, rfl, rfl, trivial⟩
  refine e_Ok.sub kAlk (e_sub_of rfl ?_) (hL1 (5 + 1 : Int).toNat 0 0 0 ⟨(by omega), (by omega), (by omega)⟩ (by omega))
  exact ⟨rfl, rfl, rfl, rfl, rfl, rfl, trivial⟩
set_option maxHeartbeats 4000000 in
theorem c_264_n {d : Nat} (hd : 27 ≤ d) {w : eW} (h0 : kM4 w) (hn : kn1 (w 274 2)) : e_Ok 20 elay kcode eI d 264 (0, [(0, (1, 0))], [], w) (fun r w' => r = [] ∧ e_fr kHv w w' ∧ e_Has kTy w') := by
  obtain ⟨d, rfl⟩ : ∃ e, d = e + 1 := ⟨d - 1, by omega⟩
  have hT := h0.1
  have hn2 := hn; unfold kn1 at hn2
  have hw0 := e_Has.get hT (c := 0) (k := 11) (lo := 0) (hi := 4) rfl (by decide)
  refine e_Ok.run (t' := (2, [(1, (0, 0)), (0, (1, 0))], [], w)) 2 rfl ?_
  have hL1 : ∀ (nn : Nat) (y1 : Int) (v1 : eW), e_fr kHv w v1 ∧ e_Has kTy v1 ∧ kn1 (v1 274 2) ∧ ((0 ≤ y1 ∧ y1 ≤ 4)) → 5 - y1 < nn → e_Ok 20 elay kcode eI (d + 1) 264 (2, [(0, (1, 0)), (1, (0, y1))], [], v1) (fun r w' => r = [] ∧ e_fr kHv w w' ∧ e_Has kTy w') := by
    intro nn
    induction nn with
    | zero => intro y1 v1 hj hm; obtain ⟨j3, j4, j5, j6⟩ := hj; exfalso; omega
    | succ nn ih2 =>
      intro y1 v1 hj hm
      obtain ⟨j3, j4, j5, j6⟩ := hj
      have jn2 := j5; unfold kn1 at jn2
      refine e_Ok.run (t' := (4, [(0, (1, 0)), (1, (0, y1))], [(1, 0), (0, y1)], v1)) 2 rfl ?_
      have h7 := (e_Has.get hT (c := 0) (k := 11) (lo := 0) (hi := 4) rfl (by decide))
      refine e_Ok.getf (z := w 0 11) rfl rfl rfl rfl ((j3 0 11 (by unfold kHv; omega)).trans rfl) (by omega) ?_
      refine e_Ok.if2 rfl (fun h8 => ?_) (fun h8 => ?_)
      · replace h8 : (y1 : Int) ≥ w 0 11 := h8
        refine e_Ok.rets rfl rfl ?_
        exact ⟨rfl, j3, j4⟩
      · replace h8 : (y1 : Int) < w 0 11 := by have q : ¬ ((y1 : Int) ≥ w 0 11) := h8; omega
        refine e_Ok.run (t' := (11, [(0, (1, 0)), (1, (0, y1))], [(1, 0)], v1)) 1 rfl ?_
        refine e_Ok.getr (z := 9) rfl rfl rfl rfl ((j3 0 2 (by unfold kHv; omega)).trans (Eq.trans (e_Has.eq hT rfl) (by omega))) (by omega) ?_
        refine e_Ok.run (t' := (15, [(0, (1, 0)), (1, (0, y1))], [(0, y1), (1, 9)], v1)) 1 rfl ?_
        refine e_Ok.aald (z := 17 * y1 + 86) rfl rfl rfl (by omega) ((j3 9 y1 (by unfold kHv; omega)).trans (Eq.trans (e_Has.eq hT (k9 (by omega))) (by omega))) (by omega) ?_
        have h9 := (e_Has.get hT (c := 17 * y1 + 86) (k := 18) (lo := (-1)) (hi := 1000) (kA_18 (a := y1) (by omega) (by omega)) (by decide))
        refine e_Ok.getf (z := w (17 * y1 + 86) 18) rfl (lA0 (a := y1) (by omega) (by omega)) rfl rfl ((j3 (17 * y1 + 86) 18 (by unfold kHv; omega)).trans rfl) (by omega) ?_
        refine e_Ok.if1 rfl (fun h10 => ?_) (fun h10 => ?_)
        · replace h10 : (w (17 * y1 + 86) 18 : Int) < 0 := h10
          refine e_Ok.run (t' := (43, [(2, (0, 0)), (0, (1, 0)), (1, (0, y1))], [(0, 0)], v1)) 3 rfl ?_
          refine e_Ok.if1 rfl (fun h11 => ?_) (fun h11 => ?_)
          · replace h11 : (0 : Int) = 0 := h11
            refine e_Ok.inc (z := y1 + 1) rfl rfl (by omega) (by omega) ?_
            show e_Ok 20 elay kcode eI (d + 1) 264 (80, [(1, (0, y1 + 1)), (2, (0, 0)), (0, (1, 0))], [], v1) _
            refine e_Ok.run (t' := (2, [(1, (0, y1 + 1)), (2, (0, 0)), (0, (1, 0))], [], v1)) 1 rfl ?_
            refine e_Ok.sub kAlk (e_sub_of rfl ?_) (ih2 (y1 + 1) v1 ⟨j3, j4, (by have g : v1 274 2 = v1 274 2 := rfl; unfold kn1; omega), (by omega)⟩ (by omega))
            exact ⟨rfl, rfl, trivial⟩
          · replace h11 : (0 : Int) ≠ 0 := by have q : ¬ ((0 : Int) = 0) := h11; omega
            exfalso; omega
        · replace h10 : (w (17 * y1 + 86) 18 : Int) ≥ 0 := by have q : ¬ ((w (17 * y1 + 86) 18 : Int) < 0) := h10; omega
          refine e_Ok.run (t' := (23, [(0, (1, 0)), (1, (0, y1))], [(1, 0)], v1)) 1 rfl ?_
          refine e_Ok.getr (z := 9) rfl rfl rfl rfl ((j3 0 2 (by unfold kHv; omega)).trans (Eq.trans (e_Has.eq hT rfl) (by omega))) (by omega) ?_
          refine e_Ok.run (t' := (27, [(0, (1, 0)), (1, (0, y1))], [(0, y1), (1, 9)], v1)) 1 rfl ?_
          refine e_Ok.aald (z := 17 * y1 + 86) rfl rfl rfl (by omega) ((j3 9 y1 (by unfold kHv; omega)).trans (Eq.trans (e_Has.eq hT (k9 (by omega))) (by omega))) (by omega) ?_
          have h12 := (e_Has.get hT (c := 17 * y1 + 86) (k := 19) (lo := (-2147483648)) (hi := 2147483647) (kA_19 (a := y1) (by omega) (by omega)) (by decide))
          refine e_Ok.getf (z := w (17 * y1 + 86) 19) rfl (lA0 (a := y1) (by omega) (by omega)) rfl rfl ((j3 (17 * y1 + 86) 19 (by unfold kHv; omega)).trans rfl) (by omega) ?_
          refine e_Ok.run (t' := (32, [(0, (1, 0)), (1, (0, y1))], [(0, 2), (0, w (17 * y1 + 86) 19)], v1)) 1 rfl ?_
          refine e_Ok.any rfl (eB_any _ _) (fun z13 z13a z13b => ?_)
          refine e_Ok.if1 rfl (fun h14 => ?_) (fun h14 => ?_)
          · replace h14 : (z13 : Int) ≠ 0 := h14
            refine e_Ok.run (t' := (43, [(2, (0, 0)), (0, (1, 0)), (1, (0, y1))], [(0, 0)], v1)) 3 rfl ?_
            refine e_Ok.if1 rfl (fun h15 => ?_) (fun h15 => ?_)
            · replace h15 : (0 : Int) = 0 := h15
              refine e_Ok.inc (z := y1 + 1) rfl rfl (by omega) (by omega) ?_
              show e_Ok 20 elay kcode eI (d + 1) 264 (80, [(1, (0, y1 + 1)), (2, (0, 0)), (0, (1, 0))], [], v1) _
              refine e_Ok.run (t' := (2, [(1, (0, y1 + 1)), (2, (0, 0)), (0, (1, 0))], [], v1)) 1 rfl ?_
              refine e_Ok.sub kAlk (e_sub_of rfl ?_) (ih2 (y1 + 1) v1 ⟨j3, j4, (by have g : v1 274 2 = v1 274 2 := rfl; unfold kn1; omega), (by omega)⟩ (by omega))
              exact ⟨rfl, rfl, trivial⟩
            · replace h15 : (0 : Int) ≠ 0 := by have q : ¬ ((0 : Int) = 0) := h15; omega
              exfalso; omega
          · replace h14 : (z13 : Int) = 0 := by have q : ¬ ((z13 : Int) ≠ 0) := h14; omega
            refine e_Ok.run (t' := (43, [(2, (0, 1)), (0, (1, 0)), (1, (0, y1))], [(0, 1)], v1)) 4 rfl ?_
            refine e_Ok.if1 rfl (fun h16 => ?_) (fun h16 => ?_)
            · replace h16 : (1 : Int) = 0 := h16
              exfalso; omega
            · replace h16 : (1 : Int) ≠ 0 := by have q : ¬ ((1 : Int) = 0) := h16; omega
              refine e_Ok.run (t' := (47, [(2, (0, 1)), (0, (1, 0)), (1, (0, y1))], [(1, 0)], v1)) 1 rfl ?_
              refine e_Ok.getr (z := 250) rfl rfl rfl rfl ((j3 0 6 (by unfold kHv; omega)).trans (Eq.trans (e_Has.eq hT rfl) (by omega))) (by omega) ?_
              refine e_Ok.run (t' := (51, [(2, (0, 1)), (0, (1, 0)), (1, (0, y1))], [(1, 0), (1, 250)], v1)) 1 rfl ?_
              refine e_Ok.getr (z := 9) rfl rfl rfl rfl ((j3 0 2 (by unfold kHv; omega)).trans (Eq.trans (e_Has.eq hT rfl) (by omega))) (by omega) ?_
              refine e_Ok.run (t' := (55, [(2, (0, 1)), (0, (1, 0)), (1, (0, y1))], [(1, 0), (1, 9), (1, 250)], v1)) 1 rfl ?_
              refine e_Ok.getf (z := w 0 11) rfl rfl rfl rfl ((j3 0 11 (by unfold kHv; omega)).trans rfl) (by omega) ?_
              refine e_Ok.run (t' := (61, [(2, (0, 1)), (0, (1, 0)), (1, (0, y1))], [(0, 0), (0, 0), (0, y1), (0, w 0 11), (1, 9), (1, 250)], v1)) 3 rfl ?_
              have K20 : ∀ a, 0 ≤ a → a ≤ 3 → aK v1 a := fun a g1 g2 => aK.fr j3 (fun k => ⟨by unfold kHv; omega, by unfold kHv; omega⟩) (by unfold kHv; omega) (h0.2 a g1 g2)
              refine e_Ok.callV rfl (by omega) rfl rfl rfl rfl (c_171 (by omega) j4 (by omega) (by omega) (by omega) (by omega) K20) (fun r17 w18 h19 => ?_)
              obtain ⟨z21, rfl, q22f, q22T, q22r⟩ := h19
              have f23 : e_fr kHv w w18 := e_fr.trans j3 (e_fr.mono q22f (fun c k q => by exact Or.inr q))
              have q22n : kn1 (w18 274 2) := by rw [q22f _ _ (by unfold kTc; omega)]; exact j5
              unfold kn1 at q22n
              show e_Ok 20 elay kcode eI (d + 1) 264 (64, [(2, (0, 1)), (0, (1, 0)), (1, (0, y1))], [(0, z21)], w18) _
              refine e_Ok.if1 rfl (fun h24 => ?_) (fun h24 => ?_)
              · replace h24 : (z21 : Int) = 0 := h24
                refine e_Ok.inc (z := y1 + 1) rfl rfl (by omega) (by omega) ?_
                show e_Ok 20 elay kcode eI (d + 1) 264 (80, [(1, (0, y1 + 1)), (2, (0, 1)), (0, (1, 0))], [], w18) _
                refine e_Ok.run (t' := (2, [(1, (0, y1 + 1)), (2, (0, 1)), (0, (1, 0))], [], w18)) 1 rfl ?_
                refine e_Ok.sub kAlk (e_sub_of rfl ?_) (ih2 (y1 + 1) w18 ⟨f23, q22T, (by have g : w18 274 2 = v1 274 2 := ((q22f 274 2 (by unfold kTc; omega)).trans rfl); unfold kn1; omega), (by omega)⟩ (by omega))
                exact ⟨rfl, rfl, trivial⟩
              · replace h24 : (z21 : Int) ≠ 0 := by have q : ¬ ((z21 : Int) = 0) := h24; omega
                refine e_Ok.run (t' := (68, [(2, (0, 1)), (0, (1, 0)), (1, (0, y1))], [(1, 0)], w18)) 1 rfl ?_
                refine e_Ok.getr (z := 274) rfl rfl rfl rfl ((q22f 0 10 (by unfold kTc; omega)).trans ((j3 0 10 (by unfold kHv; omega)).trans (Eq.trans (e_Has.eq hT rfl) (by omega)))) (by omega) ?_
                refine e_Ok.run (t' := (73, [(2, (0, 1)), (0, (1, 0)), (1, (0, y1))], [(0, 2), (1, 274), (0, 2), (1, 274)], w18)) 2 rfl ?_
                refine e_Ok.ald (z := v1 274 2) rfl rfl rfl (by omega) ((q22f 274 2 (by unfold kTc; omega)).trans rfl) (by omega) ?_
                refine e_Ok.run (t' := (75, [(2, (0, 1)), (0, (1, 0)), (1, (0, y1))], [(0, 1), (0, v1 274 2), (0, 2), (1, 274)], w18)) 1 rfl ?_
                refine e_Ok.any rfl (eF_add_any _ _) (fun z25 z25a z25b => ?_)
                refine e_Ok.ast rfl rfl rfl rfl (by omega) ?_
                generalize hw26 : e_up w18 274 2 z25 = w26
                have f27 : e_fr kHv w w26 := e_fr.up f23 hw26 (by unfold kHv; omega)
                have hT28 : e_Has kTy w26 := e_Has.ups q22T hw26 rfl
                refine e_Ok.inc (z := y1 + 1) rfl rfl (by omega) (by omega) ?_
                show e_Ok 20 elay kcode eI (d + 1) 264 (80, [(1, (0, y1 + 1)), (2, (0, 1)), (0, (1, 0))], [], w26) _
                refine e_Ok.run (t' := (2, [(1, (0, y1 + 1)), (2, (0, 1)), (0, (1, 0))], [], w26)) 1 rfl ?_
                refine e_Ok.sub kAlk (e_sub_of rfl ?_) (ih2 (y1 + 1) w26 ⟨f27, hT28, (by have g : w26 274 2 = z25 := (by rw [← hw26]; exact e_up_eq _ _ _ _); unfold kn1; omega), (by omega)⟩ (by omega))
                exact ⟨rfl, rfl, trivial⟩
  refine e_Ok.sub kAlk (e_sub_of rfl ?_) (hL1 (5 + 1 : Int).toNat 0 w ⟨(e_fr.refl w), hT, hn, (by omega)⟩ (by omega))
  exact ⟨rfl, rfl, trivial⟩
end
