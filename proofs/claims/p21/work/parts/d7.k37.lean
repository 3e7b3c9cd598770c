noncomputable section
/-! the class: calls that are written down -/
theorem c_246 {d : Nat} (hd : 21 ≤ d) {w : eW} (hT : e_Has kTy w) {a : Int} (ga : -2147483648 ≤ a ∧ a ≤ 2147483647) : e_Ok 20 elay kcode eI d 246 (0, [(0, (1, 0)), (1, (0, a))], [], w) (fun r w' => ∃ z : Int, r = [(0, z)] ∧ w = w' ∧ ((z = 1 ∧ 0 ≤ a ∧ a < w 0 11) ∨ (z = 0 ∧ (a < 0 ∨ w 0 11 ≤ a)))) := by
  obtain ⟨d, rfl⟩ : ∃ e, d = e + 1 := ⟨d - 1, by omega⟩
  have hw0 := e_Has.get hT (c := 0) (k := 11) (lo := 0) (hi := 4) rfl (by decide)
  refine e_Ok.run (t' := (3, [(0, (1, 0)), (1, (0, a))], [(1, 0), (0, 0), (0, a)], w)) 3 rfl ?_
  have h1 := (e_Has.get hT (c := 0) (k := 11) (lo := 0) (hi := 4) rfl (by decide))
  refine e_Ok.getf (z := w 0 11) rfl (el_o rfl) rfl rfl rfl (by omega) ?_
  refine e_Ok.run (t' := (7, [(0, (1, 0)), (1, (0, a))], [(0, 1), (0, w 0 11), (0, 0), (0, a)], w)) 1 rfl ?_
  refine e_Ok.sub' (z := w 0 11 - 1) rfl (by omega) (by omega) ?_
  refine e_Ok.callS rfl (by omega) rfl rfl (c_242 (by omega) (by omega) (by omega)) (fun r2 w3 h4 => ?_)
  obtain ⟨z5, rfl, rfl, q6⟩ := h4
  obtain ⟨rfl, q6⟩ | ⟨rfl, q6⟩ := q6
  · show e_Ok 20 elay kcode eI (d + 1) 246 (11, [(0, (1, 0)), (1, (0, a))], [(0, 1)], w) _
    refine e_Ok.rets rfl rfl ?_
    exact ⟨_, rfl, rfl, by omega⟩
  · show e_Ok 20 elay kcode eI (d + 1) 246 (11, [(0, (1, 0)), (1, (0, a))], [(0, 0)], w) _
    refine e_Ok.rets rfl rfl ?_
    exact ⟨_, rfl, rfl, by omega⟩
theorem c_247 {d : Nat} (hd : 22 ≤ d) {w : eW} (hT : e_Has kTy w) {a j : Int} (ga : -2147483648 ≤ a ∧ a ≤ 2147483647) (gj : -2147483648 ≤ j ∧ j ≤ 2147483647) : e_Ok 20 elay kcode eI d 247 (0, [(0, (1, 0)), (1, (0, a)), (2, (0, j))], [], w) (fun r w' => ∃ z : Int, r = [(0, z)] ∧ w = w' ∧ ((z = 1 ∧ (0 ≤ a ∧ a < w 0 11) ∧ 0 ≤ j ∧ j < w (17 * a + 86) 8) ∨ (z = 0 ∧ (a < 0 ∨ w 0 11 ≤ a ∨ j < 0 ∨ w (17 * a + 86) 8 ≤ j)))) := by
  obtain ⟨d, rfl⟩ : ∃ e, d = e + 1 := ⟨d - 1, by omega⟩
  have hw0 := e_Has.get hT (c := 0) (k := 11) (lo := 0) (hi := 4) rfl (by decide)
  refine e_Ok.run (t' := (2, [(0, (1, 0)), (1, (0, a)), (2, (0, j))], [(0, a), (1, 0)], w)) 2 rfl ?_
  refine e_Ok.callV rfl (by omega) rfl rfl rfl rfl (c_246 (by omega) hT (by omega)) (fun r1 w2 h3 => ?_)
  obtain ⟨z4, rfl, rfl, q5⟩ := h3
  obtain ⟨rfl, q5⟩ | ⟨rfl, q5⟩ := q5
  · show e_Ok 20 elay kcode eI (d + 1) 247 (5, [(0, (1, 0)), (1, (0, a)), (2, (0, j))], [(0, 1)], w) _
    refine e_Ok.if1 rfl (fun h6 => ?_) (fun h6 => ?_)
    · replace h6 : (1 : Int) = 0 := h6
      exfalso; omega
    · replace h6 : (1 : Int) ≠ 0 := by have q : ¬ ((1 : Int) = 0) := h6; omega
      refine e_Ok.run (t' := (11, [(0, (1, 0)), (1, (0, a)), (2, (0, j))], [(1, 0), (0, 0), (0, j)], w)) 3 rfl ?_
      refine e_Ok.getr (z := 9) rfl (el_o rfl) rfl rfl (Eq.trans (e_Has.eq hT rfl) (by omega)) (by omega) ?_
      refine e_Ok.run (t' := (15, [(0, (1, 0)), (1, (0, a)), (2, (0, j))], [(0, a), (1, 9), (0, 0), (0, j)], w)) 1 rfl ?_
      refine e_Ok.aald (z := 17 * a + 86) rfl (el_o rfl) rfl (by omega) (Eq.trans (e_Has.eq hT (k9 (by omega))) (by omega)) (by omega) ?_
      have h7 := (e_Has.get hT (c := 17 * a + 86) (k := 8) (lo := 0) (hi := 6) (kA_8 (a := a) (by omega) (by omega)) (by decide))
      refine e_Ok.getf (z := w (17 * a + 86) 8) rfl (lA0 (a := a) (by omega) (by omega)) rfl rfl rfl (by omega) ?_
      refine e_Ok.run (t' := (20, [(0, (1, 0)), (1, (0, a)), (2, (0, j))], [(0, 1), (0, w (17 * a + 86) 8), (0, 0), (0, j)], w)) 1 rfl ?_
      refine e_Ok.sub' (z := w (17 * a + 86) 8 - 1) rfl (by omega) (by omega) ?_
      refine e_Ok.callS rfl (by omega) rfl rfl (c_242 (by omega) (by omega) (by omega)) (fun r8 w9 h10 => ?_)
      obtain ⟨z11, rfl, rfl, q12⟩ := h10
      obtain ⟨rfl, q12⟩ | ⟨rfl, q12⟩ := q12
      · show e_Ok 20 elay kcode eI (d + 1) 247 (24, [(0, (1, 0)), (1, (0, a)), (2, (0, j))], [(0, 1)], w) _
        refine e_Ok.if1 rfl (fun h13 => ?_) (fun h13 => ?_)
        · replace h13 : (1 : Int) = 0 := h13
          exfalso; omega
        · replace h13 : (1 : Int) ≠ 0 := by have q : ¬ ((1 : Int) = 0) := h13; omega
          refine e_Ok.run (t' := (32, [(0, (1, 0)), (1, (0, a)), (2, (0, j))], [(0, 1)], w)) 2 rfl ?_
          refine e_Ok.rets rfl rfl ?_
          exact ⟨_, rfl, rfl, by omega⟩
      · show e_Ok 20 elay kcode eI (d + 1) 247 (24, [(0, (1, 0)), (1, (0, a)), (2, (0, j))], [(0, 0)], w) _
        refine e_Ok.if1 rfl (fun h14 => ?_) (fun h14 => ?_)
        · replace h14 : (0 : Int) = 0 := h14
          refine e_Ok.run (t' := (32, [(0, (1, 0)), (1, (0, a)), (2, (0, j))], [(0, 0)], w)) 1 rfl ?_
          refine e_Ok.rets rfl rfl ?_
          exact ⟨_, rfl, rfl, by omega⟩
        · replace h14 : (0 : Int) ≠ 0 := by have q : ¬ ((0 : Int) = 0) := h14; omega
          exfalso; omega
  · show e_Ok 20 elay kcode eI (d + 1) 247 (5, [(0, (1, 0)), (1, (0, a)), (2, (0, j))], [(0, 0)], w) _
    refine e_Ok.if1 rfl (fun h15 => ?_) (fun h15 => ?_)
    · replace h15 : (0 : Int) = 0 := h15
      refine e_Ok.run (t' := (32, [(0, (1, 0)), (1, (0, a)), (2, (0, j))], [(0, 0)], w)) 1 rfl ?_
      refine e_Ok.rets rfl rfl ?_
      exact ⟨_, rfl, rfl, by omega⟩
    · replace h15 : (0 : Int) ≠ 0 := by have q : ¬ ((0 : Int) = 0) := h15; omega
      exfalso; omega
theorem c_9_b {d : Nat} {w : eW} (hT : e_Has kTy w) {a : Int} (ga : 0 ≤ a ∧ a ≤ 3) : e_Ok 20 elay kcode eI d 9 (0, [(0, (1, 17 * a + 86))], [], w) (fun r w' => ∃ z : Int, r = [(0, z)] ∧ w = w' ∧ ((z = 1 ∧ 0 ≤ w (17 * a + 86) 17 ∧ w (17 * a + 86) 19 = 0) ∨ (z = 0 ∧ (w (17 * a + 86) 17 < 0 ∨ w (17 * a + 86) 19 ≠ 0)))) := by
  refine e_Ok.run (t' := (1, [(0, (1, 17 * a + 86))], [(1, 17 * a + 86)], w)) 1 rfl ?_
  have h1 := (e_Has.get hT (c := 17 * a + 86) (k := 17) (lo := (-1)) (hi := 59) (kA_17 (a := a) (by omega) (by omega)) (by decide))
  refine e_Ok.getf (z := w (17 * a + 86) 17) rfl (lA0 (a := a) (by omega) (by omega)) rfl rfl rfl (by omega) ?_
  refine e_Ok.if1 rfl (fun h2 => ?_) (fun h2 => ?_)
  · replace h2 : (w (17 * a + 86) 17 : Int) < 0 := h2
    refine e_Ok.run (t' := (19, [(0, (1, 17 * a + 86))], [(0, 0)], w)) 1 rfl ?_
    refine e_Ok.rets rfl rfl ?_
    exact ⟨_, rfl, rfl, by omega⟩
  · replace h2 : (w (17 * a + 86) 17 : Int) ≥ 0 := by have q : ¬ ((w (17 * a + 86) 17 : Int) < 0) := h2; omega
    refine e_Ok.run (t' := (8, [(0, (1, 17 * a + 86))], [(1, 17 * a + 86)], w)) 1 rfl ?_
    have h3 := (e_Has.get hT (c := 17 * a + 86) (k := 19) (lo := (-2147483648)) (hi := 2147483647) (kA_19 (a := a) (by omega) (by omega)) (by decide))
    refine e_Ok.getf (z := w (17 * a + 86) 19) rfl (lA0 (a := a) (by omega) (by omega)) rfl rfl rfl (by omega) ?_
    refine e_Ok.if1 rfl (fun h4 => ?_) (fun h4 => ?_)
    · replace h4 : (w (17 * a + 86) 19 : Int) ≠ 0 := h4
      refine e_Ok.run (t' := (19, [(0, (1, 17 * a + 86))], [(0, 0)], w)) 1 rfl ?_
      refine e_Ok.rets rfl rfl ?_
      exact ⟨_, rfl, rfl, by omega⟩
    · replace h4 : (w (17 * a + 86) 19 : Int) = 0 := by have q : ¬ ((w (17 * a + 86) 19 : Int) ≠ 0) := h4; omega
      refine e_Ok.run (t' := (19, [(0, (1, 17 * a + 86))], [(0, 1)], w)) 2 rfl ?_
      refine e_Ok.rets rfl rfl ?_
      exact ⟨_, rfl, rfl, by omega⟩
theorem c_213 {d : Nat} (hd : 31 ≤ d) {w : eW} (hT : e_Has kTy w) (hO : 0 ≤ w 0 13 ∧ w 0 13 ≤ 1) (hC : ∀ a, 0 ≤ a → a ≤ 3 → isCd (w (17 * a + 86) 7)) (hB : w 0 13 = 1 → ∃ OP OD CL S, kB w OP OD CL S) {a : Int} (g_a : (-2147483648) ≤ a ∧ a ≤ 2147483647) {b : Int} (g_b : (-2147483648) ≤ b ∧ b ≤ 2147483647) : e_Ok 20 elay kcode eI d 213 (0, [(0, (1, 0)), (1, (0, a)), (2, (0, b))], [], w) (fun r w' => ∃ z : Int, r = [(0, z)] ∧ e_Has kTy w' ∧ opK w w') := by
  obtain ⟨d, rfl⟩ : ∃ e, d = e + 1 := ⟨d - 1, by omega⟩
  have hw0 := e_Has.get hT (c := 0) (k := 11) (lo := 0) (hi := 4) rfl (by decide)
  refine e_Ok.run (t' := (2, [(0, (1, 0)), (1, (0, a)), (2, (0, b))], [(0, a), (1, 0)], w)) 2 rfl ?_
  refine e_Ok.callV rfl (by omega) rfl rfl rfl rfl (c_246 (by omega) hT (by omega)) (fun r1 w2 h3 => ?_)
  obtain ⟨z4, rfl, rfl, q5⟩ := h3
  obtain ⟨rfl, q5⟩ | ⟨rfl, q5⟩ := q5
  · show e_Ok 20 elay kcode eI (d + 1) 213 (5, [(0, (1, 0)), (1, (0, a)), (2, (0, b))], [(0, 1)], w) _
    refine e_Ok.if1 rfl (fun h6 => ?_) (fun h6 => ?_)
    · replace h6 : (1 : Int) = 0 := h6
      exfalso; omega
    · replace h6 : (1 : Int) ≠ 0 := by have q : ¬ ((1 : Int) = 0) := h6; omega
      have hcd := hC a (by omega) (by omega)
      have hcd2 := hcd; unfold isCd at hcd2
      have hrt := e_Has.get hT (kD_1 hcd) (by decide)
      refine e_Ok.run (t' := (11, [(0, (1, 0)), (1, (0, a)), (2, (0, b))], [(1, 0), (0, 0), (0, b)], w)) 3 rfl ?_
      refine e_Ok.getr (z := 9) rfl (el_o rfl) rfl rfl (Eq.trans (e_Has.eq hT rfl) (by omega)) (by omega) ?_
      refine e_Ok.run (t' := (15, [(0, (1, 0)), (1, (0, a)), (2, (0, b))], [(0, a), (1, 9), (0, 0), (0, b)], w)) 1 rfl ?_
      refine e_Ok.aald (z := 17 * a + 86) rfl (el_o rfl) rfl (by omega) (Eq.trans (e_Has.eq hT (k9 (by omega))) (by omega)) (by omega) ?_
      refine e_Ok.getr (z := w (17 * a + 86) 7) rfl (lA0 (a := a) (by omega) (by omega)) rfl rfl rfl (by omega) ?_
      have h7 := (e_Has.get hT (c := w (17 * a + 86) 7) (k := 1) (lo := 0) (hi := 32) (kD_1 hcd) (by decide))
      refine e_Ok.getf (z := w (w (17 * a + 86) 7) 1) rfl (lD0 hcd) rfl rfl rfl (by omega) ?_
      refine e_Ok.run (t' := (23, [(0, (1, 0)), (1, (0, a)), (2, (0, b))], [(0, 1), (0, w (w (17 * a + 86) 7) 1), (0, 0), (0, b)], w)) 1 rfl ?_
      refine e_Ok.sub' (z := w (w (17 * a + 86) 7) 1 - 1) rfl (by omega) (by omega) ?_
      refine e_Ok.callS rfl (by omega) rfl rfl (c_242 (by omega) (by omega) (by omega)) (fun r8 w9 h10 => ?_)
      obtain ⟨z11, rfl, rfl, q12⟩ := h10
      obtain ⟨rfl, q12⟩ | ⟨rfl, q12⟩ := q12
      · show e_Ok 20 elay kcode eI (d + 1) 213 (27, [(0, (1, 0)), (1, (0, a)), (2, (0, b))], [(0, 1)], w) _
        refine e_Ok.if1 rfl (fun h13 => ?_) (fun h13 => ?_)
        · replace h13 : (1 : Int) ≠ 0 := h13
          refine e_Ok.run (t' := (33, [(0, (1, 0)), (1, (0, a)), (2, (0, b))], [(1, 0)], w)) 1 rfl ?_
          refine e_Ok.getf (z := w 0 13) rfl (el_o rfl) rfl rfl rfl (by omega) ?_
          refine e_Ok.if1 rfl (fun h14 => ?_) (fun h14 => ?_)
          · replace h14 : (w 0 13 : Int) ≠ 0 := h14
            refine e_Ok.run (t' := (43, [(0, (1, 0)), (1, (0, a)), (2, (0, b))], [(1, 0)], w)) 1 rfl ?_
            refine e_Ok.getr (z := 8) rfl (el_o rfl) rfl rfl (Eq.trans (e_Has.eq hT rfl) (by omega)) (by omega) ?_
            refine e_Ok.callV rfl (by omega) rfl rfl rfl rfl (c_36 hT) (fun r15 w16 h17 => ?_)
            obtain ⟨z19, rfl, rfl, q18r, q18x⟩ := h17
            show e_Ok 20 elay kcode eI (d + 1) 213 (49, [(0, (1, 0)), (1, (0, a)), (2, (0, b))], [(0, z19)], w) _
            refine e_Ok.if1 rfl (fun h20 => ?_) (fun h20 => ?_)
            · replace h20 : (z19 : Int) ≥ 0 := h20
              refine e_Ok.run (t' := (60, [(0, (1, 0)), (1, (0, a)), (2, (0, b))], [(0, 0), (0, b), (0, a), (0, 0), (1, 0)], w)) 5 rfl ?_
              obtain ⟨OP, OD, CL, S, hK⟩ := hB (by omega)
              refine e_Ok.callV rfl (by omega) rfl rfl rfl rfl (c_255 (by omega) hT hK (by omega) (by omega) (by omega) (by omega) (by omega) (by decide) (rwC.k0 ⟨by omega, by omega, by omega⟩) (fun g => absurd g (by decide))) (fun r21 w22 h23 => ?_)
              obtain ⟨z24, rfl, q25T, q25x⟩ := h23
              show e_Ok 20 elay kcode eI (d + 1) 213 (63, [(0, (1, 0)), (1, (0, a)), (2, (0, b))], [(0, z24)], w22) _
              refine e_Ok.rets rfl rfl ?_
              exact ⟨_, rfl, q25T, q25x⟩
            · replace h20 : (z19 : Int) < 0 := by have q : ¬ ((z19 : Int) ≥ 0) := h20; omega
              refine e_Ok.run (t' := (54, [(0, (1, 0)), (1, (0, a)), (2, (0, b))], [(0, (-3))], w)) 1 rfl ?_
              refine e_Ok.rets rfl rfl ?_
              exact ⟨_, rfl, hT, Or.inl rfl⟩
          · replace h14 : (w 0 13 : Int) = 0 := by have q : ¬ ((w 0 13 : Int) ≠ 0) := h14; omega
            refine e_Ok.run (t' := (41, [(0, (1, 0)), (1, (0, a)), (2, (0, b))], [(0, (-2))], w)) 1 rfl ?_
            refine e_Ok.rets rfl rfl ?_
            exact ⟨_, rfl, hT, Or.inl rfl⟩
        · replace h13 : (1 : Int) = 0 := by have q : ¬ ((1 : Int) ≠ 0) := h13; omega
          exfalso; omega
      · show e_Ok 20 elay kcode eI (d + 1) 213 (27, [(0, (1, 0)), (1, (0, a)), (2, (0, b))], [(0, 0)], w) _
        refine e_Ok.if1 rfl (fun h26 => ?_) (fun h26 => ?_)
        · replace h26 : (0 : Int) ≠ 0 := h26
          exfalso; omega
        · replace h26 : (0 : Int) = 0 := by have q : ¬ ((0 : Int) ≠ 0) := h26; omega
          refine e_Ok.run (t' := (31, [(0, (1, 0)), (1, (0, a)), (2, (0, b))], [(0, (-1))], w)) 1 rfl ?_
          refine e_Ok.rets rfl rfl ?_
          exact ⟨_, rfl, hT, Or.inl rfl⟩
  · show e_Ok 20 elay kcode eI (d + 1) 213 (5, [(0, (1, 0)), (1, (0, a)), (2, (0, b))], [(0, 0)], w) _
    refine e_Ok.if1 rfl (fun h27 => ?_) (fun h27 => ?_)
    · replace h27 : (0 : Int) = 0 := h27
      refine e_Ok.run (t' := (31, [(0, (1, 0)), (1, (0, a)), (2, (0, b))], [(0, (-1))], w)) 1 rfl ?_
      refine e_Ok.rets rfl rfl ?_
      exact ⟨_, rfl, hT, Or.inl rfl⟩
    · replace h27 : (0 : Int) ≠ 0 := by have q : ¬ ((0 : Int) = 0) := h27; omega
      exfalso; omega
theorem c_215 {d : Nat} (hd : 31 ≤ d) {w : eW} (hT : e_Has kTy w) (hO : 0 ≤ w 0 13 ∧ w 0 13 ≤ 1) (hC : ∀ a, 0 ≤ a → a ≤ 3 → isCd (w (17 * a + 86) 7)) (hB : w 0 13 = 1 → ∃ OP OD CL S, kB w OP OD CL S) {a : Int} (g_a : (-2147483648) ≤ a ∧ a ≤ 2147483647) {b : Int} (g_b : (-2147483648) ≤ b ∧ b ≤ 2147483647) : e_Ok 20 elay kcode eI d 215 (0, [(0, (1, 0)), (1, (0, a)), (2, (0, b))], [], w) (fun r w' => ∃ z : Int, r = [(0, z)] ∧ e_Has kTy w' ∧ opK w w') := by
  obtain ⟨d, rfl⟩ : ∃ e, d = e + 1 := ⟨d - 1, by omega⟩
  have hw0 := e_Has.get hT (c := 0) (k := 11) (lo := 0) (hi := 4) rfl (by decide)
  refine e_Ok.run (t' := (1, [(0, (1, 0)), (1, (0, a)), (2, (0, b))], [(0, a)], w)) 1 rfl ?_
  refine e_Ok.callS rfl (by omega) rfl rfl (c_245 (by omega) (by omega)) (fun r1 w2 h3 => ?_)
  obtain ⟨z4, rfl, rfl, q5⟩ := h3
  obtain ⟨rfl, q5⟩ | ⟨rfl, q5⟩ := q5
  · show e_Ok 20 elay kcode eI (d + 1) 215 (4, [(0, (1, 0)), (1, (0, a)), (2, (0, b))], [(0, 1)], w) _
    refine e_Ok.if1 rfl (fun h6 => ?_) (fun h6 => ?_)
    · replace h6 : (1 : Int) ≠ 0 := h6
      refine e_Ok.run (t' := (10, [(0, (1, 0)), (1, (0, a)), (2, (0, b))], [(1, 0)], w)) 1 rfl ?_
      refine e_Ok.getf (z := w 0 13) rfl (el_o rfl) rfl rfl rfl (by omega) ?_
      refine e_Ok.if1 rfl (fun h7 => ?_) (fun h7 => ?_)
      · replace h7 : (w 0 13 : Int) ≠ 0 := h7
        refine e_Ok.run (t' := (24, [(0, (1, 0)), (1, (0, a)), (2, (0, b))], [(0, 0), (0, b), (0, a), (0, 2), (1, 0)], w)) 5 rfl ?_
        obtain ⟨OP, OD, CL, S, hK⟩ := hB (by omega)
        refine e_Ok.callV rfl (by omega) rfl rfl rfl rfl (c_255 (by omega) hT hK (by omega) (by omega) (by omega) (by omega) (by omega) (by decide) (rwC.k2 (by omega)) (fun g => absurd g (by decide))) (fun r8 w9 h10 => ?_)
        obtain ⟨z11, rfl, q12T, q12x⟩ := h10
        show e_Ok 20 elay kcode eI (d + 1) 215 (27, [(0, (1, 0)), (1, (0, a)), (2, (0, b))], [(0, z11)], w9) _
        refine e_Ok.rets rfl rfl ?_
        exact ⟨_, rfl, q12T, q12x⟩
      · replace h7 : (w 0 13 : Int) = 0 := by have q : ¬ ((w 0 13 : Int) ≠ 0) := h7; omega
        refine e_Ok.run (t' := (18, [(0, (1, 0)), (1, (0, a)), (2, (0, b))], [(0, (-2))], w)) 1 rfl ?_
        refine e_Ok.rets rfl rfl ?_
        exact ⟨_, rfl, hT, Or.inl rfl⟩
    · replace h6 : (1 : Int) = 0 := by have q : ¬ ((1 : Int) ≠ 0) := h6; omega
      exfalso; omega
  · show e_Ok 20 elay kcode eI (d + 1) 215 (4, [(0, (1, 0)), (1, (0, a)), (2, (0, b))], [(0, 0)], w) _
    refine e_Ok.if1 rfl (fun h13 => ?_) (fun h13 => ?_)
    · replace h13 : (0 : Int) ≠ 0 := h13
      exfalso; omega
    · replace h13 : (0 : Int) = 0 := by have q : ¬ ((0 : Int) ≠ 0) := h13; omega
      refine e_Ok.run (t' := (8, [(0, (1, 0)), (1, (0, a)), (2, (0, b))], [(0, (-1))], w)) 1 rfl ?_
      refine e_Ok.rets rfl rfl ?_
      exact ⟨_, rfl, hT, Or.inl rfl⟩
theorem c_216 {d : Nat} (hd : 31 ≤ d) {w : eW} (hT : e_Has kTy w) (hO : 0 ≤ w 0 13 ∧ w 0 13 ≤ 1) (hC : ∀ a, 0 ≤ a → a ≤ 3 → isCd (w (17 * a + 86) 7)) (hB : w 0 13 = 1 → ∃ OP OD CL S, kB w OP OD CL S) {a : Int} (g_a : (-2147483648) ≤ a ∧ a ≤ 2147483647) {b : Int} (g_b : (-2147483648) ≤ b ∧ b ≤ 2147483647) {c : Int} (g_c : 0 ≤ c ∧ c ≤ 1) : e_Ok 20 elay kcode eI d 216 (0, [(0, (1, 0)), (1, (0, a)), (2, (0, b)), (3, (0, c))], [], w) (fun r w' => ∃ z : Int, r = [(0, z)] ∧ e_Has kTy w' ∧ opK w w') := by
  obtain ⟨d, rfl⟩ : ∃ e, d = e + 1 := ⟨d - 1, by omega⟩
  have hw0 := e_Has.get hT (c := 0) (k := 11) (lo := 0) (hi := 4) rfl (by decide)
  refine e_Ok.run (t' := (1, [(0, (1, 0)), (1, (0, a)), (2, (0, b)), (3, (0, c))], [(0, a)], w)) 1 rfl ?_
  refine e_Ok.callS rfl (by omega) rfl rfl (c_245 (by omega) (by omega)) (fun r1 w2 h3 => ?_)
  obtain ⟨z4, rfl, rfl, q5⟩ := h3
  obtain ⟨rfl, q5⟩ | ⟨rfl, q5⟩ := q5
  · show e_Ok 20 elay kcode eI (d + 1) 216 (4, [(0, (1, 0)), (1, (0, a)), (2, (0, b)), (3, (0, c))], [(0, 1)], w) _
    refine e_Ok.if1 rfl (fun h6 => ?_) (fun h6 => ?_)
    · replace h6 : (1 : Int) ≠ 0 := h6
      refine e_Ok.run (t' := (10, [(0, (1, 0)), (1, (0, a)), (2, (0, b)), (3, (0, c))], [(1, 0)], w)) 1 rfl ?_
      refine e_Ok.getf (z := w 0 13) rfl (el_o rfl) rfl rfl rfl (by omega) ?_
      refine e_Ok.if1 rfl (fun h7 => ?_) (fun h7 => ?_)
      · replace h7 : (w 0 13 : Int) ≠ 0 := h7
        refine e_Ok.run (t' := (24, [(0, (1, 0)), (1, (0, a)), (2, (0, b)), (3, (0, c))], [(0, c), (0, b), (0, a), (0, 3), (1, 0)], w)) 5 rfl ?_
        have hJ10 : ∀ m9 : Int, 0 ≤ m9 ∧ m9 ≤ 1 → e_Ok 20 elay kcode eI (d + 1) 216 (32, [(0, (1, 0)), (1, (0, a)), (2, (0, b)), (3, (0, c))], [(0, m9), (0, b), (0, a), (0, 3), (1, 0)], w) (fun r w' => ∃ z : Int, r = [(0, z)] ∧ e_Has kTy w' ∧ opK w w') := by
          intro m9 m9r
          obtain ⟨OP, OD, CL, S, hK⟩ := hB (by omega)
          refine e_Ok.callV rfl (by omega) rfl rfl rfl rfl (c_255 (by omega) hT hK (by omega) (by omega) (by omega) (by omega) (by omega) (by decide) (rwC.k3 (by omega)) (fun g => absurd g (by decide))) (fun r11 w12 h13 => ?_)
          obtain ⟨z14, rfl, q15T, q15x⟩ := h13
          show e_Ok 20 elay kcode eI (d + 1) 216 (35, [(0, (1, 0)), (1, (0, a)), (2, (0, b)), (3, (0, c))], [(0, z14)], w12) _
          refine e_Ok.rets rfl rfl ?_
          exact ⟨_, rfl, q15T, q15x⟩
        refine e_Ok.if1 rfl (fun h8 => ?_) (fun h8 => ?_)
        · exact e_Ok.run 1 rfl (hJ10 0 (by omega))
        · exact e_Ok.run 2 rfl (hJ10 1 (by omega))
      · replace h7 : (w 0 13 : Int) = 0 := by have q : ¬ ((w 0 13 : Int) ≠ 0) := h7; omega
        refine e_Ok.run (t' := (18, [(0, (1, 0)), (1, (0, a)), (2, (0, b)), (3, (0, c))], [(0, (-2))], w)) 1 rfl ?_
        refine e_Ok.rets rfl rfl ?_
        exact ⟨_, rfl, hT, Or.inl rfl⟩
    · replace h6 : (1 : Int) = 0 := by have q : ¬ ((1 : Int) ≠ 0) := h6; omega
      exfalso; omega
  · show e_Ok 20 elay kcode eI (d + 1) 216 (4, [(0, (1, 0)), (1, (0, a)), (2, (0, b)), (3, (0, c))], [(0, 0)], w) _
    refine e_Ok.if1 rfl (fun h16 => ?_) (fun h16 => ?_)
    · replace h16 : (0 : Int) ≠ 0 := h16
      exfalso; omega
    · replace h16 : (0 : Int) = 0 := by have q : ¬ ((0 : Int) ≠ 0) := h16; omega
      refine e_Ok.run (t' := (8, [(0, (1, 0)), (1, (0, a)), (2, (0, b)), (3, (0, c))], [(0, (-1))], w)) 1 rfl ?_
      refine e_Ok.rets rfl rfl ?_
      exact ⟨_, rfl, hT, Or.inl rfl⟩
theorem c_217 {d : Nat} (hd : 31 ≤ d) {w : eW} (hT : e_Has kTy w) (hO : 0 ≤ w 0 13 ∧ w 0 13 ≤ 1) (hC : ∀ a, 0 ≤ a → a ≤ 3 → isCd (w (17 * a + 86) 7)) (hB : w 0 13 = 1 → ∃ OP OD CL S, kB w OP OD CL S) {a : Int} (g_a : (-2147483648) ≤ a ∧ a ≤ 2147483647) {b : Int} (g_b : 0 ≤ b ∧ b ≤ 1) {c : Int} (g_c : 0 ≤ c ∧ c ≤ 1) : e_Ok 20 elay kcode eI d 217 (0, [(0, (1, 0)), (1, (0, a)), (2, (0, b)), (3, (0, c))], [], w) (fun r w' => ∃ z : Int, r = [(0, z)] ∧ e_Has kTy w' ∧ opK w w') := by
  obtain ⟨d, rfl⟩ : ∃ e, d = e + 1 := ⟨d - 1, by omega⟩
  have hw0 := e_Has.get hT (c := 0) (k := 11) (lo := 0) (hi := 4) rfl (by decide)
  have h742 := e_Has.get hT (c := 74) (k := 2) (lo := 0) (hi := 8) rfl (by decide)
  refine e_Ok.run (t' := (3, [(0, (1, 0)), (1, (0, a)), (2, (0, b)), (3, (0, c))], [(1, 0), (0, 0), (0, a)], w)) 3 rfl ?_
  refine e_Ok.getr (z := 74) rfl (el_o rfl) rfl rfl (Eq.trans (e_Has.eq hT rfl) (by omega)) (by omega) ?_
  have h1 := (e_Has.get hT (c := 74) (k := 2) (lo := 0) (hi := 8) rfl (by decide))
  refine e_Ok.getf (z := w 74 2) rfl (el_o rfl) rfl rfl rfl (by omega) ?_
  refine e_Ok.run (t' := (10, [(0, (1, 0)), (1, (0, a)), (2, (0, b)), (3, (0, c))], [(0, 1), (0, w 74 2), (0, 0), (0, a)], w)) 1 rfl ?_
  refine e_Ok.sub' (z := w 74 2 - 1) rfl (by omega) (by omega) ?_
  refine e_Ok.callS rfl (by omega) rfl rfl (c_242 (by omega) (by omega) (by omega)) (fun r2 w3 h4 => ?_)
  obtain ⟨z5, rfl, rfl, q6⟩ := h4
  obtain ⟨rfl, q6⟩ | ⟨rfl, q6⟩ := q6
  · show e_Ok 20 elay kcode eI (d + 1) 217 (14, [(0, (1, 0)), (1, (0, a)), (2, (0, b)), (3, (0, c))], [(0, 1)], w) _
    refine e_Ok.if1 rfl (fun h7 => ?_) (fun h7 => ?_)
    · replace h7 : (1 : Int) ≠ 0 := h7
      refine e_Ok.run (t' := (20, [(0, (1, 0)), (1, (0, a)), (2, (0, b)), (3, (0, c))], [(1, 0)], w)) 1 rfl ?_
      refine e_Ok.getf (z := w 0 13) rfl (el_o rfl) rfl rfl rfl (by omega) ?_
      refine e_Ok.if1 rfl (fun h8 => ?_) (fun h8 => ?_)
      · replace h8 : (w 0 13 : Int) ≠ 0 := h8
        refine e_Ok.run (t' := (33, [(0, (1, 0)), (1, (0, a)), (2, (0, b)), (3, (0, c))], [(0, b), (0, a), (0, 4), (1, 0)], w)) 4 rfl ?_
        have hJ11 : ∀ m10 : Int, 0 ≤ m10 ∧ m10 ≤ 1 → e_Ok 20 elay kcode eI (d + 1) 217 (41, [(0, (1, 0)), (1, (0, a)), (2, (0, b)), (3, (0, c))], [(0, m10), (0, a), (0, 4), (1, 0)], w) (fun r w' => ∃ z : Int, r = [(0, z)] ∧ e_Has kTy w' ∧ opK w w') := by
          intro m10 m10r
          refine e_Ok.run (t' := (42, [(0, (1, 0)), (1, (0, a)), (2, (0, b)), (3, (0, c))], [(0, c), (0, m10), (0, a), (0, 4), (1, 0)], w)) 1 rfl ?_
          have hJ14 : ∀ m13 : Int, 0 ≤ m13 ∧ m13 ≤ 1 → e_Ok 20 elay kcode eI (d + 1) 217 (50, [(0, (1, 0)), (1, (0, a)), (2, (0, b)), (3, (0, c))], [(0, m13), (0, m10), (0, a), (0, 4), (1, 0)], w) (fun r w' => ∃ z : Int, r = [(0, z)] ∧ e_Has kTy w' ∧ opK w w') := by
            intro m13 m13r
            obtain ⟨OP, OD, CL, S, hK⟩ := hB (by omega)
            refine e_Ok.callV rfl (by omega) rfl rfl rfl rfl (c_255 (by omega) hT hK (by omega) (by omega) (by omega) (by omega) (by omega) (by decide) (rwC.k4 (by omega)) (fun g => absurd g (by decide))) (fun r15 w16 h17 => ?_)
            obtain ⟨z18, rfl, q19T, q19x⟩ := h17
            show e_Ok 20 elay kcode eI (d + 1) 217 (53, [(0, (1, 0)), (1, (0, a)), (2, (0, b)), (3, (0, c))], [(0, z18)], w16) _
            refine e_Ok.rets rfl rfl ?_
            exact ⟨_, rfl, q19T, q19x⟩
          refine e_Ok.if1 rfl (fun h12 => ?_) (fun h12 => ?_)
          · exact e_Ok.run 1 rfl (hJ14 0 (by omega))
          · exact e_Ok.run 2 rfl (hJ14 1 (by omega))
        refine e_Ok.if1 rfl (fun h9 => ?_) (fun h9 => ?_)
        · exact e_Ok.run 1 rfl (hJ11 0 (by omega))
        · exact e_Ok.run 2 rfl (hJ11 1 (by omega))
      · replace h8 : (w 0 13 : Int) = 0 := by have q : ¬ ((w 0 13 : Int) ≠ 0) := h8; omega
        refine e_Ok.run (t' := (28, [(0, (1, 0)), (1, (0, a)), (2, (0, b)), (3, (0, c))], [(0, (-2))], w)) 1 rfl ?_
        refine e_Ok.rets rfl rfl ?_
        exact ⟨_, rfl, hT, Or.inl rfl⟩
    · replace h7 : (1 : Int) = 0 := by have q : ¬ ((1 : Int) ≠ 0) := h7; omega
      exfalso; omega
  · show e_Ok 20 elay kcode eI (d + 1) 217 (14, [(0, (1, 0)), (1, (0, a)), (2, (0, b)), (3, (0, c))], [(0, 0)], w) _
    refine e_Ok.if1 rfl (fun h20 => ?_) (fun h20 => ?_)
    · replace h20 : (0 : Int) ≠ 0 := h20
      exfalso; omega
    · replace h20 : (0 : Int) = 0 := by have q : ¬ ((0 : Int) ≠ 0) := h20; omega
      refine e_Ok.run (t' := (18, [(0, (1, 0)), (1, (0, a)), (2, (0, b)), (3, (0, c))], [(0, (-1))], w)) 1 rfl ?_
      refine e_Ok.rets rfl rfl ?_
      exact ⟨_, rfl, hT, Or.inl rfl⟩
theorem c_218 {d : Nat} (hd : 31 ≤ d) {w : eW} (hT : e_Has kTy w) (hO : 0 ≤ w 0 13 ∧ w 0 13 ≤ 1) (hC : ∀ a, 0 ≤ a → a ≤ 3 → isCd (w (17 * a + 86) 7)) (hB : w 0 13 = 1 → ∃ OP OD CL S, kB w OP OD CL S) {a : Int} (g_a : (-2147483648) ≤ a ∧ a ≤ 2147483647) : e_Ok 20 elay kcode eI d 218 (0, [(0, (1, 0)), (1, (0, a))], [], w) (fun r w' => ∃ z : Int, r = [(0, z)] ∧ e_Has kTy w' ∧ opK w w') := by
  obtain ⟨d, rfl⟩ : ∃ e, d = e + 1 := ⟨d - 1, by omega⟩
  have hw0 := e_Has.get hT (c := 0) (k := 11) (lo := 0) (hi := 4) rfl (by decide)
  refine e_Ok.run (t' := (4, [(0, (1, 0)), (1, (0, a))], [(0, 7), (0, 0), (0, a)], w)) 3 rfl ?_
  refine e_Ok.callS rfl (by omega) rfl rfl (c_242 (by omega) (by omega) (by omega)) (fun r1 w2 h3 => ?_)
  obtain ⟨z4, rfl, rfl, q5⟩ := h3
  obtain ⟨rfl, q5⟩ | ⟨rfl, q5⟩ := q5
  · show e_Ok 20 elay kcode eI (d + 1) 218 (7, [(0, (1, 0)), (1, (0, a))], [(0, 1)], w) _
    refine e_Ok.if1 rfl (fun h6 => ?_) (fun h6 => ?_)
    · replace h6 : (1 : Int) ≠ 0 := h6
      refine e_Ok.run (t' := (13, [(0, (1, 0)), (1, (0, a))], [(1, 0)], w)) 1 rfl ?_
      refine e_Ok.getf (z := w 0 13) rfl (el_o rfl) rfl rfl rfl (by omega) ?_
      refine e_Ok.if1 rfl (fun h7 => ?_) (fun h7 => ?_)
      · replace h7 : (w 0 13 : Int) = 0 := h7
        refine e_Ok.run (t' := (53, [(0, (1, 0)), (1, (0, a))], [(0, (-2))], w)) 1 rfl ?_
        refine e_Ok.rets rfl rfl ?_
        exact ⟨_, rfl, hT, Or.inl rfl⟩
      · replace h7 : (w 0 13 : Int) ≠ 0 := by have q : ¬ ((w 0 13 : Int) = 0) := h7; omega
        refine e_Ok.run (t' := (20, [(0, (1, 0)), (1, (0, a))], [(1, 0)], w)) 1 rfl ?_
        refine e_Ok.getr (z := 74) rfl (el_o rfl) rfl rfl (Eq.trans (e_Has.eq hT rfl) (by omega)) (by omega) ?_
        refine e_Ok.getr (z := 77) rfl (el_o rfl) rfl rfl (Eq.trans (e_Has.eq hT rfl) (by omega)) (by omega) ?_
        refine e_Ok.run (t' := (27, [(0, (1, 0)), (1, (0, a))], [(0, a), (1, 77)], w)) 1 rfl ?_
        have h8 := (e_Has.get hT (c := 77) (k := a) (lo := 0) (hi := 1) rfl (by decide))
        refine e_Ok.ald (z := w 77 a) rfl (el_o rfl) rfl (by omega) rfl (by omega) ?_
        refine e_Ok.if1 rfl (fun h9 => ?_) (fun h9 => ?_)
        · replace h9 : (w 77 a : Int) = 0 := h9
          refine e_Ok.run (t' := (53, [(0, (1, 0)), (1, (0, a))], [(0, (-2))], w)) 1 rfl ?_
          refine e_Ok.rets rfl rfl ?_
          exact ⟨_, rfl, hT, Or.inl rfl⟩
        · replace h9 : (w 77 a : Int) ≠ 0 := by have q : ¬ ((w 77 a : Int) = 0) := h9; omega
          refine e_Ok.run (t' := (32, [(0, (1, 0)), (1, (0, a))], [(1, 0)], w)) 1 rfl ?_
          refine e_Ok.getr (z := 74) rfl (el_o rfl) rfl rfl (Eq.trans (e_Has.eq hT rfl) (by omega)) (by omega) ?_
          have h10 := (e_Has.get hT (c := 74) (k := 3) (lo := 0) (hi := 1) rfl (by decide))
          refine e_Ok.getf (z := w 74 3) rfl (el_o rfl) rfl rfl rfl (by omega) ?_
          refine e_Ok.if1 rfl (fun h11 => ?_) (fun h11 => ?_)
          · replace h11 : (w 74 3 : Int) ≠ 0 := h11
            refine e_Ok.run (t' := (53, [(0, (1, 0)), (1, (0, a))], [(0, (-2))], w)) 1 rfl ?_
            refine e_Ok.rets rfl rfl ?_
            exact ⟨_, rfl, hT, Or.inl rfl⟩
          · replace h11 : (w 74 3 : Int) = 0 := by have q : ¬ ((w 74 3 : Int) ≠ 0) := h11; omega
            refine e_Ok.run (t' := (42, [(0, (1, 0)), (1, (0, a))], [(1, 0)], w)) 1 rfl ?_
            refine e_Ok.getr (z := 74) rfl (el_o rfl) rfl rfl (Eq.trans (e_Has.eq hT rfl) (by omega)) (by omega) ?_
            refine e_Ok.callV rfl (by omega) rfl rfl rfl rfl (c_31 hT) (fun r12 w13 h14 => ?_)
            obtain ⟨z16, rfl, rfl, q15r⟩ := h14
            show e_Ok 20 elay kcode eI (d + 1) 218 (48, [(0, (1, 0)), (1, (0, a))], [(0, z16)], w) _
            refine e_Ok.if1 rfl (fun h17 => ?_) (fun h17 => ?_)
            · replace h17 : (z16 : Int) ≠ 0 := h17
              refine e_Ok.run (t' := (59, [(0, (1, 0)), (1, (0, a))], [(0, 0), (0, 0), (0, a), (0, 5), (1, 0)], w)) 5 rfl ?_
              obtain ⟨OP, OD, CL, S, hK⟩ := hB (by omega)
              refine e_Ok.callV rfl (by omega) rfl rfl rfl rfl (c_255 (by omega) hT hK (by omega) (by omega) (by omega) (by omega) (by omega) (by decide) rwC.k5 (fun g => absurd g (by decide))) (fun r18 w19 h20 => ?_)
              obtain ⟨z21, rfl, q22T, q22x⟩ := h20
              show e_Ok 20 elay kcode eI (d + 1) 218 (62, [(0, (1, 0)), (1, (0, a))], [(0, z21)], w19) _
              refine e_Ok.rets rfl rfl ?_
              exact ⟨_, rfl, q22T, q22x⟩
            · replace h17 : (z16 : Int) = 0 := by have q : ¬ ((z16 : Int) ≠ 0) := h17; omega
              refine e_Ok.run (t' := (53, [(0, (1, 0)), (1, (0, a))], [(0, (-2))], w)) 1 rfl ?_
              refine e_Ok.rets rfl rfl ?_
              exact ⟨_, rfl, hT, Or.inl rfl⟩
    · replace h6 : (1 : Int) = 0 := by have q : ¬ ((1 : Int) ≠ 0) := h6; omega
      exfalso; omega
  · show e_Ok 20 elay kcode eI (d + 1) 218 (7, [(0, (1, 0)), (1, (0, a))], [(0, 0)], w) _
    refine e_Ok.if1 rfl (fun h23 => ?_) (fun h23 => ?_)
    · replace h23 : (0 : Int) ≠ 0 := h23
      exfalso; omega
    · replace h23 : (0 : Int) = 0 := by have q : ¬ ((0 : Int) ≠ 0) := h23; omega
      refine e_Ok.run (t' := (11, [(0, (1, 0)), (1, (0, a))], [(0, (-1))], w)) 1 rfl ?_
      refine e_Ok.rets rfl rfl ?_
      exact ⟨_, rfl, hT, Or.inl rfl⟩
theorem c_219 {d : Nat} (hd : 31 ≤ d) {w : eW} (hT : e_Has kTy w) (hO : 0 ≤ w 0 13 ∧ w 0 13 ≤ 1) (hC : ∀ a, 0 ≤ a → a ≤ 3 → isCd (w (17 * a + 86) 7)) (hB : w 0 13 = 1 → ∃ OP OD CL S, kB w OP OD CL S) {a : Int} (g_a : (-2147483648) ≤ a ∧ a ≤ 2147483647) : e_Ok 20 elay kcode eI d 219 (0, [(0, (1, 0)), (1, (0, a))], [], w) (fun r w' => ∃ z : Int, r = [(0, z)] ∧ e_Has kTy w' ∧ opK w w') := by
  obtain ⟨d, rfl⟩ : ∃ e, d = e + 1 := ⟨d - 1, by omega⟩
  have hw0 := e_Has.get hT (c := 0) (k := 11) (lo := 0) (hi := 4) rfl (by decide)
  refine e_Ok.run (t' := (2, [(0, (1, 0)), (1, (0, a))], [(0, (-1)), (0, a)], w)) 2 rfl ?_
  refine e_Ok.if2 rfl (fun h1 => ?_) (fun h1 => ?_)
  · replace h1 : (a : Int) = (-1) := h1
    refine e_Ok.run (t' := (16, [(0, (1, 0)), (1, (0, a))], [(1, 0)], w)) 1 rfl ?_
    refine e_Ok.getf (z := w 0 13) rfl (el_o rfl) rfl rfl rfl (by omega) ?_
    refine e_Ok.if1 rfl (fun h2 => ?_) (fun h2 => ?_)
    · replace h2 : (w 0 13 : Int) = 0 := h2
      refine e_Ok.run (t' := (39, [(0, (1, 0)), (1, (0, a))], [(0, (-2))], w)) 1 rfl ?_
      refine e_Ok.rets rfl rfl ?_
      exact ⟨_, rfl, hT, Or.inl rfl⟩
    · replace h2 : (w 0 13 : Int) ≠ 0 := by have q : ¬ ((w 0 13 : Int) = 0) := h2; omega
      refine e_Ok.run (t' := (24, [(0, (1, 0)), (1, (0, a))], [(0, (-1)), (0, a)], w)) 2 rfl ?_
      refine e_Ok.if2 rfl (fun h3 => ?_) (fun h3 => ?_)
      · replace h3 : (a : Int) ≠ (-1) := h3
        exfalso; omega
      · replace h3 : (a : Int) = (-1) := by have q : ¬ ((a : Int) ≠ (-1)) := h3; omega
        refine e_Ok.run (t' := (28, [(0, (1, 0)), (1, (0, a))], [(1, 0)], w)) 1 rfl ?_
        refine e_Ok.getr (z := 74) rfl (el_o rfl) rfl rfl (Eq.trans (e_Has.eq hT rfl) (by omega)) (by omega) ?_
        have h4 := (e_Has.get hT (c := 74) (k := 3) (lo := 0) (hi := 1) rfl (by decide))
        refine e_Ok.getf (z := w 74 3) rfl (el_o rfl) rfl rfl rfl (by omega) ?_
        refine e_Ok.if1 rfl (fun h5 => ?_) (fun h5 => ?_)
        · replace h5 : (w 74 3 : Int) ≠ 0 := h5
          refine e_Ok.run (t' := (46, [(0, (1, 0)), (1, (0, a))], [(0, 0), (0, 0), (0, a), (0, 6), (1, 0)], w)) 5 rfl ?_
          obtain ⟨OP, OD, CL, S, hK⟩ := hB (by omega)
          refine e_Ok.callV rfl (by omega) rfl rfl rfl rfl (c_255 (by omega) hT hK (by omega) (by omega) (by omega) (by omega) (by omega) (by decide) (rwC.k6 (by omega)) (fun g => absurd g (by decide))) (fun r6 w7 h8 => ?_)
          obtain ⟨z9, rfl, q10T, q10x⟩ := h8
          show e_Ok 20 elay kcode eI (d + 1) 219 (49, [(0, (1, 0)), (1, (0, a))], [(0, z9)], w7) _
          refine e_Ok.rets rfl rfl ?_
          exact ⟨_, rfl, q10T, q10x⟩
        · replace h5 : (w 74 3 : Int) = 0 := by have q : ¬ ((w 74 3 : Int) ≠ 0) := h5; omega
          refine e_Ok.run (t' := (39, [(0, (1, 0)), (1, (0, a))], [(0, (-2))], w)) 1 rfl ?_
          refine e_Ok.rets rfl rfl ?_
          exact ⟨_, rfl, hT, Or.inl rfl⟩
  · replace h1 : (a : Int) ≠ (-1) := by have q : ¬ ((a : Int) = (-1)) := h1; omega
    refine e_Ok.run (t' := (7, [(0, (1, 0)), (1, (0, a))], [(0, a), (1, 0)], w)) 2 rfl ?_
    refine e_Ok.callV rfl (by omega) rfl rfl rfl rfl (c_246 (by omega) hT (by omega)) (fun r11 w12 h13 => ?_)
    obtain ⟨z14, rfl, rfl, q15⟩ := h13
    obtain ⟨rfl, q15⟩ | ⟨rfl, q15⟩ := q15
    · show e_Ok 20 elay kcode eI (d + 1) 219 (10, [(0, (1, 0)), (1, (0, a))], [(0, 1)], w) _
      refine e_Ok.if1 rfl (fun h16 => ?_) (fun h16 => ?_)
      · replace h16 : (1 : Int) ≠ 0 := h16
        refine e_Ok.run (t' := (16, [(0, (1, 0)), (1, (0, a))], [(1, 0)], w)) 1 rfl ?_
        refine e_Ok.getf (z := w 0 13) rfl (el_o rfl) rfl rfl rfl (by omega) ?_
        refine e_Ok.if1 rfl (fun h17 => ?_) (fun h17 => ?_)
        · replace h17 : (w 0 13 : Int) = 0 := h17
          refine e_Ok.run (t' := (39, [(0, (1, 0)), (1, (0, a))], [(0, (-2))], w)) 1 rfl ?_
          refine e_Ok.rets rfl rfl ?_
          exact ⟨_, rfl, hT, Or.inl rfl⟩
        · replace h17 : (w 0 13 : Int) ≠ 0 := by have q : ¬ ((w 0 13 : Int) = 0) := h17; omega
          refine e_Ok.run (t' := (24, [(0, (1, 0)), (1, (0, a))], [(0, (-1)), (0, a)], w)) 2 rfl ?_
          refine e_Ok.if2 rfl (fun h18 => ?_) (fun h18 => ?_)
          · replace h18 : (a : Int) ≠ (-1) := h18
            refine e_Ok.run (t' := (46, [(0, (1, 0)), (1, (0, a))], [(0, 0), (0, 0), (0, a), (0, 6), (1, 0)], w)) 5 rfl ?_
            obtain ⟨OP, OD, CL, S, hK⟩ := hB (by omega)
            refine e_Ok.callV rfl (by omega) rfl rfl rfl rfl (c_255 (by omega) hT hK (by omega) (by omega) (by omega) (by omega) (by omega) (by decide) (rwC.k6 (by omega)) (fun g => absurd g (by decide))) (fun r19 w20 h21 => ?_)
            obtain ⟨z22, rfl, q23T, q23x⟩ := h21
            show e_Ok 20 elay kcode eI (d + 1) 219 (49, [(0, (1, 0)), (1, (0, a))], [(0, z22)], w20) _
            refine e_Ok.rets rfl rfl ?_
            exact ⟨_, rfl, q23T, q23x⟩
          · replace h18 : (a : Int) = (-1) := by have q : ¬ ((a : Int) ≠ (-1)) := h18; omega
            exfalso; omega
      · replace h16 : (1 : Int) = 0 := by have q : ¬ ((1 : Int) ≠ 0) := h16; omega
        exfalso; omega
    · show e_Ok 20 elay kcode eI (d + 1) 219 (10, [(0, (1, 0)), (1, (0, a))], [(0, 0)], w) _
      refine e_Ok.if1 rfl (fun h24 => ?_) (fun h24 => ?_)
      · replace h24 : (0 : Int) ≠ 0 := h24
        exfalso; omega
      · replace h24 : (0 : Int) = 0 := by have q : ¬ ((0 : Int) ≠ 0) := h24; omega
        refine e_Ok.run (t' := (14, [(0, (1, 0)), (1, (0, a))], [(0, (-1))], w)) 1 rfl ?_
        refine e_Ok.rets rfl rfl ?_
        exact ⟨_, rfl, hT, Or.inl rfl⟩
theorem c_220 {d : Nat} (hd : 31 ≤ d) {w : eW} (hT : e_Has kTy w) (hO : 0 ≤ w 0 13 ∧ w 0 13 ≤ 1) (hC : ∀ a, 0 ≤ a → a ≤ 3 → isCd (w (17 * a + 86) 7)) (hB : w 0 13 = 1 → ∃ OP OD CL S, kB w OP OD CL S) {a : Int} (g_a : (-2147483648) ≤ a ∧ a ≤ 2147483647) : e_Ok 20 elay kcode eI d 220 (0, [(0, (1, 0)), (1, (0, a))], [], w) (fun r w' => ∃ z : Int, r = [(0, z)] ∧ e_Has kTy w' ∧ opK w w') := by
  obtain ⟨d, rfl⟩ : ∃ e, d = e + 1 := ⟨d - 1, by omega⟩
  have hw0 := e_Has.get hT (c := 0) (k := 11) (lo := 0) (hi := 4) rfl (by decide)
  refine e_Ok.run (t' := (2, [(0, (1, 0)), (1, (0, a))], [(0, a), (1, 0)], w)) 2 rfl ?_
  refine e_Ok.callV rfl (by omega) rfl rfl rfl rfl (c_246 (by omega) hT (by omega)) (fun r1 w2 h3 => ?_)
  obtain ⟨z4, rfl, rfl, q5⟩ := h3
  obtain ⟨rfl, q5⟩ | ⟨rfl, q5⟩ := q5
  · show e_Ok 20 elay kcode eI (d + 1) 220 (5, [(0, (1, 0)), (1, (0, a))], [(0, 1)], w) _
    refine e_Ok.if1 rfl (fun h6 => ?_) (fun h6 => ?_)
    · replace h6 : (1 : Int) ≠ 0 := h6
      refine e_Ok.run (t' := (11, [(0, (1, 0)), (1, (0, a))], [(1, 0)], w)) 1 rfl ?_
      refine e_Ok.getf (z := w 0 13) rfl (el_o rfl) rfl rfl rfl (by omega) ?_
      refine e_Ok.if1 rfl (fun h7 => ?_) (fun h7 => ?_)
      · replace h7 : (w 0 13 : Int) = 0 := h7
        refine e_Ok.run (t' := (31, [(0, (1, 0)), (1, (0, a))], [(0, (-2))], w)) 1 rfl ?_
        refine e_Ok.rets rfl rfl ?_
        exact ⟨_, rfl, hT, Or.inl rfl⟩
      · replace h7 : (w 0 13 : Int) ≠ 0 := by have q : ¬ ((w 0 13 : Int) = 0) := h7; omega
        refine e_Ok.run (t' := (18, [(0, (1, 0)), (1, (0, a))], [(1, 0)], w)) 1 rfl ?_
        refine e_Ok.getr (z := 9) rfl (el_o rfl) rfl rfl (Eq.trans (e_Has.eq hT rfl) (by omega)) (by omega) ?_
        refine e_Ok.run (t' := (22, [(0, (1, 0)), (1, (0, a))], [(0, a), (1, 9)], w)) 1 rfl ?_
        refine e_Ok.aald (z := 17 * a + 86) rfl (el_o rfl) rfl (by omega) (Eq.trans (e_Has.eq hT (k9 (by omega))) (by omega)) (by omega) ?_
        have h8 := (e_Has.get hT (c := 17 * a + 86) (k := 16) (lo := (-1)) (hi := 15) (kA_16 (a := a) (by omega) (by omega)) (by decide))
        refine e_Ok.getf (z := w (17 * a + 86) 16) rfl (lA0 (a := a) (by omega) (by omega)) rfl rfl rfl (by omega) ?_
        refine e_Ok.if1 rfl (fun h9 => ?_) (fun h9 => ?_)
        · replace h9 : (w (17 * a + 86) 16 : Int) ≥ 0 := h9
          refine e_Ok.run (t' := (38, [(0, (1, 0)), (1, (0, a))], [(0, 0), (0, 0), (0, a), (0, 7), (1, 0)], w)) 5 rfl ?_
          obtain ⟨OP, OD, CL, S, hK⟩ := hB (by omega)
          refine e_Ok.callV rfl (by omega) rfl rfl rfl rfl (c_255 (by omega) hT hK (by omega) (by omega) (by omega) (by omega) (by omega) (by decide) (rwC.k7 (by omega)) (fun g => absurd g (by decide))) (fun r10 w11 h12 => ?_)
          obtain ⟨z13, rfl, q14T, q14x⟩ := h12
          show e_Ok 20 elay kcode eI (d + 1) 220 (41, [(0, (1, 0)), (1, (0, a))], [(0, z13)], w11) _
          refine e_Ok.rets rfl rfl ?_
          exact ⟨_, rfl, q14T, q14x⟩
        · replace h9 : (w (17 * a + 86) 16 : Int) < 0 := by have q : ¬ ((w (17 * a + 86) 16 : Int) ≥ 0) := h9; omega
          refine e_Ok.run (t' := (31, [(0, (1, 0)), (1, (0, a))], [(0, (-2))], w)) 1 rfl ?_
          refine e_Ok.rets rfl rfl ?_
          exact ⟨_, rfl, hT, Or.inl rfl⟩
    · replace h6 : (1 : Int) = 0 := by have q : ¬ ((1 : Int) ≠ 0) := h6; omega
      exfalso; omega
  · show e_Ok 20 elay kcode eI (d + 1) 220 (5, [(0, (1, 0)), (1, (0, a))], [(0, 0)], w) _
    refine e_Ok.if1 rfl (fun h15 => ?_) (fun h15 => ?_)
    · replace h15 : (0 : Int) ≠ 0 := h15
      exfalso; omega
    · replace h15 : (0 : Int) = 0 := by have q : ¬ ((0 : Int) ≠ 0) := h15; omega
      refine e_Ok.run (t' := (9, [(0, (1, 0)), (1, (0, a))], [(0, (-1))], w)) 1 rfl ?_
      refine e_Ok.rets rfl rfl ?_
      exact ⟨_, rfl, hT, Or.inl rfl⟩
theorem c_221 {d : Nat} (hd : 31 ≤ d) {w : eW} (hT : e_Has kTy w) (hO : 0 ≤ w 0 13 ∧ w 0 13 ≤ 1) (hC : ∀ a, 0 ≤ a → a ≤ 3 → isCd (w (17 * a + 86) 7)) (hB : w 0 13 = 1 → ∃ OP OD CL S, kB w OP OD CL S) {a : Int} (g_a : (-2147483648) ≤ a ∧ a ≤ 2147483647) {b : Int} (g_b : (-2147483648) ≤ b ∧ b ≤ 2147483647) {c : Int} (g_c : (-2147483648) ≤ c ∧ c ≤ 2147483647) : e_Ok 20 elay kcode eI d 221 (0, [(0, (1, 0)), (1, (0, a)), (2, (0, b)), (3, (0, c))], [], w) (fun r w' => ∃ z : Int, r = [(0, z)] ∧ e_Has kTy w' ∧ opK w w') := by
  obtain ⟨d, rfl⟩ : ∃ e, d = e + 1 := ⟨d - 1, by omega⟩
  have hw0 := e_Has.get hT (c := 0) (k := 11) (lo := 0) (hi := 4) rfl (by decide)
  refine e_Ok.run (t' := (3, [(0, (1, 0)), (1, (0, a)), (2, (0, b)), (3, (0, c))], [(0, b), (0, a), (1, 0)], w)) 3 rfl ?_
  refine e_Ok.callV rfl (by omega) rfl rfl rfl rfl (c_247 (by omega) hT (by omega) (by omega)) (fun r1 w2 h3 => ?_)
  obtain ⟨z4, rfl, rfl, q5⟩ := h3
  obtain ⟨rfl, q5⟩ | ⟨rfl, q5⟩ := q5
  · show e_Ok 20 elay kcode eI (d + 1) 221 (6, [(0, (1, 0)), (1, (0, a)), (2, (0, b)), (3, (0, c))], [(0, 1)], w) _
    refine e_Ok.if1 rfl (fun h6 => ?_) (fun h6 => ?_)
    · replace h6 : (1 : Int) = 0 := h6
      exfalso; omega
    · replace h6 : (1 : Int) ≠ 0 := by have q : ¬ ((1 : Int) = 0) := h6; omega
      have hjn := kn_joints hT (a := a) (by omega)
      refine e_Ok.run (t' := (10, [(0, (1, 0)), (1, (0, a)), (2, (0, b)), (3, (0, c))], [(1, 0)], w)) 1 rfl ?_
      refine e_Ok.getr (z := 9) rfl (el_o rfl) rfl rfl (Eq.trans (e_Has.eq hT rfl) (by omega)) (by omega) ?_
      refine e_Ok.run (t' := (14, [(0, (1, 0)), (1, (0, a)), (2, (0, b)), (3, (0, c))], [(0, a), (1, 9)], w)) 1 rfl ?_
      refine e_Ok.aald (z := 17 * a + 86) rfl (el_o rfl) rfl (by omega) (Eq.trans (e_Has.eq hT (k9 (by omega))) (by omega)) (by omega) ?_
      refine e_Ok.getr (z := 17 * a + 87) rfl (lA0 (a := a) (by omega) (by omega)) rfl rfl (Eq.trans (e_Has.eq hT (kA_0 (a := a) (by omega) (by omega))) (by omega)) (by omega) ?_
      refine e_Ok.run (t' := (19, [(0, (1, 0)), (1, (0, a)), (2, (0, b)), (3, (0, c))], [(0, b), (1, 17 * a + 87)], w)) 1 rfl ?_
      refine e_Ok.aald (z := 17 * a + b + 97) rfl (lA1 (a := a) (by omega) (by omega)) rfl (by omega) (Eq.trans (e_Has.eq hT (kA87 (a := a) (by omega) (by omega) (by omega))) (by omega)) (by omega) ?_
      refine e_Ok.run (t' := (21, [(0, (1, 0)), (1, (0, a)), (2, (0, b)), (3, (0, c))], [(0, c), (1, 17 * a + b + 97)], w)) 1 rfl ?_
      refine e_Ok.callV rfl (by omega) rfl (lJ (a := a) (j := b) (by omega) (by omega) (by omega)) rfl rfl (c_89 (by omega) (a := a) (j := b) hT (by omega) (by omega) (by omega)) (fun r7 w8 h9 => ?_)
      obtain ⟨z10, rfl, rfl, q11⟩ := h9
      replace q11 : (z10 = 1 ∧ w (17 * a + b + 97) 1 ≤ c ∧ c ≤ w (17 * a + b + 97) 2) ∨ (z10 = 0 ∧ ¬ (w (17 * a + b + 97) 1 ≤ c ∧ c ≤ w (17 * a + b + 97) 2)) := q11
      obtain ⟨rfl, q11⟩ | ⟨rfl, q11⟩ := q11
      · show e_Ok 20 elay kcode eI (d + 1) 221 (24, [(0, (1, 0)), (1, (0, a)), (2, (0, b)), (3, (0, c))], [(0, 1)], w) _
        refine e_Ok.if1 rfl (fun h12 => ?_) (fun h12 => ?_)
        · replace h12 : (1 : Int) ≠ 0 := h12
          refine e_Ok.run (t' := (30, [(0, (1, 0)), (1, (0, a)), (2, (0, b)), (3, (0, c))], [(1, 0)], w)) 1 rfl ?_
          refine e_Ok.getf (z := w 0 13) rfl (el_o rfl) rfl rfl rfl (by omega) ?_
          refine e_Ok.if1 rfl (fun h13 => ?_) (fun h13 => ?_)
          · replace h13 : (w 0 13 : Int) = 0 := h13
            refine e_Ok.run (t' := (48, [(0, (1, 0)), (1, (0, a)), (2, (0, b)), (3, (0, c))], [(0, (-2))], w)) 1 rfl ?_
            refine e_Ok.rets rfl rfl ?_
            exact ⟨_, rfl, hT, Or.inl rfl⟩
          · replace h13 : (w 0 13 : Int) ≠ 0 := by have q : ¬ ((w 0 13 : Int) = 0) := h13; omega
            refine e_Ok.run (t' := (37, [(0, (1, 0)), (1, (0, a)), (2, (0, b)), (3, (0, c))], [(1, 0)], w)) 1 rfl ?_
            refine e_Ok.getr (z := 74) rfl (el_o rfl) rfl rfl (Eq.trans (e_Has.eq hT rfl) (by omega)) (by omega) ?_
            have h14 := (e_Has.get hT (c := 74) (k := 3) (lo := 0) (hi := 1) rfl (by decide))
            refine e_Ok.getf (z := w 74 3) rfl (el_o rfl) rfl rfl rfl (by omega) ?_
            refine e_Ok.if1 rfl (fun h15 => ?_) (fun h15 => ?_)
            · replace h15 : (w 74 3 : Int) = 0 := h15
              refine e_Ok.run (t' := (55, [(0, (1, 0)), (1, (0, a)), (2, (0, b)), (3, (0, c))], [(0, c), (0, b), (0, a), (0, 8), (1, 0)], w)) 5 rfl ?_
              obtain ⟨OP, OD, CL, S, hK⟩ := hB (by omega)
              obtain ⟨hh, hh0, hI⟩ := hK.live
              have hst := hI.pw (by omega) a (by omega) (by omega) (by omega)
              refine e_Ok.callV rfl (by omega) rfl rfl rfl rfl (c_255 (by omega) hT hK (by omega) (by omega) (by omega) (by omega) (by omega) (by decide) (rwC.k8 ⟨by omega, by omega, hst, by omega, by omega⟩) (fun g => absurd g (by decide))) (fun r16 w17 h18 => ?_)
              obtain ⟨z19, rfl, q20T, q20x⟩ := h18
              show e_Ok 20 elay kcode eI (d + 1) 221 (58, [(0, (1, 0)), (1, (0, a)), (2, (0, b)), (3, (0, c))], [(0, z19)], w17) _
              refine e_Ok.rets rfl rfl ?_
              exact ⟨_, rfl, q20T, q20x⟩
            · replace h15 : (w 74 3 : Int) ≠ 0 := by have q : ¬ ((w 74 3 : Int) = 0) := h15; omega
              refine e_Ok.run (t' := (48, [(0, (1, 0)), (1, (0, a)), (2, (0, b)), (3, (0, c))], [(0, (-2))], w)) 1 rfl ?_
              refine e_Ok.rets rfl rfl ?_
              exact ⟨_, rfl, hT, Or.inl rfl⟩
        · replace h12 : (1 : Int) = 0 := by have q : ¬ ((1 : Int) ≠ 0) := h12; omega
          exfalso; omega
      · show e_Ok 20 elay kcode eI (d + 1) 221 (24, [(0, (1, 0)), (1, (0, a)), (2, (0, b)), (3, (0, c))], [(0, 0)], w) _
        refine e_Ok.if1 rfl (fun h21 => ?_) (fun h21 => ?_)
        · replace h21 : (0 : Int) ≠ 0 := h21
          exfalso; omega
        · replace h21 : (0 : Int) = 0 := by have q : ¬ ((0 : Int) ≠ 0) := h21; omega
          refine e_Ok.run (t' := (28, [(0, (1, 0)), (1, (0, a)), (2, (0, b)), (3, (0, c))], [(0, (-1))], w)) 1 rfl ?_
          refine e_Ok.rets rfl rfl ?_
          exact ⟨_, rfl, hT, Or.inl rfl⟩
  · show e_Ok 20 elay kcode eI (d + 1) 221 (6, [(0, (1, 0)), (1, (0, a)), (2, (0, b)), (3, (0, c))], [(0, 0)], w) _
    refine e_Ok.if1 rfl (fun h22 => ?_) (fun h22 => ?_)
    · replace h22 : (0 : Int) = 0 := h22
      refine e_Ok.run (t' := (28, [(0, (1, 0)), (1, (0, a)), (2, (0, b)), (3, (0, c))], [(0, (-1))], w)) 1 rfl ?_
      refine e_Ok.rets rfl rfl ?_
      exact ⟨_, rfl, hT, Or.inl rfl⟩
    · replace h22 : (0 : Int) ≠ 0 := by have q : ¬ ((0 : Int) = 0) := h22; omega
      exfalso; omega
theorem c_222 {d : Nat} (hd : 31 ≤ d) {w : eW} (hT : e_Has kTy w) (hO : 0 ≤ w 0 13 ∧ w 0 13 ≤ 1) (hC : ∀ a, 0 ≤ a → a ≤ 3 → isCd (w (17 * a + 86) 7)) (hB : w 0 13 = 1 → ∃ OP OD CL S, kB w OP OD CL S) {a : Int} (g_a : (-2147483648) ≤ a ∧ a ≤ 2147483647) {b : Int} (g_b : (-2147483648) ≤ b ∧ b ≤ 2147483647) : e_Ok 20 elay kcode eI d 222 (0, [(0, (1, 0)), (1, (0, a)), (2, (0, b))], [], w) (fun r w' => ∃ z : Int, r = [(0, z)] ∧ e_Has kTy w' ∧ opK w w') := by
  obtain ⟨d, rfl⟩ : ∃ e, d = e + 1 := ⟨d - 1, by omega⟩
  have hw0 := e_Has.get hT (c := 0) (k := 11) (lo := 0) (hi := 4) rfl (by decide)
  refine e_Ok.run (t' := (3, [(0, (1, 0)), (1, (0, a)), (2, (0, b))], [(0, 5), (0, 0), (0, a)], w)) 3 rfl ?_
  refine e_Ok.callS rfl (by omega) rfl rfl (c_242 (by omega) (by omega) (by omega)) (fun r1 w2 h3 => ?_)
  obtain ⟨z4, rfl, rfl, q5⟩ := h3
  obtain ⟨rfl, q5⟩ | ⟨rfl, q5⟩ := q5
  · show e_Ok 20 elay kcode eI (d + 1) 222 (6, [(0, (1, 0)), (1, (0, a)), (2, (0, b))], [(0, 1)], w) _
    refine e_Ok.if1 rfl (fun h6 => ?_) (fun h6 => ?_)
    · replace h6 : (1 : Int) ≠ 0 := h6
      refine e_Ok.run (t' := (12, [(0, (1, 0)), (1, (0, a)), (2, (0, b))], [(1, 0)], w)) 1 rfl ?_
      refine e_Ok.getf (z := w 0 13) rfl (el_o rfl) rfl rfl rfl (by omega) ?_
      refine e_Ok.if1 rfl (fun h7 => ?_) (fun h7 => ?_)
      · replace h7 : (w 0 13 : Int) ≠ 0 := h7
        refine e_Ok.run (t' := (27, [(0, (1, 0)), (1, (0, a)), (2, (0, b))], [(0, 0), (0, b), (0, a), (0, 9), (1, 0)], w)) 5 rfl ?_
        obtain ⟨OP, OD, CL, S, hK⟩ := hB (by omega)
        refine e_Ok.callV rfl (by omega) rfl rfl rfl rfl (c_255 (by omega) hT hK (by omega) (by omega) (by omega) (by omega) (by omega) (by decide) (rwC.k9 (by omega)) (fun g => absurd g (by decide))) (fun r8 w9 h10 => ?_)
        obtain ⟨z11, rfl, q12T, q12x⟩ := h10
        show e_Ok 20 elay kcode eI (d + 1) 222 (30, [(0, (1, 0)), (1, (0, a)), (2, (0, b))], [(0, z11)], w9) _
        refine e_Ok.rets rfl rfl ?_
        exact ⟨_, rfl, q12T, q12x⟩
      · replace h7 : (w 0 13 : Int) = 0 := by have q : ¬ ((w 0 13 : Int) ≠ 0) := h7; omega
        refine e_Ok.run (t' := (20, [(0, (1, 0)), (1, (0, a)), (2, (0, b))], [(0, (-2))], w)) 1 rfl ?_
        refine e_Ok.rets rfl rfl ?_
        exact ⟨_, rfl, hT, Or.inl rfl⟩
    · replace h6 : (1 : Int) = 0 := by have q : ¬ ((1 : Int) ≠ 0) := h6; omega
      exfalso; omega
  · show e_Ok 20 elay kcode eI (d + 1) 222 (6, [(0, (1, 0)), (1, (0, a)), (2, (0, b))], [(0, 0)], w) _
    refine e_Ok.if1 rfl (fun h13 => ?_) (fun h13 => ?_)
    · replace h13 : (0 : Int) ≠ 0 := h13
      exfalso; omega
    · replace h13 : (0 : Int) = 0 := by have q : ¬ ((0 : Int) ≠ 0) := h13; omega
      refine e_Ok.run (t' := (10, [(0, (1, 0)), (1, (0, a)), (2, (0, b))], [(0, (-1))], w)) 1 rfl ?_
      refine e_Ok.rets rfl rfl ?_
      exact ⟨_, rfl, hT, Or.inl rfl⟩
theorem c_224 {d : Nat} (hd : 31 ≤ d) {w : eW} (hT : e_Has kTy w) (hO : 0 ≤ w 0 13 ∧ w 0 13 ≤ 1) (hC : ∀ a, 0 ≤ a → a ≤ 3 → isCd (w (17 * a + 86) 7)) (hB : w 0 13 = 1 → ∃ OP OD CL S, kB w OP OD CL S) {a : Int} (g_a : (-2147483648) ≤ a ∧ a ≤ 2147483647) : e_Ok 20 elay kcode eI d 224 (0, [(0, (1, 0)), (1, (0, a))], [], w) (fun r w' => ∃ z : Int, r = [(0, z)] ∧ e_Has kTy w' ∧ opK w w') := by
  obtain ⟨d, rfl⟩ : ∃ e, d = e + 1 := ⟨d - 1, by omega⟩
  have hw0 := e_Has.get hT (c := 0) (k := 11) (lo := 0) (hi := 4) rfl (by decide)
  refine e_Ok.run (t' := (2, [(0, (1, 0)), (1, (0, a))], [(0, a), (1, 0)], w)) 2 rfl ?_
  refine e_Ok.callV rfl (by omega) rfl rfl rfl rfl (c_246 (by omega) hT (by omega)) (fun r1 w2 h3 => ?_)
  obtain ⟨z4, rfl, rfl, q5⟩ := h3
  obtain ⟨rfl, q5⟩ | ⟨rfl, q5⟩ := q5
  · show e_Ok 20 elay kcode eI (d + 1) 224 (5, [(0, (1, 0)), (1, (0, a))], [(0, 1)], w) _
    refine e_Ok.if1 rfl (fun h6 => ?_) (fun h6 => ?_)
    · replace h6 : (1 : Int) ≠ 0 := h6
      refine e_Ok.run (t' := (11, [(0, (1, 0)), (1, (0, a))], [(1, 0)], w)) 1 rfl ?_
      refine e_Ok.getf (z := w 0 13) rfl (el_o rfl) rfl rfl rfl (by omega) ?_
      refine e_Ok.if1 rfl (fun h7 => ?_) (fun h7 => ?_)
      · replace h7 : (w 0 13 : Int) = 0 := h7
        refine e_Ok.run (t' := (43, [(0, (1, 0)), (1, (0, a))], [(0, (-2))], w)) 1 rfl ?_
        refine e_Ok.rets rfl rfl ?_
        exact ⟨_, rfl, hT, Or.inl rfl⟩
      · replace h7 : (w 0 13 : Int) ≠ 0 := by have q : ¬ ((w 0 13 : Int) = 0) := h7; omega
        refine e_Ok.run (t' := (18, [(0, (1, 0)), (1, (0, a))], [(1, 0)], w)) 1 rfl ?_
        refine e_Ok.getr (z := 9) rfl (el_o rfl) rfl rfl (Eq.trans (e_Has.eq hT rfl) (by omega)) (by omega) ?_
        refine e_Ok.run (t' := (22, [(0, (1, 0)), (1, (0, a))], [(0, a), (1, 9)], w)) 1 rfl ?_
        refine e_Ok.aald (z := 17 * a + 86) rfl (el_o rfl) rfl (by omega) (Eq.trans (e_Has.eq hT (k9 (by omega))) (by omega)) (by omega) ?_
        refine e_Ok.callV rfl (by omega) rfl (lA0 (a := a) (by omega) (by omega)) rfl rfl (c_9_b (a := a) hT (by omega)) (fun r8 w9 h10 => ?_)
        obtain ⟨z11, rfl, rfl, q12⟩ := h10
        obtain ⟨rfl, q12⟩ | ⟨rfl, q12⟩ := q12
        · show e_Ok 20 elay kcode eI (d + 1) 224 (26, [(0, (1, 0)), (1, (0, a))], [(0, 1)], w) _
          refine e_Ok.if1 rfl (fun h13 => ?_) (fun h13 => ?_)
          · replace h13 : (1 : Int) = 0 := h13
            exfalso; omega
          · replace h13 : (1 : Int) ≠ 0 := by have q : ¬ ((1 : Int) = 0) := h13; omega
            refine e_Ok.run (t' := (30, [(0, (1, 0)), (1, (0, a))], [(1, 0)], w)) 1 rfl ?_
            refine e_Ok.getr (z := 9) rfl (el_o rfl) rfl rfl (Eq.trans (e_Has.eq hT rfl) (by omega)) (by omega) ?_
            refine e_Ok.run (t' := (34, [(0, (1, 0)), (1, (0, a))], [(0, a), (1, 9)], w)) 1 rfl ?_
            refine e_Ok.aald (z := 17 * a + 86) rfl (el_o rfl) rfl (by omega) (Eq.trans (e_Has.eq hT (k9 (by omega))) (by omega)) (by omega) ?_
            have h14 := (e_Has.get hT (c := 17 * a + 86) (k := 11) (lo := 0) (hi := 2) (kA_11 (a := a) (by omega) (by omega)) (by decide))
            refine e_Ok.getf (z := w (17 * a + 86) 11) rfl (lA0 (a := a) (by omega) (by omega)) rfl rfl rfl (by omega) ?_
            refine e_Ok.if1 rfl (fun h15 => ?_) (fun h15 => ?_)
            · replace h15 : (w (17 * a + 86) 11 : Int) = 0 := h15
              refine e_Ok.run (t' := (45, [(0, (1, 0)), (1, (0, a))], [(1, 0)], w)) 1 rfl ?_
              refine e_Ok.getr (z := 9) rfl (el_o rfl) rfl rfl (Eq.trans (e_Has.eq hT rfl) (by omega)) (by omega) ?_
              refine e_Ok.run (t' := (49, [(0, (1, 0)), (1, (0, a))], [(0, a), (1, 9)], w)) 1 rfl ?_
              refine e_Ok.aald (z := 17 * a + 86) rfl (el_o rfl) rfl (by omega) (Eq.trans (e_Has.eq hT (k9 (by omega))) (by omega)) (by omega) ?_
              have h16 := (e_Has.get hT (c := 17 * a + 86) (k := 16) (lo := (-1)) (hi := 15) (kA_16 (a := a) (by omega) (by omega)) (by decide))
              refine e_Ok.getf (z := w (17 * a + 86) 16) rfl (lA0 (a := a) (by omega) (by omega)) rfl rfl rfl (by omega) ?_
              refine e_Ok.if1 rfl (fun h17 => ?_) (fun h17 => ?_)
              · replace h17 : (w (17 * a + 86) 16 : Int) ≥ 0 := h17
                refine e_Ok.run (t' := (68, [(0, (1, 0)), (1, (0, a))], [(0, (-2))], w)) 1 rfl ?_
                refine e_Ok.rets rfl rfl ?_
                exact ⟨_, rfl, hT, Or.inl rfl⟩
              · replace h17 : (w (17 * a + 86) 16 : Int) < 0 := by have q : ¬ ((w (17 * a + 86) 16 : Int) ≥ 0) := h17; omega
                refine e_Ok.run (t' := (57, [(0, (1, 0)), (1, (0, a))], [(1, 0)], w)) 1 rfl ?_
                refine e_Ok.getr (z := 74) rfl (el_o rfl) rfl rfl (Eq.trans (e_Has.eq hT rfl) (by omega)) (by omega) ?_
                have h18 := (e_Has.get hT (c := 74) (k := 3) (lo := 0) (hi := 1) rfl (by decide))
                refine e_Ok.getf (z := w 74 3) rfl (el_o rfl) rfl rfl rfl (by omega) ?_
                refine e_Ok.if1 rfl (fun h19 => ?_) (fun h19 => ?_)
                · replace h19 : (w 74 3 : Int) ≠ 0 := h19
                  refine e_Ok.run (t' := (75, [(0, (1, 0)), (1, (0, a))], [(0, 0), (0, 0), (0, a), (0, 11), (1, 0)], w)) 5 rfl ?_
                  obtain ⟨OP, OD, CL, S, hK⟩ := hB (by omega)
                  refine e_Ok.callV rfl (by omega) rfl rfl rfl rfl (c_255 (by omega) hT hK (by omega) (by omega) (by omega) (by omega) (by omega) (by decide) (rwC.k11 ⟨by omega, by omega, by omega, by omega, by omega⟩) (fun g => absurd g (by decide))) (fun r20 w21 h22 => ?_)
                  obtain ⟨z23, rfl, q24T, q24x⟩ := h22
                  show e_Ok 20 elay kcode eI (d + 1) 224 (78, [(0, (1, 0)), (1, (0, a))], [(0, z23)], w21) _
                  refine e_Ok.rets rfl rfl ?_
                  exact ⟨_, rfl, q24T, q24x⟩
                · replace h19 : (w 74 3 : Int) = 0 := by have q : ¬ ((w 74 3 : Int) ≠ 0) := h19; omega
                  refine e_Ok.run (t' := (68, [(0, (1, 0)), (1, (0, a))], [(0, (-2))], w)) 1 rfl ?_
                  refine e_Ok.rets rfl rfl ?_
                  exact ⟨_, rfl, hT, Or.inl rfl⟩
            · replace h15 : (w (17 * a + 86) 11 : Int) ≠ 0 := by have q : ¬ ((w (17 * a + 86) 11 : Int) = 0) := h15; omega
              refine e_Ok.run (t' := (43, [(0, (1, 0)), (1, (0, a))], [(0, (-2))], w)) 1 rfl ?_
              refine e_Ok.rets rfl rfl ?_
              exact ⟨_, rfl, hT, Or.inl rfl⟩
        · show e_Ok 20 elay kcode eI (d + 1) 224 (26, [(0, (1, 0)), (1, (0, a))], [(0, 0)], w) _
          refine e_Ok.if1 rfl (fun h25 => ?_) (fun h25 => ?_)
          · replace h25 : (0 : Int) = 0 := h25
            refine e_Ok.run (t' := (43, [(0, (1, 0)), (1, (0, a))], [(0, (-2))], w)) 1 rfl ?_
            refine e_Ok.rets rfl rfl ?_
            exact ⟨_, rfl, hT, Or.inl rfl⟩
          · replace h25 : (0 : Int) ≠ 0 := by have q : ¬ ((0 : Int) = 0) := h25; omega
            exfalso; omega
    · replace h6 : (1 : Int) = 0 := by have q : ¬ ((1 : Int) ≠ 0) := h6; omega
      exfalso; omega
  · show e_Ok 20 elay kcode eI (d + 1) 224 (5, [(0, (1, 0)), (1, (0, a))], [(0, 0)], w) _
    refine e_Ok.if1 rfl (fun h26 => ?_) (fun h26 => ?_)
    · replace h26 : (0 : Int) ≠ 0 := h26
      exfalso; omega
    · replace h26 : (0 : Int) = 0 := by have q : ¬ ((0 : Int) ≠ 0) := h26; omega
      refine e_Ok.run (t' := (9, [(0, (1, 0)), (1, (0, a))], [(0, (-1))], w)) 1 rfl ?_
      refine e_Ok.rets rfl rfl ?_
      exact ⟨_, rfl, hT, Or.inl rfl⟩
end
