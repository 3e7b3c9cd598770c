noncomputable section
/-! what a macro jumps over: contracts over the table without macros, few frames -/
set_option maxHeartbeats 4000000 in
theorem b_88_n {d : Nat} {w : eW} (h0 : kM1 w) {n : Int} (gn : 0 ≤ n ∧ n ≤ 4) : e_Ok 1 elay code1 eI d 88 (0, [(0, (1, 19)), (1, (1, 9)), (2, (0, n))], [], w) (fun r w' => ∃ z : Int, r = [(0, z)] ∧ w = w' ∧ (0 ≤ z ∧ z ≤ 32)) := by
  obtain ⟨hT, h1, h2⟩ := h0
  have hb0 := e_Has.get hT (c := 19) (k := 0) (lo := 0) (hi := 4) rfl (by decide)
  have hp0 := e_Has.get hT (c := 19) (k := 1) (lo := 0) (hi := 32) rfl (by decide)
  refine e_Ok.run (t' := (8, [(5, (0, 0)), (4, (0, 0)), (3, (0, 0)), (0, (1, 19)), (1, (1, 9)), (2, (0, n))], [], w)) 6 rfl ?_
  have hL1 : ∀ (nn : Nat) (y3 : Int) (y4 : Int) (y5 : Int), ((-2147483648 ≤ y3 ∧ y3 ≤ 2147483647)) ∧ ((-2147483648 ≤ y4 ∧ y4 ≤ 2147483647)) ∧ ((0 ≤ y5 ∧ y5 ≤ 4)) → 5 - y5 < nn → e_Ok 1 elay code1 eI d 88 (8, [(0, (1, 19)), (1, (1, 9)), (2, (0, n)), (3, (0, y3)), (4, (0, y4)), (5, (0, y5))], [], w) (fun r w' => ∃ z : Int, r = [(0, z)] ∧ w = w' ∧ (0 ≤ z ∧ z ≤ 32)) := by
    intro nn
    induction nn with
    | zero => intro y3 y4 y5 hj hm; obtain ⟨j3, j4, j5⟩ := hj; exfalso; omega
    | succ nn ih2 =>
      intro y3 y4 y5 hj hm
      obtain ⟨j3, j4, j5⟩ := hj
      refine e_Ok.run (t' := (11, [(0, (1, 19)), (1, (1, 9)), (2, (0, n)), (3, (0, y3)), (4, (0, y4)), (5, (0, y5))], [(1, 19), (0, y5)], w)) 2 rfl ?_
      have h6 := (e_Has.get hT (c := 19) (k := 0) (lo := 0) (hi := 4) rfl (by decide))
      refine e_Ok.getf (z := w 19 0) rfl (el_o rfl) rfl rfl rfl (by omega) ?_
      refine e_Ok.if2 rfl (fun h7 => ?_) (fun h7 => ?_)
      · replace h7 : (y5 : Int) ≥ w 19 0 := h7
        refine e_Ok.run (t' := (81, [(5, (0, 0)), (0, (1, 19)), (1, (1, 9)), (2, (0, n)), (3, (0, y3)), (4, (0, y4))], [], w)) 2 rfl ?_
        have hL8 : ∀ (nn : Nat) (u3 : Int) (u4 : Int) (u5 : Int), ((-2147483648 ≤ u3 ∧ u3 ≤ 2147483647)) ∧ ((-2147483648 ≤ u4 ∧ u4 ≤ 2147483647)) ∧ ((0 ≤ u5 ∧ u5 ≤ 4)) → 5 - u5 < nn → e_Ok 1 elay code1 eI d 88 (81, [(0, (1, 19)), (1, (1, 9)), (2, (0, n)), (3, (0, u3)), (4, (0, u4)), (5, (0, u5))], [], w) (fun r w' => ∃ z : Int, r = [(0, z)] ∧ w = w' ∧ (0 ≤ z ∧ z ≤ 32)) := by
          intro nn
          induction nn with
          | zero => intro u3 u4 u5 hj hm; obtain ⟨j10, j11, j12⟩ := hj; exfalso; omega
          | succ nn ih9 =>
            intro u3 u4 u5 hj hm
            obtain ⟨j10, j11, j12⟩ := hj
            refine e_Ok.run (t' := (84, [(0, (1, 19)), (1, (1, 9)), (2, (0, n)), (3, (0, u3)), (4, (0, u4)), (5, (0, u5))], [(0, n), (0, u5)], w)) 2 rfl ?_
            refine e_Ok.if2 rfl (fun h13 => ?_) (fun h13 => ?_)
            · replace h13 : (u5 : Int) ≥ n := h13
              refine e_Ok.run (t' := (138, [(6, (0, 0)), (5, (0, 0)), (0, (1, 19)), (1, (1, 9)), (2, (0, n)), (3, (0, u3)), (4, (0, u4))], [], w)) 4 rfl ?_
              have hL14 : ∀ (nn : Nat) (t5 : Int) (t6 : Int), (0 ≤ t5 ∧ t5 ≤ t6 ∧ t6 ≤ 32) → 33 - t6 < nn → e_Ok 1 elay code1 eI d 88 (138, [(0, (1, 19)), (1, (1, 9)), (2, (0, n)), (3, (0, u3)), (4, (0, u4)), (5, (0, t5)), (6, (0, t6))], [], w) (fun r w' => ∃ z : Int, r = [(0, z)] ∧ w = w' ∧ (0 ≤ z ∧ z ≤ 32)) := by
                intro nn
                induction nn with
                | zero => intro t5 t6 hj hm; obtain j16 := hj; exfalso; omega
                | succ nn ih15 =>
                  intro t5 t6 hj hm
                  obtain j16 := hj
                  refine e_Ok.run (t' := (141, [(0, (1, 19)), (1, (1, 9)), (2, (0, n)), (3, (0, u3)), (4, (0, u4)), (5, (0, t5)), (6, (0, t6))], [(1, 19), (0, t6)], w)) 2 rfl ?_
                  have h17 := (e_Has.get hT (c := 19) (k := 1) (lo := 0) (hi := 32) rfl (by decide))
                  refine e_Ok.getf (z := w 19 1) rfl (el_o rfl) rfl rfl rfl (by omega) ?_
                  refine e_Ok.if2 rfl (fun h18 => ?_) (fun h18 => ?_)
                  · replace h18 : (t6 : Int) ≥ w 19 1 := h18
                    refine e_Ok.run (t' := (198, [(0, (1, 19)), (1, (1, 9)), (2, (0, n)), (3, (0, u3)), (4, (0, u4)), (5, (0, t5)), (6, (0, t6))], [(0, t5)], w)) 1 rfl ?_
                    refine e_Ok.rets rfl rfl ?_
                    exact ⟨_, rfl, rfl, by omega⟩
                  · replace h18 : (t6 : Int) < w 19 1 := by have q : ¬ ((t6 : Int) ≥ w 19 1) := h18; omega
                    have hb3 := h2 t6 (by omega) (by omega); unfold kn1 at hb3
                    refine e_Ok.run (t' := (150, [(0, (1, 19)), (1, (1, 9)), (2, (0, n)), (3, (0, u3)), (4, (0, u4)), (5, (0, t5)), (6, (0, t6))], [(0, t6), (0, u3)], w)) 2 rfl ?_
                    refine e_Ok.any rfl (eB_any _ _) (fun z19 z19a z19b => ?_)
                    refine e_Ok.run (t' := (152, [(0, (1, 19)), (1, (1, 9)), (2, (0, n)), (3, (0, u3)), (4, (0, u4)), (5, (0, t5)), (6, (0, t6))], [(0, 1), (0, z19)], w)) 1 rfl ?_
                    refine e_Ok.andm 1 1 rfl (by decide) (fun z20 hz20 => ?_)
                    replace hz20 : 0 ≤ z20 ∧ z20 ≤ 1 := by omega
                    refine e_Ok.run (t' := (157, [(0, (1, 19)), (1, (1, 9)), (2, (0, n)), (3, (0, u3)), (4, (0, u4)), (5, (0, t5)), (6, (0, t6))], [(0, t6), (0, u4), (0, z20)], w)) 2 rfl ?_
                    refine e_Ok.any rfl (eB_any _ _) (fun z21 z21a z21b => ?_)
                    refine e_Ok.run (t' := (159, [(0, (1, 19)), (1, (1, 9)), (2, (0, n)), (3, (0, u3)), (4, (0, u4)), (5, (0, t5)), (6, (0, t6))], [(0, 1), (0, z21), (0, z20)], w)) 1 rfl ?_
                    refine e_Ok.andm 1 1 rfl (by decide) (fun z22 hz22 => ?_)
                    replace hz22 : 0 ≤ z22 ∧ z22 ≤ 1 := by omega
                    refine e_Ok.add (z := z20 + z22) rfl (by omega) (by omega) ?_
                    refine e_Ok.run (t' := (162, [(0, (1, 19)), (1, (1, 9)), (2, (0, n)), (3, (0, u3)), (4, (0, u4)), (5, (0, t5)), (6, (0, t6))], [(1, 19), (0, z20 + z22)], w)) 1 rfl ?_
                    refine e_Ok.getr (z := 36) rfl (el_o rfl) rfl rfl (Eq.trans (e_Has.eq hT rfl) (by omega)) (by omega) ?_
                    refine e_Ok.run (t' := (167, [(0, (1, 19)), (1, (1, 9)), (2, (0, n)), (3, (0, u3)), (4, (0, u4)), (5, (0, t5)), (6, (0, t6))], [(0, t6), (1, 36), (0, z20 + z22)], w)) 1 rfl ?_
                    refine e_Ok.ald (z := w 36 t6) rfl (el_o rfl) rfl (by omega) rfl (by omega) ?_
                    refine e_Ok.run (t' := (170, [(0, (1, 19)), (1, (1, 9)), (2, (0, n)), (3, (0, u3)), (4, (0, u4)), (5, (0, t5)), (6, (0, t6))], [(0, 8), (0, w 36 t6), (0, z20 + z22)], w)) 1 rfl ?_
                    refine e_Ok.if2 rfl (fun h23 => ?_) (fun h23 => ?_)
                    · replace h23 : (w 36 t6 : Int) ≠ 8 := h23
                      refine e_Ok.run (t' := (178, [(0, (1, 19)), (1, (1, 9)), (2, (0, n)), (3, (0, u3)), (4, (0, u4)), (5, (0, t5)), (6, (0, t6))], [(0, 0), (0, z20 + z22)], w)) 1 rfl ?_
                      refine e_Ok.add (z := z20 + z22) rfl (by omega) (by omega) ?_
                      refine e_Ok.run (t' := (184, [(7, (0, z20 + z22)), (0, (1, 19)), (1, (1, 9)), (2, (0, n)), (3, (0, u3)), (4, (0, u4)), (5, (0, t5)), (6, (0, t6))], [(0, 1), (0, z20 + z22)], w)) 3 rfl ?_
                      refine e_Ok.if2 rfl (fun h24 => ?_) (fun h24 => ?_)
                      · replace h24 : (z20 + z22 : Int) = 1 := h24
                        refine e_Ok.inc (z := t6 + 1) rfl rfl (by omega) (by omega) ?_
                        show e_Ok 1 elay code1 eI d 88 (193, [(6, (0, t6 + 1)), (7, (0, z20 + z22)), (0, (1, 19)), (1, (1, 9)), (2, (0, n)), (3, (0, u3)), (4, (0, u4)), (5, (0, t5))], [], w) _
                        refine e_Ok.run (t' := (138, [(6, (0, t6 + 1)), (7, (0, z20 + z22)), (0, (1, 19)), (1, (1, 9)), (2, (0, n)), (3, (0, u3)), (4, (0, u4)), (5, (0, t5))], [], w)) 1 rfl ?_
                        refine e_Ok.sub c1lk (e_sub_of rfl ?_) (ih15 t5 (t6 + 1) ((by omega)) (by omega))
                        exact ⟨rfl, rfl, rfl, rfl, rfl, rfl, rfl, trivial⟩
                      · replace h24 : (z20 + z22 : Int) ≠ 1 := by have q : ¬ ((z20 + z22 : Int) = 1) := h24; omega
                        refine e_Ok.inc (z := t5 + 1) rfl rfl (by omega) (by omega) ?_
                        show e_Ok 1 elay code1 eI d 88 (190, [(5, (0, t5 + 1)), (7, (0, z20 + z22)), (0, (1, 19)), (1, (1, 9)), (2, (0, n)), (3, (0, u3)), (4, (0, u4)), (6, (0, t6))], [], w) _
                        refine e_Ok.inc (z := t6 + 1) rfl rfl (by omega) (by omega) ?_
                        show e_Ok 1 elay code1 eI d 88 (193, [(6, (0, t6 + 1)), (5, (0, t5 + 1)), (7, (0, z20 + z22)), (0, (1, 19)), (1, (1, 9)), (2, (0, n)), (3, (0, u3)), (4, (0, u4))], [], w) _
                        refine e_Ok.run (t' := (138, [(6, (0, t6 + 1)), (5, (0, t5 + 1)), (7, (0, z20 + z22)), (0, (1, 19)), (1, (1, 9)), (2, (0, n)), (3, (0, u3)), (4, (0, u4))], [], w)) 1 rfl ?_
                        refine e_Ok.sub c1lk (e_sub_of rfl ?_) (ih15 (t5 + 1) (t6 + 1) ((by omega)) (by omega))
                        exact ⟨rfl, rfl, rfl, rfl, rfl, rfl, rfl, trivial⟩
                    · replace h23 : (w 36 t6 : Int) = 8 := by have q : ¬ ((w 36 t6 : Int) ≠ 8) := h23; omega
                      refine e_Ok.run (t' := (178, [(0, (1, 19)), (1, (1, 9)), (2, (0, n)), (3, (0, u3)), (4, (0, u4)), (5, (0, t5)), (6, (0, t6))], [(0, 1), (0, z20 + z22)], w)) 2 rfl ?_
                      refine e_Ok.add (z := z20 + z22 + 1) rfl (by omega) (by omega) ?_
                      refine e_Ok.run (t' := (184, [(7, (0, z20 + z22 + 1)), (0, (1, 19)), (1, (1, 9)), (2, (0, n)), (3, (0, u3)), (4, (0, u4)), (5, (0, t5)), (6, (0, t6))], [(0, 1), (0, z20 + z22 + 1)], w)) 3 rfl ?_
                      refine e_Ok.if2 rfl (fun h25 => ?_) (fun h25 => ?_)
                      · replace h25 : (z20 + z22 + 1 : Int) = 1 := h25
                        refine e_Ok.inc (z := t6 + 1) rfl rfl (by omega) (by omega) ?_
                        show e_Ok 1 elay code1 eI d 88 (193, [(6, (0, t6 + 1)), (7, (0, z20 + z22 + 1)), (0, (1, 19)), (1, (1, 9)), (2, (0, n)), (3, (0, u3)), (4, (0, u4)), (5, (0, t5))], [], w) _
                        refine e_Ok.run (t' := (138, [(6, (0, t6 + 1)), (7, (0, z20 + z22 + 1)), (0, (1, 19)), (1, (1, 9)), (2, (0, n)), (3, (0, u3)), (4, (0, u4)), (5, (0, t5))], [], w)) 1 rfl ?_
                        refine e_Ok.sub c1lk (e_sub_of rfl ?_) (ih15 t5 (t6 + 1) ((by omega)) (by omega))
                        exact ⟨rfl, rfl, rfl, rfl, rfl, rfl, rfl, trivial⟩
                      · replace h25 : (z20 + z22 + 1 : Int) ≠ 1 := by have q : ¬ ((z20 + z22 + 1 : Int) = 1) := h25; omega
                        refine e_Ok.inc (z := t5 + 1) rfl rfl (by omega) (by omega) ?_
                        show e_Ok 1 elay code1 eI d 88 (190, [(5, (0, t5 + 1)), (7, (0, z20 + z22 + 1)), (0, (1, 19)), (1, (1, 9)), (2, (0, n)), (3, (0, u3)), (4, (0, u4)), (6, (0, t6))], [], w) _
                        refine e_Ok.inc (z := t6 + 1) rfl rfl (by omega) (by omega) ?_
                        show e_Ok 1 elay code1 eI d 88 (193, [(6, (0, t6 + 1)), (5, (0, t5 + 1)), (7, (0, z20 + z22 + 1)), (0, (1, 19)), (1, (1, 9)), (2, (0, n)), (3, (0, u3)), (4, (0, u4))], [], w) _
                        refine e_Ok.run (t' := (138, [(6, (0, t6 + 1)), (5, (0, t5 + 1)), (7, (0, z20 + z22 + 1)), (0, (1, 19)), (1, (1, 9)), (2, (0, n)), (3, (0, u3)), (4, (0, u4))], [], w)) 1 rfl ?_
                        refine e_Ok.sub c1lk (e_sub_of rfl ?_) (ih15 (t5 + 1) (t6 + 1) ((by omega)) (by omega))
                        exact ⟨rfl, rfl, rfl, rfl, rfl, rfl, rfl, trivial⟩
              refine e_Ok.sub c1lk (e_sub_of rfl ?_) (hL14 (33 + 1 : Int).toNat 0 0 ((by omega)) (by omega))
              exact ⟨rfl, rfl, rfl, rfl, rfl, rfl, rfl, trivial⟩
            · replace h13 : (u5 : Int) < n := by have q : ¬ ((u5 : Int) ≥ n) := h13; omega
              refine e_Ok.run (t' := (90, [(0, (1, 19)), (1, (1, 9)), (2, (0, n)), (3, (0, u3)), (4, (0, u4)), (5, (0, u5))], [(0, u5), (1, 9)], w)) 2 rfl ?_
              refine e_Ok.aald (z := 17 * u5 + 86) rfl (el_o rfl) rfl (by omega) (Eq.trans (e_Has.eq hT (k9 (by omega))) (by omega)) (by omega) ?_
              have h26 := (e_Has.get hT (c := 17 * u5 + 86) (k := 14) (lo := (-1)) (hi := 31) (kA_14 (a := u5) (by omega) (by omega)) (by decide))
              refine e_Ok.getf (z := w (17 * u5 + 86) 14) rfl (lA0 (a := u5) (by omega) (by omega)) rfl rfl rfl (by omega) ?_
              refine e_Ok.if1 rfl (fun h27 => ?_) (fun h27 => ?_)
              · replace h27 : (w (17 * u5 + 86) 14 : Int) ≥ 0 := h27
                refine e_Ok.run (t' := (105, [(0, (1, 19)), (1, (1, 9)), (2, (0, n)), (3, (0, u3)), (4, (0, u4)), (5, (0, u5))], [(0, u5), (1, 9), (0, 1)], w)) 3 rfl ?_
                refine e_Ok.aald (z := 17 * u5 + 86) rfl (el_o rfl) rfl (by omega) (Eq.trans (e_Has.eq hT (k9 (by omega))) (by omega)) (by omega) ?_
                refine e_Ok.getf (z := w (17 * u5 + 86) 14) rfl (lA0 (a := u5) (by omega) (by omega)) rfl rfl rfl (by omega) ?_
                refine e_Ok.any rfl (eB_any _ _) (fun z28 z28a z28b => ?_)
                refine e_Ok.run (t' := (117, [(6, (0, z28)), (0, (1, 19)), (1, (1, 9)), (2, (0, n)), (3, (0, u3)), (4, (0, u4)), (5, (0, u5))], [(0, z28), (0, u3), (0, u4)], w)) 4 rfl ?_
                refine e_Ok.any rfl (eB_any _ _) (fun z29 z29a z29b => ?_)
                refine e_Ok.any rfl (eB_any _ _) (fun z30 z30a z30b => ?_)
                refine e_Ok.run (t' := (124, [(4, (0, z30)), (6, (0, z28)), (0, (1, 19)), (1, (1, 9)), (2, (0, n)), (3, (0, u3)), (5, (0, u5))], [(0, z28), (0, u3)], w)) 3 rfl ?_
                refine e_Ok.any rfl (eB_any _ _) (fun z31 z31a z31b => ?_)
                refine e_Ok.run (t' := (126, [(3, (0, z31)), (4, (0, z30)), (6, (0, z28)), (0, (1, 19)), (1, (1, 9)), (2, (0, n)), (5, (0, u5))], [], w)) 1 rfl ?_
                refine e_Ok.inc (z := u5 + 1) rfl rfl (by omega) (by omega) ?_
                show e_Ok 1 elay code1 eI d 88 (129, [(5, (0, u5 + 1)), (3, (0, z31)), (4, (0, z30)), (6, (0, z28)), (0, (1, 19)), (1, (1, 9)), (2, (0, n))], [], w) _
                refine e_Ok.run (t' := (81, [(5, (0, u5 + 1)), (3, (0, z31)), (4, (0, z30)), (6, (0, z28)), (0, (1, 19)), (1, (1, 9)), (2, (0, n))], [], w)) 1 rfl ?_
                refine e_Ok.sub c1lk (e_sub_of rfl ?_) (ih9 z31 z30 (u5 + 1) ⟨(by omega), (by omega), (by omega)⟩ (by omega))
                exact ⟨rfl, rfl, rfl, rfl, rfl, rfl, trivial⟩
              · replace h27 : (w (17 * u5 + 86) 14 : Int) < 0 := by have q : ¬ ((w (17 * u5 + 86) 14 : Int) ≥ 0) := h27; omega
                refine e_Ok.run (t' := (117, [(6, (0, 0)), (0, (1, 19)), (1, (1, 9)), (2, (0, n)), (3, (0, u3)), (4, (0, u4)), (5, (0, u5))], [(0, 0), (0, u3), (0, u4)], w)) 6 rfl ?_
                refine e_Ok.andm 0 0 rfl (by decide) (fun z32 hz32 => ?_)
                replace hz32 : 0 ≤ z32 ∧ z32 ≤ 0 := by omega
                refine e_Ok.any rfl (eB_any _ _) (fun z33 z33a z33b => ?_)
                refine e_Ok.run (t' := (124, [(4, (0, z33)), (6, (0, 0)), (0, (1, 19)), (1, (1, 9)), (2, (0, n)), (3, (0, u3)), (5, (0, u5))], [(0, 0), (0, u3)], w)) 3 rfl ?_
                refine e_Ok.any rfl (eB_any _ _) (fun z34 z34a z34b => ?_)
                refine e_Ok.run (t' := (126, [(3, (0, z34)), (4, (0, z33)), (6, (0, 0)), (0, (1, 19)), (1, (1, 9)), (2, (0, n)), (5, (0, u5))], [], w)) 1 rfl ?_
                refine e_Ok.inc (z := u5 + 1) rfl rfl (by omega) (by omega) ?_
                show e_Ok 1 elay code1 eI d 88 (129, [(5, (0, u5 + 1)), (3, (0, z34)), (4, (0, z33)), (6, (0, 0)), (0, (1, 19)), (1, (1, 9)), (2, (0, n))], [], w) _
                refine e_Ok.run (t' := (81, [(5, (0, u5 + 1)), (3, (0, z34)), (4, (0, z33)), (6, (0, 0)), (0, (1, 19)), (1, (1, 9)), (2, (0, n))], [], w)) 1 rfl ?_
                refine e_Ok.sub c1lk (e_sub_of rfl ?_) (ih9 z34 z33 (u5 + 1) ⟨(by omega), (by omega), (by omega)⟩ (by omega))
                exact ⟨rfl, rfl, rfl, rfl, rfl, rfl, trivial⟩
        refine e_Ok.sub c1lk (e_sub_of rfl ?_) (hL8 (5 + 1 : Int).toNat y3 y4 0 ⟨(by omega), (by omega), (by omega)⟩ (by omega))
        exact ⟨rfl, rfl, rfl, rfl, rfl, rfl, trivial⟩
      · replace h7 : (y5 : Int) < w 19 0 := by have q : ¬ ((y5 : Int) ≥ w 19 0) := h7; omega
        have hb1 := h1 y5 (by omega) (by omega)
        refine e_Ok.run (t' := (20, [(6, (0, 0)), (0, (1, 19)), (1, (1, 9)), (2, (0, n)), (3, (0, y3)), (4, (0, y4)), (5, (0, y5))], [], w)) 2 rfl ?_
        have hL35 : ∀ (nn : Nat) (x3 : Int) (x4 : Int) (y6 : Int), ((-2147483648 ≤ x3 ∧ x3 ≤ 2147483647)) ∧ ((-2147483648 ≤ x4 ∧ x4 ≤ 2147483647)) ∧ ((0 ≤ y6 ∧ y6 ≤ 32)) → 33 - y6 < nn → e_Ok 1 elay code1 eI d 88 (20, [(0, (1, 19)), (1, (1, 9)), (2, (0, n)), (3, (0, x3)), (4, (0, x4)), (5, (0, y5)), (6, (0, y6))], [], w) (fun r w' => ∃ z : Int, r = [(0, z)] ∧ w = w' ∧ (0 ≤ z ∧ z ≤ 32)) := by
          intro nn
          induction nn with
          | zero => intro x3 x4 y6 hj hm; obtain ⟨j37, j38, j40⟩ := hj; exfalso; omega
          | succ nn ih36 =>
            intro x3 x4 y6 hj hm
            obtain ⟨j37, j38, j40⟩ := hj
            refine e_Ok.run (t' := (23, [(0, (1, 19)), (1, (1, 9)), (2, (0, n)), (3, (0, x3)), (4, (0, x4)), (5, (0, y5)), (6, (0, y6))], [(1, 19), (0, y6)], w)) 2 rfl ?_
            refine e_Ok.getr (z := 35) rfl (el_o rfl) rfl rfl (Eq.trans (e_Has.eq hT rfl) (by omega)) (by omega) ?_
            refine e_Ok.run (t' := (28, [(0, (1, 19)), (1, (1, 9)), (2, (0, n)), (3, (0, x3)), (4, (0, x4)), (5, (0, y5)), (6, (0, y6))], [(0, y5), (1, 35), (0, y6)], w)) 1 rfl ?_
            refine e_Ok.ald (z := w 35 y5) rfl (el_o rfl) rfl (by omega) rfl (by omega) ?_
            refine e_Ok.if2 rfl (fun h41 => ?_) (fun h41 => ?_)
            · replace h41 : (y6 : Int) ≥ w 35 y5 := h41
              refine e_Ok.inc (z := y5 + 1) rfl rfl (by omega) (by omega) ?_
              show e_Ok 1 elay code1 eI d 88 (75, [(5, (0, y5 + 1)), (0, (1, 19)), (1, (1, 9)), (2, (0, n)), (3, (0, x3)), (4, (0, x4)), (6, (0, y6))], [], w) _
              refine e_Ok.run (t' := (8, [(5, (0, y5 + 1)), (0, (1, 19)), (1, (1, 9)), (2, (0, n)), (3, (0, x3)), (4, (0, x4)), (6, (0, y6))], [], w)) 1 rfl ?_
              refine e_Ok.sub c1lk (e_sub_of rfl ?_) (ih2 x3 x4 (y5 + 1) ⟨(by omega), (by omega), (by omega)⟩ (by omega))
              exact ⟨rfl, rfl, rfl, rfl, rfl, rfl, trivial⟩
            · replace h41 : (y6 : Int) < w 35 y5 := by have q : ¬ ((y6 : Int) ≥ w 35 y5) := h41; omega
              have hb2 := hb1.2 y6 (by omega) (by omega); unfold kn1 at hb2
              refine e_Ok.run (t' := (37, [(0, (1, 19)), (1, (1, 9)), (2, (0, n)), (3, (0, x3)), (4, (0, x4)), (5, (0, y5)), (6, (0, y6))], [(1, 19), (0, 1), (0, x3), (0, x4)], w)) 4 rfl ?_
              refine e_Ok.getr (z := 30) rfl (el_o rfl) rfl rfl (Eq.trans (e_Has.eq hT rfl) (by omega)) (by omega) ?_
              refine e_Ok.run (t' := (42, [(0, (1, 19)), (1, (1, 9)), (2, (0, n)), (3, (0, x3)), (4, (0, x4)), (5, (0, y5)), (6, (0, y6))], [(0, y5), (1, 30), (0, 1), (0, x3), (0, x4)], w)) 1 rfl ?_
              refine e_Ok.aald (z := y5 + 31) rfl (el_o rfl) rfl (by omega) (Eq.trans (e_Has.eq hT (k30 (by omega))) (by omega)) (by omega) ?_
              refine e_Ok.run (t' := (45, [(0, (1, 19)), (1, (1, 9)), (2, (0, n)), (3, (0, x3)), (4, (0, x4)), (5, (0, y5)), (6, (0, y6))], [(0, y6), (1, y5 + 31), (0, 1), (0, x3), (0, x4)], w)) 1 rfl ?_
              refine e_Ok.ald (z := w (y5 + 31) y6) rfl (lO (b := y5) (by omega) (by omega)) rfl (by omega) rfl (by omega) ?_
              refine e_Ok.any rfl (eB_any _ _) (fun z42 z42a z42b => ?_)
              refine e_Ok.any rfl (eB_any _ _) (fun z43 z43a z43b => ?_)
              refine e_Ok.any rfl (eB_any _ _) (fun z44 z44a z44b => ?_)
              refine e_Ok.run (t' := (54, [(4, (0, z44)), (0, (1, 19)), (1, (1, 9)), (2, (0, n)), (3, (0, x3)), (5, (0, y5)), (6, (0, y6))], [(1, 19), (0, 1), (0, x3)], w)) 4 rfl ?_
              refine e_Ok.getr (z := 30) rfl (el_o rfl) rfl rfl (Eq.trans (e_Has.eq hT rfl) (by omega)) (by omega) ?_
              refine e_Ok.run (t' := (59, [(4, (0, z44)), (0, (1, 19)), (1, (1, 9)), (2, (0, n)), (3, (0, x3)), (5, (0, y5)), (6, (0, y6))], [(0, y5), (1, 30), (0, 1), (0, x3)], w)) 1 rfl ?_
              refine e_Ok.aald (z := y5 + 31) rfl (el_o rfl) rfl (by omega) (Eq.trans (e_Has.eq hT (k30 (by omega))) (by omega)) (by omega) ?_
              refine e_Ok.run (t' := (62, [(4, (0, z44)), (0, (1, 19)), (1, (1, 9)), (2, (0, n)), (3, (0, x3)), (5, (0, y5)), (6, (0, y6))], [(0, y6), (1, y5 + 31), (0, 1), (0, x3)], w)) 1 rfl ?_
              refine e_Ok.ald (z := w (y5 + 31) y6) rfl (lO (b := y5) (by omega) (by omega)) rfl (by omega) rfl (by omega) ?_
              refine e_Ok.any rfl (eB_any _ _) (fun z45 z45a z45b => ?_)
              refine e_Ok.any rfl (eB_any _ _) (fun z46 z46a z46b => ?_)
              refine e_Ok.run (t' := (66, [(3, (0, z46)), (4, (0, z44)), (0, (1, 19)), (1, (1, 9)), (2, (0, n)), (5, (0, y5)), (6, (0, y6))], [], w)) 1 rfl ?_
              refine e_Ok.inc (z := y6 + 1) rfl rfl (by omega) (by omega) ?_
              show e_Ok 1 elay code1 eI d 88 (69, [(6, (0, y6 + 1)), (3, (0, z46)), (4, (0, z44)), (0, (1, 19)), (1, (1, 9)), (2, (0, n)), (5, (0, y5))], [], w) _
              refine e_Ok.run (t' := (20, [(6, (0, y6 + 1)), (3, (0, z46)), (4, (0, z44)), (0, (1, 19)), (1, (1, 9)), (2, (0, n)), (5, (0, y5))], [], w)) 1 rfl ?_
              refine e_Ok.sub c1lk (e_sub_of rfl ?_) (ih36 z46 z44 (y6 + 1) ⟨(by omega), (by omega), (by omega)⟩ (by omega))
              exact ⟨rfl, rfl, rfl, rfl, rfl, rfl, rfl, trivial⟩
        refine e_Ok.sub c1lk (e_sub_of rfl ?_) (hL35 (33 + 1 : Int).toNat y3 y4 0 ⟨(by omega), (by omega), (by omega)⟩ (by omega))
        exact ⟨rfl, rfl, rfl, rfl, rfl, rfl, rfl, trivial⟩
  refine e_Ok.sub c1lk (e_sub_of rfl ?_) (hL1 (5 + 1 : Int).toNat 0 0 0 ⟨(by omega), (by omega), (by omega)⟩ (by omega))
  exact ⟨rfl, rfl, rfl, rfl, rfl, rfl, trivial⟩
theorem b_242 {d : Nat} {w : eW} {v lo hi : Int} (g1 : -2147483648 ≤ v ∧ v ≤ 2147483647) (g2 : -2147483648 ≤ lo ∧ lo ≤ 2147483647) (g3 : -2147483648 ≤ hi ∧ hi ≤ 2147483647) : e_Ok 1 elay code1 eI d 242 (0, [(0, (0, v)), (1, (0, lo)), (2, (0, hi))], [], w) (fun r w' => ∃ z : Int, r = [(0, z)] ∧ w = w' ∧ ((z = 1 ∧ lo ≤ v ∧ v ≤ hi) ∨ (z = 0 ∧ (v < lo ∨ hi < v)))) := by
  refine e_Ok.run (t' := (2, [(0, (0, v)), (1, (0, lo)), (2, (0, hi))], [(0, v), (0, lo)], w)) 2 rfl ?_
  refine e_Ok.if2 rfl (fun h1 => ?_) (fun h1 => ?_)
  · replace h1 : (lo : Int) > v := h1
    refine e_Ok.run (t' := (15, [(0, (0, v)), (1, (0, lo)), (2, (0, hi))], [(0, 0)], w)) 1 rfl ?_
    refine e_Ok.rets rfl rfl ?_
    exact ⟨_, rfl, rfl, Or.inr ⟨rfl, by omega⟩⟩
  · replace h1 : (lo : Int) ≤ v := by have q : ¬ ((lo : Int) > v) := h1; omega
    refine e_Ok.run (t' := (7, [(0, (0, v)), (1, (0, lo)), (2, (0, hi))], [(0, hi), (0, v)], w)) 2 rfl ?_
    refine e_Ok.if2 rfl (fun h2 => ?_) (fun h2 => ?_)
    · replace h2 : (v : Int) > hi := h2
      refine e_Ok.run (t' := (15, [(0, (0, v)), (1, (0, lo)), (2, (0, hi))], [(0, 0)], w)) 1 rfl ?_
      refine e_Ok.rets rfl rfl ?_
      exact ⟨_, rfl, rfl, Or.inr ⟨rfl, by omega⟩⟩
    · replace h2 : (v : Int) ≤ hi := by have q : ¬ ((v : Int) > hi) := h2; omega
      refine e_Ok.run (t' := (15, [(0, (0, v)), (1, (0, lo)), (2, (0, hi))], [(0, 1)], w)) 2 rfl ?_
      refine e_Ok.rets rfl rfl ?_
      exact ⟨_, rfl, rfl, Or.inl ⟨rfl, by omega, by omega⟩⟩
theorem b_89_n {d : Nat} (hd : 2 ≤ d) {w : eW} (hT : e_Has kTy w) {a j : Int} (ga : 0 ≤ a ∧ a ≤ 3) (gj : 0 ≤ j ∧ j ≤ 5) {x : Int} (g_x : (-2147483648) ≤ x ∧ x ≤ 2147483647) : e_Ok 1 elay code1 eI d 89 (0, [(0, (1, 17 * a + j + 97)), (1, (0, x))], [], w) (fun r w' => ∃ z : Int, r = [(0, z)] ∧ w = w' ∧ (0 ≤ z ∧ z ≤ 1)) := by
  obtain ⟨d, rfl⟩ : ∃ e, d = e + 1 := ⟨d - 1, by omega⟩
  refine e_Ok.run (t' := (2, [(0, (1, 17 * a + j + 97)), (1, (0, x))], [(1, 17 * a + j + 97), (0, x)], w)) 2 rfl ?_
  have h1 := (e_Has.get hT (c := 17 * a + j + 97) (k := 1) (lo := (-2147483648)) (hi := 2147483647) (kJ_1 (a := a) (j := j) (by omega) (by omega) (by omega)) (by decide))
  refine e_Ok.getf (z := w (17 * a + j + 97) 1) rfl (lJ (a := a) (j := j) (by omega) (by omega) (by omega)) rfl rfl rfl (by omega) ?_
  refine e_Ok.run (t' := (6, [(0, (1, 17 * a + j + 97)), (1, (0, x))], [(1, 17 * a + j + 97), (0, w (17 * a + j + 97) 1), (0, x)], w)) 1 rfl ?_
  have h2 := (e_Has.get hT (c := 17 * a + j + 97) (k := 2) (lo := (-2147483648)) (hi := 2147483647) (kJ_2 (a := a) (j := j) (by omega) (by omega) (by omega)) (by decide))
  refine e_Ok.getf (z := w (17 * a + j + 97) 2) rfl (lJ (a := a) (j := j) (by omega) (by omega) (by omega)) rfl rfl rfl (by omega) ?_
  refine e_Ok.callS rfl (by omega) rfl rfl (b_242 (by omega) (by omega) (by omega)) (fun r3 w4 h5 => ?_)
  obtain ⟨z6, rfl, rfl, q7⟩ := h5
  obtain ⟨rfl, q7⟩ | ⟨rfl, q7⟩ := q7
  · show e_Ok 1 elay code1 eI (d + 1) 89 (12, [(0, (1, 17 * a + j + 97)), (1, (0, x))], [(0, 1)], w) _
    refine e_Ok.rets rfl rfl ?_
    exact ⟨_, rfl, rfl, by omega⟩
  · show e_Ok 1 elay code1 eI (d + 1) 89 (12, [(0, (1, 17 * a + j + 97)), (1, (0, x))], [(0, 0)], w) _
    refine e_Ok.rets rfl rfl ?_
    exact ⟨_, rfl, rfl, by omega⟩
theorem b_94_n {d : Nat} (hd : 3 ≤ d) {w : eW} (hT : e_Has kTy w) {a j : Int} (ga : 0 ≤ a ∧ a ≤ 3) (gj : 0 ≤ j ∧ j ≤ 5) {x : Int} (g_x : 0 ≤ x ∧ x ≤ 1) (hb : kn1 (w (17 * a + j + 97) 11)) : e_Ok 1 elay code1 eI d 94 (0, [(0, (1, 17 * a + j + 97)), (1, (0, x))], [], w) (fun r w' => ∃ z : Int, r = [(0, z)] ∧ w = w' ∧ (0 ≤ z ∧ z ≤ 1)) := by
  obtain ⟨d, rfl⟩ : ∃ e, d = e + 1 := ⟨d - 1, by omega⟩
  unfold kn1 at hb
  refine e_Ok.run (t' := (2, [(0, (1, 17 * a + j + 97)), (1, (0, x))], [(1, 17 * a + j + 97), (1, 17 * a + j + 97)], w)) 2 rfl ?_
  have h1 := (e_Has.get hT (c := 17 * a + j + 97) (k := 7) (lo := (-2147483648)) (hi := 2147483647) (kJ_7 (a := a) (j := j) (by omega) (by omega) (by omega)) (by decide))
  refine e_Ok.getf (z := w (17 * a + j + 97) 7) rfl (lJ (a := a) (j := j) (by omega) (by omega) (by omega)) rfl rfl rfl (by omega) ?_
  refine e_Ok.callV rfl (by omega) rfl (lJ (a := a) (j := j) (by omega) (by omega) (by omega)) rfl rfl (b_89_n (by omega) hT (by omega) (by omega) (by omega)) (fun r2 w3 h4 => ?_)
  obtain ⟨z5, rfl, rfl, q6⟩ := h4
  show e_Ok 1 elay code1 eI (d + 1) 94 (8, [(0, (1, 17 * a + j + 97)), (1, (0, x))], [(0, z5)], w) _
  refine e_Ok.if1 rfl (fun h7 => ?_) (fun h7 => ?_)
  · replace h7 : (z5 : Int) ≠ 0 := h7
    refine e_Ok.run (t' := (14, [(0, (1, 17 * a + j + 97)), (1, (0, x))], [(0, x)], w)) 1 rfl ?_
    refine e_Ok.if1 rfl (fun h8 => ?_) (fun h8 => ?_)
    · replace h8 : (x : Int) = 0 := h8
      refine e_Ok.run (t' := (55, [(0, (1, 17 * a + j + 97)), (1, (0, x))], [(0, 0)], w)) 1 rfl ?_
      refine e_Ok.rets rfl rfl ?_
      exact ⟨_, rfl, rfl, by omega⟩
    · replace h8 : (x : Int) ≠ 0 := by have q : ¬ ((x : Int) = 0) := h8; omega
      refine e_Ok.run (t' := (18, [(0, (1, 17 * a + j + 97)), (1, (0, x))], [(1, 17 * a + j + 97)], w)) 1 rfl ?_
      have h9 := (e_Has.get hT (c := 17 * a + j + 97) (k := 8) (lo := (-2000)) (hi := 2000) (kJ_8 (a := a) (j := j) (by omega) (by omega) (by omega)) (by decide))
      refine e_Ok.getf (z := w (17 * a + j + 97) 8) rfl (lJ (a := a) (j := j) (by omega) (by omega) (by omega)) rfl rfl rfl (by omega) ?_
      refine e_Ok.mabs rfl rfl (by omega) (fun z10 z10r hz10 => ?_)
      replace hz10 : (0 ≤ (w (17 * a + j + 97) 8) → z10 = w (17 * a + j + 97) 8) ∧ ((w (17 * a + j + 97) 8) < 0 → -2147483647 ≤ (w (17 * a + j + 97) 8) → z10 = -(w (17 * a + j + 97) 8)) := hz10
      refine e_Ok.run (t' := (25, [(0, (1, 17 * a + j + 97)), (1, (0, x))], [(1, 17 * a + j + 97), (0, z10)], w)) 1 rfl ?_
      have h11 := (e_Has.get hT (c := 17 * a + j + 97) (k := 5) (lo := (-2147483648)) (hi := 2147483647) (kJ_5 (a := a) (j := j) (by omega) (by omega) (by omega)) (by decide))
      refine e_Ok.getf (z := w (17 * a + j + 97) 5) rfl (lJ (a := a) (j := j) (by omega) (by omega) (by omega)) rfl rfl rfl (by omega) ?_
      refine e_Ok.if2 rfl (fun h12 => ?_) (fun h12 => ?_)
      · replace h12 : (z10 : Int) > w (17 * a + j + 97) 5 := h12
        refine e_Ok.run (t' := (55, [(0, (1, 17 * a + j + 97)), (1, (0, x))], [(0, 1)], w)) 2 rfl ?_
        refine e_Ok.rets rfl rfl ?_
        exact ⟨_, rfl, rfl, by omega⟩
      · replace h12 : (z10 : Int) ≤ w (17 * a + j + 97) 5 := by have q : ¬ ((z10 : Int) > w (17 * a + j + 97) 5) := h12; omega
        refine e_Ok.run (t' := (32, [(0, (1, 17 * a + j + 97)), (1, (0, x))], [(1, 17 * a + j + 97)], w)) 1 rfl ?_
        refine e_Ok.getf (z := w (17 * a + j + 97) 8) rfl (lJ (a := a) (j := j) (by omega) (by omega) (by omega)) rfl rfl rfl (by omega) ?_
        refine e_Ok.run (t' := (36, [(0, (1, 17 * a + j + 97)), (1, (0, x))], [(1, 17 * a + j + 97), (0, w (17 * a + j + 97) 8)], w)) 1 rfl ?_
        refine e_Ok.getf (z := w (17 * a + j + 97) 11) rfl (lJ (a := a) (j := j) (by omega) (by omega) (by omega)) rfl rfl rfl (by omega) ?_
        refine e_Ok.any rfl (eF_sub_any _ _) (fun z13 z13a z13b => ?_)
        refine e_Ok.mabs rfl rfl (by omega) (fun z14 z14r hz14 => ?_)
        replace hz14 : (0 ≤ z13 → z14 = z13) ∧ (z13 < 0 → -2147483647 ≤ z13 → z14 = -z13) := hz14
        refine e_Ok.run (t' := (44, [(0, (1, 17 * a + j + 97)), (1, (0, x))], [(1, 17 * a + j + 97), (0, z14)], w)) 1 rfl ?_
        have h15 := (e_Has.get hT (c := 17 * a + j + 97) (k := 6) (lo := (-2147483648)) (hi := 2147483647) (kJ_6 (a := a) (j := j) (by omega) (by omega) (by omega)) (by decide))
        refine e_Ok.getf (z := w (17 * a + j + 97) 6) rfl (lJ (a := a) (j := j) (by omega) (by omega) (by omega)) rfl rfl rfl (by omega) ?_
        refine e_Ok.if2 rfl (fun h16 => ?_) (fun h16 => ?_)
        · replace h16 : (z14 : Int) ≤ w (17 * a + j + 97) 6 := h16
          refine e_Ok.run (t' := (55, [(0, (1, 17 * a + j + 97)), (1, (0, x))], [(0, 0)], w)) 1 rfl ?_
          refine e_Ok.rets rfl rfl ?_
          exact ⟨_, rfl, rfl, by omega⟩
        · replace h16 : (z14 : Int) > w (17 * a + j + 97) 6 := by have q : ¬ ((z14 : Int) ≤ w (17 * a + j + 97) 6) := h16; omega
          refine e_Ok.run (t' := (55, [(0, (1, 17 * a + j + 97)), (1, (0, x))], [(0, 1)], w)) 2 rfl ?_
          refine e_Ok.rets rfl rfl ?_
          exact ⟨_, rfl, rfl, by omega⟩
  · replace h7 : (z5 : Int) = 0 := by have q : ¬ ((z5 : Int) ≠ 0) := h7; omega
    refine e_Ok.run (t' := (12, [(0, (1, 17 * a + j + 97)), (1, (0, x))], [(0, 1)], w)) 1 rfl ?_
    refine e_Ok.rets rfl rfl ?_
    exact ⟨_, rfl, rfl, by omega⟩
theorem b_19_n {d : Nat} (hd : 5 ≤ d) {w : eW} (hT : e_Has kTy w) {a : Int} (ga : 0 ≤ a ∧ a ≤ 3) {x : Int} (g_x : 0 ≤ x ∧ x ≤ 1) (hb : ∀ j, 0 ≤ j → j < w (17 * a + 86) 8 → kn1 (w (17 * a + j + 97) 11)) : e_Ok 1 elay code1 eI d 19 (0, [(0, (1, 17 * a + 86)), (1, (0, x))], [], w) (fun r w' => ∃ z : Int, r = [(0, z)] ∧ w = w' ∧ (0 ≤ z ∧ z ≤ 6)) := by
  obtain ⟨d, rfl⟩ : ∃ e, d = e + 1 := ⟨d - 1, by omega⟩
  have hjn := kn_joints hT (a := a) (by omega)
  refine e_Ok.run (t' := (4, [(3, (0, 0)), (2, (0, 0)), (0, (1, 17 * a + 86)), (1, (0, x))], [], w)) 4 rfl ?_
  have hL1 : ∀ (nn : Nat) (y2 : Int) (y3 : Int), (0 ≤ y2 ∧ y2 ≤ y3 ∧ y3 ≤ 6) → 7 - y3 < nn → e_Ok 1 elay code1 eI (d + 1) 19 (4, [(0, (1, 17 * a + 86)), (1, (0, x)), (2, (0, y2)), (3, (0, y3))], [], w) (fun r w' => ∃ z : Int, r = [(0, z)] ∧ w = w' ∧ (0 ≤ z ∧ z ≤ 6)) := by
    intro nn
    induction nn with
    | zero => intro y2 y3 hj hm; obtain j3 := hj; exfalso; omega
    | succ nn ih2 =>
      intro y2 y3 hj hm
      obtain j3 := hj
      refine e_Ok.run (t' := (6, [(0, (1, 17 * a + 86)), (1, (0, x)), (2, (0, y2)), (3, (0, y3))], [(1, 17 * a + 86), (0, y3)], w)) 2 rfl ?_
      have h4 := (e_Has.get hT (c := 17 * a + 86) (k := 8) (lo := 0) (hi := 6) (kA_8 (a := a) (by omega) (by omega)) (by decide))
      refine e_Ok.getf (z := w (17 * a + 86) 8) rfl (lA0 (a := a) (by omega) (by omega)) rfl rfl rfl (by omega) ?_
      refine e_Ok.if2 rfl (fun h5 => ?_) (fun h5 => ?_)
      · replace h5 : (y3 : Int) ≥ w (17 * a + 86) 8 := h5
        refine e_Ok.run (t' := (35, [(0, (1, 17 * a + 86)), (1, (0, x)), (2, (0, y2)), (3, (0, y3))], [(0, y2)], w)) 1 rfl ?_
        refine e_Ok.rets rfl rfl ?_
        exact ⟨_, rfl, rfl, by omega⟩
      · replace h5 : (y3 : Int) < w (17 * a + 86) 8 := by have q : ¬ ((y3 : Int) ≥ w (17 * a + 86) 8) := h5; omega
        refine e_Ok.run (t' := (13, [(0, (1, 17 * a + 86)), (1, (0, x)), (2, (0, y2)), (3, (0, y3))], [(1, 17 * a + 86)], w)) 1 rfl ?_
        refine e_Ok.getr (z := 17 * a + 87) rfl (lA0 (a := a) (by omega) (by omega)) rfl rfl (Eq.trans (e_Has.eq hT (kA_0 (a := a) (by omega) (by omega))) (by omega)) (by omega) ?_
        refine e_Ok.run (t' := (17, [(0, (1, 17 * a + 86)), (1, (0, x)), (2, (0, y2)), (3, (0, y3))], [(0, y3), (1, 17 * a + 87)], w)) 1 rfl ?_
        refine e_Ok.aald (z := 17 * a + y3 + 97) rfl (lA1 (a := a) (by omega) (by omega)) rfl (by omega) (Eq.trans (e_Has.eq hT (kA87 (a := a) (by omega) (by omega) (by omega))) (by omega)) (by omega) ?_
        refine e_Ok.run (t' := (19, [(0, (1, 17 * a + 86)), (1, (0, x)), (2, (0, y2)), (3, (0, y3))], [(0, x), (1, 17 * a + y3 + 97)], w)) 1 rfl ?_
        refine e_Ok.callV rfl (by omega) rfl (lJ (a := a) (j := y3) (by omega) (by omega) (by omega)) rfl rfl (b_94_n (by omega) (a := a) (j := y3) hT (by omega) (by omega) (by omega) (hb y3 (by omega) (by omega))) (fun r6 w7 h8 => ?_)
        obtain ⟨z9, rfl, rfl, q10⟩ := h8
        show e_Ok 1 elay code1 eI (d + 1) 19 (22, [(0, (1, 17 * a + 86)), (1, (0, x)), (2, (0, y2)), (3, (0, y3))], [(0, z9)], w) _
        refine e_Ok.if1 rfl (fun h11 => ?_) (fun h11 => ?_)
        · replace h11 : (z9 : Int) = 0 := h11
          refine e_Ok.inc (z := y3 + 1) rfl rfl (by omega) (by omega) ?_
          show e_Ok 1 elay code1 eI (d + 1) 19 (31, [(3, (0, y3 + 1)), (0, (1, 17 * a + 86)), (1, (0, x)), (2, (0, y2))], [], w) _
          refine e_Ok.run (t' := (4, [(3, (0, y3 + 1)), (0, (1, 17 * a + 86)), (1, (0, x)), (2, (0, y2))], [], w)) 1 rfl ?_
          refine e_Ok.sub c1lk (e_sub_of rfl ?_) (ih2 y2 (y3 + 1) ((by omega)) (by omega))
          exact ⟨rfl, rfl, rfl, rfl, trivial⟩
        · replace h11 : (z9 : Int) ≠ 0 := by have q : ¬ ((z9 : Int) = 0) := h11; omega
          refine e_Ok.inc (z := y2 + 1) rfl rfl (by omega) (by omega) ?_
          show e_Ok 1 elay code1 eI (d + 1) 19 (28, [(2, (0, y2 + 1)), (0, (1, 17 * a + 86)), (1, (0, x)), (3, (0, y3))], [], w) _
          refine e_Ok.inc (z := y3 + 1) rfl rfl (by omega) (by omega) ?_
          show e_Ok 1 elay code1 eI (d + 1) 19 (31, [(3, (0, y3 + 1)), (2, (0, y2 + 1)), (0, (1, 17 * a + 86)), (1, (0, x))], [], w) _
          refine e_Ok.run (t' := (4, [(3, (0, y3 + 1)), (2, (0, y2 + 1)), (0, (1, 17 * a + 86)), (1, (0, x))], [], w)) 1 rfl ?_
          refine e_Ok.sub c1lk (e_sub_of rfl ?_) (ih2 (y2 + 1) (y3 + 1) ((by omega)) (by omega))
          exact ⟨rfl, rfl, rfl, rfl, trivial⟩
  refine e_Ok.sub c1lk (e_sub_of rfl ?_) (hL1 (7 + 1 : Int).toNat 0 0 ((by omega)) (by omega))
  exact ⟨rfl, rfl, rfl, rfl, trivial⟩
theorem b_93_n {d : Nat} {w : eW} (hT : e_Has kTy w) {a j : Int} (ga : 0 ≤ a ∧ a ≤ 3) (gj : 0 ≤ j ∧ j ≤ 5) (hb : kn1 (w (17 * a + j + 97) 10)) : e_Ok 1 elay code1 eI d 93 (0, [(0, (1, 17 * a + j + 97))], [], w) (fun r w' => ∃ z : Int, r = [(0, z)] ∧ w = w' ∧ (0 ≤ z ∧ z ≤ 6000)) := by
  unfold kn1 at hb
  refine e_Ok.run (t' := (1, [(0, (1, 17 * a + j + 97))], [(1, 17 * a + j + 97)], w)) 1 rfl ?_
  have h1 := (e_Has.get hT (c := 17 * a + j + 97) (k := 9) (lo := (-2147483648)) (hi := 2147483647) (kJ_9 (a := a) (j := j) (by omega) (by omega) (by omega)) (by decide))
  refine e_Ok.getf (z := w (17 * a + j + 97) 9) rfl (lJ (a := a) (j := j) (by omega) (by omega) (by omega)) rfl rfl rfl (by omega) ?_
  refine e_Ok.run (t' := (5, [(0, (1, 17 * a + j + 97))], [(1, 17 * a + j + 97), (0, w (17 * a + j + 97) 9)], w)) 1 rfl ?_
  refine e_Ok.getf (z := w (17 * a + j + 97) 10) rfl (lJ (a := a) (j := j) (by omega) (by omega) (by omega)) rfl rfl rfl (by omega) ?_
  refine e_Ok.any rfl (eF_sub_any _ _) (fun z2 z2a z2b => ?_)
  refine e_Ok.mabs rfl rfl (by omega) (fun z3 z3r hz3 => ?_)
  replace hz3 : (0 ≤ z2 → z3 = z2) ∧ (z2 < 0 → -2147483647 ≤ z2 → z3 = -z2) := hz3
  refine e_Ok.run (t' := (17, [(3, (0, 0)), (2, (0, 0)), (1, (0, z3)), (0, (1, 17 * a + j + 97))], [], w)) 5 rfl ?_
  have hL4 : ∀ (nn : Nat) (y2 : Int) (y3 : Int), ((-2147483648 ≤ y2 ∧ y2 ≤ 2147483647)) ∧ ((0 ≤ y3 ∧ y3 ≤ 6000)) → 6001 - y3 < nn → e_Ok 1 elay code1 eI d 93 (17, [(0, (1, 17 * a + j + 97)), (1, (0, z3)), (2, (0, y2)), (3, (0, y3))], [], w) (fun r w' => ∃ z : Int, r = [(0, z)] ∧ w = w' ∧ (0 ≤ z ∧ z ≤ 6000)) := by
    intro nn
    induction nn with
    | zero => intro y2 y3 hj hm; obtain ⟨j6, j7⟩ := hj; exfalso; omega
    | succ nn ih5 =>
      intro y2 y3 hj hm
      obtain ⟨j6, j7⟩ := hj
      refine e_Ok.run (t' := (19, [(0, (1, 17 * a + j + 97)), (1, (0, z3)), (2, (0, y2)), (3, (0, y3))], [(0, z3), (0, y2)], w)) 2 rfl ?_
      refine e_Ok.if2 rfl (fun h8 => ?_) (fun h8 => ?_)
      · replace h8 : (y2 : Int) ≥ z3 := h8
        refine e_Ok.run (t' := (56, [(0, (1, 17 * a + j + 97)), (1, (0, z3)), (2, (0, y2)), (3, (0, y3))], [(0, y3)], w)) 1 rfl ?_
        refine e_Ok.rets rfl rfl ?_
        exact ⟨_, rfl, rfl, by omega⟩
      · replace h8 : (y2 : Int) < z3 := by have q : ¬ ((y2 : Int) ≥ z3) := h8; omega
        refine e_Ok.run (t' := (26, [(0, (1, 17 * a + j + 97)), (1, (0, z3)), (2, (0, y2)), (3, (0, y3))], [(0, 6000), (0, y3)], w)) 2 rfl ?_
        refine e_Ok.if2 rfl (fun h9 => ?_) (fun h9 => ?_)
        · replace h9 : (y3 : Int) ≥ 6000 := h9
          refine e_Ok.run (t' := (56, [(0, (1, 17 * a + j + 97)), (1, (0, z3)), (2, (0, y2)), (3, (0, y3))], [(0, y3)], w)) 1 rfl ?_
          refine e_Ok.rets rfl rfl ?_
          exact ⟨_, rfl, rfl, by omega⟩
        · replace h9 : (y3 : Int) < 6000 := by have q : ¬ ((y3 : Int) ≥ 6000) := h9; omega
          refine e_Ok.inc (z := y3 + 1) rfl rfl (by omega) (by omega) ?_
          show e_Ok 1 elay code1 eI d 93 (32, [(3, (0, y3 + 1)), (0, (1, 17 * a + j + 97)), (1, (0, z3)), (2, (0, y2))], [], w) _
          refine e_Ok.run (t' := (34, [(3, (0, y3 + 1)), (0, (1, 17 * a + j + 97)), (1, (0, z3)), (2, (0, y2))], [(1, 17 * a + j + 97), (0, y2)], w)) 2 rfl ?_
          have h10 := (e_Has.get hT (c := 17 * a + j + 97) (k := 5) (lo := (-2147483648)) (hi := 2147483647) (kJ_5 (a := a) (j := j) (by omega) (by omega) (by omega)) (by decide))
          refine e_Ok.getf (z := w (17 * a + j + 97) 5) rfl (lJ (a := a) (j := j) (by omega) (by omega) (by omega)) rfl rfl rfl (by omega) ?_
          refine e_Ok.run (t' := (38, [(3, (0, y3 + 1)), (0, (1, 17 * a + j + 97)), (1, (0, z3)), (2, (0, y2))], [(1, 17 * a + j + 97), (0, w (17 * a + j + 97) 5), (0, y2)], w)) 1 rfl ?_
          have h11 := (e_Has.get hT (c := 17 * a + j + 97) (k := 6) (lo := (-2147483648)) (hi := 2147483647) (kJ_6 (a := a) (j := j) (by omega) (by omega) (by omega)) (by decide))
          refine e_Ok.getf (z := w (17 * a + j + 97) 6) rfl (lJ (a := a) (j := j) (by omega) (by omega) (by omega)) rfl rfl rfl (by omega) ?_
          refine e_Ok.run (t' := (43, [(3, (0, y3 + 1)), (0, (1, 17 * a + j + 97)), (1, (0, z3)), (2, (0, y2))], [(0, 1), (0, y3 + 1), (0, w (17 * a + j + 97) 6), (0, w (17 * a + j + 97) 5), (0, y2)], w)) 2 rfl ?_
          refine e_Ok.add (z := y3 + 2) rfl (by omega) (by omega) ?_
          refine e_Ok.run (t' := (45, [(3, (0, y3 + 1)), (0, (1, 17 * a + j + 97)), (1, (0, z3)), (2, (0, y2))], [(0, 2), (0, y3 + 2), (0, w (17 * a + j + 97) 6), (0, w (17 * a + j + 97) 5), (0, y2)], w)) 1 rfl ?_
          refine e_Ok.divn (fun z12 hz12 => ?_) rfl (by omega) (by omega)
          replace hz12 : z12 = (y3 + 2) / 2 := hz12
          have z12r : 1 ≤ z12 ∧ z12 ≤ 3000 := by omega
          refine e_Ok.any rfl (eF_mul_any _ _) (fun z13 z13a z13b => ?_)
          refine e_Ok.mmin rfl rfl (fun z14 hz14 => ?_)
          replace hz14 : (z13 < w (17 * a + j + 97) 5 ∧ z14 = z13) ∨ ((w (17 * a + j + 97) 5) ≤ z13 ∧ z14 = w (17 * a + j + 97) 5) := hz14
          refine e_Ok.any rfl (eF_add_any _ _) (fun z15 z15a z15b => ?_)
          refine e_Ok.run (t' := (17, [(2, (0, z15)), (3, (0, y3 + 1)), (0, (1, 17 * a + j + 97)), (1, (0, z3))], [], w)) 2 rfl ?_
          refine e_Ok.sub c1lk (e_sub_of rfl ?_) (ih5 z15 (y3 + 1) ⟨(by omega), (by omega)⟩ (by omega))
          exact ⟨rfl, rfl, rfl, rfl, trivial⟩
  refine e_Ok.sub c1lk (e_sub_of rfl ?_) (hL4 (6001 + 1 : Int).toNat 0 0 ⟨(by omega), (by omega)⟩ (by omega))
  exact ⟨rfl, rfl, rfl, rfl, trivial⟩
theorem b_18_n {d : Nat} (hd : 3 ≤ d) {w : eW} (hT : e_Has kTy w) {a : Int} (ga : 0 ≤ a ∧ a ≤ 3) (hb : ∀ j, 0 ≤ j → j < w (17 * a + 86) 8 → kn1 (w (17 * a + j + 97) 10)) : e_Ok 1 elay code1 eI d 18 (0, [(0, (1, 17 * a + 86))], [], w) (fun r w' => ∃ z : Int, r = [(0, z)] ∧ w = w' ∧ (0 ≤ z ∧ z ≤ 6000)) := by
  obtain ⟨d, rfl⟩ : ∃ e, d = e + 1 := ⟨d - 1, by omega⟩
  have hjn := kn_joints hT (a := a) (by omega)
  refine e_Ok.run (t' := (4, [(2, (0, 0)), (1, (0, 0)), (0, (1, 17 * a + 86))], [], w)) 4 rfl ?_
  have hL1 : ∀ (nn : Nat) (y1 : Int) (y2 : Int), ((0 ≤ y1 ∧ y1 ≤ 6000)) ∧ ((0 ≤ y2 ∧ y2 ≤ 6)) → 7 - y2 < nn → e_Ok 1 elay code1 eI (d + 1) 18 (4, [(0, (1, 17 * a + 86)), (1, (0, y1)), (2, (0, y2))], [], w) (fun r w' => ∃ z : Int, r = [(0, z)] ∧ w = w' ∧ (0 ≤ z ∧ z ≤ 6000)) := by
    intro nn
    induction nn with
    | zero => intro y1 y2 hj hm; obtain ⟨j3, j4⟩ := hj; exfalso; omega
    | succ nn ih2 =>
      intro y1 y2 hj hm
      obtain ⟨j3, j4⟩ := hj
      refine e_Ok.run (t' := (6, [(0, (1, 17 * a + 86)), (1, (0, y1)), (2, (0, y2))], [(1, 17 * a + 86), (0, y2)], w)) 2 rfl ?_
      have h5 := (e_Has.get hT (c := 17 * a + 86) (k := 8) (lo := 0) (hi := 6) (kA_8 (a := a) (by omega) (by omega)) (by decide))
      refine e_Ok.getf (z := w (17 * a + 86) 8) rfl (lA0 (a := a) (by omega) (by omega)) rfl rfl rfl (by omega) ?_
      refine e_Ok.if2 rfl (fun h6 => ?_) (fun h6 => ?_)
      · replace h6 : (y2 : Int) ≥ w (17 * a + 86) 8 := h6
        refine e_Ok.run (t' := (33, [(0, (1, 17 * a + 86)), (1, (0, y1)), (2, (0, y2))], [(0, y1)], w)) 1 rfl ?_
        refine e_Ok.rets rfl rfl ?_
        exact ⟨_, rfl, rfl, by omega⟩
      · replace h6 : (y2 : Int) < w (17 * a + 86) 8 := by have q : ¬ ((y2 : Int) ≥ w (17 * a + 86) 8) := h6; omega
        refine e_Ok.run (t' := (14, [(0, (1, 17 * a + 86)), (1, (0, y1)), (2, (0, y2))], [(1, 17 * a + 86), (0, y1)], w)) 2 rfl ?_
        refine e_Ok.getr (z := 17 * a + 87) rfl (lA0 (a := a) (by omega) (by omega)) rfl rfl (Eq.trans (e_Has.eq hT (kA_0 (a := a) (by omega) (by omega))) (by omega)) (by omega) ?_
        refine e_Ok.run (t' := (18, [(0, (1, 17 * a + 86)), (1, (0, y1)), (2, (0, y2))], [(0, y2), (1, 17 * a + 87), (0, y1)], w)) 1 rfl ?_
        refine e_Ok.aald (z := 17 * a + y2 + 97) rfl (lA1 (a := a) (by omega) (by omega)) rfl (by omega) (Eq.trans (e_Has.eq hT (kA87 (a := a) (by omega) (by omega) (by omega))) (by omega)) (by omega) ?_
        refine e_Ok.callV rfl (by omega) rfl (lJ (a := a) (j := y2) (by omega) (by omega) (by omega)) rfl rfl (b_93_n (a := a) (j := y2) hT (by omega) (by omega) (hb y2 (by omega) (by omega))) (fun r7 w8 h9 => ?_)
        obtain ⟨z10, rfl, rfl, q11⟩ := h9
        show e_Ok 1 elay code1 eI (d + 1) 18 (22, [(0, (1, 17 * a + 86)), (1, (0, y1)), (2, (0, y2))], [(0, z10), (0, y1)], w) _
        refine e_Ok.mmax rfl rfl (fun z12 hz12 => ?_)
        replace hz12 : (y1 < z10 ∧ z12 = z10) ∨ (z10 ≤ y1 ∧ z12 = y1) := hz12
        refine e_Ok.run (t' := (26, [(1, (0, z12)), (0, (1, 17 * a + 86)), (2, (0, y2))], [], w)) 1 rfl ?_
        refine e_Ok.inc (z := y2 + 1) rfl rfl (by omega) (by omega) ?_
        show e_Ok 1 elay code1 eI (d + 1) 18 (29, [(2, (0, y2 + 1)), (1, (0, z12)), (0, (1, 17 * a + 86))], [], w) _
        refine e_Ok.run (t' := (4, [(2, (0, y2 + 1)), (1, (0, z12)), (0, (1, 17 * a + 86))], [], w)) 1 rfl ?_
        refine e_Ok.sub c1lk (e_sub_of rfl ?_) (ih2 z12 (y2 + 1) ⟨(by omega), (by omega)⟩ (by omega))
        exact ⟨rfl, rfl, rfl, trivial⟩
  refine e_Ok.sub c1lk (e_sub_of rfl ?_) (hL1 (7 + 1 : Int).toNat 0 0 ⟨(by omega), (by omega)⟩ (by omega))
  exact ⟨rfl, rfl, rfl, trivial⟩
theorem b_7 {d : Nat} {w : eW} (hT : e_Has kTy w) {a : Int} (g_a : 0 ≤ a ∧ a ≤ 3) : e_Ok 1 elay code1 eI d 7 (0, [(0, (1, 17 * a + 86))], [], w) (fun r w' => ∃ z : Int, r = [(0, z)] ∧ w = w' ∧ (0 ≤ z ∧ z ≤ 7) ∧ z ≤ w (17 * a + 86) 8 + 1) := by
  refine e_Ok.run (t' := (1, [(0, (1, 17 * a + 86))], [(1, 17 * a + 86)], w)) 1 rfl ?_
  have h1 := (e_Has.get hT (c := 17 * a + 86) (k := 14) (lo := (-1)) (hi := 31) (kA_14 (a := a) (by omega) (by omega)) (by decide))
  refine e_Ok.getf (z := w (17 * a + 86) 14) rfl (lA0 (a := a) (by omega) (by omega)) rfl rfl rfl (by omega) ?_
  refine e_Ok.if1 rfl (fun h2 => ?_) (fun h2 => ?_)
  · replace h2 : (w (17 * a + 86) 14 : Int) ≥ 0 := h2
    refine e_Ok.run (t' := (15, [(0, (1, 17 * a + 86))], [(1, 17 * a + 86)], w)) 1 rfl ?_
    have h3 := (e_Has.get hT (c := 17 * a + 86) (k := 8) (lo := 0) (hi := 6) (kA_8 (a := a) (by omega) (by omega)) (by decide))
    refine e_Ok.getf (z := w (17 * a + 86) 8) rfl (lA0 (a := a) (by omega) (by omega)) rfl rfl rfl (by omega) ?_
    refine e_Ok.run (t' := (19, [(0, (1, 17 * a + 86))], [(0, 1), (0, w (17 * a + 86) 8)], w)) 1 rfl ?_
    refine e_Ok.add (z := w (17 * a + 86) 8 + 1) rfl (by omega) (by omega) ?_
    refine e_Ok.rets rfl rfl ?_
    exact ⟨_, rfl, rfl, ⟨by omega, by omega⟩, by omega⟩
  · replace h2 : (w (17 * a + 86) 14 : Int) < 0 := by have q : ¬ ((w (17 * a + 86) 14 : Int) ≥ 0) := h2; omega
    refine e_Ok.run (t' := (8, [(0, (1, 17 * a + 86))], [(1, 17 * a + 86)], w)) 1 rfl ?_
    have h4 := (e_Has.get hT (c := 17 * a + 86) (k := 8) (lo := 0) (hi := 6) (kA_8 (a := a) (by omega) (by omega)) (by decide))
    refine e_Ok.getf (z := w (17 * a + 86) 8) rfl (lA0 (a := a) (by omega) (by omega)) rfl rfl rfl (by omega) ?_
    refine e_Ok.run (t' := (20, [(0, (1, 17 * a + 86))], [(0, w (17 * a + 86) 8)], w)) 1 rfl ?_
    refine e_Ok.rets rfl rfl ?_
    exact ⟨_, rfl, rfl, ⟨by omega, by omega⟩, by omega⟩
theorem b_8 {d : Nat} {w : eW} (hT : e_Has kTy w) {a i : Int} (g_a : 0 ≤ a ∧ a ≤ 3) (g_i : 0 ≤ i ∧ i ≤ 7) : e_Ok 1 elay code1 eI d 8 (0, [(0, (1, 17 * a + 86)), (1, (0, i))], [], w) (fun r w' => ∃ z : Int, r = [(0, z)] ∧ w = w' ∧ ((-2147483648) ≤ z ∧ z ≤ 2147483647)) := by
  refine e_Ok.run (t' := (2, [(0, (1, 17 * a + 86)), (1, (0, i))], [(1, 17 * a + 86), (0, i)], w)) 2 rfl ?_
  have h1 := (e_Has.get hT (c := 17 * a + 86) (k := 8) (lo := 0) (hi := 6) (kA_8 (a := a) (by omega) (by omega)) (by decide))
  refine e_Ok.getf (z := w (17 * a + 86) 8) rfl (lA0 (a := a) (by omega) (by omega)) rfl rfl rfl (by omega) ?_
  refine e_Ok.if2 rfl (fun h2 => ?_) (fun h2 => ?_)
  · replace h2 : (i : Int) ≥ w (17 * a + 86) 8 := h2
    refine e_Ok.run (t' := (21, [(0, (1, 17 * a + 86)), (1, (0, i))], [(1, 17 * a + 86)], w)) 1 rfl ?_
    have h3 := (e_Has.get hT (c := 17 * a + 86) (k := 15) (lo := (-2147483648)) (hi := 2147483647) (kA_15 (a := a) (by omega) (by omega)) (by decide))
    refine e_Ok.getf (z := w (17 * a + 86) 15) rfl (lA0 (a := a) (by omega) (by omega)) rfl rfl rfl (by omega) ?_
    refine e_Ok.rets rfl rfl ?_
    exact ⟨_, rfl, rfl, ⟨by omega, by omega⟩⟩
  · replace h2 : (i : Int) < w (17 * a + 86) 8 := by have q : ¬ ((i : Int) ≥ w (17 * a + 86) 8) := h2; omega
    refine e_Ok.run (t' := (9, [(0, (1, 17 * a + 86)), (1, (0, i))], [(1, 17 * a + 86)], w)) 1 rfl ?_
    refine e_Ok.getr (z := 17 * a + 87) rfl (lA0 (a := a) (by omega) (by omega)) rfl rfl (Eq.trans (e_Has.eq hT (kA_0 (a := a) (by omega) (by omega))) (by omega)) (by omega) ?_
    refine e_Ok.run (t' := (13, [(0, (1, 17 * a + 86)), (1, (0, i))], [(0, i), (1, 17 * a + 87)], w)) 1 rfl ?_
    refine e_Ok.aald (z := 17 * a + i + 97) rfl (lA1 (a := a) (by omega) (by omega)) rfl (by omega) (Eq.trans (e_Has.eq hT (kA87 (a := a) (by omega) (by omega) (by omega))) (by omega)) (by omega) ?_
    have h4 := (e_Has.get hT (c := 17 * a + i + 97) (k := 4) (lo := (-2147483648)) (hi := 2147483647) (kJ_4 (a := a) (j := i) (by omega) (by omega) (by omega)) (by decide))
    refine e_Ok.getf (z := w (17 * a + i + 97) 4) rfl (lJ (a := a) (j := i) (by omega) (by omega) (by omega)) rfl rfl rfl (by omega) ?_
    refine e_Ok.run (t' := (24, [(0, (1, 17 * a + 86)), (1, (0, i))], [(0, w (17 * a + i + 97) 4)], w)) 1 rfl ?_
    refine e_Ok.rets rfl rfl ?_
    exact ⟨_, rfl, rfl, ⟨by omega, by omega⟩⟩
theorem b_174 {d : Nat} {w : eW} (hT : e_Has kTy w) {cx cy dx dy rr : Int} (g_cx : (-2147483648) ≤ cx ∧ cx ≤ 2147483647) (g_cy : (-2147483648) ≤ cy ∧ cy ≤ 2147483647) (g_dx : (-2147483648) ≤ dx ∧ dx ≤ 2147483647) (g_dy : (-2147483648) ≤ dy ∧ dy ≤ 2147483647) (g_rr : (-2147483648) ≤ rr ∧ rr ≤ 2147483647) (kl : e_kn w 250 13 16) : e_Ok 1 elay code1 eI d 174 (0, [(0, (1, 250)), (1, (0, cx)), (2, (0, cy)), (3, (0, dx)), (4, (0, dy)), (5, (0, rr))], [], w) (fun r w' => ∃ z : Int, r = [(0, z)] ∧ w = w' ∧ (0 ≤ z ∧ z ≤ 1)) := by
  refine e_Ok.run (t' := (1, [(0, (1, 250)), (1, (0, cx)), (2, (0, cy)), (3, (0, dx)), (4, (0, dy)), (5, (0, rr))], [(1, 250)], w)) 1 rfl ?_
  have h1 := (kl 13 (by omega) (by omega))
  refine e_Ok.getf (z := w 250 13) rfl (el_o rfl) rfl rfl rfl (by omega) ?_
  refine e_Ok.run (t' := (5, [(0, (1, 250)), (1, (0, cx)), (2, (0, cy)), (3, (0, dx)), (4, (0, dy)), (5, (0, rr))], [(1, 250), (0, w 250 13)], w)) 1 rfl ?_
  have h2 := (kl 15 (by omega) (by omega))
  refine e_Ok.getf (z := w 250 15) rfl (el_o rfl) rfl rfl rfl (by omega) ?_
  refine e_Ok.mmax rfl rfl (fun z3 hz3 => ?_)
  replace hz3 : ((w 250 13) < w 250 15 ∧ z3 = w 250 15) ∨ ((w 250 15) ≤ w 250 13 ∧ z3 = w 250 13) := hz3
  refine e_Ok.run (t' := (13, [(0, (1, 250)), (1, (0, cx)), (2, (0, cy)), (3, (0, dx)), (4, (0, dy)), (5, (0, rr))], [(0, rr), (0, z3)], w)) 1 rfl ?_
  refine e_Ok.any rfl (eF_add_any _ _) (fun z4 z4a z4b => ?_)
  refine e_Ok.run (t' := (16, [(0, (1, 250)), (1, (0, cx)), (2, (0, cy)), (3, (0, dx)), (4, (0, dy)), (5, (0, rr))], [(0, dx), (0, cx), (0, z4)], w)) 2 rfl ?_
  refine e_Ok.mmin rfl rfl (fun z5 hz5 => ?_)
  replace hz5 : (dx < cx ∧ z5 = dx) ∨ (cx ≤ dx ∧ z5 = cx) := hz5
  refine e_Ok.if2 rfl (fun h6 => ?_) (fun h6 => ?_)
  · replace h6 : (z4 : Int) < z5 := h6
    refine e_Ok.run (t' := (95, [(0, (1, 250)), (1, (0, cx)), (2, (0, cy)), (3, (0, dx)), (4, (0, dy)), (5, (0, rr))], [(0, 1)], w)) 2 rfl ?_
    refine e_Ok.rets rfl rfl ?_
    exact ⟨_, rfl, rfl, ⟨by omega, by omega⟩⟩
  · replace h6 : (z4 : Int) ≥ z5 := by have q : ¬ ((z4 : Int) < z5) := h6; omega
    refine e_Ok.run (t' := (24, [(0, (1, 250)), (1, (0, cx)), (2, (0, cy)), (3, (0, dx)), (4, (0, dy)), (5, (0, rr))], [(0, dx), (0, cx)], w)) 2 rfl ?_
    refine e_Ok.mmax rfl rfl (fun z7 hz7 => ?_)
    replace hz7 : (cx < dx ∧ z7 = dx) ∨ (dx ≤ cx ∧ z7 = cx) := hz7
    refine e_Ok.run (t' := (29, [(0, (1, 250)), (1, (0, cx)), (2, (0, cy)), (3, (0, dx)), (4, (0, dy)), (5, (0, rr))], [(0, rr), (0, z7)], w)) 1 rfl ?_
    refine e_Ok.any rfl (eF_add_any _ _) (fun z8 z8a z8b => ?_)
    refine e_Ok.run (t' := (31, [(0, (1, 250)), (1, (0, cx)), (2, (0, cy)), (3, (0, dx)), (4, (0, dy)), (5, (0, rr))], [(1, 250), (0, z8)], w)) 1 rfl ?_
    refine e_Ok.getf (z := w 250 13) rfl (el_o rfl) rfl rfl rfl (by omega) ?_
    refine e_Ok.run (t' := (35, [(0, (1, 250)), (1, (0, cx)), (2, (0, cy)), (3, (0, dx)), (4, (0, dy)), (5, (0, rr))], [(1, 250), (0, w 250 13), (0, z8)], w)) 1 rfl ?_
    refine e_Ok.getf (z := w 250 15) rfl (el_o rfl) rfl rfl rfl (by omega) ?_
    refine e_Ok.mmin rfl rfl (fun z9 hz9 => ?_)
    replace hz9 : ((w 250 15) < w 250 13 ∧ z9 = w 250 15) ∨ ((w 250 13) ≤ w 250 15 ∧ z9 = w 250 13) := hz9
    refine e_Ok.if2 rfl (fun h10 => ?_) (fun h10 => ?_)
    · replace h10 : (z8 : Int) < z9 := h10
      refine e_Ok.run (t' := (95, [(0, (1, 250)), (1, (0, cx)), (2, (0, cy)), (3, (0, dx)), (4, (0, dy)), (5, (0, rr))], [(0, 1)], w)) 2 rfl ?_
      refine e_Ok.rets rfl rfl ?_
      exact ⟨_, rfl, rfl, ⟨by omega, by omega⟩⟩
    · replace h10 : (z8 : Int) ≥ z9 := by have q : ¬ ((z8 : Int) < z9) := h10; omega
      refine e_Ok.run (t' := (45, [(0, (1, 250)), (1, (0, cx)), (2, (0, cy)), (3, (0, dx)), (4, (0, dy)), (5, (0, rr))], [(1, 250)], w)) 1 rfl ?_
      have h11 := (kl 14 (by omega) (by omega))
      refine e_Ok.getf (z := w 250 14) rfl (el_o rfl) rfl rfl rfl (by omega) ?_
      refine e_Ok.run (t' := (49, [(0, (1, 250)), (1, (0, cx)), (2, (0, cy)), (3, (0, dx)), (4, (0, dy)), (5, (0, rr))], [(1, 250), (0, w 250 14)], w)) 1 rfl ?_
      have h12 := (kl 16 (by omega) (by omega))
      refine e_Ok.getf (z := w 250 16) rfl (el_o rfl) rfl rfl rfl (by omega) ?_
      refine e_Ok.mmax rfl rfl (fun z13 hz13 => ?_)
      replace hz13 : ((w 250 14) < w 250 16 ∧ z13 = w 250 16) ∨ ((w 250 16) ≤ w 250 14 ∧ z13 = w 250 14) := hz13
      refine e_Ok.run (t' := (57, [(0, (1, 250)), (1, (0, cx)), (2, (0, cy)), (3, (0, dx)), (4, (0, dy)), (5, (0, rr))], [(0, rr), (0, z13)], w)) 1 rfl ?_
      refine e_Ok.any rfl (eF_add_any _ _) (fun z14 z14a z14b => ?_)
      refine e_Ok.run (t' := (61, [(0, (1, 250)), (1, (0, cx)), (2, (0, cy)), (3, (0, dx)), (4, (0, dy)), (5, (0, rr))], [(0, dy), (0, cy), (0, z14)], w)) 2 rfl ?_
      refine e_Ok.mmin rfl rfl (fun z15 hz15 => ?_)
      replace hz15 : (dy < cy ∧ z15 = dy) ∨ (cy ≤ dy ∧ z15 = cy) := hz15
      refine e_Ok.if2 rfl (fun h16 => ?_) (fun h16 => ?_)
      · replace h16 : (z14 : Int) < z15 := h16
        refine e_Ok.run (t' := (95, [(0, (1, 250)), (1, (0, cx)), (2, (0, cy)), (3, (0, dx)), (4, (0, dy)), (5, (0, rr))], [(0, 1)], w)) 2 rfl ?_
        refine e_Ok.rets rfl rfl ?_
        exact ⟨_, rfl, rfl, ⟨by omega, by omega⟩⟩
      · replace h16 : (z14 : Int) ≥ z15 := by have q : ¬ ((z14 : Int) < z15) := h16; omega
        refine e_Ok.run (t' := (70, [(0, (1, 250)), (1, (0, cx)), (2, (0, cy)), (3, (0, dx)), (4, (0, dy)), (5, (0, rr))], [(0, dy), (0, cy)], w)) 2 rfl ?_
        refine e_Ok.mmax rfl rfl (fun z17 hz17 => ?_)
        replace hz17 : (cy < dy ∧ z17 = dy) ∨ (dy ≤ cy ∧ z17 = cy) := hz17
        refine e_Ok.run (t' := (75, [(0, (1, 250)), (1, (0, cx)), (2, (0, cy)), (3, (0, dx)), (4, (0, dy)), (5, (0, rr))], [(0, rr), (0, z17)], w)) 1 rfl ?_
        refine e_Ok.any rfl (eF_add_any _ _) (fun z18 z18a z18b => ?_)
        refine e_Ok.run (t' := (77, [(0, (1, 250)), (1, (0, cx)), (2, (0, cy)), (3, (0, dx)), (4, (0, dy)), (5, (0, rr))], [(1, 250), (0, z18)], w)) 1 rfl ?_
        refine e_Ok.getf (z := w 250 14) rfl (el_o rfl) rfl rfl rfl (by omega) ?_
        refine e_Ok.run (t' := (81, [(0, (1, 250)), (1, (0, cx)), (2, (0, cy)), (3, (0, dx)), (4, (0, dy)), (5, (0, rr))], [(1, 250), (0, w 250 14), (0, z18)], w)) 1 rfl ?_
        refine e_Ok.getf (z := w 250 16) rfl (el_o rfl) rfl rfl rfl (by omega) ?_
        refine e_Ok.mmin rfl rfl (fun z19 hz19 => ?_)
        replace hz19 : ((w 250 16) < w 250 14 ∧ z19 = w 250 16) ∨ ((w 250 14) ≤ w 250 16 ∧ z19 = w 250 14) := hz19
        have hJ22 : ∀ m21 : Int, 0 ≤ m21 ∧ m21 ≤ 1 → e_Ok 1 elay code1 eI d 174 (95, [(0, (1, 250)), (1, (0, cx)), (2, (0, cy)), (3, (0, dx)), (4, (0, dy)), (5, (0, rr))], [(0, m21)], w) (fun r w' => ∃ z : Int, r = [(0, z)] ∧ w = w' ∧ (0 ≤ z ∧ z ≤ 1)) := by
          intro m21 m21r
          refine e_Ok.retb rfl (by omega) ?_
          exact ⟨_, rfl, rfl, ⟨by omega, by omega⟩⟩
        refine e_Ok.if2 rfl (fun h20 => ?_) (fun h20 => ?_)
        · exact e_Ok.run 1 rfl (hJ22 0 (by omega))
        · exact e_Ok.run 2 rfl (hJ22 1 (by omega))
theorem b_177 {d : Nat} {w : eW} {dx dy px py : Int} (g_dx : (-2147483648) ≤ dx ∧ dx ≤ 2147483647) (g_dy : (-2147483648) ≤ dy ∧ dy ≤ 2147483647) (g_px : (-2147483648) ≤ px ∧ px ≤ 2147483647) (g_py : (-2147483648) ≤ py ∧ py ≤ 2147483647) : e_Ok 1 elay code1 eI d 177 (0, [(0, (0, dx)), (1, (0, dy)), (2, (0, px)), (3, (0, py))], [], w) (fun r w' => ∃ z : Int, r = [(4, z)] ∧ w = w') := by
  refine e_Ok.run (t' := (4, [(0, (0, dx)), (1, (0, dy)), (2, (0, px)), (3, (0, py))], [(4, py), (4, dx)], w)) 4 rfl ?_
  refine e_Ok.anyL rfl ⟨_, rfl⟩ (fun x1 => ?_)
  refine e_Ok.run (t' := (9, [(0, (0, dx)), (1, (0, dy)), (2, (0, px)), (3, (0, py))], [(4, px), (4, dy), (4, x1)], w)) 4 rfl ?_
  refine e_Ok.anyL rfl ⟨_, rfl⟩ (fun x2 => ?_)
  refine e_Ok.anyL rfl ⟨_, rfl⟩ (fun x3 => ?_)
  refine e_Ok.rets rfl rfl ?_
  exact ⟨_, rfl, rfl⟩
theorem b_176 {d : Nat} {w : eW} {dx dy px py rr : Int} (g_dx : (-2147483648) ≤ dx ∧ dx ≤ 2147483647) (g_dy : (-2147483648) ≤ dy ∧ dy ≤ 2147483647) (g_px : (-2147483648) ≤ px ∧ px ≤ 2147483647) (g_py : (-2147483648) ≤ py ∧ py ≤ 2147483647) (g_rr : (-2147483648) ≤ rr ∧ rr ≤ 2147483647) : e_Ok 1 elay code1 eI d 176 (0, [(0, (0, dx)), (1, (0, dy)), (2, (0, px)), (3, (0, py)), (4, (0, rr))], [], w) (fun r w' => ∃ z : Int, r = [(0, z)] ∧ w = w' ∧ (0 ≤ z ∧ z ≤ 1)) := by
  refine e_Ok.run (t' := (6, [(0, (0, dx)), (1, (0, dy)), (2, (0, px)), (3, (0, py)), (4, (0, rr))], [(4, rr), (4, rr)], w)) 4 rfl ?_
  refine e_Ok.anyL rfl ⟨_, rfl⟩ (fun x1 => ?_)
  refine e_Ok.run (t' := (13, [(5, (4, x1)), (0, (0, dx)), (1, (0, dy)), (2, (0, px)), (3, (0, py)), (4, (0, rr))], [(4, px), (4, px)], w)) 5 rfl ?_
  refine e_Ok.anyL rfl ⟨_, rfl⟩ (fun x2 => ?_)
  refine e_Ok.run (t' := (18, [(5, (4, x1)), (0, (0, dx)), (1, (0, dy)), (2, (0, px)), (3, (0, py)), (4, (0, rr))], [(4, py), (4, py), (4, x2)], w)) 4 rfl ?_
  refine e_Ok.anyL rfl ⟨_, rfl⟩ (fun x3 => ?_)
  refine e_Ok.anyL rfl ⟨_, rfl⟩ (fun x4 => ?_)
  refine e_Ok.run (t' := (26, [(7, (4, x4)), (5, (4, x1)), (0, (0, dx)), (1, (0, dy)), (2, (0, px)), (3, (0, py)), (4, (0, rr))], [(4, px), (4, dx)], w)) 5 rfl ?_
  refine e_Ok.anyL rfl ⟨_, rfl⟩ (fun x5 => ?_)
  refine e_Ok.run (t' := (31, [(7, (4, x4)), (5, (4, x1)), (0, (0, dx)), (1, (0, dy)), (2, (0, px)), (3, (0, py)), (4, (0, rr))], [(4, py), (4, dy), (4, x5)], w)) 4 rfl ?_
  refine e_Ok.anyL rfl ⟨_, rfl⟩ (fun x6 => ?_)
  refine e_Ok.anyL rfl ⟨_, rfl⟩ (fun x7 => ?_)
  refine e_Ok.run (t' := (38, [(9, (4, x7)), (7, (4, x4)), (5, (4, x1)), (0, (0, dx)), (1, (0, dy)), (2, (0, px)), (3, (0, py)), (4, (0, rr))], [(4, 0), (4, x7)], w)) 3 rfl ?_
  refine e_Ok.lcmp rfl (fun z8 z8a z8b z8c => ?_)
  refine e_Ok.if1 rfl (fun h9 => ?_) (fun h9 => ?_)
  · replace h9 : (z8 : Int) > 0 := h9
    refine e_Ok.run (t' := (60, [(9, (4, x7)), (7, (4, x4)), (5, (4, x1)), (0, (0, dx)), (1, (0, dy)), (2, (0, px)), (3, (0, py)), (4, (0, rr))], [(4, dx), (4, dx)], w)) 4 rfl ?_
    refine e_Ok.anyL rfl ⟨_, rfl⟩ (fun x10 => ?_)
    refine e_Ok.run (t' := (65, [(9, (4, x7)), (7, (4, x4)), (5, (4, x1)), (0, (0, dx)), (1, (0, dy)), (2, (0, px)), (3, (0, py)), (4, (0, rr))], [(4, dy), (4, dy), (4, x10)], w)) 4 rfl ?_
    refine e_Ok.anyL rfl ⟨_, rfl⟩ (fun x11 => ?_)
    refine e_Ok.anyL rfl ⟨_, rfl⟩ (fun x12 => ?_)
    refine e_Ok.run (t' := (73, [(11, (4, x12)), (9, (4, x7)), (7, (4, x4)), (5, (4, x1)), (0, (0, dx)), (1, (0, dy)), (2, (0, px)), (3, (0, py)), (4, (0, rr))], [(4, x12), (4, x7)], w)) 3 rfl ?_
    refine e_Ok.lcmp rfl (fun z13 z13a z13b z13c => ?_)
    refine e_Ok.if1 rfl (fun h14 => ?_) (fun h14 => ?_)
    · replace h14 : (z13 : Int) < 0 := h14
      refine e_Ok.run (t' := (105, [(11, (4, x12)), (9, (4, x7)), (7, (4, x4)), (5, (4, x1)), (0, (0, dx)), (1, (0, dy)), (2, (0, px)), (3, (0, py)), (4, (0, rr))], [(4, py), (4, dx)], w)) 4 rfl ?_
      refine e_Ok.anyL rfl ⟨_, rfl⟩ (fun x15 => ?_)
      refine e_Ok.run (t' := (110, [(11, (4, x12)), (9, (4, x7)), (7, (4, x4)), (5, (4, x1)), (0, (0, dx)), (1, (0, dy)), (2, (0, px)), (3, (0, py)), (4, (0, rr))], [(4, px), (4, dy), (4, x15)], w)) 4 rfl ?_
      refine e_Ok.anyL rfl ⟨_, rfl⟩ (fun x16 => ?_)
      refine e_Ok.anyL rfl ⟨_, rfl⟩ (fun x17 => ?_)
      refine e_Ok.run (t' := (118, [(13, (4, x17)), (11, (4, x12)), (9, (4, x7)), (7, (4, x4)), (5, (4, x1)), (0, (0, dx)), (1, (0, dy)), (2, (0, px)), (3, (0, py)), (4, (0, rr))], [(4, x17), (4, x17)], w)) 3 rfl ?_
      refine e_Ok.anyL rfl ⟨_, rfl⟩ (fun x18 => ?_)
      refine e_Ok.run (t' := (123, [(13, (4, x17)), (11, (4, x12)), (9, (4, x7)), (7, (4, x4)), (5, (4, x1)), (0, (0, dx)), (1, (0, dy)), (2, (0, px)), (3, (0, py)), (4, (0, rr))], [(4, x12), (4, x1), (4, x18)], w)) 2 rfl ?_
      refine e_Ok.anyL rfl ⟨_, rfl⟩ (fun x19 => ?_)
      refine e_Ok.lcmp rfl (fun z20 z20a z20b z20c => ?_)
      have hJ23 : ∀ m22 : Int, 0 ≤ m22 ∧ m22 ≤ 1 → e_Ok 1 elay code1 eI d 176 (133, [(13, (4, x17)), (11, (4, x12)), (9, (4, x7)), (7, (4, x4)), (5, (4, x1)), (0, (0, dx)), (1, (0, dy)), (2, (0, px)), (3, (0, py)), (4, (0, rr))], [(0, m22)], w) (fun r w' => ∃ z : Int, r = [(0, z)] ∧ w = w' ∧ (0 ≤ z ∧ z ≤ 1)) := by
        intro m22 m22r
        refine e_Ok.retb rfl (by omega) ?_
        exact ⟨_, rfl, rfl, ⟨by omega, by omega⟩⟩
      refine e_Ok.if1 rfl (fun h21 => ?_) (fun h21 => ?_)
      · exact e_Ok.run 1 rfl (hJ23 0 (by omega))
      · exact e_Ok.run 2 rfl (hJ23 1 (by omega))
    · replace h14 : (z13 : Int) ≥ 0 := by have q : ¬ ((z13 : Int) < 0) := h14; omega
      refine e_Ok.run (t' := (84, [(11, (4, x12)), (9, (4, x7)), (7, (4, x4)), (5, (4, x1)), (0, (0, dx)), (1, (0, dy)), (2, (0, px)), (3, (0, py)), (4, (0, rr))], [(4, x7), (4, 2), (4, x4)], w)) 3 rfl ?_
      refine e_Ok.anyL rfl ⟨_, rfl⟩ (fun x24 => ?_)
      refine e_Ok.anyL rfl ⟨_, rfl⟩ (fun x25 => ?_)
      refine e_Ok.run (t' := (88, [(11, (4, x12)), (9, (4, x7)), (7, (4, x4)), (5, (4, x1)), (0, (0, dx)), (1, (0, dy)), (2, (0, px)), (3, (0, py)), (4, (0, rr))], [(4, x12), (4, x25)], w)) 1 rfl ?_
      refine e_Ok.anyL rfl ⟨_, rfl⟩ (fun x26 => ?_)
      refine e_Ok.run (t' := (91, [(11, (4, x12)), (9, (4, x7)), (7, (4, x4)), (5, (4, x1)), (0, (0, dx)), (1, (0, dy)), (2, (0, px)), (3, (0, py)), (4, (0, rr))], [(4, x1), (4, x26)], w)) 1 rfl ?_
      refine e_Ok.lcmp rfl (fun z27 z27a z27b z27c => ?_)
      have hJ30 : ∀ m29 : Int, 0 ≤ m29 ∧ m29 ≤ 1 → e_Ok 1 elay code1 eI d 176 (100, [(11, (4, x12)), (9, (4, x7)), (7, (4, x4)), (5, (4, x1)), (0, (0, dx)), (1, (0, dy)), (2, (0, px)), (3, (0, py)), (4, (0, rr))], [(0, m29)], w) (fun r w' => ∃ z : Int, r = [(0, z)] ∧ w = w' ∧ (0 ≤ z ∧ z ≤ 1)) := by
        intro m29 m29r
        refine e_Ok.retb rfl (by omega) ?_
        exact ⟨_, rfl, rfl, ⟨by omega, by omega⟩⟩
      refine e_Ok.if1 rfl (fun h28 => ?_) (fun h28 => ?_)
      · exact e_Ok.run 1 rfl (hJ30 0 (by omega))
      · exact e_Ok.run 2 rfl (hJ30 1 (by omega))
  · replace h9 : (z8 : Int) ≤ 0 := by have q : ¬ ((z8 : Int) > 0) := h9; omega
    refine e_Ok.run (t' := (46, [(9, (4, x7)), (7, (4, x4)), (5, (4, x1)), (0, (0, dx)), (1, (0, dy)), (2, (0, px)), (3, (0, py)), (4, (0, rr))], [(4, x1), (4, x4)], w)) 2 rfl ?_
    refine e_Ok.lcmp rfl (fun z31 z31a z31b z31c => ?_)
    have hJ34 : ∀ m33 : Int, 0 ≤ m33 ∧ m33 ≤ 1 → e_Ok 1 elay code1 eI d 176 (55, [(9, (4, x7)), (7, (4, x4)), (5, (4, x1)), (0, (0, dx)), (1, (0, dy)), (2, (0, px)), (3, (0, py)), (4, (0, rr))], [(0, m33)], w) (fun r w' => ∃ z : Int, r = [(0, z)] ∧ w = w' ∧ (0 ≤ z ∧ z ≤ 1)) := by
      intro m33 m33r
      refine e_Ok.retb rfl (by omega) ?_
      exact ⟨_, rfl, rfl, ⟨by omega, by omega⟩⟩
    refine e_Ok.if1 rfl (fun h32 => ?_) (fun h32 => ?_)
    · exact e_Ok.run 1 rfl (hJ34 0 (by omega))
    · exact e_Ok.run 2 rfl (hJ34 1 (by omega))
theorem b_175 {d : Nat} (hd : 2 ≤ d) {w : eW} (hT : e_Has kTy w) {cx cy dx dy rr : Int} (g_cx : (-2147483648) ≤ cx ∧ cx ≤ 2147483647) (g_cy : (-2147483648) ≤ cy ∧ cy ≤ 2147483647) (g_dx : (-2147483648) ≤ dx ∧ dx ≤ 2147483647) (g_dy : (-2147483648) ≤ dy ∧ dy ≤ 2147483647) (g_rr : (-2147483648) ≤ rr ∧ rr ≤ 2147483647) (kl : e_kn w 250 13 16) : e_Ok 1 elay code1 eI d 175 (0, [(0, (1, 250)), (1, (0, cx)), (2, (0, cy)), (3, (0, dx)), (4, (0, dy)), (5, (0, rr))], [], w) (fun r w' => ∃ z : Int, r = [(0, z)] ∧ w = w' ∧ (0 ≤ z ∧ z ≤ 1)) := by
  obtain ⟨d, rfl⟩ : ∃ e, d = e + 1 := ⟨d - 1, by omega⟩
  have hC324 : e_Ok 1 elay code1 eI (d + 1) 175 (324, [(0, (1, 250))], [], w) (fun r w' => ∃ z : Int, r = [(0, z)] ∧ w = w' ∧ (0 ≤ z ∧ z ≤ 1)) := by
    refine e_Ok.run (t' := (329, [(0, (1, 250))], [(0, 1)], w)) 2 rfl ?_
    refine e_Ok.rets rfl rfl ?_
    exact ⟨_, rfl, rfl, ⟨by omega, by omega⟩⟩
  refine e_Ok.run (t' := (8, [(0, (1, 250)), (1, (0, cx)), (2, (0, cy)), (3, (0, dx)), (4, (0, dy)), (5, (0, rr))], [(0, rr), (0, dy), (0, dx), (0, cy), (0, cx), (1, 250)], w)) 6 rfl ?_
  refine e_Ok.callV rfl (by omega) rfl rfl rfl rfl (b_174 hT (by omega) (by omega) (by omega) (by omega) (by omega) kl) (fun r1 w2 h3 => ?_)
  obtain ⟨z5, rfl, rfl, q4r⟩ := h3
  show e_Ok 1 elay code1 eI (d + 1) 175 (11, [(0, (1, 250)), (1, (0, cx)), (2, (0, cy)), (3, (0, dx)), (4, (0, dy)), (5, (0, rr))], [(0, z5)], w) _
  refine e_Ok.if1 rfl (fun h6 => ?_) (fun h6 => ?_)
  · replace h6 : (z5 : Int) = 0 := h6
    refine e_Ok.run (t' := (17, [(0, (1, 250)), (1, (0, cx)), (2, (0, cy)), (3, (0, dx)), (4, (0, dy)), (5, (0, rr))], [(1, 250)], w)) 1 rfl ?_
    have h7 := (kl 15 (by omega) (by omega))
    refine e_Ok.getf (z := w 250 15) rfl (el_o rfl) rfl rfl rfl (by omega) ?_
    refine e_Ok.run (t' := (21, [(0, (1, 250)), (1, (0, cx)), (2, (0, cy)), (3, (0, dx)), (4, (0, dy)), (5, (0, rr))], [(1, 250), (0, w 250 15)], w)) 1 rfl ?_
    have h8 := (kl 13 (by omega) (by omega))
    refine e_Ok.getf (z := w 250 13) rfl (el_o rfl) rfl rfl rfl (by omega) ?_
    refine e_Ok.any rfl (eF_sub_any _ _) (fun z9 z9a z9b => ?_)
    refine e_Ok.run (t' := (26, [(0, (1, 250)), (1, (0, cx)), (2, (0, cy)), (3, (0, dx)), (4, (0, dy)), (5, (0, rr))], [(1, 250), (0, z9)], w)) 1 rfl ?_
    have h10 := (kl 16 (by omega) (by omega))
    refine e_Ok.getf (z := w 250 16) rfl (el_o rfl) rfl rfl rfl (by omega) ?_
    refine e_Ok.run (t' := (30, [(0, (1, 250)), (1, (0, cx)), (2, (0, cy)), (3, (0, dx)), (4, (0, dy)), (5, (0, rr))], [(1, 250), (0, w 250 16), (0, z9)], w)) 1 rfl ?_
    have h11 := (kl 14 (by omega) (by omega))
    refine e_Ok.getf (z := w 250 14) rfl (el_o rfl) rfl rfl rfl (by omega) ?_
    refine e_Ok.any rfl (eF_sub_any _ _) (fun z12 z12a z12b => ?_)
    refine e_Ok.run (t' := (36, [(0, (1, 250)), (1, (0, cx)), (2, (0, cy)), (3, (0, dx)), (4, (0, dy)), (5, (0, rr))], [(1, 250), (0, cx), (0, z12), (0, z9)], w)) 2 rfl ?_
    refine e_Ok.getf (z := w 250 13) rfl (el_o rfl) rfl rfl rfl (by omega) ?_
    refine e_Ok.any rfl (eF_sub_any _ _) (fun z13 z13a z13b => ?_)
    refine e_Ok.run (t' := (42, [(0, (1, 250)), (1, (0, cx)), (2, (0, cy)), (3, (0, dx)), (4, (0, dy)), (5, (0, rr))], [(1, 250), (0, cy), (0, z13), (0, z12), (0, z9)], w)) 2 rfl ?_
    refine e_Ok.getf (z := w 250 14) rfl (el_o rfl) rfl rfl rfl (by omega) ?_
    refine e_Ok.any rfl (eF_sub_any _ _) (fun z14 z14a z14b => ?_)
    refine e_Ok.callS rfl (by omega) rfl rfl (b_177 (by omega) (by omega) (by omega) (by omega)) (fun r15 w16 h17 => ?_)
    obtain ⟨x18, rfl, rfl⟩ := h17
    show e_Ok 1 elay code1 eI (d + 1) 175 (49, [(0, (1, 250)), (1, (0, cx)), (2, (0, cy)), (3, (0, dx)), (4, (0, dy)), (5, (0, rr))], [(4, x18)], w) _
    refine e_Ok.run (t' := (52, [(6, (4, x18)), (0, (1, 250)), (1, (0, cx)), (2, (0, cy)), (3, (0, dx)), (4, (0, dy)), (5, (0, rr))], [(1, 250)], w)) 2 rfl ?_
    refine e_Ok.getf (z := w 250 15) rfl (el_o rfl) rfl rfl rfl (by omega) ?_
    refine e_Ok.run (t' := (56, [(6, (4, x18)), (0, (1, 250)), (1, (0, cx)), (2, (0, cy)), (3, (0, dx)), (4, (0, dy)), (5, (0, rr))], [(1, 250), (0, w 250 15)], w)) 1 rfl ?_
    refine e_Ok.getf (z := w 250 13) rfl (el_o rfl) rfl rfl rfl (by omega) ?_
    refine e_Ok.any rfl (eF_sub_any _ _) (fun z19 z19a z19b => ?_)
    refine e_Ok.run (t' := (61, [(6, (4, x18)), (0, (1, 250)), (1, (0, cx)), (2, (0, cy)), (3, (0, dx)), (4, (0, dy)), (5, (0, rr))], [(1, 250), (0, z19)], w)) 1 rfl ?_
    refine e_Ok.getf (z := w 250 16) rfl (el_o rfl) rfl rfl rfl (by omega) ?_
    refine e_Ok.run (t' := (65, [(6, (4, x18)), (0, (1, 250)), (1, (0, cx)), (2, (0, cy)), (3, (0, dx)), (4, (0, dy)), (5, (0, rr))], [(1, 250), (0, w 250 16), (0, z19)], w)) 1 rfl ?_
    refine e_Ok.getf (z := w 250 14) rfl (el_o rfl) rfl rfl rfl (by omega) ?_
    refine e_Ok.any rfl (eF_sub_any _ _) (fun z20 z20a z20b => ?_)
    refine e_Ok.run (t' := (71, [(6, (4, x18)), (0, (1, 250)), (1, (0, cx)), (2, (0, cy)), (3, (0, dx)), (4, (0, dy)), (5, (0, rr))], [(1, 250), (0, dx), (0, z20), (0, z19)], w)) 2 rfl ?_
    refine e_Ok.getf (z := w 250 13) rfl (el_o rfl) rfl rfl rfl (by omega) ?_
    refine e_Ok.any rfl (eF_sub_any _ _) (fun z21 z21a z21b => ?_)
    refine e_Ok.run (t' := (78, [(6, (4, x18)), (0, (1, 250)), (1, (0, cx)), (2, (0, cy)), (3, (0, dx)), (4, (0, dy)), (5, (0, rr))], [(1, 250), (0, dy), (0, z21), (0, z20), (0, z19)], w)) 2 rfl ?_
    refine e_Ok.getf (z := w 250 14) rfl (el_o rfl) rfl rfl rfl (by omega) ?_
    refine e_Ok.any rfl (eF_sub_any _ _) (fun z22 z22a z22b => ?_)
    refine e_Ok.callS rfl (by omega) rfl rfl (b_177 (by omega) (by omega) (by omega) (by omega)) (fun r23 w24 h25 => ?_)
    obtain ⟨x26, rfl, rfl⟩ := h25
    show e_Ok 1 elay code1 eI (d + 1) 175 (85, [(6, (4, x18)), (0, (1, 250)), (1, (0, cx)), (2, (0, cy)), (3, (0, dx)), (4, (0, dy)), (5, (0, rr))], [(4, x26)], w) _
    refine e_Ok.run (t' := (89, [(8, (4, x26)), (6, (4, x18)), (0, (1, 250)), (1, (0, cx)), (2, (0, cy)), (3, (0, dx)), (4, (0, dy)), (5, (0, rr))], [(0, cx), (0, dx)], w)) 3 rfl ?_
    refine e_Ok.any rfl (eF_sub_any _ _) (fun z27 z27a z27b => ?_)
    refine e_Ok.run (t' := (93, [(8, (4, x26)), (6, (4, x18)), (0, (1, 250)), (1, (0, cx)), (2, (0, cy)), (3, (0, dx)), (4, (0, dy)), (5, (0, rr))], [(0, cy), (0, dy), (0, z27)], w)) 2 rfl ?_
    refine e_Ok.any rfl (eF_sub_any _ _) (fun z28 z28a z28b => ?_)
    refine e_Ok.run (t' := (95, [(8, (4, x26)), (6, (4, x18)), (0, (1, 250)), (1, (0, cx)), (2, (0, cy)), (3, (0, dx)), (4, (0, dy)), (5, (0, rr))], [(1, 250), (0, z28), (0, z27)], w)) 1 rfl ?_
    refine e_Ok.getf (z := w 250 13) rfl (el_o rfl) rfl rfl rfl (by omega) ?_
    refine e_Ok.run (t' := (99, [(8, (4, x26)), (6, (4, x18)), (0, (1, 250)), (1, (0, cx)), (2, (0, cy)), (3, (0, dx)), (4, (0, dy)), (5, (0, rr))], [(0, cx), (0, w 250 13), (0, z28), (0, z27)], w)) 1 rfl ?_
    refine e_Ok.any rfl (eF_sub_any _ _) (fun z29 z29a z29b => ?_)
    refine e_Ok.run (t' := (101, [(8, (4, x26)), (6, (4, x18)), (0, (1, 250)), (1, (0, cx)), (2, (0, cy)), (3, (0, dx)), (4, (0, dy)), (5, (0, rr))], [(1, 250), (0, z29), (0, z28), (0, z27)], w)) 1 rfl ?_
    refine e_Ok.getf (z := w 250 14) rfl (el_o rfl) rfl rfl rfl (by omega) ?_
    refine e_Ok.run (t' := (105, [(8, (4, x26)), (6, (4, x18)), (0, (1, 250)), (1, (0, cx)), (2, (0, cy)), (3, (0, dx)), (4, (0, dy)), (5, (0, rr))], [(0, cy), (0, w 250 14), (0, z29), (0, z28), (0, z27)], w)) 1 rfl ?_
    refine e_Ok.any rfl (eF_sub_any _ _) (fun z30 z30a z30b => ?_)
    refine e_Ok.callS rfl (by omega) rfl rfl (b_177 (by omega) (by omega) (by omega) (by omega)) (fun r31 w32 h33 => ?_)
    obtain ⟨x34, rfl, rfl⟩ := h33
    show e_Ok 1 elay code1 eI (d + 1) 175 (109, [(8, (4, x26)), (6, (4, x18)), (0, (1, 250)), (1, (0, cx)), (2, (0, cy)), (3, (0, dx)), (4, (0, dy)), (5, (0, rr))], [(4, x34)], w) _
    refine e_Ok.run (t' := (113, [(10, (4, x34)), (8, (4, x26)), (6, (4, x18)), (0, (1, 250)), (1, (0, cx)), (2, (0, cy)), (3, (0, dx)), (4, (0, dy)), (5, (0, rr))], [(0, cx), (0, dx)], w)) 3 rfl ?_
    refine e_Ok.any rfl (eF_sub_any _ _) (fun z35 z35a z35b => ?_)
    refine e_Ok.run (t' := (117, [(10, (4, x34)), (8, (4, x26)), (6, (4, x18)), (0, (1, 250)), (1, (0, cx)), (2, (0, cy)), (3, (0, dx)), (4, (0, dy)), (5, (0, rr))], [(0, cy), (0, dy), (0, z35)], w)) 2 rfl ?_
    refine e_Ok.any rfl (eF_sub_any _ _) (fun z36 z36a z36b => ?_)
    refine e_Ok.run (t' := (119, [(10, (4, x34)), (8, (4, x26)), (6, (4, x18)), (0, (1, 250)), (1, (0, cx)), (2, (0, cy)), (3, (0, dx)), (4, (0, dy)), (5, (0, rr))], [(1, 250), (0, z36), (0, z35)], w)) 1 rfl ?_
    refine e_Ok.getf (z := w 250 15) rfl (el_o rfl) rfl rfl rfl (by omega) ?_
    refine e_Ok.run (t' := (123, [(10, (4, x34)), (8, (4, x26)), (6, (4, x18)), (0, (1, 250)), (1, (0, cx)), (2, (0, cy)), (3, (0, dx)), (4, (0, dy)), (5, (0, rr))], [(0, cx), (0, w 250 15), (0, z36), (0, z35)], w)) 1 rfl ?_
    refine e_Ok.any rfl (eF_sub_any _ _) (fun z37 z37a z37b => ?_)
    refine e_Ok.run (t' := (125, [(10, (4, x34)), (8, (4, x26)), (6, (4, x18)), (0, (1, 250)), (1, (0, cx)), (2, (0, cy)), (3, (0, dx)), (4, (0, dy)), (5, (0, rr))], [(1, 250), (0, z37), (0, z36), (0, z35)], w)) 1 rfl ?_
    refine e_Ok.getf (z := w 250 16) rfl (el_o rfl) rfl rfl rfl (by omega) ?_
    refine e_Ok.run (t' := (129, [(10, (4, x34)), (8, (4, x26)), (6, (4, x18)), (0, (1, 250)), (1, (0, cx)), (2, (0, cy)), (3, (0, dx)), (4, (0, dy)), (5, (0, rr))], [(0, cy), (0, w 250 16), (0, z37), (0, z36), (0, z35)], w)) 1 rfl ?_
    refine e_Ok.any rfl (eF_sub_any _ _) (fun z38 z38a z38b => ?_)
    refine e_Ok.callS rfl (by omega) rfl rfl (b_177 (by omega) (by omega) (by omega) (by omega)) (fun r40 w41 h42 => ?_)
    obtain ⟨x43, rfl, rfl⟩ := h42
    show e_Ok 1 elay code1 eI (d + 1) 175 (133, [(10, (4, x34)), (8, (4, x26)), (6, (4, x18)), (0, (1, 250)), (1, (0, cx)), (2, (0, cy)), (3, (0, dx)), (4, (0, dy)), (5, (0, rr))], [(4, x43)], w) _
    refine e_Ok.run (t' := (135, [(12, (4, x43)), (10, (4, x34)), (8, (4, x26)), (6, (4, x18)), (0, (1, 250)), (1, (0, cx)), (2, (0, cy)), (3, (0, dx)), (4, (0, dy)), (5, (0, rr))], [], w)) 1 rfl ?_
    have hC193 : e_Ok 1 elay code1 eI (d + 1) 175 (193, [(0, (1, 250)), (1, (0, cx)), (2, (0, cy)), (3, (0, dx)), (4, (0, dy)), (5, (0, rr))], [], w) (fun r w' => ∃ z : Int, r = [(0, z)] ∧ w = w' ∧ (0 ≤ z ∧ z ≤ 1)) := by
      refine e_Ok.run (t' := (194, [(0, (1, 250)), (1, (0, cx)), (2, (0, cy)), (3, (0, dx)), (4, (0, dy)), (5, (0, rr))], [(1, 250)], w)) 1 rfl ?_
      refine e_Ok.getf (z := w 250 15) rfl (el_o rfl) rfl rfl rfl (by omega) ?_
      refine e_Ok.run (t' := (198, [(0, (1, 250)), (1, (0, cx)), (2, (0, cy)), (3, (0, dx)), (4, (0, dy)), (5, (0, rr))], [(1, 250), (0, w 250 15)], w)) 1 rfl ?_
      refine e_Ok.getf (z := w 250 13) rfl (el_o rfl) rfl rfl rfl (by omega) ?_
      refine e_Ok.any rfl (eF_sub_any _ _) (fun z44 z44a z44b => ?_)
      refine e_Ok.run (t' := (203, [(0, (1, 250)), (1, (0, cx)), (2, (0, cy)), (3, (0, dx)), (4, (0, dy)), (5, (0, rr))], [(1, 250), (0, z44)], w)) 1 rfl ?_
      refine e_Ok.getf (z := w 250 16) rfl (el_o rfl) rfl rfl rfl (by omega) ?_
      refine e_Ok.run (t' := (207, [(0, (1, 250)), (1, (0, cx)), (2, (0, cy)), (3, (0, dx)), (4, (0, dy)), (5, (0, rr))], [(1, 250), (0, w 250 16), (0, z44)], w)) 1 rfl ?_
      refine e_Ok.getf (z := w 250 14) rfl (el_o rfl) rfl rfl rfl (by omega) ?_
      refine e_Ok.any rfl (eF_sub_any _ _) (fun z45 z45a z45b => ?_)
      refine e_Ok.run (t' := (213, [(0, (1, 250)), (1, (0, cx)), (2, (0, cy)), (3, (0, dx)), (4, (0, dy)), (5, (0, rr))], [(1, 250), (0, cx), (0, z45), (0, z44)], w)) 2 rfl ?_
      refine e_Ok.getf (z := w 250 13) rfl (el_o rfl) rfl rfl rfl (by omega) ?_
      refine e_Ok.any rfl (eF_sub_any _ _) (fun z46 z46a z46b => ?_)
      refine e_Ok.run (t' := (219, [(0, (1, 250)), (1, (0, cx)), (2, (0, cy)), (3, (0, dx)), (4, (0, dy)), (5, (0, rr))], [(1, 250), (0, cy), (0, z46), (0, z45), (0, z44)], w)) 2 rfl ?_
      refine e_Ok.getf (z := w 250 14) rfl (el_o rfl) rfl rfl rfl (by omega) ?_
      refine e_Ok.any rfl (eF_sub_any _ _) (fun z47 z47a z47b => ?_)
      refine e_Ok.run (t' := (225, [(0, (1, 250)), (1, (0, cx)), (2, (0, cy)), (3, (0, dx)), (4, (0, dy)), (5, (0, rr))], [(0, rr), (0, z47), (0, z46), (0, z45), (0, z44)], w)) 1 rfl ?_
      refine e_Ok.callS rfl (by omega) rfl rfl (b_176 (by omega) (by omega) (by omega) (by omega) (by omega)) (fun r48 w49 h50 => ?_)
      obtain ⟨z52, rfl, rfl, q51r⟩ := h50
      show e_Ok 1 elay code1 eI (d + 1) 175 (228, [(0, (1, 250)), (1, (0, cx)), (2, (0, cy)), (3, (0, dx)), (4, (0, dy)), (5, (0, rr))], [(0, z52)], w) _
      refine e_Ok.if1 rfl (fun h53 => ?_) (fun h53 => ?_)
      · replace h53 : (z52 : Int) ≠ 0 := h53
        refine e_Ok.sub c1lk (e_sub_of rfl ?_) hC324
        exact ⟨rfl, trivial⟩
      · replace h53 : (z52 : Int) = 0 := by have q : ¬ ((z52 : Int) ≠ 0) := h53; omega
        refine e_Ok.run (t' := (232, [(0, (1, 250)), (1, (0, cx)), (2, (0, cy)), (3, (0, dx)), (4, (0, dy)), (5, (0, rr))], [(1, 250)], w)) 1 rfl ?_
        refine e_Ok.getf (z := w 250 15) rfl (el_o rfl) rfl rfl rfl (by omega) ?_
        refine e_Ok.run (t' := (236, [(0, (1, 250)), (1, (0, cx)), (2, (0, cy)), (3, (0, dx)), (4, (0, dy)), (5, (0, rr))], [(1, 250), (0, w 250 15)], w)) 1 rfl ?_
        refine e_Ok.getf (z := w 250 13) rfl (el_o rfl) rfl rfl rfl (by omega) ?_
        refine e_Ok.any rfl (eF_sub_any _ _) (fun z54 z54a z54b => ?_)
        refine e_Ok.run (t' := (241, [(0, (1, 250)), (1, (0, cx)), (2, (0, cy)), (3, (0, dx)), (4, (0, dy)), (5, (0, rr))], [(1, 250), (0, z54)], w)) 1 rfl ?_
        refine e_Ok.getf (z := w 250 16) rfl (el_o rfl) rfl rfl rfl (by omega) ?_
        refine e_Ok.run (t' := (245, [(0, (1, 250)), (1, (0, cx)), (2, (0, cy)), (3, (0, dx)), (4, (0, dy)), (5, (0, rr))], [(1, 250), (0, w 250 16), (0, z54)], w)) 1 rfl ?_
        refine e_Ok.getf (z := w 250 14) rfl (el_o rfl) rfl rfl rfl (by omega) ?_
        refine e_Ok.any rfl (eF_sub_any _ _) (fun z55 z55a z55b => ?_)
        refine e_Ok.run (t' := (251, [(0, (1, 250)), (1, (0, cx)), (2, (0, cy)), (3, (0, dx)), (4, (0, dy)), (5, (0, rr))], [(1, 250), (0, dx), (0, z55), (0, z54)], w)) 2 rfl ?_
        refine e_Ok.getf (z := w 250 13) rfl (el_o rfl) rfl rfl rfl (by omega) ?_
        refine e_Ok.any rfl (eF_sub_any _ _) (fun z56 z56a z56b => ?_)
        refine e_Ok.run (t' := (258, [(0, (1, 250)), (1, (0, cx)), (2, (0, cy)), (3, (0, dx)), (4, (0, dy)), (5, (0, rr))], [(1, 250), (0, dy), (0, z56), (0, z55), (0, z54)], w)) 2 rfl ?_
        refine e_Ok.getf (z := w 250 14) rfl (el_o rfl) rfl rfl rfl (by omega) ?_
        refine e_Ok.any rfl (eF_sub_any _ _) (fun z57 z57a z57b => ?_)
        refine e_Ok.run (t' := (264, [(0, (1, 250)), (1, (0, cx)), (2, (0, cy)), (3, (0, dx)), (4, (0, dy)), (5, (0, rr))], [(0, rr), (0, z57), (0, z56), (0, z55), (0, z54)], w)) 1 rfl ?_
        refine e_Ok.callS rfl (by omega) rfl rfl (b_176 (by omega) (by omega) (by omega) (by omega) (by omega)) (fun r58 w59 h60 => ?_)
        obtain ⟨z62, rfl, rfl, q61r⟩ := h60
        show e_Ok 1 elay code1 eI (d + 1) 175 (267, [(0, (1, 250)), (1, (0, cx)), (2, (0, cy)), (3, (0, dx)), (4, (0, dy)), (5, (0, rr))], [(0, z62)], w) _
        refine e_Ok.if1 rfl (fun h63 => ?_) (fun h63 => ?_)
        · replace h63 : (z62 : Int) ≠ 0 := h63
          refine e_Ok.sub c1lk (e_sub_of rfl ?_) hC324
          exact ⟨rfl, trivial⟩
        · replace h63 : (z62 : Int) = 0 := by have q : ¬ ((z62 : Int) ≠ 0) := h63; omega
          refine e_Ok.run (t' := (272, [(0, (1, 250)), (1, (0, cx)), (2, (0, cy)), (3, (0, dx)), (4, (0, dy)), (5, (0, rr))], [(0, cx), (0, dx)], w)) 2 rfl ?_
          refine e_Ok.any rfl (eF_sub_any _ _) (fun z64 z64a z64b => ?_)
          refine e_Ok.run (t' := (276, [(0, (1, 250)), (1, (0, cx)), (2, (0, cy)), (3, (0, dx)), (4, (0, dy)), (5, (0, rr))], [(0, cy), (0, dy), (0, z64)], w)) 2 rfl ?_
          refine e_Ok.any rfl (eF_sub_any _ _) (fun z65 z65a z65b => ?_)
          refine e_Ok.run (t' := (278, [(0, (1, 250)), (1, (0, cx)), (2, (0, cy)), (3, (0, dx)), (4, (0, dy)), (5, (0, rr))], [(1, 250), (0, z65), (0, z64)], w)) 1 rfl ?_
          refine e_Ok.getf (z := w 250 13) rfl (el_o rfl) rfl rfl rfl (by omega) ?_
          refine e_Ok.run (t' := (282, [(0, (1, 250)), (1, (0, cx)), (2, (0, cy)), (3, (0, dx)), (4, (0, dy)), (5, (0, rr))], [(0, cx), (0, w 250 13), (0, z65), (0, z64)], w)) 1 rfl ?_
          refine e_Ok.any rfl (eF_sub_any _ _) (fun z66 z66a z66b => ?_)
          refine e_Ok.run (t' := (284, [(0, (1, 250)), (1, (0, cx)), (2, (0, cy)), (3, (0, dx)), (4, (0, dy)), (5, (0, rr))], [(1, 250), (0, z66), (0, z65), (0, z64)], w)) 1 rfl ?_
          refine e_Ok.getf (z := w 250 14) rfl (el_o rfl) rfl rfl rfl (by omega) ?_
          refine e_Ok.run (t' := (288, [(0, (1, 250)), (1, (0, cx)), (2, (0, cy)), (3, (0, dx)), (4, (0, dy)), (5, (0, rr))], [(0, cy), (0, w 250 14), (0, z66), (0, z65), (0, z64)], w)) 1 rfl ?_
          refine e_Ok.any rfl (eF_sub_any _ _) (fun z67 z67a z67b => ?_)
          refine e_Ok.run (t' := (291, [(0, (1, 250)), (1, (0, cx)), (2, (0, cy)), (3, (0, dx)), (4, (0, dy)), (5, (0, rr))], [(0, rr), (0, z67), (0, z66), (0, z65), (0, z64)], w)) 1 rfl ?_
          refine e_Ok.callS rfl (by omega) rfl rfl (b_176 (by omega) (by omega) (by omega) (by omega) (by omega)) (fun r68 w69 h70 => ?_)
          obtain ⟨z72, rfl, rfl, q71r⟩ := h70
          show e_Ok 1 elay code1 eI (d + 1) 175 (294, [(0, (1, 250)), (1, (0, cx)), (2, (0, cy)), (3, (0, dx)), (4, (0, dy)), (5, (0, rr))], [(0, z72)], w) _
          refine e_Ok.if1 rfl (fun h73 => ?_) (fun h73 => ?_)
          · replace h73 : (z72 : Int) ≠ 0 := h73
            refine e_Ok.sub c1lk (e_sub_of rfl ?_) hC324
            exact ⟨rfl, trivial⟩
          · replace h73 : (z72 : Int) = 0 := by have q : ¬ ((z72 : Int) ≠ 0) := h73; omega
            refine e_Ok.run (t' := (299, [(0, (1, 250)), (1, (0, cx)), (2, (0, cy)), (3, (0, dx)), (4, (0, dy)), (5, (0, rr))], [(0, cx), (0, dx)], w)) 2 rfl ?_
            refine e_Ok.any rfl (eF_sub_any _ _) (fun z74 z74a z74b => ?_)
            refine e_Ok.run (t' := (303, [(0, (1, 250)), (1, (0, cx)), (2, (0, cy)), (3, (0, dx)), (4, (0, dy)), (5, (0, rr))], [(0, cy), (0, dy), (0, z74)], w)) 2 rfl ?_
            refine e_Ok.any rfl (eF_sub_any _ _) (fun z75 z75a z75b => ?_)
            refine e_Ok.run (t' := (305, [(0, (1, 250)), (1, (0, cx)), (2, (0, cy)), (3, (0, dx)), (4, (0, dy)), (5, (0, rr))], [(1, 250), (0, z75), (0, z74)], w)) 1 rfl ?_
            refine e_Ok.getf (z := w 250 15) rfl (el_o rfl) rfl rfl rfl (by omega) ?_
            refine e_Ok.run (t' := (309, [(0, (1, 250)), (1, (0, cx)), (2, (0, cy)), (3, (0, dx)), (4, (0, dy)), (5, (0, rr))], [(0, cx), (0, w 250 15), (0, z75), (0, z74)], w)) 1 rfl ?_
            refine e_Ok.any rfl (eF_sub_any _ _) (fun z76 z76a z76b => ?_)
            refine e_Ok.run (t' := (311, [(0, (1, 250)), (1, (0, cx)), (2, (0, cy)), (3, (0, dx)), (4, (0, dy)), (5, (0, rr))], [(1, 250), (0, z76), (0, z75), (0, z74)], w)) 1 rfl ?_
            refine e_Ok.getf (z := w 250 16) rfl (el_o rfl) rfl rfl rfl (by omega) ?_
            refine e_Ok.run (t' := (315, [(0, (1, 250)), (1, (0, cx)), (2, (0, cy)), (3, (0, dx)), (4, (0, dy)), (5, (0, rr))], [(0, cy), (0, w 250 16), (0, z76), (0, z75), (0, z74)], w)) 1 rfl ?_
            refine e_Ok.any rfl (eF_sub_any _ _) (fun z77 z77a z77b => ?_)
            refine e_Ok.run (t' := (318, [(0, (1, 250)), (1, (0, cx)), (2, (0, cy)), (3, (0, dx)), (4, (0, dy)), (5, (0, rr))], [(0, rr), (0, z77), (0, z76), (0, z75), (0, z74)], w)) 1 rfl ?_
            refine e_Ok.callS rfl (by omega) rfl rfl (b_176 (by omega) (by omega) (by omega) (by omega) (by omega)) (fun r78 w79 h80 => ?_)
            obtain ⟨z82, rfl, rfl, q81r⟩ := h80
            show e_Ok 1 elay code1 eI (d + 1) 175 (321, [(0, (1, 250)), (1, (0, cx)), (2, (0, cy)), (3, (0, dx)), (4, (0, dy)), (5, (0, rr))], [(0, z82)], w) _
            have hJ85 : ∀ m84 : Int, 0 ≤ m84 ∧ m84 ≤ 1 → e_Ok 1 elay code1 eI (d + 1) 175 (329, [(0, (1, 250)), (1, (0, cx)), (2, (0, cy)), (3, (0, dx)), (4, (0, dy)), (5, (0, rr))], [(0, m84)], w) (fun r w' => ∃ z : Int, r = [(0, z)] ∧ w = w' ∧ (0 ≤ z ∧ z ≤ 1)) := by
              intro m84 m84r
              refine e_Ok.retb rfl (by omega) ?_
              exact ⟨_, rfl, rfl, ⟨by omega, by omega⟩⟩
            refine e_Ok.if1 rfl (fun h83 => ?_) (fun h83 => ?_)
            · exact e_Ok.run 1 rfl (hJ85 0 (by omega))
            · exact e_Ok.run 2 rfl (hJ85 1 (by omega))
    have hC163 : e_Ok 1 elay code1 eI (d + 1) 175 (163, [(0, (1, 250)), (1, (0, cx)), (2, (0, cy)), (3, (0, dx)), (4, (0, dy)), (5, (0, rr)), (10, (4, x34)), (12, (4, x43))], [], w) (fun r w' => ∃ z : Int, r = [(0, z)] ∧ w = w' ∧ (0 ≤ z ∧ z ≤ 1)) := by
      refine e_Ok.run (t' := (166, [(0, (1, 250)), (1, (0, cx)), (2, (0, cy)), (3, (0, dx)), (4, (0, dy)), (5, (0, rr)), (10, (4, x34)), (12, (4, x43))], [(4, 0), (4, x34)], w)) 2 rfl ?_
      refine e_Ok.lcmp rfl (fun z86 z86a z86b z86c => ?_)
      refine e_Ok.if1 rfl (fun h87 => ?_) (fun h87 => ?_)
      · replace h87 : (z86 : Int) ≥ 0 := h87
        refine e_Ok.run (t' := (180, [(0, (1, 250)), (1, (0, cx)), (2, (0, cy)), (3, (0, dx)), (4, (0, dy)), (5, (0, rr)), (10, (4, x34)), (12, (4, x43))], [(4, 0), (4, x34)], w)) 2 rfl ?_
        refine e_Ok.lcmp rfl (fun z88 z88a z88b z88c => ?_)
        refine e_Ok.if1 rfl (fun h89 => ?_) (fun h89 => ?_)
        · replace h89 : (z88 : Int) ≤ 0 := h89
          refine e_Ok.sub c1lk (e_sub_of rfl ?_) hC193
          exact ⟨rfl, rfl, rfl, rfl, rfl, rfl, trivial⟩
        · replace h89 : (z88 : Int) > 0 := by have q : ¬ ((z88 : Int) ≤ 0) := h89; omega
          refine e_Ok.run (t' := (187, [(0, (1, 250)), (1, (0, cx)), (2, (0, cy)), (3, (0, dx)), (4, (0, dy)), (5, (0, rr)), (10, (4, x34)), (12, (4, x43))], [(4, 0), (4, x43)], w)) 2 rfl ?_
          refine e_Ok.lcmp rfl (fun z90 z90a z90b z90c => ?_)
          refine e_Ok.if1 rfl (fun h91 => ?_) (fun h91 => ?_)
          · replace h91 : (z90 : Int) ≥ 0 := h91
            refine e_Ok.sub c1lk (e_sub_of rfl ?_) hC193
            exact ⟨rfl, rfl, rfl, rfl, rfl, rfl, trivial⟩
          · replace h91 : (z90 : Int) < 0 := by have q : ¬ ((z90 : Int) ≥ 0) := h91; omega
            refine e_Ok.run (t' := (192, [(0, (1, 250)), (1, (0, cx)), (2, (0, cy)), (3, (0, dx)), (4, (0, dy)), (5, (0, rr)), (10, (4, x34)), (12, (4, x43))], [(0, 1)], w)) 1 rfl ?_
            refine e_Ok.rets rfl rfl ?_
            exact ⟨_, rfl, rfl, ⟨by omega, by omega⟩⟩
      · replace h87 : (z86 : Int) < 0 := by have q : ¬ ((z86 : Int) ≥ 0) := h87; omega
        refine e_Ok.run (t' := (173, [(0, (1, 250)), (1, (0, cx)), (2, (0, cy)), (3, (0, dx)), (4, (0, dy)), (5, (0, rr)), (10, (4, x34)), (12, (4, x43))], [(4, 0), (4, x43)], w)) 2 rfl ?_
        refine e_Ok.lcmp rfl (fun z92 z92a z92b z92c => ?_)
        refine e_Ok.if1 rfl (fun h93 => ?_) (fun h93 => ?_)
        · replace h93 : (z92 : Int) > 0 := h93
          refine e_Ok.run (t' := (192, [(0, (1, 250)), (1, (0, cx)), (2, (0, cy)), (3, (0, dx)), (4, (0, dy)), (5, (0, rr)), (10, (4, x34)), (12, (4, x43))], [(0, 1)], w)) 1 rfl ?_
          refine e_Ok.rets rfl rfl ?_
          exact ⟨_, rfl, rfl, ⟨by omega, by omega⟩⟩
        · replace h93 : (z92 : Int) ≤ 0 := by have q : ¬ ((z92 : Int) > 0) := h93; omega
          refine e_Ok.run (t' := (180, [(0, (1, 250)), (1, (0, cx)), (2, (0, cy)), (3, (0, dx)), (4, (0, dy)), (5, (0, rr)), (10, (4, x34)), (12, (4, x43))], [(4, 0), (4, x34)], w)) 2 rfl ?_
          refine e_Ok.lcmp rfl (fun z94 z94a z94b z94c => ?_)
          refine e_Ok.if1 rfl (fun h95 => ?_) (fun h95 => ?_)
          · replace h95 : (z94 : Int) ≤ 0 := h95
            refine e_Ok.sub c1lk (e_sub_of rfl ?_) hC193
            exact ⟨rfl, rfl, rfl, rfl, rfl, rfl, trivial⟩
          · replace h95 : (z94 : Int) > 0 := by have q : ¬ ((z94 : Int) ≤ 0) := h95; omega
            refine e_Ok.run (t' := (187, [(0, (1, 250)), (1, (0, cx)), (2, (0, cy)), (3, (0, dx)), (4, (0, dy)), (5, (0, rr)), (10, (4, x34)), (12, (4, x43))], [(4, 0), (4, x43)], w)) 2 rfl ?_
            refine e_Ok.lcmp rfl (fun z101 z101a z101b z101c => ?_)
            refine e_Ok.if1 rfl (fun h103 => ?_) (fun h103 => ?_)
            · replace h103 : (z101 : Int) ≥ 0 := h103
              refine e_Ok.sub c1lk (e_sub_of rfl ?_) hC193
              exact ⟨rfl, rfl, rfl, rfl, rfl, rfl, trivial⟩
            · replace h103 : (z101 : Int) < 0 := by have q : ¬ ((z101 : Int) ≥ 0) := h103; omega
              refine e_Ok.run (t' := (192, [(0, (1, 250)), (1, (0, cx)), (2, (0, cy)), (3, (0, dx)), (4, (0, dy)), (5, (0, rr)), (10, (4, x34)), (12, (4, x43))], [(0, 1)], w)) 1 rfl ?_
              refine e_Ok.rets rfl rfl ?_
              exact ⟨_, rfl, rfl, ⟨by omega, by omega⟩⟩
    refine e_Ok.run (t' := (138, [(12, (4, x43)), (10, (4, x34)), (8, (4, x26)), (6, (4, x18)), (0, (1, 250)), (1, (0, cx)), (2, (0, cy)), (3, (0, dx)), (4, (0, dy)), (5, (0, rr))], [(4, 0), (4, x18)], w)) 2 rfl ?_
    refine e_Ok.lcmp rfl (fun z104 z104a z104b z104c => ?_)
    refine e_Ok.if1 rfl (fun h105 => ?_) (fun h105 => ?_)
    · replace h105 : (z104 : Int) ≥ 0 := h105
      refine e_Ok.run (t' := (152, [(12, (4, x43)), (10, (4, x34)), (8, (4, x26)), (6, (4, x18)), (0, (1, 250)), (1, (0, cx)), (2, (0, cy)), (3, (0, dx)), (4, (0, dy)), (5, (0, rr))], [(4, 0), (4, x18)], w)) 2 rfl ?_
      refine e_Ok.lcmp rfl (fun z106 z106a z106b z106c => ?_)
      refine e_Ok.if1 rfl (fun h107 => ?_) (fun h107 => ?_)
      · replace h107 : (z106 : Int) ≤ 0 := h107
        refine e_Ok.sub c1lk (e_sub_of rfl ?_) hC193
        exact ⟨rfl, rfl, rfl, rfl, rfl, rfl, trivial⟩
      · replace h107 : (z106 : Int) > 0 := by have q : ¬ ((z106 : Int) ≤ 0) := h107; omega
        refine e_Ok.run (t' := (159, [(12, (4, x43)), (10, (4, x34)), (8, (4, x26)), (6, (4, x18)), (0, (1, 250)), (1, (0, cx)), (2, (0, cy)), (3, (0, dx)), (4, (0, dy)), (5, (0, rr))], [(4, 0), (4, x26)], w)) 2 rfl ?_
        refine e_Ok.lcmp rfl (fun z108 z108a z108b z108c => ?_)
        refine e_Ok.if1 rfl (fun h109 => ?_) (fun h109 => ?_)
        · replace h109 : (z108 : Int) ≥ 0 := h109
          refine e_Ok.sub c1lk (e_sub_of rfl ?_) hC193
          exact ⟨rfl, rfl, rfl, rfl, rfl, rfl, trivial⟩
        · replace h109 : (z108 : Int) < 0 := by have q : ¬ ((z108 : Int) ≥ 0) := h109; omega
          refine e_Ok.sub c1lk (e_sub_of rfl ?_) hC163
          exact ⟨rfl, rfl, rfl, rfl, rfl, rfl, rfl, rfl, trivial⟩
    · replace h105 : (z104 : Int) < 0 := by have q : ¬ ((z104 : Int) ≥ 0) := h105; omega
      refine e_Ok.run (t' := (145, [(12, (4, x43)), (10, (4, x34)), (8, (4, x26)), (6, (4, x18)), (0, (1, 250)), (1, (0, cx)), (2, (0, cy)), (3, (0, dx)), (4, (0, dy)), (5, (0, rr))], [(4, 0), (4, x26)], w)) 2 rfl ?_
      refine e_Ok.lcmp rfl (fun z110 z110a z110b z110c => ?_)
      refine e_Ok.if1 rfl (fun h111 => ?_) (fun h111 => ?_)
      · replace h111 : (z110 : Int) > 0 := h111
        refine e_Ok.sub c1lk (e_sub_of rfl ?_) hC163
        exact ⟨rfl, rfl, rfl, rfl, rfl, rfl, rfl, rfl, trivial⟩
      · replace h111 : (z110 : Int) ≤ 0 := by have q : ¬ ((z110 : Int) > 0) := h111; omega
        refine e_Ok.run (t' := (152, [(12, (4, x43)), (10, (4, x34)), (8, (4, x26)), (6, (4, x18)), (0, (1, 250)), (1, (0, cx)), (2, (0, cy)), (3, (0, dx)), (4, (0, dy)), (5, (0, rr))], [(4, 0), (4, x18)], w)) 2 rfl ?_
        refine e_Ok.lcmp rfl (fun z112 z112a z112b z112c => ?_)
        refine e_Ok.if1 rfl (fun h113 => ?_) (fun h113 => ?_)
        · replace h113 : (z112 : Int) ≤ 0 := h113
          refine e_Ok.sub c1lk (e_sub_of rfl ?_) hC193
          exact ⟨rfl, rfl, rfl, rfl, rfl, rfl, trivial⟩
        · replace h113 : (z112 : Int) > 0 := by have q : ¬ ((z112 : Int) ≤ 0) := h113; omega
          refine e_Ok.run (t' := (159, [(12, (4, x43)), (10, (4, x34)), (8, (4, x26)), (6, (4, x18)), (0, (1, 250)), (1, (0, cx)), (2, (0, cy)), (3, (0, dx)), (4, (0, dy)), (5, (0, rr))], [(4, 0), (4, x26)], w)) 2 rfl ?_
          refine e_Ok.lcmp rfl (fun z114 z114a z114b z114c => ?_)
          refine e_Ok.if1 rfl (fun h115 => ?_) (fun h115 => ?_)
          · replace h115 : (z114 : Int) ≥ 0 := h115
            refine e_Ok.sub c1lk (e_sub_of rfl ?_) hC193
            exact ⟨rfl, rfl, rfl, rfl, rfl, rfl, trivial⟩
          · replace h115 : (z114 : Int) < 0 := by have q : ¬ ((z114 : Int) ≥ 0) := h115; omega
            refine e_Ok.sub c1lk (e_sub_of rfl ?_) hC163
            exact ⟨rfl, rfl, rfl, rfl, rfl, rfl, rfl, rfl, trivial⟩
  · replace h6 : (z5 : Int) ≠ 0 := by have q : ¬ ((z5 : Int) = 0) := h6; omega
    refine e_Ok.run (t' := (15, [(0, (1, 250)), (1, (0, cx)), (2, (0, cy)), (3, (0, dx)), (4, (0, dy)), (5, (0, rr))], [(0, 0)], w)) 1 rfl ?_
    refine e_Ok.rets rfl rfl ?_
    exact ⟨_, rfl, rfl, ⟨by omega, by omega⟩⟩
theorem b_172 {d : Nat} (hd : 3 ≤ d) {w : eW} (hT : e_Has kTy w) {a f rr : Int} (g_a : 0 ≤ a ∧ a ≤ 3) (g_f : 0 ≤ f ∧ f ≤ 9) (g_rr : (-2147483648) ≤ rr ∧ rr ≤ 2147483647) (kl : e_kn w 250 13 16) (kx : aK w a) : e_Ok 1 elay code1 eI d 172 (0, [(0, (1, 250)), (1, (1, 17 * a + 86)), (2, (0, f)), (3, (0, rr))], [], w) (fun r w' => ∃ z : Int, r = [(0, z)] ∧ w = w' ∧ (0 ≤ z ∧ z ≤ 1)) := by
  obtain ⟨d, rfl⟩ : ∃ e, d = e + 1 := ⟨d - 1, by omega⟩
  refine e_Ok.run (t' := (3, [(4, (0, f)), (0, (1, 250)), (1, (1, 17 * a + 86)), (2, (0, f)), (3, (0, rr))], [], w)) 2 rfl ?_
  have hL1 : ∀ (nn : Nat) (y4 : Int), 0 ≤ y4 ∧ y4 ≤ 9 → 10 - y4 < nn → e_Ok 1 elay code1 eI (d + 1) 172 (3, [(0, (1, 250)), (1, (1, 17 * a + 86)), (2, (0, f)), (3, (0, rr)), (4, (0, y4))], [], w) (fun r w' => ∃ z : Int, r = [(0, z)] ∧ w = w' ∧ (0 ≤ z ∧ z ≤ 1)) := by
    intro nn
    induction nn with
    | zero => intro y4 hj hm; obtain j3 := hj; exfalso; omega
    | succ nn ih2 =>
      intro y4 hj hm
      obtain j3 := hj
      refine e_Ok.run (t' := (6, [(0, (1, 250)), (1, (1, 17 * a + 86)), (2, (0, f)), (3, (0, rr)), (4, (0, y4))], [(1, 17 * a + 86), (0, y4)], w)) 2 rfl ?_
      refine e_Ok.callV rfl (by omega) rfl (lA0 (a := a) (by omega) (by omega)) rfl rfl (b_7 (a := a) hT (by omega)) (fun r4 w5 h6 => ?_)
      obtain ⟨z8, rfl, rfl, q7r, q7x⟩ := h6
      replace q7x : z8 ≤ w (17 * a + 86) 8 + 1 := q7x
      show e_Ok 1 elay code1 eI (d + 1) 172 (9, [(0, (1, 250)), (1, (1, 17 * a + 86)), (2, (0, f)), (3, (0, rr)), (4, (0, y4))], [(0, z8), (0, y4)], w) _
      refine e_Ok.if2 rfl (fun h9 => ?_) (fun h9 => ?_)
      · replace h9 : (y4 : Int) ≥ z8 := h9
        refine e_Ok.run (t' := (72, [(0, (1, 250)), (1, (1, 17 * a + 86)), (2, (0, f)), (3, (0, rr)), (4, (0, y4))], [(0, 0)], w)) 1 rfl ?_
        refine e_Ok.rets rfl rfl ?_
        exact ⟨_, rfl, rfl, ⟨by omega, by omega⟩⟩
      · replace h9 : (y4 : Int) < z8 := by have q : ¬ ((y4 : Int) ≥ z8) := h9; omega
        refine e_Ok.run (t' := (16, [(0, (1, 250)), (1, (1, 17 * a + 86)), (2, (0, f)), (3, (0, rr)), (4, (0, y4))], [(0, y4), (1, 17 * a + 86), (0, rr)], w)) 3 rfl ?_
        refine e_Ok.callV rfl (by omega) rfl (lA0 (a := a) (by omega) (by omega)) rfl rfl (b_8 (a := a) hT (by omega) (by omega)) (fun r10 w11 h12 => ?_)
        obtain ⟨z14, rfl, rfl, q13r⟩ := h12
        show e_Ok 1 elay code1 eI (d + 1) 172 (19, [(0, (1, 250)), (1, (1, 17 * a + 86)), (2, (0, f)), (3, (0, rr)), (4, (0, y4))], [(0, z14), (0, rr)], w) _
        refine e_Ok.any rfl (eF_add_any _ _) (fun z15 z15a z15b => ?_)
        refine e_Ok.run (t' := (24, [(5, (0, z15)), (0, (1, 250)), (1, (1, 17 * a + 86)), (2, (0, f)), (3, (0, rr)), (4, (0, y4))], [(1, 17 * a + 86), (1, 250)], w)) 3 rfl ?_
        refine e_Ok.getr (z := 17 * a + 88) rfl (lA0 (a := a) (by omega) (by omega)) rfl rfl (Eq.trans (e_Has.eq hT (kA_1 (a := a) (by omega) (by omega))) (by omega)) (by omega) ?_
        refine e_Ok.run (t' := (29, [(5, (0, z15)), (0, (1, 250)), (1, (1, 17 * a + 86)), (2, (0, f)), (3, (0, rr)), (4, (0, y4))], [(0, y4), (1, 17 * a + 88), (1, 250)], w)) 1 rfl ?_
        have h16 := (kx.1 y4 (by omega) (by omega))
        refine e_Ok.ald (z := w (17 * a + 88) y4) rfl (lA2 (a := a) (by omega) (by omega)) rfl (by omega) rfl (by omega) ?_
        refine e_Ok.run (t' := (31, [(5, (0, z15)), (0, (1, 250)), (1, (1, 17 * a + 86)), (2, (0, f)), (3, (0, rr)), (4, (0, y4))], [(1, 17 * a + 86), (0, w (17 * a + 88) y4), (1, 250)], w)) 1 rfl ?_
        refine e_Ok.getr (z := 17 * a + 89) rfl (lA0 (a := a) (by omega) (by omega)) rfl rfl (Eq.trans (e_Has.eq hT (kA_2 (a := a) (by omega) (by omega))) (by omega)) (by omega) ?_
        refine e_Ok.run (t' := (36, [(5, (0, z15)), (0, (1, 250)), (1, (1, 17 * a + 86)), (2, (0, f)), (3, (0, rr)), (4, (0, y4))], [(0, y4), (1, 17 * a + 89), (0, w (17 * a + 88) y4), (1, 250)], w)) 1 rfl ?_
        have h17 := (kx.2 y4 (by omega) (by omega))
        refine e_Ok.ald (z := w (17 * a + 89) y4) rfl (lA3 (a := a) (by omega) (by omega)) rfl (by omega) rfl (by omega) ?_
        refine e_Ok.run (t' := (38, [(5, (0, z15)), (0, (1, 250)), (1, (1, 17 * a + 86)), (2, (0, f)), (3, (0, rr)), (4, (0, y4))], [(1, 17 * a + 86), (0, w (17 * a + 89) y4), (0, w (17 * a + 88) y4), (1, 250)], w)) 1 rfl ?_
        refine e_Ok.getr (z := 17 * a + 88) rfl (lA0 (a := a) (by omega) (by omega)) rfl rfl (Eq.trans (e_Has.eq hT (kA_1 (a := a) (by omega) (by omega))) (by omega)) (by omega) ?_
        refine e_Ok.run (t' := (44, [(5, (0, z15)), (0, (1, 250)), (1, (1, 17 * a + 86)), (2, (0, f)), (3, (0, rr)), (4, (0, y4))], [(0, 1), (0, y4), (1, 17 * a + 88), (0, w (17 * a + 89) y4), (0, w (17 * a + 88) y4), (1, 250)], w)) 2 rfl ?_
        refine e_Ok.add (z := y4 + 1) rfl (by omega) (by omega) ?_
        have h18 := (kx.1 (y4 + 1) (by omega) (by omega))
        refine e_Ok.ald (z := w (17 * a + 88) (y4 + 1)) rfl (lA2 (a := a) (by omega) (by omega)) rfl (by omega) rfl (by omega) ?_
        refine e_Ok.run (t' := (47, [(5, (0, z15)), (0, (1, 250)), (1, (1, 17 * a + 86)), (2, (0, f)), (3, (0, rr)), (4, (0, y4))], [(1, 17 * a + 86), (0, w (17 * a + 88) (y4 + 1)), (0, w (17 * a + 89) y4), (0, w (17 * a + 88) y4), (1, 250)], w)) 1 rfl ?_
        refine e_Ok.getr (z := 17 * a + 89) rfl (lA0 (a := a) (by omega) (by omega)) rfl rfl (Eq.trans (e_Has.eq hT (kA_2 (a := a) (by omega) (by omega))) (by omega)) (by omega) ?_
        refine e_Ok.run (t' := (53, [(5, (0, z15)), (0, (1, 250)), (1, (1, 17 * a + 86)), (2, (0, f)), (3, (0, rr)), (4, (0, y4))], [(0, 1), (0, y4), (1, 17 * a + 89), (0, w (17 * a + 88) (y4 + 1)), (0, w (17 * a + 89) y4), (0, w (17 * a + 88) y4), (1, 250)], w)) 2 rfl ?_
        refine e_Ok.add (z := y4 + 1) rfl (by omega) (by omega) ?_
        have h19 := (kx.2 (y4 + 1) (by omega) (by omega))
        refine e_Ok.ald (z := w (17 * a + 89) (y4 + 1)) rfl (lA3 (a := a) (by omega) (by omega)) rfl (by omega) rfl (by omega) ?_
        refine e_Ok.run (t' := (57, [(5, (0, z15)), (0, (1, 250)), (1, (1, 17 * a + 86)), (2, (0, f)), (3, (0, rr)), (4, (0, y4))], [(0, z15), (0, w (17 * a + 89) (y4 + 1)), (0, w (17 * a + 88) (y4 + 1)), (0, w (17 * a + 89) y4), (0, w (17 * a + 88) y4), (1, 250)], w)) 1 rfl ?_
        refine e_Ok.callV rfl (by omega) rfl rfl rfl rfl (b_175 (by omega) hT (by omega) (by omega) (by omega) (by omega) (by omega) kl) (fun r20 w21 h22 => ?_)
        obtain ⟨z24, rfl, rfl, q23r⟩ := h22
        show e_Ok 1 elay code1 eI (d + 1) 172 (60, [(5, (0, z15)), (0, (1, 250)), (1, (1, 17 * a + 86)), (2, (0, f)), (3, (0, rr)), (4, (0, y4))], [(0, z24)], w) _
        refine e_Ok.if1 rfl (fun h25 => ?_) (fun h25 => ?_)
        · replace h25 : (z24 : Int) = 0 := h25
          refine e_Ok.inc (z := y4 + 1) rfl rfl (by omega) (by omega) ?_
          show e_Ok 1 elay code1 eI (d + 1) 172 (68, [(4, (0, y4 + 1)), (5, (0, z15)), (0, (1, 250)), (1, (1, 17 * a + 86)), (2, (0, f)), (3, (0, rr))], [], w) _
          refine e_Ok.run (t' := (3, [(4, (0, y4 + 1)), (5, (0, z15)), (0, (1, 250)), (1, (1, 17 * a + 86)), (2, (0, f)), (3, (0, rr))], [], w)) 1 rfl ?_
          refine e_Ok.sub c1lk (e_sub_of rfl ?_) (ih2 (y4 + 1) (by omega) (by omega))
          exact ⟨rfl, rfl, rfl, rfl, rfl, trivial⟩
        · replace h25 : (z24 : Int) ≠ 0 := by have q : ¬ ((z24 : Int) = 0) := h25; omega
          refine e_Ok.run (t' := (64, [(5, (0, z15)), (0, (1, 250)), (1, (1, 17 * a + 86)), (2, (0, f)), (3, (0, rr)), (4, (0, y4))], [(0, 1)], w)) 1 rfl ?_
          refine e_Ok.rets rfl rfl ?_
          exact ⟨_, rfl, rfl, ⟨by omega, by omega⟩⟩
  refine e_Ok.sub c1lk (e_sub_of rfl ?_) (hL1 (10 + 1 : Int).toNat f (by omega) (by omega))
  exact ⟨rfl, rfl, rfl, rfl, rfl, trivial⟩
theorem b_6 {d : Nat} {w : eW} (hT : e_Has kTy w) {a i s : Int} (g_a : 0 ≤ a ∧ a ≤ 3) (g_i : 0 ≤ i ∧ i ≤ 6) (g_s : (-2147483648) ≤ s ∧ s ≤ 2147483647) : e_Ok 1 elay code1 eI d 6 (0, [(0, (1, 17 * a + 86)), (1, (0, i)), (2, (0, s))], [], w) (fun r w' => ∃ z : Int, r = [(0, z)] ∧ w = w' ∧ (0 ≤ z ∧ z ≤ 1)) := by
  refine e_Ok.run (t' := (1, [(0, (1, 17 * a + 86)), (1, (0, i)), (2, (0, s))], [(1, 17 * a + 86)], w)) 1 rfl ?_
  refine e_Ok.getr (z := 17 * a + 92) rfl (lA0 (a := a) (by omega) (by omega)) rfl rfl (Eq.trans (e_Has.eq hT (kA_5 (a := a) (by omega) (by omega))) (by omega)) (by omega) ?_
  refine e_Ok.run (t' := (5, [(0, (1, 17 * a + 86)), (1, (0, i)), (2, (0, s))], [(0, i), (1, 17 * a + 92)], w)) 1 rfl ?_
  have h1 := (e_Has.get hT (c := 17 * a + 92) (k := i) (lo := (-2147483648)) (hi := 2147483647) (kA92 (a := a) _ (by omega) (by omega)) (by decide))
  refine e_Ok.ald (z := w (17 * a + 92) i) rfl (lA6 (a := a) (by omega) (by omega)) rfl (by omega) rfl (by omega) ?_
  refine e_Ok.run (t' := (7, [(0, (1, 17 * a + 86)), (1, (0, i)), (2, (0, s))], [(0, s), (0, w (17 * a + 92) i)], w)) 1 rfl ?_
  refine e_Ok.any rfl (eB_any _ _) (fun z2 z2a z2b => ?_)
  refine e_Ok.run (t' := (9, [(0, (1, 17 * a + 86)), (1, (0, i)), (2, (0, s))], [(0, 1), (0, z2)], w)) 1 rfl ?_
  refine e_Ok.andm 1 1 rfl (by decide) (fun z3 hz3 => ?_)
  replace hz3 : 0 ≤ z3 ∧ z3 ≤ 1 := by omega
  have hJ6 : ∀ m5 : Int, 0 ≤ m5 ∧ m5 ≤ 1 → e_Ok 1 elay code1 eI d 6 (18, [(0, (1, 17 * a + 86)), (1, (0, i)), (2, (0, s))], [(0, m5)], w) (fun r w' => ∃ z : Int, r = [(0, z)] ∧ w = w' ∧ (0 ≤ z ∧ z ≤ 1)) := by
    intro m5 m5r
    refine e_Ok.retb rfl (by omega) ?_
    exact ⟨_, rfl, rfl, ⟨by omega, by omega⟩⟩
  refine e_Ok.if1 rfl (fun h4 => ?_) (fun h4 => ?_)
  · exact e_Ok.run 1 rfl (hJ6 0 (by omega))
  · exact e_Ok.run 2 rfl (hJ6 1 (by omega))
theorem b_173 {d : Nat} (hd : 3 ≤ d) {w : eW} (hT : e_Has kTy w) {s rr : Int} (g_s : 0 ≤ s ∧ s ≤ 15) (g_rr : (-2147483648) ≤ rr ∧ rr ≤ 2147483647) (kl : e_kn w 250 13 16) : e_Ok 1 elay code1 eI d 173 (0, [(0, (1, 250)), (1, (0, s)), (2, (0, rr))], [], w) (fun r w' => ∃ z : Int, r = [(0, z)] ∧ w = w' ∧ (0 ≤ z ∧ z ≤ 1)) := by
  obtain ⟨d, rfl⟩ : ∃ e, d = e + 1 := ⟨d - 1, by omega⟩
  refine e_Ok.run (t' := (1, [(0, (1, 250)), (1, (0, s)), (2, (0, rr))], [(1, 250)], w)) 1 rfl ?_
  refine e_Ok.getr (z := 251) rfl (el_o rfl) rfl rfl (Eq.trans (e_Has.eq hT rfl) (by omega)) (by omega) ?_
  refine e_Ok.run (t' := (5, [(0, (1, 250)), (1, (0, s)), (2, (0, rr))], [(0, s), (1, 251)], w)) 1 rfl ?_
  have h1 := (e_Has.get hT (c := 251) (k := s) (lo := (-2147483648)) (hi := 2147483647) rfl (by decide))
  refine e_Ok.ald (z := w 251 s) rfl (el_o rfl) rfl (by omega) rfl (by omega) ?_
  refine e_Ok.run (t' := (8, [(3, (0, w 251 s)), (0, (1, 250)), (1, (0, s)), (2, (0, rr))], [(1, 250)], w)) 2 rfl ?_
  refine e_Ok.getr (z := 252) rfl (el_o rfl) rfl rfl (Eq.trans (e_Has.eq hT rfl) (by omega)) (by omega) ?_
  refine e_Ok.run (t' := (12, [(3, (0, w 251 s)), (0, (1, 250)), (1, (0, s)), (2, (0, rr))], [(0, s), (1, 252)], w)) 1 rfl ?_
  have h2 := (e_Has.get hT (c := 252) (k := s) (lo := (-2147483648)) (hi := 2147483647) rfl (by decide))
  refine e_Ok.ald (z := w 252 s) rfl (el_o rfl) rfl (by omega) rfl (by omega) ?_
  refine e_Ok.run (t' := (16, [(4, (0, w 252 s)), (3, (0, w 251 s)), (0, (1, 250)), (1, (0, s)), (2, (0, rr))], [(1, 250)], w)) 2 rfl ?_
  refine e_Ok.getr (z := 255) rfl (el_o rfl) rfl rfl (Eq.trans (e_Has.eq hT rfl) (by omega)) (by omega) ?_
  refine e_Ok.run (t' := (20, [(4, (0, w 252 s)), (3, (0, w 251 s)), (0, (1, 250)), (1, (0, s)), (2, (0, rr))], [(0, s), (1, 255)], w)) 1 rfl ?_
  have h3 := (e_Has.get hT (c := 255) (k := s) (lo := (-2147483648)) (hi := 2147483647) rfl (by decide))
  refine e_Ok.ald (z := w 255 s) rfl (el_o rfl) rfl (by omega) rfl (by omega) ?_
  refine e_Ok.run (t' := (22, [(4, (0, w 252 s)), (3, (0, w 251 s)), (0, (1, 250)), (1, (0, s)), (2, (0, rr))], [(0, (-1)), (0, w 255 s)], w)) 1 rfl ?_
  refine e_Ok.if2 rfl (fun h4 => ?_) (fun h4 => ?_)
  · replace h4 : (w 255 s : Int) = (-1) := h4
    refine e_Ok.run (t' := (46, [(4, (0, w 252 s)), (3, (0, w 251 s)), (0, (1, 250)), (1, (0, s)), (2, (0, rr))], [(1, 250), (0, w 251 s)], w)) 2 rfl ?_
    refine e_Ok.getr (z := 253) rfl (el_o rfl) rfl rfl (Eq.trans (e_Has.eq hT rfl) (by omega)) (by omega) ?_
    refine e_Ok.run (t' := (50, [(4, (0, w 252 s)), (3, (0, w 251 s)), (0, (1, 250)), (1, (0, s)), (2, (0, rr))], [(0, s), (1, 253), (0, w 251 s)], w)) 1 rfl ?_
    have h5 := (e_Has.get hT (c := 253) (k := s) (lo := (-2147483648)) (hi := 2147483647) rfl (by decide))
    refine e_Ok.ald (z := w 253 s) rfl (el_o rfl) rfl (by omega) rfl (by omega) ?_
    refine e_Ok.any rfl (eF_add_any _ _) (fun z6 z6a z6b => ?_)
    refine e_Ok.run (t' := (57, [(5, (0, z6)), (4, (0, w 252 s)), (3, (0, w 251 s)), (0, (1, 250)), (1, (0, s)), (2, (0, rr))], [(1, 250), (0, w 252 s)], w)) 3 rfl ?_
    refine e_Ok.getr (z := 254) rfl (el_o rfl) rfl rfl (Eq.trans (e_Has.eq hT rfl) (by omega)) (by omega) ?_
    refine e_Ok.run (t' := (61, [(5, (0, z6)), (4, (0, w 252 s)), (3, (0, w 251 s)), (0, (1, 250)), (1, (0, s)), (2, (0, rr))], [(0, s), (1, 254), (0, w 252 s)], w)) 1 rfl ?_
    have h7 := (e_Has.get hT (c := 254) (k := s) (lo := (-2147483648)) (hi := 2147483647) rfl (by decide))
    refine e_Ok.ald (z := w 254 s) rfl (el_o rfl) rfl (by omega) rfl (by omega) ?_
    refine e_Ok.any rfl (eF_add_any _ _) (fun z8 z8a z8b => ?_)
    refine e_Ok.run (t' := (74, [(6, (0, z8)), (5, (0, z6)), (4, (0, w 252 s)), (3, (0, w 251 s)), (0, (1, 250)), (1, (0, s)), (2, (0, rr))], [(0, rr), (0, z8), (0, z6), (0, w 252 s), (0, w 251 s), (1, 250)], w)) 7 rfl ?_
    refine e_Ok.callV rfl (by omega) rfl rfl rfl rfl (b_174 hT (by omega) (by omega) (by omega) (by omega) (by omega) kl) (fun r9 w10 h11 => ?_)
    obtain ⟨z13, rfl, rfl, q12r⟩ := h11
    show e_Ok 1 elay code1 eI (d + 1) 173 (77, [(6, (0, z8)), (5, (0, z6)), (4, (0, w 252 s)), (3, (0, w 251 s)), (0, (1, 250)), (1, (0, s)), (2, (0, rr))], [(0, z13)], w) _
    refine e_Ok.if1 rfl (fun h14 => ?_) (fun h14 => ?_)
    · replace h14 : (z13 : Int) = 0 := h14
      have hC111 : e_Ok 1 elay code1 eI (d + 1) 173 (111, [(0, (1, 250)), (2, (0, rr)), (3, (0, w 251 s)), (4, (0, w 252 s)), (5, (0, z6)), (6, (0, z8))], [], w) (fun r w' => ∃ z : Int, r = [(0, z)] ∧ w = w' ∧ (0 ≤ z ∧ z ≤ 1)) := by
        refine e_Ok.run (t' := (120, [(0, (1, 250)), (2, (0, rr)), (3, (0, w 251 s)), (4, (0, w 252 s)), (5, (0, z6)), (6, (0, z8))], [(0, rr), (0, w 252 s), (0, z6), (0, w 252 s), (0, w 251 s), (1, 250)], w)) 6 rfl ?_
        refine e_Ok.callV rfl (by omega) rfl rfl rfl rfl (b_175 (by omega) hT (by omega) (by omega) (by omega) (by omega) (by omega) kl) (fun r15 w16 h17 => ?_)
        obtain ⟨z19, rfl, rfl, q18r⟩ := h17
        show e_Ok 1 elay code1 eI (d + 1) 173 (123, [(0, (1, 250)), (2, (0, rr)), (3, (0, w 251 s)), (4, (0, w 252 s)), (5, (0, z6)), (6, (0, z8))], [(0, z19)], w) _
        refine e_Ok.if1 rfl (fun h20 => ?_) (fun h20 => ?_)
        · replace h20 : (z19 : Int) ≠ 0 := h20
          refine e_Ok.run (t' := (176, [(0, (1, 250)), (2, (0, rr)), (3, (0, w 251 s)), (4, (0, w 252 s)), (5, (0, z6)), (6, (0, z8))], [(0, 1)], w)) 2 rfl ?_
          refine e_Ok.rets rfl rfl ?_
          exact ⟨_, rfl, rfl, ⟨by omega, by omega⟩⟩
        · replace h20 : (z19 : Int) = 0 := by have q : ¬ ((z19 : Int) ≠ 0) := h20; omega
          refine e_Ok.run (t' := (135, [(0, (1, 250)), (2, (0, rr)), (3, (0, w 251 s)), (4, (0, w 252 s)), (5, (0, z6)), (6, (0, z8))], [(0, rr), (0, z8), (0, z6), (0, z8), (0, w 251 s), (1, 250)], w)) 6 rfl ?_
          refine e_Ok.callV rfl (by omega) rfl rfl rfl rfl (b_175 (by omega) hT (by omega) (by omega) (by omega) (by omega) (by omega) kl) (fun r21 w22 h23 => ?_)
          obtain ⟨z25, rfl, rfl, q24r⟩ := h23
          show e_Ok 1 elay code1 eI (d + 1) 173 (138, [(0, (1, 250)), (2, (0, rr)), (3, (0, w 251 s)), (4, (0, w 252 s)), (5, (0, z6)), (6, (0, z8))], [(0, z25)], w) _
          refine e_Ok.if1 rfl (fun h26 => ?_) (fun h26 => ?_)
          · replace h26 : (z25 : Int) ≠ 0 := h26
            refine e_Ok.run (t' := (176, [(0, (1, 250)), (2, (0, rr)), (3, (0, w 251 s)), (4, (0, w 252 s)), (5, (0, z6)), (6, (0, z8))], [(0, 1)], w)) 2 rfl ?_
            refine e_Ok.rets rfl rfl ?_
            exact ⟨_, rfl, rfl, ⟨by omega, by omega⟩⟩
          · replace h26 : (z25 : Int) = 0 := by have q : ¬ ((z25 : Int) ≠ 0) := h26; omega
            refine e_Ok.run (t' := (149, [(0, (1, 250)), (2, (0, rr)), (3, (0, w 251 s)), (4, (0, w 252 s)), (5, (0, z6)), (6, (0, z8))], [(0, rr), (0, z8), (0, w 251 s), (0, w 252 s), (0, w 251 s), (1, 250)], w)) 6 rfl ?_
            refine e_Ok.callV rfl (by omega) rfl rfl rfl rfl (b_175 (by omega) hT (by omega) (by omega) (by omega) (by omega) (by omega) kl) (fun r27 w28 h29 => ?_)
            obtain ⟨z31, rfl, rfl, q30r⟩ := h29
            show e_Ok 1 elay code1 eI (d + 1) 173 (152, [(0, (1, 250)), (2, (0, rr)), (3, (0, w 251 s)), (4, (0, w 252 s)), (5, (0, z6)), (6, (0, z8))], [(0, z31)], w) _
            refine e_Ok.if1 rfl (fun h32 => ?_) (fun h32 => ?_)
            · replace h32 : (z31 : Int) ≠ 0 := h32
              refine e_Ok.run (t' := (176, [(0, (1, 250)), (2, (0, rr)), (3, (0, w 251 s)), (4, (0, w 252 s)), (5, (0, z6)), (6, (0, z8))], [(0, 1)], w)) 2 rfl ?_
              refine e_Ok.rets rfl rfl ?_
              exact ⟨_, rfl, rfl, ⟨by omega, by omega⟩⟩
            · replace h32 : (z31 : Int) = 0 := by have q : ¬ ((z31 : Int) ≠ 0) := h32; omega
              refine e_Ok.run (t' := (165, [(0, (1, 250)), (2, (0, rr)), (3, (0, w 251 s)), (4, (0, w 252 s)), (5, (0, z6)), (6, (0, z8))], [(0, rr), (0, z8), (0, z6), (0, w 252 s), (0, z6), (1, 250)], w)) 6 rfl ?_
              refine e_Ok.callV rfl (by omega) rfl rfl rfl rfl (b_175 (by omega) hT (by omega) (by omega) (by omega) (by omega) (by omega) kl) (fun r33 w34 h35 => ?_)
              obtain ⟨z37, rfl, rfl, q36r⟩ := h35
              show e_Ok 1 elay code1 eI (d + 1) 173 (168, [(0, (1, 250)), (2, (0, rr)), (3, (0, w 251 s)), (4, (0, w 252 s)), (5, (0, z6)), (6, (0, z8))], [(0, z37)], w) _
              have hJ41 : ∀ m40 : Int, 0 ≤ m40 ∧ m40 ≤ 1 → e_Ok 1 elay code1 eI (d + 1) 173 (176, [(0, (1, 250)), (2, (0, rr)), (3, (0, w 251 s)), (4, (0, w 252 s)), (5, (0, z6)), (6, (0, z8))], [(0, m40)], w) (fun r w' => ∃ z : Int, r = [(0, z)] ∧ w = w' ∧ (0 ≤ z ∧ z ≤ 1)) := by
                intro m40 m40r
                refine e_Ok.retb rfl (by omega) ?_
                exact ⟨_, rfl, rfl, ⟨by omega, by omega⟩⟩
              refine e_Ok.if1 rfl (fun h38 => ?_) (fun h38 => ?_)
              · exact e_Ok.run 1 rfl (hJ41 0 (by omega))
              · exact e_Ok.run 2 rfl (hJ41 1 (by omega))
      refine e_Ok.run (t' := (83, [(6, (0, z8)), (5, (0, z6)), (4, (0, w 252 s)), (3, (0, w 251 s)), (0, (1, 250)), (1, (0, s)), (2, (0, rr))], [(1, 250)], w)) 1 rfl ?_
      have h42 := (kl 13 (by omega) (by omega))
      refine e_Ok.getf (z := w 250 13) rfl (el_o rfl) rfl rfl rfl (by omega) ?_
      refine e_Ok.run (t' := (89, [(6, (0, z8)), (5, (0, z6)), (4, (0, w 252 s)), (3, (0, w 251 s)), (0, (1, 250)), (1, (0, s)), (2, (0, rr))], [(0, z6), (0, w 251 s), (0, w 250 13)], w)) 2 rfl ?_
      refine e_Ok.callS rfl (by omega) rfl rfl (b_242 (by omega) (by omega) (by omega)) (fun r43 w44 h45 => ?_)
      obtain ⟨z46, rfl, rfl, q47⟩ := h45
      obtain ⟨rfl, q47⟩ | ⟨rfl, q47⟩ := q47
      · show e_Ok 1 elay code1 eI (d + 1) 173 (92, [(6, (0, z8)), (5, (0, z6)), (4, (0, w 252 s)), (3, (0, w 251 s)), (0, (1, 250)), (1, (0, s)), (2, (0, rr))], [(0, 1)], w) _
        refine e_Ok.if1 rfl (fun h48 => ?_) (fun h48 => ?_)
        · replace h48 : (1 : Int) = 0 := h48
          exfalso; omega
        · replace h48 : (1 : Int) ≠ 0 := by have q : ¬ ((1 : Int) = 0) := h48; omega
          refine e_Ok.run (t' := (96, [(6, (0, z8)), (5, (0, z6)), (4, (0, w 252 s)), (3, (0, w 251 s)), (0, (1, 250)), (1, (0, s)), (2, (0, rr))], [(1, 250)], w)) 1 rfl ?_
          have h49 := (kl 14 (by omega) (by omega))
          refine e_Ok.getf (z := w 250 14) rfl (el_o rfl) rfl rfl rfl (by omega) ?_
          refine e_Ok.run (t' := (103, [(6, (0, z8)), (5, (0, z6)), (4, (0, w 252 s)), (3, (0, w 251 s)), (0, (1, 250)), (1, (0, s)), (2, (0, rr))], [(0, z8), (0, w 252 s), (0, w 250 14)], w)) 2 rfl ?_
          refine e_Ok.callS rfl (by omega) rfl rfl (b_242 (by omega) (by omega) (by omega)) (fun r50 w51 h52 => ?_)
          obtain ⟨z53, rfl, rfl, q54⟩ := h52
          obtain ⟨rfl, q54⟩ | ⟨rfl, q54⟩ := q54
          · show e_Ok 1 elay code1 eI (d + 1) 173 (106, [(6, (0, z8)), (5, (0, z6)), (4, (0, w 252 s)), (3, (0, w 251 s)), (0, (1, 250)), (1, (0, s)), (2, (0, rr))], [(0, 1)], w) _
            refine e_Ok.if1 rfl (fun h55 => ?_) (fun h55 => ?_)
            · replace h55 : (1 : Int) = 0 := h55
              exfalso; omega
            · replace h55 : (1 : Int) ≠ 0 := by have q : ¬ ((1 : Int) = 0) := h55; omega
              refine e_Ok.run (t' := (110, [(6, (0, z8)), (5, (0, z6)), (4, (0, w 252 s)), (3, (0, w 251 s)), (0, (1, 250)), (1, (0, s)), (2, (0, rr))], [(0, 1)], w)) 1 rfl ?_
              refine e_Ok.rets rfl rfl ?_
              exact ⟨_, rfl, rfl, ⟨by omega, by omega⟩⟩
          · show e_Ok 1 elay code1 eI (d + 1) 173 (106, [(6, (0, z8)), (5, (0, z6)), (4, (0, w 252 s)), (3, (0, w 251 s)), (0, (1, 250)), (1, (0, s)), (2, (0, rr))], [(0, 0)], w) _
            refine e_Ok.if1 rfl (fun h56 => ?_) (fun h56 => ?_)
            · replace h56 : (0 : Int) = 0 := h56
              refine e_Ok.sub c1lk (e_sub_of rfl ?_) hC111
              exact ⟨rfl, rfl, rfl, rfl, rfl, rfl, trivial⟩
            · replace h56 : (0 : Int) ≠ 0 := by have q : ¬ ((0 : Int) = 0) := h56; omega
              exfalso; omega
      · show e_Ok 1 elay code1 eI (d + 1) 173 (92, [(6, (0, z8)), (5, (0, z6)), (4, (0, w 252 s)), (3, (0, w 251 s)), (0, (1, 250)), (1, (0, s)), (2, (0, rr))], [(0, 0)], w) _
        refine e_Ok.if1 rfl (fun h57 => ?_) (fun h57 => ?_)
        · replace h57 : (0 : Int) = 0 := h57
          refine e_Ok.sub c1lk (e_sub_of rfl ?_) hC111
          exact ⟨rfl, rfl, rfl, rfl, rfl, rfl, trivial⟩
        · replace h57 : (0 : Int) ≠ 0 := by have q : ¬ ((0 : Int) = 0) := h57; omega
          exfalso; omega
    · replace h14 : (z13 : Int) ≠ 0 := by have q : ¬ ((z13 : Int) = 0) := h14; omega
      refine e_Ok.run (t' := (81, [(6, (0, z8)), (5, (0, z6)), (4, (0, w 252 s)), (3, (0, w 251 s)), (0, (1, 250)), (1, (0, s)), (2, (0, rr))], [(0, 0)], w)) 1 rfl ?_
      refine e_Ok.rets rfl rfl ?_
      exact ⟨_, rfl, rfl, ⟨by omega, by omega⟩⟩
  · replace h4 : (w 255 s : Int) ≠ (-1) := by have q : ¬ ((w 255 s : Int) = (-1)) := h4; omega
    refine e_Ok.run (t' := (34, [(4, (0, w 252 s)), (3, (0, w 251 s)), (0, (1, 250)), (1, (0, s)), (2, (0, rr))], [(1, 250), (0, rr), (0, w 252 s), (0, w 251 s), (0, w 252 s), (0, w 251 s), (1, 250)], w)) 7 rfl ?_
    refine e_Ok.getr (z := 255) rfl (el_o rfl) rfl rfl (Eq.trans (e_Has.eq hT rfl) (by omega)) (by omega) ?_
    refine e_Ok.run (t' := (38, [(4, (0, w 252 s)), (3, (0, w 251 s)), (0, (1, 250)), (1, (0, s)), (2, (0, rr))], [(0, s), (1, 255), (0, rr), (0, w 252 s), (0, w 251 s), (0, w 252 s), (0, w 251 s), (1, 250)], w)) 1 rfl ?_
    refine e_Ok.ald (z := w 255 s) rfl (el_o rfl) rfl (by omega) rfl (by omega) ?_
    refine e_Ok.any rfl (eF_add_any _ _) (fun z58 z58a z58b => ?_)
    refine e_Ok.callV rfl (by omega) rfl rfl rfl rfl (b_175 (by omega) hT (by omega) (by omega) (by omega) (by omega) (by omega) kl) (fun r59 w60 h61 => ?_)
    obtain ⟨z63, rfl, rfl, q62r⟩ := h61
    show e_Ok 1 elay code1 eI (d + 1) 173 (43, [(4, (0, w 252 s)), (3, (0, w 251 s)), (0, (1, 250)), (1, (0, s)), (2, (0, rr))], [(0, z63)], w) _
    refine e_Ok.retb rfl (by omega) ?_
    exact ⟨_, rfl, rfl, ⟨by omega, by omega⟩⟩
theorem b_171 {d : Nat} (hd : 4 ≤ d) {w : eW} (hT : e_Has kTy w) {n a o m : Int} (g_n : 0 ≤ n ∧ n ≤ 4) (g_a : 0 ≤ a ∧ a ≤ 3) (g_o : 0 ≤ o ∧ o ≤ 4) (g_m : (-2147483648) ≤ m ∧ m ≤ 2147483647) (ka : ∀ b, 0 ≤ b → b ≤ 3 → aK w b) : e_Ok 1 elay code1 eI d 171 (0, [(0, (1, 250)), (1, (1, 9)), (2, (0, n)), (3, (0, a)), (4, (0, o)), (5, (0, m))], [], w) (fun r w' => ∃ z : Int, r = [(0, z)] ∧ e_fr kTc w w' ∧ e_Has kTy w' ∧ (0 ≤ z ∧ z ≤ 1)) := by
  obtain ⟨d, rfl⟩ : ∃ e, d = e + 1 := ⟨d - 1, by omega⟩
  have kx := ka a (by omega) (by omega)
  refine e_Ok.run (t' := (2, [(0, (1, 250)), (1, (1, 9)), (2, (0, n)), (3, (0, a)), (4, (0, o)), (5, (0, m))], [(0, a), (1, 9)], w)) 2 rfl ?_
  refine e_Ok.aald (z := 17 * a + 86) rfl (el_o rfl) rfl (by omega) (Eq.trans (e_Has.eq hT (k9 (by omega))) (by omega)) (by omega) ?_
  refine e_Ok.run (t' := (7, [(6, (1, 17 * a + 86)), (0, (1, 250)), (1, (1, 9)), (2, (0, n)), (3, (0, a)), (4, (0, o)), (5, (0, m))], [(1, 17 * a + 86)], w)) 2 rfl ?_
  refine e_Ok.callV rfl (by omega) rfl (lA0 (a := a) (by omega) (by omega)) rfl rfl (b_7 (a := a) hT (by omega)) (fun r1 w2 h3 => ?_)
  obtain ⟨z5, rfl, rfl, q4r, q4x⟩ := h3
  replace q4x : z5 ≤ w (17 * a + 86) 8 + 1 := q4x
  show e_Ok 1 elay code1 eI (d + 1) 171 (10, [(6, (1, 17 * a + 86)), (0, (1, 250)), (1, (1, 9)), (2, (0, n)), (3, (0, a)), (4, (0, o)), (5, (0, m))], [(0, z5)], w) _
  refine e_Ok.run (t' := (15, [(8, (0, 0)), (7, (0, z5)), (6, (1, 17 * a + 86)), (0, (1, 250)), (1, (1, 9)), (2, (0, n)), (3, (0, a)), (4, (0, o)), (5, (0, m))], [], w)) 3 rfl ?_
  have hL6 : ∀ (nn : Nat) (y8 : Int) (v1 : eW), e_fr kTc w v1 ∧ e_Has kTy v1 ∧ (0 ≤ y8 ∧ y8 ≤ 7) → 8 - y8 < nn → e_Ok 1 elay code1 eI (d + 1) 171 (15, [(0, (1, 250)), (1, (1, 9)), (2, (0, n)), (3, (0, a)), (4, (0, o)), (5, (0, m)), (6, (1, 17 * a + 86)), (7, (0, z5)), (8, (0, y8))], [], v1) (fun r w' => ∃ z : Int, r = [(0, z)] ∧ e_fr kTc w w' ∧ e_Has kTy w' ∧ (0 ≤ z ∧ z ≤ 1)) := by
    intro nn
    induction nn with
    | zero => intro y8 v1 hj hm; obtain ⟨j8, j9, j10⟩ := hj; exfalso; omega
    | succ nn ih7 =>
      intro y8 v1 hj hm
      obtain ⟨j8, j9, j10⟩ := hj
      have l11 : v1 (17 * a + 86) 8 = w (17 * a + 86) 8 := j8 (17 * a + 86) 8 (by unfold kTc; omega)
      refine e_Ok.run (t' := (19, [(0, (1, 250)), (1, (1, 9)), (2, (0, n)), (3, (0, a)), (4, (0, o)), (5, (0, m)), (6, (1, 17 * a + 86)), (7, (0, z5)), (8, (0, y8))], [(0, z5), (0, y8)], v1)) 2 rfl ?_
      refine e_Ok.if2 rfl (fun h12 => ?_) (fun h12 => ?_)
      · replace h12 : (y8 : Int) ≥ z5 := h12
        refine e_Ok.run (t' := (191, [(0, (1, 250)), (1, (1, 9)), (2, (0, n)), (3, (0, a)), (4, (0, o)), (5, (0, m)), (6, (1, 17 * a + 86)), (7, (0, z5)), (8, (0, y8))], [(0, 0)], v1)) 1 rfl ?_
        refine e_Ok.rets rfl rfl ?_
        exact ⟨_, rfl, j8, j9, ⟨by omega, by omega⟩⟩
      · replace h12 : (y8 : Int) < z5 := by have q : ¬ ((y8 : Int) ≥ z5) := h12; omega
        refine e_Ok.run (t' := (25, [(0, (1, 250)), (1, (1, 9)), (2, (0, n)), (3, (0, a)), (4, (0, o)), (5, (0, m)), (6, (1, 17 * a + 86)), (7, (0, z5)), (8, (0, y8))], [(1, 17 * a + 86), (1, 250)], v1)) 2 rfl ?_
        refine e_Ok.getr (z := 17 * a + 88) rfl (lA0 (a := a) (by omega) (by omega)) rfl rfl ((j8 (17 * a + 86) 1 (by unfold kTc; omega)).trans (Eq.trans (e_Has.eq hT (kA_1 (a := a) (by omega) (by omega))) (by omega))) (by omega) ?_
        refine e_Ok.run (t' := (30, [(0, (1, 250)), (1, (1, 9)), (2, (0, n)), (3, (0, a)), (4, (0, o)), (5, (0, m)), (6, (1, 17 * a + 86)), (7, (0, z5)), (8, (0, y8))], [(0, y8), (1, 17 * a + 88), (1, 250)], v1)) 1 rfl ?_
        have h13 := (kx.1 y8 (by omega) (by omega))
        refine e_Ok.ald (z := w (17 * a + 88) y8) rfl (lA2 (a := a) (by omega) (by omega)) rfl (by omega) ((j8 (17 * a + 88) y8 (by unfold kTc; omega)).trans rfl) (by omega) ?_
        refine e_Ok.putf rfl (el_o rfl) rfl rfl ?_
        generalize hw14 : e_up v1 250 13 (w (17 * a + 88) y8) = w14
        have f15 : e_fr kTc w w14 := e_fr.up j8 hw14 (by unfold kTc; omega)
        have l16 : w14 (17 * a + 86) 8 = w (17 * a + 86) 8 := f15 (17 * a + 86) 8 (by unfold kTc; omega)
        have hT17 : e_Has kTy w14 := e_Has.ups j9 hw14 rfl
        refine e_Ok.run (t' := (37, [(0, (1, 250)), (1, (1, 9)), (2, (0, n)), (3, (0, a)), (4, (0, o)), (5, (0, m)), (6, (1, 17 * a + 86)), (7, (0, z5)), (8, (0, y8))], [(1, 17 * a + 86), (1, 250)], w14)) 2 rfl ?_
        refine e_Ok.getr (z := 17 * a + 89) rfl (lA0 (a := a) (by omega) (by omega)) rfl rfl (by rw [← hw14]; exact (e_up_ne _ _ (Or.inr (by omega))).trans ((j8 (17 * a + 86) 2 (by unfold kTc; omega)).trans (Eq.trans (e_Has.eq hT (kA_2 (a := a) (by omega) (by omega))) (by omega)))) (by omega) ?_
        refine e_Ok.run (t' := (42, [(0, (1, 250)), (1, (1, 9)), (2, (0, n)), (3, (0, a)), (4, (0, o)), (5, (0, m)), (6, (1, 17 * a + 86)), (7, (0, z5)), (8, (0, y8))], [(0, y8), (1, 17 * a + 89), (1, 250)], w14)) 1 rfl ?_
        have h18 := (kx.2 y8 (by omega) (by omega))
        refine e_Ok.ald (z := w (17 * a + 89) y8) rfl (lA3 (a := a) (by omega) (by omega)) rfl (by omega) (by rw [← hw14]; exact (e_up_ne _ _ (Or.inl (by omega))).trans ((j8 (17 * a + 89) y8 (by unfold kTc; omega)).trans rfl)) (by omega) ?_
        refine e_Ok.putf rfl (el_o rfl) rfl rfl ?_
        generalize hw19 : e_up w14 250 14 (w (17 * a + 89) y8) = w19
        have f20 : e_fr kTc w w19 := e_fr.up f15 hw19 (by unfold kTc; omega)
        have l21 : w19 (17 * a + 86) 8 = w (17 * a + 86) 8 := f20 (17 * a + 86) 8 (by unfold kTc; omega)
        have hT22 : e_Has kTy w19 := e_Has.ups hT17 hw19 rfl
        refine e_Ok.run (t' := (49, [(0, (1, 250)), (1, (1, 9)), (2, (0, n)), (3, (0, a)), (4, (0, o)), (5, (0, m)), (6, (1, 17 * a + 86)), (7, (0, z5)), (8, (0, y8))], [(1, 17 * a + 86), (1, 250)], w19)) 2 rfl ?_
        refine e_Ok.getr (z := 17 * a + 88) rfl (lA0 (a := a) (by omega) (by omega)) rfl rfl (by rw [← hw19]; exact (e_up_ne _ _ (Or.inr (by omega))).trans (by rw [← hw14]; exact (e_up_ne _ _ (Or.inr (by omega))).trans ((j8 (17 * a + 86) 1 (by unfold kTc; omega)).trans (Eq.trans (e_Has.eq hT (kA_1 (a := a) (by omega) (by omega))) (by omega))))) (by omega) ?_
        refine e_Ok.run (t' := (55, [(0, (1, 250)), (1, (1, 9)), (2, (0, n)), (3, (0, a)), (4, (0, o)), (5, (0, m)), (6, (1, 17 * a + 86)), (7, (0, z5)), (8, (0, y8))], [(0, 1), (0, y8), (1, 17 * a + 88), (1, 250)], w19)) 2 rfl ?_
        refine e_Ok.add (z := y8 + 1) rfl (by omega) (by omega) ?_
        have h23 := (kx.1 (y8 + 1) (by omega) (by omega))
        refine e_Ok.ald (z := w (17 * a + 88) (y8 + 1)) rfl (lA2 (a := a) (by omega) (by omega)) rfl (by omega) (by rw [← hw19]; exact (e_up_ne _ _ (Or.inl (by omega))).trans (by rw [← hw14]; exact (e_up_ne _ _ (Or.inl (by omega))).trans ((j8 (17 * a + 88) (y8 + 1) (by unfold kTc; omega)).trans rfl))) (by omega) ?_
        refine e_Ok.putf rfl (el_o rfl) rfl rfl ?_
        generalize hw24 : e_up w19 250 15 (w (17 * a + 88) (y8 + 1)) = w24
        have f25 : e_fr kTc w w24 := e_fr.up f20 hw24 (by unfold kTc; omega)
        have l26 : w24 (17 * a + 86) 8 = w (17 * a + 86) 8 := f25 (17 * a + 86) 8 (by unfold kTc; omega)
        have hT27 : e_Has kTy w24 := e_Has.ups hT22 hw24 rfl
        refine e_Ok.run (t' := (63, [(0, (1, 250)), (1, (1, 9)), (2, (0, n)), (3, (0, a)), (4, (0, o)), (5, (0, m)), (6, (1, 17 * a + 86)), (7, (0, z5)), (8, (0, y8))], [(1, 17 * a + 86), (1, 250)], w24)) 2 rfl ?_
        refine e_Ok.getr (z := 17 * a + 89) rfl (lA0 (a := a) (by omega) (by omega)) rfl rfl (by rw [← hw24]; exact (e_up_ne _ _ (Or.inr (by omega))).trans (by rw [← hw19]; exact (e_up_ne _ _ (Or.inr (by omega))).trans (by rw [← hw14]; exact (e_up_ne _ _ (Or.inr (by omega))).trans ((j8 (17 * a + 86) 2 (by unfold kTc; omega)).trans (Eq.trans (e_Has.eq hT (kA_2 (a := a) (by omega) (by omega))) (by omega)))))) (by omega) ?_
        refine e_Ok.run (t' := (69, [(0, (1, 250)), (1, (1, 9)), (2, (0, n)), (3, (0, a)), (4, (0, o)), (5, (0, m)), (6, (1, 17 * a + 86)), (7, (0, z5)), (8, (0, y8))], [(0, 1), (0, y8), (1, 17 * a + 89), (1, 250)], w24)) 2 rfl ?_
        refine e_Ok.add (z := y8 + 1) rfl (by omega) (by omega) ?_
        have h28 := (kx.2 (y8 + 1) (by omega) (by omega))
        refine e_Ok.ald (z := w (17 * a + 89) (y8 + 1)) rfl (lA3 (a := a) (by omega) (by omega)) rfl (by omega) (by rw [← hw24]; exact (e_up_ne _ _ (Or.inl (by omega))).trans (by rw [← hw19]; exact (e_up_ne _ _ (Or.inl (by omega))).trans (by rw [← hw14]; exact (e_up_ne _ _ (Or.inl (by omega))).trans ((j8 (17 * a + 89) (y8 + 1) (by unfold kTc; omega)).trans rfl)))) (by omega) ?_
        refine e_Ok.putf rfl (el_o rfl) rfl rfl ?_
        generalize hw29 : e_up w24 250 16 (w (17 * a + 89) (y8 + 1)) = w29
        have f30 : e_fr kTc w w29 := e_fr.up f25 hw29 (by unfold kTc; omega)
        have l31 : w29 (17 * a + 86) 8 = w (17 * a + 86) 8 := f30 (17 * a + 86) 8 (by unfold kTc; omega)
        have hT32 : e_Has kTy w29 := e_Has.ups hT27 hw29 rfl
        have kl33 : e_kn w29 250 13 16 := fun i g1 g2 => by
          obtain rfl | rfl | rfl | rfl : i = 13 ∨ i = 14 ∨ i = 15 ∨ i = 16 := by omega
          · rw [show w29 250 13 = w (17 * a + 88) y8 from (by rw [← hw29]; exact (e_up_ne _ _ (Or.inr (by omega))).trans (by rw [← hw24]; exact (e_up_ne _ _ (Or.inr (by omega))).trans (by rw [← hw19]; exact (e_up_ne _ _ (Or.inr (by omega))).trans (by rw [← hw14]; exact e_up_eq _ _ _ _))))]; omega
          · rw [show w29 250 14 = w (17 * a + 89) y8 from (by rw [← hw29]; exact (e_up_ne _ _ (Or.inr (by omega))).trans (by rw [← hw24]; exact (e_up_ne _ _ (Or.inr (by omega))).trans (by rw [← hw19]; exact e_up_eq _ _ _ _)))]; omega
          · rw [show w29 250 15 = w (17 * a + 88) (y8 + 1) from (by rw [← hw29]; exact (e_up_ne _ _ (Or.inr (by omega))).trans (by rw [← hw24]; exact e_up_eq _ _ _ _))]; omega
          · rw [show w29 250 16 = w (17 * a + 89) (y8 + 1) from (by rw [← hw29]; exact e_up_eq _ _ _ _)]; omega
        refine e_Ok.run (t' := (78, [(0, (1, 250)), (1, (1, 9)), (2, (0, n)), (3, (0, a)), (4, (0, o)), (5, (0, m)), (6, (1, 17 * a + 86)), (7, (0, z5)), (8, (0, y8))], [(0, y8), (1, 17 * a + 86)], w29)) 2 rfl ?_
        refine e_Ok.callV rfl (by omega) rfl (lA0 (a := a) (by omega) (by omega)) rfl rfl (b_8 (a := a) hT32 (by omega) (by omega)) (fun r34 w35 h36 => ?_)
        obtain ⟨z38, rfl, rfl, q37r⟩ := h36
        show e_Ok 1 elay code1 eI (d + 1) 171 (81, [(0, (1, 250)), (1, (1, 9)), (2, (0, n)), (3, (0, a)), (4, (0, o)), (5, (0, m)), (6, (1, 17 * a + 86)), (7, (0, z5)), (8, (0, y8))], [(0, z38)], w29) _
        refine e_Ok.run (t' := (83, [(0, (1, 250)), (1, (1, 9)), (2, (0, n)), (3, (0, a)), (4, (0, o)), (5, (0, m)), (6, (1, 17 * a + 86)), (7, (0, z5)), (8, (0, y8))], [(0, m), (0, z38)], w29)) 1 rfl ?_
        refine e_Ok.any rfl (eF_add_any _ _) (fun z40 z40a z40b => ?_)
        refine e_Ok.run (t' := (92, [(9, (0, z40)), (0, (1, 250)), (1, (1, 9)), (2, (0, n)), (3, (0, a)), (4, (0, o)), (5, (0, m)), (6, (1, 17 * a + 86)), (7, (0, z5)), (8, (0, y8))], [(0, 2), (0, y8), (1, 17 * a + 86), (1, 250)], w29)) 5 rfl ?_
        refine e_Ok.add (z := y8 + 2) rfl (by omega) (by omega) ?_
        refine e_Ok.run (t' := (95, [(9, (0, z40)), (0, (1, 250)), (1, (1, 9)), (2, (0, n)), (3, (0, a)), (4, (0, o)), (5, (0, m)), (6, (1, 17 * a + 86)), (7, (0, z5)), (8, (0, y8))], [(0, z40), (0, y8 + 2), (1, 17 * a + 86), (1, 250)], w29)) 1 rfl ?_
        refine e_Ok.callV rfl (by omega) rfl rfl rfl rfl (b_172 (by omega) (a := a) hT32 (by omega) (by omega) (by omega) kl33 (aK.fr f30 (fun k => by unfold kTc; omega) (by unfold kTc; omega) (ka a (by omega) (by omega)))) (fun r41 w42 h43 => ?_)
        obtain ⟨z45, rfl, rfl, q44r⟩ := h43
        show e_Ok 1 elay code1 eI (d + 1) 171 (98, [(9, (0, z40)), (0, (1, 250)), (1, (1, 9)), (2, (0, n)), (3, (0, a)), (4, (0, o)), (5, (0, m)), (6, (1, 17 * a + 86)), (7, (0, z5)), (8, (0, y8))], [(0, z45)], w29) _
        refine e_Ok.if1 rfl (fun h46 => ?_) (fun h46 => ?_)
        · replace h46 : (z45 : Int) = 0 := h46
          refine e_Ok.run (t' := (106, [(10, (0, 0)), (9, (0, z40)), (0, (1, 250)), (1, (1, 9)), (2, (0, n)), (3, (0, a)), (4, (0, o)), (5, (0, m)), (6, (1, 17 * a + 86)), (7, (0, z5)), (8, (0, y8))], [], w29)) 2 rfl ?_
          have hL47 : ∀ (nn : Nat) (y10 : Int), 0 ≤ y10 ∧ y10 ≤ 16 → 17 - y10 < nn → e_Ok 1 elay code1 eI (d + 1) 171 (106, [(0, (1, 250)), (1, (1, 9)), (2, (0, n)), (3, (0, a)), (4, (0, o)), (5, (0, m)), (6, (1, 17 * a + 86)), (7, (0, z5)), (8, (0, y8)), (9, (0, z40)), (10, (0, y10))], [], w29) (fun r w' => ∃ z : Int, r = [(0, z)] ∧ e_fr kTc w w' ∧ e_Has kTy w' ∧ (0 ≤ z ∧ z ≤ 1)) := by
            intro nn
            induction nn with
            | zero => intro y10 hj hm; obtain j49 := hj; exfalso; omega
            | succ nn ih48 =>
              intro y10 hj hm
              obtain j49 := hj
              refine e_Ok.run (t' := (109, [(0, (1, 250)), (1, (1, 9)), (2, (0, n)), (3, (0, a)), (4, (0, o)), (5, (0, m)), (6, (1, 17 * a + 86)), (7, (0, z5)), (8, (0, y8)), (9, (0, z40)), (10, (0, y10))], [(1, 250), (0, y10)], w29)) 2 rfl ?_
              have h50 := (e_Has.get hT (c := 250) (k := 0) (lo := 0) (hi := 16) rfl (by decide))
              refine e_Ok.getf (z := w 250 0) rfl (el_o rfl) rfl rfl (by rw [← hw29]; exact (e_up_ne _ _ (Or.inr (by omega))).trans (by rw [← hw24]; exact (e_up_ne _ _ (Or.inr (by omega))).trans (by rw [← hw19]; exact (e_up_ne _ _ (Or.inr (by omega))).trans (by rw [← hw14]; exact (e_up_ne _ _ (Or.inr (by omega))).trans ((j8 250 0 (by unfold kTc; omega)).trans rfl))))) (by omega) ?_
              refine e_Ok.if2 rfl (fun h51 => ?_) (fun h51 => ?_)
              · replace h51 : (y10 : Int) ≥ w 250 0 := h51
                refine e_Ok.run (t' := (150, [(10, (0, o)), (0, (1, 250)), (1, (1, 9)), (2, (0, n)), (3, (0, a)), (4, (0, o)), (5, (0, m)), (6, (1, 17 * a + 86)), (7, (0, z5)), (8, (0, y8)), (9, (0, z40))], [], w29)) 2 rfl ?_
                have hL52 : ∀ (nn : Nat) (y11 : Int), 0 ≤ y11 ∧ y11 ≤ 4 → 5 - y11 < nn → e_Ok 1 elay code1 eI (d + 1) 171 (150, [(0, (1, 250)), (1, (1, 9)), (2, (0, n)), (3, (0, a)), (4, (0, o)), (5, (0, m)), (6, (1, 17 * a + 86)), (7, (0, z5)), (8, (0, y8)), (9, (0, z40)), (10, (0, y11))], [], w29) (fun r w' => ∃ z : Int, r = [(0, z)] ∧ e_fr kTc w w' ∧ e_Has kTy w' ∧ (0 ≤ z ∧ z ≤ 1)) := by
                  intro nn
                  induction nn with
                  | zero => intro y11 hj hm; obtain j54 := hj; exfalso; omega
                  | succ nn ih53 =>
                    intro y11 hj hm
                    obtain j54 := hj
                    refine e_Ok.run (t' := (153, [(0, (1, 250)), (1, (1, 9)), (2, (0, n)), (3, (0, a)), (4, (0, o)), (5, (0, m)), (6, (1, 17 * a + 86)), (7, (0, z5)), (8, (0, y8)), (9, (0, z40)), (10, (0, y11))], [(0, n), (0, y11)], w29)) 2 rfl ?_
                    refine e_Ok.if2 rfl (fun h55 => ?_) (fun h55 => ?_)
                    · replace h55 : (y11 : Int) ≥ n := h55
                      refine e_Ok.inc (z := y8 + 1) rfl rfl (by omega) (by omega) ?_
                      show e_Ok 1 elay code1 eI (d + 1) 171 (187, [(8, (0, y8 + 1)), (0, (1, 250)), (1, (1, 9)), (2, (0, n)), (3, (0, a)), (4, (0, o)), (5, (0, m)), (6, (1, 17 * a + 86)), (7, (0, z5)), (9, (0, z40)), (10, (0, y11))], [], w29) _
                      refine e_Ok.run (t' := (15, [(8, (0, y8 + 1)), (0, (1, 250)), (1, (1, 9)), (2, (0, n)), (3, (0, a)), (4, (0, o)), (5, (0, m)), (6, (1, 17 * a + 86)), (7, (0, z5)), (9, (0, z40)), (10, (0, y11))], [], w29)) 1 rfl ?_
                      refine e_Ok.sub c1lk (e_sub_of rfl ?_) (ih7 (y8 + 1) w29 ⟨f30, hT32, by omega⟩ (by omega))
                      exact ⟨rfl, rfl, rfl, rfl, rfl, rfl, rfl, rfl, rfl, trivial⟩
                    · replace h55 : (y11 : Int) < n := by have q : ¬ ((y11 : Int) ≥ n) := h55; omega
                      refine e_Ok.run (t' := (159, [(0, (1, 250)), (1, (1, 9)), (2, (0, n)), (3, (0, a)), (4, (0, o)), (5, (0, m)), (6, (1, 17 * a + 86)), (7, (0, z5)), (8, (0, y8)), (9, (0, z40)), (10, (0, y11))], [(0, a), (0, y11)], w29)) 2 rfl ?_
                      refine e_Ok.if2 rfl (fun h56 => ?_) (fun h56 => ?_)
                      · replace h56 : (y11 : Int) = a := h56
                        refine e_Ok.inc (z := y11 + 1) rfl rfl (by omega) (by omega) ?_
                        show e_Ok 1 elay code1 eI (d + 1) 171 (181, [(10, (0, y11 + 1)), (0, (1, 250)), (1, (1, 9)), (2, (0, n)), (3, (0, a)), (4, (0, o)), (5, (0, m)), (6, (1, 17 * a + 86)), (7, (0, z5)), (8, (0, y8)), (9, (0, z40))], [], w29) _
                        refine e_Ok.run (t' := (150, [(10, (0, y11 + 1)), (0, (1, 250)), (1, (1, 9)), (2, (0, n)), (3, (0, a)), (4, (0, o)), (5, (0, m)), (6, (1, 17 * a + 86)), (7, (0, z5)), (8, (0, y8)), (9, (0, z40))], [], w29)) 1 rfl ?_
                        refine e_Ok.sub c1lk (e_sub_of rfl ?_) (ih53 (y11 + 1) (by omega) (by omega))
                        exact ⟨rfl, rfl, rfl, rfl, rfl, rfl, rfl, rfl, rfl, rfl, rfl, trivial⟩
                      · replace h56 : (y11 : Int) ≠ a := by have q : ¬ ((y11 : Int) = a) := h56; omega
                        refine e_Ok.run (t' := (166, [(0, (1, 250)), (1, (1, 9)), (2, (0, n)), (3, (0, a)), (4, (0, o)), (5, (0, m)), (6, (1, 17 * a + 86)), (7, (0, z5)), (8, (0, y8)), (9, (0, z40)), (10, (0, y11))], [(0, y11), (1, 9), (1, 250)], w29)) 3 rfl ?_
                        refine e_Ok.aald (z := 17 * y11 + 86) rfl (el_o rfl) rfl (by omega) (by rw [← hw29]; exact (e_up_ne _ _ (Or.inl (by omega))).trans (by rw [← hw24]; exact (e_up_ne _ _ (Or.inl (by omega))).trans (by rw [← hw19]; exact (e_up_ne _ _ (Or.inl (by omega))).trans (by rw [← hw14]; exact (e_up_ne _ _ (Or.inl (by omega))).trans ((j8 9 y11 (by unfold kTc; omega)).trans (Eq.trans (e_Has.eq hT (k9 (by omega))) (by omega))))))) (by omega) ?_
                        refine e_Ok.run (t' := (170, [(0, (1, 250)), (1, (1, 9)), (2, (0, n)), (3, (0, a)), (4, (0, o)), (5, (0, m)), (6, (1, 17 * a + 86)), (7, (0, z5)), (8, (0, y8)), (9, (0, z40)), (10, (0, y11))], [(0, z40), (0, 0), (1, 17 * y11 + 86), (1, 250)], w29)) 2 rfl ?_
                        refine e_Ok.callV rfl (by omega) rfl rfl rfl rfl (b_172 (by omega) (a := y11) hT32 (by omega) (by omega) (by omega) kl33 (aK.fr f30 (fun k => by unfold kTc; omega) (by unfold kTc; omega) (ka y11 (by omega) (by omega)))) (fun r57 w58 h59 => ?_)
                        obtain ⟨z61, rfl, rfl, q60r⟩ := h59
                        show e_Ok 1 elay code1 eI (d + 1) 171 (173, [(0, (1, 250)), (1, (1, 9)), (2, (0, n)), (3, (0, a)), (4, (0, o)), (5, (0, m)), (6, (1, 17 * a + 86)), (7, (0, z5)), (8, (0, y8)), (9, (0, z40)), (10, (0, y11))], [(0, z61)], w29) _
                        refine e_Ok.if1 rfl (fun h62 => ?_) (fun h62 => ?_)
                        · replace h62 : (z61 : Int) = 0 := h62
                          refine e_Ok.inc (z := y11 + 1) rfl rfl (by omega) (by omega) ?_
                          show e_Ok 1 elay code1 eI (d + 1) 171 (181, [(10, (0, y11 + 1)), (0, (1, 250)), (1, (1, 9)), (2, (0, n)), (3, (0, a)), (4, (0, o)), (5, (0, m)), (6, (1, 17 * a + 86)), (7, (0, z5)), (8, (0, y8)), (9, (0, z40))], [], w29) _
                          refine e_Ok.run (t' := (150, [(10, (0, y11 + 1)), (0, (1, 250)), (1, (1, 9)), (2, (0, n)), (3, (0, a)), (4, (0, o)), (5, (0, m)), (6, (1, 17 * a + 86)), (7, (0, z5)), (8, (0, y8)), (9, (0, z40))], [], w29)) 1 rfl ?_
                          refine e_Ok.sub c1lk (e_sub_of rfl ?_) (ih53 (y11 + 1) (by omega) (by omega))
                          exact ⟨rfl, rfl, rfl, rfl, rfl, rfl, rfl, rfl, rfl, rfl, rfl, trivial⟩
                        · replace h62 : (z61 : Int) ≠ 0 := by have q : ¬ ((z61 : Int) = 0) := h62; omega
                          refine e_Ok.run (t' := (177, [(0, (1, 250)), (1, (1, 9)), (2, (0, n)), (3, (0, a)), (4, (0, o)), (5, (0, m)), (6, (1, 17 * a + 86)), (7, (0, z5)), (8, (0, y8)), (9, (0, z40)), (10, (0, y11))], [(0, 1)], w29)) 1 rfl ?_
                          refine e_Ok.rets rfl rfl ?_
                          exact ⟨_, rfl, f30, hT32, ⟨by omega, by omega⟩⟩
                refine e_Ok.sub c1lk (e_sub_of rfl ?_) (hL52 (5 + 1 : Int).toNat o (by omega) (by omega))
                exact ⟨rfl, rfl, rfl, rfl, rfl, rfl, rfl, rfl, rfl, rfl, rfl, trivial⟩
              · replace h51 : (y10 : Int) < w 250 0 := by have q : ¬ ((y10 : Int) ≥ w 250 0) := h51; omega
                refine e_Ok.run (t' := (121, [(0, (1, 250)), (1, (1, 9)), (2, (0, n)), (3, (0, a)), (4, (0, o)), (5, (0, m)), (6, (1, 17 * a + 86)), (7, (0, z5)), (8, (0, y8)), (9, (0, z40)), (10, (0, y10))], [(0, y10), (0, y8), (1, 17 * a + 86)], w29)) 3 rfl ?_
                refine e_Ok.callV rfl (by omega) rfl (lA0 (a := a) (by omega) (by omega)) rfl rfl (b_6 (a := a) hT32 (by omega) (by omega) (by omega)) (fun r63 w64 h65 => ?_)
                obtain ⟨z67, rfl, rfl, q66r⟩ := h65
                show e_Ok 1 elay code1 eI (d + 1) 171 (124, [(0, (1, 250)), (1, (1, 9)), (2, (0, n)), (3, (0, a)), (4, (0, o)), (5, (0, m)), (6, (1, 17 * a + 86)), (7, (0, z5)), (8, (0, y8)), (9, (0, z40)), (10, (0, y10))], [(0, z67)], w29) _
                refine e_Ok.if1 rfl (fun h68 => ?_) (fun h68 => ?_)
                · replace h68 : (z67 : Int) ≠ 0 := h68
                  refine e_Ok.inc (z := y10 + 1) rfl rfl (by omega) (by omega) ?_
                  show e_Ok 1 elay code1 eI (d + 1) 171 (143, [(10, (0, y10 + 1)), (0, (1, 250)), (1, (1, 9)), (2, (0, n)), (3, (0, a)), (4, (0, o)), (5, (0, m)), (6, (1, 17 * a + 86)), (7, (0, z5)), (8, (0, y8)), (9, (0, z40))], [], w29) _
                  refine e_Ok.run (t' := (106, [(10, (0, y10 + 1)), (0, (1, 250)), (1, (1, 9)), (2, (0, n)), (3, (0, a)), (4, (0, o)), (5, (0, m)), (6, (1, 17 * a + 86)), (7, (0, z5)), (8, (0, y8)), (9, (0, z40))], [], w29)) 1 rfl ?_
                  refine e_Ok.sub c1lk (e_sub_of rfl ?_) (ih48 (y10 + 1) (by omega) (by omega))
                  exact ⟨rfl, rfl, rfl, rfl, rfl, rfl, rfl, rfl, rfl, rfl, rfl, trivial⟩
                · replace h68 : (z67 : Int) = 0 := by have q : ¬ ((z67 : Int) ≠ 0) := h68; omega
                  refine e_Ok.run (t' := (132, [(0, (1, 250)), (1, (1, 9)), (2, (0, n)), (3, (0, a)), (4, (0, o)), (5, (0, m)), (6, (1, 17 * a + 86)), (7, (0, z5)), (8, (0, y8)), (9, (0, z40)), (10, (0, y10))], [(0, z40), (0, y10), (1, 250)], w29)) 3 rfl ?_
                  refine e_Ok.callV rfl (by omega) rfl rfl rfl rfl (b_173 (by omega) hT32 (by omega) (by omega) kl33) (fun r69 w70 h71 => ?_)
                  obtain ⟨z73, rfl, rfl, q72r⟩ := h71
                  show e_Ok 1 elay code1 eI (d + 1) 171 (135, [(0, (1, 250)), (1, (1, 9)), (2, (0, n)), (3, (0, a)), (4, (0, o)), (5, (0, m)), (6, (1, 17 * a + 86)), (7, (0, z5)), (8, (0, y8)), (9, (0, z40)), (10, (0, y10))], [(0, z73)], w29) _
                  refine e_Ok.if1 rfl (fun h74 => ?_) (fun h74 => ?_)
                  · replace h74 : (z73 : Int) = 0 := h74
                    refine e_Ok.inc (z := y10 + 1) rfl rfl (by omega) (by omega) ?_
                    show e_Ok 1 elay code1 eI (d + 1) 171 (143, [(10, (0, y10 + 1)), (0, (1, 250)), (1, (1, 9)), (2, (0, n)), (3, (0, a)), (4, (0, o)), (5, (0, m)), (6, (1, 17 * a + 86)), (7, (0, z5)), (8, (0, y8)), (9, (0, z40))], [], w29) _
                    refine e_Ok.run (t' := (106, [(10, (0, y10 + 1)), (0, (1, 250)), (1, (1, 9)), (2, (0, n)), (3, (0, a)), (4, (0, o)), (5, (0, m)), (6, (1, 17 * a + 86)), (7, (0, z5)), (8, (0, y8)), (9, (0, z40))], [], w29)) 1 rfl ?_
                    refine e_Ok.sub c1lk (e_sub_of rfl ?_) (ih48 (y10 + 1) (by omega) (by omega))
                    exact ⟨rfl, rfl, rfl, rfl, rfl, rfl, rfl, rfl, rfl, rfl, rfl, trivial⟩
                  · replace h74 : (z73 : Int) ≠ 0 := by have q : ¬ ((z73 : Int) = 0) := h74; omega
                    refine e_Ok.run (t' := (139, [(0, (1, 250)), (1, (1, 9)), (2, (0, n)), (3, (0, a)), (4, (0, o)), (5, (0, m)), (6, (1, 17 * a + 86)), (7, (0, z5)), (8, (0, y8)), (9, (0, z40)), (10, (0, y10))], [(0, 1)], w29)) 1 rfl ?_
                    refine e_Ok.rets rfl rfl ?_
                    exact ⟨_, rfl, f30, hT32, ⟨by omega, by omega⟩⟩
          refine e_Ok.sub c1lk (e_sub_of rfl ?_) (hL47 (17 + 1 : Int).toNat 0 (by omega) (by omega))
          exact ⟨rfl, rfl, rfl, rfl, rfl, rfl, rfl, rfl, rfl, rfl, rfl, trivial⟩
        · replace h46 : (z45 : Int) ≠ 0 := by have q : ¬ ((z45 : Int) = 0) := h46; omega
          refine e_Ok.run (t' := (102, [(9, (0, z40)), (0, (1, 250)), (1, (1, 9)), (2, (0, n)), (3, (0, a)), (4, (0, o)), (5, (0, m)), (6, (1, 17 * a + 86)), (7, (0, z5)), (8, (0, y8))], [(0, 1)], w29)) 1 rfl ?_
          refine e_Ok.rets rfl rfl ?_
          exact ⟨_, rfl, f30, hT32, ⟨by omega, by omega⟩⟩
  refine e_Ok.sub c1lk (e_sub_of rfl ?_) (hL6 (8 + 1 : Int).toNat 0 w ⟨(e_fr.refl w), hT, by omega⟩ (by omega))
  exact ⟨rfl, rfl, rfl, rfl, rfl, rfl, rfl, rfl, rfl, trivial⟩
set_option maxHeartbeats 4000000 in
theorem b_264_n {d : Nat} (hd : 8 ≤ d) {w : eW} (h0 : kM4 w) (hn : kn1 (w 274 2)) : e_Ok 1 elay code1 eI d 264 (0, [(0, (1, 0))], [], w) (fun r w' => r = [] ∧ e_fr kHv w w' ∧ e_Has kTy w') := by
  obtain ⟨d, rfl⟩ : ∃ e, d = e + 1 := ⟨d - 1, by omega⟩
  have hT := h0.1
  have hn2 := hn; unfold kn1 at hn2
  have hw0 := e_Has.get hT (c := 0) (k := 11) (lo := 0) (hi := 4) rfl (by decide)
  refine e_Ok.run (t' := (2, [(1, (0, 0)), (0, (1, 0))], [], w)) 2 rfl ?_
  have hL1 : ∀ (nn : Nat) (y1 : Int) (v1 : eW), e_fr kHv w v1 ∧ e_Has kTy v1 ∧ kn1 (v1 274 2) ∧ ((0 ≤ y1 ∧ y1 ≤ 4)) → 5 - y1 < nn → e_Ok 1 elay code1 eI (d + 1) 264 (2, [(0, (1, 0)), (1, (0, y1))], [], v1) (fun r w' => r = [] ∧ e_fr kHv w w' ∧ e_Has kTy w') := by
    intro nn
    induction nn with
    | zero => intro y1 v1 hj hm; obtain ⟨j3, j4, j5, j6⟩ := hj; exfalso; omega
    | succ nn ih2 =>
      intro y1 v1 hj hm
      obtain ⟨j3, j4, j5, j6⟩ := hj
      have jn2 := j5; unfold kn1 at jn2
      refine e_Ok.run (t' := (4, [(0, (1, 0)), (1, (0, y1))], [(1, 0), (0, y1)], v1)) 2 rfl ?_
      have h7 := (e_Has.get hT (c := 0) (k := 11) (lo := 0) (hi := 4) rfl (by decide))
      refine e_Ok.getf (z := w 0 11) rfl (el_o rfl) rfl rfl ((j3 0 11 (by unfold kHv; omega)).trans rfl) (by omega) ?_
      refine e_Ok.if2 rfl (fun h8 => ?_) (fun h8 => ?_)
      · replace h8 : (y1 : Int) ≥ w 0 11 := h8
        refine e_Ok.rets rfl rfl ?_
        exact ⟨rfl, j3, j4⟩
      · replace h8 : (y1 : Int) < w 0 11 := by have q : ¬ ((y1 : Int) ≥ w 0 11) := h8; omega
        refine e_Ok.run (t' := (11, [(0, (1, 0)), (1, (0, y1))], [(1, 0)], v1)) 1 rfl ?_
        refine e_Ok.getr (z := 9) rfl (el_o rfl) rfl rfl ((j3 0 2 (by unfold kHv; omega)).trans (Eq.trans (e_Has.eq hT rfl) (by omega))) (by omega) ?_
        refine e_Ok.run (t' := (15, [(0, (1, 0)), (1, (0, y1))], [(0, y1), (1, 9)], v1)) 1 rfl ?_
        refine e_Ok.aald (z := 17 * y1 + 86) rfl (el_o rfl) rfl (by omega) ((j3 9 y1 (by unfold kHv; omega)).trans (Eq.trans (e_Has.eq hT (k9 (by omega))) (by omega))) (by omega) ?_
        have h9 := (e_Has.get hT (c := 17 * y1 + 86) (k := 18) (lo := (-1)) (hi := 1000) (kA_18 (a := y1) (by omega) (by omega)) (by decide))
        refine e_Ok.getf (z := w (17 * y1 + 86) 18) rfl (lA0 (a := y1) (by omega) (by omega)) rfl rfl ((j3 (17 * y1 + 86) 18 (by unfold kHv; omega)).trans rfl) (by omega) ?_
        refine e_Ok.if1 rfl (fun h10 => ?_) (fun h10 => ?_)
        · replace h10 : (w (17 * y1 + 86) 18 : Int) < 0 := h10
          refine e_Ok.run (t' := (43, [(2, (0, 0)), (0, (1, 0)), (1, (0, y1))], [(0, 0)], v1)) 3 rfl ?_
          refine e_Ok.if1 rfl (fun h11 => ?_) (fun h11 => ?_)
          · replace h11 : (0 : Int) = 0 := h11
            refine e_Ok.inc (z := y1 + 1) rfl rfl (by omega) (by omega) ?_
            show e_Ok 1 elay code1 eI (d + 1) 264 (80, [(1, (0, y1 + 1)), (2, (0, 0)), (0, (1, 0))], [], v1) _
            refine e_Ok.run (t' := (2, [(1, (0, y1 + 1)), (2, (0, 0)), (0, (1, 0))], [], v1)) 1 rfl ?_
            refine e_Ok.sub c1lk (e_sub_of rfl ?_) (ih2 (y1 + 1) v1 ⟨j3, j4, (by have g : v1 274 2 = v1 274 2 := rfl; unfold kn1; omega), (by omega)⟩ (by omega))
            exact ⟨rfl, rfl, trivial⟩
          · replace h11 : (0 : Int) ≠ 0 := by have q : ¬ ((0 : Int) = 0) := h11; omega
            exfalso; omega
        · replace h10 : (w (17 * y1 + 86) 18 : Int) ≥ 0 := by have q : ¬ ((w (17 * y1 + 86) 18 : Int) < 0) := h10; omega
          refine e_Ok.run (t' := (23, [(0, (1, 0)), (1, (0, y1))], [(1, 0)], v1)) 1 rfl ?_
          refine e_Ok.getr (z := 9) rfl (el_o rfl) rfl rfl ((j3 0 2 (by unfold kHv; omega)).trans (Eq.trans (e_Has.eq hT rfl) (by omega))) (by omega) ?_
          refine e_Ok.run (t' := (27, [(0, (1, 0)), (1, (0, y1))], [(0, y1), (1, 9)], v1)) 1 rfl ?_
          refine e_Ok.aald (z := 17 * y1 + 86) rfl (el_o rfl) rfl (by omega) ((j3 9 y1 (by unfold kHv; omega)).trans (Eq.trans (e_Has.eq hT (k9 (by omega))) (by omega))) (by omega) ?_
          have h12 := (e_Has.get hT (c := 17 * y1 + 86) (k := 19) (lo := (-2147483648)) (hi := 2147483647) (kA_19 (a := y1) (by omega) (by omega)) (by decide))
          refine e_Ok.getf (z := w (17 * y1 + 86) 19) rfl (lA0 (a := y1) (by omega) (by omega)) rfl rfl ((j3 (17 * y1 + 86) 19 (by unfold kHv; omega)).trans rfl) (by omega) ?_
          refine e_Ok.run (t' := (32, [(0, (1, 0)), (1, (0, y1))], [(0, 2), (0, w (17 * y1 + 86) 19)], v1)) 1 rfl ?_
          refine e_Ok.any rfl (eB_any _ _) (fun z13 z13a z13b => ?_)
          refine e_Ok.if1 rfl (fun h14 => ?_) (fun h14 => ?_)
          · replace h14 : (z13 : Int) ≠ 0 := h14
            refine e_Ok.run (t' := (43, [(2, (0, 0)), (0, (1, 0)), (1, (0, y1))], [(0, 0)], v1)) 3 rfl ?_
            refine e_Ok.if1 rfl (fun h15 => ?_) (fun h15 => ?_)
            · replace h15 : (0 : Int) = 0 := h15
              refine e_Ok.inc (z := y1 + 1) rfl rfl (by omega) (by omega) ?_
              show e_Ok 1 elay code1 eI (d + 1) 264 (80, [(1, (0, y1 + 1)), (2, (0, 0)), (0, (1, 0))], [], v1) _
              refine e_Ok.run (t' := (2, [(1, (0, y1 + 1)), (2, (0, 0)), (0, (1, 0))], [], v1)) 1 rfl ?_
              refine e_Ok.sub c1lk (e_sub_of rfl ?_) (ih2 (y1 + 1) v1 ⟨j3, j4, (by have g : v1 274 2 = v1 274 2 := rfl; unfold kn1; omega), (by omega)⟩ (by omega))
              exact ⟨rfl, rfl, trivial⟩
            · replace h15 : (0 : Int) ≠ 0 := by have q : ¬ ((0 : Int) = 0) := h15; omega
              exfalso; omega
          · replace h14 : (z13 : Int) = 0 := by have q : ¬ ((z13 : Int) ≠ 0) := h14; omega
            refine e_Ok.run (t' := (43, [(2, (0, 1)), (0, (1, 0)), (1, (0, y1))], [(0, 1)], v1)) 4 rfl ?_
            refine e_Ok.if1 rfl (fun h16 => ?_) (fun h16 => ?_)
            · replace h16 : (1 : Int) = 0 := h16
              exfalso; omega
            · replace h16 : (1 : Int) ≠ 0 := by have q : ¬ ((1 : Int) = 0) := h16; omega
              refine e_Ok.run (t' := (47, [(2, (0, 1)), (0, (1, 0)), (1, (0, y1))], [(1, 0)], v1)) 1 rfl ?_
              refine e_Ok.getr (z := 250) rfl (el_o rfl) rfl rfl ((j3 0 6 (by unfold kHv; omega)).trans (Eq.trans (e_Has.eq hT rfl) (by omega))) (by omega) ?_
              refine e_Ok.run (t' := (51, [(2, (0, 1)), (0, (1, 0)), (1, (0, y1))], [(1, 0), (1, 250)], v1)) 1 rfl ?_
              refine e_Ok.getr (z := 9) rfl (el_o rfl) rfl rfl ((j3 0 2 (by unfold kHv; omega)).trans (Eq.trans (e_Has.eq hT rfl) (by omega))) (by omega) ?_
              refine e_Ok.run (t' := (55, [(2, (0, 1)), (0, (1, 0)), (1, (0, y1))], [(1, 0), (1, 9), (1, 250)], v1)) 1 rfl ?_
              refine e_Ok.getf (z := w 0 11) rfl (el_o rfl) rfl rfl ((j3 0 11 (by unfold kHv; omega)).trans rfl) (by omega) ?_
              refine e_Ok.run (t' := (61, [(2, (0, 1)), (0, (1, 0)), (1, (0, y1))], [(0, 0), (0, 0), (0, y1), (0, w 0 11), (1, 9), (1, 250)], v1)) 3 rfl ?_
              have K20 : ∀ a, 0 ≤ a → a ≤ 3 → aK v1 a := fun a g1 g2 => aK.fr j3 (fun k => ⟨by unfold kHv; omega, by unfold kHv; omega⟩) (by unfold kHv; omega) (h0.2 a g1 g2)
              refine e_Ok.callV rfl (by omega) rfl rfl rfl rfl (b_171 (by omega) j4 (by omega) (by omega) (by omega) (by omega) K20) (fun r17 w18 h19 => ?_)
              obtain ⟨z21, rfl, q22f, q22T, q22r⟩ := h19
              have f23 : e_fr kHv w w18 := e_fr.trans j3 (e_fr.mono q22f (fun c k q => by exact Or.inr q))
              have q22n : kn1 (w18 274 2) := by rw [q22f _ _ (by unfold kTc; omega)]; exact j5
              unfold kn1 at q22n
              show e_Ok 1 elay code1 eI (d + 1) 264 (64, [(2, (0, 1)), (0, (1, 0)), (1, (0, y1))], [(0, z21)], w18) _
              refine e_Ok.if1 rfl (fun h24 => ?_) (fun h24 => ?_)
              · replace h24 : (z21 : Int) = 0 := h24
                refine e_Ok.inc (z := y1 + 1) rfl rfl (by omega) (by omega) ?_
                show e_Ok 1 elay code1 eI (d + 1) 264 (80, [(1, (0, y1 + 1)), (2, (0, 1)), (0, (1, 0))], [], w18) _
                refine e_Ok.run (t' := (2, [(1, (0, y1 + 1)), (2, (0, 1)), (0, (1, 0))], [], w18)) 1 rfl ?_
                refine e_Ok.sub c1lk (e_sub_of rfl ?_) (ih2 (y1 + 1) w18 ⟨f23, q22T, (by have g : w18 274 2 = v1 274 2 := ((q22f 274 2 (by unfold kTc; omega)).trans rfl); unfold kn1; omega), (by omega)⟩ (by omega))
                exact ⟨rfl, rfl, trivial⟩
              · replace h24 : (z21 : Int) ≠ 0 := by have q : ¬ ((z21 : Int) = 0) := h24; omega
                refine e_Ok.run (t' := (68, [(2, (0, 1)), (0, (1, 0)), (1, (0, y1))], [(1, 0)], w18)) 1 rfl ?_
                refine e_Ok.getr (z := 274) rfl (el_o rfl) rfl rfl ((q22f 0 10 (by unfold kTc; omega)).trans ((j3 0 10 (by unfold kHv; omega)).trans (Eq.trans (e_Has.eq hT rfl) (by omega)))) (by omega) ?_
                refine e_Ok.run (t' := (73, [(2, (0, 1)), (0, (1, 0)), (1, (0, y1))], [(0, 2), (1, 274), (0, 2), (1, 274)], w18)) 2 rfl ?_
                refine e_Ok.ald (z := v1 274 2) rfl (el_o rfl) rfl (by omega) ((q22f 274 2 (by unfold kTc; omega)).trans rfl) (by omega) ?_
                refine e_Ok.run (t' := (75, [(2, (0, 1)), (0, (1, 0)), (1, (0, y1))], [(0, 1), (0, v1 274 2), (0, 2), (1, 274)], w18)) 1 rfl ?_
                refine e_Ok.any rfl (eF_add_any _ _) (fun z25 z25a z25b => ?_)
                refine e_Ok.ast rfl (el_o rfl) rfl rfl (by omega) ?_
                generalize hw26 : e_up w18 274 2 z25 = w26
                have f27 : e_fr kHv w w26 := e_fr.up f23 hw26 (by unfold kHv; omega)
                have hT28 : e_Has kTy w26 := e_Has.ups q22T hw26 rfl
                refine e_Ok.inc (z := y1 + 1) rfl rfl (by omega) (by omega) ?_
                show e_Ok 1 elay code1 eI (d + 1) 264 (80, [(1, (0, y1 + 1)), (2, (0, 1)), (0, (1, 0))], [], w26) _
                refine e_Ok.run (t' := (2, [(1, (0, y1 + 1)), (2, (0, 1)), (0, (1, 0))], [], w26)) 1 rfl ?_
                refine e_Ok.sub c1lk (e_sub_of rfl ?_) (ih2 (y1 + 1) w26 ⟨f27, hT28, (by have g : w26 274 2 = z25 := (by rw [← hw26]; exact e_up_eq _ _ _ _); unfold kn1; omega), (by omega)⟩ (by omega))
                exact ⟨rfl, rfl, trivial⟩
  refine e_Ok.sub c1lk (e_sub_of rfl ?_) (hL1 (5 + 1 : Int).toNat 0 w ⟨(e_fr.refl w), hT, hn, (by omega)⟩ (by omega))
  exact ⟨rfl, rfl, trivial⟩
end
