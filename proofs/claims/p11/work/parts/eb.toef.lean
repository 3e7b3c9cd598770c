-- part eb
section
noncomputable section
/-! what a macro jumps over: contracts over the table without macros, few frames -/
set_option maxHeartbeats 4000000 in
theorem b_88_n {d : Nat} {w : eW} (h0 : kM1 w) {n : Int} (gn : 0 ≤ n ∧ n ≤ 4) : e_Ok 1 elay code1 eI d 88 (0, [(0, (1, 19)), (1, (1, 9)), (2, (0, n))], [], w) (fun r w' => ∃ z : Int, r = [(0, z)] ∧ w = w' ∧ (0 ≤ z ∧ z ≤ 32)) := by
  obtain ⟨hT, h1, h2⟩ := h0
  have hb0 := e_Has.get hT (c := 19) (k := 0) (lo := 0) (hi := 4) (kt_o rfl) (by decide)
  have hp0 := e_Has.get hT (c := 19) (k := 1) (lo := 0) (hi := 32) (kt_o rfl) (by decide)
  refine e_Ok.run (t' := (8, [(5, (0, 0)), (4, (0, 0)), (3, (0, 0)), (0, (1, 19)), (1, (1, 9)), (2, (0, n))], [], w)) 6 rfl ?_
  have hL1 : ∀ (nn : Nat) (y3 : Int) (y4 : Int) (y5 : Int), ((-2147483648 ≤ y3 ∧ y3 ≤ 2147483647)) ∧ ((-2147483648 ≤ y4 ∧ y4 ≤ 2147483647)) ∧ ((0 ≤ y5 ∧ y5 ≤ 4)) → 5 - y5 < nn → e_Ok 1 elay code1 eI d 88 (8, [(0, (1, 19)), (1, (1, 9)), (2, (0, n)), (3, (0, y3)), (4, (0, y4)), (5, (0, y5))], [], w) (fun r w' => ∃ z : Int, r = [(0, z)] ∧ w = w' ∧ (0 ≤ z ∧ z ≤ 32)) := by
    intro nn
    induction nn with
    | zero => intro y3 y4 y5 hj hm; obtain ⟨j3, j4, j5⟩ := hj; exfalso; omega
    | succ nn ih2 =>
      intro y3 y4 y5 hj hm
      obtain ⟨j3, j4, j5⟩ := hj
      refine e_Ok.run (t' := (11, [(0, (1, 19)), (1, (1, 9)), (2, (0, n)), (3, (0, y3)), (4, (0, y4)), (5, (0, y5))], [(1, 19), (0, y5)], w)) 2 rfl ?_
      have h6 := (e_Has.get hT (c := 19) (k := 0) (lo := 0) (hi := 4) (kt_o rfl) (by decide))
      refine e_Ok.getf (z := w 19 0) rfl (el_o rfl) rfl rfl rfl (e_bq h6 (by decide) (by decide)) ?_
      refine e_Ok.if2 rfl (fun h7 => ?_) (fun h7 => ?_)
      · replace h7 : (y5 : Int) ≥ w 19 0 := h7
        refine e_Ok.run (t' := (81, [(5, (0, 0)), (0, (1, 19)), (1, (1, 9)), (2, (0, n)), (3, (0, y3)), (4, (0, y4))], [], w)) 2 rfl ?_
        have hL8 : ∀ (nn : Nat) (u3 : Int) (u4 : Int) (u5 : Int), ((-2147483648 ≤ u3 ∧ u3 ≤ 2147483647)) ∧ ((-2147483648 ≤ u4 ∧ u4 ≤ 2147483647)) ∧ ((0 ≤ u5 ∧ u5 ≤ 4)) → 5 - u5 < nn → e_Ok 1 elay code1 eI d 88 (81, [(0, (1, 19)), (1, (1, 9)), (2, (0, n)), (3, (0, u3)), (4, (0, u4)), (5, (0, u5))], [], w) (fun r w' => ∃ z : Int, r = [(0, z)] ∧ w = w' ∧ (0 ≤ z ∧ z ≤ 32)) := by
          intro nn
          induction nn with
          | zero => intro u3 u4 u5 hj hm; obtain ⟨j10, j11, j12⟩ := hj; exfalso; omega
          | succ nn ih9 =>
            intro u3 u4 u5 hj hm
            obtain ⟨j10, j11, j12⟩ := hj
            refine e_Ok.run (t' := (84, [(0, (1, 19)), (1, (1, 9)), (2, (0, n)), (3, (0, u3)), (4, (0, u4)), (5, (0, u5))], [(0, n), (0, u5)], w)) 2 rfl ?_
            refine e_Ok.if2 rfl (fun h13 => ?_) (fun h13 => ?_)
            · replace h13 : (u5 : Int) ≥ n := h13
              refine e_Ok.run (t' := (138, [(6, (0, 0)), (5, (0, 0)), (0, (1, 19)), (1, (1, 9)), (2, (0, n)), (3, (0, u3)), (4, (0, u4))], [], w)) 4 rfl ?_
              have hL14 : ∀ (nn : Nat) (t5 : Int) (t6 : Int), (0 ≤ t5 ∧ t5 ≤ t6 ∧ t6 ≤ 32) → 33 - t6 < nn → e_Ok 1 elay code1 eI d 88 (138, [(0, (1, 19)), (1, (1, 9)), (2, (0, n)), (3, (0, u3)), (4, (0, u4)), (5, (0, t5)), (6, (0, t6))], [], w) (fun r w' => ∃ z : Int, r = [(0, z)] ∧ w = w' ∧ (0 ≤ z ∧ z ≤ 32)) := by
                intro nn
                induction nn with
                | zero => intro t5 t6 hj hm; obtain j16 := hj; exfalso; omega
                | succ nn ih15 =>
                  intro t5 t6 hj hm
                  obtain j16 := hj
                  refine e_Ok.run (t' := (141, [(0, (1, 19)), (1, (1, 9)), (2, (0, n)), (3, (0, u3)), (4, (0, u4)), (5, (0, t5)), (6, (0, t6))], [(1, 19), (0, t6)], w)) 2 rfl ?_
                  have h17 := (e_Has.get hT (c := 19) (k := 1) (lo := 0) (hi := 32) (kt_o rfl) (by decide))
                  refine e_Ok.getf (z := w 19 1) rfl (el_o rfl) rfl rfl rfl (e_bq h17 (by decide) (by decide)) ?_
                  refine e_Ok.if2 rfl (fun h18 => ?_) (fun h18 => ?_)
                  · replace h18 : (t6 : Int) ≥ w 19 1 := h18
                    refine e_Ok.ps1 (x := (0, t5)) (q := 198) 1 rfl ?_
                    refine e_Ok.rets rfl rfl ?_
                    exact ⟨_, rfl, rfl, by omega⟩
                  · replace h18 : (t6 : Int) < w 19 1 := Int.not_le.mp (show ¬ ((t6 : Int) ≥ w 19 1) from h18)
                    have hb3 := h2 t6 (by omega) (by omega); unfold kn1 at hb3
                    refine e_Ok.ps2 (x := (0, t6)) (y := (0, u3)) (q := 150) 2 rfl ?_
                    refine e_Ok.any rfl (eB_any _ _) (fun z19 z19a z19b => ?_)
                    refine e_Ok.ps1 (x := (0, 1)) (q := 152) 1 rfl ?_
                    refine e_Ok.andm 1 1 rfl (by decide) (fun z20 hz20 => ?_)
                    replace hz20 : 0 ≤ z20 ∧ z20 ≤ 1 := by omega
                    refine e_Ok.ps2 (x := (0, t6)) (y := (0, u4)) (q := 157) 2 rfl ?_
                    refine e_Ok.any rfl (eB_any _ _) (fun z21 z21a z21b => ?_)
                    refine e_Ok.ps1 (x := (0, 1)) (q := 159) 1 rfl ?_
                    refine e_Ok.andm 1 1 rfl (by decide) (fun z22 hz22 => ?_)
                    replace hz22 : 0 ≤ z22 ∧ z22 ≤ 1 := by omega
                    refine e_Ok.add (z := z20 + z22) rfl (by omega) (by omega) ?_
                    refine e_Ok.ps1 (x := (1, 19)) (q := 162) 1 rfl ?_
                    refine e_Ok.getr (z := 36) rfl (el_o rfl) rfl rfl (e_Has.eq hT (kt_o rfl)) ⟨by decide, by decide⟩ ?_
                    refine e_Ok.ps1 (x := (0, t6)) (q := 167) 1 rfl ?_
                    refine e_Ok.ald (z := w 36 t6) rfl (el_o rfl) rfl (by omega) rfl (by omega) ?_
                    refine e_Ok.ps1 (x := (0, 8)) (q := 170) 1 rfl ?_
                    refine e_Ok.if2 rfl (fun h23 => ?_) (fun h23 => ?_)
                    · replace h23 : (w 36 t6 : Int) ≠ 8 := h23
                      refine e_Ok.ps1 (x := (0, 0)) (q := 178) 1 rfl ?_
                      refine e_Ok.add (z := z20 + z22) rfl (by omega) (by omega) ?_
                      refine e_Ok.run (t' := (184, [(7, (0, z20 + z22)), (0, (1, 19)), (1, (1, 9)), (2, (0, n)), (3, (0, u3)), (4, (0, u4)), (5, (0, t5)), (6, (0, t6))], [(0, 1), (0, z20 + z22)], w)) 3 rfl ?_
                      refine e_Ok.if2 rfl (fun h24 => ?_) (fun h24 => ?_)
                      · replace h24 : (z20 + z22 : Int) = 1 := h24
                        refine e_Ok.inc (z := t6 + 1) rfl rfl (by first | with_reducible rfl | omega) (by omega) ?_
                        show e_Ok 1 elay code1 eI d 88 (193, [(6, (0, t6 + 1)), (7, (0, z20 + z22)), (0, (1, 19)), (1, (1, 9)), (2, (0, n)), (3, (0, u3)), (4, (0, u4)), (5, (0, t5))], [], w) _
                        refine e_Ok.run (t' := (138, [(6, (0, t6 + 1)), (7, (0, z20 + z22)), (0, (1, 19)), (1, (1, 9)), (2, (0, n)), (3, (0, u3)), (4, (0, u4)), (5, (0, t5))], [], w)) 1 rfl ?_
                        refine e_Ok.sub c1lk (e_sub_of rfl ?_) (ih15 t5 (t6 + 1) ((by omega)) (by omega))
                        exact ⟨rfl, rfl, rfl, rfl, rfl, rfl, rfl, trivial⟩
                      · replace h24 : (z20 + z22 : Int) ≠ 1 := (show ¬ ((z20 + z22 : Int) = 1) from h24)
                        refine e_Ok.inc (z := t5 + 1) rfl rfl (by first | with_reducible rfl | omega) (by omega) ?_
                        show e_Ok 1 elay code1 eI d 88 (190, [(5, (0, t5 + 1)), (7, (0, z20 + z22)), (0, (1, 19)), (1, (1, 9)), (2, (0, n)), (3, (0, u3)), (4, (0, u4)), (6, (0, t6))], [], w) _
                        refine e_Ok.inc (z := t6 + 1) rfl rfl (by first | with_reducible rfl | omega) (by omega) ?_
                        show e_Ok 1 elay code1 eI d 88 (193, [(6, (0, t6 + 1)), (5, (0, t5 + 1)), (7, (0, z20 + z22)), (0, (1, 19)), (1, (1, 9)), (2, (0, n)), (3, (0, u3)), (4, (0, u4))], [], w) _
                        refine e_Ok.run (t' := (138, [(6, (0, t6 + 1)), (5, (0, t5 + 1)), (7, (0, z20 + z22)), (0, (1, 19)), (1, (1, 9)), (2, (0, n)), (3, (0, u3)), (4, (0, u4))], [], w)) 1 rfl ?_
                        refine e_Ok.sub c1lk (e_sub_of rfl ?_) (ih15 (t5 + 1) (t6 + 1) ((by omega)) (by omega))
                        exact ⟨rfl, rfl, rfl, rfl, rfl, rfl, rfl, trivial⟩
                    · replace h23 : (w 36 t6 : Int) = 8 := Classical.not_not.mp (show ¬ ((w 36 t6 : Int) ≠ 8) from h23)
                      refine e_Ok.ps1 (x := (0, 1)) (q := 178) 2 rfl ?_
                      refine e_Ok.add (z := z20 + z22 + 1) rfl rfl (by omega) ?_
                      refine e_Ok.run (t' := (184, [(7, (0, z20 + z22 + 1)), (0, (1, 19)), (1, (1, 9)), (2, (0, n)), (3, (0, u3)), (4, (0, u4)), (5, (0, t5)), (6, (0, t6))], [(0, 1), (0, z20 + z22 + 1)], w)) 3 rfl ?_
                      refine e_Ok.if2 rfl (fun h25 => ?_) (fun h25 => ?_)
                      · replace h25 : (z20 + z22 + 1 : Int) = 1 := h25
                        refine e_Ok.inc (z := t6 + 1) rfl rfl (by first | with_reducible rfl | omega) (by omega) ?_
                        show e_Ok 1 elay code1 eI d 88 (193, [(6, (0, t6 + 1)), (7, (0, z20 + z22 + 1)), (0, (1, 19)), (1, (1, 9)), (2, (0, n)), (3, (0, u3)), (4, (0, u4)), (5, (0, t5))], [], w) _
                        refine e_Ok.run (t' := (138, [(6, (0, t6 + 1)), (7, (0, z20 + z22 + 1)), (0, (1, 19)), (1, (1, 9)), (2, (0, n)), (3, (0, u3)), (4, (0, u4)), (5, (0, t5))], [], w)) 1 rfl ?_
                        refine e_Ok.sub c1lk (e_sub_of rfl ?_) (ih15 t5 (t6 + 1) ((by omega)) (by omega))
                        exact ⟨rfl, rfl, rfl, rfl, rfl, rfl, rfl, trivial⟩
                      · replace h25 : (z20 + z22 + 1 : Int) ≠ 1 := (show ¬ ((z20 + z22 + 1 : Int) = 1) from h25)
                        refine e_Ok.inc (z := t5 + 1) rfl rfl (by first | with_reducible rfl | omega) (by omega) ?_
                        show e_Ok 1 elay code1 eI d 88 (190, [(5, (0, t5 + 1)), (7, (0, z20 + z22 + 1)), (0, (1, 19)), (1, (1, 9)), (2, (0, n)), (3, (0, u3)), (4, (0, u4)), (6, (0, t6))], [], w) _
                        refine e_Ok.inc (z := t6 + 1) rfl rfl (by first | with_reducible rfl | omega) (by omega) ?_
                        show e_Ok 1 elay code1 eI d 88 (193, [(6, (0, t6 + 1)), (5, (0, t5 + 1)), (7, (0, z20 + z22 + 1)), (0, (1, 19)), (1, (1, 9)), (2, (0, n)), (3, (0, u3)), (4, (0, u4))], [], w) _
                        refine e_Ok.run (t' := (138, [(6, (0, t6 + 1)), (5, (0, t5 + 1)), (7, (0, z20 + z22 + 1)), (0, (1, 19)), (1, (1, 9)), (2, (0, n)), (3, (0, u3)), (4, (0, u4))], [], w)) 1 rfl ?_
                        refine e_Ok.sub c1lk (e_sub_of rfl ?_) (ih15 (t5 + 1) (t6 + 1) ((by omega)) (by omega))
                        exact ⟨rfl, rfl, rfl, rfl, rfl, rfl, rfl, trivial⟩
              refine e_Ok.sub c1lk (e_sub_of rfl ?_) (hL14 (33 + 1 : Int).toNat 0 0 ((by omega)) (by omega))
              exact ⟨rfl, rfl, rfl, rfl, rfl, rfl, rfl, trivial⟩
            · replace h13 : (u5 : Int) < n := Int.not_le.mp (show ¬ ((u5 : Int) ≥ n) from h13)
              refine e_Ok.ps2 (x := (0, u5)) (y := (1, 9)) (q := 90) 2 rfl ?_
              refine e_Ok.aald (z := 17 * u5 + 86) rfl (el_o rfl) rfl (by omega) (Eq.trans (e_Has.eq hT (k9 (by omega))) (by omega)) (by omega) ?_
              have h26 := (e_Has.get hT (c := 17 * u5 + 86) (k := 14) (lo := (-1)) (hi := 31) (kA_14 (a := u5) (by omega) (by omega)) (by decide))
              refine e_Ok.getf (z := w (17 * u5 + 86) 14) rfl (lA0 (a := u5) (by omega) (by omega)) rfl rfl rfl (e_bq h26 (by decide) (by decide)) ?_
              refine e_Ok.if1 rfl (fun h27 => ?_) (fun h27 => ?_)
              · replace h27 : (w (17 * u5 + 86) 14 : Int) ≥ 0 := h27
                refine e_Ok.ps3 (x := (0, u5)) (y := (1, 9)) (z := (0, 1)) (q := 105) 3 rfl ?_
                refine e_Ok.aald (z := 17 * u5 + 86) rfl (el_o rfl) rfl (by omega) (Eq.trans (e_Has.eq hT (k9 (by omega))) (by omega)) (by omega) ?_
                refine e_Ok.getf (z := w (17 * u5 + 86) 14) rfl (lA0 (a := u5) (by omega) (by omega)) rfl rfl rfl (by omega) ?_
                refine e_Ok.any rfl (eB_any _ _) (fun z28 z28a z28b => ?_)
                refine e_Ok.run (t' := (117, [(6, (0, z28)), (0, (1, 19)), (1, (1, 9)), (2, (0, n)), (3, (0, u3)), (4, (0, u4)), (5, (0, u5))], [(0, z28), (0, u3), (0, u4)], w)) 4 rfl ?_
                refine e_Ok.any rfl (eB_any _ _) (fun z29 z29a z29b => ?_)
                refine e_Ok.any rfl (eB_any _ _) (fun z30 z30a z30b => ?_)
                refine e_Ok.run (t' := (124, [(4, (0, z30)), (6, (0, z28)), (0, (1, 19)), (1, (1, 9)), (2, (0, n)), (3, (0, u3)), (5, (0, u5))], [(0, z28), (0, u3)], w)) 3 rfl ?_
                refine e_Ok.any rfl (eB_any _ _) (fun z31 z31a z31b => ?_)
                refine e_Ok.run (t' := (126, [(3, (0, z31)), (4, (0, z30)), (6, (0, z28)), (0, (1, 19)), (1, (1, 9)), (2, (0, n)), (5, (0, u5))], [], w)) 1 rfl ?_
                refine e_Ok.inc (z := u5 + 1) rfl rfl (by first | with_reducible rfl | omega) (by omega) ?_
                show e_Ok 1 elay code1 eI d 88 (129, [(5, (0, u5 + 1)), (3, (0, z31)), (4, (0, z30)), (6, (0, z28)), (0, (1, 19)), (1, (1, 9)), (2, (0, n))], [], w) _
                refine e_Ok.run (t' := (81, [(5, (0, u5 + 1)), (3, (0, z31)), (4, (0, z30)), (6, (0, z28)), (0, (1, 19)), (1, (1, 9)), (2, (0, n))], [], w)) 1 rfl ?_
                refine e_Ok.sub c1lk (e_sub_of rfl ?_) (ih9 z31 z30 (u5 + 1) ⟨(by omega), (by omega), (by omega)⟩ (by omega))
                exact ⟨rfl, rfl, rfl, rfl, rfl, rfl, trivial⟩
              · replace h27 : (w (17 * u5 + 86) 14 : Int) < 0 := Int.not_le.mp (show ¬ ((w (17 * u5 + 86) 14 : Int) ≥ 0) from h27)
                refine e_Ok.run (t' := (117, [(6, (0, 0)), (0, (1, 19)), (1, (1, 9)), (2, (0, n)), (3, (0, u3)), (4, (0, u4)), (5, (0, u5))], [(0, 0), (0, u3), (0, u4)], w)) 6 rfl ?_
                refine e_Ok.andm 0 0 rfl (by decide) (fun z32 hz32 => ?_)
                replace hz32 : 0 ≤ z32 ∧ z32 ≤ 0 := by omega
                refine e_Ok.any rfl (eB_any _ _) (fun z33 z33a z33b => ?_)
                refine e_Ok.run (t' := (124, [(4, (0, z33)), (6, (0, 0)), (0, (1, 19)), (1, (1, 9)), (2, (0, n)), (3, (0, u3)), (5, (0, u5))], [(0, 0), (0, u3)], w)) 3 rfl ?_
                refine e_Ok.any rfl (eB_any _ _) (fun z34 z34a z34b => ?_)
                refine e_Ok.run (t' := (126, [(3, (0, z34)), (4, (0, z33)), (6, (0, 0)), (0, (1, 19)), (1, (1, 9)), (2, (0, n)), (5, (0, u5))], [], w)) 1 rfl ?_
                refine e_Ok.inc (z := u5 + 1) rfl rfl (by first | with_reducible rfl | omega) (by omega) ?_
                show e_Ok 1 elay code1 eI d 88 (129, [(5, (0, u5 + 1)), (3, (0, z34)), (4, (0, z33)), (6, (0, 0)), (0, (1, 19)), (1, (1, 9)), (2, (0, n))], [], w) _
                refine e_Ok.run (t' := (81, [(5, (0, u5 + 1)), (3, (0, z34)), (4, (0, z33)), (6, (0, 0)), (0, (1, 19)), (1, (1, 9)), (2, (0, n))], [], w)) 1 rfl ?_
                refine e_Ok.sub c1lk (e_sub_of rfl ?_) (ih9 z34 z33 (u5 + 1) ⟨(by omega), (by omega), (by omega)⟩ (by omega))
                exact ⟨rfl, rfl, rfl, rfl, rfl, rfl, trivial⟩
        refine e_Ok.sub c1lk (e_sub_of rfl ?_) (hL8 (5 + 1 : Int).toNat y3 y4 0 ⟨(by omega), (by omega), (by omega)⟩ (by omega))
        exact ⟨rfl, rfl, rfl, rfl, rfl, rfl, trivial⟩
      · replace h7 : (y5 : Int) < w 19 0 := Int.not_le.mp (show ¬ ((y5 : Int) ≥ w 19 0) from h7)
        have hb1 := h1 y5 (by omega) (by omega)
        refine e_Ok.run (t' := (20, [(6, (0, 0)), (0, (1, 19)), (1, (1, 9)), (2, (0, n)), (3, (0, y3)), (4, (0, y4)), (5, (0, y5))], [], w)) 2 rfl ?_
        have hL35 : ∀ (nn : Nat) (x3 : Int) (x4 : Int) (y6 : Int), ((-2147483648 ≤ x3 ∧ x3 ≤ 2147483647)) ∧ ((-2147483648 ≤ x4 ∧ x4 ≤ 2147483647)) ∧ ((0 ≤ y6 ∧ y6 ≤ 32)) → 33 - y6 < nn → e_Ok 1 elay code1 eI d 88 (20, [(0, (1, 19)), (1, (1, 9)), (2, (0, n)), (3, (0, x3)), (4, (0, x4)), (5, (0, y5)), (6, (0, y6))], [], w) (fun r w' => ∃ z : Int, r = [(0, z)] ∧ w = w' ∧ (0 ≤ z ∧ z ≤ 32)) := by
          intro nn
          induction nn with
          | zero => intro x3 x4 y6 hj hm; obtain ⟨j37, j38, j40⟩ := hj; exfalso; omega
          | succ nn ih36 =>
            intro x3 x4 y6 hj hm
            obtain ⟨j37, j38, j40⟩ := hj
            refine e_Ok.run (t' := (23, [(0, (1, 19)), (1, (1, 9)), (2, (0, n)), (3, (0, x3)), (4, (0, x4)), (5, (0, y5)), (6, (0, y6))], [(1, 19), (0, y6)], w)) 2 rfl ?_
            refine e_Ok.getr (z := 35) rfl (el_o rfl) rfl rfl (e_Has.eq hT (kt_o rfl)) ⟨by decide, by decide⟩ ?_
            refine e_Ok.ps1 (x := (0, y5)) (q := 28) 1 rfl ?_
            refine e_Ok.ald (z := w 35 y5) rfl (el_o rfl) rfl (by omega) rfl (by omega) ?_
            refine e_Ok.if2 rfl (fun h41 => ?_) (fun h41 => ?_)
            · replace h41 : (y6 : Int) ≥ w 35 y5 := h41
              refine e_Ok.inc (z := y5 + 1) rfl rfl (by first | with_reducible rfl | omega) (by omega) ?_
              show e_Ok 1 elay code1 eI d 88 (75, [(5, (0, y5 + 1)), (0, (1, 19)), (1, (1, 9)), (2, (0, n)), (3, (0, x3)), (4, (0, x4)), (6, (0, y6))], [], w) _
              refine e_Ok.run (t' := (8, [(5, (0, y5 + 1)), (0, (1, 19)), (1, (1, 9)), (2, (0, n)), (3, (0, x3)), (4, (0, x4)), (6, (0, y6))], [], w)) 1 rfl ?_
              refine e_Ok.sub c1lk (e_sub_of rfl ?_) (ih2 x3 x4 (y5 + 1) ⟨(by omega), (by omega), (by omega)⟩ (by omega))
              exact ⟨rfl, rfl, rfl, rfl, rfl, rfl, trivial⟩
            · replace h41 : (y6 : Int) < w 35 y5 := Int.not_le.mp (show ¬ ((y6 : Int) ≥ w 35 y5) from h41)
              have hb2 := hb1.2 y6 (by omega) (by omega); unfold kn1 at hb2
              refine e_Ok.ps4 (x := (1, 19)) (y := (0, 1)) (z := (0, x3)) (u := (0, x4)) (q := 37) 4 rfl ?_
              refine e_Ok.getr (z := 30) rfl (el_o rfl) rfl rfl (e_Has.eq hT (kt_o rfl)) ⟨by decide, by decide⟩ ?_
              refine e_Ok.ps1 (x := (0, y5)) (q := 42) 1 rfl ?_
              refine e_Ok.aald (z := y5 + 31) rfl (el_o rfl) rfl (by omega) (Eq.trans (e_Has.eq hT (k30 (by omega))) (by omega)) (by omega) ?_
              refine e_Ok.ps1 (x := (0, y6)) (q := 45) 1 rfl ?_
              refine e_Ok.ald (z := w (y5 + 31) y6) rfl (lO (b := y5) (by omega) (by omega)) rfl (by omega) rfl (by omega) ?_
              refine e_Ok.any rfl (eB_any _ _) (fun z42 z42a z42b => ?_)
              refine e_Ok.any rfl (eB_any _ _) (fun z43 z43a z43b => ?_)
              refine e_Ok.any rfl (eB_any _ _) (fun z44 z44a z44b => ?_)
              refine e_Ok.run (t' := (54, [(4, (0, z44)), (0, (1, 19)), (1, (1, 9)), (2, (0, n)), (3, (0, x3)), (5, (0, y5)), (6, (0, y6))], [(1, 19), (0, 1), (0, x3)], w)) 4 rfl ?_
              refine e_Ok.getr (z := 30) rfl (el_o rfl) rfl rfl (e_Has.eq hT (kt_o rfl)) ⟨by decide, by decide⟩ ?_
              refine e_Ok.ps1 (x := (0, y5)) (q := 59) 1 rfl ?_
              refine e_Ok.aald (z := y5 + 31) rfl (el_o rfl) rfl (by omega) (Eq.trans (e_Has.eq hT (k30 (by omega))) (by omega)) (by omega) ?_
              refine e_Ok.ps1 (x := (0, y6)) (q := 62) 1 rfl ?_
              refine e_Ok.ald (z := w (y5 + 31) y6) rfl (lO (b := y5) (by omega) (by omega)) rfl (by omega) rfl (by omega) ?_
              refine e_Ok.any rfl (eB_any _ _) (fun z45 z45a z45b => ?_)
              refine e_Ok.any rfl (eB_any _ _) (fun z46 z46a z46b => ?_)
              refine e_Ok.run (t' := (66, [(3, (0, z46)), (4, (0, z44)), (0, (1, 19)), (1, (1, 9)), (2, (0, n)), (5, (0, y5)), (6, (0, y6))], [], w)) 1 rfl ?_
              refine e_Ok.inc (z := y6 + 1) rfl rfl (by first | with_reducible rfl | omega) (by omega) ?_
              show e_Ok 1 elay code1 eI d 88 (69, [(6, (0, y6 + 1)), (3, (0, z46)), (4, (0, z44)), (0, (1, 19)), (1, (1, 9)), (2, (0, n)), (5, (0, y5))], [], w) _
              refine e_Ok.run (t' := (20, [(6, (0, y6 + 1)), (3, (0, z46)), (4, (0, z44)), (0, (1, 19)), (1, (1, 9)), (2, (0, n)), (5, (0, y5))], [], w)) 1 rfl ?_
              refine e_Ok.sub c1lk (e_sub_of rfl ?_) (ih36 z46 z44 (y6 + 1) ⟨(by omega), (by omega), (by omega)⟩ (by omega))
              exact ⟨rfl, rfl, rfl, rfl, rfl, rfl, rfl, trivial⟩
        refine e_Ok.sub c1lk (e_sub_of rfl ?_) (hL35 (33 + 1 : Int).toNat y3 y4 0 ⟨(by omega), (by omega), (by omega)⟩ (by omega))
        exact ⟨rfl, rfl, rfl, rfl, rfl, rfl, rfl, trivial⟩
  refine e_Ok.sub c1lk (e_sub_of rfl ?_) (hL1 (5 + 1 : Int).toNat 0 0 0 ⟨(by omega), (by omega), (by omega)⟩ (by omega))
  exact ⟨rfl, rfl, rfl, rfl, rfl, rfl, trivial⟩
theorem b_242 {d : Nat} {w : eW} {v lo hi : Int} (g1 : -2147483648 ≤ v ∧ v ≤ 2147483647) (g2 : -2147483648 ≤ lo ∧ lo ≤ 2147483647) (g3 : -2147483648 ≤ hi ∧ hi ≤ 2147483647) : e_Ok 1 elay code1 eI d 242 (0, [(0, (0, v)), (1, (0, lo)), (2, (0, hi))], [], w) (fun r w' => ∃ z : Int, r = [(0, z)] ∧ w = w' ∧ ((z = 1 ∧ lo ≤ v ∧ v ≤ hi) ∨ (z = 0 ∧ (v < lo ∨ hi < v)))) := by
  refine e_Ok.run (t' := (2, [(0, (0, v)), (1, (0, lo)), (2, (0, hi))], [(0, v), (0, lo)], w)) 2 rfl ?_
  refine e_Ok.if2 rfl (fun h1 => ?_) (fun h1 => ?_)
  · replace h1 : (lo : Int) > v := h1
    refine e_Ok.ps1 (x := (0, 0)) (q := 15) 1 rfl ?_
    refine e_Ok.rets rfl rfl ?_
    exact ⟨_, rfl, rfl, Or.inr ⟨rfl, by omega⟩⟩
  · replace h1 : (lo : Int) ≤ v := Int.not_lt.mp (show ¬ ((lo : Int) > v) from h1)
    refine e_Ok.ps2 (x := (0, hi)) (y := (0, v)) (q := 7) 2 rfl ?_
    refine e_Ok.if2 rfl (fun h2 => ?_) (fun h2 => ?_)
    · replace h2 : (v : Int) > hi := h2
      refine e_Ok.ps1 (x := (0, 0)) (q := 15) 1 rfl ?_
      refine e_Ok.rets rfl rfl ?_
      exact ⟨_, rfl, rfl, Or.inr ⟨rfl, by omega⟩⟩
    · replace h2 : (v : Int) ≤ hi := Int.not_lt.mp (show ¬ ((v : Int) > hi) from h2)
      refine e_Ok.ps1 (x := (0, 1)) (q := 15) 2 rfl ?_
      refine e_Ok.rets rfl rfl ?_
      exact ⟨_, rfl, rfl, Or.inl ⟨rfl, by omega, by omega⟩⟩
theorem b_89_n {d : Nat} (hd : 2 ≤ d) {w : eW} (hT : e_Has kTy w) {a j : Int} (ga : 0 ≤ a ∧ a ≤ 3) (gj : 0 ≤ j ∧ j ≤ 5) {x : Int} (g_x : (-2147483648) ≤ x ∧ x ≤ 2147483647) : e_Ok 1 elay code1 eI d 89 (0, [(0, (1, 17 * a + j + 97)), (1, (0, x))], [], w) (fun r w' => ∃ z : Int, r = [(0, z)] ∧ w = w' ∧ (0 ≤ z ∧ z ≤ 1)) := by
  obtain ⟨d, rfl⟩ : ∃ e, d = e + 1 := ⟨d - 1, by omega⟩
  refine e_Ok.run (t' := (2, [(0, (1, 17 * a + j + 97)), (1, (0, x))], [(1, 17 * a + j + 97), (0, x)], w)) 2 rfl ?_
  have h1 := (e_Has.get hT (c := 17 * a + j + 97) (k := 1) (lo := (-2147483648)) (hi := 2147483647) (kJ_1 (a := a) (j := j) rfl ga gj) (by decide))
  refine e_Ok.getf (z := w (17 * a + j + 97) 1) rfl (lJ (a := a) (j := j) rfl ga gj) rfl rfl rfl (e_bq h1 (by decide) (by decide)) ?_
  refine e_Ok.ps1 (x := (1, 17 * a + j + 97)) (q := 6) 1 rfl ?_
  have h2 := (e_Has.get hT (c := 17 * a + j + 97) (k := 2) (lo := (-2147483648)) (hi := 2147483647) (kJ_2 (a := a) (j := j) rfl ga gj) (by decide))
  refine e_Ok.getf (z := w (17 * a + j + 97) 2) rfl (lJ (a := a) (j := j) rfl ga gj) rfl rfl rfl (e_bq h2 (by decide) (by decide)) ?_
  refine e_Ok.callS rfl (by first | exact e_dq hd rfl | omega) rfl rfl (b_242 (by omega) (by omega) (by omega)) (fun r3 w4 h5 => ?_)
  obtain ⟨z6, rfl, rfl, q7⟩ := h5
  obtain ⟨rfl, q7⟩ | ⟨rfl, q7⟩ := q7
  · show e_Ok 1 elay code1 eI (d + 1) 89 (12, [(0, (1, 17 * a + j + 97)), (1, (0, x))], [(0, 1)], w) _
    refine e_Ok.rets rfl rfl ?_
    exact ⟨_, rfl, rfl, by omega⟩
  · show e_Ok 1 elay code1 eI (d + 1) 89 (12, [(0, (1, 17 * a + j + 97)), (1, (0, x))], [(0, 0)], w) _
    refine e_Ok.rets rfl rfl ?_
    exact ⟨_, rfl, rfl, by omega⟩
theorem b_94_n {d : Nat} (hd : 3 ≤ d) {w : eW} (hT : e_Has kTy w) {a j : Int} (ga : 0 ≤ a ∧ a ≤ 3) (gj : 0 ≤ j ∧ j ≤ 5) {x : Int} (g_x : 0 ≤ x ∧ x ≤ 1) (hb : kn1 (w (17 * a + j + 97) 11)) : e_Ok 1 elay code1 eI d 94 (0, [(0, (1, 17 * a + j + 97)), (1, (0, x))], [], w) (fun r w' => ∃ z : Int, r = [(0, z)] ∧ w = w' ∧ (0 ≤ z ∧ z ≤ 1)) := by
  obtain ⟨d, rfl⟩ : ∃ e, d = e + 1 := ⟨d - 1, by omega⟩
  unfold kn1 at hb
  refine e_Ok.run (t' := (2, [(0, (1, 17 * a + j + 97)), (1, (0, x))], [(1, 17 * a + j + 97), (1, 17 * a + j + 97)], w)) 2 rfl ?_
  have h1 := (e_Has.get hT (c := 17 * a + j + 97) (k := 7) (lo := (-2147483648)) (hi := 2147483647) (kJ_7 (a := a) (j := j) rfl ga gj) (by decide))
  refine e_Ok.getf (z := w (17 * a + j + 97) 7) rfl (lJ (a := a) (j := j) rfl ga gj) rfl rfl rfl (e_bq h1 (by decide) (by decide)) ?_
  refine e_Ok.callV rfl (by first | exact e_dq hd rfl | omega) rfl (lJ (a := a) (j := j) rfl ga gj) rfl rfl (b_89_n (e_dq hd rfl) hT (by omega) (by omega) (by omega)) (fun r2 w3 h4 => ?_)
  obtain ⟨z5, rfl, rfl, q6⟩ := h4
  show e_Ok 1 elay code1 eI (d + 1) 94 (8, [(0, (1, 17 * a + j + 97)), (1, (0, x))], [(0, z5)], w) _
  refine e_Ok.if1 rfl (fun h7 => ?_) (fun h7 => ?_)
  · replace h7 : (z5 : Int) ≠ 0 := h7
    refine e_Ok.run (t' := (14, [(0, (1, 17 * a + j + 97)), (1, (0, x))], [(0, x)], w)) 1 rfl ?_
    refine e_Ok.if1 rfl (fun h8 => ?_) (fun h8 => ?_)
    · replace h8 : (x : Int) = 0 := h8
      refine e_Ok.ps1 (x := (0, 0)) (q := 55) 1 rfl ?_
      refine e_Ok.rets rfl rfl ?_
      exact ⟨_, rfl, rfl, by omega⟩
    · replace h8 : (x : Int) ≠ 0 := (show ¬ ((x : Int) = 0) from h8)
      refine e_Ok.ps1 (x := (1, 17 * a + j + 97)) (q := 18) 1 rfl ?_
      have h9 := (e_Has.get hT (c := 17 * a + j + 97) (k := 8) (lo := (-2000)) (hi := 2000) (kJ_8 (a := a) (j := j) rfl ga gj) (by decide))
      refine e_Ok.getf (z := w (17 * a + j + 97) 8) rfl (lJ (a := a) (j := j) rfl ga gj) rfl rfl rfl (e_bq h9 (by decide) (by decide)) ?_
      refine e_Ok.mabs rfl rfl (by omega) (fun z10 z10r hz10 => ?_)
      replace hz10 : (0 ≤ (w (17 * a + j + 97) 8) → z10 = w (17 * a + j + 97) 8) ∧ ((w (17 * a + j + 97) 8) < 0 → -2147483647 ≤ (w (17 * a + j + 97) 8) → z10 = -(w (17 * a + j + 97) 8)) := hz10
      refine e_Ok.ps1 (x := (1, 17 * a + j + 97)) (q := 25) 1 rfl ?_
      have h11 := (e_Has.get hT (c := 17 * a + j + 97) (k := 5) (lo := (-2147483648)) (hi := 2147483647) (kJ_5 (a := a) (j := j) rfl ga gj) (by decide))
      refine e_Ok.getf (z := w (17 * a + j + 97) 5) rfl (lJ (a := a) (j := j) rfl ga gj) rfl rfl rfl (e_bq h11 (by decide) (by decide)) ?_
      refine e_Ok.if2 rfl (fun h12 => ?_) (fun h12 => ?_)
      · replace h12 : (z10 : Int) > w (17 * a + j + 97) 5 := h12
        refine e_Ok.ps1 (x := (0, 1)) (q := 55) 2 rfl ?_
        refine e_Ok.rets rfl rfl ?_
        exact ⟨_, rfl, rfl, by omega⟩
      · replace h12 : (z10 : Int) ≤ w (17 * a + j + 97) 5 := Int.not_lt.mp (show ¬ ((z10 : Int) > w (17 * a + j + 97) 5) from h12)
        refine e_Ok.ps1 (x := (1, 17 * a + j + 97)) (q := 32) 1 rfl ?_
        refine e_Ok.getf (z := w (17 * a + j + 97) 8) rfl (lJ (a := a) (j := j) rfl ga gj) rfl rfl rfl (by omega) ?_
        refine e_Ok.ps1 (x := (1, 17 * a + j + 97)) (q := 36) 1 rfl ?_
        refine e_Ok.getf (z := w (17 * a + j + 97) 11) rfl (lJ (a := a) (j := j) rfl ga gj) rfl rfl rfl (by omega) ?_
        refine e_Ok.any rfl (eF_sub_any _ _) (fun z13 z13a z13b => ?_)
        refine e_Ok.mabs rfl rfl (by omega) (fun z14 z14r hz14 => ?_)
        replace hz14 : (0 ≤ z13 → z14 = z13) ∧ (z13 < 0 → -2147483647 ≤ z13 → z14 = -z13) := hz14
        refine e_Ok.ps1 (x := (1, 17 * a + j + 97)) (q := 44) 1 rfl ?_
        have h15 := (e_Has.get hT (c := 17 * a + j + 97) (k := 6) (lo := (-2147483648)) (hi := 2147483647) (kJ_6 (a := a) (j := j) rfl ga gj) (by decide))
        refine e_Ok.getf (z := w (17 * a + j + 97) 6) rfl (lJ (a := a) (j := j) rfl ga gj) rfl rfl rfl (e_bq h15 (by decide) (by decide)) ?_
        refine e_Ok.if2 rfl (fun h16 => ?_) (fun h16 => ?_)
        · replace h16 : (z14 : Int) ≤ w (17 * a + j + 97) 6 := h16
          refine e_Ok.ps1 (x := (0, 0)) (q := 55) 1 rfl ?_
          refine e_Ok.rets rfl rfl ?_
          exact ⟨_, rfl, rfl, by omega⟩
        · replace h16 : (z14 : Int) > w (17 * a + j + 97) 6 := Int.not_le.mp (show ¬ ((z14 : Int) ≤ w (17 * a + j + 97) 6) from h16)
          refine e_Ok.ps1 (x := (0, 1)) (q := 55) 2 rfl ?_
          refine e_Ok.rets rfl rfl ?_
          exact ⟨_, rfl, rfl, by omega⟩
  · replace h7 : (z5 : Int) = 0 := Classical.not_not.mp (show ¬ ((z5 : Int) ≠ 0) from h7)
    refine e_Ok.run (t' := (12, [(0, (1, 17 * a + j + 97)), (1, (0, x))], [(0, 1)], w)) 1 rfl ?_
    refine e_Ok.rets rfl rfl ?_
    exact ⟨_, rfl, rfl, by omega⟩
theorem b_19_n {d : Nat} (hd : 5 ≤ d) {w : eW} (hT : e_Has kTy w) {a : Int} (ga : 0 ≤ a ∧ a ≤ 3) {x : Int} (g_x : 0 ≤ x ∧ x ≤ 1) (hb : ∀ j, 0 ≤ j → j < w (17 * a + 86) 8 → kn1 (w (17 * a + j + 97) 11)) : e_Ok 1 elay code1 eI d 19 (0, [(0, (1, 17 * a + 86)), (1, (0, x))], [], w) (fun r w' => ∃ z : Int, r = [(0, z)] ∧ w = w' ∧ (0 ≤ z ∧ z ≤ 6)) := by
  obtain ⟨d, rfl⟩ : ∃ e, d = e + 1 := ⟨d - 1, by omega⟩
  have hjn := kn_joints hT (a := a) (by omega)
  refine e_Ok.run (t' := (4, [(3, (0, 0)), (2, (0, 0)), (0, (1, 17 * a + 86)), (1, (0, x))], [], w)) 4 rfl ?_
  have hL1 : ∀ (nn : Nat) (y2 : Int) (y3 : Int), (0 ≤ y2 ∧ y2 ≤ y3 ∧ y3 ≤ 6) → 7 - y3 < nn → e_Ok 1 elay code1 eI (d + 1) 19 (4, [(0, (1, 17 * a + 86)), (1, (0, x)), (2, (0, y2)), (3, (0, y3))], [], w) (fun r w' => ∃ z : Int, r = [(0, z)] ∧ w = w' ∧ (0 ≤ z ∧ z ≤ 6)) := by
    intro nn
    induction nn with
    | zero => intro y2 y3 hj hm; obtain j3 := hj; exfalso; omega
    | succ nn ih2 =>
      intro y2 y3 hj hm
      obtain j3 := hj
      refine e_Ok.run (t' := (6, [(0, (1, 17 * a + 86)), (1, (0, x)), (2, (0, y2)), (3, (0, y3))], [(1, 17 * a + 86), (0, y3)], w)) 2 rfl ?_
      have h4 := (e_Has.get hT (c := 17 * a + 86) (k := 8) (lo := 0) (hi := 6) (kA_8 (a := a) rfl ga) (by decide))
      refine e_Ok.getf (z := w (17 * a + 86) 8) rfl (lA0 (a := a) rfl ga) rfl rfl rfl (e_bq h4 (by decide) (by decide)) ?_
      refine e_Ok.if2 rfl (fun h5 => ?_) (fun h5 => ?_)
      · replace h5 : (y3 : Int) ≥ w (17 * a + 86) 8 := h5
        refine e_Ok.ps1 (x := (0, y2)) (q := 35) 1 rfl ?_
        refine e_Ok.rets rfl rfl ?_
        exact ⟨_, rfl, rfl, by omega⟩
      · replace h5 : (y3 : Int) < w (17 * a + 86) 8 := Int.not_le.mp (show ¬ ((y3 : Int) ≥ w (17 * a + 86) 8) from h5)
        refine e_Ok.ps1 (x := (1, 17 * a + 86)) (q := 13) 1 rfl ?_
        refine e_Ok.getr (z := 17 * a + 87) rfl (lA0 (a := a) rfl ga) rfl rfl (Eq.trans (e_Has.eq hT (kA_0 (a := a) rfl ga)) (by omega)) (by omega) ?_
        refine e_Ok.ps1 (x := (0, y3)) (q := 17) 1 rfl ?_
        refine e_Ok.aald (z := 17 * a + y3 + 97) rfl (lA1 (a := a) rfl ga) rfl (by omega) (Eq.trans (e_Has.eq hT (kA87 (a := a) rfl ga (by omega))) (by omega)) (by omega) ?_
        refine e_Ok.ps1 (x := (0, x)) (q := 19) 1 rfl ?_
        refine e_Ok.callV rfl (by first | exact e_dq hd rfl | omega) rfl (lJ (a := a) (j := y3) (by omega) (by omega) (by omega)) rfl rfl (b_94_n (e_dq hd rfl) (a := a) (j := y3) hT (by omega) (by omega) (by omega) (hb y3 (by omega) (by omega))) (fun r6 w7 h8 => ?_)
        obtain ⟨z9, rfl, rfl, q10⟩ := h8
        show e_Ok 1 elay code1 eI (d + 1) 19 (22, [(0, (1, 17 * a + 86)), (1, (0, x)), (2, (0, y2)), (3, (0, y3))], [(0, z9)], w) _
        refine e_Ok.if1 rfl (fun h11 => ?_) (fun h11 => ?_)
        · replace h11 : (z9 : Int) = 0 := h11
          refine e_Ok.inc (z := y3 + 1) rfl rfl (by first | with_reducible rfl | omega) (by omega) ?_
          show e_Ok 1 elay code1 eI (d + 1) 19 (31, [(3, (0, y3 + 1)), (0, (1, 17 * a + 86)), (1, (0, x)), (2, (0, y2))], [], w) _
          refine e_Ok.run (t' := (4, [(3, (0, y3 + 1)), (0, (1, 17 * a + 86)), (1, (0, x)), (2, (0, y2))], [], w)) 1 rfl ?_
          refine e_Ok.sub c1lk (e_sub_of rfl ?_) (ih2 y2 (y3 + 1) ((by omega)) (by omega))
          exact ⟨rfl, rfl, rfl, rfl, trivial⟩
        · replace h11 : (z9 : Int) ≠ 0 := (show ¬ ((z9 : Int) = 0) from h11)
          refine e_Ok.inc (z := y2 + 1) rfl rfl (by first | with_reducible rfl | omega) (by omega) ?_
          show e_Ok 1 elay code1 eI (d + 1) 19 (28, [(2, (0, y2 + 1)), (0, (1, 17 * a + 86)), (1, (0, x)), (3, (0, y3))], [], w) _
          refine e_Ok.inc (z := y3 + 1) rfl rfl (by first | with_reducible rfl | omega) (by omega) ?_
          show e_Ok 1 elay code1 eI (d + 1) 19 (31, [(3, (0, y3 + 1)), (2, (0, y2 + 1)), (0, (1, 17 * a + 86)), (1, (0, x))], [], w) _
          refine e_Ok.run (t' := (4, [(3, (0, y3 + 1)), (2, (0, y2 + 1)), (0, (1, 17 * a + 86)), (1, (0, x))], [], w)) 1 rfl ?_
          refine e_Ok.sub c1lk (e_sub_of rfl ?_) (ih2 (y2 + 1) (y3 + 1) ((by omega)) (by omega))
          exact ⟨rfl, rfl, rfl, rfl, trivial⟩
  refine e_Ok.sub c1lk (e_sub_of rfl ?_) (hL1 (7 + 1 : Int).toNat 0 0 ((by omega)) (by omega))
  exact ⟨rfl, rfl, rfl, rfl, trivial⟩
theorem b_93_n {d : Nat} {w : eW} (hT : e_Has kTy w) {a j : Int} (ga : 0 ≤ a ∧ a ≤ 3) (gj : 0 ≤ j ∧ j ≤ 5) (hb : kn1 (w (17 * a + j + 97) 10)) : e_Ok 1 elay code1 eI d 93 (0, [(0, (1, 17 * a + j + 97))], [], w) (fun r w' => ∃ z : Int, r = [(0, z)] ∧ w = w' ∧ (0 ≤ z ∧ z ≤ 6000)) := by
  unfold kn1 at hb
  refine e_Ok.run (t' := (1, [(0, (1, 17 * a + j + 97))], [(1, 17 * a + j + 97)], w)) 1 rfl ?_
  have h1 := (e_Has.get hT (c := 17 * a + j + 97) (k := 9) (lo := (-2147483648)) (hi := 2147483647) (kJ_9 (a := a) (j := j) rfl ga gj) (by decide))
  refine e_Ok.getf (z := w (17 * a + j + 97) 9) rfl (lJ (a := a) (j := j) rfl ga gj) rfl rfl rfl (e_bq h1 (by decide) (by decide)) ?_
  refine e_Ok.ps1 (x := (1, 17 * a + j + 97)) (q := 5) 1 rfl ?_
  refine e_Ok.getf (z := w (17 * a + j + 97) 10) rfl (lJ (a := a) (j := j) rfl ga gj) rfl rfl rfl (by omega) ?_
  refine e_Ok.any rfl (eF_sub_any _ _) (fun z2 z2a z2b => ?_)
  refine e_Ok.mabs rfl rfl (by omega) (fun z3 z3r hz3 => ?_)
  replace hz3 : (0 ≤ z2 → z3 = z2) ∧ (z2 < 0 → -2147483647 ≤ z2 → z3 = -z2) := hz3
  refine e_Ok.run (t' := (17, [(3, (0, 0)), (2, (0, 0)), (1, (0, z3)), (0, (1, 17 * a + j + 97))], [], w)) 5 rfl ?_
  have hL4 : ∀ (nn : Nat) (y2 : Int) (y3 : Int), ((-2147483648 ≤ y2 ∧ y2 ≤ 2147483647)) ∧ ((0 ≤ y3 ∧ y3 ≤ 6000)) → 6001 - y3 < nn → e_Ok 1 elay code1 eI d 93 (17, [(0, (1, 17 * a + j + 97)), (1, (0, z3)), (2, (0, y2)), (3, (0, y3))], [], w) (fun r w' => ∃ z : Int, r = [(0, z)] ∧ w = w' ∧ (0 ≤ z ∧ z ≤ 6000)) := by
    intro nn
    induction nn with
    | zero => intro y2 y3 hj hm; obtain ⟨j6, j7⟩ := hj; exfalso; omega
    | succ nn ih5 =>
      intro y2 y3 hj hm
      obtain ⟨j6, j7⟩ := hj
      refine e_Ok.run (t' := (19, [(0, (1, 17 * a + j + 97)), (1, (0, z3)), (2, (0, y2)), (3, (0, y3))], [(0, z3), (0, y2)], w)) 2 rfl ?_
      refine e_Ok.if2 rfl (fun h8 => ?_) (fun h8 => ?_)
      · replace h8 : (y2 : Int) ≥ z3 := h8
        refine e_Ok.ps1 (x := (0, y3)) (q := 56) 1 rfl ?_
        refine e_Ok.rets rfl rfl ?_
        exact ⟨_, rfl, rfl, by omega⟩
      · replace h8 : (y2 : Int) < z3 := Int.not_le.mp (show ¬ ((y2 : Int) ≥ z3) from h8)
        refine e_Ok.ps2 (x := (0, 6000)) (y := (0, y3)) (q := 26) 2 rfl ?_
        refine e_Ok.if2 rfl (fun h9 => ?_) (fun h9 => ?_)
        · replace h9 : (y3 : Int) ≥ 6000 := h9
          refine e_Ok.ps1 (x := (0, y3)) (q := 56) 1 rfl ?_
          refine e_Ok.rets rfl rfl ?_
          exact ⟨_, rfl, rfl, by omega⟩
        · replace h9 : (y3 : Int) < 6000 := Int.not_le.mp (show ¬ ((y3 : Int) ≥ 6000) from h9)
          refine e_Ok.inc (z := y3 + 1) rfl rfl (by first | with_reducible rfl | omega) (by omega) ?_
          show e_Ok 1 elay code1 eI d 93 (32, [(3, (0, y3 + 1)), (0, (1, 17 * a + j + 97)), (1, (0, z3)), (2, (0, y2))], [], w) _
          refine e_Ok.run (t' := (34, [(3, (0, y3 + 1)), (0, (1, 17 * a + j + 97)), (1, (0, z3)), (2, (0, y2))], [(1, 17 * a + j + 97), (0, y2)], w)) 2 rfl ?_
          have h10 := (e_Has.get hT (c := 17 * a + j + 97) (k := 5) (lo := (-2147483648)) (hi := 2147483647) (kJ_5 (a := a) (j := j) rfl ga gj) (by decide))
          refine e_Ok.getf (z := w (17 * a + j + 97) 5) rfl (lJ (a := a) (j := j) rfl ga gj) rfl rfl rfl (e_bq h10 (by decide) (by decide)) ?_
          refine e_Ok.ps1 (x := (1, 17 * a + j + 97)) (q := 38) 1 rfl ?_
          have h11 := (e_Has.get hT (c := 17 * a + j + 97) (k := 6) (lo := (-2147483648)) (hi := 2147483647) (kJ_6 (a := a) (j := j) rfl ga gj) (by decide))
          refine e_Ok.getf (z := w (17 * a + j + 97) 6) rfl (lJ (a := a) (j := j) rfl ga gj) rfl rfl rfl (e_bq h11 (by decide) (by decide)) ?_
          refine e_Ok.ps2 (x := (0, 1)) (y := (0, y3 + 1)) (q := 43) 2 rfl ?_
          refine e_Ok.add (z := y3 + 2) rfl (e_adl (by decide)) (by omega) ?_
          refine e_Ok.ps1 (x := (0, 2)) (q := 45) 1 rfl ?_
          refine e_Ok.divn (fun z12 hz12 => ?_) rfl (by omega) (by omega)
          replace hz12 : z12 = (y3 + 2) / 2 := hz12
          have z12r : 1 ≤ z12 ∧ z12 ≤ 3000 := by omega
          refine e_Ok.any rfl (eF_mul_any _ _) (fun z13 z13a z13b => ?_)
          refine e_Ok.mmin rfl rfl (fun z14 hz14 => ?_)
          replace hz14 : (z13 < w (17 * a + j + 97) 5 ∧ z14 = z13) ∨ ((w (17 * a + j + 97) 5) ≤ z13 ∧ z14 = w (17 * a + j + 97) 5) := hz14
          refine e_Ok.any rfl (eF_add_any _ _) (fun z15 z15a z15b => ?_)
          refine e_Ok.run (t' := (17, [(2, (0, z15)), (3, (0, y3 + 1)), (0, (1, 17 * a + j + 97)), (1, (0, z3))], [], w)) 2 rfl ?_
          refine e_Ok.sub c1lk (e_sub_of rfl ?_) (ih5 z15 (y3 + 1) ⟨(by omega), (by omega)⟩ (by omega))
          exact ⟨rfl, rfl, rfl, rfl, trivial⟩
  refine e_Ok.sub c1lk (e_sub_of rfl ?_) (hL4 (6001 + 1 : Int).toNat 0 0 ⟨(by omega), (by omega)⟩ (by omega))
  exact ⟨rfl, rfl, rfl, rfl, trivial⟩
theorem b_18_n {d : Nat} (hd : 3 ≤ d) {w : eW} (hT : e_Has kTy w) {a : Int} (ga : 0 ≤ a ∧ a ≤ 3) (hb : ∀ j, 0 ≤ j → j < w (17 * a + 86) 8 → kn1 (w (17 * a + j + 97) 10)) : e_Ok 1 elay code1 eI d 18 (0, [(0, (1, 17 * a + 86))], [], w) (fun r w' => ∃ z : Int, r = [(0, z)] ∧ w = w' ∧ (0 ≤ z ∧ z ≤ 6000)) := by
  obtain ⟨d, rfl⟩ : ∃ e, d = e + 1 := ⟨d - 1, by omega⟩
  have hjn := kn_joints hT (a := a) (by omega)
  refine e_Ok.run (t' := (4, [(2, (0, 0)), (1, (0, 0)), (0, (1, 17 * a + 86))], [], w)) 4 rfl ?_
  have hL1 : ∀ (nn : Nat) (y1 : Int) (y2 : Int), ((0 ≤ y1 ∧ y1 ≤ 6000)) ∧ ((0 ≤ y2 ∧ y2 ≤ 6)) → 7 - y2 < nn → e_Ok 1 elay code1 eI (d + 1) 18 (4, [(0, (1, 17 * a + 86)), (1, (0, y1)), (2, (0, y2))], [], w) (fun r w' => ∃ z : Int, r = [(0, z)] ∧ w = w' ∧ (0 ≤ z ∧ z ≤ 6000)) := by
    intro nn
    induction nn with
    | zero => intro y1 y2 hj hm; obtain ⟨j3, j4⟩ := hj; exfalso; omega
    | succ nn ih2 =>
      intro y1 y2 hj hm
      obtain ⟨j3, j4⟩ := hj
      refine e_Ok.run (t' := (6, [(0, (1, 17 * a + 86)), (1, (0, y1)), (2, (0, y2))], [(1, 17 * a + 86), (0, y2)], w)) 2 rfl ?_
      have h5 := (e_Has.get hT (c := 17 * a + 86) (k := 8) (lo := 0) (hi := 6) (kA_8 (a := a) rfl ga) (by decide))
      refine e_Ok.getf (z := w (17 * a + 86) 8) rfl (lA0 (a := a) rfl ga) rfl rfl rfl (e_bq h5 (by decide) (by decide)) ?_
      refine e_Ok.if2 rfl (fun h6 => ?_) (fun h6 => ?_)
      · replace h6 : (y2 : Int) ≥ w (17 * a + 86) 8 := h6
        refine e_Ok.ps1 (x := (0, y1)) (q := 33) 1 rfl ?_
        refine e_Ok.rets rfl rfl ?_
        exact ⟨_, rfl, rfl, by omega⟩
      · replace h6 : (y2 : Int) < w (17 * a + 86) 8 := Int.not_le.mp (show ¬ ((y2 : Int) ≥ w (17 * a + 86) 8) from h6)
        refine e_Ok.ps2 (x := (1, 17 * a + 86)) (y := (0, y1)) (q := 14) 2 rfl ?_
        refine e_Ok.getr (z := 17 * a + 87) rfl (lA0 (a := a) rfl ga) rfl rfl (Eq.trans (e_Has.eq hT (kA_0 (a := a) rfl ga)) (by omega)) (by omega) ?_
        refine e_Ok.ps1 (x := (0, y2)) (q := 18) 1 rfl ?_
        refine e_Ok.aald (z := 17 * a + y2 + 97) rfl (lA1 (a := a) rfl ga) rfl (by omega) (Eq.trans (e_Has.eq hT (kA87 (a := a) rfl ga (by omega))) (by omega)) (by omega) ?_
        refine e_Ok.callV rfl (by first | exact e_dq hd rfl | omega) rfl (lJ (a := a) (j := y2) (by omega) (by omega) (by omega)) rfl rfl (b_93_n (a := a) (j := y2) hT (by omega) (by omega) (hb y2 (by omega) (by omega))) (fun r7 w8 h9 => ?_)
        obtain ⟨z10, rfl, rfl, q11⟩ := h9
        show e_Ok 1 elay code1 eI (d + 1) 18 (22, [(0, (1, 17 * a + 86)), (1, (0, y1)), (2, (0, y2))], [(0, z10), (0, y1)], w) _
        refine e_Ok.mmax rfl rfl (fun z12 hz12 => ?_)
        replace hz12 : (y1 < z10 ∧ z12 = z10) ∨ (z10 ≤ y1 ∧ z12 = y1) := hz12
        refine e_Ok.run (t' := (26, [(1, (0, z12)), (0, (1, 17 * a + 86)), (2, (0, y2))], [], w)) 1 rfl ?_
        refine e_Ok.inc (z := y2 + 1) rfl rfl (by first | with_reducible rfl | omega) (by omega) ?_
        show e_Ok 1 elay code1 eI (d + 1) 18 (29, [(2, (0, y2 + 1)), (1, (0, z12)), (0, (1, 17 * a + 86))], [], w) _
        refine e_Ok.run (t' := (4, [(2, (0, y2 + 1)), (1, (0, z12)), (0, (1, 17 * a + 86))], [], w)) 1 rfl ?_
        refine e_Ok.sub c1lk (e_sub_of rfl ?_) (ih2 z12 (y2 + 1) ⟨(by omega), (by omega)⟩ (by omega))
        exact ⟨rfl, rfl, rfl, trivial⟩
  refine e_Ok.sub c1lk (e_sub_of rfl ?_) (hL1 (7 + 1 : Int).toNat 0 0 ⟨(by omega), (by omega)⟩ (by omega))
  exact ⟨rfl, rfl, rfl, trivial⟩
theorem b_7 {d : Nat} {w : eW} (hT : e_Has kTy w) {a : Int} (g_a : 0 ≤ a ∧ a ≤ 3) : e_Ok 1 elay code1 eI d 7 (0, [(0, (1, 17 * a + 86))], [], w) (fun r w' => ∃ z : Int, r = [(0, z)] ∧ w = w' ∧ (0 ≤ z ∧ z ≤ 7) ∧ z ≤ w (17 * a + 86) 8 + 1) := by
  refine e_Ok.run (t' := (1, [(0, (1, 17 * a + 86))], [(1, 17 * a + 86)], w)) 1 rfl ?_
  have h1 := (e_Has.get hT (c := 17 * a + 86) (k := 14) (lo := (-1)) (hi := 31) (kA_14 (a := a) rfl g_a) (by decide))
  refine e_Ok.getf (z := w (17 * a + 86) 14) rfl (lA0 (a := a) rfl g_a) rfl rfl rfl (e_bq h1 (by decide) (by decide)) ?_
  refine e_Ok.if1 rfl (fun h2 => ?_) (fun h2 => ?_)
  · replace h2 : (w (17 * a + 86) 14 : Int) ≥ 0 := h2
    refine e_Ok.ps1 (x := (1, 17 * a + 86)) (q := 15) 1 rfl ?_
    have h3 := (e_Has.get hT (c := 17 * a + 86) (k := 8) (lo := 0) (hi := 6) (kA_8 (a := a) rfl g_a) (by decide))
    refine e_Ok.getf (z := w (17 * a + 86) 8) rfl (lA0 (a := a) rfl g_a) rfl rfl rfl (e_bq h3 (by decide) (by decide)) ?_
    refine e_Ok.ps1 (x := (0, 1)) (q := 19) 1 rfl ?_
    refine e_Ok.add (z := w (17 * a + 86) 8 + 1) rfl rfl (by omega) ?_
    refine e_Ok.rets rfl rfl ?_
    exact ⟨_, rfl, rfl, ⟨by omega, by omega⟩, by omega⟩
  · replace h2 : (w (17 * a + 86) 14 : Int) < 0 := Int.not_le.mp (show ¬ ((w (17 * a + 86) 14 : Int) ≥ 0) from h2)
    refine e_Ok.ps1 (x := (1, 17 * a + 86)) (q := 8) 1 rfl ?_
    have h4 := (e_Has.get hT (c := 17 * a + 86) (k := 8) (lo := 0) (hi := 6) (kA_8 (a := a) rfl g_a) (by decide))
    refine e_Ok.getf (z := w (17 * a + 86) 8) rfl (lA0 (a := a) rfl g_a) rfl rfl rfl (e_bq h4 (by decide) (by decide)) ?_
    refine e_Ok.ps0 (q := 20) 1 rfl ?_
    refine e_Ok.rets rfl rfl ?_
    exact ⟨_, rfl, rfl, ⟨by omega, by omega⟩, by omega⟩
theorem b_8 {d : Nat} {w : eW} (hT : e_Has kTy w) {a i : Int} (g_a : 0 ≤ a ∧ a ≤ 3) (g_i : 0 ≤ i ∧ i ≤ 7) : e_Ok 1 elay code1 eI d 8 (0, [(0, (1, 17 * a + 86)), (1, (0, i))], [], w) (fun r w' => ∃ z : Int, r = [(0, z)] ∧ w = w' ∧ ((-2147483648) ≤ z ∧ z ≤ 2147483647)) := by
  refine e_Ok.run (t' := (2, [(0, (1, 17 * a + 86)), (1, (0, i))], [(1, 17 * a + 86), (0, i)], w)) 2 rfl ?_
  have h1 := (e_Has.get hT (c := 17 * a + 86) (k := 8) (lo := 0) (hi := 6) (kA_8 (a := a) rfl g_a) (by decide))
  refine e_Ok.getf (z := w (17 * a + 86) 8) rfl (lA0 (a := a) rfl g_a) rfl rfl rfl (e_bq h1 (by decide) (by decide)) ?_
  refine e_Ok.if2 rfl (fun h2 => ?_) (fun h2 => ?_)
  · replace h2 : (i : Int) ≥ w (17 * a + 86) 8 := h2
    refine e_Ok.ps1 (x := (1, 17 * a + 86)) (q := 21) 1 rfl ?_
    have h3 := (e_Has.get hT (c := 17 * a + 86) (k := 15) (lo := (-2147483648)) (hi := 2147483647) (kA_15 (a := a) rfl g_a) (by decide))
    refine e_Ok.getf (z := w (17 * a + 86) 15) rfl (lA0 (a := a) rfl g_a) rfl rfl rfl (e_bq h3 (by decide) (by decide)) ?_
    refine e_Ok.rets rfl rfl ?_
    exact ⟨_, rfl, rfl, ⟨by omega, by omega⟩⟩
  · replace h2 : (i : Int) < w (17 * a + 86) 8 := Int.not_le.mp (show ¬ ((i : Int) ≥ w (17 * a + 86) 8) from h2)
    refine e_Ok.ps1 (x := (1, 17 * a + 86)) (q := 9) 1 rfl ?_
    refine e_Ok.getr (z := 17 * a + 87) rfl (lA0 (a := a) rfl g_a) rfl rfl (Eq.trans (e_Has.eq hT (kA_0 (a := a) rfl g_a)) (by omega)) (by omega) ?_
    refine e_Ok.ps1 (x := (0, i)) (q := 13) 1 rfl ?_
    refine e_Ok.aald (z := 17 * a + i + 97) rfl (lA1 (a := a) rfl g_a) rfl (by omega) (Eq.trans (e_Has.eq hT (kA87 (a := a) rfl g_a (by omega))) (by omega)) (by omega) ?_
    have h4 := (e_Has.get hT (c := 17 * a + i + 97) (k := 4) (lo := (-2147483648)) (hi := 2147483647) (kJ_4 (a := a) (j := i) (by omega) (by omega) (by omega)) (by decide))
    refine e_Ok.getf (z := w (17 * a + i + 97) 4) rfl (lJ (a := a) (j := i) (by omega) (by omega) (by omega)) rfl rfl rfl (e_bq h4 (by decide) (by decide)) ?_
    refine e_Ok.ps0 (q := 24) 1 rfl ?_
    refine e_Ok.rets rfl rfl ?_
    exact ⟨_, rfl, rfl, ⟨by omega, by omega⟩⟩
theorem b_174 {d : Nat} {w : eW} (hT : e_Has kTy w) {cx cy dx dy rr : Int} (g_cx : (-2147483648) ≤ cx ∧ cx ≤ 2147483647) (g_cy : (-2147483648) ≤ cy ∧ cy ≤ 2147483647) (g_dx : (-2147483648) ≤ dx ∧ dx ≤ 2147483647) (g_dy : (-2147483648) ≤ dy ∧ dy ≤ 2147483647) (g_rr : (-2147483648) ≤ rr ∧ rr ≤ 2147483647) (kl : e_kn w 250 13 16) : e_Ok 1 elay code1 eI d 174 (0, [(0, (1, 250)), (1, (0, cx)), (2, (0, cy)), (3, (0, dx)), (4, (0, dy)), (5, (0, rr))], [], w) (fun r w' => ∃ z : Int, r = [(0, z)] ∧ w = w' ∧ (0 ≤ z ∧ z ≤ 1)) := by
  refine e_Ok.run (t' := (1, [(0, (1, 250)), (1, (0, cx)), (2, (0, cy)), (3, (0, dx)), (4, (0, dy)), (5, (0, rr))], [(1, 250)], w)) 1 rfl ?_
  have h1 := (kl 13 (by omega) (by omega))
  refine e_Ok.getf (z := w 250 13) rfl (el_o rfl) rfl rfl rfl (by omega) ?_
  refine e_Ok.ps1 (x := (1, 250)) (q := 5) 1 rfl ?_
  have h2 := (kl 15 (by omega) (by omega))
  refine e_Ok.getf (z := w 250 15) rfl (el_o rfl) rfl rfl rfl (by omega) ?_
  refine e_Ok.mmax rfl rfl (fun z3 hz3 => ?_)
  replace hz3 : ((w 250 13) < w 250 15 ∧ z3 = w 250 15) ∨ ((w 250 15) ≤ w 250 13 ∧ z3 = w 250 13) := hz3
  refine e_Ok.ps1 (x := (0, rr)) (q := 13) 1 rfl ?_
  refine e_Ok.any rfl (eF_add_any _ _) (fun z4 z4a z4b => ?_)
  refine e_Ok.ps2 (x := (0, dx)) (y := (0, cx)) (q := 16) 2 rfl ?_
  refine e_Ok.mmin rfl rfl (fun z5 hz5 => ?_)
  replace hz5 : (dx < cx ∧ z5 = dx) ∨ (cx ≤ dx ∧ z5 = cx) := hz5
  refine e_Ok.if2 rfl (fun h6 => ?_) (fun h6 => ?_)
  · replace h6 : (z4 : Int) < z5 := h6
    refine e_Ok.ps1 (x := (0, 1)) (q := 95) 2 rfl ?_
    refine e_Ok.rets rfl rfl ?_
    exact ⟨_, rfl, rfl, ⟨by omega, by omega⟩⟩
  · replace h6 : (z4 : Int) ≥ z5 := Int.not_lt.mp (show ¬ ((z4 : Int) < z5) from h6)
    refine e_Ok.ps2 (x := (0, dx)) (y := (0, cx)) (q := 24) 2 rfl ?_
    refine e_Ok.mmax rfl rfl (fun z7 hz7 => ?_)
    replace hz7 : (cx < dx ∧ z7 = dx) ∨ (dx ≤ cx ∧ z7 = cx) := hz7
    refine e_Ok.ps1 (x := (0, rr)) (q := 29) 1 rfl ?_
    refine e_Ok.any rfl (eF_add_any _ _) (fun z8 z8a z8b => ?_)
    refine e_Ok.ps1 (x := (1, 250)) (q := 31) 1 rfl ?_
    refine e_Ok.getf (z := w 250 13) rfl (el_o rfl) rfl rfl rfl (by omega) ?_
    refine e_Ok.ps1 (x := (1, 250)) (q := 35) 1 rfl ?_
    refine e_Ok.getf (z := w 250 15) rfl (el_o rfl) rfl rfl rfl (by omega) ?_
    refine e_Ok.mmin rfl rfl (fun z9 hz9 => ?_)
    replace hz9 : ((w 250 15) < w 250 13 ∧ z9 = w 250 15) ∨ ((w 250 13) ≤ w 250 15 ∧ z9 = w 250 13) := hz9
    refine e_Ok.if2 rfl (fun h10 => ?_) (fun h10 => ?_)
    · replace h10 : (z8 : Int) < z9 := h10
      refine e_Ok.ps1 (x := (0, 1)) (q := 95) 2 rfl ?_
      refine e_Ok.rets rfl rfl ?_
      exact ⟨_, rfl, rfl, ⟨by omega, by omega⟩⟩
    · replace h10 : (z8 : Int) ≥ z9 := Int.not_lt.mp (show ¬ ((z8 : Int) < z9) from h10)
      refine e_Ok.ps1 (x := (1, 250)) (q := 45) 1 rfl ?_
      have h11 := (kl 14 (by omega) (by omega))
      refine e_Ok.getf (z := w 250 14) rfl (el_o rfl) rfl rfl rfl (by omega) ?_
      refine e_Ok.ps1 (x := (1, 250)) (q := 49) 1 rfl ?_
      have h12 := (kl 16 (by omega) (by omega))
      refine e_Ok.getf (z := w 250 16) rfl (el_o rfl) rfl rfl rfl (by omega) ?_
      refine e_Ok.mmax rfl rfl (fun z13 hz13 => ?_)
      replace hz13 : ((w 250 14) < w 250 16 ∧ z13 = w 250 16) ∨ ((w 250 16) ≤ w 250 14 ∧ z13 = w 250 14) := hz13
      refine e_Ok.ps1 (x := (0, rr)) (q := 57) 1 rfl ?_
      refine e_Ok.any rfl (eF_add_any _ _) (fun z14 z14a z14b => ?_)
      refine e_Ok.ps2 (x := (0, dy)) (y := (0, cy)) (q := 61) 2 rfl ?_
      refine e_Ok.mmin rfl rfl (fun z15 hz15 => ?_)
      replace hz15 : (dy < cy ∧ z15 = dy) ∨ (cy ≤ dy ∧ z15 = cy) := hz15
      refine e_Ok.if2 rfl (fun h16 => ?_) (fun h16 => ?_)
      · replace h16 : (z14 : Int) < z15 := h16
        refine e_Ok.ps1 (x := (0, 1)) (q := 95) 2 rfl ?_
        refine e_Ok.rets rfl rfl ?_
        exact ⟨_, rfl, rfl, ⟨by omega, by omega⟩⟩
      · replace h16 : (z14 : Int) ≥ z15 := Int.not_lt.mp (show ¬ ((z14 : Int) < z15) from h16)
        refine e_Ok.ps2 (x := (0, dy)) (y := (0, cy)) (q := 70) 2 rfl ?_
        refine e_Ok.mmax rfl rfl (fun z17 hz17 => ?_)
        replace hz17 : (cy < dy ∧ z17 = dy) ∨ (dy ≤ cy ∧ z17 = cy) := hz17
        refine e_Ok.ps1 (x := (0, rr)) (q := 75) 1 rfl ?_
        refine e_Ok.any rfl (eF_add_any _ _) (fun z18 z18a z18b => ?_)
        refine e_Ok.ps1 (x := (1, 250)) (q := 77) 1 rfl ?_
        refine e_Ok.getf (z := w 250 14) rfl (el_o rfl) rfl rfl rfl (by omega) ?_
        refine e_Ok.ps1 (x := (1, 250)) (q := 81) 1 rfl ?_
        refine e_Ok.getf (z := w 250 16) rfl (el_o rfl) rfl rfl rfl (by omega) ?_
        refine e_Ok.mmin rfl rfl (fun z19 hz19 => ?_)
        replace hz19 : ((w 250 16) < w 250 14 ∧ z19 = w 250 16) ∨ ((w 250 14) ≤ w 250 16 ∧ z19 = w 250 14) := hz19
        have hJ22 : ∀ m21 : Int, 0 ≤ m21 ∧ m21 ≤ 1 → e_Ok 1 elay code1 eI d 174 (95, [(0, (1, 250)), (1, (0, cx)), (2, (0, cy)), (3, (0, dx)), (4, (0, dy)), (5, (0, rr))], [(0, m21)], w) (fun r w' => ∃ z : Int, r = [(0, z)] ∧ w = w' ∧ (0 ≤ z ∧ z ≤ 1)) := by
          intro m21 m21r
          refine e_Ok.retb rfl (by omega) ?_
          exact ⟨_, rfl, rfl, ⟨by omega, by omega⟩⟩
        refine e_Ok.if2 rfl (fun h20 => ?_) (fun h20 => ?_)
        · exact e_Ok.run 1 rfl (hJ22 0 (by omega))
        · exact e_Ok.run 2 rfl (hJ22 1 (by omega))
theorem b_177 {d : Nat} {w : eW} {dx dy px py : Int} (g_dx : (-2147483648) ≤ dx ∧ dx ≤ 2147483647) (g_dy : (-2147483648) ≤ dy ∧ dy ≤ 2147483647) (g_px : (-2147483648) ≤ px ∧ px ≤ 2147483647) (g_py : (-2147483648) ≤ py ∧ py ≤ 2147483647) : e_Ok 1 elay code1 eI d 177 (0, [(0, (0, dx)), (1, (0, dy)), (2, (0, px)), (3, (0, py))], [], w) (fun r w' => ∃ z : Int, r = [(4, z)] ∧ w = w') := by
  refine e_Ok.run (t' := (4, [(0, (0, dx)), (1, (0, dy)), (2, (0, px)), (3, (0, py))], [(4, py), (4, dx)], w)) 4 rfl ?_
  refine e_Ok.anyL rfl ⟨_, rfl⟩ (fun x1 => ?_)
  refine e_Ok.ps2 (x := (4, px)) (y := (4, dy)) (q := 9) 4 rfl ?_
  refine e_Ok.anyL rfl ⟨_, rfl⟩ (fun x2 => ?_)
  refine e_Ok.anyL rfl ⟨_, rfl⟩ (fun x3 => ?_)
  refine e_Ok.rets rfl rfl ?_
  exact ⟨_, rfl, rfl⟩
theorem b_176 {d : Nat} {w : eW} {dx dy px py rr : Int} (g_dx : (-2147483648) ≤ dx ∧ dx ≤ 2147483647) (g_dy : (-2147483648) ≤ dy ∧ dy ≤ 2147483647) (g_px : (-2147483648) ≤ px ∧ px ≤ 2147483647) (g_py : (-2147483648) ≤ py ∧ py ≤ 2147483647) (g_rr : (-2147483648) ≤ rr ∧ rr ≤ 2147483647) : e_Ok 1 elay code1 eI d 176 (0, [(0, (0, dx)), (1, (0, dy)), (2, (0, px)), (3, (0, py)), (4, (0, rr))], [], w) (fun r w' => ∃ z : Int, r = [(0, z)] ∧ w = w' ∧ (0 ≤ z ∧ z ≤ 1)) := by
  refine e_Ok.run (t' := (6, [(0, (0, dx)), (1, (0, dy)), (2, (0, px)), (3, (0, py)), (4, (0, rr))], [(4, rr), (4, rr)], w)) 4 rfl ?_
  refine e_Ok.anyL rfl ⟨_, rfl⟩ (fun x1 => ?_)
  refine e_Ok.run (t' := (13, [(5, (4, x1)), (0, (0, dx)), (1, (0, dy)), (2, (0, px)), (3, (0, py)), (4, (0, rr))], [(4, px), (4, px)], w)) 5 rfl ?_
  refine e_Ok.anyL rfl ⟨_, rfl⟩ (fun x2 => ?_)
  refine e_Ok.ps2 (x := (4, py)) (y := (4, py)) (q := 18) 4 rfl ?_
  refine e_Ok.anyL rfl ⟨_, rfl⟩ (fun x3 => ?_)
  refine e_Ok.anyL rfl ⟨_, rfl⟩ (fun x4 => ?_)
  refine e_Ok.run (t' := (26, [(7, (4, x4)), (5, (4, x1)), (0, (0, dx)), (1, (0, dy)), (2, (0, px)), (3, (0, py)), (4, (0, rr))], [(4, px), (4, dx)], w)) 5 rfl ?_
  refine e_Ok.anyL rfl ⟨_, rfl⟩ (fun x5 => ?_)
  refine e_Ok.ps2 (x := (4, py)) (y := (4, dy)) (q := 31) 4 rfl ?_
  refine e_Ok.anyL rfl ⟨_, rfl⟩ (fun x6 => ?_)
  refine e_Ok.anyL rfl ⟨_, rfl⟩ (fun x7 => ?_)
  refine e_Ok.run (t' := (38, [(9, (4, x7)), (7, (4, x4)), (5, (4, x1)), (0, (0, dx)), (1, (0, dy)), (2, (0, px)), (3, (0, py)), (4, (0, rr))], [(4, 0), (4, x7)], w)) 3 rfl ?_
  refine e_Ok.lcmp rfl (fun z8 z8a z8b z8c => ?_)
  refine e_Ok.if1 rfl (fun h9 => ?_) (fun h9 => ?_)
  · replace h9 : (z8 : Int) > 0 := h9
    refine e_Ok.ps2 (x := (4, dx)) (y := (4, dx)) (q := 60) 4 rfl ?_
    refine e_Ok.anyL rfl ⟨_, rfl⟩ (fun x10 => ?_)
    refine e_Ok.ps2 (x := (4, dy)) (y := (4, dy)) (q := 65) 4 rfl ?_
    refine e_Ok.anyL rfl ⟨_, rfl⟩ (fun x11 => ?_)
    refine e_Ok.anyL rfl ⟨_, rfl⟩ (fun x12 => ?_)
    refine e_Ok.run (t' := (73, [(11, (4, x12)), (9, (4, x7)), (7, (4, x4)), (5, (4, x1)), (0, (0, dx)), (1, (0, dy)), (2, (0, px)), (3, (0, py)), (4, (0, rr))], [(4, x12), (4, x7)], w)) 3 rfl ?_
    refine e_Ok.lcmp rfl (fun z13 z13a z13b z13c => ?_)
    refine e_Ok.if1 rfl (fun h14 => ?_) (fun h14 => ?_)
    · replace h14 : (z13 : Int) < 0 := h14
      refine e_Ok.ps2 (x := (4, py)) (y := (4, dx)) (q := 105) 4 rfl ?_
      refine e_Ok.anyL rfl ⟨_, rfl⟩ (fun x15 => ?_)
      refine e_Ok.ps2 (x := (4, px)) (y := (4, dy)) (q := 110) 4 rfl ?_
      refine e_Ok.anyL rfl ⟨_, rfl⟩ (fun x16 => ?_)
      refine e_Ok.anyL rfl ⟨_, rfl⟩ (fun x17 => ?_)
      refine e_Ok.run (t' := (118, [(13, (4, x17)), (11, (4, x12)), (9, (4, x7)), (7, (4, x4)), (5, (4, x1)), (0, (0, dx)), (1, (0, dy)), (2, (0, px)), (3, (0, py)), (4, (0, rr))], [(4, x17), (4, x17)], w)) 3 rfl ?_
      refine e_Ok.anyL rfl ⟨_, rfl⟩ (fun x18 => ?_)
      refine e_Ok.ps2 (x := (4, x12)) (y := (4, x1)) (q := 123) 2 rfl ?_
      refine e_Ok.anyL rfl ⟨_, rfl⟩ (fun x19 => ?_)
      refine e_Ok.lcmp rfl (fun z20 z20a z20b z20c => ?_)
      have hJ23 : ∀ m22 : Int, 0 ≤ m22 ∧ m22 ≤ 1 → e_Ok 1 elay code1 eI d 176 (133, [(13, (4, x17)), (11, (4, x12)), (9, (4, x7)), (7, (4, x4)), (5, (4, x1)), (0, (0, dx)), (1, (0, dy)), (2, (0, px)), (3, (0, py)), (4, (0, rr))], [(0, m22)], w) (fun r w' => ∃ z : Int, r = [(0, z)] ∧ w = w' ∧ (0 ≤ z ∧ z ≤ 1)) := by
        intro m22 m22r
        refine e_Ok.retb rfl (by omega) ?_
        exact ⟨_, rfl, rfl, ⟨by omega, by omega⟩⟩
      refine e_Ok.if1 rfl (fun h21 => ?_) (fun h21 => ?_)
      · exact e_Ok.run 1 rfl (hJ23 0 (by omega))
      · exact e_Ok.run 2 rfl (hJ23 1 (by omega))
    · replace h14 : (z13 : Int) ≥ 0 := Int.not_lt.mp (show ¬ ((z13 : Int) < 0) from h14)
      refine e_Ok.ps3 (x := (4, x7)) (y := (4, 2)) (z := (4, x4)) (q := 84) 3 rfl ?_
      refine e_Ok.anyL rfl ⟨_, rfl⟩ (fun x24 => ?_)
      refine e_Ok.anyL rfl ⟨_, rfl⟩ (fun x25 => ?_)
      refine e_Ok.ps1 (x := (4, x12)) (q := 88) 1 rfl ?_
      refine e_Ok.anyL rfl ⟨_, rfl⟩ (fun x26 => ?_)
      refine e_Ok.ps1 (x := (4, x1)) (q := 91) 1 rfl ?_
      refine e_Ok.lcmp rfl (fun z27 z27a z27b z27c => ?_)
      have hJ30 : ∀ m29 : Int, 0 ≤ m29 ∧ m29 ≤ 1 → e_Ok 1 elay code1 eI d 176 (100, [(11, (4, x12)), (9, (4, x7)), (7, (4, x4)), (5, (4, x1)), (0, (0, dx)), (1, (0, dy)), (2, (0, px)), (3, (0, py)), (4, (0, rr))], [(0, m29)], w) (fun r w' => ∃ z : Int, r = [(0, z)] ∧ w = w' ∧ (0 ≤ z ∧ z ≤ 1)) := by
        intro m29 m29r
        refine e_Ok.retb rfl (by omega) ?_
        exact ⟨_, rfl, rfl, ⟨by omega, by omega⟩⟩
      refine e_Ok.if1 rfl (fun h28 => ?_) (fun h28 => ?_)
      · exact e_Ok.run 1 rfl (hJ30 0 (by omega))
      · exact e_Ok.run 2 rfl (hJ30 1 (by omega))
  · replace h9 : (z8 : Int) ≤ 0 := Int.not_lt.mp (show ¬ ((z8 : Int) > 0) from h9)
    refine e_Ok.ps2 (x := (4, x1)) (y := (4, x4)) (q := 46) 2 rfl ?_
    refine e_Ok.lcmp rfl (fun z31 z31a z31b z31c => ?_)
    have hJ34 : ∀ m33 : Int, 0 ≤ m33 ∧ m33 ≤ 1 → e_Ok 1 elay code1 eI d 176 (55, [(9, (4, x7)), (7, (4, x4)), (5, (4, x1)), (0, (0, dx)), (1, (0, dy)), (2, (0, px)), (3, (0, py)), (4, (0, rr))], [(0, m33)], w) (fun r w' => ∃ z : Int, r = [(0, z)] ∧ w = w' ∧ (0 ≤ z ∧ z ≤ 1)) := by
      intro m33 m33r
      refine e_Ok.retb rfl (by omega) ?_
      exact ⟨_, rfl, rfl, ⟨by omega, by omega⟩⟩
    refine e_Ok.if1 rfl (fun h32 => ?_) (fun h32 => ?_)
    · exact e_Ok.run 1 rfl (hJ34 0 (by omega))
    · exact e_Ok.run 2 rfl (hJ34 1 (by omega))
theorem b_175 {d : Nat} (hd : 2 ≤ d) {w : eW} (hT : e_Has kTy w) {cx cy dx dy rr : Int} (g_cx : (-2147483648) ≤ cx ∧ cx ≤ 2147483647) (g_cy : (-2147483648) ≤ cy ∧ cy ≤ 2147483647) (g_dx : (-2147483648) ≤ dx ∧ dx ≤ 2147483647) (g_dy : (-2147483648) ≤ dy ∧ dy ≤ 2147483647) (g_rr : (-2147483648) ≤ rr ∧ rr ≤ 2147483647) (kl : e_kn w 250 13 16) : e_Ok 1 elay code1 eI d 175 (0, [(0, (1, 250)), (1, (0, cx)), (2, (0, cy)), (3, (0, dx)), (4, (0, dy)), (5, (0, rr))], [], w) (fun r w' => ∃ z : Int, r = [(0, z)] ∧ w = w' ∧ (0 ≤ z ∧ z ≤ 1)) := by
  obtain ⟨d, rfl⟩ : ∃ e, d = e + 1 := ⟨d - 1, by omega⟩
  have hC324 : e_Ok 1 elay code1 eI (d + 1) 175 (324, [(0, (1, 250))], [], w) (fun r w' => ∃ z : Int, r = [(0, z)] ∧ w = w' ∧ (0 ≤ z ∧ z ≤ 1)) := by
    refine e_Ok.run (t' := (329, [(0, (1, 250))], [(0, 1)], w)) 2 rfl ?_
    refine e_Ok.rets rfl rfl ?_
    exact ⟨_, rfl, rfl, ⟨by omega, by omega⟩⟩
  refine e_Ok.run (t' := (8, [(0, (1, 250)), (1, (0, cx)), (2, (0, cy)), (3, (0, dx)), (4, (0, dy)), (5, (0, rr))], [(0, rr), (0, dy), (0, dx), (0, cy), (0, cx), (1, 250)], w)) 6 rfl ?_
  refine e_Ok.callV rfl (by first | exact e_dq hd rfl | omega) rfl rfl rfl rfl (b_174 hT (by omega) (by omega) (by omega) (by omega) (by omega) kl) (fun r1 w2 h3 => ?_)
  obtain ⟨z5, rfl, rfl, q4r⟩ := h3
  show e_Ok 1 elay code1 eI (d + 1) 175 (11, [(0, (1, 250)), (1, (0, cx)), (2, (0, cy)), (3, (0, dx)), (4, (0, dy)), (5, (0, rr))], [(0, z5)], w) _
  refine e_Ok.if1 rfl (fun h6 => ?_) (fun h6 => ?_)
  · replace h6 : (z5 : Int) = 0 := h6
    refine e_Ok.run (t' := (17, [(0, (1, 250)), (1, (0, cx)), (2, (0, cy)), (3, (0, dx)), (4, (0, dy)), (5, (0, rr))], [(1, 250)], w)) 1 rfl ?_
    have h7 := (kl 15 (by omega) (by omega))
    refine e_Ok.getf (z := w 250 15) rfl (el_o rfl) rfl rfl rfl (by omega) ?_
    refine e_Ok.ps1 (x := (1, 250)) (q := 21) 1 rfl ?_
    have h8 := (kl 13 (by omega) (by omega))
    refine e_Ok.getf (z := w 250 13) rfl (el_o rfl) rfl rfl rfl (by omega) ?_
    refine e_Ok.any rfl (eF_sub_any _ _) (fun z9 z9a z9b => ?_)
    refine e_Ok.ps1 (x := (1, 250)) (q := 26) 1 rfl ?_
    have h10 := (kl 16 (by omega) (by omega))
    refine e_Ok.getf (z := w 250 16) rfl (el_o rfl) rfl rfl rfl (by omega) ?_
    refine e_Ok.ps1 (x := (1, 250)) (q := 30) 1 rfl ?_
    have h11 := (kl 14 (by omega) (by omega))
    refine e_Ok.getf (z := w 250 14) rfl (el_o rfl) rfl rfl rfl (by omega) ?_
    refine e_Ok.any rfl (eF_sub_any _ _) (fun z12 z12a z12b => ?_)
    refine e_Ok.ps2 (x := (1, 250)) (y := (0, cx)) (q := 36) 2 rfl ?_
    refine e_Ok.getf (z := w 250 13) rfl (el_o rfl) rfl rfl rfl (by omega) ?_
    refine e_Ok.any rfl (eF_sub_any _ _) (fun z13 z13a z13b => ?_)
    refine e_Ok.ps2 (x := (1, 250)) (y := (0, cy)) (q := 42) 2 rfl ?_
    refine e_Ok.getf (z := w 250 14) rfl (el_o rfl) rfl rfl rfl (by omega) ?_
    refine e_Ok.any rfl (eF_sub_any _ _) (fun z14 z14a z14b => ?_)
    refine e_Ok.callS rfl (by first | exact e_dq hd rfl | omega) rfl rfl (b_177 (by omega) (by omega) (by omega) (by omega)) (fun r15 w16 h17 => ?_)
    obtain ⟨x18, rfl, rfl⟩ := h17
    show e_Ok 1 elay code1 eI (d + 1) 175 (49, [(0, (1, 250)), (1, (0, cx)), (2, (0, cy)), (3, (0, dx)), (4, (0, dy)), (5, (0, rr))], [(4, x18)], w) _
    refine e_Ok.run (t' := (52, [(6, (4, x18)), (0, (1, 250)), (1, (0, cx)), (2, (0, cy)), (3, (0, dx)), (4, (0, dy)), (5, (0, rr))], [(1, 250)], w)) 2 rfl ?_
    refine e_Ok.getf (z := w 250 15) rfl (el_o rfl) rfl rfl rfl (by omega) ?_
    refine e_Ok.ps1 (x := (1, 250)) (q := 56) 1 rfl ?_
    refine e_Ok.getf (z := w 250 13) rfl (el_o rfl) rfl rfl rfl (by omega) ?_
    refine e_Ok.any rfl (eF_sub_any _ _) (fun z19 z19a z19b => ?_)
    refine e_Ok.ps1 (x := (1, 250)) (q := 61) 1 rfl ?_
    refine e_Ok.getf (z := w 250 16) rfl (el_o rfl) rfl rfl rfl (by omega) ?_
    refine e_Ok.ps1 (x := (1, 250)) (q := 65) 1 rfl ?_
    refine e_Ok.getf (z := w 250 14) rfl (el_o rfl) rfl rfl rfl (by omega) ?_
    refine e_Ok.any rfl (eF_sub_any _ _) (fun z20 z20a z20b => ?_)
    refine e_Ok.ps2 (x := (1, 250)) (y := (0, dx)) (q := 71) 2 rfl ?_
    refine e_Ok.getf (z := w 250 13) rfl (el_o rfl) rfl rfl rfl (by omega) ?_
    refine e_Ok.any rfl (eF_sub_any _ _) (fun z21 z21a z21b => ?_)
    refine e_Ok.ps2 (x := (1, 250)) (y := (0, dy)) (q := 78) 2 rfl ?_
    refine e_Ok.getf (z := w 250 14) rfl (el_o rfl) rfl rfl rfl (by omega) ?_
    refine e_Ok.any rfl (eF_sub_any _ _) (fun z22 z22a z22b => ?_)
    refine e_Ok.callS rfl (by first | exact e_dq hd rfl | omega) rfl rfl (b_177 (by omega) (by omega) (by omega) (by omega)) (fun r23 w24 h25 => ?_)
    obtain ⟨x26, rfl, rfl⟩ := h25
    show e_Ok 1 elay code1 eI (d + 1) 175 (85, [(6, (4, x18)), (0, (1, 250)), (1, (0, cx)), (2, (0, cy)), (3, (0, dx)), (4, (0, dy)), (5, (0, rr))], [(4, x26)], w) _
    refine e_Ok.run (t' := (89, [(8, (4, x26)), (6, (4, x18)), (0, (1, 250)), (1, (0, cx)), (2, (0, cy)), (3, (0, dx)), (4, (0, dy)), (5, (0, rr))], [(0, cx), (0, dx)], w)) 3 rfl ?_
    refine e_Ok.any rfl (eF_sub_any _ _) (fun z27 z27a z27b => ?_)
    refine e_Ok.ps2 (x := (0, cy)) (y := (0, dy)) (q := 93) 2 rfl ?_
    refine e_Ok.any rfl (eF_sub_any _ _) (fun z28 z28a z28b => ?_)
    refine e_Ok.ps1 (x := (1, 250)) (q := 95) 1 rfl ?_
    refine e_Ok.getf (z := w 250 13) rfl (el_o rfl) rfl rfl rfl (by omega) ?_
    refine e_Ok.ps1 (x := (0, cx)) (q := 99) 1 rfl ?_
    refine e_Ok.any rfl (eF_sub_any _ _) (fun z29 z29a z29b => ?_)
    refine e_Ok.ps1 (x := (1, 250)) (q := 101) 1 rfl ?_
    refine e_Ok.getf (z := w 250 14) rfl (el_o rfl) rfl rfl rfl (by omega) ?_
    refine e_Ok.ps1 (x := (0, cy)) (q := 105) 1 rfl ?_
    refine e_Ok.any rfl (eF_sub_any _ _) (fun z30 z30a z30b => ?_)
    refine e_Ok.callS rfl (by first | exact e_dq hd rfl | omega) rfl rfl (b_177 (by omega) (by omega) (by omega) (by omega)) (fun r31 w32 h33 => ?_)
    obtain ⟨x34, rfl, rfl⟩ := h33
    show e_Ok 1 elay code1 eI (d + 1) 175 (109, [(8, (4, x26)), (6, (4, x18)), (0, (1, 250)), (1, (0, cx)), (2, (0, cy)), (3, (0, dx)), (4, (0, dy)), (5, (0, rr))], [(4, x34)], w) _
    refine e_Ok.run (t' := (113, [(10, (4, x34)), (8, (4, x26)), (6, (4, x18)), (0, (1, 250)), (1, (0, cx)), (2, (0, cy)), (3, (0, dx)), (4, (0, dy)), (5, (0, rr))], [(0, cx), (0, dx)], w)) 3 rfl ?_
    refine e_Ok.any rfl (eF_sub_any _ _) (fun z35 z35a z35b => ?_)
    refine e_Ok.ps2 (x := (0, cy)) (y := (0, dy)) (q := 117) 2 rfl ?_
    refine e_Ok.any rfl (eF_sub_any _ _) (fun z36 z36a z36b => ?_)
    refine e_Ok.ps1 (x := (1, 250)) (q := 119) 1 rfl ?_
    refine e_Ok.getf (z := w 250 15) rfl (el_o rfl) rfl rfl rfl (by omega) ?_
    refine e_Ok.ps1 (x := (0, cx)) (q := 123) 1 rfl ?_
    refine e_Ok.any rfl (eF_sub_any _ _) (fun z37 z37a z37b => ?_)
    refine e_Ok.ps1 (x := (1, 250)) (q := 125) 1 rfl ?_
    refine e_Ok.getf (z := w 250 16) rfl (el_o rfl) rfl rfl rfl (by omega) ?_
    refine e_Ok.ps1 (x := (0, cy)) (q := 129) 1 rfl ?_
    refine e_Ok.any rfl (eF_sub_any _ _) (fun z38 z38a z38b => ?_)
    refine e_Ok.callS rfl (by first | exact e_dq hd rfl | omega) rfl rfl (b_177 (by omega) (by omega) (by omega) (by omega)) (fun r40 w41 h42 => ?_)
    obtain ⟨x43, rfl, rfl⟩ := h42
    show e_Ok 1 elay code1 eI (d + 1) 175 (133, [(10, (4, x34)), (8, (4, x26)), (6, (4, x18)), (0, (1, 250)), (1, (0, cx)), (2, (0, cy)), (3, (0, dx)), (4, (0, dy)), (5, (0, rr))], [(4, x43)], w) _
    refine e_Ok.run (t' := (135, [(12, (4, x43)), (10, (4, x34)), (8, (4, x26)), (6, (4, x18)), (0, (1, 250)), (1, (0, cx)), (2, (0, cy)), (3, (0, dx)), (4, (0, dy)), (5, (0, rr))], [], w)) 1 rfl ?_
    have hC193 : e_Ok 1 elay code1 eI (d + 1) 175 (193, [(0, (1, 250)), (1, (0, cx)), (2, (0, cy)), (3, (0, dx)), (4, (0, dy)), (5, (0, rr))], [], w) (fun r w' => ∃ z : Int, r = [(0, z)] ∧ w = w' ∧ (0 ≤ z ∧ z ≤ 1)) := by
      refine e_Ok.run (t' := (194, [(0, (1, 250)), (1, (0, cx)), (2, (0, cy)), (3, (0, dx)), (4, (0, dy)), (5, (0, rr))], [(1, 250)], w)) 1 rfl ?_
      refine e_Ok.getf (z := w 250 15) rfl (el_o rfl) rfl rfl rfl (by omega) ?_
      refine e_Ok.ps1 (x := (1, 250)) (q := 198) 1 rfl ?_
      refine e_Ok.getf (z := w 250 13) rfl (el_o rfl) rfl rfl rfl (by omega) ?_
      refine e_Ok.any rfl (eF_sub_any _ _) (fun z44 z44a z44b => ?_)
      refine e_Ok.ps1 (x := (1, 250)) (q := 203) 1 rfl ?_
      refine e_Ok.getf (z := w 250 16) rfl (el_o rfl) rfl rfl rfl (by omega) ?_
      refine e_Ok.ps1 (x := (1, 250)) (q := 207) 1 rfl ?_
      refine e_Ok.getf (z := w 250 14) rfl (el_o rfl) rfl rfl rfl (by omega) ?_
      refine e_Ok.any rfl (eF_sub_any _ _) (fun z45 z45a z45b => ?_)
      refine e_Ok.ps2 (x := (1, 250)) (y := (0, cx)) (q := 213) 2 rfl ?_
      refine e_Ok.getf (z := w 250 13) rfl (el_o rfl) rfl rfl rfl (by omega) ?_
      refine e_Ok.any rfl (eF_sub_any _ _) (fun z46 z46a z46b => ?_)
      refine e_Ok.ps2 (x := (1, 250)) (y := (0, cy)) (q := 219) 2 rfl ?_
      refine e_Ok.getf (z := w 250 14) rfl (el_o rfl) rfl rfl rfl (by omega) ?_
      refine e_Ok.any rfl (eF_sub_any _ _) (fun z47 z47a z47b => ?_)
      refine e_Ok.ps1 (x := (0, rr)) (q := 225) 1 rfl ?_
      refine e_Ok.callS rfl (by first | exact e_dq hd rfl | omega) rfl rfl (b_176 (by omega) (by omega) (by omega) (by omega) (by omega)) (fun r48 w49 h50 => ?_)
      obtain ⟨z52, rfl, rfl, q51r⟩ := h50
      show e_Ok 1 elay code1 eI (d + 1) 175 (228, [(0, (1, 250)), (1, (0, cx)), (2, (0, cy)), (3, (0, dx)), (4, (0, dy)), (5, (0, rr))], [(0, z52)], w) _
      refine e_Ok.if1 rfl (fun h53 => ?_) (fun h53 => ?_)
      · replace h53 : (z52 : Int) ≠ 0 := h53
        refine e_Ok.sub c1lk (e_sub_of rfl ?_) hC324
        exact ⟨rfl, trivial⟩
      · replace h53 : (z52 : Int) = 0 := Classical.not_not.mp (show ¬ ((z52 : Int) ≠ 0) from h53)
        refine e_Ok.run (t' := (232, [(0, (1, 250)), (1, (0, cx)), (2, (0, cy)), (3, (0, dx)), (4, (0, dy)), (5, (0, rr))], [(1, 250)], w)) 1 rfl ?_
        refine e_Ok.getf (z := w 250 15) rfl (el_o rfl) rfl rfl rfl (by omega) ?_
        refine e_Ok.ps1 (x := (1, 250)) (q := 236) 1 rfl ?_
        refine e_Ok.getf (z := w 250 13) rfl (el_o rfl) rfl rfl rfl (by omega) ?_
        refine e_Ok.any rfl (eF_sub_any _ _) (fun z54 z54a z54b => ?_)
        refine e_Ok.ps1 (x := (1, 250)) (q := 241) 1 rfl ?_
        refine e_Ok.getf (z := w 250 16) rfl (el_o rfl) rfl rfl rfl (by omega) ?_
        refine e_Ok.ps1 (x := (1, 250)) (q := 245) 1 rfl ?_
        refine e_Ok.getf (z := w 250 14) rfl (el_o rfl) rfl rfl rfl (by omega) ?_
        refine e_Ok.any rfl (eF_sub_any _ _) (fun z55 z55a z55b => ?_)
        refine e_Ok.ps2 (x := (1, 250)) (y := (0, dx)) (q := 251) 2 rfl ?_
        refine e_Ok.getf (z := w 250 13) rfl (el_o rfl) rfl rfl rfl (by omega) ?_
        refine e_Ok.any rfl (eF_sub_any _ _) (fun z56 z56a z56b => ?_)
        refine e_Ok.ps2 (x := (1, 250)) (y := (0, dy)) (q := 258) 2 rfl ?_
        refine e_Ok.getf (z := w 250 14) rfl (el_o rfl) rfl rfl rfl (by omega) ?_
        refine e_Ok.any rfl (eF_sub_any _ _) (fun z57 z57a z57b => ?_)
        refine e_Ok.ps1 (x := (0, rr)) (q := 264) 1 rfl ?_
        refine e_Ok.callS rfl (by first | exact e_dq hd rfl | omega) rfl rfl (b_176 (by omega) (by omega) (by omega) (by omega) (by omega)) (fun r58 w59 h60 => ?_)
        obtain ⟨z62, rfl, rfl, q61r⟩ := h60
        show e_Ok 1 elay code1 eI (d + 1) 175 (267, [(0, (1, 250)), (1, (0, cx)), (2, (0, cy)), (3, (0, dx)), (4, (0, dy)), (5, (0, rr))], [(0, z62)], w) _
        refine e_Ok.if1 rfl (fun h63 => ?_) (fun h63 => ?_)
        · replace h63 : (z62 : Int) ≠ 0 := h63
          refine e_Ok.sub c1lk (e_sub_of rfl ?_) hC324
          exact ⟨rfl, trivial⟩
        · replace h63 : (z62 : Int) = 0 := Classical.not_not.mp (show ¬ ((z62 : Int) ≠ 0) from h63)
          refine e_Ok.run (t' := (272, [(0, (1, 250)), (1, (0, cx)), (2, (0, cy)), (3, (0, dx)), (4, (0, dy)), (5, (0, rr))], [(0, cx), (0, dx)], w)) 2 rfl ?_
          refine e_Ok.any rfl (eF_sub_any _ _) (fun z64 z64a z64b => ?_)
          refine e_Ok.ps2 (x := (0, cy)) (y := (0, dy)) (q := 276) 2 rfl ?_
          refine e_Ok.any rfl (eF_sub_any _ _) (fun z65 z65a z65b => ?_)
          refine e_Ok.ps1 (x := (1, 250)) (q := 278) 1 rfl ?_
          refine e_Ok.getf (z := w 250 13) rfl (el_o rfl) rfl rfl rfl (by omega) ?_
          refine e_Ok.ps1 (x := (0, cx)) (q := 282) 1 rfl ?_
          refine e_Ok.any rfl (eF_sub_any _ _) (fun z66 z66a z66b => ?_)
          refine e_Ok.ps1 (x := (1, 250)) (q := 284) 1 rfl ?_
          refine e_Ok.getf (z := w 250 14) rfl (el_o rfl) rfl rfl rfl (by omega) ?_
          refine e_Ok.ps1 (x := (0, cy)) (q := 288) 1 rfl ?_
          refine e_Ok.any rfl (eF_sub_any _ _) (fun z67 z67a z67b => ?_)
          refine e_Ok.ps1 (x := (0, rr)) (q := 291) 1 rfl ?_
          refine e_Ok.callS rfl (by first | exact e_dq hd rfl | omega) rfl rfl (b_176 (by omega) (by omega) (by omega) (by omega) (by omega)) (fun r68 w69 h70 => ?_)
          obtain ⟨z72, rfl, rfl, q71r⟩ := h70
          show e_Ok 1 elay code1 eI (d + 1) 175 (294, [(0, (1, 250)), (1, (0, cx)), (2, (0, cy)), (3, (0, dx)), (4, (0, dy)), (5, (0, rr))], [(0, z72)], w) _
          refine e_Ok.if1 rfl (fun h73 => ?_) (fun h73 => ?_)
          · replace h73 : (z72 : Int) ≠ 0 := h73
            refine e_Ok.sub c1lk (e_sub_of rfl ?_) hC324
            exact ⟨rfl, trivial⟩
          · replace h73 : (z72 : Int) = 0 := Classical.not_not.mp (show ¬ ((z72 : Int) ≠ 0) from h73)
            refine e_Ok.run (t' := (299, [(0, (1, 250)), (1, (0, cx)), (2, (0, cy)), (3, (0, dx)), (4, (0, dy)), (5, (0, rr))], [(0, cx), (0, dx)], w)) 2 rfl ?_
            refine e_Ok.any rfl (eF_sub_any _ _) (fun z74 z74a z74b => ?_)
            refine e_Ok.ps2 (x := (0, cy)) (y := (0, dy)) (q := 303) 2 rfl ?_
            refine e_Ok.any rfl (eF_sub_any _ _) (fun z75 z75a z75b => ?_)
            refine e_Ok.ps1 (x := (1, 250)) (q := 305) 1 rfl ?_
            refine e_Ok.getf (z := w 250 15) rfl (el_o rfl) rfl rfl rfl (by omega) ?_
            refine e_Ok.ps1 (x := (0, cx)) (q := 309) 1 rfl ?_
            refine e_Ok.any rfl (eF_sub_any _ _) (fun z76 z76a z76b => ?_)
            refine e_Ok.ps1 (x := (1, 250)) (q := 311) 1 rfl ?_
            refine e_Ok.getf (z := w 250 16) rfl (el_o rfl) rfl rfl rfl (by omega) ?_
            refine e_Ok.ps1 (x := (0, cy)) (q := 315) 1 rfl ?_
            refine e_Ok.any rfl (eF_sub_any _ _) (fun z77 z77a z77b => ?_)
            refine e_Ok.ps1 (x := (0, rr)) (q := 318) 1 rfl ?_
            refine e_Ok.callS rfl (by first | exact e_dq hd rfl | omega) rfl rfl (b_176 (by omega) (by omega) (by omega) (by omega) (by omega)) (fun r78 w79 h80 => ?_)
            obtain ⟨z82, rfl, rfl, q81r⟩ := h80
            show e_Ok 1 elay code1 eI (d + 1) 175 (321, [(0, (1, 250)), (1, (0, cx)), (2, (0, cy)), (3, (0, dx)), (4, (0, dy)), (5, (0, rr))], [(0, z82)], w) _
            have hJ85 : ∀ m84 : Int, 0 ≤ m84 ∧ m84 ≤ 1 → e_Ok 1 elay code1 eI (d + 1) 175 (329, [(0, (1, 250)), (1, (0, cx)), (2, (0, cy)), (3, (0, dx)), (4, (0, dy)), (5, (0, rr))], [(0, m84)], w) (fun r w' => ∃ z : Int, r = [(0, z)] ∧ w = w' ∧ (0 ≤ z ∧ z ≤ 1)) := by
              intro m84 m84r
              refine e_Ok.retb rfl (by omega) ?_
              exact ⟨_, rfl, rfl, ⟨by omega, by omega⟩⟩
            refine e_Ok.if1 rfl (fun h83 => ?_) (fun h83 => ?_)
            · exact e_Ok.run 1 rfl (hJ85 0 (by omega))
            · exact e_Ok.run 2 rfl (hJ85 1 (by omega))
    have hC163 : e_Ok 1 elay code1 eI (d + 1) 175 (163, [(0, (1, 250)), (1, (0, cx)), (2, (0, cy)), (3, (0, dx)), (4, (0, dy)), (5, (0, rr)), (10, (4, x34)), (12, (4, x43))], [], w) (fun r w' => ∃ z : Int, r = [(0, z)] ∧ w = w' ∧ (0 ≤ z ∧ z ≤ 1)) := by
      refine e_Ok.run (t' := (166, [(0, (1, 250)), (1, (0, cx)), (2, (0, cy)), (3, (0, dx)), (4, (0, dy)), (5, (0, rr)), (10, (4, x34)), (12, (4, x43))], [(4, 0), (4, x34)], w)) 2 rfl ?_
      refine e_Ok.lcmp rfl (fun z86 z86a z86b z86c => ?_)
      refine e_Ok.if1 rfl (fun h87 => ?_) (fun h87 => ?_)
      · replace h87 : (z86 : Int) ≥ 0 := h87
        refine e_Ok.ps2 (x := (4, 0)) (y := (4, x34)) (q := 180) 2 rfl ?_
        refine e_Ok.lcmp rfl (fun z88 z88a z88b z88c => ?_)
        refine e_Ok.if1 rfl (fun h89 => ?_) (fun h89 => ?_)
        · replace h89 : (z88 : Int) ≤ 0 := h89
          refine e_Ok.sub c1lk (e_sub_of rfl ?_) hC193
          exact ⟨rfl, rfl, rfl, rfl, rfl, rfl, trivial⟩
        · replace h89 : (z88 : Int) > 0 := Int.not_le.mp (show ¬ ((z88 : Int) ≤ 0) from h89)
          refine e_Ok.ps2 (x := (4, 0)) (y := (4, x43)) (q := 187) 2 rfl ?_
          refine e_Ok.lcmp rfl (fun z90 z90a z90b z90c => ?_)
          refine e_Ok.if1 rfl (fun h91 => ?_) (fun h91 => ?_)
          · replace h91 : (z90 : Int) ≥ 0 := h91
            refine e_Ok.sub c1lk (e_sub_of rfl ?_) hC193
            exact ⟨rfl, rfl, rfl, rfl, rfl, rfl, trivial⟩
          · replace h91 : (z90 : Int) < 0 := Int.not_le.mp (show ¬ ((z90 : Int) ≥ 0) from h91)
            refine e_Ok.ps1 (x := (0, 1)) (q := 192) 1 rfl ?_
            refine e_Ok.rets rfl rfl ?_
            exact ⟨_, rfl, rfl, ⟨by omega, by omega⟩⟩
      · replace h87 : (z86 : Int) < 0 := Int.not_le.mp (show ¬ ((z86 : Int) ≥ 0) from h87)
        refine e_Ok.ps2 (x := (4, 0)) (y := (4, x43)) (q := 173) 2 rfl ?_
        refine e_Ok.lcmp rfl (fun z92 z92a z92b z92c => ?_)
        refine e_Ok.if1 rfl (fun h93 => ?_) (fun h93 => ?_)
        · replace h93 : (z92 : Int) > 0 := h93
          refine e_Ok.ps1 (x := (0, 1)) (q := 192) 1 rfl ?_
          refine e_Ok.rets rfl rfl ?_
          exact ⟨_, rfl, rfl, ⟨by omega, by omega⟩⟩
        · replace h93 : (z92 : Int) ≤ 0 := Int.not_lt.mp (show ¬ ((z92 : Int) > 0) from h93)
          refine e_Ok.ps2 (x := (4, 0)) (y := (4, x34)) (q := 180) 2 rfl ?_
          refine e_Ok.lcmp rfl (fun z94 z94a z94b z94c => ?_)
          refine e_Ok.if1 rfl (fun h95 => ?_) (fun h95 => ?_)
          · replace h95 : (z94 : Int) ≤ 0 := h95
            refine e_Ok.sub c1lk (e_sub_of rfl ?_) hC193
            exact ⟨rfl, rfl, rfl, rfl, rfl, rfl, trivial⟩
          · replace h95 : (z94 : Int) > 0 := Int.not_le.mp (show ¬ ((z94 : Int) ≤ 0) from h95)
            refine e_Ok.ps2 (x := (4, 0)) (y := (4, x43)) (q := 187) 2 rfl ?_
            refine e_Ok.lcmp rfl (fun z101 z101a z101b z101c => ?_)
            refine e_Ok.if1 rfl (fun h103 => ?_) (fun h103 => ?_)
            · replace h103 : (z101 : Int) ≥ 0 := h103
              refine e_Ok.sub c1lk (e_sub_of rfl ?_) hC193
              exact ⟨rfl, rfl, rfl, rfl, rfl, rfl, trivial⟩
            · replace h103 : (z101 : Int) < 0 := Int.not_le.mp (show ¬ ((z101 : Int) ≥ 0) from h103)
              refine e_Ok.ps1 (x := (0, 1)) (q := 192) 1 rfl ?_
              refine e_Ok.rets rfl rfl ?_
              exact ⟨_, rfl, rfl, ⟨by omega, by omega⟩⟩
    refine e_Ok.run (t' := (138, [(12, (4, x43)), (10, (4, x34)), (8, (4, x26)), (6, (4, x18)), (0, (1, 250)), (1, (0, cx)), (2, (0, cy)), (3, (0, dx)), (4, (0, dy)), (5, (0, rr))], [(4, 0), (4, x18)], w)) 2 rfl ?_
    refine e_Ok.lcmp rfl (fun z104 z104a z104b z104c => ?_)
    refine e_Ok.if1 rfl (fun h105 => ?_) (fun h105 => ?_)
    · replace h105 : (z104 : Int) ≥ 0 := h105
      refine e_Ok.ps2 (x := (4, 0)) (y := (4, x18)) (q := 152) 2 rfl ?_
      refine e_Ok.lcmp rfl (fun z106 z106a z106b z106c => ?_)
      refine e_Ok.if1 rfl (fun h107 => ?_) (fun h107 => ?_)
      · replace h107 : (z106 : Int) ≤ 0 := h107
        refine e_Ok.sub c1lk (e_sub_of rfl ?_) hC193
        exact ⟨rfl, rfl, rfl, rfl, rfl, rfl, trivial⟩
      · replace h107 : (z106 : Int) > 0 := Int.not_le.mp (show ¬ ((z106 : Int) ≤ 0) from h107)
        refine e_Ok.ps2 (x := (4, 0)) (y := (4, x26)) (q := 159) 2 rfl ?_
        refine e_Ok.lcmp rfl (fun z108 z108a z108b z108c => ?_)
        refine e_Ok.if1 rfl (fun h109 => ?_) (fun h109 => ?_)
        · replace h109 : (z108 : Int) ≥ 0 := h109
          refine e_Ok.sub c1lk (e_sub_of rfl ?_) hC193
          exact ⟨rfl, rfl, rfl, rfl, rfl, rfl, trivial⟩
        · replace h109 : (z108 : Int) < 0 := Int.not_le.mp (show ¬ ((z108 : Int) ≥ 0) from h109)
          refine e_Ok.sub c1lk (e_sub_of rfl ?_) hC163
          exact ⟨rfl, rfl, rfl, rfl, rfl, rfl, rfl, rfl, trivial⟩
    · replace h105 : (z104 : Int) < 0 := Int.not_le.mp (show ¬ ((z104 : Int) ≥ 0) from h105)
      refine e_Ok.ps2 (x := (4, 0)) (y := (4, x26)) (q := 145) 2 rfl ?_
      refine e_Ok.lcmp rfl (fun z110 z110a z110b z110c => ?_)
      refine e_Ok.if1 rfl (fun h111 => ?_) (fun h111 => ?_)
      · replace h111 : (z110 : Int) > 0 := h111
        refine e_Ok.sub c1lk (e_sub_of rfl ?_) hC163
        exact ⟨rfl, rfl, rfl, rfl, rfl, rfl, rfl, rfl, trivial⟩
      · replace h111 : (z110 : Int) ≤ 0 := Int.not_lt.mp (show ¬ ((z110 : Int) > 0) from h111)
        refine e_Ok.ps2 (x := (4, 0)) (y := (4, x18)) (q := 152) 2 rfl ?_
        refine e_Ok.lcmp rfl (fun z112 z112a z112b z112c => ?_)
        refine e_Ok.if1 rfl (fun h113 => ?_) (fun h113 => ?_)
        · replace h113 : (z112 : Int) ≤ 0 := h113
          refine e_Ok.sub c1lk (e_sub_of rfl ?_) hC193
          exact ⟨rfl, rfl, rfl, rfl, rfl, rfl, trivial⟩
        · replace h113 : (z112 : Int) > 0 := Int.not_le.mp (show ¬ ((z112 : Int) ≤ 0) from h113)
          refine e_Ok.ps2 (x := (4, 0)) (y := (4, x26)) (q := 159) 2 rfl ?_
          refine e_Ok.lcmp rfl (fun z114 z114a z114b z114c => ?_)
          refine e_Ok.if1 rfl (fun h115 => ?_) (fun h115 => ?_)
          · replace h115 : (z114 : Int) ≥ 0 := h115
            refine e_Ok.sub c1lk (e_sub_of rfl ?_) hC193
            exact ⟨rfl, rfl, rfl, rfl, rfl, rfl, trivial⟩
          · replace h115 : (z114 : Int) < 0 := Int.not_le.mp (show ¬ ((z114 : Int) ≥ 0) from h115)
            refine e_Ok.sub c1lk (e_sub_of rfl ?_) hC163
            exact ⟨rfl, rfl, rfl, rfl, rfl, rfl, rfl, rfl, trivial⟩
  · replace h6 : (z5 : Int) ≠ 0 := (show ¬ ((z5 : Int) = 0) from h6)
    refine e_Ok.run (t' := (15, [(0, (1, 250)), (1, (0, cx)), (2, (0, cy)), (3, (0, dx)), (4, (0, dy)), (5, (0, rr))], [(0, 0)], w)) 1 rfl ?_
    refine e_Ok.rets rfl rfl ?_
    exact ⟨_, rfl, rfl, ⟨by omega, by omega⟩⟩
theorem b_172 {d : Nat} (hd : 3 ≤ d) {w : eW} (hT : e_Has kTy w) {a f rr : Int} (g_a : 0 ≤ a ∧ a ≤ 3) (g_f : 0 ≤ f ∧ f ≤ 9) (g_rr : (-2147483648) ≤ rr ∧ rr ≤ 2147483647) (kl : e_kn w 250 13 16) (kx : aK w a) : e_Ok 1 elay code1 eI d 172 (0, [(0, (1, 250)), (1, (1, 17 * a + 86)), (2, (0, f)), (3, (0, rr))], [], w) (fun r w' => ∃ z : Int, r = [(0, z)] ∧ w = w' ∧ (0 ≤ z ∧ z ≤ 1)) := by
  obtain ⟨d, rfl⟩ : ∃ e, d = e + 1 := ⟨d - 1, by omega⟩
  refine e_Ok.run (t' := (3, [(4, (0, f)), (0, (1, 250)), (1, (1, 17 * a + 86)), (2, (0, f)), (3, (0, rr))], [], w)) 2 rfl ?_
  have hL1 : ∀ (nn : Nat) (y4 : Int), 0 ≤ y4 ∧ y4 ≤ 9 → 10 - y4 < nn → e_Ok 1 elay code1 eI (d + 1) 172 (3, [(0, (1, 250)), (1, (1, 17 * a + 86)), (2, (0, f)), (3, (0, rr)), (4, (0, y4))], [], w) (fun r w' => ∃ z : Int, r = [(0, z)] ∧ w = w' ∧ (0 ≤ z ∧ z ≤ 1)) := by
    intro nn
    induction nn with
    | zero => intro y4 hj hm; obtain j3 := hj; exfalso; omega
    | succ nn ih2 =>
      intro y4 hj hm
      obtain j3 := hj
      refine e_Ok.run (t' := (6, [(0, (1, 250)), (1, (1, 17 * a + 86)), (2, (0, f)), (3, (0, rr)), (4, (0, y4))], [(1, 17 * a + 86), (0, y4)], w)) 2 rfl ?_
      refine e_Ok.callV rfl (by first | exact e_dq hd rfl | omega) rfl (lA0 (a := a) rfl g_a) rfl rfl (b_7 (a := a) hT (by omega)) (fun r4 w5 h6 => ?_)
      obtain ⟨z8, rfl, rfl, q7r, q7x⟩ := h6
      replace q7x : z8 ≤ w (17 * a + 86) 8 + 1 := q7x
      show e_Ok 1 elay code1 eI (d + 1) 172 (9, [(0, (1, 250)), (1, (1, 17 * a + 86)), (2, (0, f)), (3, (0, rr)), (4, (0, y4))], [(0, z8), (0, y4)], w) _
      refine e_Ok.if2 rfl (fun h9 => ?_) (fun h9 => ?_)
      · replace h9 : (y4 : Int) ≥ z8 := h9
        refine e_Ok.run (t' := (72, [(0, (1, 250)), (1, (1, 17 * a + 86)), (2, (0, f)), (3, (0, rr)), (4, (0, y4))], [(0, 0)], w)) 1 rfl ?_
        refine e_Ok.rets rfl rfl ?_
        exact ⟨_, rfl, rfl, ⟨by omega, by omega⟩⟩
      · replace h9 : (y4 : Int) < z8 := Int.not_le.mp (show ¬ ((y4 : Int) ≥ z8) from h9)
        refine e_Ok.run (t' := (16, [(0, (1, 250)), (1, (1, 17 * a + 86)), (2, (0, f)), (3, (0, rr)), (4, (0, y4))], [(0, y4), (1, 17 * a + 86), (0, rr)], w)) 3 rfl ?_
        refine e_Ok.callV rfl (by first | exact e_dq hd rfl | omega) rfl (lA0 (a := a) rfl g_a) rfl rfl (b_8 (a := a) hT (by omega) (by omega)) (fun r10 w11 h12 => ?_)
        obtain ⟨z14, rfl, rfl, q13r⟩ := h12
        show e_Ok 1 elay code1 eI (d + 1) 172 (19, [(0, (1, 250)), (1, (1, 17 * a + 86)), (2, (0, f)), (3, (0, rr)), (4, (0, y4))], [(0, z14), (0, rr)], w) _
        refine e_Ok.any rfl (eF_add_any _ _) (fun z15 z15a z15b => ?_)
        refine e_Ok.run (t' := (24, [(5, (0, z15)), (0, (1, 250)), (1, (1, 17 * a + 86)), (2, (0, f)), (3, (0, rr)), (4, (0, y4))], [(1, 17 * a + 86), (1, 250)], w)) 3 rfl ?_
        refine e_Ok.getr (z := 17 * a + 88) rfl (lA0 (a := a) rfl g_a) rfl rfl (Eq.trans (e_Has.eq hT (kA_1 (a := a) rfl g_a)) (by omega)) (by omega) ?_
        refine e_Ok.ps1 (x := (0, y4)) (q := 29) 1 rfl ?_
        have h16 := (kx.1 y4 (by omega) (by omega))
        refine e_Ok.ald (z := w (17 * a + 88) y4) rfl (lA2 (a := a) rfl g_a) rfl (by omega) rfl (by omega) ?_
        refine e_Ok.ps1 (x := (1, 17 * a + 86)) (q := 31) 1 rfl ?_
        refine e_Ok.getr (z := 17 * a + 89) rfl (lA0 (a := a) rfl g_a) rfl rfl (Eq.trans (e_Has.eq hT (kA_2 (a := a) rfl g_a)) (by omega)) (by omega) ?_
        refine e_Ok.ps1 (x := (0, y4)) (q := 36) 1 rfl ?_
        have h17 := (kx.2 y4 (by omega) (by omega))
        refine e_Ok.ald (z := w (17 * a + 89) y4) rfl (lA3 (a := a) rfl g_a) rfl (by omega) rfl (by omega) ?_
        refine e_Ok.ps1 (x := (1, 17 * a + 86)) (q := 38) 1 rfl ?_
        refine e_Ok.getr (z := 17 * a + 88) rfl (lA0 (a := a) rfl g_a) rfl rfl (Eq.trans (e_Has.eq hT (kA_1 (a := a) rfl g_a)) (by omega)) (by omega) ?_
        refine e_Ok.ps2 (x := (0, 1)) (y := (0, y4)) (q := 44) 2 rfl ?_
        refine e_Ok.add (z := y4 + 1) rfl rfl (by omega) ?_
        have h18 := (kx.1 (y4 + 1) (by omega) (by omega))
        refine e_Ok.ald (z := w (17 * a + 88) (y4 + 1)) rfl (lA2 (a := a) rfl g_a) rfl (by omega) rfl (by omega) ?_
        refine e_Ok.ps1 (x := (1, 17 * a + 86)) (q := 47) 1 rfl ?_
        refine e_Ok.getr (z := 17 * a + 89) rfl (lA0 (a := a) rfl g_a) rfl rfl (Eq.trans (e_Has.eq hT (kA_2 (a := a) rfl g_a)) (by omega)) (by omega) ?_
        refine e_Ok.ps2 (x := (0, 1)) (y := (0, y4)) (q := 53) 2 rfl ?_
        refine e_Ok.add (z := y4 + 1) rfl rfl (by omega) ?_
        have h19 := (kx.2 (y4 + 1) (by omega) (by omega))
        refine e_Ok.ald (z := w (17 * a + 89) (y4 + 1)) rfl (lA3 (a := a) rfl g_a) rfl (by omega) rfl (by omega) ?_
        refine e_Ok.ps1 (x := (0, z15)) (q := 57) 1 rfl ?_
        refine e_Ok.callV rfl (by first | exact e_dq hd rfl | omega) rfl rfl rfl rfl (b_175 (e_dq hd rfl) hT (by omega) (by omega) (by omega) (by omega) (by omega) kl) (fun r20 w21 h22 => ?_)
        obtain ⟨z24, rfl, rfl, q23r⟩ := h22
        show e_Ok 1 elay code1 eI (d + 1) 172 (60, [(5, (0, z15)), (0, (1, 250)), (1, (1, 17 * a + 86)), (2, (0, f)), (3, (0, rr)), (4, (0, y4))], [(0, z24)], w) _
        refine e_Ok.if1 rfl (fun h25 => ?_) (fun h25 => ?_)
        · replace h25 : (z24 : Int) = 0 := h25
          refine e_Ok.inc (z := y4 + 1) rfl rfl (by first | with_reducible rfl | omega) (by omega) ?_
          show e_Ok 1 elay code1 eI (d + 1) 172 (68, [(4, (0, y4 + 1)), (5, (0, z15)), (0, (1, 250)), (1, (1, 17 * a + 86)), (2, (0, f)), (3, (0, rr))], [], w) _
          refine e_Ok.run (t' := (3, [(4, (0, y4 + 1)), (5, (0, z15)), (0, (1, 250)), (1, (1, 17 * a + 86)), (2, (0, f)), (3, (0, rr))], [], w)) 1 rfl ?_
          refine e_Ok.sub c1lk (e_sub_of rfl ?_) (ih2 (y4 + 1) (by omega) (by omega))
          exact ⟨rfl, rfl, rfl, rfl, rfl, trivial⟩
        · replace h25 : (z24 : Int) ≠ 0 := (show ¬ ((z24 : Int) = 0) from h25)
          refine e_Ok.run (t' := (64, [(5, (0, z15)), (0, (1, 250)), (1, (1, 17 * a + 86)), (2, (0, f)), (3, (0, rr)), (4, (0, y4))], [(0, 1)], w)) 1 rfl ?_
          refine e_Ok.rets rfl rfl ?_
          exact ⟨_, rfl, rfl, ⟨by omega, by omega⟩⟩
  refine e_Ok.sub c1lk (e_sub_of rfl ?_) (hL1 (10 + 1 : Int).toNat f (by omega) (by omega))
  exact ⟨rfl, rfl, rfl, rfl, rfl, trivial⟩
theorem b_6 {d : Nat} {w : eW} (hT : e_Has kTy w) {a i s : Int} (g_a : 0 ≤ a ∧ a ≤ 3) (g_i : 0 ≤ i ∧ i ≤ 6) (g_s : (-2147483648) ≤ s ∧ s ≤ 2147483647) : e_Ok 1 elay code1 eI d 6 (0, [(0, (1, 17 * a + 86)), (1, (0, i)), (2, (0, s))], [], w) (fun r w' => ∃ z : Int, r = [(0, z)] ∧ w = w' ∧ (0 ≤ z ∧ z ≤ 1)) := by
  refine e_Ok.run (t' := (1, [(0, (1, 17 * a + 86)), (1, (0, i)), (2, (0, s))], [(1, 17 * a + 86)], w)) 1 rfl ?_
  refine e_Ok.getr (z := 17 * a + 92) rfl (lA0 (a := a) rfl g_a) rfl rfl (Eq.trans (e_Has.eq hT (kA_5 (a := a) rfl g_a)) (by omega)) (by omega) ?_
  refine e_Ok.ps1 (x := (0, i)) (q := 5) 1 rfl ?_
  have h1 := (e_Has.get hT (c := 17 * a + 92) (k := i) (lo := (-2147483648)) (hi := 2147483647) (kA92 (a := a) _ rfl g_a) (by decide))
  refine e_Ok.ald (z := w (17 * a + 92) i) rfl (lA6 (a := a) rfl g_a) rfl (by omega) rfl (e_bq h1 (by decide) (by decide)) ?_
  refine e_Ok.ps1 (x := (0, s)) (q := 7) 1 rfl ?_
  refine e_Ok.any rfl (eB_any _ _) (fun z2 z2a z2b => ?_)
  refine e_Ok.ps1 (x := (0, 1)) (q := 9) 1 rfl ?_
  refine e_Ok.andm 1 1 rfl (by decide) (fun z3 hz3 => ?_)
  replace hz3 : 0 ≤ z3 ∧ z3 ≤ 1 := by omega
  have hJ6 : ∀ m5 : Int, 0 ≤ m5 ∧ m5 ≤ 1 → e_Ok 1 elay code1 eI d 6 (18, [(0, (1, 17 * a + 86)), (1, (0, i)), (2, (0, s))], [(0, m5)], w) (fun r w' => ∃ z : Int, r = [(0, z)] ∧ w = w' ∧ (0 ≤ z ∧ z ≤ 1)) := by
    intro m5 m5r
    refine e_Ok.retb rfl (by omega) ?_
    exact ⟨_, rfl, rfl, ⟨by omega, by omega⟩⟩
  refine e_Ok.if1 rfl (fun h4 => ?_) (fun h4 => ?_)
  · exact e_Ok.run 1 rfl (hJ6 0 (by omega))
  · exact e_Ok.run 2 rfl (hJ6 1 (by omega))
theorem b_173 {d : Nat} (hd : 3 ≤ d) {w : eW} (hT : e_Has kTy w) {s rr : Int} (g_s : 0 ≤ s ∧ s ≤ 15) (g_rr : (-2147483648) ≤ rr ∧ rr ≤ 2147483647) (kl : e_kn w 250 13 16) : e_Ok 1 elay code1 eI d 173 (0, [(0, (1, 250)), (1, (0, s)), (2, (0, rr))], [], w) (fun r w' => ∃ z : Int, r = [(0, z)] ∧ w = w' ∧ (0 ≤ z ∧ z ≤ 1)) := by
  obtain ⟨d, rfl⟩ : ∃ e, d = e + 1 := ⟨d - 1, by omega⟩
  refine e_Ok.run (t' := (1, [(0, (1, 250)), (1, (0, s)), (2, (0, rr))], [(1, 250)], w)) 1 rfl ?_
  refine e_Ok.getr (z := 251) rfl (el_o rfl) rfl rfl (e_Has.eq hT (kt_o rfl)) ⟨by decide, by decide⟩ ?_
  refine e_Ok.ps1 (x := (0, s)) (q := 5) 1 rfl ?_
  have h1 := (e_Has.get hT (c := 251) (k := s) (lo := (-2147483648)) (hi := 2147483647) (kt_o rfl) (by decide))
  refine e_Ok.ald (z := w 251 s) rfl (el_o rfl) rfl (by omega) rfl (e_bq h1 (by decide) (by decide)) ?_
  refine e_Ok.run (t' := (8, [(3, (0, w 251 s)), (0, (1, 250)), (1, (0, s)), (2, (0, rr))], [(1, 250)], w)) 2 rfl ?_
  refine e_Ok.getr (z := 252) rfl (el_o rfl) rfl rfl (e_Has.eq hT (kt_o rfl)) ⟨by decide, by decide⟩ ?_
  refine e_Ok.ps1 (x := (0, s)) (q := 12) 1 rfl ?_
  have h2 := (e_Has.get hT (c := 252) (k := s) (lo := (-2147483648)) (hi := 2147483647) (kt_o rfl) (by decide))
  refine e_Ok.ald (z := w 252 s) rfl (el_o rfl) rfl (by omega) rfl (e_bq h2 (by decide) (by decide)) ?_
  refine e_Ok.run (t' := (16, [(4, (0, w 252 s)), (3, (0, w 251 s)), (0, (1, 250)), (1, (0, s)), (2, (0, rr))], [(1, 250)], w)) 2 rfl ?_
  refine e_Ok.getr (z := 255) rfl (el_o rfl) rfl rfl (e_Has.eq hT (kt_o rfl)) ⟨by decide, by decide⟩ ?_
  refine e_Ok.ps1 (x := (0, s)) (q := 20) 1 rfl ?_
  have h3 := (e_Has.get hT (c := 255) (k := s) (lo := (-2147483648)) (hi := 2147483647) (kt_o rfl) (by decide))
  refine e_Ok.ald (z := w 255 s) rfl (el_o rfl) rfl (by omega) rfl (e_bq h3 (by decide) (by decide)) ?_
  refine e_Ok.ps1 (x := (0, (-1))) (q := 22) 1 rfl ?_
  refine e_Ok.if2 rfl (fun h4 => ?_) (fun h4 => ?_)
  · replace h4 : (w 255 s : Int) = (-1) := h4
    refine e_Ok.ps2 (x := (1, 250)) (y := (0, w 251 s)) (q := 46) 2 rfl ?_
    refine e_Ok.getr (z := 253) rfl (el_o rfl) rfl rfl (e_Has.eq hT (kt_o rfl)) ⟨by decide, by decide⟩ ?_
    refine e_Ok.ps1 (x := (0, s)) (q := 50) 1 rfl ?_
    have h5 := (e_Has.get hT (c := 253) (k := s) (lo := (-2147483648)) (hi := 2147483647) (kt_o rfl) (by decide))
    refine e_Ok.ald (z := w 253 s) rfl (el_o rfl) rfl (by omega) rfl (e_bq h5 (by decide) (by decide)) ?_
    refine e_Ok.any rfl (eF_add_any _ _) (fun z6 z6a z6b => ?_)
    refine e_Ok.run (t' := (57, [(5, (0, z6)), (4, (0, w 252 s)), (3, (0, w 251 s)), (0, (1, 250)), (1, (0, s)), (2, (0, rr))], [(1, 250), (0, w 252 s)], w)) 3 rfl ?_
    refine e_Ok.getr (z := 254) rfl (el_o rfl) rfl rfl (e_Has.eq hT (kt_o rfl)) ⟨by decide, by decide⟩ ?_
    refine e_Ok.ps1 (x := (0, s)) (q := 61) 1 rfl ?_
    have h7 := (e_Has.get hT (c := 254) (k := s) (lo := (-2147483648)) (hi := 2147483647) (kt_o rfl) (by decide))
    refine e_Ok.ald (z := w 254 s) rfl (el_o rfl) rfl (by omega) rfl (e_bq h7 (by decide) (by decide)) ?_
    refine e_Ok.any rfl (eF_add_any _ _) (fun z8 z8a z8b => ?_)
    refine e_Ok.run (t' := (74, [(6, (0, z8)), (5, (0, z6)), (4, (0, w 252 s)), (3, (0, w 251 s)), (0, (1, 250)), (1, (0, s)), (2, (0, rr))], [(0, rr), (0, z8), (0, z6), (0, w 252 s), (0, w 251 s), (1, 250)], w)) 7 rfl ?_
    refine e_Ok.callV rfl (by first | exact e_dq hd rfl | omega) rfl rfl rfl rfl (b_174 hT (by omega) (by omega) (by omega) (by omega) (by omega) kl) (fun r9 w10 h11 => ?_)
    obtain ⟨z13, rfl, rfl, q12r⟩ := h11
    show e_Ok 1 elay code1 eI (d + 1) 173 (77, [(6, (0, z8)), (5, (0, z6)), (4, (0, w 252 s)), (3, (0, w 251 s)), (0, (1, 250)), (1, (0, s)), (2, (0, rr))], [(0, z13)], w) _
    refine e_Ok.if1 rfl (fun h14 => ?_) (fun h14 => ?_)
    · replace h14 : (z13 : Int) = 0 := h14
      have hC111 : e_Ok 1 elay code1 eI (d + 1) 173 (111, [(0, (1, 250)), (2, (0, rr)), (3, (0, w 251 s)), (4, (0, w 252 s)), (5, (0, z6)), (6, (0, z8))], [], w) (fun r w' => ∃ z : Int, r = [(0, z)] ∧ w = w' ∧ (0 ≤ z ∧ z ≤ 1)) := by
        refine e_Ok.run (t' := (120, [(0, (1, 250)), (2, (0, rr)), (3, (0, w 251 s)), (4, (0, w 252 s)), (5, (0, z6)), (6, (0, z8))], [(0, rr), (0, w 252 s), (0, z6), (0, w 252 s), (0, w 251 s), (1, 250)], w)) 6 rfl ?_
        refine e_Ok.callV rfl (by first | exact e_dq hd rfl | omega) rfl rfl rfl rfl (b_175 (e_dq hd rfl) hT (by omega) (by omega) (by omega) (by omega) (by omega) kl) (fun r15 w16 h17 => ?_)
        obtain ⟨z19, rfl, rfl, q18r⟩ := h17
        show e_Ok 1 elay code1 eI (d + 1) 173 (123, [(0, (1, 250)), (2, (0, rr)), (3, (0, w 251 s)), (4, (0, w 252 s)), (5, (0, z6)), (6, (0, z8))], [(0, z19)], w) _
        refine e_Ok.if1 rfl (fun h20 => ?_) (fun h20 => ?_)
        · replace h20 : (z19 : Int) ≠ 0 := h20
          refine e_Ok.run (t' := (176, [(0, (1, 250)), (2, (0, rr)), (3, (0, w 251 s)), (4, (0, w 252 s)), (5, (0, z6)), (6, (0, z8))], [(0, 1)], w)) 2 rfl ?_
          refine e_Ok.rets rfl rfl ?_
          exact ⟨_, rfl, rfl, ⟨by omega, by omega⟩⟩
        · replace h20 : (z19 : Int) = 0 := Classical.not_not.mp (show ¬ ((z19 : Int) ≠ 0) from h20)
          refine e_Ok.run (t' := (135, [(0, (1, 250)), (2, (0, rr)), (3, (0, w 251 s)), (4, (0, w 252 s)), (5, (0, z6)), (6, (0, z8))], [(0, rr), (0, z8), (0, z6), (0, z8), (0, w 251 s), (1, 250)], w)) 6 rfl ?_
          refine e_Ok.callV rfl (by first | exact e_dq hd rfl | omega) rfl rfl rfl rfl (b_175 (e_dq hd rfl) hT (by omega) (by omega) (by omega) (by omega) (by omega) kl) (fun r21 w22 h23 => ?_)
          obtain ⟨z25, rfl, rfl, q24r⟩ := h23
          show e_Ok 1 elay code1 eI (d + 1) 173 (138, [(0, (1, 250)), (2, (0, rr)), (3, (0, w 251 s)), (4, (0, w 252 s)), (5, (0, z6)), (6, (0, z8))], [(0, z25)], w) _
          refine e_Ok.if1 rfl (fun h26 => ?_) (fun h26 => ?_)
          · replace h26 : (z25 : Int) ≠ 0 := h26
            refine e_Ok.run (t' := (176, [(0, (1, 250)), (2, (0, rr)), (3, (0, w 251 s)), (4, (0, w 252 s)), (5, (0, z6)), (6, (0, z8))], [(0, 1)], w)) 2 rfl ?_
            refine e_Ok.rets rfl rfl ?_
            exact ⟨_, rfl, rfl, ⟨by omega, by omega⟩⟩
          · replace h26 : (z25 : Int) = 0 := Classical.not_not.mp (show ¬ ((z25 : Int) ≠ 0) from h26)
            refine e_Ok.run (t' := (149, [(0, (1, 250)), (2, (0, rr)), (3, (0, w 251 s)), (4, (0, w 252 s)), (5, (0, z6)), (6, (0, z8))], [(0, rr), (0, z8), (0, w 251 s), (0, w 252 s), (0, w 251 s), (1, 250)], w)) 6 rfl ?_
            refine e_Ok.callV rfl (by first | exact e_dq hd rfl | omega) rfl rfl rfl rfl (b_175 (e_dq hd rfl) hT (by omega) (by omega) (by omega) (by omega) (by omega) kl) (fun r27 w28 h29 => ?_)
            obtain ⟨z31, rfl, rfl, q30r⟩ := h29
            show e_Ok 1 elay code1 eI (d + 1) 173 (152, [(0, (1, 250)), (2, (0, rr)), (3, (0, w 251 s)), (4, (0, w 252 s)), (5, (0, z6)), (6, (0, z8))], [(0, z31)], w) _
            refine e_Ok.if1 rfl (fun h32 => ?_) (fun h32 => ?_)
            · replace h32 : (z31 : Int) ≠ 0 := h32
              refine e_Ok.run (t' := (176, [(0, (1, 250)), (2, (0, rr)), (3, (0, w 251 s)), (4, (0, w 252 s)), (5, (0, z6)), (6, (0, z8))], [(0, 1)], w)) 2 rfl ?_
              refine e_Ok.rets rfl rfl ?_
              exact ⟨_, rfl, rfl, ⟨by omega, by omega⟩⟩
            · replace h32 : (z31 : Int) = 0 := Classical.not_not.mp (show ¬ ((z31 : Int) ≠ 0) from h32)
              refine e_Ok.run (t' := (165, [(0, (1, 250)), (2, (0, rr)), (3, (0, w 251 s)), (4, (0, w 252 s)), (5, (0, z6)), (6, (0, z8))], [(0, rr), (0, z8), (0, z6), (0, w 252 s), (0, z6), (1, 250)], w)) 6 rfl ?_
              refine e_Ok.callV rfl (by first | exact e_dq hd rfl | omega) rfl rfl rfl rfl (b_175 (e_dq hd rfl) hT (by omega) (by omega) (by omega) (by omega) (by omega) kl) (fun r33 w34 h35 => ?_)
              obtain ⟨z37, rfl, rfl, q36r⟩ := h35
              show e_Ok 1 elay code1 eI (d + 1) 173 (168, [(0, (1, 250)), (2, (0, rr)), (3, (0, w 251 s)), (4, (0, w 252 s)), (5, (0, z6)), (6, (0, z8))], [(0, z37)], w) _
              have hJ41 : ∀ m40 : Int, 0 ≤ m40 ∧ m40 ≤ 1 → e_Ok 1 elay code1 eI (d + 1) 173 (176, [(0, (1, 250)), (2, (0, rr)), (3, (0, w 251 s)), (4, (0, w 252 s)), (5, (0, z6)), (6, (0, z8))], [(0, m40)], w) (fun r w' => ∃ z : Int, r = [(0, z)] ∧ w = w' ∧ (0 ≤ z ∧ z ≤ 1)) := by
                intro m40 m40r
                refine e_Ok.retb rfl (by omega) ?_
                exact ⟨_, rfl, rfl, ⟨by omega, by omega⟩⟩
              refine e_Ok.if1 rfl (fun h38 => ?_) (fun h38 => ?_)
              · exact e_Ok.run 1 rfl (hJ41 0 (by omega))
              · exact e_Ok.run 2 rfl (hJ41 1 (by omega))
      refine e_Ok.run (t' := (83, [(6, (0, z8)), (5, (0, z6)), (4, (0, w 252 s)), (3, (0, w 251 s)), (0, (1, 250)), (1, (0, s)), (2, (0, rr))], [(1, 250)], w)) 1 rfl ?_
      have h42 := (kl 13 (by omega) (by omega))
      refine e_Ok.getf (z := w 250 13) rfl (el_o rfl) rfl rfl rfl (by omega) ?_
      refine e_Ok.ps2 (x := (0, z6)) (y := (0, w 251 s)) (q := 89) 2 rfl ?_
      refine e_Ok.callS rfl (by first | exact e_dq hd rfl | omega) rfl rfl (b_242 (by omega) (by omega) (by omega)) (fun r43 w44 h45 => ?_)
      obtain ⟨z46, rfl, rfl, q47⟩ := h45
      obtain ⟨rfl, q47⟩ | ⟨rfl, q47⟩ := q47
      · show e_Ok 1 elay code1 eI (d + 1) 173 (92, [(6, (0, z8)), (5, (0, z6)), (4, (0, w 252 s)), (3, (0, w 251 s)), (0, (1, 250)), (1, (0, s)), (2, (0, rr))], [(0, 1)], w) _
        refine e_Ok.if1 rfl (fun h48 => ?_) (fun h48 => ?_)
        · replace h48 : (1 : Int) = 0 := h48
          exfalso; omega
        · replace h48 : (1 : Int) ≠ 0 := (show ¬ ((1 : Int) = 0) from h48)
          refine e_Ok.run (t' := (96, [(6, (0, z8)), (5, (0, z6)), (4, (0, w 252 s)), (3, (0, w 251 s)), (0, (1, 250)), (1, (0, s)), (2, (0, rr))], [(1, 250)], w)) 1 rfl ?_
          have h49 := (kl 14 (by omega) (by omega))
          refine e_Ok.getf (z := w 250 14) rfl (el_o rfl) rfl rfl rfl (by omega) ?_
          refine e_Ok.ps2 (x := (0, z8)) (y := (0, w 252 s)) (q := 103) 2 rfl ?_
          refine e_Ok.callS rfl (by first | exact e_dq hd rfl | omega) rfl rfl (b_242 (by omega) (by omega) (by omega)) (fun r50 w51 h52 => ?_)
          obtain ⟨z53, rfl, rfl, q54⟩ := h52
          obtain ⟨rfl, q54⟩ | ⟨rfl, q54⟩ := q54
          · show e_Ok 1 elay code1 eI (d + 1) 173 (106, [(6, (0, z8)), (5, (0, z6)), (4, (0, w 252 s)), (3, (0, w 251 s)), (0, (1, 250)), (1, (0, s)), (2, (0, rr))], [(0, 1)], w) _
            refine e_Ok.if1 rfl (fun h55 => ?_) (fun h55 => ?_)
            · replace h55 : (1 : Int) = 0 := h55
              exfalso; omega
            · replace h55 : (1 : Int) ≠ 0 := (show ¬ ((1 : Int) = 0) from h55)
              refine e_Ok.run (t' := (110, [(6, (0, z8)), (5, (0, z6)), (4, (0, w 252 s)), (3, (0, w 251 s)), (0, (1, 250)), (1, (0, s)), (2, (0, rr))], [(0, 1)], w)) 1 rfl ?_
              refine e_Ok.rets rfl rfl ?_
              exact ⟨_, rfl, rfl, ⟨by omega, by omega⟩⟩
          · show e_Ok 1 elay code1 eI (d + 1) 173 (106, [(6, (0, z8)), (5, (0, z6)), (4, (0, w 252 s)), (3, (0, w 251 s)), (0, (1, 250)), (1, (0, s)), (2, (0, rr))], [(0, 0)], w) _
            refine e_Ok.if1 rfl (fun h56 => ?_) (fun h56 => ?_)
            · replace h56 : (0 : Int) = 0 := h56
              refine e_Ok.sub c1lk (e_sub_of rfl ?_) hC111
              exact ⟨rfl, rfl, rfl, rfl, rfl, rfl, trivial⟩
            · replace h56 : (0 : Int) ≠ 0 := (show ¬ ((0 : Int) = 0) from h56)
              exfalso; omega
      · show e_Ok 1 elay code1 eI (d + 1) 173 (92, [(6, (0, z8)), (5, (0, z6)), (4, (0, w 252 s)), (3, (0, w 251 s)), (0, (1, 250)), (1, (0, s)), (2, (0, rr))], [(0, 0)], w) _
        refine e_Ok.if1 rfl (fun h57 => ?_) (fun h57 => ?_)
        · replace h57 : (0 : Int) = 0 := h57
          refine e_Ok.sub c1lk (e_sub_of rfl ?_) hC111
          exact ⟨rfl, rfl, rfl, rfl, rfl, rfl, trivial⟩
        · replace h57 : (0 : Int) ≠ 0 := (show ¬ ((0 : Int) = 0) from h57)
          exfalso; omega
    · replace h14 : (z13 : Int) ≠ 0 := (show ¬ ((z13 : Int) = 0) from h14)
      refine e_Ok.run (t' := (81, [(6, (0, z8)), (5, (0, z6)), (4, (0, w 252 s)), (3, (0, w 251 s)), (0, (1, 250)), (1, (0, s)), (2, (0, rr))], [(0, 0)], w)) 1 rfl ?_
      refine e_Ok.rets rfl rfl ?_
      exact ⟨_, rfl, rfl, ⟨by omega, by omega⟩⟩
  · replace h4 : (w 255 s : Int) ≠ (-1) := (show ¬ ((w 255 s : Int) = (-1)) from h4)
    refine e_Ok.run (t' := (34, [(4, (0, w 252 s)), (3, (0, w 251 s)), (0, (1, 250)), (1, (0, s)), (2, (0, rr))], [(1, 250), (0, rr), (0, w 252 s), (0, w 251 s), (0, w 252 s), (0, w 251 s), (1, 250)], w)) 7 rfl ?_
    refine e_Ok.getr (z := 255) rfl (el_o rfl) rfl rfl (e_Has.eq hT (kt_o rfl)) ⟨by decide, by decide⟩ ?_
    refine e_Ok.ps1 (x := (0, s)) (q := 38) 1 rfl ?_
    refine e_Ok.ald (z := w 255 s) rfl (el_o rfl) rfl (by omega) rfl (by omega) ?_
    refine e_Ok.any rfl (eF_add_any _ _) (fun z58 z58a z58b => ?_)
    refine e_Ok.callV rfl (by first | exact e_dq hd rfl | omega) rfl rfl rfl rfl (b_175 (e_dq hd rfl) hT (by omega) (by omega) (by omega) (by omega) (by omega) kl) (fun r59 w60 h61 => ?_)
    obtain ⟨z63, rfl, rfl, q62r⟩ := h61
    show e_Ok 1 elay code1 eI (d + 1) 173 (43, [(4, (0, w 252 s)), (3, (0, w 251 s)), (0, (1, 250)), (1, (0, s)), (2, (0, rr))], [(0, z63)], w) _
    refine e_Ok.retb rfl (by omega) ?_
    exact ⟨_, rfl, rfl, ⟨by omega, by omega⟩⟩
theorem no_eb_0 {a : Int} (ha : 0 ≤ a ∧ a ≤ 3) : ¬ kTc (17 * a + 86) 8 := by unfold kTc; omega
theorem no_eb_1 {a : Int} (ha : 0 ≤ a ∧ a ≤ 3) : ¬ kTc (17 * a + 86) 1 := by unfold kTc; omega
theorem no_eb_2 {a : Int} (ha : 0 ≤ a ∧ a ≤ 3) : ¬ kTc (17 * a + 86) 2 := by unfold kTc; omega
theorem no_eb_3 : ¬ kTc 250 0 := by unfold kTc; omega
theorem no_eb_4 {k : Int} : ¬ kTc 9 k := by unfold kTc; omega
theorem b_171 {d : Nat} (hd : 4 ≤ d) {w : eW} (hT : e_Has kTy w) {n a o m : Int} (g_n : 0 ≤ n ∧ n ≤ 4) (g_a : 0 ≤ a ∧ a ≤ 3) (g_o : 0 ≤ o ∧ o ≤ 4) (g_m : (-2147483648) ≤ m ∧ m ≤ 2147483647) (ka : ∀ b, 0 ≤ b → b ≤ 3 → aK w b) : e_Ok 1 elay code1 eI d 171 (0, [(0, (1, 250)), (1, (1, 9)), (2, (0, n)), (3, (0, a)), (4, (0, o)), (5, (0, m))], [], w) (fun r w' => ∃ z : Int, r = [(0, z)] ∧ e_fr kTc w w' ∧ e_Has kTy w' ∧ (0 ≤ z ∧ z ≤ 1)) := by
  obtain ⟨d, rfl⟩ : ∃ e, d = e + 1 := ⟨d - 1, by omega⟩
  have kx := ka a (by omega) (by omega)
  refine e_Ok.run (t' := (2, [(0, (1, 250)), (1, (1, 9)), (2, (0, n)), (3, (0, a)), (4, (0, o)), (5, (0, m))], [(0, a), (1, 9)], w)) 2 rfl ?_
  refine e_Ok.aald (z := 17 * a + 86) rfl (el_o rfl) rfl (by omega) (Eq.trans (e_Has.eq hT (k9 (by omega))) (by omega)) (by omega) ?_
  refine e_Ok.run (t' := (7, [(6, (1, 17 * a + 86)), (0, (1, 250)), (1, (1, 9)), (2, (0, n)), (3, (0, a)), (4, (0, o)), (5, (0, m))], [(1, 17 * a + 86)], w)) 2 rfl ?_
  refine e_Ok.callV rfl (by first | exact e_dq hd rfl | omega) rfl (lA0 (a := a) rfl g_a) rfl rfl (b_7 (a := a) hT (by omega)) (fun r1 w2 h3 => ?_)
  obtain ⟨z5, rfl, rfl, q4r, q4x⟩ := h3
  replace q4x : z5 ≤ w (17 * a + 86) 8 + 1 := q4x
  show e_Ok 1 elay code1 eI (d + 1) 171 (10, [(6, (1, 17 * a + 86)), (0, (1, 250)), (1, (1, 9)), (2, (0, n)), (3, (0, a)), (4, (0, o)), (5, (0, m))], [(0, z5)], w) _
  refine e_Ok.run (t' := (15, [(8, (0, 0)), (7, (0, z5)), (6, (1, 17 * a + 86)), (0, (1, 250)), (1, (1, 9)), (2, (0, n)), (3, (0, a)), (4, (0, o)), (5, (0, m))], [], w)) 3 rfl ?_
  have hL6 : ∀ (nn : Nat) (y8 : Int) (v1 : eW), e_fr kTc w v1 ∧ e_Has kTy v1 ∧ (0 ≤ y8 ∧ y8 ≤ 7) → 8 - y8 < nn → e_Ok 1 elay code1 eI (d + 1) 171 (15, [(0, (1, 250)), (1, (1, 9)), (2, (0, n)), (3, (0, a)), (4, (0, o)), (5, (0, m)), (6, (1, 17 * a + 86)), (7, (0, z5)), (8, (0, y8))], [], v1) (fun r w' => ∃ z : Int, r = [(0, z)] ∧ e_fr kTc w w' ∧ e_Has kTy w' ∧ (0 ≤ z ∧ z ≤ 1)) := by
    intro nn
    induction nn with
    | zero => intro y8 v1 hj hm; obtain ⟨j8, j9, j10⟩ := hj; exfalso; omega
    | succ nn ih7 =>
      intro y8 v1 hj hm
      obtain ⟨j8, j9, j10⟩ := hj
      have l11 : v1 (17 * a + 86) 8 = w (17 * a + 86) 8 := j8 (17 * a + 86) 8 (by first | exact no_eb_0 (by omega) | (unfold kTc; omega))
      refine e_Ok.run (t' := (19, [(0, (1, 250)), (1, (1, 9)), (2, (0, n)), (3, (0, a)), (4, (0, o)), (5, (0, m)), (6, (1, 17 * a + 86)), (7, (0, z5)), (8, (0, y8))], [(0, z5), (0, y8)], v1)) 2 rfl ?_
      refine e_Ok.if2 rfl (fun h12 => ?_) (fun h12 => ?_)
      · replace h12 : (y8 : Int) ≥ z5 := h12
        refine e_Ok.ps1 (x := (0, 0)) (q := 191) 1 rfl ?_
        refine e_Ok.rets rfl rfl ?_
        exact ⟨_, rfl, j8, j9, ⟨by omega, by omega⟩⟩
      · replace h12 : (y8 : Int) < z5 := Int.not_le.mp (show ¬ ((y8 : Int) ≥ z5) from h12)
        refine e_Ok.ps2 (x := (1, 17 * a + 86)) (y := (1, 250)) (q := 25) 2 rfl ?_
        refine e_Ok.getr (z := 17 * a + 88) rfl (lA0 (a := a) rfl g_a) rfl rfl ((j8 (17 * a + 86) 1 (by first | exact no_eb_1 (by omega) | (unfold kTc; omega))).trans (Eq.trans (e_Has.eq hT (kA_1 (a := a) rfl g_a)) (by omega))) (by omega) ?_
        refine e_Ok.ps1 (x := (0, y8)) (q := 30) 1 rfl ?_
        have h13 := (kx.1 y8 (by omega) (by omega))
        refine e_Ok.ald (z := w (17 * a + 88) y8) rfl (lA2 (a := a) rfl g_a) rfl (by omega) ((j8 (17 * a + 88) y8 (by unfold kTc; omega)).trans rfl) (by omega) ?_
        refine e_Ok.putf rfl (el_o rfl) rfl rfl ?_
        generalize hw14 : e_up v1 250 13 (w (17 * a + 88) y8) = w14
        have f15 : e_fr kTc w w14 := e_fr.up j8 hw14 (by first | exact ⟨rfl, ⟨(by decide), (by decide)⟩⟩ | (unfold kTc; omega))
        have l16 : w14 (17 * a + 86) 8 = w (17 * a + 86) 8 := f15 (17 * a + 86) 8 (by first | exact no_eb_0 (by omega) | (unfold kTc; omega))
        have hT17 : e_Has kTy w14 := e_Has.ups j9 hw14 rfl
        refine e_Ok.ps2 (x := (1, 17 * a + 86)) (y := (1, 250)) (q := 37) 2 rfl ?_
        refine e_Ok.getr (z := 17 * a + 89) rfl (lA0 (a := a) rfl g_a) rfl rfl (e_uq hw14 (Or.inr (by decide)) ((j8 (17 * a + 86) 2 (by first | exact no_eb_2 (by omega) | (unfold kTc; omega))).trans (Eq.trans (e_Has.eq hT (kA_2 (a := a) rfl g_a)) (by omega)))) (by omega) ?_
        refine e_Ok.ps1 (x := (0, y8)) (q := 42) 1 rfl ?_
        have h18 := (kx.2 y8 (by omega) (by omega))
        refine e_Ok.ald (z := w (17 * a + 89) y8) rfl (lA3 (a := a) rfl g_a) rfl (by omega) (e_uq hw14 (Or.inl (by omega)) ((j8 (17 * a + 89) y8 (by unfold kTc; omega)).trans rfl)) (by omega) ?_
        refine e_Ok.putf rfl (el_o rfl) rfl rfl ?_
        generalize hw19 : e_up w14 250 14 (w (17 * a + 89) y8) = w19
        have f20 : e_fr kTc w w19 := e_fr.up f15 hw19 (by first | exact ⟨rfl, ⟨(by decide), (by decide)⟩⟩ | (unfold kTc; omega))
        have l21 : w19 (17 * a + 86) 8 = w (17 * a + 86) 8 := f20 (17 * a + 86) 8 (by first | exact no_eb_0 (by omega) | (unfold kTc; omega))
        have hT22 : e_Has kTy w19 := e_Has.ups hT17 hw19 (kt_o rfl)
        refine e_Ok.ps2 (x := (1, 17 * a + 86)) (y := (1, 250)) (q := 49) 2 rfl ?_
        refine e_Ok.getr (z := 17 * a + 88) rfl (lA0 (a := a) rfl g_a) rfl rfl (e_uq hw19 (Or.inr (by decide)) (e_uq hw14 (Or.inr (by decide)) ((j8 (17 * a + 86) 1 (by first | exact no_eb_1 (by omega) | (unfold kTc; omega))).trans (Eq.trans (e_Has.eq hT (kA_1 (a := a) rfl g_a)) (by omega))))) (by omega) ?_
        refine e_Ok.ps2 (x := (0, 1)) (y := (0, y8)) (q := 55) 2 rfl ?_
        refine e_Ok.add (z := y8 + 1) rfl rfl (by omega) ?_
        have h23 := (kx.1 (y8 + 1) (by omega) (by omega))
        refine e_Ok.ald (z := w (17 * a + 88) (y8 + 1)) rfl (lA2 (a := a) rfl g_a) rfl (by omega) (e_uq hw19 (Or.inl (by omega)) (e_uq hw14 (Or.inl (by omega)) ((j8 (17 * a + 88) (y8 + 1) (by unfold kTc; omega)).trans rfl))) (by omega) ?_
        refine e_Ok.putf rfl (el_o rfl) rfl rfl ?_
        generalize hw24 : e_up w19 250 15 (w (17 * a + 88) (y8 + 1)) = w24
        have f25 : e_fr kTc w w24 := e_fr.up f20 hw24 (by first | exact ⟨rfl, ⟨(by decide), (by decide)⟩⟩ | (unfold kTc; omega))
        have l26 : w24 (17 * a + 86) 8 = w (17 * a + 86) 8 := f25 (17 * a + 86) 8 (by first | exact no_eb_0 (by omega) | (unfold kTc; omega))
        have hT27 : e_Has kTy w24 := e_Has.ups hT22 hw24 (kt_o rfl)
        refine e_Ok.ps2 (x := (1, 17 * a + 86)) (y := (1, 250)) (q := 63) 2 rfl ?_
        refine e_Ok.getr (z := 17 * a + 89) rfl (lA0 (a := a) rfl g_a) rfl rfl (e_uq hw24 (Or.inr (by decide)) (e_uq hw19 (Or.inr (by decide)) (e_uq hw14 (Or.inr (by decide)) ((j8 (17 * a + 86) 2 (by first | exact no_eb_2 (by omega) | (unfold kTc; omega))).trans (Eq.trans (e_Has.eq hT (kA_2 (a := a) rfl g_a)) (by omega)))))) (by omega) ?_
        refine e_Ok.ps2 (x := (0, 1)) (y := (0, y8)) (q := 69) 2 rfl ?_
        refine e_Ok.add (z := y8 + 1) rfl rfl (by omega) ?_
        have h28 := (kx.2 (y8 + 1) (by omega) (by omega))
        refine e_Ok.ald (z := w (17 * a + 89) (y8 + 1)) rfl (lA3 (a := a) rfl g_a) rfl (by omega) (e_uq hw24 (Or.inl (by omega)) (e_uq hw19 (Or.inl (by omega)) (e_uq hw14 (Or.inl (by omega)) ((j8 (17 * a + 89) (y8 + 1) (by unfold kTc; omega)).trans rfl)))) (by omega) ?_
        refine e_Ok.putf rfl (el_o rfl) rfl rfl ?_
        generalize hw29 : e_up w24 250 16 (w (17 * a + 89) (y8 + 1)) = w29
        have f30 : e_fr kTc w w29 := e_fr.up f25 hw29 (by first | exact ⟨rfl, ⟨(by decide), (by decide)⟩⟩ | (unfold kTc; omega))
        have l31 : w29 (17 * a + 86) 8 = w (17 * a + 86) 8 := f30 (17 * a + 86) 8 (by first | exact no_eb_0 (by omega) | (unfold kTc; omega))
        have hT32 : e_Has kTy w29 := e_Has.ups hT27 hw29 (kt_o rfl)
        have kl33 : e_kn w29 250 13 16 := fun i g1 g2 => by
          obtain rfl | rfl | rfl | rfl : i = 13 ∨ i = 14 ∨ i = 15 ∨ i = 16 := by omega
          · rw [show w29 250 13 = w (17 * a + 88) y8 from (e_uq hw29 (Or.inr (by first | decide | omega)) (e_uq hw24 (Or.inr (by first | decide | omega)) (e_uq hw19 (Or.inr (by first | decide | omega)) (e_ue hw14))))]; omega
          · rw [show w29 250 14 = w (17 * a + 89) y8 from (e_uq hw29 (Or.inr (by first | decide | omega)) (e_uq hw24 (Or.inr (by first | decide | omega)) (e_ue hw19)))]; omega
          · rw [show w29 250 15 = w (17 * a + 88) (y8 + 1) from (e_uq hw29 (Or.inr (by first | decide | omega)) (e_ue hw24))]; omega
          · rw [show w29 250 16 = w (17 * a + 89) (y8 + 1) from (e_ue hw29)]; omega
        refine e_Ok.run (t' := (78, [(0, (1, 250)), (1, (1, 9)), (2, (0, n)), (3, (0, a)), (4, (0, o)), (5, (0, m)), (6, (1, 17 * a + 86)), (7, (0, z5)), (8, (0, y8))], [(0, y8), (1, 17 * a + 86)], w29)) 2 rfl ?_
        refine e_Ok.callV rfl (by first | exact e_dq hd rfl | omega) rfl (lA0 (a := a) rfl g_a) rfl rfl (b_8 (a := a) hT32 (by omega) (by omega)) (fun r34 w35 h36 => ?_)
        obtain ⟨z38, rfl, rfl, q37r⟩ := h36
        show e_Ok 1 elay code1 eI (d + 1) 171 (81, [(0, (1, 250)), (1, (1, 9)), (2, (0, n)), (3, (0, a)), (4, (0, o)), (5, (0, m)), (6, (1, 17 * a + 86)), (7, (0, z5)), (8, (0, y8))], [(0, z38)], w29) _
        refine e_Ok.run (t' := (83, [(0, (1, 250)), (1, (1, 9)), (2, (0, n)), (3, (0, a)), (4, (0, o)), (5, (0, m)), (6, (1, 17 * a + 86)), (7, (0, z5)), (8, (0, y8))], [(0, m), (0, z38)], w29)) 1 rfl ?_
        refine e_Ok.any rfl (eF_add_any _ _) (fun z40 z40a z40b => ?_)
        refine e_Ok.run (t' := (92, [(9, (0, z40)), (0, (1, 250)), (1, (1, 9)), (2, (0, n)), (3, (0, a)), (4, (0, o)), (5, (0, m)), (6, (1, 17 * a + 86)), (7, (0, z5)), (8, (0, y8))], [(0, 2), (0, y8), (1, 17 * a + 86), (1, 250)], w29)) 5 rfl ?_
        refine e_Ok.add (z := y8 + 2) rfl rfl (by omega) ?_
        refine e_Ok.ps1 (x := (0, z40)) (q := 95) 1 rfl ?_
        refine e_Ok.callV rfl (by first | exact e_dq hd rfl | omega) rfl rfl rfl rfl (b_172 (e_dq hd rfl) (a := a) hT32 (by omega) (by omega) (by omega) kl33 (aK.fr f30 (fun k => by unfold kTc; omega) (by unfold kTc; omega) (ka a (by omega) (by omega)))) (fun r41 w42 h43 => ?_)
        obtain ⟨z45, rfl, rfl, q44r⟩ := h43
        show e_Ok 1 elay code1 eI (d + 1) 171 (98, [(9, (0, z40)), (0, (1, 250)), (1, (1, 9)), (2, (0, n)), (3, (0, a)), (4, (0, o)), (5, (0, m)), (6, (1, 17 * a + 86)), (7, (0, z5)), (8, (0, y8))], [(0, z45)], w29) _
        refine e_Ok.if1 rfl (fun h46 => ?_) (fun h46 => ?_)
        · replace h46 : (z45 : Int) = 0 := h46
          refine e_Ok.run (t' := (106, [(10, (0, 0)), (9, (0, z40)), (0, (1, 250)), (1, (1, 9)), (2, (0, n)), (3, (0, a)), (4, (0, o)), (5, (0, m)), (6, (1, 17 * a + 86)), (7, (0, z5)), (8, (0, y8))], [], w29)) 2 rfl ?_
          have hL47 : ∀ (nn : Nat) (y10 : Int), 0 ≤ y10 ∧ y10 ≤ 16 → 17 - y10 < nn → e_Ok 1 elay code1 eI (d + 1) 171 (106, [(0, (1, 250)), (1, (1, 9)), (2, (0, n)), (3, (0, a)), (4, (0, o)), (5, (0, m)), (6, (1, 17 * a + 86)), (7, (0, z5)), (8, (0, y8)), (9, (0, z40)), (10, (0, y10))], [], w29) (fun r w' => ∃ z : Int, r = [(0, z)] ∧ e_fr kTc w w' ∧ e_Has kTy w' ∧ (0 ≤ z ∧ z ≤ 1)) := by
            intro nn
            induction nn with
            | zero => intro y10 hj hm; obtain j49 := hj; exfalso; omega
            | succ nn ih48 =>
              intro y10 hj hm
              obtain j49 := hj
              refine e_Ok.run (t' := (109, [(0, (1, 250)), (1, (1, 9)), (2, (0, n)), (3, (0, a)), (4, (0, o)), (5, (0, m)), (6, (1, 17 * a + 86)), (7, (0, z5)), (8, (0, y8)), (9, (0, z40)), (10, (0, y10))], [(1, 250), (0, y10)], w29)) 2 rfl ?_
              have h50 := (e_Has.get hT (c := 250) (k := 0) (lo := 0) (hi := 16) (kt_o rfl) (by decide))
              refine e_Ok.getf (z := w 250 0) rfl (el_o rfl) rfl rfl (e_uq hw29 (Or.inr (by decide)) (e_uq hw24 (Or.inr (by decide)) (e_uq hw19 (Or.inr (by decide)) (e_uq hw14 (Or.inr (by decide)) ((j8 250 0 no_eb_3).trans rfl))))) (e_bq h50 (by decide) (by decide)) ?_
              refine e_Ok.if2 rfl (fun h51 => ?_) (fun h51 => ?_)
              · replace h51 : (y10 : Int) ≥ w 250 0 := h51
                refine e_Ok.run (t' := (150, [(10, (0, o)), (0, (1, 250)), (1, (1, 9)), (2, (0, n)), (3, (0, a)), (4, (0, o)), (5, (0, m)), (6, (1, 17 * a + 86)), (7, (0, z5)), (8, (0, y8)), (9, (0, z40))], [], w29)) 2 rfl ?_
                have hL52 : ∀ (nn : Nat) (y11 : Int), 0 ≤ y11 ∧ y11 ≤ 4 → 5 - y11 < nn → e_Ok 1 elay code1 eI (d + 1) 171 (150, [(0, (1, 250)), (1, (1, 9)), (2, (0, n)), (3, (0, a)), (4, (0, o)), (5, (0, m)), (6, (1, 17 * a + 86)), (7, (0, z5)), (8, (0, y8)), (9, (0, z40)), (10, (0, y11))], [], w29) (fun r w' => ∃ z : Int, r = [(0, z)] ∧ e_fr kTc w w' ∧ e_Has kTy w' ∧ (0 ≤ z ∧ z ≤ 1)) := by
                  intro nn
                  induction nn with
                  | zero => intro y11 hj hm; obtain j54 := hj; exfalso; omega
                  | succ nn ih53 =>
                    intro y11 hj hm
                    obtain j54 := hj
                    refine e_Ok.run (t' := (153, [(0, (1, 250)), (1, (1, 9)), (2, (0, n)), (3, (0, a)), (4, (0, o)), (5, (0, m)), (6, (1, 17 * a + 86)), (7, (0, z5)), (8, (0, y8)), (9, (0, z40)), (10, (0, y11))], [(0, n), (0, y11)], w29)) 2 rfl ?_
                    refine e_Ok.if2 rfl (fun h55 => ?_) (fun h55 => ?_)
                    · replace h55 : (y11 : Int) ≥ n := h55
                      refine e_Ok.inc (z := y8 + 1) rfl rfl (by first | with_reducible rfl | omega) (by omega) ?_
                      show e_Ok 1 elay code1 eI (d + 1) 171 (187, [(8, (0, y8 + 1)), (0, (1, 250)), (1, (1, 9)), (2, (0, n)), (3, (0, a)), (4, (0, o)), (5, (0, m)), (6, (1, 17 * a + 86)), (7, (0, z5)), (9, (0, z40)), (10, (0, y11))], [], w29) _
                      refine e_Ok.run (t' := (15, [(8, (0, y8 + 1)), (0, (1, 250)), (1, (1, 9)), (2, (0, n)), (3, (0, a)), (4, (0, o)), (5, (0, m)), (6, (1, 17 * a + 86)), (7, (0, z5)), (9, (0, z40)), (10, (0, y11))], [], w29)) 1 rfl ?_
                      refine e_Ok.sub c1lk (e_sub_of rfl ?_) (ih7 (y8 + 1) w29 ⟨f30, hT32, by omega⟩ (by omega))
                      exact ⟨rfl, rfl, rfl, rfl, rfl, rfl, rfl, rfl, rfl, trivial⟩
                    · replace h55 : (y11 : Int) < n := Int.not_le.mp (show ¬ ((y11 : Int) ≥ n) from h55)
                      refine e_Ok.ps2 (x := (0, a)) (y := (0, y11)) (q := 159) 2 rfl ?_
                      refine e_Ok.if2 rfl (fun h56 => ?_) (fun h56 => ?_)
                      · replace h56 : (y11 : Int) = a := h56
                        refine e_Ok.inc (z := y11 + 1) rfl rfl (by first | with_reducible rfl | omega) (by omega) ?_
                        show e_Ok 1 elay code1 eI (d + 1) 171 (181, [(10, (0, y11 + 1)), (0, (1, 250)), (1, (1, 9)), (2, (0, n)), (3, (0, a)), (4, (0, o)), (5, (0, m)), (6, (1, 17 * a + 86)), (7, (0, z5)), (8, (0, y8)), (9, (0, z40))], [], w29) _
                        refine e_Ok.run (t' := (150, [(10, (0, y11 + 1)), (0, (1, 250)), (1, (1, 9)), (2, (0, n)), (3, (0, a)), (4, (0, o)), (5, (0, m)), (6, (1, 17 * a + 86)), (7, (0, z5)), (8, (0, y8)), (9, (0, z40))], [], w29)) 1 rfl ?_
                        refine e_Ok.sub c1lk (e_sub_of rfl ?_) (ih53 (y11 + 1) (by omega) (by omega))
                        exact ⟨rfl, rfl, rfl, rfl, rfl, rfl, rfl, rfl, rfl, rfl, rfl, trivial⟩
                      · replace h56 : (y11 : Int) ≠ a := (show ¬ ((y11 : Int) = a) from h56)
                        refine e_Ok.ps3 (x := (0, y11)) (y := (1, 9)) (z := (1, 250)) (q := 166) 3 rfl ?_
                        refine e_Ok.aald (z := 17 * y11 + 86) rfl (el_o rfl) rfl (by omega) (e_uq hw29 (Or.inl (by decide)) (e_uq hw24 (Or.inl (by decide)) (e_uq hw19 (Or.inl (by decide)) (e_uq hw14 (Or.inl (by decide)) ((j8 9 y11 no_eb_4).trans (Eq.trans (e_Has.eq hT (k9 (by omega))) (by omega))))))) (by omega) ?_
                        refine e_Ok.ps2 (x := (0, z40)) (y := (0, 0)) (q := 170) 2 rfl ?_
                        refine e_Ok.callV rfl (by first | exact e_dq hd rfl | omega) rfl rfl rfl rfl (b_172 (e_dq hd rfl) (a := y11) hT32 (by omega) (by omega) (by omega) kl33 (aK.fr f30 (fun k => by unfold kTc; omega) (by unfold kTc; omega) (ka y11 (by omega) (by omega)))) (fun r57 w58 h59 => ?_)
                        obtain ⟨z61, rfl, rfl, q60r⟩ := h59
                        show e_Ok 1 elay code1 eI (d + 1) 171 (173, [(0, (1, 250)), (1, (1, 9)), (2, (0, n)), (3, (0, a)), (4, (0, o)), (5, (0, m)), (6, (1, 17 * a + 86)), (7, (0, z5)), (8, (0, y8)), (9, (0, z40)), (10, (0, y11))], [(0, z61)], w29) _
                        refine e_Ok.if1 rfl (fun h62 => ?_) (fun h62 => ?_)
                        · replace h62 : (z61 : Int) = 0 := h62
                          refine e_Ok.inc (z := y11 + 1) rfl rfl (by first | with_reducible rfl | omega) (by omega) ?_
                          show e_Ok 1 elay code1 eI (d + 1) 171 (181, [(10, (0, y11 + 1)), (0, (1, 250)), (1, (1, 9)), (2, (0, n)), (3, (0, a)), (4, (0, o)), (5, (0, m)), (6, (1, 17 * a + 86)), (7, (0, z5)), (8, (0, y8)), (9, (0, z40))], [], w29) _
                          refine e_Ok.run (t' := (150, [(10, (0, y11 + 1)), (0, (1, 250)), (1, (1, 9)), (2, (0, n)), (3, (0, a)), (4, (0, o)), (5, (0, m)), (6, (1, 17 * a + 86)), (7, (0, z5)), (8, (0, y8)), (9, (0, z40))], [], w29)) 1 rfl ?_
                          refine e_Ok.sub c1lk (e_sub_of rfl ?_) (ih53 (y11 + 1) (by omega) (by omega))
                          exact ⟨rfl, rfl, rfl, rfl, rfl, rfl, rfl, rfl, rfl, rfl, rfl, trivial⟩
                        · replace h62 : (z61 : Int) ≠ 0 := (show ¬ ((z61 : Int) = 0) from h62)
                          refine e_Ok.run (t' := (177, [(0, (1, 250)), (1, (1, 9)), (2, (0, n)), (3, (0, a)), (4, (0, o)), (5, (0, m)), (6, (1, 17 * a + 86)), (7, (0, z5)), (8, (0, y8)), (9, (0, z40)), (10, (0, y11))], [(0, 1)], w29)) 1 rfl ?_
                          refine e_Ok.rets rfl rfl ?_
                          exact ⟨_, rfl, f30, hT32, ⟨by omega, by omega⟩⟩
                refine e_Ok.sub c1lk (e_sub_of rfl ?_) (hL52 (5 + 1 : Int).toNat o (by omega) (by omega))
                exact ⟨rfl, rfl, rfl, rfl, rfl, rfl, rfl, rfl, rfl, rfl, rfl, trivial⟩
              · replace h51 : (y10 : Int) < w 250 0 := Int.not_le.mp (show ¬ ((y10 : Int) ≥ w 250 0) from h51)
                refine e_Ok.ps3 (x := (0, y10)) (y := (0, y8)) (z := (1, 17 * a + 86)) (q := 121) 3 rfl ?_
                refine e_Ok.callV rfl (by first | exact e_dq hd rfl | omega) rfl (lA0 (a := a) rfl g_a) rfl rfl (b_6 (a := a) hT32 (by omega) (by omega) (by omega)) (fun r63 w64 h65 => ?_)
                obtain ⟨z67, rfl, rfl, q66r⟩ := h65
                show e_Ok 1 elay code1 eI (d + 1) 171 (124, [(0, (1, 250)), (1, (1, 9)), (2, (0, n)), (3, (0, a)), (4, (0, o)), (5, (0, m)), (6, (1, 17 * a + 86)), (7, (0, z5)), (8, (0, y8)), (9, (0, z40)), (10, (0, y10))], [(0, z67)], w29) _
                refine e_Ok.if1 rfl (fun h68 => ?_) (fun h68 => ?_)
                · replace h68 : (z67 : Int) ≠ 0 := h68
                  refine e_Ok.inc (z := y10 + 1) rfl rfl (by first | with_reducible rfl | omega) (by omega) ?_
                  show e_Ok 1 elay code1 eI (d + 1) 171 (143, [(10, (0, y10 + 1)), (0, (1, 250)), (1, (1, 9)), (2, (0, n)), (3, (0, a)), (4, (0, o)), (5, (0, m)), (6, (1, 17 * a + 86)), (7, (0, z5)), (8, (0, y8)), (9, (0, z40))], [], w29) _
                  refine e_Ok.run (t' := (106, [(10, (0, y10 + 1)), (0, (1, 250)), (1, (1, 9)), (2, (0, n)), (3, (0, a)), (4, (0, o)), (5, (0, m)), (6, (1, 17 * a + 86)), (7, (0, z5)), (8, (0, y8)), (9, (0, z40))], [], w29)) 1 rfl ?_
                  refine e_Ok.sub c1lk (e_sub_of rfl ?_) (ih48 (y10 + 1) (by omega) (by omega))
                  exact ⟨rfl, rfl, rfl, rfl, rfl, rfl, rfl, rfl, rfl, rfl, rfl, trivial⟩
                · replace h68 : (z67 : Int) = 0 := Classical.not_not.mp (show ¬ ((z67 : Int) ≠ 0) from h68)
                  refine e_Ok.run (t' := (132, [(0, (1, 250)), (1, (1, 9)), (2, (0, n)), (3, (0, a)), (4, (0, o)), (5, (0, m)), (6, (1, 17 * a + 86)), (7, (0, z5)), (8, (0, y8)), (9, (0, z40)), (10, (0, y10))], [(0, z40), (0, y10), (1, 250)], w29)) 3 rfl ?_
                  refine e_Ok.callV rfl (by first | exact e_dq hd rfl | omega) rfl rfl rfl rfl (b_173 (e_dq hd rfl) hT32 (by omega) (by omega) kl33) (fun r69 w70 h71 => ?_)
                  obtain ⟨z73, rfl, rfl, q72r⟩ := h71
                  show e_Ok 1 elay code1 eI (d + 1) 171 (135, [(0, (1, 250)), (1, (1, 9)), (2, (0, n)), (3, (0, a)), (4, (0, o)), (5, (0, m)), (6, (1, 17 * a + 86)), (7, (0, z5)), (8, (0, y8)), (9, (0, z40)), (10, (0, y10))], [(0, z73)], w29) _
                  refine e_Ok.if1 rfl (fun h74 => ?_) (fun h74 => ?_)
                  · replace h74 : (z73 : Int) = 0 := h74
                    refine e_Ok.inc (z := y10 + 1) rfl rfl (by first | with_reducible rfl | omega) (by omega) ?_
                    show e_Ok 1 elay code1 eI (d + 1) 171 (143, [(10, (0, y10 + 1)), (0, (1, 250)), (1, (1, 9)), (2, (0, n)), (3, (0, a)), (4, (0, o)), (5, (0, m)), (6, (1, 17 * a + 86)), (7, (0, z5)), (8, (0, y8)), (9, (0, z40))], [], w29) _
                    refine e_Ok.run (t' := (106, [(10, (0, y10 + 1)), (0, (1, 250)), (1, (1, 9)), (2, (0, n)), (3, (0, a)), (4, (0, o)), (5, (0, m)), (6, (1, 17 * a + 86)), (7, (0, z5)), (8, (0, y8)), (9, (0, z40))], [], w29)) 1 rfl ?_
                    refine e_Ok.sub c1lk (e_sub_of rfl ?_) (ih48 (y10 + 1) (by omega) (by omega))
                    exact ⟨rfl, rfl, rfl, rfl, rfl, rfl, rfl, rfl, rfl, rfl, rfl, trivial⟩
                  · replace h74 : (z73 : Int) ≠ 0 := (show ¬ ((z73 : Int) = 0) from h74)
                    refine e_Ok.run (t' := (139, [(0, (1, 250)), (1, (1, 9)), (2, (0, n)), (3, (0, a)), (4, (0, o)), (5, (0, m)), (6, (1, 17 * a + 86)), (7, (0, z5)), (8, (0, y8)), (9, (0, z40)), (10, (0, y10))], [(0, 1)], w29)) 1 rfl ?_
                    refine e_Ok.rets rfl rfl ?_
                    exact ⟨_, rfl, f30, hT32, ⟨by omega, by omega⟩⟩
          refine e_Ok.sub c1lk (e_sub_of rfl ?_) (hL47 (17 + 1 : Int).toNat 0 (by omega) (by omega))
          exact ⟨rfl, rfl, rfl, rfl, rfl, rfl, rfl, rfl, rfl, rfl, rfl, trivial⟩
        · replace h46 : (z45 : Int) ≠ 0 := (show ¬ ((z45 : Int) = 0) from h46)
          refine e_Ok.run (t' := (102, [(9, (0, z40)), (0, (1, 250)), (1, (1, 9)), (2, (0, n)), (3, (0, a)), (4, (0, o)), (5, (0, m)), (6, (1, 17 * a + 86)), (7, (0, z5)), (8, (0, y8))], [(0, 1)], w29)) 1 rfl ?_
          refine e_Ok.rets rfl rfl ?_
          exact ⟨_, rfl, f30, hT32, ⟨by omega, by omega⟩⟩
  refine e_Ok.sub c1lk (e_sub_of rfl ?_) (hL6 (8 + 1 : Int).toNat 0 w ⟨(e_fr.refl w), hT, by omega⟩ (by omega))
  exact ⟨rfl, rfl, rfl, rfl, rfl, rfl, rfl, rfl, rfl, trivial⟩
theorem no_eb_5 {k : Int} : ¬ kHv 0 k := by unfold kHv; omega
theorem no_eb_6 {k : Int} : ¬ kHv 9 k := by unfold kHv; omega
theorem no_eb_7 {k : Int} : ¬ kTc 274 k := by unfold kTc; omega
theorem no_eb_8 {k : Int} : ¬ kTc 0 k := by unfold kTc; omega
set_option maxHeartbeats 4000000 in
theorem b_264_n {d : Nat} (hd : 8 ≤ d) {w : eW} (h0 : kM4 w) (hn : kn1 (w 274 2)) : e_Ok 1 elay code1 eI d 264 (0, [(0, (1, 0))], [], w) (fun r w' => r = [] ∧ e_fr kHv w w' ∧ e_Has kTy w') := by
  obtain ⟨d, rfl⟩ : ∃ e, d = e + 1 := ⟨d - 1, by omega⟩
  have hT := h0.1
  have hn2 := hn; unfold kn1 at hn2
  have hw0 := e_Has.get hT (c := 0) (k := 11) (lo := 0) (hi := 4) (kt_o rfl) (by decide)
  refine e_Ok.run (t' := (2, [(1, (0, 0)), (0, (1, 0))], [], w)) 2 rfl ?_
  have hL1 : ∀ (nn : Nat) (y1 : Int) (v1 : eW), e_fr kHv w v1 ∧ e_Has kTy v1 ∧ kn1 (v1 274 2) ∧ ((0 ≤ y1 ∧ y1 ≤ 4)) → 5 - y1 < nn → e_Ok 1 elay code1 eI (d + 1) 264 (2, [(0, (1, 0)), (1, (0, y1))], [], v1) (fun r w' => r = [] ∧ e_fr kHv w w' ∧ e_Has kTy w') := by
    intro nn
    induction nn with
    | zero => intro y1 v1 hj hm; obtain ⟨j3, j4, j5, j6⟩ := hj; exfalso; omega
    | succ nn ih2 =>
      intro y1 v1 hj hm
      obtain ⟨j3, j4, j5, j6⟩ := hj
      have jn2 := j5; unfold kn1 at jn2
      refine e_Ok.run (t' := (4, [(0, (1, 0)), (1, (0, y1))], [(1, 0), (0, y1)], v1)) 2 rfl ?_
      have h7 := (e_Has.get hT (c := 0) (k := 11) (lo := 0) (hi := 4) (kt_o rfl) (by decide))
      refine e_Ok.getf (z := w 0 11) rfl (el_o rfl) rfl rfl ((j3 0 11 no_eb_5).trans rfl) (e_bq h7 (by decide) (by decide)) ?_
      refine e_Ok.if2 rfl (fun h8 => ?_) (fun h8 => ?_)
      · replace h8 : (y1 : Int) ≥ w 0 11 := h8
        refine e_Ok.rets rfl rfl ?_
        exact ⟨rfl, j3, j4⟩
      · replace h8 : (y1 : Int) < w 0 11 := Int.not_le.mp (show ¬ ((y1 : Int) ≥ w 0 11) from h8)
        refine e_Ok.ps1 (x := (1, 0)) (q := 11) 1 rfl ?_
        refine e_Ok.getr (z := 9) rfl (el_o rfl) rfl rfl ((j3 0 2 no_eb_5).trans (e_Has.eq hT (kt_o rfl))) ⟨by decide, by decide⟩ ?_
        refine e_Ok.ps1 (x := (0, y1)) (q := 15) 1 rfl ?_
        refine e_Ok.aald (z := 17 * y1 + 86) rfl (el_o rfl) rfl (by omega) ((j3 9 y1 no_eb_6).trans (Eq.trans (e_Has.eq hT (k9 (by omega))) (by omega))) (by omega) ?_
        have h9 := (e_Has.get hT (c := 17 * y1 + 86) (k := 18) (lo := (-1)) (hi := 1000) (kA_18 (a := y1) (by omega) (by omega)) (by decide))
        refine e_Ok.getf (z := w (17 * y1 + 86) 18) rfl (lA0 (a := y1) (by omega) (by omega)) rfl rfl ((j3 (17 * y1 + 86) 18 (by unfold kHv; omega)).trans rfl) (e_bq h9 (by decide) (by decide)) ?_
        refine e_Ok.if1 rfl (fun h10 => ?_) (fun h10 => ?_)
        · replace h10 : (w (17 * y1 + 86) 18 : Int) < 0 := h10
          refine e_Ok.run (t' := (43, [(2, (0, 0)), (0, (1, 0)), (1, (0, y1))], [(0, 0)], v1)) 3 rfl ?_
          refine e_Ok.if1 rfl (fun h11 => ?_) (fun h11 => ?_)
          · replace h11 : (0 : Int) = 0 := h11
            refine e_Ok.inc (z := y1 + 1) rfl rfl (by first | with_reducible rfl | omega) (by omega) ?_
            show e_Ok 1 elay code1 eI (d + 1) 264 (80, [(1, (0, y1 + 1)), (2, (0, 0)), (0, (1, 0))], [], v1) _
            refine e_Ok.run (t' := (2, [(1, (0, y1 + 1)), (2, (0, 0)), (0, (1, 0))], [], v1)) 1 rfl ?_
            refine e_Ok.sub c1lk (e_sub_of rfl ?_) (ih2 (y1 + 1) v1 ⟨j3, j4, (by have g : v1 274 2 = v1 274 2 := rfl; unfold kn1; omega), (by omega)⟩ (by omega))
            exact ⟨rfl, rfl, trivial⟩
          · replace h11 : (0 : Int) ≠ 0 := (show ¬ ((0 : Int) = 0) from h11)
            exfalso; omega
        · replace h10 : (w (17 * y1 + 86) 18 : Int) ≥ 0 := Int.not_lt.mp (show ¬ ((w (17 * y1 + 86) 18 : Int) < 0) from h10)
          refine e_Ok.ps1 (x := (1, 0)) (q := 23) 1 rfl ?_
          refine e_Ok.getr (z := 9) rfl (el_o rfl) rfl rfl ((j3 0 2 no_eb_5).trans (e_Has.eq hT (kt_o rfl))) ⟨by decide, by decide⟩ ?_
          refine e_Ok.ps1 (x := (0, y1)) (q := 27) 1 rfl ?_
          refine e_Ok.aald (z := 17 * y1 + 86) rfl (el_o rfl) rfl (by omega) ((j3 9 y1 no_eb_6).trans (Eq.trans (e_Has.eq hT (k9 (by omega))) (by omega))) (by omega) ?_
          have h12 := (e_Has.get hT (c := 17 * y1 + 86) (k := 19) (lo := (-2147483648)) (hi := 2147483647) (kA_19 (a := y1) (by omega) (by omega)) (by decide))
          refine e_Ok.getf (z := w (17 * y1 + 86) 19) rfl (lA0 (a := y1) (by omega) (by omega)) rfl rfl ((j3 (17 * y1 + 86) 19 (by unfold kHv; omega)).trans rfl) (e_bq h12 (by decide) (by decide)) ?_
          refine e_Ok.ps1 (x := (0, 2)) (q := 32) 1 rfl ?_
          refine e_Ok.any rfl (eB_any _ _) (fun z13 z13a z13b => ?_)
          refine e_Ok.if1 rfl (fun h14 => ?_) (fun h14 => ?_)
          · replace h14 : (z13 : Int) ≠ 0 := h14
            refine e_Ok.run (t' := (43, [(2, (0, 0)), (0, (1, 0)), (1, (0, y1))], [(0, 0)], v1)) 3 rfl ?_
            refine e_Ok.if1 rfl (fun h15 => ?_) (fun h15 => ?_)
            · replace h15 : (0 : Int) = 0 := h15
              refine e_Ok.inc (z := y1 + 1) rfl rfl (by first | with_reducible rfl | omega) (by omega) ?_
              show e_Ok 1 elay code1 eI (d + 1) 264 (80, [(1, (0, y1 + 1)), (2, (0, 0)), (0, (1, 0))], [], v1) _
              refine e_Ok.run (t' := (2, [(1, (0, y1 + 1)), (2, (0, 0)), (0, (1, 0))], [], v1)) 1 rfl ?_
              refine e_Ok.sub c1lk (e_sub_of rfl ?_) (ih2 (y1 + 1) v1 ⟨j3, j4, (by have g : v1 274 2 = v1 274 2 := rfl; unfold kn1; omega), (by omega)⟩ (by omega))
              exact ⟨rfl, rfl, trivial⟩
            · replace h15 : (0 : Int) ≠ 0 := (show ¬ ((0 : Int) = 0) from h15)
              exfalso; omega
          · replace h14 : (z13 : Int) = 0 := Classical.not_not.mp (show ¬ ((z13 : Int) ≠ 0) from h14)
            refine e_Ok.run (t' := (43, [(2, (0, 1)), (0, (1, 0)), (1, (0, y1))], [(0, 1)], v1)) 4 rfl ?_
            refine e_Ok.if1 rfl (fun h16 => ?_) (fun h16 => ?_)
            · replace h16 : (1 : Int) = 0 := h16
              exfalso; omega
            · replace h16 : (1 : Int) ≠ 0 := (show ¬ ((1 : Int) = 0) from h16)
              refine e_Ok.ps1 (x := (1, 0)) (q := 47) 1 rfl ?_
              refine e_Ok.getr (z := 250) rfl (el_o rfl) rfl rfl ((j3 0 6 no_eb_5).trans (e_Has.eq hT (kt_o rfl))) ⟨by decide, by decide⟩ ?_
              refine e_Ok.ps1 (x := (1, 0)) (q := 51) 1 rfl ?_
              refine e_Ok.getr (z := 9) rfl (el_o rfl) rfl rfl ((j3 0 2 no_eb_5).trans (e_Has.eq hT (kt_o rfl))) ⟨by decide, by decide⟩ ?_
              refine e_Ok.ps1 (x := (1, 0)) (q := 55) 1 rfl ?_
              refine e_Ok.getf (z := w 0 11) rfl (el_o rfl) rfl rfl ((j3 0 11 no_eb_5).trans rfl) (by omega) ?_
              refine e_Ok.ps3 (x := (0, 0)) (y := (0, 0)) (z := (0, y1)) (q := 61) 3 rfl ?_
              have K20 : ∀ a, 0 ≤ a → a ≤ 3 → aK v1 a := fun a g1 g2 => aK.fr j3 (fun k => ⟨by unfold kHv; omega, by unfold kHv; omega⟩) (by unfold kHv; omega) (h0.2 a g1 g2)
              refine e_Ok.callV rfl (by first | exact e_dq hd rfl | omega) rfl rfl rfl rfl (b_171 (e_dq hd rfl) j4 (by omega) (by omega) (by omega) (by omega) K20) (fun r17 w18 h19 => ?_)
              obtain ⟨z21, rfl, q22f, q22T, q22r⟩ := h19
              have f23 : e_fr kHv w w18 := e_fr.trans j3 (e_fr.mono q22f (fun c k q => by exact Or.inr q))
              have q22n : kn1 (w18 274 2) := by rw [q22f _ _ (by unfold kTc; omega)]; exact j5
              unfold kn1 at q22n
              show e_Ok 1 elay code1 eI (d + 1) 264 (64, [(2, (0, 1)), (0, (1, 0)), (1, (0, y1))], [(0, z21)], w18) _
              refine e_Ok.if1 rfl (fun h24 => ?_) (fun h24 => ?_)
              · replace h24 : (z21 : Int) = 0 := h24
                refine e_Ok.inc (z := y1 + 1) rfl rfl (by first | with_reducible rfl | omega) (by omega) ?_
                show e_Ok 1 elay code1 eI (d + 1) 264 (80, [(1, (0, y1 + 1)), (2, (0, 1)), (0, (1, 0))], [], w18) _
                refine e_Ok.run (t' := (2, [(1, (0, y1 + 1)), (2, (0, 1)), (0, (1, 0))], [], w18)) 1 rfl ?_
                refine e_Ok.sub c1lk (e_sub_of rfl ?_) (ih2 (y1 + 1) w18 ⟨f23, q22T, (by have g : w18 274 2 = v1 274 2 := ((q22f 274 2 no_eb_7).trans rfl); unfold kn1; omega), (by omega)⟩ (by omega))
                exact ⟨rfl, rfl, trivial⟩
              · replace h24 : (z21 : Int) ≠ 0 := (show ¬ ((z21 : Int) = 0) from h24)
                refine e_Ok.run (t' := (68, [(2, (0, 1)), (0, (1, 0)), (1, (0, y1))], [(1, 0)], w18)) 1 rfl ?_
                refine e_Ok.getr (z := 274) rfl (el_o rfl) rfl rfl ((q22f 0 10 no_eb_8).trans ((j3 0 10 no_eb_5).trans (e_Has.eq hT (kt_o rfl)))) ⟨by decide, by decide⟩ ?_
                refine e_Ok.ps3 (x := (0, 2)) (y := (1, 274)) (z := (0, 2)) (q := 73) 2 rfl ?_
                refine e_Ok.ald (z := v1 274 2) rfl (el_o rfl) rfl (by omega) ((q22f 274 2 no_eb_7).trans rfl) (by omega) ?_
                refine e_Ok.ps1 (x := (0, 1)) (q := 75) 1 rfl ?_
                refine e_Ok.any rfl (eF_add_any _ _) (fun z25 z25a z25b => ?_)
                refine e_Ok.ast rfl (el_o rfl) rfl rfl (by omega) ?_
                generalize hw26 : e_up w18 274 2 z25 = w26
                have hT28 : e_Has kTy w26 := e_Has.ups q22T hw26 (kt_o rfl)
                refine e_Ok.inc (z := y1 + 1) rfl rfl (by first | with_reducible rfl | omega) (by omega) ?_
                show e_Ok 1 elay code1 eI (d + 1) 264 (80, [(1, (0, y1 + 1)), (2, (0, 1)), (0, (1, 0))], [], w26) _
                refine e_Ok.run (t' := (2, [(1, (0, y1 + 1)), (2, (0, 1)), (0, (1, 0))], [], w26)) 1 rfl ?_
                refine e_Ok.sub c1lk (e_sub_of rfl ?_) (ih2 (y1 + 1) w26 ⟨(show e_fr kHv w w26 from e_fr.up f23 hw26 (by first | exact Or.inl ⟨rfl, ⟨(by decide), (by decide)⟩⟩ | (unfold kHv; omega))), hT28, (by have g : w26 274 2 = z25 := (e_ue hw26); unfold kn1; omega), (by omega)⟩ (by omega))
                exact ⟨rfl, rfl, trivial⟩
  refine e_Ok.sub c1lk (e_sub_of rfl ?_) (hL1 (5 + 1 : Int).toNat 0 w ⟨(e_fr.refl w), hT, hn, (by omega)⟩ (by omega))
  exact ⟨rfl, rfl, trivial⟩
end
end
-- part ec
section
noncomputable section
/-! the stretches that the class's macros jump over, for any G -/
theorem g_259 {d : Nat} (hd : 12 ≤ d) {G : eS → Prop} {l : eL} (hS : e_GS code1 259 G) (hC : e_GC 1 elay code1 eI d 259 G) {w : eW} (hc : -2147483648 ≤ w 0 14 ∧ w 0 14 ≤ 2147483647) (hn : kn1 (w 274 3)) (h0 : kM1 w) (hL0 : e_find l 0 = some (1, 0)) (hK : ∀ u1, e_fr kHv w u1 → e_Has kTy u1 → G (245, l, [], u1)) : G (214, l, [], w) := by
  unfold kn1 at hn
  have hT := h0.1
  have hw0 := e_Has.get hT (c := 0) (k := 11) (lo := 0) (hi := 4) (kt_o rfl) (by decide)
  refine e_GS.load hS hL0 rfl rfl ?_
  refine e_GS.getf hS (z := w 0 14) rfl rfl rfl rfl rfl (by omega) ?_
  refine e_GS.if1 hS rfl (fun h1 => ?_) (fun h1 => ?_)
  · replace h1 : (w 0 14 : Int) = 0 := h1
    exact hK _ (e_fr.refl w) hT
  · replace h1 : (w 0 14 : Int) ≠ 0 := by have q : ¬ ((w 0 14 : Int) = 0) := h1; omega
    refine e_GS.load hS hL0 rfl rfl ?_
    refine e_GS.getr hS (z := 274) rfl rfl rfl rfl (Eq.trans (e_Has.eq hT (kt_o rfl)) (by omega)) (by omega) ?_
    refine e_GS.run hS (t' := (227, l, [(0, 3), (1, 274), (0, 3), (1, 274)], w)) 2 rfl ?_
    refine e_GS.ald hS (z := w 274 3) rfl rfl rfl (by omega) rfl (by omega) ?_
    refine e_GS.load hS hL0 rfl rfl ?_
    refine e_GS.getr hS (z := 19) rfl rfl rfl rfl (Eq.trans (e_Has.eq hT (kt_o rfl)) (by omega)) (by omega) ?_
    refine e_GS.load hS hL0 rfl rfl ?_
    refine e_GS.getr hS (z := 9) rfl rfl rfl rfl (Eq.trans (e_Has.eq hT (kt_o rfl)) (by omega)) (by omega) ?_
    refine e_GS.load hS hL0 rfl rfl ?_
    have h2 := (e_Has.get hT (c := 0) (k := 11) (lo := 0) (hi := 4) (kt_o rfl) (by decide))
    refine e_GS.getf hS (z := w 0 11) rfl rfl rfl rfl rfl (by omega) ?_
    refine e_GS.callV hC rfl (by omega) rfl rfl rfl rfl (b_88_n h0 (by omega)) (fun r3 w4 h5 => ?_)
    obtain ⟨z6, rfl, rfl, q7⟩ := h5
    show G (243, l, [(0, z6), (0, w 274 3), (0, 3), (1, 274)], w)
    refine e_GS.any hS rfl (eF_add_any _ _) (fun z8 z8a z8b => ?_)
    refine e_GS.ast hS rfl rfl rfl rfl (by omega) ?_
    generalize hw9 : e_up w 274 3 z8 = w9
    have f10 : e_fr kHv w w9 := e_fr.up (e_fr.refl w) hw9 (by first | exact Or.inl ⟨rfl, ⟨(by decide), (by decide)⟩⟩ | (unfold kHv; omega))
    have hT11 : e_Has kTy w9 := e_Has.ups hT hw9 (kt_o rfl)
    exact hK _ f10 hT11
theorem g_260 {d : Nat} (hd : 12 ≤ d) {G : eS → Prop} {l : eL} (hS : e_GS code1 260 G) (hC : e_GC 1 elay code1 eI d 260 G) {w : eW} (hc : -2147483648 ≤ w 0 14 ∧ w 0 14 ≤ 2147483647) (hn : kn1 (w 274 0)) {a : Int} (ga : 0 ≤ a ∧ a ≤ 3) (hT : e_Has kTy w) (hb : ∀ j, 0 ≤ j → j < w (17 * a + 86) 8 → kn1 (w (17 * a + j + 97) 11)) (hL0 : e_find l 0 = some (1, 0)) (hL2 : e_find l 2 = some (1, 17 * a + 86)) (hK : ∀ u1, e_fr kHv w u1 → e_Has kTy u1 → G (112, l, [], u1)) : G (85, l, [], w) := by
  unfold kn1 at hn
  refine e_GS.load hS hL0 rfl rfl ?_
  refine e_GS.getf hS (z := w 0 14) rfl rfl rfl rfl rfl (by omega) ?_
  refine e_GS.if1 hS rfl (fun h1 => ?_) (fun h1 => ?_)
  · replace h1 : (w 0 14 : Int) = 0 := h1
    exact hK _ (e_fr.refl w) hT
  · replace h1 : (w 0 14 : Int) ≠ 0 := by have q : ¬ ((w 0 14 : Int) = 0) := h1; omega
    refine e_GS.load hS hL0 rfl rfl ?_
    refine e_GS.getr hS (z := 274) rfl rfl rfl rfl (Eq.trans (e_Has.eq hT (kt_o rfl)) (by omega)) (by omega) ?_
    refine e_GS.run hS (t' := (98, l, [(0, 0), (1, 274), (0, 0), (1, 274)], w)) 2 rfl ?_
    refine e_GS.ald hS (z := w 274 0) rfl rfl rfl (by omega) rfl (by omega) ?_
    refine e_GS.load hS hL2 rfl rfl ?_
    refine e_GS.load hS hL0 rfl rfl ?_
    refine e_GS.getr hS (z := 74) rfl rfl rfl rfl (Eq.trans (e_Has.eq hT (kt_o rfl)) (by omega)) (by omega) ?_
    have h2 := (e_Has.get hT (c := 74) (k := 3) (lo := 0) (hi := 1) (kt_o rfl) (by decide))
    refine e_GS.getf hS (z := w 74 3) rfl rfl rfl rfl rfl (by omega) ?_
    refine e_GS.callV hC rfl (by omega) rfl (lA0 (a := a) (by omega) (by omega)) rfl rfl (b_19_n (by omega) (a := a) hT ga (by omega) hb) (fun r3 w4 h5 => ?_)
    obtain ⟨z6, rfl, rfl, q7⟩ := h5
    show G (110, l, [(0, z6), (0, w 274 0), (0, 0), (1, 274)], w)
    refine e_GS.any hS rfl (eF_add_any _ _) (fun z8 z8a z8b => ?_)
    refine e_GS.ast hS rfl rfl rfl rfl (by omega) ?_
    generalize hw9 : e_up w 274 0 z8 = w9
    have f10 : e_fr kHv w w9 := e_fr.up (e_fr.refl w) hw9 (by first | exact Or.inl ⟨rfl, ⟨(by decide), (by decide)⟩⟩ | (unfold kHv; omega))
    have hT11 : e_Has kTy w9 := e_Has.ups hT hw9 (kt_o rfl)
    exact hK _ f10 hT11
theorem g_261 {d : Nat} (hd : 12 ≤ d) {G : eS → Prop} {l : eL} (hS : e_GS code1 261 G) (hC : e_GC 1 elay code1 eI d 261 G) {w : eW} (hc : -2147483648 ≤ w 0 14 ∧ w 0 14 ≤ 2147483647) (hn : kn1 (w 274 1)) {a : Int} (ga : 0 ≤ a ∧ a ≤ 3) (hT : e_Has kTy w) (h12 : kn1 (w (17 * a + 86) 12)) (hb : ∀ j, 0 ≤ j → j < w (17 * a + 86) 8 → kn1 (w (17 * a + j + 97) 10)) (hL0 : e_find l 0 = some (1, 0)) (hL2 : e_find l 2 = some (1, 17 * a + 86)) (hK : ∀ u1, e_fr kHv w u1 → e_Has kTy u1 → G (51, l, [], u1)) : G (21, l, [], w) := by
  unfold kn1 at hn
  unfold kn1 at h12
  refine e_GS.load hS hL0 rfl rfl ?_
  refine e_GS.getf hS (z := w 0 14) rfl rfl rfl rfl rfl (by omega) ?_
  refine e_GS.if1 hS rfl (fun h1 => ?_) (fun h1 => ?_)
  · replace h1 : (w 0 14 : Int) = 0 := h1
    exact hK _ (e_fr.refl w) hT
  · replace h1 : (w 0 14 : Int) ≠ 0 := by have q : ¬ ((w 0 14 : Int) = 0) := h1; omega
    refine e_GS.load hS hL2 rfl rfl ?_
    refine e_GS.getf hS (z := w (17 * a + 86) 12) rfl (lA0 (a := a) (by omega) (by omega)) rfl rfl rfl (by omega) ?_
    refine e_GS.load hS hL2 rfl rfl ?_
    refine e_GS.callV hC rfl (by omega) rfl (lA0 (a := a) (by omega) (by omega)) rfl rfl (b_18_n (by omega) (a := a) hT ga hb) (fun r2 w3 h4 => ?_)
    obtain ⟨z5, rfl, rfl, q6⟩ := h4
    show G (36, l, [(0, z5), (0, w (17 * a + 86) 12)], w)
    refine e_GS.run hS (t' := (37, l, [(0, 1), (0, z5), (0, w (17 * a + 86) 12)], w)) 1 rfl ?_
    refine e_GS.add hS (z := z5 + 1) rfl (by omega) (by omega) ?_
    refine e_GS.if2 hS rfl (fun h7 => ?_) (fun h7 => ?_)
    · replace h7 : (w (17 * a + 86) 12 : Int) = z5 + 1 := h7
      exact hK _ (e_fr.refl w) hT
    · replace h7 : (w (17 * a + 86) 12 : Int) ≠ z5 + 1 := by have q : ¬ ((w (17 * a + 86) 12 : Int) = z5 + 1) := h7; omega
      refine e_GS.load hS hL0 rfl rfl ?_
      refine e_GS.getr hS (z := 274) rfl rfl rfl rfl (Eq.trans (e_Has.eq hT (kt_o rfl)) (by omega)) (by omega) ?_
      refine e_GS.run hS (t' := (47, l, [(0, 1), (1, 274), (0, 1), (1, 274)], w)) 2 rfl ?_
      refine e_GS.ald hS (z := w 274 1) rfl rfl rfl (by omega) rfl (by omega) ?_
      refine e_GS.run hS (t' := (49, l, [(0, 1), (0, w 274 1), (0, 1), (1, 274)], w)) 1 rfl ?_
      refine e_GS.any hS rfl (eF_add_any _ _) (fun z8 z8a z8b => ?_)
      refine e_GS.ast hS rfl rfl rfl rfl (by omega) ?_
      generalize hw9 : e_up w 274 1 z8 = w9
      have f10 : e_fr kHv w w9 := e_fr.up (e_fr.refl w) hw9 (by first | exact Or.inl ⟨rfl, ⟨(by decide), (by decide)⟩⟩ | (unfold kHv; omega))
      have hT11 : e_Has kTy w9 := e_Has.ups hT hw9 (kt_o rfl)
      exact hK _ f10 hT11
theorem g_262 {d : Nat} (hd : 12 ≤ d) {G : eS → Prop} {l : eL} (hS : e_GS code1 262 G) (hC : e_GC 1 elay code1 eI d 262 G) {w : eW} (hc : -2147483648 ≤ w 0 14 ∧ w 0 14 ≤ 2147483647) (h0 : kM4 w) (h2 : kn1 (w 274 2)) (hL0 : e_find l 0 = some (1, 0)) (hK : ∀ u1, e_fr kHv w u1 → e_Has kTy u1 → G (34, l, [], u1)) : G (23, l, [], w) := by
  have hT := h0.1
  refine e_GS.load hS hL0 rfl rfl ?_
  refine e_GS.getf hS (z := w 0 14) rfl rfl rfl rfl rfl (by omega) ?_
  refine e_GS.if1 hS rfl (fun h1 => ?_) (fun h1 => ?_)
  · replace h1 : (w 0 14 : Int) = 0 := h1
    exact hK _ (e_fr.refl w) hT
  · replace h1 : (w 0 14 : Int) ≠ 0 := by have q : ¬ ((w 0 14 : Int) = 0) := h1; omega
    refine e_GS.load hS hL0 rfl rfl ?_
    refine e_GS.callV hC rfl (by omega) rfl rfl rfl rfl (b_264_n (by omega) h0 h2) (fun r2 w3 h4 => ?_)
    obtain ⟨rfl, cf, cT⟩ := h4
    have f5 : e_fr kHv w w3 := e_fr.trans (e_fr.refl w) (e_fr.mono cf (fun c k q => by exact q))
    show G (34, l, [], w3)
    exact hK _ f5 cT
end
end
-- part ed
section
noncomputable section
/-! the class's macros may be trusted -/
theorem hk_rf {w u u1 : eW} (hu : e_rf w u) (f1 : e_fr kHv u u1) : e_rf (e_hk w) u1 := fun c k h => by
  by_cases q : kHv c k
  · have e9 : e_hk w c k = 2147483648 := if_pos q
    rw [e9] at h
    exact absurd h (by decide)
  · rw [e_hk_ne q] at h ⊢
    rw [f1 c k q]
    exact hu c k h
theorem mac_259 (hT : e_Tab 1 eft cls elay eI code1) {l : Launch} : e_Mac 20 eft cls elay (eI 259) l 214 (kJp kP1 245) := by
  intro d ad ce sl p e R s m args below meth c D A H0 Q hfd C hce hsl hd hdl hA t t' l' u ht hf hs hu IH
  obtain ⟨pc0, l0, st, w⟩ := t
  subst ht
  unfold kJp at hf
  match st with
  | [] =>
    simp only at hf
    split at hf
    · rename_i hP
      cases hf
      intro ls stk H locs hI
      obtain ⟨lv, ws, tys, h1, h2, h3, h4, h5, h6, h7, h8⟩ := hI
      have kc := h4.fd (j := 0) (c := 11) (n := 15) rfl 14 (by decide) rfl
      have kn : ∀ k : Nat, k < 4 → kn1 (u 274 k) := fun k hk => h4.ar (j := 274) (n := 4) rfl k hk
      have hS := e_Good.gs (ad := ad) (e := e) (below := below) (D := D) (Q := Q) (l := l) hT C hce hsl hA
      have hC := e_Good.gc (d := 19) (ad := ad) (e := e) (below := below) (D := D) (Q := Q) (l := l) hT C hce hsl (by omega) (by omega) hA
      have key := g_259 (d := 19) (by omega) hS hC (w := u) (l := l') kc (kn 3 (by decide)) (hP.2.rf hu) (hs.find hP.1) (fun u1 f1 _ => IH l' u1 hs (hk_rf hu f1))
      exact key ls stk H locs ⟨lv, ws, tys, h1, h2, h3, h4, h5, h6, h7, h8⟩
    · cases hf
  | _ :: _ => cases hf
theorem mac_260 (hT : e_Tab 1 eft cls elay eI code1) {l : Launch} : e_Mac 20 eft cls elay (eI 260) l 85 (kJp kP2 112) := by
  intro d ad ce sl p e R s m args below meth c D A H0 Q hfd C hce hsl hd hdl hA t t' l' u ht hf hs hu IH
  obtain ⟨pc0, l0, st, w⟩ := t
  subst ht
  unfold kJp at hf
  match st with
  | [] =>
    simp only at hf
    split at hf
    · rename_i hP
      cases hf
      intro ls stk H locs hI
      obtain ⟨lv, ws, tys, h1, h2, h3, h4, h5, h6, h7, h8⟩ := hI
      have kc := h4.fd (j := 0) (c := 11) (n := 15) rfl 14 (by decide) rfl
      have kn : ∀ k : Nat, k < 4 → kn1 (u 274 k) := fun k hk => h4.ar (j := 274) (n := 4) rfl k hk
      have hS := e_Good.gs (ad := ad) (e := e) (below := below) (D := D) (Q := Q) (l := l) hT C hce hsl hA
      have hC := e_Good.gc (d := 19) (ad := ad) (e := e) (below := below) (D := D) (Q := Q) (l := l) hT C hce hsl (by omega) (by omega) hA
      obtain ⟨hp0, cc, hp2, hM⟩ := hP
      have hMu := hM.rf hu
      obtain ⟨hTy, a, ga, rfl, hb⟩ := hMu
      have key := g_260 (d := 19) (by omega) hS hC (w := u) (l := l') kc (kn 0 (by decide)) ga hTy hb (hs.find hp0) (hs.find hp2) (fun u1 f1 _ => IH l' u1 hs (hk_rf hu f1))
      exact key ls stk H locs ⟨lv, ws, tys, h1, h2, h3, h4, h5, h6, h7, h8⟩
    · cases hf
  | _ :: _ => cases hf
theorem mac_261 (hT : e_Tab 1 eft cls elay eI code1) {l : Launch} : e_Mac 20 eft cls elay (eI 261) l 21 (kJp kP3 51) := by
  intro d ad ce sl p e R s m args below meth c D A H0 Q hfd C hce hsl hd hdl hA t t' l' u ht hf hs hu IH
  obtain ⟨pc0, l0, st, w⟩ := t
  subst ht
  unfold kJp at hf
  match st with
  | [] =>
    simp only at hf
    split at hf
    · rename_i hP
      cases hf
      intro ls stk H locs hI
      obtain ⟨lv, ws, tys, h1, h2, h3, h4, h5, h6, h7, h8⟩ := hI
      have kc := h4.fd (j := 0) (c := 11) (n := 15) rfl 14 (by decide) rfl
      have kn : ∀ k : Nat, k < 4 → kn1 (u 274 k) := fun k hk => h4.ar (j := 274) (n := 4) rfl k hk
      have hS := e_Good.gs (ad := ad) (e := e) (below := below) (D := D) (Q := Q) (l := l) hT C hce hsl hA
      have hC := e_Good.gc (d := 19) (ad := ad) (e := e) (below := below) (D := D) (Q := Q) (l := l) hT C hce hsl (by omega) (by omega) hA
      obtain ⟨hp0, cc, hp2, hM⟩ := hP
      have hMu := hM.rf hu
      obtain ⟨hTy, a, ga, rfl, h12, hb⟩ := hMu
      have key := g_261 (d := 19) (by omega) hS hC (w := u) (l := l') kc (kn 1 (by decide)) ga hTy h12 hb (hs.find hp0) (hs.find hp2) (fun u1 f1 _ => IH l' u1 hs (hk_rf hu f1))
      exact key ls stk H locs ⟨lv, ws, tys, h1, h2, h3, h4, h5, h6, h7, h8⟩
    · cases hf
  | _ :: _ => cases hf
theorem mac_262 (hT : e_Tab 1 eft cls elay eI code1) {l : Launch} : e_Mac 20 eft cls elay (eI 262) l 23 (kJp kP4 34) := by
  intro d ad ce sl p e R s m args below meth c D A H0 Q hfd C hce hsl hd hdl hA t t' l' u ht hf hs hu IH
  obtain ⟨pc0, l0, st, w⟩ := t
  subst ht
  unfold kJp at hf
  match st with
  | [] =>
    simp only at hf
    split at hf
    · rename_i hP
      cases hf
      intro ls stk H locs hI
      obtain ⟨lv, ws, tys, h1, h2, h3, h4, h5, h6, h7, h8⟩ := hI
      have kc := h4.fd (j := 0) (c := 11) (n := 15) rfl 14 (by decide) rfl
      have kn : ∀ k : Nat, k < 4 → kn1 (u 274 k) := fun k hk => h4.ar (j := 274) (n := 4) rfl k hk
      have hS := e_Good.gs (ad := ad) (e := e) (below := below) (D := D) (Q := Q) (l := l) hT C hce hsl hA
      have hC := e_Good.gc (d := 19) (ad := ad) (e := e) (below := below) (D := D) (Q := Q) (l := l) hT C hce hsl (by omega) (by omega) hA
      have key := g_262 (d := 19) (by omega) hS hC (w := u) (l := l') kc (hP.2.rf hu) (kn 2 (by decide)) (hs.find hP.1) (fun u1 f1 _ => IH l' u1 hs (hk_rf hu f1))
      exact key ls stk H locs ⟨lv, ws, tys, h1, h2, h3, h4, h5, h6, h7, h8⟩
    · cases hf
  | _ :: _ => cases hf
end
end
-- part ef
section
noncomputable section
/-! the class's table, with its macros, may be trusted; what it reaches -/
theorem kc_R {l : Launch} (M pc : Nat) : e_EOR 20 eft cls elay eI (eI M) l pc (kcode M pc) := by
  by_cases h1 : M = 259
  · subst h1
    exact (show e_EOR 20 eft cls elay eI n_259 l pc (te_259m pc) from e_orb (Or.inr (mac_259 code1_tab)) (e_EOR.of (te_259_ok pc)))
  by_cases h2 : M = 260
  · subst h2
    exact (show e_EOR 20 eft cls elay eI n_260 l pc (te_260m pc) from e_orb (Or.inr (mac_260 code1_tab)) (e_EOR.of (te_260_ok pc)))
  by_cases h3 : M = 261
  · subst h3
    exact (show e_EOR 20 eft cls elay eI n_261 l pc (te_261m pc) from e_orb (Or.inr (mac_261 code1_tab)) (e_EOR.of (te_261_ok pc)))
  by_cases h4 : M = 262
  · subst h4
    exact (show e_EOR 20 eft cls elay eI n_262 l pc (te_262m pc) from e_orb (Or.inr (mac_262 code1_tab)) (e_EOR.of (te_262_ok pc)))
  have e : kcode M = ecode M := by
    unfold kcode
    rw [x_nb h1, x_nb h2, x_nb h3, x_nb h4]
    rfl
  rw [e]
  exact ec_R M pc
theorem kc_tabR {l : Launch} : e_TabR 20 eft cls elay eI kcode l := ⟨by decide, kc_R, e_tab0.2.2.1, e_tab0.2.2.2⟩
theorem e_BB.k {B : Int → Prop} (hB : e_BB B) (h : B 0) : ∀ c, B c ↔ (0 ≤ c ∧ c ≤ 274) := by
  rcases hB with hB | hB
  · exact hB
  · have := (hB 0).mp h
    omega
theorem kHv_int {c k : Int} (h : kHv c k) : ¬ e_rfs eft elay c k ∧ ∀ ci n : Nat, elay[c.toNat]? ≠ some (2, ci, n) := by
  rcases h with ⟨rfl, h0, h1⟩ | ⟨rfl, h0, h1⟩
  · have hy : elay[(274 : Int).toNat]? = some (1, 0, 4) := rfl
    refine ⟨fun hr => ?_, fun ci n hc => ?_⟩
    · obtain ⟨kd, ci, n, g1, -, g2⟩ := hr
      rw [hy] at g1
      cases g1
      rcases g2 with g2 | g2 | g2
      · cases g2.1
      · cases g2
      · cases g2
    · rw [hy] at hc
      cases hc
  · refine ⟨fun hr => ?_, fun ci n hc => ?_⟩
    · obtain ⟨kd, ci, n, g1, -, g2⟩ := hr
      have hy : elay[(250 : Int).toNat]? = some (0, 9, 17) := rfl
      rw [hy] at g1
      cases g1
      rcases g2 with g2 | g2 | g2
      · rcases (show k = 13 ∨ k = 14 ∨ k = 15 ∨ k = 16 by omega) with rfl | rfl | rfl | rfl
        · exact g2.2 rfl
        · exact g2.2 rfl
        · exact g2.2 rfl
        · exact g2.2 rfl
      · cases g2
      · cases g2
    · have hy : elay[(250 : Int).toNat]? = some (0, 9, 17) := rfl
      rw [hy] at hc
      cases hc
theorem in_jp {P : eL → eW → Prop} {tg : Nat} (hP : ∀ l w, P l w → e_find l 0 = some (1, 0)) : e_IN eft elay (kJp P tg) := fun _ B hB t t' ht hI => by
  obtain ⟨p, l, st, w⟩ := t
  unfold kJp at ht
  match st with
  | [] =>
    simp only at ht
    split at ht
    · rename_i hq
      cases ht
      have b0 : B 0 := by
        rcases hI.1 _ (e_find_mem (hP _ _ hq)) rfl with q | q
        · exact q
        · exact absurd q.1 (by decide)
      have hk := hB.k b0
      refine ⟨⟨hI.1, fun v hv => absurd hv List.not_mem_nil, ⟨fun c k hc hr => ?_, fun c k ci n hc hy h0 h1 => ?_⟩⟩, fun c k hc => e_hk_ne (fun q => hc ?_)⟩
      · show e_hk w c k = -1 ∨ B (e_hk w c k) ∨ (357 ≤ e_hk w c k ∧ e_hk w c k ≤ 400)
        rw [e_hk_ne (fun q => (kHv_int q).1 hr)]
        exact hI.2.2.1 c k hc hr
      · show -128 ≤ e_hk w c k ∧ e_hk w c k ≤ 127
        rw [e_hk_ne (fun q => (kHv_int q).2 ci n hy)]
        exact hI.2.2.2 c k ci n hc hy h0 h1
      · refine (hk c).mpr ?_
        unfold kHv at q
        omega
    · cases ht
  | _ :: _ => cases ht
theorem kc_in : e_InT eft elay kcode := fun M pc => by
  show e_inP (kcode M pc)
  by_cases h1 : M = 259
  · subst h1
    exact (show e_inP (te_259m pc) from e_inP.bif (e_inP.en (in_jp (fun _ _ q => q.1))) (e_inP.of (te_259_ok pc)))
  by_cases h2 : M = 260
  · subst h2
    exact (show e_inP (te_260m pc) from e_inP.bif (e_inP.en (in_jp (fun _ _ q => q.1))) (e_inP.of (te_260_ok pc)))
  by_cases h3 : M = 261
  · subst h3
    exact (show e_inP (te_261m pc) from e_inP.bif (e_inP.en (in_jp (fun _ _ q => q.1))) (e_inP.of (te_261_ok pc)))
  by_cases h4 : M = 262
  · subst h4
    exact (show e_inP (te_262m pc) from e_inP.bif (e_inP.en (in_jp (fun _ _ q => q.1))) (e_inP.of (te_262_ok pc)))
  have e : kcode M = ecode M := by
    unfold kcode
    rw [x_nb h1, x_nb h2, x_nb h3, x_nb h4]
    rfl
  rw [e]
  exact ec_in M pc
end
end
