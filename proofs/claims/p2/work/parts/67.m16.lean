noncomputable section
theorem c_382 {d : Nat} {w : eW} {f v g : Int} (hf : 0 ≤ f ∧ f ≤ 200000) (hv : 1 ≤ v ∧ v ≤ 2000) (hg : 1 ≤ g ∧ g ≤ 2000) : e_Ok 1 elay ecode eI d 382 (0, [(0, (0, f)), (1, (0, v)), (2, (0, g))], [], w) (fun r w' => ∃ z : Int, r = [(0, z)] ∧ w = w' ∧ 0 ≤ z ∧ z ≤ 200001) := by
  refine e_Ok.run (t' := (5, [(4, (4, 0)), (3, (0, 0)), (0, (0, f)), (1, (0, v)), (2, (0, g))], [], w)) 4 rfl ?_
  have hL1 : ∀ (nn : Nat) (y3 : Int) (y4 : Int), 0 ≤ y3 ∧ y3 ≤ y4 ∧ y3 ≤ f + 1 ∧ y4 ≤ 2000000000 → f + 1 - y3 < nn → e_Ok 1 elay ecode eI d 382 (5, [(0, (0, f)), (1, (0, v)), (2, (0, g)), (3, (0, y3)), (4, (4, y4))], [], w) (fun r w' => ∃ z : Int, r = [(0, z)] ∧ w = w' ∧ 0 ≤ z ∧ z ≤ 200001) := by
    intro nn
    induction nn with
    | zero => intro y3 y4 hj hm; obtain j3 := hj; exfalso; omega
    | succ nn ih2 =>
      intro y3 y4 hj hm
      obtain j3 := hj
      refine e_Ok.run (t' := (9, [(0, (0, f)), (1, (0, v)), (2, (0, g)), (3, (0, y3)), (4, (4, y4))], [(4, f), (4, y4)], w)) 3 rfl ?_
      refine e_Ok.lcmp rfl (fun z4 z4a z4b z4c => ?_)
      refine e_Ok.if1 rfl (fun h5 => ?_) (fun h5 => ?_)
      · replace h5 : (z4 : Int) ≥ 0 := h5
        refine e_Ok.run (t' := (113, [(0, (0, f)), (1, (0, v)), (2, (0, g)), (3, (0, y3)), (4, (4, y4))], [(0, y3)], w)) 1 rfl ?_
        refine e_Ok.rets rfl rfl ?_
        exact ⟨_, rfl, rfl, by omega, by omega⟩
      · replace h5 : (z4 : Int) < 0 := by have q : ¬ ((z4 : Int) ≥ 0) := h5; omega
        refine e_Ok.inc (z := y3 + 1) rfl rfl (by omega) (by omega) ?_
        show e_Ok 1 elay ecode eI d 382 (16, [(3, (0, y3 + 1)), (0, (0, f)), (1, (0, v)), (2, (0, g)), (4, (4, y4))], [], w) _
        refine e_Ok.run (t' := (18, [(3, (0, y3 + 1)), (0, (0, f)), (1, (0, v)), (2, (0, g)), (4, (4, y4))], [(0, 2), (0, y3 + 1)], w)) 2 rfl ?_
        refine e_Ok.divn (fun z6 hz6 => ?_) rfl (by omega) (by omega)
        replace hz6 : z6 = (y3 + 1) / 2 := hz6
        have z6r : 0 ≤ z6 ∧ z6 ≤ 100001 := by omega
        refine e_Ok.run (t' := (23, [(6, (0, z6)), (3, (0, y3 + 1)), (0, (0, f)), (1, (0, v)), (2, (0, g)), (4, (4, y4))], [(0, g), (0, v)], w)) 3 rfl ?_
        refine e_Ok.divn (fun z7 hz7 => ?_) rfl (by omega) (by omega)
        replace hz7 : z7 = v / g := hz7
        refine e_Ok.run (t' := (26, [(7, (0, z7)), (6, (0, z6)), (3, (0, y3 + 1)), (0, (0, f)), (1, (0, v)), (2, (0, g)), (4, (4, y4))], [], w)) 1 rfl ?_
        have hu0 : 0 ≤ z7 := by rw [hz7]; exact Int.ediv_nonneg (by omega) (by omega)
        refine e_Ok.run (t' := (30, [(7, (0, z7)), (6, (0, z6)), (3, (0, y3 + 1)), (0, (0, f)), (1, (0, v)), (2, (0, g)), (4, (4, y4))], [(0, z7), (0, z6)], w)) 2 rfl ?_
        refine e_Ok.if2 rfl (fun h8 => ?_) (fun h8 => ?_)
        · replace h8 : (z6 : Int) ≥ z7 := h8
          refine e_Ok.run (t' := (42, [(8, (0, z7)), (7, (0, z7)), (6, (0, z6)), (3, (0, y3 + 1)), (0, (0, f)), (1, (0, v)), (2, (0, g)), (4, (4, y4))], [], w)) 2 rfl ?_
          have hb := fw_bd (g := g) (v := v) (h := z6) (e := z7) (u := z7) (by omega) (by omega) (by omega) hz7 (by omega)
          have hxx : (2 * z6 - 2 * z7) * v = (2 * z6 - 2 * z7) * v := by rw [show (2 * z6 - 2 * z7 : Int) = 2 * z6 - 2 * z7 by omega]
          refine e_Ok.run (t' := (47, [(8, (0, z7)), (7, (0, z7)), (6, (0, z6)), (3, (0, y3 + 1)), (0, (0, f)), (1, (0, v)), (2, (0, g)), (4, (4, y4))], [(4, z7), (4, g)], w)) 4 rfl ?_
          refine e_Ok.mulL (z := g * z7) rfl (by omega) (by omega) ?_
          refine e_Ok.run (t' := (51, [(8, (0, z7)), (7, (0, z7)), (6, (0, z6)), (3, (0, y3 + 1)), (0, (0, f)), (1, (0, v)), (2, (0, g)), (4, (4, y4))], [(0, 1), (0, z7), (4, g * z7)], w)) 2 rfl ?_
          refine e_Ok.add (z := z7 + 1) rfl (by omega) (by omega) ?_
          refine e_Ok.run (t' := (53, [(8, (0, z7)), (7, (0, z7)), (6, (0, z6)), (3, (0, y3 + 1)), (0, (0, f)), (1, (0, v)), (2, (0, g)), (4, (4, y4))], [(4, z7 + 1), (4, g * z7)], w)) 1 rfl ?_
          refine e_Ok.mulL (z := (g * z7) * (z7 + 1)) rfl (by omega) (by omega) ?_
          refine e_Ok.run (t' := (61, [(8, (0, z7)), (7, (0, z7)), (6, (0, z6)), (3, (0, y3 + 1)), (0, (0, f)), (1, (0, v)), (2, (0, g)), (4, (4, y4))], [(0, z7), (0, z6), (4, 2), (4, (g * z7) * (z7 + 1))], w)) 3 rfl ?_
          refine e_Ok.sub' (z := z6 - z7) rfl (by omega) (by omega) ?_
          refine e_Ok.run (t' := (63, [(8, (0, z7)), (7, (0, z7)), (6, (0, z6)), (3, (0, y3 + 1)), (0, (0, f)), (1, (0, v)), (2, (0, g)), (4, (4, y4))], [(4, z6 - z7), (4, 2), (4, (g * z7) * (z7 + 1))], w)) 1 rfl ?_
          refine e_Ok.mulL (z := 2 * z6 - 2 * z7) rfl (by omega) (by omega) ?_
          refine e_Ok.run (t' := (66, [(8, (0, z7)), (7, (0, z7)), (6, (0, z6)), (3, (0, y3 + 1)), (0, (0, f)), (1, (0, v)), (2, (0, g)), (4, (4, y4))], [(4, v), (4, 2 * z6 - 2 * z7), (4, (g * z7) * (z7 + 1))], w)) 2 rfl ?_
          refine e_Ok.mulL (z := (2 * z6 - 2 * z7) * v) rfl (by omega) (by omega) ?_
          refine e_Ok.addL (z := (g * z7) * (z7 + 1) + (2 * z6 - 2 * z7) * v) rfl (by omega) (by omega) ?_
          refine e_Ok.run (t' := (72, [(4, (4, (g * z7) * (z7 + 1) + (2 * z6 - 2 * z7) * v)), (8, (0, z7)), (7, (0, z7)), (6, (0, z6)), (3, (0, y3 + 1)), (0, (0, f)), (1, (0, v)), (2, (0, g))], [(0, 2), (0, y3 + 1)], w)) 3 rfl ?_
          refine e_Ok.remn (fun z14 hz14 => ?_) rfl (by omega) (by omega)
          replace hz14 : z14 = (y3 + 1) % 2 := hz14
          have z14r : 0 ≤ z14 ∧ z14 ≤ 1 := by omega
          refine e_Ok.run (t' := (74, [(4, (4, (g * z7) * (z7 + 1) + (2 * z6 - 2 * z7) * v)), (8, (0, z7)), (7, (0, z7)), (6, (0, z6)), (3, (0, y3 + 1)), (0, (0, f)), (1, (0, v)), (2, (0, g))], [(0, 1), (0, z14)], w)) 1 rfl ?_
          refine e_Ok.if2 rfl (fun h15 => ?_) (fun h15 => ?_)
          · replace h15 : (z14 : Int) ≠ 1 := h15
            refine e_Ok.run (t' := (5, [(4, (4, (g * z7) * (z7 + 1) + (2 * z6 - 2 * z7) * v)), (8, (0, z7)), (7, (0, z7)), (6, (0, z6)), (3, (0, y3 + 1)), (0, (0, f)), (1, (0, v)), (2, (0, g))], [], w)) 1 rfl ?_
            refine e_Ok.sub eAlk (e_sub_of rfl ?_) (ih2 (y3 + 1) ((g * z7) * (z7 + 1) + (2 * z6 - 2 * z7) * v) (by omega) (by omega))
            exact ⟨rfl, rfl, rfl, rfl, rfl, trivial⟩
          · replace h15 : (z14 : Int) = 1 := by have q : ¬ ((z14 : Int) ≠ 1) := h15; omega
            refine e_Ok.run (t' := (84, [(4, (4, (g * z7) * (z7 + 1) + (2 * z6 - 2 * z7) * v)), (8, (0, z7)), (7, (0, z7)), (6, (0, z6)), (3, (0, y3 + 1)), (0, (0, f)), (1, (0, v)), (2, (0, g))], [(0, 1), (0, z6), (4, g), (4, (g * z7) * (z7 + 1) + (2 * z6 - 2 * z7) * v)], w)) 5 rfl ?_
            refine e_Ok.add (z := z6 + 1) rfl (by omega) (by omega) ?_
            refine e_Ok.run (t' := (86, [(4, (4, (g * z7) * (z7 + 1) + (2 * z6 - 2 * z7) * v)), (8, (0, z7)), (7, (0, z7)), (6, (0, z6)), (3, (0, y3 + 1)), (0, (0, f)), (1, (0, v)), (2, (0, g))], [(4, z6 + 1), (4, g), (4, (g * z7) * (z7 + 1) + (2 * z6 - 2 * z7) * v)], w)) 1 rfl ?_
            refine e_Ok.mulL (z := g * (z6 + 1)) rfl (by omega) (by omega) ?_
            refine e_Ok.run (t' := (89, [(4, (4, (g * z7) * (z7 + 1) + (2 * z6 - 2 * z7) * v)), (8, (0, z7)), (7, (0, z7)), (6, (0, z6)), (3, (0, y3 + 1)), (0, (0, f)), (1, (0, v)), (2, (0, g))], [(4, v), (4, g * (z6 + 1)), (4, (g * z7) * (z7 + 1) + (2 * z6 - 2 * z7) * v)], w)) 2 rfl ?_
            refine e_Ok.lcmp rfl (fun z17 z17a z17b z17c => ?_)
            refine e_Ok.if1 rfl (fun h18 => ?_) (fun h18 => ?_)
            · replace h18 : (z17 : Int) ≥ 0 := h18
              refine e_Ok.run (t' := (106, [(4, (4, (g * z7) * (z7 + 1) + (2 * z6 - 2 * z7) * v)), (8, (0, z7)), (7, (0, z7)), (6, (0, z6)), (3, (0, y3 + 1)), (0, (0, f)), (1, (0, v)), (2, (0, g))], [(4, v), (4, (g * z7) * (z7 + 1) + (2 * z6 - 2 * z7) * v)], w)) 2 rfl ?_
              refine e_Ok.addL (z := (g * z7) * (z7 + 1) + (2 * z6 - 2 * z7) * v + v) rfl (by omega) (by omega) ?_
              refine e_Ok.run (t' := (5, [(4, (4, (g * z7) * (z7 + 1) + (2 * z6 - 2 * z7) * v + v)), (8, (0, z7)), (7, (0, z7)), (6, (0, z6)), (3, (0, y3 + 1)), (0, (0, f)), (1, (0, v)), (2, (0, g))], [], w)) 2 rfl ?_
              refine e_Ok.sub eAlk (e_sub_of rfl ?_) (ih2 (y3 + 1) ((g * z7) * (z7 + 1) + (2 * z6 - 2 * z7) * v + v) (by omega) (by omega))
              exact ⟨rfl, rfl, rfl, rfl, rfl, trivial⟩
            · replace h18 : (z17 : Int) < 0 := by have q : ¬ ((z17 : Int) ≥ 0) := h18; omega
              refine e_Ok.run (t' := (98, [(4, (4, (g * z7) * (z7 + 1) + (2 * z6 - 2 * z7) * v)), (8, (0, z7)), (7, (0, z7)), (6, (0, z6)), (3, (0, y3 + 1)), (0, (0, f)), (1, (0, v)), (2, (0, g))], [(0, 1), (0, z6), (4, g), (4, (g * z7) * (z7 + 1) + (2 * z6 - 2 * z7) * v)], w)) 4 rfl ?_
              refine e_Ok.add (z := z6 + 1) rfl (by omega) (by omega) ?_
              refine e_Ok.run (t' := (100, [(4, (4, (g * z7) * (z7 + 1) + (2 * z6 - 2 * z7) * v)), (8, (0, z7)), (7, (0, z7)), (6, (0, z6)), (3, (0, y3 + 1)), (0, (0, f)), (1, (0, v)), (2, (0, g))], [(4, z6 + 1), (4, g), (4, (g * z7) * (z7 + 1) + (2 * z6 - 2 * z7) * v)], w)) 1 rfl ?_
              refine e_Ok.mulL (z := g * (z6 + 1)) rfl (by omega) (by omega) ?_
              refine e_Ok.run (t' := (106, [(4, (4, (g * z7) * (z7 + 1) + (2 * z6 - 2 * z7) * v)), (8, (0, z7)), (7, (0, z7)), (6, (0, z6)), (3, (0, y3 + 1)), (0, (0, f)), (1, (0, v)), (2, (0, g))], [(4, g * (z6 + 1)), (4, (g * z7) * (z7 + 1) + (2 * z6 - 2 * z7) * v)], w)) 1 rfl ?_
              refine e_Ok.addL (z := (g * z7) * (z7 + 1) + (2 * z6 - 2 * z7) * v + g * (z6 + 1)) rfl (by omega) (by omega) ?_
              refine e_Ok.run (t' := (5, [(4, (4, (g * z7) * (z7 + 1) + (2 * z6 - 2 * z7) * v + g * (z6 + 1))), (8, (0, z7)), (7, (0, z7)), (6, (0, z6)), (3, (0, y3 + 1)), (0, (0, f)), (1, (0, v)), (2, (0, g))], [], w)) 2 rfl ?_
              refine e_Ok.sub eAlk (e_sub_of rfl ?_) (ih2 (y3 + 1) ((g * z7) * (z7 + 1) + (2 * z6 - 2 * z7) * v + g * (z6 + 1)) (by omega) (by omega))
              exact ⟨rfl, rfl, rfl, rfl, rfl, trivial⟩
        · replace h8 : (z6 : Int) < z7 := by have q : ¬ ((z6 : Int) ≥ z7) := h8; omega
          refine e_Ok.run (t' := (42, [(8, (0, z6)), (7, (0, z7)), (6, (0, z6)), (3, (0, y3 + 1)), (0, (0, f)), (1, (0, v)), (2, (0, g)), (4, (4, y4))], [], w)) 3 rfl ?_
          have hb := fw_bd (g := g) (v := v) (h := z6) (e := z6) (u := z7) (by omega) (by omega) (by omega) hz7 (by omega)
          have hxx : (0) * v = (2 * z6 - 2 * z6) * v := by rw [show (0 : Int) = 2 * z6 - 2 * z6 by omega]
          refine e_Ok.run (t' := (47, [(8, (0, z6)), (7, (0, z7)), (6, (0, z6)), (3, (0, y3 + 1)), (0, (0, f)), (1, (0, v)), (2, (0, g)), (4, (4, y4))], [(4, z6), (4, g)], w)) 4 rfl ?_
          refine e_Ok.mulL (z := g * z6) rfl (by omega) (by omega) ?_
          refine e_Ok.run (t' := (51, [(8, (0, z6)), (7, (0, z7)), (6, (0, z6)), (3, (0, y3 + 1)), (0, (0, f)), (1, (0, v)), (2, (0, g)), (4, (4, y4))], [(0, 1), (0, z6), (4, g * z6)], w)) 2 rfl ?_
          refine e_Ok.add (z := z6 + 1) rfl (by omega) (by omega) ?_
          refine e_Ok.run (t' := (53, [(8, (0, z6)), (7, (0, z7)), (6, (0, z6)), (3, (0, y3 + 1)), (0, (0, f)), (1, (0, v)), (2, (0, g)), (4, (4, y4))], [(4, z6 + 1), (4, g * z6)], w)) 1 rfl ?_
          refine e_Ok.mulL (z := (g * z6) * (z6 + 1)) rfl (by omega) (by omega) ?_
          refine e_Ok.run (t' := (61, [(8, (0, z6)), (7, (0, z7)), (6, (0, z6)), (3, (0, y3 + 1)), (0, (0, f)), (1, (0, v)), (2, (0, g)), (4, (4, y4))], [(0, z6), (0, z6), (4, 2), (4, (g * z6) * (z6 + 1))], w)) 3 rfl ?_
          refine e_Ok.sub' (z := 0) rfl (by omega) (by omega) ?_
          refine e_Ok.run (t' := (63, [(8, (0, z6)), (7, (0, z7)), (6, (0, z6)), (3, (0, y3 + 1)), (0, (0, f)), (1, (0, v)), (2, (0, g)), (4, (4, y4))], [(4, 0), (4, 2), (4, (g * z6) * (z6 + 1))], w)) 1 rfl ?_
          refine e_Ok.mulL (z := 0) rfl (by omega) (by omega) ?_
          refine e_Ok.run (t' := (66, [(8, (0, z6)), (7, (0, z7)), (6, (0, z6)), (3, (0, y3 + 1)), (0, (0, f)), (1, (0, v)), (2, (0, g)), (4, (4, y4))], [(4, v), (4, 0), (4, (g * z6) * (z6 + 1))], w)) 2 rfl ?_
          refine e_Ok.mulL (z := 0) rfl (by omega) (by omega) ?_
          refine e_Ok.addL (z := (g * z6) * (z6 + 1)) rfl (by omega) (by omega) ?_
          refine e_Ok.run (t' := (72, [(4, (4, (g * z6) * (z6 + 1))), (8, (0, z6)), (7, (0, z7)), (6, (0, z6)), (3, (0, y3 + 1)), (0, (0, f)), (1, (0, v)), (2, (0, g))], [(0, 2), (0, y3 + 1)], w)) 3 rfl ?_
          refine e_Ok.remn (fun z27 hz27 => ?_) rfl (by omega) (by omega)
          replace hz27 : z27 = (y3 + 1) % 2 := hz27
          have z27r : 0 ≤ z27 ∧ z27 ≤ 1 := by omega
          refine e_Ok.run (t' := (74, [(4, (4, (g * z6) * (z6 + 1))), (8, (0, z6)), (7, (0, z7)), (6, (0, z6)), (3, (0, y3 + 1)), (0, (0, f)), (1, (0, v)), (2, (0, g))], [(0, 1), (0, z27)], w)) 1 rfl ?_
          refine e_Ok.if2 rfl (fun h28 => ?_) (fun h28 => ?_)
          · replace h28 : (z27 : Int) ≠ 1 := h28
            refine e_Ok.run (t' := (5, [(4, (4, (g * z6) * (z6 + 1))), (8, (0, z6)), (7, (0, z7)), (6, (0, z6)), (3, (0, y3 + 1)), (0, (0, f)), (1, (0, v)), (2, (0, g))], [], w)) 1 rfl ?_
            refine e_Ok.sub eAlk (e_sub_of rfl ?_) (ih2 (y3 + 1) ((g * z6) * (z6 + 1)) (by omega) (by omega))
            exact ⟨rfl, rfl, rfl, rfl, rfl, trivial⟩
          · replace h28 : (z27 : Int) = 1 := by have q : ¬ ((z27 : Int) ≠ 1) := h28; omega
            refine e_Ok.run (t' := (84, [(4, (4, (g * z6) * (z6 + 1))), (8, (0, z6)), (7, (0, z7)), (6, (0, z6)), (3, (0, y3 + 1)), (0, (0, f)), (1, (0, v)), (2, (0, g))], [(0, 1), (0, z6), (4, g), (4, (g * z6) * (z6 + 1))], w)) 5 rfl ?_
            refine e_Ok.add (z := z6 + 1) rfl (by omega) (by omega) ?_
            refine e_Ok.run (t' := (86, [(4, (4, (g * z6) * (z6 + 1))), (8, (0, z6)), (7, (0, z7)), (6, (0, z6)), (3, (0, y3 + 1)), (0, (0, f)), (1, (0, v)), (2, (0, g))], [(4, z6 + 1), (4, g), (4, (g * z6) * (z6 + 1))], w)) 1 rfl ?_
            refine e_Ok.mulL (z := g * (z6 + 1)) rfl (by omega) (by omega) ?_
            refine e_Ok.run (t' := (89, [(4, (4, (g * z6) * (z6 + 1))), (8, (0, z6)), (7, (0, z7)), (6, (0, z6)), (3, (0, y3 + 1)), (0, (0, f)), (1, (0, v)), (2, (0, g))], [(4, v), (4, g * (z6 + 1)), (4, (g * z6) * (z6 + 1))], w)) 2 rfl ?_
            refine e_Ok.lcmp rfl (fun z30 z30a z30b z30c => ?_)
            refine e_Ok.if1 rfl (fun h31 => ?_) (fun h31 => ?_)
            · replace h31 : (z30 : Int) ≥ 0 := h31
              refine e_Ok.run (t' := (106, [(4, (4, (g * z6) * (z6 + 1))), (8, (0, z6)), (7, (0, z7)), (6, (0, z6)), (3, (0, y3 + 1)), (0, (0, f)), (1, (0, v)), (2, (0, g))], [(4, v), (4, (g * z6) * (z6 + 1))], w)) 2 rfl ?_
              refine e_Ok.addL (z := (g * z6) * (z6 + 1) + v) rfl (by omega) (by omega) ?_
              refine e_Ok.run (t' := (5, [(4, (4, (g * z6) * (z6 + 1) + v)), (8, (0, z6)), (7, (0, z7)), (6, (0, z6)), (3, (0, y3 + 1)), (0, (0, f)), (1, (0, v)), (2, (0, g))], [], w)) 2 rfl ?_
              refine e_Ok.sub eAlk (e_sub_of rfl ?_) (ih2 (y3 + 1) ((g * z6) * (z6 + 1) + v) (by omega) (by omega))
              exact ⟨rfl, rfl, rfl, rfl, rfl, trivial⟩
            · replace h31 : (z30 : Int) < 0 := by have q : ¬ ((z30 : Int) ≥ 0) := h31; omega
              refine e_Ok.run (t' := (98, [(4, (4, (g * z6) * (z6 + 1))), (8, (0, z6)), (7, (0, z7)), (6, (0, z6)), (3, (0, y3 + 1)), (0, (0, f)), (1, (0, v)), (2, (0, g))], [(0, 1), (0, z6), (4, g), (4, (g * z6) * (z6 + 1))], w)) 4 rfl ?_
              refine e_Ok.add (z := z6 + 1) rfl (by omega) (by omega) ?_
              refine e_Ok.run (t' := (100, [(4, (4, (g * z6) * (z6 + 1))), (8, (0, z6)), (7, (0, z7)), (6, (0, z6)), (3, (0, y3 + 1)), (0, (0, f)), (1, (0, v)), (2, (0, g))], [(4, z6 + 1), (4, g), (4, (g * z6) * (z6 + 1))], w)) 1 rfl ?_
              refine e_Ok.mulL (z := g * (z6 + 1)) rfl (by omega) (by omega) ?_
              refine e_Ok.run (t' := (106, [(4, (4, (g * z6) * (z6 + 1))), (8, (0, z6)), (7, (0, z7)), (6, (0, z6)), (3, (0, y3 + 1)), (0, (0, f)), (1, (0, v)), (2, (0, g))], [(4, g * (z6 + 1)), (4, (g * z6) * (z6 + 1))], w)) 1 rfl ?_
              refine e_Ok.addL (z := (g * z6) * (z6 + 1) + g * (z6 + 1)) rfl (by omega) (by omega) ?_
              refine e_Ok.run (t' := (5, [(4, (4, (g * z6) * (z6 + 1) + g * (z6 + 1))), (8, (0, z6)), (7, (0, z7)), (6, (0, z6)), (3, (0, y3 + 1)), (0, (0, f)), (1, (0, v)), (2, (0, g))], [], w)) 2 rfl ?_
              refine e_Ok.sub eAlk (e_sub_of rfl ?_) (ih2 (y3 + 1) ((g * z6) * (z6 + 1) + g * (z6 + 1)) (by omega) (by omega))
              exact ⟨rfl, rfl, rfl, rfl, rfl, trivial⟩
  refine e_Ok.sub eAlk (e_sub_of rfl ?_) (hL1 (f + 1 + 1 : Int).toNat 0 0 (by omega) (by omega))
  exact ⟨rfl, rfl, rfl, rfl, rfl, trivial⟩
end
