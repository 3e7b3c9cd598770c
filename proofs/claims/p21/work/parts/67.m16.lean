noncomputable section
def mCf (w : eW) : Prop := ∀ a j, 0 ≤ a → a ≤ 3 → 0 ≤ j → j < w 286 a → 1 ≤ w 290 (6 * a + j) ∧ 1 ≤ w 291 (6 * a + j)
def mBe (a c k : Int) : Prop := c = 276 ∧ (k = 36 * a + 16 ∨ k = 36 * a + 24 ∨ k = 36 * a + 25 ∨ k = 36 * a + 27)
theorem c_382 {d : Nat} {w : eW} {f v g : Int} (hf : 0 ≤ f ∧ f ≤ 200000) (hv : 1 ≤ v ∧ v ≤ 2000) (hg : 1 ≤ g ∧ g ≤ 2000) : e_Ok 20 elay ecode eI d 382 (0, [(0, (0, f)), (1, (0, v)), (2, (0, g))], [], w) (fun r w' => ∃ z : Int, r = [(0, z)] ∧ w = w' ∧ 0 ≤ z ∧ z ≤ 200001) := by
  refine e_Ok.run (t' := (5, [(4, (4, 0)), (3, (0, 0)), (0, (0, f)), (1, (0, v)), (2, (0, g))], [], w)) 4 rfl ?_
  have hL1 : ∀ (nn : Nat) (y3 : Int) (y4 : Int), 0 ≤ y3 ∧ y3 ≤ y4 ∧ y3 ≤ f + 1 ∧ y4 ≤ 2000000000 → f + 1 - y3 < nn → e_Ok 20 elay ecode eI d 382 (5, [(0, (0, f)), (1, (0, v)), (2, (0, g)), (3, (0, y3)), (4, (4, y4))], [], w) (fun r w' => ∃ z : Int, r = [(0, z)] ∧ w = w' ∧ 0 ≤ z ∧ z ≤ 200001) := by
    intro nn
    induction nn with
    | zero => intro y3 y4 hj hm; obtain j3 := hj; exfalso; omega
    | succ nn ih2 =>
      intro y3 y4 hj hm
      obtain j3 := hj
      refine e_Ok.run (t' := (9, [(0, (0, f)), (1, (0, v)), (2, (0, g)), (3, (0, y3)), (4, (4, y4))], [(4, f), (4, y4)], w)) 3 rfl ?_
      refine e_Ok.lcmp rfl (fun z4 z4a z4b z4c => ?_)
      refine e_Ok.if1 rfl (fun h5 => ?_) (fun h5 => ?_)
      · replace h5 : (z4 : Int) ≥ 0 := h5
        refine e_Ok.run (t' := (113, [(0, (0, f)), (1, (0, v)), (2, (0, g)), (3, (0, y3)), (4, (4, y4))], [(0, y3)], w)) 1 rfl ?_
        refine e_Ok.rets rfl rfl ?_
        exact ⟨_, rfl, rfl, by omega, by omega⟩
      · replace h5 : (z4 : Int) < 0 := by have q : ¬ ((z4 : Int) ≥ 0) := h5; omega
        refine e_Ok.inc (z := y3 + 1) rfl rfl (by omega) (by omega) ?_
        show e_Ok 20 elay ecode eI d 382 (16, [(3, (0, y3 + 1)), (0, (0, f)), (1, (0, v)), (2, (0, g)), (4, (4, y4))], [], w) _
        refine e_Ok.run (t' := (18, [(3, (0, y3 + 1)), (0, (0, f)), (1, (0, v)), (2, (0, g)), (4, (4, y4))], [(0, 2), (0, y3 + 1)], w)) 2 rfl ?_
        refine e_Ok.divn (fun z6 hz6 => ?_) rfl (by omega) (by omega)
        replace hz6 : z6 = (y3 + 1) / 2 := hz6
        have z6r : 0 ≤ z6 ∧ z6 ≤ 100001 := by omega
        refine e_Ok.run (t' := (23, [(6, (0, z6)), (3, (0, y3 + 1)), (0, (0, f)), (1, (0, v)), (2, (0, g)), (4, (4, y4))], [(0, g), (0, v)], w)) 3 rfl ?_
        refine e_Ok.divn (fun z7 hz7 => ?_) rfl (by omega) (by omega)
        replace hz7 : z7 = v / g := hz7
        refine e_Ok.run (t' := (26, [(7, (0, z7)), (6, (0, z6)), (3, (0, y3 + 1)), (0, (0, f)), (1, (0, v)), (2, (0, g)), (4, (4, y4))], [], w)) 1 rfl ?_
        have hu0 : 0 ≤ z7 := by rw [hz7]; exact Int.ediv_nonneg (by omega) (by omega)
        refine e_Ok.run (t' := (30, [(7, (0, z7)), (6, (0, z6)), (3, (0, y3 + 1)), (0, (0, f)), (1, (0, v)), (2, (0, g)), (4, (4, y4))], [(0, z7), (0, z6)], w)) 2 rfl ?_
        refine e_Ok.if2 rfl (fun h8 => ?_) (fun h8 => ?_)
        · replace h8 : (z6 : Int) ≥ z7 := h8
          refine e_Ok.run (t' := (42, [(8, (0, z7)), (7, (0, z7)), (6, (0, z6)), (3, (0, y3 + 1)), (0, (0, f)), (1, (0, v)), (2, (0, g)), (4, (4, y4))], [], w)) 2 rfl ?_
          have hb := fw_bd (g := g) (v := v) (h := z6) (e := z7) (u := z7) (by omega) (by omega) (by omega) hz7 (by omega)
          have hxx : (2 * z6 - 2 * z7) * v = (2 * z6 - 2 * z7) * v := by rw [show (2 * z6 - 2 * z7 : Int) = 2 * z6 - 2 * z7 by omega]
          refine e_Ok.run (t' := (47, [(8, (0, z7)), (7, (0, z7)), (6, (0, z6)), (3, (0, y3 + 1)), (0, (0, f)), (1, (0, v)), (2, (0, g)), (4, (4, y4))], [(4, z7), (4, g)], w)) 4 rfl ?_
          refine e_Ok.mulL (z := g * z7) rfl (by omega) (by omega) ?_
          refine e_Ok.run (t' := (51, [(8, (0, z7)), (7, (0, z7)), (6, (0, z6)), (3, (0, y3 + 1)), (0, (0, f)), (1, (0, v)), (2, (0, g)), (4, (4, y4))], [(0, 1), (0, z7), (4, g * z7)], w)) 2 rfl ?_
          refine e_Ok.add (z := z7 + 1) rfl (by omega) (by omega) ?_
          refine e_Ok.run (t' := (53, [(8, (0, z7)), (7, (0, z7)), (6, (0, z6)), (3, (0, y3 + 1)), (0, (0, f)), (1, (0, v)), (2, (0, g)), (4, (4, y4))], [(4, z7 + 1), (4, g * z7)], w)) 1 rfl ?_
          refine e_Ok.mulL (z := (g * z7) * (z7 + 1)) rfl (by omega) (by omega) ?_
          refine e_Ok.run (t' := (61, [(8, (0, z7)), (7, (0, z7)), (6, (0, z6)), (3, (0, y3 + 1)), (0, (0, f)), (1, (0, v)), (2, (0, g)), (4, (4, y4))], [(0, z7), (0, z6), (4, 2), (4, (g * z7) * (z7 + 1))], w)) 3 rfl ?_
          refine e_Ok.sub' (z := z6 - z7) rfl (by omega) (by omega) ?_
          refine e_Ok.run (t' := (63, [(8, (0, z7)), (7, (0, z7)), (6, (0, z6)), (3, (0, y3 + 1)), (0, (0, f)), (1, (0, v)), (2, (0, g)), (4, (4, y4))], [(4, z6 - z7), (4, 2), (4, (g * z7) * (z7 + 1))], w)) 1 rfl ?_
          refine e_Ok.mulL (z := 2 * z6 - 2 * z7) rfl (by omega) (by omega) ?_
          refine e_Ok.run (t' := (66, [(8, (0, z7)), (7, (0, z7)), (6, (0, z6)), (3, (0, y3 + 1)), (0, (0, f)), (1, (0, v)), (2, (0, g)), (4, (4, y4))], [(4, v), (4, 2 * z6 - 2 * z7), (4, (g * z7) * (z7 + 1))], w)) 2 rfl ?_
          refine e_Ok.mulL (z := (2 * z6 - 2 * z7) * v) rfl (by omega) (by omega) ?_
          refine e_Ok.addL (z := (g * z7) * (z7 + 1) + (2 * z6 - 2 * z7) * v) rfl (by omega) (by omega) ?_
          refine e_Ok.run (t' := (72, [(4, (4, (g * z7) * (z7 + 1) + (2 * z6 - 2 * z7) * v)), (8, (0, z7)), (7, (0, z7)), (6, (0, z6)), (3, (0, y3 + 1)), (0, (0, f)), (1, (0, v)), (2, (0, g))], [(0, 2), (0, y3 + 1)], w)) 3 rfl ?_
          refine e_Ok.remn (fun z14 hz14 => ?_) rfl (by omega) (by omega)
          replace hz14 : z14 = (y3 + 1) % 2 := hz14
          have z14r : 0 ≤ z14 ∧ z14 ≤ 1 := by omega
          refine e_Ok.run (t' := (74, [(4, (4, (g * z7) * (z7 + 1) + (2 * z6 - 2 * z7) * v)), (8, (0, z7)), (7, (0, z7)), (6, (0, z6)), (3, (0, y3 + 1)), (0, (0, f)), (1, (0, v)), (2, (0, g))], [(0, 1), (0, z14)], w)) 1 rfl ?_
          refine e_Ok.if2 rfl (fun h15 => ?_) (fun h15 => ?_)
          · replace h15 : (z14 : Int) ≠ 1 := h15
            refine e_Ok.run (t' := (5, [(4, (4, (g * z7) * (z7 + 1) + (2 * z6 - 2 * z7) * v)), (8, (0, z7)), (7, (0, z7)), (6, (0, z6)), (3, (0, y3 + 1)), (0, (0, f)), (1, (0, v)), (2, (0, g))], [], w)) 1 rfl ?_
            refine e_Ok.sub eAlk (e_sub_of rfl ?_) (ih2 (y3 + 1) ((g * z7) * (z7 + 1) + (2 * z6 - 2 * z7) * v) (by omega) (by omega))
            exact ⟨rfl, rfl, rfl, rfl, rfl, trivial⟩
          · replace h15 : (z14 : Int) = 1 := by have q : ¬ ((z14 : Int) ≠ 1) := h15; omega
            refine e_Ok.run (t' := (84, [(4, (4, (g * z7) * (z7 + 1) + (2 * z6 - 2 * z7) * v)), (8, (0, z7)), (7, (0, z7)), (6, (0, z6)), (3, (0, y3 + 1)), (0, (0, f)), (1, (0, v)), (2, (0, g))], [(0, 1), (0, z6), (4, g), (4, (g * z7) * (z7 + 1) + (2 * z6 - 2 * z7) * v)], w)) 5 rfl ?_
            refine e_Ok.add (z := z6 + 1) rfl (by omega) (by omega) ?_
            refine e_Ok.run (t' := (86, [(4, (4, (g * z7) * (z7 + 1) + (2 * z6 - 2 * z7) * v)), (8, (0, z7)), (7, (0, z7)), (6, (0, z6)), (3, (0, y3 + 1)), (0, (0, f)), (1, (0, v)), (2, (0, g))], [(4, z6 + 1), (4, g), (4, (g * z7) * (z7 + 1) + (2 * z6 - 2 * z7) * v)], w)) 1 rfl ?_
            refine e_Ok.mulL (z := g * (z6 + 1)) rfl (by omega) (by omega) ?_
            refine e_Ok.run (t' := (89, [(4, (4, (g * z7) * (z7 + 1) + (2 * z6 - 2 * z7) * v)), (8, (0, z7)), (7, (0, z7)), (6, (0, z6)), (3, (0, y3 + 1)), (0, (0, f)), (1, (0, v)), (2, (0, g))], [(4, v), (4, g * (z6 + 1)), (4, (g * z7) * (z7 + 1) + (2 * z6 - 2 * z7) * v)], w)) 2 rfl ?_
            refine e_Ok.lcmp rfl (fun z17 z17a z17b z17c => ?_)
            refine e_Ok.if1 rfl (fun h18 => ?_) (fun h18 => ?_)
            · replace h18 : (z17 : Int) ≥ 0 := h18
              refine e_Ok.run (t' := (106, [(4, (4, (g * z7) * (z7 + 1) + (2 * z6 - 2 * z7) * v)), (8, (0, z7)), (7, (0, z7)), (6, (0, z6)), (3, (0, y3 + 1)), (0, (0, f)), (1, (0, v)), (2, (0, g))], [(4, v), (4, (g * z7) * (z7 + 1) + (2 * z6 - 2 * z7) * v)], w)) 2 rfl ?_
              refine e_Ok.addL (z := (g * z7) * (z7 + 1) + (2 * z6 - 2 * z7) * v + v) rfl (by omega) (by omega) ?_
              refine e_Ok.run (t' := (5, [(4, (4, (g * z7) * (z7 + 1) + (2 * z6 - 2 * z7) * v + v)), (8, (0, z7)), (7, (0, z7)), (6, (0, z6)), (3, (0, y3 + 1)), (0, (0, f)), (1, (0, v)), (2, (0, g))], [], w)) 2 rfl ?_
              refine e_Ok.sub eAlk (e_sub_of rfl ?_) (ih2 (y3 + 1) ((g * z7) * (z7 + 1) + (2 * z6 - 2 * z7) * v + v) (by omega) (by omega))
              exact ⟨rfl, rfl, rfl, rfl, rfl, trivial⟩
            · replace h18 : (z17 : Int) < 0 := by have q : ¬ ((z17 : Int) ≥ 0) := h18; omega
              refine e_Ok.run (t' := (98, [(4, (4, (g * z7) * (z7 + 1) + (2 * z6 - 2 * z7) * v)), (8, (0, z7)), (7, (0, z7)), (6, (0, z6)), (3, (0, y3 + 1)), (0, (0, f)), (1, (0, v)), (2, (0, g))], [(0, 1), (0, z6), (4, g), (4, (g * z7) * (z7 + 1) + (2 * z6 - 2 * z7) * v)], w)) 4 rfl ?_
              refine e_Ok.add (z := z6 + 1) rfl (by omega) (by omega) ?_
              refine e_Ok.run (t' := (100, [(4, (4, (g * z7) * (z7 + 1) + (2 * z6 - 2 * z7) * v)), (8, (0, z7)), (7, (0, z7)), (6, (0, z6)), (3, (0, y3 + 1)), (0, (0, f)), (1, (0, v)), (2, (0, g))], [(4, z6 + 1), (4, g), (4, (g * z7) * (z7 + 1) + (2 * z6 - 2 * z7) * v)], w)) 1 rfl ?_
              refine e_Ok.mulL (z := g * (z6 + 1)) rfl (by omega) (by omega) ?_
              refine e_Ok.run (t' := (106, [(4, (4, (g * z7) * (z7 + 1) + (2 * z6 - 2 * z7) * v)), (8, (0, z7)), (7, (0, z7)), (6, (0, z6)), (3, (0, y3 + 1)), (0, (0, f)), (1, (0, v)), (2, (0, g))], [(4, g * (z6 + 1)), (4, (g * z7) * (z7 + 1) + (2 * z6 - 2 * z7) * v)], w)) 1 rfl ?_
              refine e_Ok.addL (z := (g * z7) * (z7 + 1) + (2 * z6 - 2 * z7) * v + g * (z6 + 1)) rfl (by omega) (by omega) ?_
              refine e_Ok.run (t' := (5, [(4, (4, (g * z7) * (z7 + 1) + (2 * z6 - 2 * z7) * v + g * (z6 + 1))), (8, (0, z7)), (7, (0, z7)), (6, (0, z6)), (3, (0, y3 + 1)), (0, (0, f)), (1, (0, v)), (2, (0, g))], [], w)) 2 rfl ?_
              refine e_Ok.sub eAlk (e_sub_of rfl ?_) (ih2 (y3 + 1) ((g * z7) * (z7 + 1) + (2 * z6 - 2 * z7) * v + g * (z6 + 1)) (by omega) (by omega))
              exact ⟨rfl, rfl, rfl, rfl, rfl, trivial⟩
        · replace h8 : (z6 : Int) < z7 := by have q : ¬ ((z6 : Int) ≥ z7) := h8; omega
          refine e_Ok.run (t' := (42, [(8, (0, z6)), (7, (0, z7)), (6, (0, z6)), (3, (0, y3 + 1)), (0, (0, f)), (1, (0, v)), (2, (0, g)), (4, (4, y4))], [], w)) 3 rfl ?_
          have hb := fw_bd (g := g) (v := v) (h := z6) (e := z6) (u := z7) (by omega) (by omega) (by omega) hz7 (by omega)
          have hxx : (0) * v = (2 * z6 - 2 * z6) * v := by rw [show (0 : Int) = 2 * z6 - 2 * z6 by omega]
          refine e_Ok.run (t' := (47, [(8, (0, z6)), (7, (0, z7)), (6, (0, z6)), (3, (0, y3 + 1)), (0, (0, f)), (1, (0, v)), (2, (0, g)), (4, (4, y4))], [(4, z6), (4, g)], w)) 4 rfl ?_
          refine e_Ok.mulL (z := g * z6) rfl (by omega) (by omega) ?_
          refine e_Ok.run (t' := (51, [(8, (0, z6)), (7, (0, z7)), (6, (0, z6)), (3, (0, y3 + 1)), (0, (0, f)), (1, (0, v)), (2, (0, g)), (4, (4, y4))], [(0, 1), (0, z6), (4, g * z6)], w)) 2 rfl ?_
          refine e_Ok.add (z := z6 + 1) rfl (by omega) (by omega) ?_
          refine e_Ok.run (t' := (53, [(8, (0, z6)), (7, (0, z7)), (6, (0, z6)), (3, (0, y3 + 1)), (0, (0, f)), (1, (0, v)), (2, (0, g)), (4, (4, y4))], [(4, z6 + 1), (4, g * z6)], w)) 1 rfl ?_
          refine e_Ok.mulL (z := (g * z6) * (z6 + 1)) rfl (by omega) (by omega) ?_
          refine e_Ok.run (t' := (61, [(8, (0, z6)), (7, (0, z7)), (6, (0, z6)), (3, (0, y3 + 1)), (0, (0, f)), (1, (0, v)), (2, (0, g)), (4, (4, y4))], [(0, z6), (0, z6), (4, 2), (4, (g * z6) * (z6 + 1))], w)) 3 rfl ?_
          refine e_Ok.sub' (z := 0) rfl (by omega) (by omega) ?_
          refine e_Ok.run (t' := (63, [(8, (0, z6)), (7, (0, z7)), (6, (0, z6)), (3, (0, y3 + 1)), (0, (0, f)), (1, (0, v)), (2, (0, g)), (4, (4, y4))], [(4, 0), (4, 2), (4, (g * z6) * (z6 + 1))], w)) 1 rfl ?_
          refine e_Ok.mulL (z := 0) rfl (by omega) (by omega) ?_
          refine e_Ok.run (t' := (66, [(8, (0, z6)), (7, (0, z7)), (6, (0, z6)), (3, (0, y3 + 1)), (0, (0, f)), (1, (0, v)), (2, (0, g)), (4, (4, y4))], [(4, v), (4, 0), (4, (g * z6) * (z6 + 1))], w)) 2 rfl ?_
          refine e_Ok.mulL (z := 0) rfl (by omega) (by omega) ?_
          refine e_Ok.addL (z := (g * z6) * (z6 + 1)) rfl (by omega) (by omega) ?_
          refine e_Ok.run (t' := (72, [(4, (4, (g * z6) * (z6 + 1))), (8, (0, z6)), (7, (0, z7)), (6, (0, z6)), (3, (0, y3 + 1)), (0, (0, f)), (1, (0, v)), (2, (0, g))], [(0, 2), (0, y3 + 1)], w)) 3 rfl ?_
          refine e_Ok.remn (fun z27 hz27 => ?_) rfl (by omega) (by omega)
          replace hz27 : z27 = (y3 + 1) % 2 := hz27
          have z27r : 0 ≤ z27 ∧ z27 ≤ 1 := by omega
          refine e_Ok.run (t' := (74, [(4, (4, (g * z6) * (z6 + 1))), (8, (0, z6)), (7, (0, z7)), (6, (0, z6)), (3, (0, y3 + 1)), (0, (0, f)), (1, (0, v)), (2, (0, g))], [(0, 1), (0, z27)], w)) 1 rfl ?_
          refine e_Ok.if2 rfl (fun h28 => ?_) (fun h28 => ?_)
          · replace h28 : (z27 : Int) ≠ 1 := h28
            refine e_Ok.run (t' := (5, [(4, (4, (g * z6) * (z6 + 1))), (8, (0, z6)), (7, (0, z7)), (6, (0, z6)), (3, (0, y3 + 1)), (0, (0, f)), (1, (0, v)), (2, (0, g))], [], w)) 1 rfl ?_
            refine e_Ok.sub eAlk (e_sub_of rfl ?_) (ih2 (y3 + 1) ((g * z6) * (z6 + 1)) (by omega) (by omega))
            exact ⟨rfl, rfl, rfl, rfl, rfl, trivial⟩
          · replace h28 : (z27 : Int) = 1 := by have q : ¬ ((z27 : Int) ≠ 1) := h28; omega
            refine e_Ok.run (t' := (84, [(4, (4, (g * z6) * (z6 + 1))), (8, (0, z6)), (7, (0, z7)), (6, (0, z6)), (3, (0, y3 + 1)), (0, (0, f)), (1, (0, v)), (2, (0, g))], [(0, 1), (0, z6), (4, g), (4, (g * z6) * (z6 + 1))], w)) 5 rfl ?_
            refine e_Ok.add (z := z6 + 1) rfl (by omega) (by omega) ?_
            refine e_Ok.run (t' := (86, [(4, (4, (g * z6) * (z6 + 1))), (8, (0, z6)), (7, (0, z7)), (6, (0, z6)), (3, (0, y3 + 1)), (0, (0, f)), (1, (0, v)), (2, (0, g))], [(4, z6 + 1), (4, g), (4, (g * z6) * (z6 + 1))], w)) 1 rfl ?_
            refine e_Ok.mulL (z := g * (z6 + 1)) rfl (by omega) (by omega) ?_
            refine e_Ok.run (t' := (89, [(4, (4, (g * z6) * (z6 + 1))), (8, (0, z6)), (7, (0, z7)), (6, (0, z6)), (3, (0, y3 + 1)), (0, (0, f)), (1, (0, v)), (2, (0, g))], [(4, v), (4, g * (z6 + 1)), (4, (g * z6) * (z6 + 1))], w)) 2 rfl ?_
            refine e_Ok.lcmp rfl (fun z30 z30a z30b z30c => ?_)
            refine e_Ok.if1 rfl (fun h31 => ?_) (fun h31 => ?_)
            · replace h31 : (z30 : Int) ≥ 0 := h31
              refine e_Ok.run (t' := (106, [(4, (4, (g * z6) * (z6 + 1))), (8, (0, z6)), (7, (0, z7)), (6, (0, z6)), (3, (0, y3 + 1)), (0, (0, f)), (1, (0, v)), (2, (0, g))], [(4, v), (4, (g * z6) * (z6 + 1))], w)) 2 rfl ?_
              refine e_Ok.addL (z := (g * z6) * (z6 + 1) + v) rfl (by omega) (by omega) ?_
              refine e_Ok.run (t' := (5, [(4, (4, (g * z6) * (z6 + 1) + v)), (8, (0, z6)), (7, (0, z7)), (6, (0, z6)), (3, (0, y3 + 1)), (0, (0, f)), (1, (0, v)), (2, (0, g))], [], w)) 2 rfl ?_
              refine e_Ok.sub eAlk (e_sub_of rfl ?_) (ih2 (y3 + 1) ((g * z6) * (z6 + 1) + v) (by omega) (by omega))
              exact ⟨rfl, rfl, rfl, rfl, rfl, trivial⟩
            · replace h31 : (z30 : Int) < 0 := by have q : ¬ ((z30 : Int) ≥ 0) := h31; omega
              refine e_Ok.run (t' := (98, [(4, (4, (g * z6) * (z6 + 1))), (8, (0, z6)), (7, (0, z7)), (6, (0, z6)), (3, (0, y3 + 1)), (0, (0, f)), (1, (0, v)), (2, (0, g))], [(0, 1), (0, z6), (4, g), (4, (g * z6) * (z6 + 1))], w)) 4 rfl ?_
              refine e_Ok.add (z := z6 + 1) rfl (by omega) (by omega) ?_
              refine e_Ok.run (t' := (100, [(4, (4, (g * z6) * (z6 + 1))), (8, (0, z6)), (7, (0, z7)), (6, (0, z6)), (3, (0, y3 + 1)), (0, (0, f)), (1, (0, v)), (2, (0, g))], [(4, z6 + 1), (4, g), (4, (g * z6) * (z6 + 1))], w)) 1 rfl ?_
              refine e_Ok.mulL (z := g * (z6 + 1)) rfl (by omega) (by omega) ?_
              refine e_Ok.run (t' := (106, [(4, (4, (g * z6) * (z6 + 1))), (8, (0, z6)), (7, (0, z7)), (6, (0, z6)), (3, (0, y3 + 1)), (0, (0, f)), (1, (0, v)), (2, (0, g))], [(4, g * (z6 + 1)), (4, (g * z6) * (z6 + 1))], w)) 1 rfl ?_
              refine e_Ok.addL (z := (g * z6) * (z6 + 1) + g * (z6 + 1)) rfl (by omega) (by omega) ?_
              refine e_Ok.run (t' := (5, [(4, (4, (g * z6) * (z6 + 1) + g * (z6 + 1))), (8, (0, z6)), (7, (0, z7)), (6, (0, z6)), (3, (0, y3 + 1)), (0, (0, f)), (1, (0, v)), (2, (0, g))], [], w)) 2 rfl ?_
              refine e_Ok.sub eAlk (e_sub_of rfl ?_) (ih2 (y3 + 1) ((g * z6) * (z6 + 1) + g * (z6 + 1)) (by omega) (by omega))
              exact ⟨rfl, rfl, rfl, rfl, rfl, trivial⟩
  refine e_Ok.sub eAlk (e_sub_of rfl ?_) (hL1 (f + 1 + 1 : Int).toNat 0 0 (by omega) (by omega))
  exact ⟨rfl, rfl, rfl, rfl, rfl, trivial⟩
theorem no_67_0 {a : Int} {k : Int} : ¬ mBe a 275 k := by unfold mBe; omega
theorem no_67_1 {a : Int} {k : Int} : ¬ mBe a 286 k := by unfold mBe; omega
theorem no_67_2 {a : Int} {k : Int} : ¬ mBe a 290 k := by unfold mBe; omega
theorem no_67_3 {a : Int} {k : Int} : ¬ mBe a 291 k := by unfold mBe; omega
theorem c_381 {d : Nat} (hd : 21 ≤ d) {w : eW} (hT : e_Has mTy w) (hCf : mCf w) {a : Int} (ha : 0 ≤ a ∧ a ≤ 3) : e_Ok 20 elay ecode eI d 381 (0, [(0, (1, 275)), (1, (0, a))], [], w) (fun r w' => r = [] ∧ e_fr (mBe a) w w' ∧ e_Has mTy w' ∧ w' 276 (36 * a + 16) = 1) := by
  obtain ⟨d, rfl⟩ : ∃ e, d = e + 1 := ⟨d - 1, by omega⟩
  have hja := (e_Has.get hT (c := 286) (k := a) (lo := 0) (hi := 6) rfl (by decide))
  refine e_Ok.run (t' := (1, [(0, (1, 275)), (1, (0, a))], [(0, a)], w)) 1 rfl ?_
  refine e_Ok.callS rfl (by omega) rfl rfl (c_268 (by omega)) (fun r1 w2 h3 => ?_)
  obtain ⟨rfl, rfl⟩ := h3
  show e_Ok 20 elay ecode eI (d + 1) 381 (4, [(0, (1, 275)), (1, (0, a))], [(0, 36 * a + 16)], w) _
  refine e_Ok.run (t' := (6, [(2, (0, 36 * a + 16)), (0, (1, 275)), (1, (0, a))], [(1, 275)], w)) 2 rfl ?_
  refine e_Ok.getr (z := 276) rfl (el_o rfl) rfl rfl (e_Has.eq hT rfl) (by omega) ?_
  refine e_Ok.run (t' := (11, [(2, (0, 36 * a + 16)), (0, (1, 275)), (1, (0, a))], [(0, 0), (0, 36 * a + 16), (1, 276)], w)) 2 rfl ?_
  refine e_Ok.add (z := 36 * a + 16) rfl (by omega) (by omega) ?_
  refine e_Ok.run (t' := (13, [(2, (0, 36 * a + 16)), (0, (1, 275)), (1, (0, a))], [(0, 1), (0, 36 * a + 16), (1, 276)], w)) 1 rfl ?_
  refine e_Ok.ast rfl (el_o rfl) rfl rfl (by omega) ?_
  generalize hw4 : e_up w 276 (36 * a + 16) 1 = w4
  have f5 : e_fr (mBe a) w w4 := e_fr.up (e_fr.refl w) hw4 (by unfold mBe; omega)
  have hT6 : e_Has mTy w4 := e_Has.upr hT hw4 (nR_STATE (a := a) (by omega)) (by omega)
  refine e_Ok.run (t' := (15, [(2, (0, 36 * a + 16)), (0, (1, 275)), (1, (0, a))], [(1, 275)], w4)) 1 rfl ?_
  refine e_Ok.getr (z := 276) rfl (el_o rfl) rfl rfl (by rw [← hw4]; exact (e_up_ne _ _ (Or.inl (by omega))).trans (e_Has.eq hT rfl)) (by omega) ?_
  refine e_Ok.run (t' := (21, [(2, (0, 36 * a + 16)), (0, (1, 275)), (1, (0, a))], [(0, 8), (0, 36 * a + 16), (1, 276)], w4)) 2 rfl ?_
  refine e_Ok.add (z := 36 * a + 24) rfl (by omega) (by omega) ?_
  refine e_Ok.run (t' := (23, [(2, (0, 36 * a + 16)), (0, (1, 275)), (1, (0, a))], [(0, 0), (0, 36 * a + 24), (1, 276)], w4)) 1 rfl ?_
  refine e_Ok.ast rfl (el_o rfl) rfl rfl (by omega) ?_
  generalize hw7 : e_up w4 276 (36 * a + 24) 0 = w7
  have f8 : e_fr (mBe a) w w7 := e_fr.up f5 hw7 (by unfold mBe; omega)
  have hT9 : e_Has mTy w7 := e_Has.upr hT6 hw7 (nR_TICKS (a := a) (by omega)) (by omega)
  refine e_Ok.run (t' := (25, [(2, (0, 36 * a + 16)), (0, (1, 275)), (1, (0, a))], [(1, 275)], w7)) 1 rfl ?_
  refine e_Ok.getr (z := 276) rfl (el_o rfl) rfl rfl (by rw [← hw7]; exact (e_up_ne _ _ (Or.inl (by omega))).trans (by rw [← hw4]; exact (e_up_ne _ _ (Or.inl (by omega))).trans (e_Has.eq hT rfl))) (by omega) ?_
  refine e_Ok.run (t' := (31, [(2, (0, 36 * a + 16)), (0, (1, 275)), (1, (0, a))], [(0, 9), (0, 36 * a + 16), (1, 276)], w7)) 2 rfl ?_
  refine e_Ok.add (z := 36 * a + 25) rfl (by omega) (by omega) ?_
  refine e_Ok.run (t' := (33, [(2, (0, 36 * a + 16)), (0, (1, 275)), (1, (0, a))], [(0, (-1)), (0, 36 * a + 25), (1, 276)], w7)) 1 rfl ?_
  refine e_Ok.ast rfl (el_o rfl) rfl rfl (by omega) ?_
  generalize hw10 : e_up w7 276 (36 * a + 25) (-1) = w10
  have f11 : e_fr (mBe a) w w10 := e_fr.up f8 hw10 (by unfold mBe; omega)
  have hT12 : e_Has mTy w10 := e_Has.upr hT9 hw10 (nR_MOVER (a := a) (by omega)) (by omega)
  refine e_Ok.run (t' := (39, [(4, (0, 0)), (3, (0, 0)), (2, (0, 36 * a + 16)), (0, (1, 275)), (1, (0, a))], [], w10)) 4 rfl ?_
  have hL13 : ∀ (nn : Nat) (y3 : Int) (y4 : Int) (v1 : eW), e_fr (mBe a) w v1 ∧ e_Has mTy v1 ∧ (0 ≤ y3 ∧ y3 ≤ 200001 ∧ 0 ≤ y4 ∧ y4 ≤ 6) ∧ v1 276 (36 * a + 16) = 1 → 7 - y4 < nn → e_Ok 20 elay ecode eI (d + 1) 381 (39, [(0, (1, 275)), (1, (0, a)), (2, (0, 36 * a + 16)), (3, (0, y3)), (4, (0, y4))], [], v1) (fun r w' => r = [] ∧ e_fr (mBe a) w w' ∧ e_Has mTy w' ∧ w' 276 (36 * a + 16) = 1) := by
    intro nn
    induction nn with
    | zero => intro y3 y4 v1 hj hm; obtain ⟨j15, j16, j17, j18⟩ := hj; exfalso; omega
    | succ nn ih14 =>
      intro y3 y4 v1 hj hm
      obtain ⟨j15, j16, j17, j18⟩ := hj
      refine e_Ok.run (t' := (42, [(0, (1, 275)), (1, (0, a)), (2, (0, 36 * a + 16)), (3, (0, y3)), (4, (0, y4))], [(1, 275), (0, y4)], v1)) 2 rfl ?_
      refine e_Ok.getr (z := 286) rfl (el_o rfl) rfl rfl ((j15 275 15 (by first | exact no_67_0 | (unfold mBe; omega))).trans (e_Has.eq hT rfl)) (by omega) ?_
      refine e_Ok.run (t' := (46, [(0, (1, 275)), (1, (0, a)), (2, (0, 36 * a + 16)), (3, (0, y3)), (4, (0, y4))], [(0, a), (1, 286), (0, y4)], v1)) 1 rfl ?_
      have h19 := (e_Has.get hT (c := 286) (k := a) (lo := 0) (hi := 6) rfl (by decide))
      refine e_Ok.ald (z := w 286 a) rfl (el_o rfl) rfl (by omega) ((j15 286 a (by first | exact no_67_1 | (unfold mBe; omega))).trans rfl) (by omega) ?_
      refine e_Ok.if2 rfl (fun h20 => ?_) (fun h20 => ?_)
      · replace h20 : (y4 : Int) ≥ w 286 a := h20
        refine e_Ok.run (t' := (139, [(0, (1, 275)), (1, (0, a)), (2, (0, 36 * a + 16)), (3, (0, y3)), (4, (0, y4))], [(1, 275)], v1)) 1 rfl ?_
        refine e_Ok.getr (z := 276) rfl (el_o rfl) rfl rfl ((j15 275 0 (by first | exact no_67_0 | (unfold mBe; omega))).trans (e_Has.eq hT rfl)) (by omega) ?_
        refine e_Ok.run (t' := (145, [(0, (1, 275)), (1, (0, a)), (2, (0, 36 * a + 16)), (3, (0, y3)), (4, (0, y4))], [(0, 11), (0, 36 * a + 16), (1, 276)], v1)) 2 rfl ?_
        refine e_Ok.add (z := 36 * a + 27) rfl (by omega) (by omega) ?_
        refine e_Ok.run (t' := (147, [(0, (1, 275)), (1, (0, a)), (2, (0, 36 * a + 16)), (3, (0, y3)), (4, (0, y4))], [(0, y3), (0, 36 * a + 27), (1, 276)], v1)) 1 rfl ?_
        refine e_Ok.ast rfl (el_o rfl) rfl rfl (by omega) ?_
        generalize hw21 : e_up v1 276 (36 * a + 27) y3 = w21
        have f22 : e_fr (mBe a) w w21 := e_fr.up j15 hw21 (by unfold mBe; omega)
        have hT23 : e_Has mTy w21 := e_Has.upr j16 hw21 (nR_FEWEST (a := a) (by omega)) (by omega)
        refine e_Ok.rets rfl rfl ?_
        exact ⟨rfl, f22, hT23, (Eq.trans (by rw [← hw21]; exact (e_up_ne _ _ (Or.inr (by omega))).trans rfl) j18)⟩
      · replace h20 : (y4 : Int) < w 286 a := by have q : ¬ ((y4 : Int) ≥ w 286 a) := h20; omega
        refine e_Ok.run (t' := (51, [(0, (1, 275)), (1, (0, a)), (2, (0, 36 * a + 16)), (3, (0, y3)), (4, (0, y4))], [(1, 275)], v1)) 1 rfl ?_
        refine e_Ok.getr (z := 276) rfl (el_o rfl) rfl rfl ((j15 275 0 (by first | exact no_67_0 | (unfold mBe; omega))).trans (e_Has.eq hT rfl)) (by omega) ?_
        refine e_Ok.run (t' := (57, [(0, (1, 275)), (1, (0, a)), (2, (0, 36 * a + 16)), (3, (0, y3)), (4, (0, y4))], [(0, 28), (0, 36 * a + 16), (1, 276)], v1)) 2 rfl ?_
        refine e_Ok.add (z := 36 * a + 44) rfl (by omega) (by omega) ?_
        refine e_Ok.run (t' := (60, [(0, (1, 275)), (1, (0, a)), (2, (0, 36 * a + 16)), (3, (0, y3)), (4, (0, y4))], [(0, y4), (0, 36 * a + 44), (1, 276)], v1)) 1 rfl ?_
        refine e_Ok.add (z := 36 * a + y4 + 44) rfl (by omega) (by omega) ?_
        have h24 := (e_Has.get hT (c := 276) (k := 36 * a + y4 + 44) (lo := (-100000)) (hi := 100000) (nR_GOAL (a := a) (j := y4) (by omega) (by omega)) (by decide))
        refine e_Ok.ald (z := w 276 (36 * a + y4 + 44)) rfl (el_o rfl) rfl (by omega) ((j15 276 (36 * a + y4 + 44) (by unfold mBe; omega)).trans rfl) (by omega) ?_
        refine e_Ok.run (t' := (63, [(0, (1, 275)), (1, (0, a)), (2, (0, 36 * a + 16)), (3, (0, y3)), (4, (0, y4))], [(1, 275), (0, w 276 (36 * a + y4 + 44))], v1)) 1 rfl ?_
        refine e_Ok.getr (z := 276) rfl (el_o rfl) rfl rfl ((j15 275 0 (by first | exact no_67_0 | (unfold mBe; omega))).trans (e_Has.eq hT rfl)) (by omega) ?_
        refine e_Ok.run (t' := (69, [(0, (1, 275)), (1, (0, a)), (2, (0, 36 * a + 16)), (3, (0, y3)), (4, (0, y4))], [(0, 16), (0, 36 * a + 16), (1, 276), (0, w 276 (36 * a + y4 + 44))], v1)) 2 rfl ?_
        refine e_Ok.add (z := 36 * a + 32) rfl (by omega) (by omega) ?_
        refine e_Ok.run (t' := (72, [(0, (1, 275)), (1, (0, a)), (2, (0, 36 * a + 16)), (3, (0, y3)), (4, (0, y4))], [(0, y4), (0, 36 * a + 32), (1, 276), (0, w 276 (36 * a + y4 + 44))], v1)) 1 rfl ?_
        refine e_Ok.add (z := 36 * a + y4 + 32) rfl (by omega) (by omega) ?_
        have h25 := (e_Has.get hT (c := 276) (k := 36 * a + y4 + 32) (lo := (-100000)) (hi := 100000) (nR_VALUE (a := a) (j := y4) (by omega) (by omega)) (by decide))
        refine e_Ok.ald (z := w 276 (36 * a + y4 + 32)) rfl (el_o rfl) rfl (by omega) ((j15 276 (36 * a + y4 + 32) (by unfold mBe; omega)).trans rfl) (by omega) ?_
        refine e_Ok.sub' (z := w 276 (36 * a + y4 + 44) - w 276 (36 * a + y4 + 32)) rfl (by omega) (by omega) ?_
        refine e_Ok.run (t' := (79, [(5, (0, w 276 (36 * a + y4 + 44) - w 276 (36 * a + y4 + 32))), (0, (1, 275)), (1, (0, a)), (2, (0, 36 * a + 16)), (3, (0, y3)), (4, (0, y4))], [(0, w 276 (36 * a + y4 + 44) - w 276 (36 * a + y4 + 32))], v1)) 2 rfl ?_
        refine e_Ok.if1 rfl (fun h26 => ?_) (fun h26 => ?_)
        · replace h26 : (w 276 (36 * a + y4 + 44) - w 276 (36 * a + y4 + 32) : Int) ≥ 0 := h26
          refine e_Ok.run (t' := (90, [(5, (0, w 276 (36 * a + y4 + 44) - w 276 (36 * a + y4 + 32))), (0, (1, 275)), (1, (0, a)), (2, (0, 36 * a + 16)), (3, (0, y3)), (4, (0, y4))], [(0, w 276 (36 * a + y4 + 44) - w 276 (36 * a + y4 + 32))], v1)) 1 rfl ?_
          have hcf := hCf a y4 (by omega) (by omega) (by omega) (by omega)
          have hb290 := e_Has.get hT (c := 290) (k := 6 * a + y4) (lo := 0) (hi := 2000) rfl (by decide)
          have hb291 := e_Has.get hT (c := 291) (k := 6 * a + y4) (lo := 0) (hi := 2000) rfl (by decide)
          refine e_Ok.run (t' := (91, [(5, (0, w 276 (36 * a + y4 + 44) - w 276 (36 * a + y4 + 32))), (0, (1, 275)), (1, (0, a)), (2, (0, 36 * a + 16)), (3, (0, y3)), (4, (0, y4))], [(1, 275), (0, w 276 (36 * a + y4 + 44) - w 276 (36 * a + y4 + 32))], v1)) 1 rfl ?_
          refine e_Ok.getr (z := 290) rfl (el_o rfl) rfl rfl ((j15 275 19 (by first | exact no_67_0 | (unfold mBe; omega))).trans (e_Has.eq hT rfl)) (by omega) ?_
          refine e_Ok.run (t' := (97, [(5, (0, w 276 (36 * a + y4 + 44) - w 276 (36 * a + y4 + 32))), (0, (1, 275)), (1, (0, a)), (2, (0, 36 * a + 16)), (3, (0, y3)), (4, (0, y4))], [(0, a), (0, 6), (1, 290), (0, w 276 (36 * a + y4 + 44) - w 276 (36 * a + y4 + 32))], v1)) 2 rfl ?_
          refine e_Ok.mul (z := 6 * a) rfl (by omega) (by omega) ?_
          refine e_Ok.run (t' := (100, [(5, (0, w 276 (36 * a + y4 + 44) - w 276 (36 * a + y4 + 32))), (0, (1, 275)), (1, (0, a)), (2, (0, 36 * a + 16)), (3, (0, y3)), (4, (0, y4))], [(0, y4), (0, 6 * a), (1, 290), (0, w 276 (36 * a + y4 + 44) - w 276 (36 * a + y4 + 32))], v1)) 1 rfl ?_
          refine e_Ok.add (z := 6 * a + y4) rfl (by omega) (by omega) ?_
          refine e_Ok.ald (z := w 290 (6 * a + y4)) rfl (el_o rfl) rfl (by omega) ((j15 290 (6 * a + y4) (by first | exact no_67_2 | (unfold mBe; omega))).trans rfl) (by omega) ?_
          refine e_Ok.run (t' := (103, [(5, (0, w 276 (36 * a + y4 + 44) - w 276 (36 * a + y4 + 32))), (0, (1, 275)), (1, (0, a)), (2, (0, 36 * a + 16)), (3, (0, y3)), (4, (0, y4))], [(1, 275), (0, w 290 (6 * a + y4)), (0, w 276 (36 * a + y4 + 44) - w 276 (36 * a + y4 + 32))], v1)) 1 rfl ?_
          refine e_Ok.getr (z := 291) rfl (el_o rfl) rfl rfl ((j15 275 20 (by first | exact no_67_0 | (unfold mBe; omega))).trans (e_Has.eq hT rfl)) (by omega) ?_
          refine e_Ok.run (t' := (109, [(5, (0, w 276 (36 * a + y4 + 44) - w 276 (36 * a + y4 + 32))), (0, (1, 275)), (1, (0, a)), (2, (0, 36 * a + 16)), (3, (0, y3)), (4, (0, y4))], [(0, a), (0, 6), (1, 291), (0, w 290 (6 * a + y4)), (0, w 276 (36 * a + y4 + 44) - w 276 (36 * a + y4 + 32))], v1)) 2 rfl ?_
          refine e_Ok.mul (z := 6 * a) rfl (by omega) (by omega) ?_
          refine e_Ok.run (t' := (112, [(5, (0, w 276 (36 * a + y4 + 44) - w 276 (36 * a + y4 + 32))), (0, (1, 275)), (1, (0, a)), (2, (0, 36 * a + 16)), (3, (0, y3)), (4, (0, y4))], [(0, y4), (0, 6 * a), (1, 291), (0, w 290 (6 * a + y4)), (0, w 276 (36 * a + y4 + 44) - w 276 (36 * a + y4 + 32))], v1)) 1 rfl ?_
          refine e_Ok.add (z := 6 * a + y4) rfl (by omega) (by omega) ?_
          refine e_Ok.ald (z := w 291 (6 * a + y4)) rfl (el_o rfl) rfl (by omega) ((j15 291 (6 * a + y4) (by first | exact no_67_3 | (unfold mBe; omega))).trans rfl) (by omega) ?_
          refine e_Ok.callS rfl (by omega) rfl rfl (c_382 (by omega) (by omega) (by omega)) (fun r27 w28 h29 => ?_)
          obtain ⟨z30, rfl, rfl, q31a, q31b⟩ := h29
          show e_Ok 20 elay ecode eI (d + 1) 381 (117, [(5, (0, w 276 (36 * a + y4 + 44) - w 276 (36 * a + y4 + 32))), (0, (1, 275)), (1, (0, a)), (2, (0, 36 * a + 16)), (3, (0, y3)), (4, (0, y4))], [(0, z30)], v1) _
          refine e_Ok.run (t' := (122, [(6, (0, z30)), (5, (0, w 276 (36 * a + y4 + 44) - w 276 (36 * a + y4 + 32))), (0, (1, 275)), (1, (0, a)), (2, (0, 36 * a + 16)), (3, (0, y3)), (4, (0, y4))], [(0, y3), (0, z30)], v1)) 3 rfl ?_
          refine e_Ok.if2 rfl (fun h32 => ?_) (fun h32 => ?_)
          · replace h32 : (z30 : Int) ≤ y3 := h32
            refine e_Ok.run (t' := (132, [(3, (0, y3)), (6, (0, z30)), (5, (0, w 276 (36 * a + y4 + 44) - w 276 (36 * a + y4 + 32))), (0, (1, 275)), (1, (0, a)), (2, (0, 36 * a + 16)), (4, (0, y4))], [], v1)) 2 rfl ?_
            refine e_Ok.inc (z := y4 + 1) rfl rfl (by omega) (by omega) ?_
            show e_Ok 20 elay ecode eI (d + 1) 381 (135, [(4, (0, y4 + 1)), (3, (0, y3)), (6, (0, z30)), (5, (0, w 276 (36 * a + y4 + 44) - w 276 (36 * a + y4 + 32))), (0, (1, 275)), (1, (0, a)), (2, (0, 36 * a + 16))], [], v1) _
            refine e_Ok.run (t' := (39, [(4, (0, y4 + 1)), (3, (0, y3)), (6, (0, z30)), (5, (0, w 276 (36 * a + y4 + 44) - w 276 (36 * a + y4 + 32))), (0, (1, 275)), (1, (0, a)), (2, (0, 36 * a + 16))], [], v1)) 1 rfl ?_
            refine e_Ok.sub eAlk (e_sub_of rfl ?_) (ih14 y3 (y4 + 1) v1 ⟨j15, j16, by omega, j18⟩ (by omega))
            exact ⟨rfl, rfl, rfl, rfl, rfl, trivial⟩
          · replace h32 : (z30 : Int) > y3 := by have q : ¬ ((z30 : Int) ≤ y3) := h32; omega
            refine e_Ok.run (t' := (132, [(3, (0, z30)), (6, (0, z30)), (5, (0, w 276 (36 * a + y4 + 44) - w 276 (36 * a + y4 + 32))), (0, (1, 275)), (1, (0, a)), (2, (0, 36 * a + 16)), (4, (0, y4))], [], v1)) 3 rfl ?_
            refine e_Ok.inc (z := y4 + 1) rfl rfl (by omega) (by omega) ?_
            show e_Ok 20 elay ecode eI (d + 1) 381 (135, [(4, (0, y4 + 1)), (3, (0, z30)), (6, (0, z30)), (5, (0, w 276 (36 * a + y4 + 44) - w 276 (36 * a + y4 + 32))), (0, (1, 275)), (1, (0, a)), (2, (0, 36 * a + 16))], [], v1) _
            refine e_Ok.run (t' := (39, [(4, (0, y4 + 1)), (3, (0, z30)), (6, (0, z30)), (5, (0, w 276 (36 * a + y4 + 44) - w 276 (36 * a + y4 + 32))), (0, (1, 275)), (1, (0, a)), (2, (0, 36 * a + 16))], [], v1)) 1 rfl ?_
            refine e_Ok.sub eAlk (e_sub_of rfl ?_) (ih14 z30 (y4 + 1) v1 ⟨j15, j16, by omega, j18⟩ (by omega))
            exact ⟨rfl, rfl, rfl, rfl, rfl, trivial⟩
        · replace h26 : (w 276 (36 * a + y4 + 44) - w 276 (36 * a + y4 + 32) : Int) < 0 := by have q : ¬ ((w 276 (36 * a + y4 + 44) - w 276 (36 * a + y4 + 32) : Int) ≥ 0) := h26; omega
          refine e_Ok.run (t' := (84, [(5, (0, w 276 (36 * a + y4 + 44) - w 276 (36 * a + y4 + 32))), (0, (1, 275)), (1, (0, a)), (2, (0, 36 * a + 16)), (3, (0, y3)), (4, (0, y4))], [(0, w 276 (36 * a + y4 + 44) - w 276 (36 * a + y4 + 32))], v1)) 1 rfl ?_
          refine e_Ok.neg (z := -w 276 (36 * a + y4 + 44) + w 276 (36 * a + y4 + 32)) rfl (by omega) (by omega) ?_
          refine e_Ok.run (t' := (90, [(5, (0, w 276 (36 * a + y4 + 44) - w 276 (36 * a + y4 + 32))), (0, (1, 275)), (1, (0, a)), (2, (0, 36 * a + 16)), (3, (0, y3)), (4, (0, y4))], [(0, -w 276 (36 * a + y4 + 44) + w 276 (36 * a + y4 + 32))], v1)) 1 rfl ?_
          have hcf := hCf a y4 (by omega) (by omega) (by omega) (by omega)
          have hb290 := e_Has.get hT (c := 290) (k := 6 * a + y4) (lo := 0) (hi := 2000) rfl (by decide)
          have hb291 := e_Has.get hT (c := 291) (k := 6 * a + y4) (lo := 0) (hi := 2000) rfl (by decide)
          refine e_Ok.run (t' := (91, [(5, (0, w 276 (36 * a + y4 + 44) - w 276 (36 * a + y4 + 32))), (0, (1, 275)), (1, (0, a)), (2, (0, 36 * a + 16)), (3, (0, y3)), (4, (0, y4))], [(1, 275), (0, -w 276 (36 * a + y4 + 44) + w 276 (36 * a + y4 + 32))], v1)) 1 rfl ?_
          refine e_Ok.getr (z := 290) rfl (el_o rfl) rfl rfl ((j15 275 19 (by first | exact no_67_0 | (unfold mBe; omega))).trans (e_Has.eq hT rfl)) (by omega) ?_
          refine e_Ok.run (t' := (97, [(5, (0, w 276 (36 * a + y4 + 44) - w 276 (36 * a + y4 + 32))), (0, (1, 275)), (1, (0, a)), (2, (0, 36 * a + 16)), (3, (0, y3)), (4, (0, y4))], [(0, a), (0, 6), (1, 290), (0, -w 276 (36 * a + y4 + 44) + w 276 (36 * a + y4 + 32))], v1)) 2 rfl ?_
          refine e_Ok.mul (z := 6 * a) rfl (by omega) (by omega) ?_
          refine e_Ok.run (t' := (100, [(5, (0, w 276 (36 * a + y4 + 44) - w 276 (36 * a + y4 + 32))), (0, (1, 275)), (1, (0, a)), (2, (0, 36 * a + 16)), (3, (0, y3)), (4, (0, y4))], [(0, y4), (0, 6 * a), (1, 290), (0, -w 276 (36 * a + y4 + 44) + w 276 (36 * a + y4 + 32))], v1)) 1 rfl ?_
          refine e_Ok.add (z := 6 * a + y4) rfl (by omega) (by omega) ?_
          refine e_Ok.ald (z := w 290 (6 * a + y4)) rfl (el_o rfl) rfl (by omega) ((j15 290 (6 * a + y4) (by first | exact no_67_2 | (unfold mBe; omega))).trans rfl) (by omega) ?_
          refine e_Ok.run (t' := (103, [(5, (0, w 276 (36 * a + y4 + 44) - w 276 (36 * a + y4 + 32))), (0, (1, 275)), (1, (0, a)), (2, (0, 36 * a + 16)), (3, (0, y3)), (4, (0, y4))], [(1, 275), (0, w 290 (6 * a + y4)), (0, -w 276 (36 * a + y4 + 44) + w 276 (36 * a + y4 + 32))], v1)) 1 rfl ?_
          refine e_Ok.getr (z := 291) rfl (el_o rfl) rfl rfl ((j15 275 20 (by first | exact no_67_0 | (unfold mBe; omega))).trans (e_Has.eq hT rfl)) (by omega) ?_
          refine e_Ok.run (t' := (109, [(5, (0, w 276 (36 * a + y4 + 44) - w 276 (36 * a + y4 + 32))), (0, (1, 275)), (1, (0, a)), (2, (0, 36 * a + 16)), (3, (0, y3)), (4, (0, y4))], [(0, a), (0, 6), (1, 291), (0, w 290 (6 * a + y4)), (0, -w 276 (36 * a + y4 + 44) + w 276 (36 * a + y4 + 32))], v1)) 2 rfl ?_
          refine e_Ok.mul (z := 6 * a) rfl (by omega) (by omega) ?_
          refine e_Ok.run (t' := (112, [(5, (0, w 276 (36 * a + y4 + 44) - w 276 (36 * a + y4 + 32))), (0, (1, 275)), (1, (0, a)), (2, (0, 36 * a + 16)), (3, (0, y3)), (4, (0, y4))], [(0, y4), (0, 6 * a), (1, 291), (0, w 290 (6 * a + y4)), (0, -w 276 (36 * a + y4 + 44) + w 276 (36 * a + y4 + 32))], v1)) 1 rfl ?_
          refine e_Ok.add (z := 6 * a + y4) rfl (by omega) (by omega) ?_
          refine e_Ok.ald (z := w 291 (6 * a + y4)) rfl (el_o rfl) rfl (by omega) ((j15 291 (6 * a + y4) (by first | exact no_67_3 | (unfold mBe; omega))).trans rfl) (by omega) ?_
          refine e_Ok.callS rfl (by omega) rfl rfl (c_382 (by omega) (by omega) (by omega)) (fun r33 w34 h35 => ?_)
          obtain ⟨z36, rfl, rfl, q37a, q37b⟩ := h35
          show e_Ok 20 elay ecode eI (d + 1) 381 (117, [(5, (0, w 276 (36 * a + y4 + 44) - w 276 (36 * a + y4 + 32))), (0, (1, 275)), (1, (0, a)), (2, (0, 36 * a + 16)), (3, (0, y3)), (4, (0, y4))], [(0, z36)], v1) _
          refine e_Ok.run (t' := (122, [(6, (0, z36)), (5, (0, w 276 (36 * a + y4 + 44) - w 276 (36 * a + y4 + 32))), (0, (1, 275)), (1, (0, a)), (2, (0, 36 * a + 16)), (3, (0, y3)), (4, (0, y4))], [(0, y3), (0, z36)], v1)) 3 rfl ?_
          refine e_Ok.if2 rfl (fun h38 => ?_) (fun h38 => ?_)
          · replace h38 : (z36 : Int) ≤ y3 := h38
            refine e_Ok.run (t' := (132, [(3, (0, y3)), (6, (0, z36)), (5, (0, w 276 (36 * a + y4 + 44) - w 276 (36 * a + y4 + 32))), (0, (1, 275)), (1, (0, a)), (2, (0, 36 * a + 16)), (4, (0, y4))], [], v1)) 2 rfl ?_
            refine e_Ok.inc (z := y4 + 1) rfl rfl (by omega) (by omega) ?_
            show e_Ok 20 elay ecode eI (d + 1) 381 (135, [(4, (0, y4 + 1)), (3, (0, y3)), (6, (0, z36)), (5, (0, w 276 (36 * a + y4 + 44) - w 276 (36 * a + y4 + 32))), (0, (1, 275)), (1, (0, a)), (2, (0, 36 * a + 16))], [], v1) _
            refine e_Ok.run (t' := (39, [(4, (0, y4 + 1)), (3, (0, y3)), (6, (0, z36)), (5, (0, w 276 (36 * a + y4 + 44) - w 276 (36 * a + y4 + 32))), (0, (1, 275)), (1, (0, a)), (2, (0, 36 * a + 16))], [], v1)) 1 rfl ?_
            refine e_Ok.sub eAlk (e_sub_of rfl ?_) (ih14 y3 (y4 + 1) v1 ⟨j15, j16, by omega, j18⟩ (by omega))
            exact ⟨rfl, rfl, rfl, rfl, rfl, trivial⟩
          · replace h38 : (z36 : Int) > y3 := by have q : ¬ ((z36 : Int) ≤ y3) := h38; omega
            refine e_Ok.run (t' := (132, [(3, (0, z36)), (6, (0, z36)), (5, (0, w 276 (36 * a + y4 + 44) - w 276 (36 * a + y4 + 32))), (0, (1, 275)), (1, (0, a)), (2, (0, 36 * a + 16)), (4, (0, y4))], [], v1)) 3 rfl ?_
            refine e_Ok.inc (z := y4 + 1) rfl rfl (by omega) (by omega) ?_
            show e_Ok 20 elay ecode eI (d + 1) 381 (135, [(4, (0, y4 + 1)), (3, (0, z36)), (6, (0, z36)), (5, (0, w 276 (36 * a + y4 + 44) - w 276 (36 * a + y4 + 32))), (0, (1, 275)), (1, (0, a)), (2, (0, 36 * a + 16))], [], v1) _
            refine e_Ok.run (t' := (39, [(4, (0, y4 + 1)), (3, (0, z36)), (6, (0, z36)), (5, (0, w 276 (36 * a + y4 + 44) - w 276 (36 * a + y4 + 32))), (0, (1, 275)), (1, (0, a)), (2, (0, 36 * a + 16))], [], v1)) 1 rfl ?_
            refine e_Ok.sub eAlk (e_sub_of rfl ?_) (ih14 z36 (y4 + 1) v1 ⟨j15, j16, by omega, j18⟩ (by omega))
            exact ⟨rfl, rfl, rfl, rfl, rfl, trivial⟩
  refine e_Ok.sub eAlk (e_sub_of rfl ?_) (hL13 (7 + 1 : Int).toNat 0 0 w10 ⟨f11, hT12, by omega, (by rw [← hw10]; exact (e_up_ne _ _ (Or.inr (by omega))).trans (by rw [← hw7]; exact (e_up_ne _ _ (Or.inr (by omega))).trans (by rw [← hw4]; exact e_up_eq _ _ _ _)))⟩ (by omega))
  exact ⟨rfl, rfl, rfl, rfl, rfl, trivial⟩
end
