noncomputable section
theorem c_386 {d : Nat} {w : eW} {f s v g : Int} (hf : 0 ≤ f ∧ f ≤ 200000) (hg : 1 ≤ g ∧ g ≤ 2000) (hs : -g ≤ s ∧ s ≤ 2000) (hv : 1 ≤ v ∧ v ≤ 2000) : e_Ok 20 elay ecode eI d 386 (0, [(0, (0, f)), (1, (0, s)), (2, (0, v)), (3, (0, g))], [], w) (fun r w' => ∃ z : Int, r = [(0, z)] ∧ w = w' ∧ (0 ≤ z ∧ z ≤ 2000) ∧ (z = 0 ∨ rW g z ≤ f)) := by
  refine e_Ok.run (t' := (2, [(0, (0, f)), (1, (0, s)), (2, (0, v)), (3, (0, g))], [(0, g), (0, s)], w)) 2 rfl ?_
  refine e_Ok.add (z := s + g) rfl (by omega) (by omega) ?_
  refine e_Ok.run (t' := (4, [(0, (0, f)), (1, (0, s)), (2, (0, v)), (3, (0, g))], [(0, v), (0, s + g)], w)) 1 rfl ?_
  refine e_Ok.if2 rfl (fun h1 => ?_) (fun h1 => ?_)
  · replace h1 : (s + g : Int) ≥ v := h1
    refine e_Ok.run (t' := (18, [(4, (0, v)), (0, (0, f)), (1, (0, s)), (2, (0, v)), (3, (0, g))], [(0, v)], w)) 3 rfl ?_
    refine e_Ok.if1 rfl (fun h2 => ?_) (fun h2 => ?_)
    · replace h2 : (v : Int) > 0 := h2
      refine e_Ok.run (t' := (27, [(5, (0, 0)), (4, (0, v)), (0, (0, f)), (1, (0, s)), (2, (0, v)), (3, (0, g))], [], w)) 2 rfl ?_
      have hL3 : ∀ (nn : Nat) (y4 : Int) (y5 : Int), (0 ≤ y5 ∧ y5 ≤ y4 ∧ y4 ≤ 2000) ∧ (y5 = 0 ∨ rW g y5 ≤ f) → y4 - y5 < nn → e_Ok 20 elay ecode eI d 386 (27, [(0, (0, f)), (3, (0, g)), (4, (0, y4)), (5, (0, y5))], [], w) (fun r w' => ∃ z : Int, r = [(0, z)] ∧ w = w' ∧ (0 ≤ z ∧ z ≤ 2000) ∧ (z = 0 ∨ rW g z ≤ f)) := by
        intro nn
        induction nn with
        | zero => intro y4 y5 hj hm; obtain ⟨j5, j6⟩ := hj; exfalso; omega
        | succ nn ih4 =>
          intro y4 y5 hj hm
          obtain ⟨j5, j6⟩ := hj
          refine e_Ok.run (t' := (31, [(0, (0, f)), (3, (0, g)), (4, (0, y4)), (5, (0, y5))], [(0, y4), (0, y5)], w)) 2 rfl ?_
          refine e_Ok.if2 rfl (fun h7 => ?_) (fun h7 => ?_)
          · replace h7 : (y5 : Int) ≥ y4 := h7
            refine e_Ok.run (t' := (101, [(0, (0, f)), (3, (0, g)), (4, (0, y4)), (5, (0, y5))], [(0, y5)], w)) 1 rfl ?_
            refine e_Ok.rets rfl rfl ?_
            exact ⟨_, rfl, rfl, by omega, by omega⟩
          · replace h7 : (y5 : Int) < y4 := by have q : ¬ ((y5 : Int) ≥ y4) := h7; omega
            refine e_Ok.run (t' := (38, [(0, (0, f)), (3, (0, g)), (4, (0, y4)), (5, (0, y5))], [(0, y4), (0, y5)], w)) 2 rfl ?_
            refine e_Ok.add (z := y5 + y4) rfl (by omega) (by omega) ?_
            refine e_Ok.run (t' := (40, [(0, (0, f)), (3, (0, g)), (4, (0, y4)), (5, (0, y5))], [(0, 1), (0, y5 + y4)], w)) 1 rfl ?_
            refine e_Ok.add (z := y5 + y4 + 1) rfl (by omega) (by omega) ?_
            refine e_Ok.run (t' := (42, [(0, (0, f)), (3, (0, g)), (4, (0, y4)), (5, (0, y5))], [(0, 2), (0, y5 + y4 + 1)], w)) 1 rfl ?_
            refine e_Ok.divn (fun z8 hz8 => ?_) rfl (by omega) (by omega)
            replace hz8 : z8 = (y5 + y4 + 1) / 2 := hz8
            have z8r : 1 ≤ z8 ∧ z8 ≤ 2000 := by omega
            refine e_Ok.run (t' := (48, [(6, (0, z8)), (0, (0, f)), (3, (0, g)), (4, (0, y4)), (5, (0, y5))], [(0, g), (0, z8)], w)) 3 rfl ?_
            refine e_Ok.add (z := z8 + g) rfl (by omega) (by omega) ?_
            refine e_Ok.run (t' := (50, [(6, (0, z8)), (0, (0, f)), (3, (0, g)), (4, (0, y4)), (5, (0, y5))], [(0, 1), (0, z8 + g)], w)) 1 rfl ?_
            refine e_Ok.sub' (z := z8 + g - 1) rfl (by omega) (by omega) ?_
            refine e_Ok.run (t' := (52, [(6, (0, z8)), (0, (0, f)), (3, (0, g)), (4, (0, y4)), (5, (0, y5))], [(0, g), (0, z8 + g - 1)], w)) 1 rfl ?_
            refine e_Ok.divn (fun z9 hz9 => ?_) rfl (by omega) (by omega)
            replace hz9 : z9 = (z8 + g - 1) / g := hz9
            refine e_Ok.run (t' := (54, [(6, (0, z8)), (0, (0, f)), (3, (0, g)), (4, (0, y4)), (5, (0, y5))], [(4, z9)], w)) 1 rfl ?_
            have hb := rW_bd (g := g) (d := z8) (by omega) (by omega) z9 hz9
            refine e_Ok.run (t' := (61, [(7, (4, z9)), (6, (0, z8)), (0, (0, f)), (3, (0, g)), (4, (0, y4)), (5, (0, y5))], [(4, z8), (4, z9)], w)) 4 rfl ?_
            refine e_Ok.mulL (z := z9 * z8) rfl (by omega) (by omega) ?_
            refine e_Ok.run (t' := (69, [(7, (4, z9)), (6, (0, z8)), (0, (0, f)), (3, (0, g)), (4, (0, y4)), (5, (0, y5))], [(4, 1), (4, z9), (4, z9), (4, g), (4, z9 * z8)], w)) 5 rfl ?_
            refine e_Ok.subL (z := z9 - 1) rfl (by omega) (by omega) ?_
            refine e_Ok.mulL (z := z9 * (z9 - 1)) rfl (by omega) (by omega) ?_
            refine e_Ok.run (t' := (74, [(7, (4, z9)), (6, (0, z8)), (0, (0, f)), (3, (0, g)), (4, (0, y4)), (5, (0, y5))], [(4, 2), (4, z9 * (z9 - 1)), (4, g), (4, z9 * z8)], w)) 1 rfl ?_
            refine e_Ok.ldivn (fun x13 hx13 => ?_) rfl (by omega) (by omega)
            replace hx13 : x13 = (z9 * (z9 - 1)) / 2 := hx13
            have hb2 := hb.2.2.2 x13 hx13
            refine e_Ok.mulL (z := g * x13) rfl (by omega) (by omega) ?_
            refine e_Ok.subL (z := z9 * z8 - g * x13) rfl (by omega) (by omega) ?_
            refine e_Ok.run (t' := (79, [(7, (4, z9)), (6, (0, z8)), (0, (0, f)), (3, (0, g)), (4, (0, y4)), (5, (0, y5))], [(4, f), (4, z9 * z8 - g * x13)], w)) 2 rfl ?_
            refine e_Ok.lcmp rfl (fun z16 z16a z16b z16c => ?_)
            refine e_Ok.if1 rfl (fun h17 => ?_) (fun h17 => ?_)
            · replace h17 : (z16 : Int) > 0 := h17
              refine e_Ok.run (t' := (93, [(7, (4, z9)), (6, (0, z8)), (0, (0, f)), (3, (0, g)), (4, (0, y4)), (5, (0, y5))], [(0, 1), (0, z8)], w)) 2 rfl ?_
              refine e_Ok.sub' (z := z8 - 1) rfl (by omega) (by omega) ?_
              refine e_Ok.run (t' := (27, [(4, (0, z8 - 1)), (7, (4, z9)), (6, (0, z8)), (0, (0, f)), (3, (0, g)), (5, (0, y5))], [], w)) 2 rfl ?_
              refine e_Ok.sub eAlk (e_sub_of rfl ?_) (ih4 (z8 - 1) y5 ⟨by omega, by omega⟩ (by omega))
              exact ⟨rfl, rfl, rfl, rfl, trivial⟩
            · replace h17 : (z16 : Int) ≤ 0 := by have q : ¬ ((z16 : Int) > 0) := h17; omega
              refine e_Ok.run (t' := (27, [(5, (0, z8)), (7, (4, z9)), (6, (0, z8)), (0, (0, f)), (3, (0, g)), (4, (0, y4))], [], w)) 4 rfl ?_
              refine e_Ok.sub eAlk (e_sub_of rfl ?_) (ih4 y4 z8 ⟨by omega, by omega⟩ (by omega))
              exact ⟨rfl, rfl, rfl, rfl, trivial⟩
      refine e_Ok.sub eAlk (e_sub_of rfl ?_) (hL3 (2000 + 1 : Int).toNat v 0 ⟨by omega, by omega⟩ (by omega))
      exact ⟨rfl, rfl, rfl, rfl, trivial⟩
    · replace h2 : (v : Int) ≤ 0 := by have q : ¬ ((v : Int) > 0) := h2; omega
      exfalso; omega
  · replace h1 : (s + g : Int) < v := by have q : ¬ ((s + g : Int) ≥ v) := h1; omega
    refine e_Ok.run (t' := (9, [(0, (0, f)), (1, (0, s)), (2, (0, v)), (3, (0, g))], [(0, g), (0, s)], w)) 2 rfl ?_
    refine e_Ok.add (z := s + g) rfl (by omega) (by omega) ?_
    refine e_Ok.run (t' := (18, [(4, (0, s + g)), (0, (0, f)), (1, (0, s)), (2, (0, v)), (3, (0, g))], [(0, s + g)], w)) 3 rfl ?_
    refine e_Ok.if1 rfl (fun h18 => ?_) (fun h18 => ?_)
    · replace h18 : (s + g : Int) > 0 := h18
      refine e_Ok.run (t' := (27, [(5, (0, 0)), (4, (0, s + g)), (0, (0, f)), (1, (0, s)), (2, (0, v)), (3, (0, g))], [], w)) 2 rfl ?_
      have hL19 : ∀ (nn : Nat) (y4 : Int) (y5 : Int), (0 ≤ y5 ∧ y5 ≤ y4 ∧ y4 ≤ 2000) ∧ (y5 = 0 ∨ rW g y5 ≤ f) → y4 - y5 < nn → e_Ok 20 elay ecode eI d 386 (27, [(0, (0, f)), (3, (0, g)), (4, (0, y4)), (5, (0, y5))], [], w) (fun r w' => ∃ z : Int, r = [(0, z)] ∧ w = w' ∧ (0 ≤ z ∧ z ≤ 2000) ∧ (z = 0 ∨ rW g z ≤ f)) := by
        intro nn
        induction nn with
        | zero => intro y4 y5 hj hm; obtain ⟨j21, j22⟩ := hj; exfalso; omega
        | succ nn ih20 =>
          intro y4 y5 hj hm
          obtain ⟨j21, j22⟩ := hj
          refine e_Ok.run (t' := (31, [(0, (0, f)), (3, (0, g)), (4, (0, y4)), (5, (0, y5))], [(0, y4), (0, y5)], w)) 2 rfl ?_
          refine e_Ok.if2 rfl (fun h23 => ?_) (fun h23 => ?_)
          · replace h23 : (y5 : Int) ≥ y4 := h23
            refine e_Ok.run (t' := (101, [(0, (0, f)), (3, (0, g)), (4, (0, y4)), (5, (0, y5))], [(0, y5)], w)) 1 rfl ?_
            refine e_Ok.rets rfl rfl ?_
            exact ⟨_, rfl, rfl, by omega, by omega⟩
          · replace h23 : (y5 : Int) < y4 := by have q : ¬ ((y5 : Int) ≥ y4) := h23; omega
            refine e_Ok.run (t' := (38, [(0, (0, f)), (3, (0, g)), (4, (0, y4)), (5, (0, y5))], [(0, y4), (0, y5)], w)) 2 rfl ?_
            refine e_Ok.add (z := y5 + y4) rfl (by omega) (by omega) ?_
            refine e_Ok.run (t' := (40, [(0, (0, f)), (3, (0, g)), (4, (0, y4)), (5, (0, y5))], [(0, 1), (0, y5 + y4)], w)) 1 rfl ?_
            refine e_Ok.add (z := y5 + y4 + 1) rfl (by omega) (by omega) ?_
            refine e_Ok.run (t' := (42, [(0, (0, f)), (3, (0, g)), (4, (0, y4)), (5, (0, y5))], [(0, 2), (0, y5 + y4 + 1)], w)) 1 rfl ?_
            refine e_Ok.divn (fun z24 hz24 => ?_) rfl (by omega) (by omega)
            replace hz24 : z24 = (y5 + y4 + 1) / 2 := hz24
            have z24r : 1 ≤ z24 ∧ z24 ≤ 2000 := by omega
            refine e_Ok.run (t' := (48, [(6, (0, z24)), (0, (0, f)), (3, (0, g)), (4, (0, y4)), (5, (0, y5))], [(0, g), (0, z24)], w)) 3 rfl ?_
            refine e_Ok.add (z := z24 + g) rfl (by omega) (by omega) ?_
            refine e_Ok.run (t' := (50, [(6, (0, z24)), (0, (0, f)), (3, (0, g)), (4, (0, y4)), (5, (0, y5))], [(0, 1), (0, z24 + g)], w)) 1 rfl ?_
            refine e_Ok.sub' (z := z24 + g - 1) rfl (by omega) (by omega) ?_
            refine e_Ok.run (t' := (52, [(6, (0, z24)), (0, (0, f)), (3, (0, g)), (4, (0, y4)), (5, (0, y5))], [(0, g), (0, z24 + g - 1)], w)) 1 rfl ?_
            refine e_Ok.divn (fun z25 hz25 => ?_) rfl (by omega) (by omega)
            replace hz25 : z25 = (z24 + g - 1) / g := hz25
            refine e_Ok.run (t' := (54, [(6, (0, z24)), (0, (0, f)), (3, (0, g)), (4, (0, y4)), (5, (0, y5))], [(4, z25)], w)) 1 rfl ?_
            have hb := rW_bd (g := g) (d := z24) (by omega) (by omega) z25 hz25
            refine e_Ok.run (t' := (61, [(7, (4, z25)), (6, (0, z24)), (0, (0, f)), (3, (0, g)), (4, (0, y4)), (5, (0, y5))], [(4, z24), (4, z25)], w)) 4 rfl ?_
            refine e_Ok.mulL (z := z25 * z24) rfl (by omega) (by omega) ?_
            refine e_Ok.run (t' := (69, [(7, (4, z25)), (6, (0, z24)), (0, (0, f)), (3, (0, g)), (4, (0, y4)), (5, (0, y5))], [(4, 1), (4, z25), (4, z25), (4, g), (4, z25 * z24)], w)) 5 rfl ?_
            refine e_Ok.subL (z := z25 - 1) rfl (by omega) (by omega) ?_
            refine e_Ok.mulL (z := z25 * (z25 - 1)) rfl (by omega) (by omega) ?_
            refine e_Ok.run (t' := (74, [(7, (4, z25)), (6, (0, z24)), (0, (0, f)), (3, (0, g)), (4, (0, y4)), (5, (0, y5))], [(4, 2), (4, z25 * (z25 - 1)), (4, g), (4, z25 * z24)], w)) 1 rfl ?_
            refine e_Ok.ldivn (fun x29 hx29 => ?_) rfl (by omega) (by omega)
            replace hx29 : x29 = (z25 * (z25 - 1)) / 2 := hx29
            have hb2 := hb.2.2.2 x29 hx29
            refine e_Ok.mulL (z := g * x29) rfl (by omega) (by omega) ?_
            refine e_Ok.subL (z := z25 * z24 - g * x29) rfl (by omega) (by omega) ?_
            refine e_Ok.run (t' := (79, [(7, (4, z25)), (6, (0, z24)), (0, (0, f)), (3, (0, g)), (4, (0, y4)), (5, (0, y5))], [(4, f), (4, z25 * z24 - g * x29)], w)) 2 rfl ?_
            refine e_Ok.lcmp rfl (fun z32 z32a z32b z32c => ?_)
            refine e_Ok.if1 rfl (fun h33 => ?_) (fun h33 => ?_)
            · replace h33 : (z32 : Int) > 0 := h33
              refine e_Ok.run (t' := (93, [(7, (4, z25)), (6, (0, z24)), (0, (0, f)), (3, (0, g)), (4, (0, y4)), (5, (0, y5))], [(0, 1), (0, z24)], w)) 2 rfl ?_
              refine e_Ok.sub' (z := z24 - 1) rfl (by omega) (by omega) ?_
              refine e_Ok.run (t' := (27, [(4, (0, z24 - 1)), (7, (4, z25)), (6, (0, z24)), (0, (0, f)), (3, (0, g)), (5, (0, y5))], [], w)) 2 rfl ?_
              refine e_Ok.sub eAlk (e_sub_of rfl ?_) (ih20 (z24 - 1) y5 ⟨by omega, by omega⟩ (by omega))
              exact ⟨rfl, rfl, rfl, rfl, trivial⟩
            · replace h33 : (z32 : Int) ≤ 0 := by have q : ¬ ((z32 : Int) > 0) := h33; omega
              refine e_Ok.run (t' := (27, [(5, (0, z24)), (7, (4, z25)), (6, (0, z24)), (0, (0, f)), (3, (0, g)), (4, (0, y4))], [], w)) 4 rfl ?_
              refine e_Ok.sub eAlk (e_sub_of rfl ?_) (ih20 y4 z24 ⟨by omega, by omega⟩ (by omega))
              exact ⟨rfl, rfl, rfl, rfl, trivial⟩
      refine e_Ok.sub eAlk (e_sub_of rfl ?_) (hL19 (2000 + 1 : Int).toNat (s + g) 0 ⟨by omega, by omega⟩ (by omega))
      exact ⟨rfl, rfl, rfl, rfl, trivial⟩
    · replace h18 : (s + g : Int) ≤ 0 := by have q : ¬ ((s + g : Int) > 0) := h18; omega
      refine e_Ok.run (t' := (23, [(4, (0, s + g)), (0, (0, f)), (1, (0, s)), (2, (0, v)), (3, (0, g))], [(0, s + g)], w)) 1 rfl ?_
      refine e_Ok.rets rfl rfl ?_
      exact ⟨_, rfl, rfl, by omega, by omega⟩
end
