noncomputable section
theorem l_126_x {d : Nat} (hd : 19 ≤ d) {w : eW} (hT : e_Has kLt w) (hH : e_Has kLr w) (ha : w 1 6 < w 1 7) (hn : w 1 7 ≤ w 1 0) : e_Ok 20 elay kcode eI d 126 (0, [(0, (1, 1))], [], w) (fun r w' => ∃ z : Int, r = [(0, z)] ∧ ((z = 1 ∧ ∀ k, 0 ≤ k → k ≤ 32 → ¬ kwd (w 5) (w 1 6) (w 1 7) k) ∨ ∃ k, z = 21 + k ∧ kwd (w 5) (w 1 6) (w 1 7) k)) := by
  obtain ⟨d, rfl⟩ : ∃ e, d = e + 1 := ⟨d - 1, by omega⟩
  have p0 := e_Has.get hH (c := 1) (k := 0) (lo := 0) (hi := 4000) rfl (by decide)
  have p6 := e_Has.get hH (c := 1) (k := 6) (lo := 0) (hi := 4000) rfl (by decide)
  have p7 := e_Has.get hH (c := 1) (k := 7) (lo := 0) (hi := 4000) rfl (by decide)
  refine e_Ok.run (t' := (4, [(1, (0, 21)), (0, (1, 1))], [(1, 1)], w)) 3 rfl ?_
  have h1 := (e_Has.get hH (c := 1) (k := 6) (lo := 0) (hi := 4000) rfl (by decide))
  refine e_Ok.getf (z := w 1 6) rfl rfl rfl rfl rfl (by omega) ?_
  refine e_Ok.run (t' := (13, [(4, (0, 0)), (3, (0, 1)), (2, (0, w 1 6)), (1, (0, 21)), (0, (1, 1))], [], w)) 5 rfl ?_
  have hL2 : ∀ (nn : Nat) (y1 : Int) (y2 : Int) (y3 : Int) (y4 : Int), ((0 ≤ y4 ∧ y4 ≤ 171)) ∧ ((y1 = 21 + (kyp y4).1 ∧ y2 = w 1 6 + (kyp y4).2)) ∧ ((0 ≤ y3 ∧ y3 ≤ 1)) ∧ wkA (w 5) (w 1 6) (w 1 7) y4 y3 ∧ (∀ k, 0 ≤ k → k < (kyp y4).1 → ¬ kwd (w 5) (w 1 6) (w 1 7) k) → 172 - y4 < nn → e_Ok 20 elay kcode eI (d + 1) 126 (13, [(0, (1, 1)), (1, (0, y1)), (2, (0, y2)), (3, (0, y3)), (4, (0, y4))], [], w) (fun r w' => ∃ z : Int, r = [(0, z)] ∧ ((z = 1 ∧ ∀ k, 0 ≤ k → k ≤ 32 → ¬ kwd (w 5) (w 1 6) (w 1 7) k) ∨ ∃ k, z = 21 + k ∧ kwd (w 5) (w 1 6) (w 1 7) k)) := by
    intro nn
    induction nn with
    | zero => intro y1 y2 y3 y4 hj hm; obtain ⟨j4, j5, j6, j7, j8⟩ := hj; exfalso; omega
    | succ nn ih3 =>
      intro y1 y2 y3 y4 hj hm
      obtain ⟨j4, j5, j6, j7, j8⟩ := hj
      have kb := kyp_r (i := y4) (by omega)
      refine e_Ok.run (t' := (15, [(0, (1, 1)), (1, (0, y1)), (2, (0, y2)), (3, (0, y3)), (4, (0, y4))], [(0, y4)], w)) 1 rfl ?_
      refine e_Ok.run (t' := (17, [(0, (1, 1)), (1, (0, y1)), (2, (0, y2)), (3, (0, y3)), (4, (0, y4))], [(1, 357), (0, y4)], w)) 1 rfl ?_
      refine e_Ok.run (t' := (20, [(0, (1, 1)), (1, (0, y1)), (2, (0, y2)), (3, (0, y3)), (4, (0, y4))], [(0, 171), (0, y4)], w)) 1 rfl ?_
      refine e_Ok.if2 rfl (fun h9 => ?_) (fun h9 => ?_)
      · replace h9 : (y4 : Int) ≥ 171 := h9
        refine e_Ok.run (t' := (105, [(0, (1, 1)), (1, (0, y1)), (2, (0, y2)), (3, (0, y3)), (4, (0, y4))], [(0, 1)], w)) 1 rfl ?_
        refine e_Ok.rets rfl rfl ?_
        exact ⟨_, rfl, Or.inl ⟨rfl, fun k k0 k1 => j8 k k0 (by have e4 : y4 = 171 := (by omega); have e5 : (kyp 171).1 = 33 := (by decide +kernel); rw [e4, e5]; omega)⟩⟩
      · replace h9 : (y4 : Int) < 171 := by have q : ¬ ((y4 : Int) ≥ 171) := h9; omega
        refine e_Ok.run (t' := (25, [(0, (1, 1)), (1, (0, y1)), (2, (0, y2)), (3, (0, y3)), (4, (0, y4))], [(1, 357)], w)) 1 rfl ?_
        refine e_Ok.run (t' := (27, [(0, (1, 1)), (1, (0, y1)), (2, (0, y2)), (3, (0, y3)), (4, (0, y4))], [(0, y4), (1, 357)], w)) 1 rfl ?_
        refine e_Ok.kc (by omega) rfl rfl ?_
        have z10b := kyk_in (y4)
        generalize hz10 : kyk (y4) = z10
        rw [hz10] at z10b
        refine e_Ok.run (t' := (36, [(5, (0, z10)), (0, (1, 1)), (1, (0, y1)), (2, (0, y2)), (3, (0, y3)), (4, (0, y4))], [(0, 32), (0, z10)], w)) 3 rfl ?_
        refine e_Ok.if2 rfl (fun h11 => ?_) (fun h11 => ?_)
        · replace h11 : (z10 : Int) = 32 := h11
          refine e_Ok.run (t' := (75, [(5, (0, z10)), (0, (1, 1)), (1, (0, y1)), (2, (0, y2)), (3, (0, y3)), (4, (0, y4))], [(0, y3)], w)) 1 rfl ?_
          refine e_Ok.if1 rfl (fun h12 => ?_) (fun h12 => ?_)
          · replace h12 : (y3 : Int) = 0 := h12
            refine e_Ok.inc (z := y1 + 1) rfl rfl (by omega) (by omega) ?_
            show e_Ok 20 elay kcode eI (d + 1) 126 (91, [(1, (0, y1 + 1)), (5, (0, z10)), (0, (1, 1)), (2, (0, y2)), (3, (0, y3)), (4, (0, y4))], [], w) _
            refine e_Ok.run (t' := (92, [(1, (0, y1 + 1)), (5, (0, z10)), (0, (1, 1)), (2, (0, y2)), (3, (0, y3)), (4, (0, y4))], [(1, 1)], w)) 1 rfl ?_
            refine e_Ok.getf (z := w 1 6) rfl rfl rfl rfl rfl (by omega) ?_
            refine e_Ok.run (t' := (98, [(3, (0, 1)), (2, (0, w 1 6)), (1, (0, y1 + 1)), (5, (0, z10)), (0, (1, 1)), (4, (0, y4))], [], w)) 3 rfl ?_
            refine e_Ok.inc (z := y4 + 1) rfl rfl (by omega) (by omega) ?_
            show e_Ok 20 elay kcode eI (d + 1) 126 (101, [(4, (0, y4 + 1)), (3, (0, 1)), (2, (0, w 1 6)), (1, (0, y1 + 1)), (5, (0, z10)), (0, (1, 1))], [], w) _
            refine e_Ok.run (t' := (13, [(4, (0, y4 + 1)), (3, (0, 1)), (2, (0, w 1 6)), (1, (0, y1 + 1)), (5, (0, z10)), (0, (1, 1))], [], w)) 1 rfl ?_
            refine e_Ok.sub kAlk (e_sub_of rfl ?_) (ih3 (y1 + 1) (w 1 6) 1 (y4 + 1) ⟨(by omega), (by first | (have a := kyp_n (i := y4) (by omega) (by rw [hz10]; omega); omega) | (have a := kyp_s (i := y4) (by omega) (by rw [hz10]; omega); omega)), (by omega), (by first | exact wkA_s (by omega) (by rw [hz10]; omega) | exact wkA_c (s := y2) (by omega) (by rw [hz10]; omega) (by omega) (by omega) j7 (by rw [hz10]; omega)), (by first | exact wkN_s (by omega) (by rw [hz10]; omega) j7 j8 (by omega) | (have a := kyp_n (i := y4) (by omega) (by rw [hz10]; omega); rw [a.1]; exact j8))⟩ (by omega))
            exact ⟨rfl, rfl, rfl, rfl, rfl, trivial⟩
          · replace h12 : (y3 : Int) ≠ 0 := by have q : ¬ ((y3 : Int) = 0) := h12; omega
            refine e_Ok.run (t' := (80, [(5, (0, z10)), (0, (1, 1)), (1, (0, y1)), (2, (0, y2)), (3, (0, y3)), (4, (0, y4))], [(1, 1), (0, y2)], w)) 2 rfl ?_
            have h13 := (e_Has.get hH (c := 1) (k := 7) (lo := 0) (hi := 4000) rfl (by decide))
            refine e_Ok.getf (z := w 1 7) rfl rfl rfl rfl rfl (by omega) ?_
            refine e_Ok.if2 rfl (fun h14 => ?_) (fun h14 => ?_)
            · replace h14 : (y2 : Int) ≠ w 1 7 := h14
              refine e_Ok.inc (z := y1 + 1) rfl rfl (by omega) (by omega) ?_
              show e_Ok 20 elay kcode eI (d + 1) 126 (91, [(1, (0, y1 + 1)), (5, (0, z10)), (0, (1, 1)), (2, (0, y2)), (3, (0, y3)), (4, (0, y4))], [], w) _
              refine e_Ok.run (t' := (92, [(1, (0, y1 + 1)), (5, (0, z10)), (0, (1, 1)), (2, (0, y2)), (3, (0, y3)), (4, (0, y4))], [(1, 1)], w)) 1 rfl ?_
              refine e_Ok.getf (z := w 1 6) rfl rfl rfl rfl rfl (by omega) ?_
              refine e_Ok.run (t' := (98, [(3, (0, 1)), (2, (0, w 1 6)), (1, (0, y1 + 1)), (5, (0, z10)), (0, (1, 1)), (4, (0, y4))], [], w)) 3 rfl ?_
              refine e_Ok.inc (z := y4 + 1) rfl rfl (by omega) (by omega) ?_
              show e_Ok 20 elay kcode eI (d + 1) 126 (101, [(4, (0, y4 + 1)), (3, (0, 1)), (2, (0, w 1 6)), (1, (0, y1 + 1)), (5, (0, z10)), (0, (1, 1))], [], w) _
              refine e_Ok.run (t' := (13, [(4, (0, y4 + 1)), (3, (0, 1)), (2, (0, w 1 6)), (1, (0, y1 + 1)), (5, (0, z10)), (0, (1, 1))], [], w)) 1 rfl ?_
              refine e_Ok.sub kAlk (e_sub_of rfl ?_) (ih3 (y1 + 1) (w 1 6) 1 (y4 + 1) ⟨(by omega), (by first | (have a := kyp_n (i := y4) (by omega) (by rw [hz10]; omega); omega) | (have a := kyp_s (i := y4) (by omega) (by rw [hz10]; omega); omega)), (by omega), (by first | exact wkA_s (by omega) (by rw [hz10]; omega) | exact wkA_c (s := y2) (by omega) (by rw [hz10]; omega) (by omega) (by omega) j7 (by rw [hz10]; omega)), (by first | exact wkN_s (by omega) (by rw [hz10]; omega) j7 j8 (by omega) | (have a := kyp_n (i := y4) (by omega) (by rw [hz10]; omega); rw [a.1]; exact j8))⟩ (by omega))
              exact ⟨rfl, rfl, rfl, rfl, rfl, trivial⟩
            · replace h14 : (y2 : Int) = w 1 7 := by have q : ¬ ((y2 : Int) ≠ w 1 7) := h14; omega
              refine e_Ok.run (t' := (87, [(5, (0, z10)), (0, (1, 1)), (1, (0, y1)), (2, (0, y2)), (3, (0, y3)), (4, (0, y4))], [(0, y1)], w)) 1 rfl ?_
              refine e_Ok.rets rfl rfl ?_
              exact ⟨_, rfl, Or.inr ⟨(kyp y4).1, by omega, by have e1 : y3 = 1 := (by omega); have g := j7; rw [e1] at g; exact wkY (by omega) (by rw [hz10]; omega) g (by omega)⟩⟩
        · replace h11 : (z10 : Int) ≠ 32 := by have q : ¬ ((z10 : Int) = 32) := h11; omega
          refine e_Ok.run (t' := (40, [(5, (0, z10)), (0, (1, 1)), (1, (0, y1)), (2, (0, y2)), (3, (0, y3)), (4, (0, y4))], [(0, y3)], w)) 1 rfl ?_
          refine e_Ok.if1 rfl (fun h15 => ?_) (fun h15 => ?_)
          · replace h15 : (y3 : Int) = 0 := h15
            refine e_Ok.run (t' := (68, [(3, (0, 0)), (5, (0, z10)), (0, (1, 1)), (1, (0, y1)), (2, (0, y2)), (4, (0, y4))], [], w)) 2 rfl ?_
            refine e_Ok.inc (z := y2 + 1) rfl rfl (by omega) (by omega) ?_
            show e_Ok 20 elay kcode eI (d + 1) 126 (71, [(2, (0, y2 + 1)), (3, (0, 0)), (5, (0, z10)), (0, (1, 1)), (1, (0, y1)), (4, (0, y4))], [], w) _
            refine e_Ok.run (t' := (98, [(2, (0, y2 + 1)), (3, (0, 0)), (5, (0, z10)), (0, (1, 1)), (1, (0, y1)), (4, (0, y4))], [], w)) 1 rfl ?_
            refine e_Ok.inc (z := y4 + 1) rfl rfl (by omega) (by omega) ?_
            show e_Ok 20 elay kcode eI (d + 1) 126 (101, [(4, (0, y4 + 1)), (2, (0, y2 + 1)), (3, (0, 0)), (5, (0, z10)), (0, (1, 1)), (1, (0, y1))], [], w) _
            refine e_Ok.run (t' := (13, [(4, (0, y4 + 1)), (2, (0, y2 + 1)), (3, (0, 0)), (5, (0, z10)), (0, (1, 1)), (1, (0, y1))], [], w)) 1 rfl ?_
            refine e_Ok.sub kAlk (e_sub_of rfl ?_) (ih3 y1 (y2 + 1) 0 (y4 + 1) ⟨(by omega), (by first | (have a := kyp_n (i := y4) (by omega) (by rw [hz10]; omega); omega) | (have a := kyp_s (i := y4) (by omega) (by rw [hz10]; omega); omega)), (by omega), (by first | exact wkA_s (by omega) (by rw [hz10]; omega) | exact wkA_c (s := y2) (by omega) (by rw [hz10]; omega) (by omega) (by omega) j7 (by rw [hz10]; omega)), (by first | exact wkN_s (by omega) (by rw [hz10]; omega) j7 j8 (by omega) | (have a := kyp_n (i := y4) (by omega) (by rw [hz10]; omega); rw [a.1]; exact j8))⟩ (by omega))
            exact ⟨rfl, rfl, rfl, rfl, rfl, trivial⟩
          · replace h15 : (y3 : Int) ≠ 0 := by have q : ¬ ((y3 : Int) = 0) := h15; omega
            refine e_Ok.run (t' := (45, [(5, (0, z10)), (0, (1, 1)), (1, (0, y1)), (2, (0, y2)), (3, (0, y3)), (4, (0, y4))], [(1, 1), (0, y2)], w)) 2 rfl ?_
            have h16 := (e_Has.get hH (c := 1) (k := 7) (lo := 0) (hi := 4000) rfl (by decide))
            refine e_Ok.getf (z := w 1 7) rfl rfl rfl rfl rfl (by omega) ?_
            refine e_Ok.if2 rfl (fun h17 => ?_) (fun h17 => ?_)
            · replace h17 : (y2 : Int) ≥ w 1 7 := h17
              refine e_Ok.run (t' := (68, [(3, (0, 0)), (5, (0, z10)), (0, (1, 1)), (1, (0, y1)), (2, (0, y2)), (4, (0, y4))], [], w)) 2 rfl ?_
              refine e_Ok.inc (z := y2 + 1) rfl rfl (by omega) (by omega) ?_
              show e_Ok 20 elay kcode eI (d + 1) 126 (71, [(2, (0, y2 + 1)), (3, (0, 0)), (5, (0, z10)), (0, (1, 1)), (1, (0, y1)), (4, (0, y4))], [], w) _
              refine e_Ok.run (t' := (98, [(2, (0, y2 + 1)), (3, (0, 0)), (5, (0, z10)), (0, (1, 1)), (1, (0, y1)), (4, (0, y4))], [], w)) 1 rfl ?_
              refine e_Ok.inc (z := y4 + 1) rfl rfl (by omega) (by omega) ?_
              show e_Ok 20 elay kcode eI (d + 1) 126 (101, [(4, (0, y4 + 1)), (2, (0, y2 + 1)), (3, (0, 0)), (5, (0, z10)), (0, (1, 1)), (1, (0, y1))], [], w) _
              refine e_Ok.run (t' := (13, [(4, (0, y4 + 1)), (2, (0, y2 + 1)), (3, (0, 0)), (5, (0, z10)), (0, (1, 1)), (1, (0, y1))], [], w)) 1 rfl ?_
              refine e_Ok.sub kAlk (e_sub_of rfl ?_) (ih3 y1 (y2 + 1) 0 (y4 + 1) ⟨(by omega), (by first | (have a := kyp_n (i := y4) (by omega) (by rw [hz10]; omega); omega) | (have a := kyp_s (i := y4) (by omega) (by rw [hz10]; omega); omega)), (by omega), (by first | exact wkA_s (by omega) (by rw [hz10]; omega) | exact wkA_c (s := y2) (by omega) (by rw [hz10]; omega) (by omega) (by omega) j7 (by rw [hz10]; omega)), (by first | exact wkN_s (by omega) (by rw [hz10]; omega) j7 j8 (by omega) | (have a := kyp_n (i := y4) (by omega) (by rw [hz10]; omega); rw [a.1]; exact j8))⟩ (by omega))
              exact ⟨rfl, rfl, rfl, rfl, rfl, trivial⟩
            · replace h17 : (y2 : Int) < w 1 7 := by have q : ¬ ((y2 : Int) ≥ w 1 7) := h17; omega
              refine e_Ok.run (t' := (52, [(5, (0, z10)), (0, (1, 1)), (1, (0, y1)), (2, (0, y2)), (3, (0, y3)), (4, (0, y4))], [(1, 1)], w)) 1 rfl ?_
              refine e_Ok.getr (z := 5) rfl rfl rfl rfl (Eq.trans (e_Has.eq hT rfl) (by omega)) (by omega) ?_
              refine e_Ok.run (t' := (56, [(5, (0, z10)), (0, (1, 1)), (1, (0, y1)), (2, (0, y2)), (3, (0, y3)), (4, (0, y4))], [(0, y2), (1, 5)], w)) 1 rfl ?_
              have h18 := (e_Has.get hH (c := 5) (k := y2) (lo := (-2147483648)) (hi := 2147483647) rfl (by decide))
              refine e_Ok.ald (z := w 5 y2) rfl rfl rfl (by omega) rfl (by omega) ?_
              refine e_Ok.run (t' := (59, [(5, (0, z10)), (0, (1, 1)), (1, (0, y1)), (2, (0, y2)), (3, (0, y3)), (4, (0, y4))], [(0, z10), (0, w 5 y2)], w)) 1 rfl ?_
              refine e_Ok.if2 rfl (fun h19 => ?_) (fun h19 => ?_)
              · replace h19 : (w 5 y2 : Int) ≠ z10 := h19
                refine e_Ok.run (t' := (68, [(3, (0, 0)), (5, (0, z10)), (0, (1, 1)), (1, (0, y1)), (2, (0, y2)), (4, (0, y4))], [], w)) 2 rfl ?_
                refine e_Ok.inc (z := y2 + 1) rfl rfl (by omega) (by omega) ?_
                show e_Ok 20 elay kcode eI (d + 1) 126 (71, [(2, (0, y2 + 1)), (3, (0, 0)), (5, (0, z10)), (0, (1, 1)), (1, (0, y1)), (4, (0, y4))], [], w) _
                refine e_Ok.run (t' := (98, [(2, (0, y2 + 1)), (3, (0, 0)), (5, (0, z10)), (0, (1, 1)), (1, (0, y1)), (4, (0, y4))], [], w)) 1 rfl ?_
                refine e_Ok.inc (z := y4 + 1) rfl rfl (by omega) (by omega) ?_
                show e_Ok 20 elay kcode eI (d + 1) 126 (101, [(4, (0, y4 + 1)), (2, (0, y2 + 1)), (3, (0, 0)), (5, (0, z10)), (0, (1, 1)), (1, (0, y1))], [], w) _
                refine e_Ok.run (t' := (13, [(4, (0, y4 + 1)), (2, (0, y2 + 1)), (3, (0, 0)), (5, (0, z10)), (0, (1, 1)), (1, (0, y1))], [], w)) 1 rfl ?_
                refine e_Ok.sub kAlk (e_sub_of rfl ?_) (ih3 y1 (y2 + 1) 0 (y4 + 1) ⟨(by omega), (by first | (have a := kyp_n (i := y4) (by omega) (by rw [hz10]; omega); omega) | (have a := kyp_s (i := y4) (by omega) (by rw [hz10]; omega); omega)), (by omega), (by first | exact wkA_s (by omega) (by rw [hz10]; omega) | exact wkA_c (s := y2) (by omega) (by rw [hz10]; omega) (by omega) (by omega) j7 (by rw [hz10]; omega)), (by first | exact wkN_s (by omega) (by rw [hz10]; omega) j7 j8 (by omega) | (have a := kyp_n (i := y4) (by omega) (by rw [hz10]; omega); rw [a.1]; exact j8))⟩ (by omega))
                exact ⟨rfl, rfl, rfl, rfl, rfl, trivial⟩
              · replace h19 : (w 5 y2 : Int) = z10 := by have q : ¬ ((w 5 y2 : Int) ≠ z10) := h19; omega
                refine e_Ok.run (t' := (68, [(3, (0, 1)), (5, (0, z10)), (0, (1, 1)), (1, (0, y1)), (2, (0, y2)), (4, (0, y4))], [], w)) 3 rfl ?_
                refine e_Ok.inc (z := y2 + 1) rfl rfl (by omega) (by omega) ?_
                show e_Ok 20 elay kcode eI (d + 1) 126 (71, [(2, (0, y2 + 1)), (3, (0, 1)), (5, (0, z10)), (0, (1, 1)), (1, (0, y1)), (4, (0, y4))], [], w) _
                refine e_Ok.run (t' := (98, [(2, (0, y2 + 1)), (3, (0, 1)), (5, (0, z10)), (0, (1, 1)), (1, (0, y1)), (4, (0, y4))], [], w)) 1 rfl ?_
                refine e_Ok.inc (z := y4 + 1) rfl rfl (by omega) (by omega) ?_
                show e_Ok 20 elay kcode eI (d + 1) 126 (101, [(4, (0, y4 + 1)), (2, (0, y2 + 1)), (3, (0, 1)), (5, (0, z10)), (0, (1, 1)), (1, (0, y1))], [], w) _
                refine e_Ok.run (t' := (13, [(4, (0, y4 + 1)), (2, (0, y2 + 1)), (3, (0, 1)), (5, (0, z10)), (0, (1, 1)), (1, (0, y1))], [], w)) 1 rfl ?_
                refine e_Ok.sub kAlk (e_sub_of rfl ?_) (ih3 y1 (y2 + 1) 1 (y4 + 1) ⟨(by omega), (by first | (have a := kyp_n (i := y4) (by omega) (by rw [hz10]; omega); omega) | (have a := kyp_s (i := y4) (by omega) (by rw [hz10]; omega); omega)), (by omega), (by first | exact wkA_s (by omega) (by rw [hz10]; omega) | exact wkA_c (s := y2) (by omega) (by rw [hz10]; omega) (by omega) (by omega) j7 (by rw [hz10]; omega)), (by first | exact wkN_s (by omega) (by rw [hz10]; omega) j7 j8 (by omega) | (have a := kyp_n (i := y4) (by omega) (by rw [hz10]; omega); rw [a.1]; exact j8))⟩ (by omega))
                exact ⟨rfl, rfl, rfl, rfl, rfl, trivial⟩
  refine e_Ok.sub kAlk (e_sub_of rfl ?_) (hL2 (172 + 1 : Int).toNat 21 (w 1 6) 1 0 ⟨(by omega), (by rw [kyp_0]; exact ⟨rfl, by show _ = w 1 6 + (0 : Int); omega⟩), (by omega), wkA_0, (fun k k0 k1 => by rw [kyp_0] at k1; exact absurd k1 (by show ¬ k < 0; omega))⟩ (by omega))
  exact ⟨rfl, rfl, rfl, rfl, rfl, trivial⟩
set_option maxHeartbeats 4000000 in
theorem l_128_x {d : Nat} (hd : 21 ≤ d) {w : eW} (hT : e_Has kLt w) (hH : e_Has kLr w) (hn : w 1 7 < w 1 0) (ha : w 1 6 = w 1 7) {c : Int} (g_c : 0 ≤ c ∧ c ≤ 255) : e_Ok 20 elay kcode eI d 128 (0, [(0, (1, 1)), (1, (0, c))], [], w) (fun r w' => r = [] ∧ w' 1 5 = sgK c (byT (w 5) (w 1 0) (w 1 7 + 1)) ∧ w' 1 7 = w 1 7 + sgE c (byT (w 5) (w 1 0) (w 1 7 + 1))) := by
  obtain ⟨d, rfl⟩ : ∃ e, d = e + 1 := ⟨d - 1, by omega⟩
  have p0 := e_Has.get hH (c := 1) (k := 0) (lo := 0) (hi := 4000) rfl (by decide)
  have p6 := e_Has.get hH (c := 1) (k := 6) (lo := 0) (hi := 4000) rfl (by decide)
  have p7 := e_Has.get hH (c := 1) (k := 7) (lo := 0) (hi := 4000) rfl (by decide)
  refine e_Ok.run (t' := (2, [(0, (1, 1)), (1, (0, c))], [(1, 1), (1, 1)], w)) 2 rfl ?_
  have h1 := (e_Has.get hH (c := 1) (k := 7) (lo := 0) (hi := 4000) rfl (by decide))
  refine e_Ok.getf (z := w 1 7) rfl rfl rfl rfl rfl (by omega) ?_
  refine e_Ok.run (t' := (6, [(0, (1, 1)), (1, (0, c))], [(0, 1), (0, w 1 7), (1, 1)], w)) 1 rfl ?_
  refine e_Ok.add (z := w 1 7 + 1) rfl (by omega) (by omega) ?_
  refine e_Ok.putf rfl rfl rfl rfl ?_
  generalize hw2 : e_up w 1 7 (w 1 7 + 1) = w2
  have f3 : e_fr kRn w w2 := e_fr.up (e_fr.refl w) hw2 (by unfold kRn; omega)
  have hT4 : e_Has kLt w2 := e_Has.ups hT hw2 rfl
  have hH5 : e_Has kLr w2 := e_Has.upr hH hw2 rfl (by omega)
  refine e_Ok.run (t' := (12, [(0, (1, 1)), (1, (0, c))], [(1, 358)], w2)) 1 rfl ?_
  refine e_Ok.run (t' := (13, [(0, (1, 1)), (1, (0, c))], [(0, c), (1, 358)], w2)) 1 rfl ?_
  refine e_Ok.i2cx (by omega) rfl ?_
  refine e_Ok.ixx rfl rfl (fun z6 hz6 => ?_)
  have z6r := sgI_r c; rw [← hz6] at z6r
  refine e_Ok.run (t' := (20, [(2, (0, z6)), (0, (1, 1)), (1, (0, c))], [(0, z6), (1, 1)], w2)) 3 rfl ?_
  refine e_Ok.if1 rfl (fun h7 => ?_) (fun h7 => ?_)
  · replace h7 : (z6 : Int) ≥ 0 := h7
    refine e_Ok.run (t' := (30, [(2, (0, z6)), (0, (1, 1)), (1, (0, c))], [(0, z6), (0, 8), (1, 1)], w2)) 2 rfl ?_
    refine e_Ok.add (z := z6 + 8) rfl (by omega) (by omega) ?_
    refine e_Ok.putf rfl rfl rfl rfl ?_
    generalize hw8 : e_up w2 1 5 (z6 + 8) = w8
    have f9 : e_fr kRn w w8 := e_fr.up f3 hw8 (by unfold kRn; omega)
    have hT10 : e_Has kLt w8 := e_Has.ups hT4 hw8 rfl
    have hH11 : e_Has kLr w8 := e_Has.upr hH5 hw8 rfl (by omega)
    refine e_Ok.run (t' := (36, [(2, (0, z6)), (0, (1, 1)), (1, (0, c))], [(1, 1), (1, 1)], w8)) 2 rfl ?_
    refine e_Ok.getf (z := w 1 7 + 1) rfl rfl rfl rfl (by rw [← hw8]; exact (e_up_ne _ _ (Or.inr (by omega))).trans (by rw [← hw2]; exact e_up_eq _ _ _ _)) (by omega) ?_
    refine e_Ok.callV rfl (by omega) rfl rfl rfl rfl (l_120 hT10 hH11 (by omega)) (fun r12 w13 h14 => ?_)
    obtain ⟨z15, rfl, rfl, q16r, q16x⟩ := h14
    replace q16x : (0 ≤ (w 1 7 + 1) ∧ (w 1 7 + 1) < (w 1 0) ∧ z15 = (w 5 (w 1 7 + 1)) % 256) ∨ (((w 1 7 + 1) < 0 ∨ (w 1 0) ≤ (w 1 7 + 1)) ∧ z15 = 0) := by rw [show w8 1 0 = w 1 0 from (by rw [← hw8]; exact (e_up_ne _ _ (Or.inr (by omega))).trans (by rw [← hw2]; exact (e_up_ne _ _ (Or.inr (by omega))).trans rfl)), show w8 5 (w 1 7 + 1) = w 5 (w 1 7 + 1) from (by rw [← hw8]; exact (e_up_ne _ _ (Or.inl (by omega))).trans (by rw [← hw2]; exact (e_up_ne _ _ (Or.inl (by omega))).trans rfl))] at q16x; exact q16x
    have hbA : byT (w 5) (w 1 0) (w 1 7 + 1) = z15 := byT_of q16x (by omega)
    show e_Ok 20 elay kcode eI (d + 1) 128 (42, [(2, (0, z6)), (0, (1, 1)), (1, (0, c))], [(0, z15)], w8) _
    refine e_Ok.run (t' := (44, [(2, (0, z6)), (0, (1, 1)), (1, (0, c))], [(0, 61), (0, z15)], w8)) 1 rfl ?_
    refine e_Ok.if2 rfl (fun h17 => ?_) (fun h17 => ?_)
    · replace h17 : (z15 : Int) = 61 := h17
      refine e_Ok.run (t' := (51, [(2, (0, z6)), (0, (1, 1)), (1, (0, c))], [(0, 33), (0, c)], w8)) 2 rfl ?_
      refine e_Ok.if2 rfl (fun h18 => ?_) (fun h18 => ?_)
      · replace h18 : (c : Int) ≠ 33 := h18
        refine e_Ok.run (t' := (65, [(2, (0, z6)), (0, (1, 1)), (1, (0, c))], [(0, 60), (0, c)], w8)) 2 rfl ?_
        refine e_Ok.if2 rfl (fun h19 => ?_) (fun h19 => ?_)
        · replace h19 : (c : Int) ≠ 60 := h19
          refine e_Ok.run (t' := (80, [(2, (0, z6)), (0, (1, 1)), (1, (0, c))], [(0, 62), (0, c)], w8)) 2 rfl ?_
          refine e_Ok.if2 rfl (fun h20 => ?_) (fun h20 => ?_)
          · replace h20 : (c : Int) ≠ 62 := h20
            refine e_Ok.rets rfl rfl ?_
            have y5 : w8 1 5 = z6 + 8 := (by rw [← hw8]; exact e_up_eq _ _ _ _)
            have y7 : w8 1 7 = w 1 7 + 1 := (by rw [← hw8]; exact (e_up_ne _ _ (Or.inr (by omega))).trans (by rw [← hw2]; exact e_up_eq _ _ _ _))
            exact ⟨rfl, by (rw [hbA, y5]; unfold sgK; (repeat' split) <;> omega), by (rw [hbA, y7]; unfold sgE; split <;> omega)⟩
          · replace h20 : (c : Int) = 62 := by have q : ¬ ((c : Int) ≠ 62) := h20; omega
            refine e_Ok.run (t' := (86, [(2, (0, z6)), (0, (1, 1)), (1, (0, c))], [(0, 7), (1, 1)], w8)) 2 rfl ?_
            refine e_Ok.putf rfl rfl rfl rfl ?_
            generalize hw21 : e_up w8 1 5 7 = w21
            have f22 : e_fr kRn w w21 := e_fr.up f9 hw21 (by unfold kRn; omega)
            have hT23 : e_Has kLt w21 := e_Has.ups hT10 hw21 rfl
            have hH24 : e_Has kLr w21 := e_Has.upr hH11 hw21 rfl (by omega)
            refine e_Ok.run (t' := (95, [(2, (0, z6)), (0, (1, 1)), (1, (0, c))], [(1, 1), (1, 1)], w21)) 3 rfl ?_
            refine e_Ok.getf (z := w 1 7 + 1) rfl rfl rfl rfl (by rw [← hw21]; exact (e_up_ne _ _ (Or.inr (by omega))).trans (by rw [← hw8]; exact (e_up_ne _ _ (Or.inr (by omega))).trans (by rw [← hw2]; exact e_up_eq _ _ _ _))) (by omega) ?_
            refine e_Ok.run (t' := (99, [(2, (0, z6)), (0, (1, 1)), (1, (0, c))], [(0, 1), (0, w 1 7 + 1), (1, 1)], w21)) 1 rfl ?_
            refine e_Ok.add (z := w 1 7 + 2) rfl (by omega) (by omega) ?_
            refine e_Ok.putf rfl rfl rfl rfl ?_
            generalize hw25 : e_up w21 1 7 (w 1 7 + 2) = w25
            have f26 : e_fr kRn w w25 := e_fr.up f22 hw25 (by unfold kRn; omega)
            have hT27 : e_Has kLt w25 := e_Has.ups hT23 hw25 rfl
            have hH28 : e_Has kLr w25 := e_Has.upr hH24 hw25 rfl (by omega)
            refine e_Ok.rets rfl rfl ?_
            have y5 : w25 1 5 = 7 := (by rw [← hw25]; exact (e_up_ne _ _ (Or.inr (by omega))).trans (by rw [← hw21]; exact e_up_eq _ _ _ _))
            have y7 : w25 1 7 = w 1 7 + 2 := (by rw [← hw25]; exact e_up_eq _ _ _ _)
            exact ⟨rfl, by (rw [hbA, y5]; unfold sgK; (repeat' split) <;> omega), by (rw [hbA, y7]; unfold sgE; split <;> omega)⟩
        · replace h19 : (c : Int) = 60 := by have q : ¬ ((c : Int) ≠ 60) := h19; omega
          refine e_Ok.run (t' := (71, [(2, (0, z6)), (0, (1, 1)), (1, (0, c))], [(0, 6), (1, 1)], w8)) 2 rfl ?_
          refine e_Ok.putf rfl rfl rfl rfl ?_
          generalize hw29 : e_up w8 1 5 6 = w29
          have f30 : e_fr kRn w w29 := e_fr.up f9 hw29 (by unfold kRn; omega)
          have hT31 : e_Has kLt w29 := e_Has.ups hT10 hw29 rfl
          have hH32 : e_Has kLr w29 := e_Has.upr hH11 hw29 rfl (by omega)
          refine e_Ok.run (t' := (95, [(2, (0, z6)), (0, (1, 1)), (1, (0, c))], [(1, 1), (1, 1)], w29)) 3 rfl ?_
          refine e_Ok.getf (z := w 1 7 + 1) rfl rfl rfl rfl (by rw [← hw29]; exact (e_up_ne _ _ (Or.inr (by omega))).trans (by rw [← hw8]; exact (e_up_ne _ _ (Or.inr (by omega))).trans (by rw [← hw2]; exact e_up_eq _ _ _ _))) (by omega) ?_
          refine e_Ok.run (t' := (99, [(2, (0, z6)), (0, (1, 1)), (1, (0, c))], [(0, 1), (0, w 1 7 + 1), (1, 1)], w29)) 1 rfl ?_
          refine e_Ok.add (z := w 1 7 + 2) rfl (by omega) (by omega) ?_
          refine e_Ok.putf rfl rfl rfl rfl ?_
          generalize hw33 : e_up w29 1 7 (w 1 7 + 2) = w33
          have f34 : e_fr kRn w w33 := e_fr.up f30 hw33 (by unfold kRn; omega)
          have hT35 : e_Has kLt w33 := e_Has.ups hT31 hw33 rfl
          have hH36 : e_Has kLr w33 := e_Has.upr hH32 hw33 rfl (by omega)
          refine e_Ok.rets rfl rfl ?_
          have y5 : w33 1 5 = 6 := (by rw [← hw33]; exact (e_up_ne _ _ (Or.inr (by omega))).trans (by rw [← hw29]; exact e_up_eq _ _ _ _))
          have y7 : w33 1 7 = w 1 7 + 2 := (by rw [← hw33]; exact e_up_eq _ _ _ _)
          exact ⟨rfl, by (rw [hbA, y5]; unfold sgK; (repeat' split) <;> omega), by (rw [hbA, y7]; unfold sgE; split <;> omega)⟩
      · replace h18 : (c : Int) = 33 := by have q : ¬ ((c : Int) ≠ 33) := h18; omega
        refine e_Ok.run (t' := (56, [(2, (0, z6)), (0, (1, 1)), (1, (0, c))], [(0, 5), (1, 1)], w8)) 2 rfl ?_
        refine e_Ok.putf rfl rfl rfl rfl ?_
        generalize hw37 : e_up w8 1 5 5 = w37
        have f38 : e_fr kRn w w37 := e_fr.up f9 hw37 (by unfold kRn; omega)
        have hT40 : e_Has kLt w37 := e_Has.ups hT10 hw37 rfl
        have hH41 : e_Has kLr w37 := e_Has.upr hH11 hw37 rfl (by omega)
        refine e_Ok.run (t' := (95, [(2, (0, z6)), (0, (1, 1)), (1, (0, c))], [(1, 1), (1, 1)], w37)) 3 rfl ?_
        refine e_Ok.getf (z := w 1 7 + 1) rfl rfl rfl rfl (by rw [← hw37]; exact (e_up_ne _ _ (Or.inr (by omega))).trans (by rw [← hw8]; exact (e_up_ne _ _ (Or.inr (by omega))).trans (by rw [← hw2]; exact e_up_eq _ _ _ _))) (by omega) ?_
        refine e_Ok.run (t' := (99, [(2, (0, z6)), (0, (1, 1)), (1, (0, c))], [(0, 1), (0, w 1 7 + 1), (1, 1)], w37)) 1 rfl ?_
        refine e_Ok.add (z := w 1 7 + 2) rfl (by omega) (by omega) ?_
        refine e_Ok.putf rfl rfl rfl rfl ?_
        generalize hw42 : e_up w37 1 7 (w 1 7 + 2) = w42
        have f43 : e_fr kRn w w42 := e_fr.up f38 hw42 (by unfold kRn; omega)
        have hT44 : e_Has kLt w42 := e_Has.ups hT40 hw42 rfl
        have hH45 : e_Has kLr w42 := e_Has.upr hH41 hw42 rfl (by omega)
        refine e_Ok.rets rfl rfl ?_
        have y5 : w42 1 5 = 5 := (by rw [← hw42]; exact (e_up_ne _ _ (Or.inr (by omega))).trans (by rw [← hw37]; exact e_up_eq _ _ _ _))
        have y7 : w42 1 7 = w 1 7 + 2 := (by rw [← hw42]; exact e_up_eq _ _ _ _)
        exact ⟨rfl, by (rw [hbA, y5]; unfold sgK; (repeat' split) <;> omega), by (rw [hbA, y7]; unfold sgE; split <;> omega)⟩
    · replace h17 : (z15 : Int) ≠ 61 := by have q : ¬ ((z15 : Int) = 61) := h17; omega
      refine e_Ok.rets rfl rfl ?_
      have y5 : w8 1 5 = z6 + 8 := (by rw [← hw8]; exact e_up_eq _ _ _ _)
      have y7 : w8 1 7 = w 1 7 + 1 := (by rw [← hw8]; exact (e_up_ne _ _ (Or.inr (by omega))).trans (by rw [← hw2]; exact e_up_eq _ _ _ _))
      exact ⟨rfl, by (rw [hbA, y5]; unfold sgK; (repeat' split) <;> omega), by (rw [hbA, y7]; unfold sgE; split <;> omega)⟩
  · replace h7 : (z6 : Int) < 0 := by have q : ¬ ((z6 : Int) ≥ 0) := h7; omega
    refine e_Ok.run (t' := (31, [(2, (0, z6)), (0, (1, 1)), (1, (0, c))], [(0, 3), (1, 1)], w2)) 2 rfl ?_
    refine e_Ok.putf rfl rfl rfl rfl ?_
    generalize hw46 : e_up w2 1 5 3 = w46
    have f47 : e_fr kRn w w46 := e_fr.up f3 hw46 (by unfold kRn; omega)
    have hT48 : e_Has kLt w46 := e_Has.ups hT4 hw46 rfl
    have hH49 : e_Has kLr w46 := e_Has.upr hH5 hw46 rfl (by omega)
    refine e_Ok.run (t' := (36, [(2, (0, z6)), (0, (1, 1)), (1, (0, c))], [(1, 1), (1, 1)], w46)) 2 rfl ?_
    refine e_Ok.getf (z := w 1 7 + 1) rfl rfl rfl rfl (by rw [← hw46]; exact (e_up_ne _ _ (Or.inr (by omega))).trans (by rw [← hw2]; exact e_up_eq _ _ _ _)) (by omega) ?_
    refine e_Ok.callV rfl (by omega) rfl rfl rfl rfl (l_120 hT48 hH49 (by omega)) (fun r50 w51 h52 => ?_)
    obtain ⟨z53, rfl, rfl, q54r, q54x⟩ := h52
    replace q54x : (0 ≤ (w 1 7 + 1) ∧ (w 1 7 + 1) < (w 1 0) ∧ z53 = (w 5 (w 1 7 + 1)) % 256) ∨ (((w 1 7 + 1) < 0 ∨ (w 1 0) ≤ (w 1 7 + 1)) ∧ z53 = 0) := by rw [show w46 1 0 = w 1 0 from (by rw [← hw46]; exact (e_up_ne _ _ (Or.inr (by omega))).trans (by rw [← hw2]; exact (e_up_ne _ _ (Or.inr (by omega))).trans rfl)), show w46 5 (w 1 7 + 1) = w 5 (w 1 7 + 1) from (by rw [← hw46]; exact (e_up_ne _ _ (Or.inl (by omega))).trans (by rw [← hw2]; exact (e_up_ne _ _ (Or.inl (by omega))).trans rfl))] at q54x; exact q54x
    have hbA : byT (w 5) (w 1 0) (w 1 7 + 1) = z53 := byT_of q54x (by omega)
    show e_Ok 20 elay kcode eI (d + 1) 128 (42, [(2, (0, z6)), (0, (1, 1)), (1, (0, c))], [(0, z53)], w46) _
    refine e_Ok.run (t' := (44, [(2, (0, z6)), (0, (1, 1)), (1, (0, c))], [(0, 61), (0, z53)], w46)) 1 rfl ?_
    refine e_Ok.if2 rfl (fun h55 => ?_) (fun h55 => ?_)
    · replace h55 : (z53 : Int) = 61 := h55
      refine e_Ok.run (t' := (51, [(2, (0, z6)), (0, (1, 1)), (1, (0, c))], [(0, 33), (0, c)], w46)) 2 rfl ?_
      refine e_Ok.if2 rfl (fun h56 => ?_) (fun h56 => ?_)
      · replace h56 : (c : Int) ≠ 33 := h56
        refine e_Ok.run (t' := (65, [(2, (0, z6)), (0, (1, 1)), (1, (0, c))], [(0, 60), (0, c)], w46)) 2 rfl ?_
        refine e_Ok.if2 rfl (fun h57 => ?_) (fun h57 => ?_)
        · replace h57 : (c : Int) ≠ 60 := h57
          refine e_Ok.run (t' := (80, [(2, (0, z6)), (0, (1, 1)), (1, (0, c))], [(0, 62), (0, c)], w46)) 2 rfl ?_
          refine e_Ok.if2 rfl (fun h58 => ?_) (fun h58 => ?_)
          · replace h58 : (c : Int) ≠ 62 := h58
            refine e_Ok.rets rfl rfl ?_
            have y5 : w46 1 5 = 3 := (by rw [← hw46]; exact e_up_eq _ _ _ _)
            have y7 : w46 1 7 = w 1 7 + 1 := (by rw [← hw46]; exact (e_up_ne _ _ (Or.inr (by omega))).trans (by rw [← hw2]; exact e_up_eq _ _ _ _))
            exact ⟨rfl, by (rw [hbA, y5]; unfold sgK; (repeat' split) <;> omega), by (rw [hbA, y7]; unfold sgE; split <;> omega)⟩
          · replace h58 : (c : Int) = 62 := by have q : ¬ ((c : Int) ≠ 62) := h58; omega
            refine e_Ok.run (t' := (86, [(2, (0, z6)), (0, (1, 1)), (1, (0, c))], [(0, 7), (1, 1)], w46)) 2 rfl ?_
            refine e_Ok.putf rfl rfl rfl rfl ?_
            generalize hw59 : e_up w46 1 5 7 = w59
            have f60 : e_fr kRn w w59 := e_fr.up f47 hw59 (by unfold kRn; omega)
            have hT61 : e_Has kLt w59 := e_Has.ups hT48 hw59 rfl
            have hH62 : e_Has kLr w59 := e_Has.upr hH49 hw59 rfl (by omega)
            refine e_Ok.run (t' := (95, [(2, (0, z6)), (0, (1, 1)), (1, (0, c))], [(1, 1), (1, 1)], w59)) 3 rfl ?_
            refine e_Ok.getf (z := w 1 7 + 1) rfl rfl rfl rfl (by rw [← hw59]; exact (e_up_ne _ _ (Or.inr (by omega))).trans (by rw [← hw46]; exact (e_up_ne _ _ (Or.inr (by omega))).trans (by rw [← hw2]; exact e_up_eq _ _ _ _))) (by omega) ?_
            refine e_Ok.run (t' := (99, [(2, (0, z6)), (0, (1, 1)), (1, (0, c))], [(0, 1), (0, w 1 7 + 1), (1, 1)], w59)) 1 rfl ?_
            refine e_Ok.add (z := w 1 7 + 2) rfl (by omega) (by omega) ?_
            refine e_Ok.putf rfl rfl rfl rfl ?_
            generalize hw63 : e_up w59 1 7 (w 1 7 + 2) = w63
            have f64 : e_fr kRn w w63 := e_fr.up f60 hw63 (by unfold kRn; omega)
            have hT65 : e_Has kLt w63 := e_Has.ups hT61 hw63 rfl
            have hH66 : e_Has kLr w63 := e_Has.upr hH62 hw63 rfl (by omega)
            refine e_Ok.rets rfl rfl ?_
            have y5 : w63 1 5 = 7 := (by rw [← hw63]; exact (e_up_ne _ _ (Or.inr (by omega))).trans (by rw [← hw59]; exact e_up_eq _ _ _ _))
            have y7 : w63 1 7 = w 1 7 + 2 := (by rw [← hw63]; exact e_up_eq _ _ _ _)
            exact ⟨rfl, by (rw [hbA, y5]; unfold sgK; (repeat' split) <;> omega), by (rw [hbA, y7]; unfold sgE; split <;> omega)⟩
        · replace h57 : (c : Int) = 60 := by have q : ¬ ((c : Int) ≠ 60) := h57; omega
          refine e_Ok.run (t' := (71, [(2, (0, z6)), (0, (1, 1)), (1, (0, c))], [(0, 6), (1, 1)], w46)) 2 rfl ?_
          refine e_Ok.putf rfl rfl rfl rfl ?_
          generalize hw67 : e_up w46 1 5 6 = w67
          have f68 : e_fr kRn w w67 := e_fr.up f47 hw67 (by unfold kRn; omega)
          have hT69 : e_Has kLt w67 := e_Has.ups hT48 hw67 rfl
          have hH70 : e_Has kLr w67 := e_Has.upr hH49 hw67 rfl (by omega)
          refine e_Ok.run (t' := (95, [(2, (0, z6)), (0, (1, 1)), (1, (0, c))], [(1, 1), (1, 1)], w67)) 3 rfl ?_
          refine e_Ok.getf (z := w 1 7 + 1) rfl rfl rfl rfl (by rw [← hw67]; exact (e_up_ne _ _ (Or.inr (by omega))).trans (by rw [← hw46]; exact (e_up_ne _ _ (Or.inr (by omega))).trans (by rw [← hw2]; exact e_up_eq _ _ _ _))) (by omega) ?_
          refine e_Ok.run (t' := (99, [(2, (0, z6)), (0, (1, 1)), (1, (0, c))], [(0, 1), (0, w 1 7 + 1), (1, 1)], w67)) 1 rfl ?_
          refine e_Ok.add (z := w 1 7 + 2) rfl (by omega) (by omega) ?_
          refine e_Ok.putf rfl rfl rfl rfl ?_
          generalize hw71 : e_up w67 1 7 (w 1 7 + 2) = w71
          have f72 : e_fr kRn w w71 := e_fr.up f68 hw71 (by unfold kRn; omega)
          have hT73 : e_Has kLt w71 := e_Has.ups hT69 hw71 rfl
          have hH74 : e_Has kLr w71 := e_Has.upr hH70 hw71 rfl (by omega)
          refine e_Ok.rets rfl rfl ?_
          have y5 : w71 1 5 = 6 := (by rw [← hw71]; exact (e_up_ne _ _ (Or.inr (by omega))).trans (by rw [← hw67]; exact e_up_eq _ _ _ _))
          have y7 : w71 1 7 = w 1 7 + 2 := (by rw [← hw71]; exact e_up_eq _ _ _ _)
          exact ⟨rfl, by (rw [hbA, y5]; unfold sgK; (repeat' split) <;> omega), by (rw [hbA, y7]; unfold sgE; split <;> omega)⟩
      · replace h56 : (c : Int) = 33 := by have q : ¬ ((c : Int) ≠ 33) := h56; omega
        refine e_Ok.run (t' := (56, [(2, (0, z6)), (0, (1, 1)), (1, (0, c))], [(0, 5), (1, 1)], w46)) 2 rfl ?_
        refine e_Ok.putf rfl rfl rfl rfl ?_
        generalize hw75 : e_up w46 1 5 5 = w75
        have f76 : e_fr kRn w w75 := e_fr.up f47 hw75 (by unfold kRn; omega)
        have hT77 : e_Has kLt w75 := e_Has.ups hT48 hw75 rfl
        have hH78 : e_Has kLr w75 := e_Has.upr hH49 hw75 rfl (by omega)
        refine e_Ok.run (t' := (95, [(2, (0, z6)), (0, (1, 1)), (1, (0, c))], [(1, 1), (1, 1)], w75)) 3 rfl ?_
        refine e_Ok.getf (z := w 1 7 + 1) rfl rfl rfl rfl (by rw [← hw75]; exact (e_up_ne _ _ (Or.inr (by omega))).trans (by rw [← hw46]; exact (e_up_ne _ _ (Or.inr (by omega))).trans (by rw [← hw2]; exact e_up_eq _ _ _ _))) (by omega) ?_
        refine e_Ok.run (t' := (99, [(2, (0, z6)), (0, (1, 1)), (1, (0, c))], [(0, 1), (0, w 1 7 + 1), (1, 1)], w75)) 1 rfl ?_
        refine e_Ok.add (z := w 1 7 + 2) rfl (by omega) (by omega) ?_
        refine e_Ok.putf rfl rfl rfl rfl ?_
        generalize hw79 : e_up w75 1 7 (w 1 7 + 2) = w79
        have f80 : e_fr kRn w w79 := e_fr.up f76 hw79 (by unfold kRn; omega)
        have hT81 : e_Has kLt w79 := e_Has.ups hT77 hw79 rfl
        have hH82 : e_Has kLr w79 := e_Has.upr hH78 hw79 rfl (by omega)
        refine e_Ok.rets rfl rfl ?_
        have y5 : w79 1 5 = 5 := (by rw [← hw79]; exact (e_up_ne _ _ (Or.inr (by omega))).trans (by rw [← hw75]; exact e_up_eq _ _ _ _))
        have y7 : w79 1 7 = w 1 7 + 2 := (by rw [← hw79]; exact e_up_eq _ _ _ _)
        exact ⟨rfl, by (rw [hbA, y5]; unfold sgK; (repeat' split) <;> omega), by (rw [hbA, y7]; unfold sgE; split <;> omega)⟩
    · replace h55 : (z53 : Int) ≠ 61 := by have q : ¬ ((z53 : Int) = 61) := h55; omega
      refine e_Ok.rets rfl rfl ?_
      have y5 : w46 1 5 = 3 := (by rw [← hw46]; exact e_up_eq _ _ _ _)
      have y7 : w46 1 7 = w 1 7 + 1 := (by rw [← hw46]; exact (e_up_ne _ _ (Or.inr (by omega))).trans (by rw [← hw2]; exact e_up_eq _ _ _ _))
      exact ⟨rfl, by (rw [hbA, y5]; unfold sgK; (repeat' split) <;> omega), by (rw [hbA, y7]; unfold sgE; split <;> omega)⟩
set_option maxHeartbeats 4000000 in
theorem l_125_x {d : Nat} (hd : 22 ≤ d) {w : eW} (hT : e_Has kLt w) (hH : e_Has kLr w) (hn : w 1 7 < w 1 0) (ha : w 1 6 = w 1 7) (hdg : ((97 ≤ w 5 (w 1 7) % 256 ∧ w 5 (w 1 7) % 256 ≤ 122) ∨ (65 ≤ w 5 (w 1 7) % 256 ∧ w 5 (w 1 7) % 256 ≤ 90) ∨ (48 ≤ w 5 (w 1 7) % 256 ∧ w 5 (w 1 7) % 256 ≤ 57))) : e_Ok 20 elay kcode eI d 125 (0, [(0, (1, 1))], [], w) (fun r w' => r = [] ∧ w' 1 7 = wdF (w 5) (w 1 0) (w 1 7) ∧ ((24 < w' 1 7 - w 1 6 ∧ w' 1 5 = 3) ∨ (w' 1 7 - w 1 6 ≤ 24 ∧ ((w' 1 5 = 1 ∧ ∀ k, 0 ≤ k → k ≤ 32 → ¬ kwd (w 5) (w 1 6) (w' 1 7) k) ∨ ∃ k, w' 1 5 = 21 + k ∧ kwd (w 5) (w 1 6) (w' 1 7) k)))) := by
  obtain ⟨d, rfl⟩ : ∃ e, d = e + 1 := ⟨d - 1, by omega⟩
  have p0 := e_Has.get hH (c := 1) (k := 0) (lo := 0) (hi := 4000) rfl (by decide)
  have p6 := e_Has.get hH (c := 1) (k := 6) (lo := 0) (hi := 4000) rfl (by decide)
  have p7 := e_Has.get hH (c := 1) (k := 7) (lo := 0) (hi := 4000) rfl (by decide)
  have hL1 : ∀ (nn : Nat) (v1 : eW), e_fr kRn w v1 ∧ e_Has kLt v1 ∧ e_Has kLr v1 ∧ ((w 1 7 ≤ v1 1 7 ∧ v1 1 7 ≤ w 1 0)) ∧ ((w 1 7 < v1 1 7 ∨ (v1 1 7 = w 1 7 ∧ w 5 (v1 1 7) = w 5 (w 1 7)))) ∧ wdF (w 5) (w 1 0) (v1 1 7) = wdF (w 5) (w 1 0) (w 1 7) → 4001 - v1 1 7 < nn → e_Ok 20 elay kcode eI (d + 1) 125 (0, [(0, (1, 1))], [], v1) (fun r w' => r = [] ∧ w' 1 7 = wdF (w 5) (w 1 0) (w 1 7) ∧ ((24 < w' 1 7 - w 1 6 ∧ w' 1 5 = 3) ∨ (w' 1 7 - w 1 6 ≤ 24 ∧ ((w' 1 5 = 1 ∧ ∀ k, 0 ≤ k → k ≤ 32 → ¬ kwd (w 5) (w 1 6) (w' 1 7) k) ∨ ∃ k, w' 1 5 = 21 + k ∧ kwd (w 5) (w 1 6) (w' 1 7) k)))) := by
    intro nn
    induction nn with
    | zero => intro v1 hj hm; obtain ⟨j3, j4, j5, j6, j7, j8⟩ := hj; exfalso; omega
    | succ nn ih2 =>
      intro v1 hj hm
      obtain ⟨j3, j4, j5, j6, j7, j8⟩ := hj
      have u7 := e_Has.get j5 (c := 1) (k := 7) (lo := 0) (hi := 4000) rfl (by decide)
      refine e_Ok.run (t' := (1, [(0, (1, 1))], [(1, 1)], v1)) 1 rfl ?_
      refine e_Ok.getf (z := v1 1 7) rfl rfl rfl rfl rfl (by omega) ?_
      refine e_Ok.run (t' := (5, [(0, (1, 1))], [(1, 1), (0, v1 1 7)], v1)) 1 rfl ?_
      have h9 := (e_Has.get hH (c := 1) (k := 0) (lo := 0) (hi := 4000) rfl (by decide))
      refine e_Ok.getf (z := w 1 0) rfl rfl rfl rfl ((j3 1 0 (by unfold kRn; omega)).trans rfl) (by omega) ?_
      refine e_Ok.if2 rfl (fun h10 => ?_) (fun h10 => ?_)
      · replace h10 : (v1 1 7 : Int) ≥ w 1 0 := h10
        refine e_Ok.run (t' := (40, [(0, (1, 1))], [(1, 1), (1, 1)], v1)) 2 rfl ?_
        refine e_Ok.getf (z := v1 1 7) rfl rfl rfl rfl rfl (by omega) ?_
        refine e_Ok.run (t' := (44, [(0, (1, 1))], [(1, 1), (0, v1 1 7), (1, 1)], v1)) 1 rfl ?_
        have h11 := (e_Has.get hH (c := 1) (k := 6) (lo := 0) (hi := 4000) rfl (by decide))
        refine e_Ok.getf (z := w 1 6) rfl rfl rfl rfl ((j3 1 6 (by unfold kRn; omega)).trans rfl) (by omega) ?_
        refine e_Ok.sub' (z := v1 1 7 - w 1 6) rfl (by omega) (by omega) ?_
        refine e_Ok.run (t' := (50, [(0, (1, 1))], [(0, 24), (0, v1 1 7 - w 1 6), (1, 1)], v1)) 1 rfl ?_
        refine e_Ok.if2 rfl (fun h12 => ?_) (fun h12 => ?_)
        · replace h12 : (v1 1 7 - w 1 6 : Int) ≤ 24 := h12
          refine e_Ok.run (t' := (58, [(0, (1, 1))], [(1, 1), (1, 1)], v1)) 1 rfl ?_
          have b6 : v1 1 6 = w 1 6 := ((j3 1 6 (by unfold kRn; omega)).trans rfl)
          have b0 : v1 1 0 = w 1 0 := ((j3 1 0 (by unfold kRn; omega)).trans rfl)
          have b7 : v1 1 7 = v1 1 7 := rfl
          refine e_Ok.callV rfl (by omega) rfl rfl rfl rfl (e_Ok.both (l_126 (by omega) j4 j5 (by omega) (by omega)) (l_126_x (by omega) j4 j5 (by omega) (by omega))) (fun r13 w14 h15 => ?_)
          have e5 : v1 5 = w 5 := funext (fun i => (j3 5 i (by unfold kRn; omega)))
          obtain ⟨⟨z16, rfl, rfl, qk⟩, zz, hzz, qx⟩ := h15
          have ezz : z16 = zz := one_z hzz
          rw [← ezz, b6, b7, e5] at qx
          replace qx := (show Hid _ from qx)
          have qkr : 1 ≤ z16 ∧ z16 ≤ 53 := by omega
          show e_Ok 20 elay kcode eI (d + 1) 125 (61, [(0, (1, 1))], [(0, z16), (1, 1)], v1) _
          refine e_Ok.putf rfl rfl rfl rfl ?_
          generalize hw17 : e_up v1 1 5 z16 = w17
          have f18 : e_fr kRn w w17 := e_fr.up j3 hw17 (by unfold kRn; omega)
          have hT19 : e_Has kLt w17 := e_Has.ups j4 hw17 rfl
          have hH20 : e_Has kLr w17 := e_Has.upr j5 hw17 rfl (by omega)
          refine e_Ok.rets rfl rfl ?_
          have y5 : w17 1 5 = z16 := (by rw [← hw17]; exact e_up_eq _ _ _ _)
          have y7 : w17 1 7 = v1 1 7 := (by rw [← hw17]; exact (e_up_ne _ _ (Or.inr (by omega))).trans rfl)
          have ge := (wdF_end (T := w 5) (N := w 1 0) (i := v1 1 7) (by omega)).symm.trans j8
          exact ⟨rfl, y7.trans ge, by first | exact Or.inl ⟨by omega, y5⟩ | exact Or.inr ⟨by omega, by rw [y5, y7]; exact qx.out⟩⟩
        · replace h12 : (v1 1 7 - w 1 6 : Int) > 24 := by have q : ¬ ((v1 1 7 - w 1 6 : Int) ≤ 24) := h12; omega
          refine e_Ok.run (t' := (61, [(0, (1, 1))], [(0, 3), (1, 1)], v1)) 2 rfl ?_
          refine e_Ok.putf rfl rfl rfl rfl ?_
          generalize hw21 : e_up v1 1 5 3 = w21
          have f22 : e_fr kRn w w21 := e_fr.up j3 hw21 (by unfold kRn; omega)
          have hT23 : e_Has kLt w21 := e_Has.ups j4 hw21 rfl
          have hH24 : e_Has kLr w21 := e_Has.upr j5 hw21 rfl (by omega)
          refine e_Ok.rets rfl rfl ?_
          have y5 : w21 1 5 = 3 := (by rw [← hw21]; exact e_up_eq _ _ _ _)
          have y7 : w21 1 7 = v1 1 7 := (by rw [← hw21]; exact (e_up_ne _ _ (Or.inr (by omega))).trans rfl)
          have ge := (wdF_end (T := w 5) (N := w 1 0) (i := v1 1 7) (by omega)).symm.trans j8
          exact ⟨rfl, y7.trans ge, by first | exact Or.inl ⟨by omega, y5⟩ | exact Or.inr ⟨by omega, by rw [y5, y7]; exact qx.out⟩⟩
      · replace h10 : (v1 1 7 : Int) < w 1 0 := by have q : ¬ ((v1 1 7 : Int) ≥ w 1 0) := h10; omega
        refine e_Ok.run (t' := (13, [(0, (1, 1))], [(1, 1), (1, 1)], v1)) 2 rfl ?_
        refine e_Ok.getf (z := v1 1 7) rfl rfl rfl rfl rfl (by omega) ?_
        refine e_Ok.callV rfl (by omega) rfl rfl rfl rfl (l_120 j4 j5 (by omega)) (fun r25 w26 h27 => ?_)
        obtain ⟨z28, rfl, rfl, q29r, q29x⟩ := h27
        replace q29x : (0 ≤ (v1 1 7) ∧ (v1 1 7) < (w 1 0) ∧ z28 = (w 5 (v1 1 7)) % 256) ∨ (((v1 1 7) < 0 ∨ (w 1 0) ≤ (v1 1 7)) ∧ z28 = 0) := by rw [show v1 1 0 = w 1 0 from ((j3 1 0 (by unfold kRn; omega)).trans rfl), show v1 5 (v1 1 7) = w 5 (v1 1 7) from ((j3 5 (v1 1 7) (by unfold kRn; omega)).trans rfl)] at q29x; exact q29x
        show e_Ok 20 elay kcode eI (d + 1) 125 (19, [(0, (1, 1))], [(0, z28)], v1) _
        refine e_Ok.callS rfl (by omega) rfl rfl (c_122 (by omega)) (fun r30 w31 h32 => ?_)
        obtain ⟨z33, rfl, rfl, q34⟩ := h32
        obtain ⟨rfl, q34⟩ | ⟨rfl, q34⟩ := q34
        · show e_Ok 20 elay kcode eI (d + 1) 125 (22, [(0, (1, 1))], [(0, 1)], v1) _
          refine e_Ok.if1 rfl (fun h35 => ?_) (fun h35 => ?_)
          · replace h35 : (1 : Int) = 0 := h35
            exfalso; omega
          · replace h35 : (1 : Int) ≠ 0 := by have q : ¬ ((1 : Int) = 0) := h35; omega
            refine e_Ok.run (t' := (27, [(0, (1, 1))], [(1, 1), (1, 1)], v1)) 2 rfl ?_
            refine e_Ok.getf (z := v1 1 7) rfl rfl rfl rfl rfl (by omega) ?_
            refine e_Ok.run (t' := (31, [(0, (1, 1))], [(0, 1), (0, v1 1 7), (1, 1)], v1)) 1 rfl ?_
            refine e_Ok.add (z := v1 1 7 + 1) rfl (by omega) (by omega) ?_
            refine e_Ok.putf rfl rfl rfl rfl ?_
            generalize hw36 : e_up v1 1 7 (v1 1 7 + 1) = w36
            have f37 : e_fr kRn w w36 := e_fr.up j3 hw36 (by unfold kRn; omega)
            have hT38 : e_Has kLt w36 := e_Has.ups j4 hw36 rfl
            have hH40 : e_Has kLr w36 := e_Has.upr j5 hw36 rfl (by omega)
            refine e_Ok.run (t' := (0, [(0, (1, 1))], [], w36)) 1 rfl ?_
            refine e_Ok.sub kAlk (e_sub_of rfl ?_) (ih2  w36 ⟨f37, hT38, hH40, (by have g7 : w36 1 7 = v1 1 7 + 1 := (by rw [← hw36]; exact e_up_eq _ _ _ _); omega), (Or.inl (by have g7 : w36 1 7 = v1 1 7 + 1 := (by rw [← hw36]; exact e_up_eq _ _ _ _); omega)), (by have g7 : w36 1 7 = v1 1 7 + 1 := (by rw [← hw36]; exact e_up_eq _ _ _ _); rw [g7]; exact (wdF_go (by omega) (by omega)).symm.trans j8)⟩ ((by have g7 : w36 1 7 = v1 1 7 + 1 := (by rw [← hw36]; exact e_up_eq _ _ _ _); omega)))
            exact ⟨rfl, trivial⟩
        · show e_Ok 20 elay kcode eI (d + 1) 125 (22, [(0, (1, 1))], [(0, 0)], v1) _
          refine e_Ok.if1 rfl (fun h41 => ?_) (fun h41 => ?_)
          · replace h41 : (0 : Int) = 0 := h41
            refine e_Ok.run (t' := (40, [(0, (1, 1))], [(1, 1), (1, 1)], v1)) 2 rfl ?_
            refine e_Ok.getf (z := v1 1 7) rfl rfl rfl rfl rfl (by omega) ?_
            refine e_Ok.run (t' := (44, [(0, (1, 1))], [(1, 1), (0, v1 1 7), (1, 1)], v1)) 1 rfl ?_
            have h42 := (e_Has.get hH (c := 1) (k := 6) (lo := 0) (hi := 4000) rfl (by decide))
            refine e_Ok.getf (z := w 1 6) rfl rfl rfl rfl ((j3 1 6 (by unfold kRn; omega)).trans rfl) (by omega) ?_
            refine e_Ok.sub' (z := v1 1 7 - w 1 6) rfl (by omega) (by omega) ?_
            refine e_Ok.run (t' := (50, [(0, (1, 1))], [(0, 24), (0, v1 1 7 - w 1 6), (1, 1)], v1)) 1 rfl ?_
            refine e_Ok.if2 rfl (fun h43 => ?_) (fun h43 => ?_)
            · replace h43 : (v1 1 7 - w 1 6 : Int) ≤ 24 := h43
              refine e_Ok.run (t' := (58, [(0, (1, 1))], [(1, 1), (1, 1)], v1)) 1 rfl ?_
              have b6 : v1 1 6 = w 1 6 := ((j3 1 6 (by unfold kRn; omega)).trans rfl)
              have b0 : v1 1 0 = w 1 0 := ((j3 1 0 (by unfold kRn; omega)).trans rfl)
              have b7 : v1 1 7 = v1 1 7 := rfl
              refine e_Ok.callV rfl (by omega) rfl rfl rfl rfl (e_Ok.both (l_126 (by omega) j4 j5 (by omega) (by omega)) (l_126_x (by omega) j4 j5 (by omega) (by omega))) (fun r44 w45 h46 => ?_)
              have e5 : v1 5 = w 5 := funext (fun i => (j3 5 i (by unfold kRn; omega)))
              obtain ⟨⟨z47, rfl, rfl, qk⟩, zz, hzz, qx⟩ := h46
              have ezz : z47 = zz := one_z hzz
              rw [← ezz, b6, b7, e5] at qx
              replace qx := (show Hid _ from qx)
              have qkr : 1 ≤ z47 ∧ z47 ≤ 53 := by omega
              show e_Ok 20 elay kcode eI (d + 1) 125 (61, [(0, (1, 1))], [(0, z47), (1, 1)], v1) _
              refine e_Ok.putf rfl rfl rfl rfl ?_
              generalize hw48 : e_up v1 1 5 z47 = w48
              have f49 : e_fr kRn w w48 := e_fr.up j3 hw48 (by unfold kRn; omega)
              have hT50 : e_Has kLt w48 := e_Has.ups j4 hw48 rfl
              have hH51 : e_Has kLr w48 := e_Has.upr j5 hw48 rfl (by omega)
              refine e_Ok.rets rfl rfl ?_
              have y5 : w48 1 5 = z47 := (by rw [← hw48]; exact e_up_eq _ _ _ _)
              have y7 : w48 1 7 = v1 1 7 := (by rw [← hw48]; exact (e_up_ne _ _ (Or.inr (by omega))).trans rfl)
              have ge := (wdF_end (T := w 5) (N := w 1 0) (i := v1 1 7) (by omega)).symm.trans j8
              exact ⟨rfl, y7.trans ge, by first | exact Or.inl ⟨by omega, y5⟩ | exact Or.inr ⟨by omega, by rw [y5, y7]; exact qx.out⟩⟩
            · replace h43 : (v1 1 7 - w 1 6 : Int) > 24 := by have q : ¬ ((v1 1 7 - w 1 6 : Int) ≤ 24) := h43; omega
              refine e_Ok.run (t' := (61, [(0, (1, 1))], [(0, 3), (1, 1)], v1)) 2 rfl ?_
              refine e_Ok.putf rfl rfl rfl rfl ?_
              generalize hw52 : e_up v1 1 5 3 = w52
              have f53 : e_fr kRn w w52 := e_fr.up j3 hw52 (by unfold kRn; omega)
              have hT54 : e_Has kLt w52 := e_Has.ups j4 hw52 rfl
              have hH55 : e_Has kLr w52 := e_Has.upr j5 hw52 rfl (by omega)
              refine e_Ok.rets rfl rfl ?_
              have y5 : w52 1 5 = 3 := (by rw [← hw52]; exact e_up_eq _ _ _ _)
              have y7 : w52 1 7 = v1 1 7 := (by rw [← hw52]; exact (e_up_ne _ _ (Or.inr (by omega))).trans rfl)
              have ge := (wdF_end (T := w 5) (N := w 1 0) (i := v1 1 7) (by omega)).symm.trans j8
              exact ⟨rfl, y7.trans ge, by first | exact Or.inl ⟨by omega, y5⟩ | exact Or.inr ⟨by omega, by rw [y5, y7]; exact qx.out⟩⟩
          · replace h41 : (0 : Int) ≠ 0 := by have q : ¬ ((0 : Int) = 0) := h41; omega
            exfalso; omega
  refine e_Ok.sub kAlk (e_sub_of rfl ?_) (hL1 (4001 + 1 : Int).toNat  w ⟨(e_fr.refl w), hT, hH, (by omega), (Or.inr ⟨rfl, rfl⟩), rfl⟩ (by omega))
  exact ⟨rfl, trivial⟩
set_option maxHeartbeats 4000000 in
theorem l_123_x {d : Nat} (hd : 24 ≤ d) {w : eW} (hT : e_Has kLt w) (hH : e_Has kLr w) (hn : w 1 7 ≤ w 1 0) : e_Ok 20 elay kcode eI d 123 (0, [(0, (1, 1))], [], w) (fun r w' => r = [] ∧ tkP (w 5) (w 1 0) (w 1 7) (w' 1 5) (w' 1 6) (w' 1 7) (w' 1 8)) := by
  obtain ⟨d, rfl⟩ : ∃ e, d = e + 1 := ⟨d - 1, by omega⟩
  have p0 := e_Has.get hH (c := 1) (k := 0) (lo := 0) (hi := 4000) rfl (by decide)
  have p6 := e_Has.get hH (c := 1) (k := 6) (lo := 0) (hi := 4000) rfl (by decide)
  have p7 := e_Has.get hH (c := 1) (k := 7) (lo := 0) (hi := 4000) rfl (by decide)
  refine e_Ok.run (t' := (1, [(0, (1, 1))], [(1, 1)], w)) 1 rfl ?_
  have n4_0 : w 1 0 = w 1 0 := rfl
  have n4_5 : w 1 5 = w 1 5 := rfl
  have n4_6 : w 1 6 = w 1 6 := rfl
  have n4_7 : w 1 7 = w 1 7 := rfl
  have n4_8 : w 1 8 = w 1 8 := rfl
  refine e_Ok.callV rfl (by omega) rfl rfl rfl rfl (e_Ok.both (l_124 (by omega) hT hH (by omega)) (l_124_x (by omega) hT hH (by omega))) (fun r1 w2 h3 => ?_)
  obtain ⟨⟨rfl, q5f, q5T, q5H, q5x⟩, -, q5X⟩ := h3
  have f6 : e_fr kRa w w2 := e_fr.trans (e_fr.refl w) (e_fr.mono q5f (fun c k q => by unfold kRn at q; unfold kRa; omega))
  have q57 := e_Has.get q5H (c := 1) (k := 7) (lo := 0) (hi := 4000) rfl (by decide)
  show e_Ok 20 elay kcode eI (d + 1) 123 (4, [(0, (1, 1))], [], w2) _
  refine e_Ok.run (t' := (6, [(0, (1, 1))], [(1, 1), (1, 1)], w2)) 2 rfl ?_
  refine e_Ok.getf (z := w2 1 7) rfl rfl rfl rfl rfl (by omega) ?_
  refine e_Ok.putf rfl rfl rfl rfl ?_
  generalize hw7 : e_up w2 1 6 (w2 1 7) = w7
  have f8 : e_fr kRa w w7 := e_fr.up f6 hw7 (by unfold kRa; omega)
  have hT9 : e_Has kLt w7 := e_Has.ups q5T hw7 rfl
  have hH10 : e_Has kLr w7 := e_Has.upr q5H hw7 rfl (by omega)
  refine e_Ok.run (t' := (14, [(0, (1, 1))], [(1, 1), (1, 1)], w7)) 2 rfl ?_
  refine e_Ok.getf (z := w2 1 7) rfl rfl rfl rfl (by rw [← hw7]; exact (e_up_ne _ _ (Or.inr (by omega))).trans rfl) (by omega) ?_
  refine e_Ok.callV rfl (by omega) rfl rfl rfl rfl (l_120 hT9 hH10 (by omega)) (fun r11 w12 h13 => ?_)
  obtain ⟨z14, rfl, rfl, q15r, q15x⟩ := h13
  replace q15x : (0 ≤ (w2 1 7) ∧ (w2 1 7) < (w 1 0) ∧ z14 = (w 5 (w2 1 7)) % 256) ∨ (((w2 1 7) < 0 ∨ (w 1 0) ≤ (w2 1 7)) ∧ z14 = 0) := by rw [show w7 1 0 = w 1 0 from (by rw [← hw7]; exact (e_up_ne _ _ (Or.inr (by omega))).trans ((q5f 1 0 (by unfold kRn; omega)).trans rfl)), show w7 5 (w2 1 7) = w 5 (w2 1 7) from (by rw [← hw7]; exact (e_up_ne _ _ (Or.inl (by omega))).trans ((q5f 5 (w2 1 7) (by unfold kRn; omega)).trans rfl))] at q15x; exact q15x
  show e_Ok 20 elay kcode eI (d + 1) 123 (20, [(0, (1, 1))], [(0, z14)], w7) _
  refine e_Ok.run (t' := (22, [(1, (0, z14)), (0, (1, 1))], [(1, 1)], w7)) 2 rfl ?_
  refine e_Ok.getf (z := w2 1 7) rfl rfl rfl rfl (by rw [← hw7]; exact (e_up_ne _ _ (Or.inr (by omega))).trans rfl) (by omega) ?_
  refine e_Ok.run (t' := (26, [(1, (0, z14)), (0, (1, 1))], [(1, 1), (0, w2 1 7)], w7)) 1 rfl ?_
  refine e_Ok.getf (z := w 1 0) rfl rfl rfl rfl (by rw [← hw7]; exact (e_up_ne _ _ (Or.inr (by omega))).trans ((q5f 1 0 (by unfold kRn; omega)).trans rfl)) (by omega) ?_
  refine e_Ok.if2 rfl (fun h16 => ?_) (fun h16 => ?_)
  · replace h16 : (w2 1 7 : Int) < w 1 0 := h16
    refine e_Ok.run (t' := (41, [(1, (0, z14)), (0, (1, 1))], [(0, z14)], w7)) 1 rfl ?_
    refine e_Ok.callS rfl (by omega) rfl rfl (c_121 (by omega)) (fun r17 w18 h19 => ?_)
    obtain ⟨z20, rfl, rfl, q21⟩ := h19
    obtain ⟨rfl, q21⟩ | ⟨rfl, q21⟩ := q21
    · show e_Ok 20 elay kcode eI (d + 1) 123 (44, [(1, (0, z14)), (0, (1, 1))], [(0, 1)], w7) _
      refine e_Ok.if1 rfl (fun h22 => ?_) (fun h22 => ?_)
      · replace h22 : (1 : Int) = 0 := h22
        exfalso; omega
      · replace h22 : (1 : Int) ≠ 0 := by have q : ¬ ((1 : Int) = 0) := h22; omega
        refine e_Ok.run (t' := (48, [(1, (0, z14)), (0, (1, 1))], [(1, 1)], w7)) 1 rfl ?_
        have n26_0 : w7 1 0 = w 1 0 := (by rw [← hw7]; exact (e_up_ne _ _ (Or.inr (by omega))).trans ((q5f 1 0 (by unfold kRn; omega)).trans rfl))
        have n26_5 : w7 1 5 = w2 1 5 := (by rw [← hw7]; exact (e_up_ne _ _ (Or.inr (by omega))).trans rfl)
        have n26_6 : w7 1 6 = w2 1 7 := (by rw [← hw7]; exact e_up_eq _ _ _ _)
        have n26_7 : w7 1 7 = w2 1 7 := (by rw [← hw7]; exact (e_up_ne _ _ (Or.inr (by omega))).trans rfl)
        have n26_8 : w7 1 8 = w2 1 8 := (by rw [← hw7]; exact (e_up_ne _ _ (Or.inr (by omega))).trans rfl)
        have n26_b : w7 5 (w7 1 7) = w 5 (w2 1 7) := by rw [n26_7]; exact (by rw [← hw7]; exact (e_up_ne _ _ (Or.inl (by omega))).trans ((q5f 5 (w2 1 7) (by unfold kRn; omega)).trans rfl))
        refine e_Ok.callV rfl (by omega) rfl rfl rfl rfl (e_Ok.both (l_127 (by omega) hT9 hH10 (by omega) (by omega) (by rw [n26_b]; omega)) (l_127_x (by omega) hT9 hH10 (by omega) (by omega) (by rw [n26_b]; omega))) (fun r23 w24 h25 => ?_)
        obtain ⟨⟨rfl, q27f, q27T, q27H, q27x⟩, -, q27X⟩ := h25
        have e5 : w7 5 = w 5 := funext (fun i => f8 5 i (by unfold kRa; omega))
        rw [e5, show w7 1 0 = w 1 0 from (by rw [← hw7]; exact (e_up_ne _ _ (Or.inr (by omega))).trans ((q5f 1 0 (by unfold kRn; omega)).trans rfl)), show w7 1 7 = w2 1 7 from (by rw [← hw7]; exact (e_up_ne _ _ (Or.inr (by omega))).trans rfl)] at q27X
        have f28 : e_fr kRa w w24 := e_fr.trans f8 (e_fr.mono q27f (fun c k q => by unfold kRn at q; unfold kRa; omega))
        have q277 := e_Has.get q27H (c := 1) (k := 7) (lo := 0) (hi := 4000) rfl (by decide)
        show e_Ok 20 elay kcode eI (d + 1) 123 (51, [(1, (0, z14)), (0, (1, 1))], [], w24) _
        refine e_Ok.run (t' := (73, [(1, (0, z14)), (0, (1, 1))], [], w24)) 1 rfl ?_
        refine e_Ok.rets rfl rfl ?_
        have y5 : w24 1 5 = w24 1 5 := rfl
        have y6 : w24 1 6 = w2 1 7 := ((q27f 1 6 (by unfold kRn; omega)).trans (by rw [← hw7]; exact e_up_eq _ _ _ _))
        have y7 : w24 1 7 = w24 1 7 := rfl
        have y8 : w24 1 8 = w24 1 8 := rfl
        refine ⟨rfl, ?_⟩
        unfold tkP
        rw [y6]
        exact ⟨q5X, Or.inr ⟨by omega, Or.inl ⟨by unfold dgB; omega, q27X⟩⟩⟩
    · show e_Ok 20 elay kcode eI (d + 1) 123 (44, [(1, (0, z14)), (0, (1, 1))], [(0, 0)], w7) _
      refine e_Ok.if1 rfl (fun h29 => ?_) (fun h29 => ?_)
      · replace h29 : (0 : Int) = 0 := h29
        refine e_Ok.run (t' := (55, [(1, (0, z14)), (0, (1, 1))], [(0, z14)], w7)) 1 rfl ?_
        refine e_Ok.callS rfl (by omega) rfl rfl (c_122 (by omega)) (fun r30 w31 h32 => ?_)
        obtain ⟨z33, rfl, rfl, q34⟩ := h32
        obtain ⟨rfl, q34⟩ | ⟨rfl, q34⟩ := q34
        · show e_Ok 20 elay kcode eI (d + 1) 123 (58, [(1, (0, z14)), (0, (1, 1))], [(0, 1)], w7) _
          refine e_Ok.if1 rfl (fun h35 => ?_) (fun h35 => ?_)
          · replace h35 : (1 : Int) = 0 := h35
            exfalso; omega
          · replace h35 : (1 : Int) ≠ 0 := by have q : ¬ ((1 : Int) = 0) := h35; omega
            refine e_Ok.run (t' := (62, [(1, (0, z14)), (0, (1, 1))], [(1, 1)], w7)) 1 rfl ?_
            have n40_0 : w7 1 0 = w 1 0 := (by rw [← hw7]; exact (e_up_ne _ _ (Or.inr (by omega))).trans ((q5f 1 0 (by unfold kRn; omega)).trans rfl))
            have n40_5 : w7 1 5 = w2 1 5 := (by rw [← hw7]; exact (e_up_ne _ _ (Or.inr (by omega))).trans rfl)
            have n40_6 : w7 1 6 = w2 1 7 := (by rw [← hw7]; exact e_up_eq _ _ _ _)
            have n40_7 : w7 1 7 = w2 1 7 := (by rw [← hw7]; exact (e_up_ne _ _ (Or.inr (by omega))).trans rfl)
            have n40_8 : w7 1 8 = w2 1 8 := (by rw [← hw7]; exact (e_up_ne _ _ (Or.inr (by omega))).trans rfl)
            have n40_b : w7 5 (w7 1 7) = w 5 (w2 1 7) := by rw [n40_7]; exact (by rw [← hw7]; exact (e_up_ne _ _ (Or.inl (by omega))).trans ((q5f 5 (w2 1 7) (by unfold kRn; omega)).trans rfl))
            refine e_Ok.callV rfl (by omega) rfl rfl rfl rfl (e_Ok.both (l_125 (by omega) hT9 hH10 (by omega) (by omega) (by rw [n40_b]; omega)) (l_125_x (by omega) hT9 hH10 (by omega) (by omega) (by rw [n40_b]; omega))) (fun r36 w37 h38 => ?_)
            obtain ⟨⟨rfl, q41f, q41T, q41H, q41x⟩, -, q41X⟩ := h38
            have e5 : w7 5 = w 5 := funext (fun i => f8 5 i (by unfold kRa; omega))
            rw [e5, show w7 1 0 = w 1 0 from (by rw [← hw7]; exact (e_up_ne _ _ (Or.inr (by omega))).trans ((q5f 1 0 (by unfold kRn; omega)).trans rfl)), show w7 1 7 = w2 1 7 from (by rw [← hw7]; exact (e_up_ne _ _ (Or.inr (by omega))).trans rfl)] at q41X
            rw [show w7 1 6 = w2 1 7 from (by rw [← hw7]; exact e_up_eq _ _ _ _)] at q41X
            replace q41X := (show Hid _ from q41X)
            have f42 : e_fr kRa w w37 := e_fr.trans f8 (e_fr.mono q41f (fun c k q => by unfold kRn at q; unfold kRa; omega))
            have q417 := e_Has.get q41H (c := 1) (k := 7) (lo := 0) (hi := 4000) rfl (by decide)
            show e_Ok 20 elay kcode eI (d + 1) 123 (65, [(1, (0, z14)), (0, (1, 1))], [], w37) _
            refine e_Ok.run (t' := (73, [(1, (0, z14)), (0, (1, 1))], [], w37)) 1 rfl ?_
            refine e_Ok.rets rfl rfl ?_
            have y5 : w37 1 5 = w37 1 5 := rfl
            have y6 : w37 1 6 = w2 1 7 := ((q41f 1 6 (by unfold kRn; omega)).trans (by rw [← hw7]; exact e_up_eq _ _ _ _))
            have y7 : w37 1 7 = w37 1 7 := rfl
            have y8 : w37 1 8 = w37 1 8 := rfl
            refine ⟨rfl, ?_⟩
            unfold tkP
            rw [y6]
            exact ⟨q5X, Or.inr ⟨by omega, Or.inr (Or.inl ⟨by unfold ltB; omega, q41X.out⟩)⟩⟩
        · show e_Ok 20 elay kcode eI (d + 1) 123 (58, [(1, (0, z14)), (0, (1, 1))], [(0, 0)], w7) _
          refine e_Ok.if1 rfl (fun h43 => ?_) (fun h43 => ?_)
          · replace h43 : (0 : Int) = 0 := h43
            refine e_Ok.run (t' := (70, [(1, (0, z14)), (0, (1, 1))], [(0, z14), (1, 1)], w7)) 2 rfl ?_
            have n47_0 : w7 1 0 = w 1 0 := (by rw [← hw7]; exact (e_up_ne _ _ (Or.inr (by omega))).trans ((q5f 1 0 (by unfold kRn; omega)).trans rfl))
            have n47_5 : w7 1 5 = w2 1 5 := (by rw [← hw7]; exact (e_up_ne _ _ (Or.inr (by omega))).trans rfl)
            have n47_6 : w7 1 6 = w2 1 7 := (by rw [← hw7]; exact e_up_eq _ _ _ _)
            have n47_7 : w7 1 7 = w2 1 7 := (by rw [← hw7]; exact (e_up_ne _ _ (Or.inr (by omega))).trans rfl)
            have n47_8 : w7 1 8 = w2 1 8 := (by rw [← hw7]; exact (e_up_ne _ _ (Or.inr (by omega))).trans rfl)
            refine e_Ok.callV rfl (by omega) rfl rfl rfl rfl (e_Ok.both (l_128 (by omega) hT9 hH10 (by omega) (by omega) (by omega)) (l_128_x (by omega) hT9 hH10 (by omega) (by omega) (by omega))) (fun r44 w45 h46 => ?_)
            obtain ⟨⟨rfl, q48f, q48T, q48H, q48x⟩, -, q48X⟩ := h46
            have e5 : w7 5 = w 5 := funext (fun i => f8 5 i (by unfold kRa; omega))
            rw [e5, show w7 1 0 = w 1 0 from (by rw [← hw7]; exact (e_up_ne _ _ (Or.inr (by omega))).trans ((q5f 1 0 (by unfold kRn; omega)).trans rfl)), show w7 1 7 = w2 1 7 from (by rw [← hw7]; exact (e_up_ne _ _ (Or.inr (by omega))).trans rfl)] at q48X
            have f49 : e_fr kRa w w45 := e_fr.trans f8 (e_fr.mono q48f (fun c k q => by unfold kRn at q; unfold kRa; omega))
            have q487 := e_Has.get q48H (c := 1) (k := 7) (lo := 0) (hi := 4000) rfl (by decide)
            show e_Ok 20 elay kcode eI (d + 1) 123 (73, [(1, (0, z14)), (0, (1, 1))], [], w45) _
            refine e_Ok.rets rfl rfl ?_
            have y5 : w45 1 5 = w45 1 5 := rfl
            have y6 : w45 1 6 = w2 1 7 := ((q48f 1 6 (by unfold kRn; omega)).trans (by rw [← hw7]; exact e_up_eq _ _ _ _))
            have y7 : w45 1 7 = w45 1 7 := rfl
            have y8 : w45 1 8 = w45 1 8 := rfl
            refine ⟨rfl, ?_⟩
            unfold tkP
            rw [y6]
            have ecc : z14 = w 5 (w2 1 7) % 256 := by omega
            rw [ecc] at q48X
            exact ⟨q5X, Or.inr ⟨by omega, Or.inr (Or.inr ⟨by unfold dgB; omega, by unfold ltB; omega, q48X⟩)⟩⟩
          · replace h43 : (0 : Int) ≠ 0 := by have q : ¬ ((0 : Int) = 0) := h43; omega
            exfalso; omega
      · replace h29 : (0 : Int) ≠ 0 := by have q : ¬ ((0 : Int) = 0) := h29; omega
        exfalso; omega
  · replace h16 : (w2 1 7 : Int) ≥ w 1 0 := by have q : ¬ ((w2 1 7 : Int) < w 1 0) := h16; omega
    refine e_Ok.run (t' := (34, [(1, (0, z14)), (0, (1, 1))], [(0, 0), (1, 1)], w7)) 2 rfl ?_
    refine e_Ok.putf rfl rfl rfl rfl ?_
    generalize hw50 : e_up w7 1 5 0 = w50
    have f51 : e_fr kRa w w50 := e_fr.up f8 hw50 (by unfold kRa; omega)
    have hT52 : e_Has kLt w50 := e_Has.ups hT9 hw50 rfl
    have hH53 : e_Has kLr w50 := e_Has.upr hH10 hw50 rfl (by omega)
    refine e_Ok.run (t' := (73, [(1, (0, z14)), (0, (1, 1))], [], w50)) 1 rfl ?_
    refine e_Ok.rets rfl rfl ?_
    have y5 : w50 1 5 = 0 := (by rw [← hw50]; exact e_up_eq _ _ _ _)
    have y6 : w50 1 6 = w2 1 7 := (by rw [← hw50]; exact (e_up_ne _ _ (Or.inr (by omega))).trans (by rw [← hw7]; exact e_up_eq _ _ _ _))
    have y7 : w50 1 7 = w2 1 7 := (by rw [← hw50]; exact (e_up_ne _ _ (Or.inr (by omega))).trans (by rw [← hw7]; exact (e_up_ne _ _ (Or.inr (by omega))).trans rfl))
    have y8 : w50 1 8 = w2 1 8 := (by rw [← hw50]; exact (e_up_ne _ _ (Or.inr (by omega))).trans (by rw [← hw7]; exact (e_up_ne _ _ (Or.inr (by omega))).trans rfl))
    refine ⟨rfl, ?_⟩
    unfold tkP
    rw [y6]
    exact ⟨q5X, Or.inl ⟨by omega, y5, y7⟩⟩
theorem l_326 {d : Nat} {w : eW} (hT : e_Has mLq w) (hH : e_Has mLr w) {N : Int} (hN : w 275 9 = N) (hNr : 0 ≤ N ∧ N ≤ 4000) {i : Int} (hi : 0 ≤ i ∧ i ≤ 2147483647) : e_Ok 20 elay ecode eI d 326 (0, [(0, (1, 275)), (1, (0, i))], [], w) (fun r w' => ∃ z : Int, r = [(0, z)] ∧ w = w' ∧ ((i < N ∧ z = w 281 i ∧ -128 ≤ z ∧ z ≤ 127) ∨ (N ≤ i ∧ z = -1000))) := by
  refine e_Ok.run (t' := (2, [(0, (1, 275)), (1, (0, i))], [(1, 275), (0, i)], w)) 2 rfl ?_
  refine e_Ok.getf (z := N) rfl rfl rfl rfl hN (by omega) ?_
  refine e_Ok.if2 rfl (fun h1 => ?_) (fun h1 => ?_)
  · replace h1 : (i : Int) ≥ N := h1
    refine e_Ok.run (t' := (20, [(0, (1, 275)), (1, (0, i))], [(0, (-1000))], w)) 1 rfl ?_
    refine e_Ok.rets rfl rfl ?_
    exact ⟨_, rfl, rfl, Or.inr ⟨by omega, rfl⟩⟩
  · replace h1 : (i : Int) < N := by have q : ¬ ((i : Int) ≥ N) := h1; omega
    refine e_Ok.run (t' := (9, [(0, (1, 275)), (1, (0, i))], [(1, 275)], w)) 1 rfl ?_
    refine e_Ok.getr (z := 281) rfl rfl rfl rfl (e_Has.eq hT rfl) (by omega) ?_
    refine e_Ok.run (t' := (13, [(0, (1, 275)), (1, (0, i))], [(0, i), (1, 281)], w)) 1 rfl ?_
    have h2 := (e_Has.get hH (c := 281) (k := i) (lo := (-128)) (hi := 127) rfl (by decide))
    refine e_Ok.ald (z := w 281 i) rfl rfl rfl (by omega) rfl (by omega) ?_
    refine e_Ok.run (t' := (20, [(0, (1, 275)), (1, (0, i))], [(0, w 281 i)], w)) 1 rfl ?_
    refine e_Ok.rets rfl rfl ?_
    exact ⟨_, rfl, rfl, Or.inl ⟨by omega, rfl, by omega, by omega⟩⟩
theorem l_329 {d : Nat} (hd : 22 ≤ d) {w : eW} (hT : e_Has mLq w) (hH : e_Has mLr w) {N : Int} (hN : w 275 9 = N) (hNr : 0 ≤ N ∧ N ≤ 4000) {t : Int} (ht : w 275 86 = t) (htr : 0 ≤ t ∧ t < N) (hb : 48 ≤ w 281 t ∧ w 281 t ≤ 57) : e_Ok 20 elay ecode eI d 329 (0, [(0, (1, 275))], [], w) (fun r w' => r = [] ∧ e_fr mTq w w' ∧ tkS w' N ∧ t ≤ w' 275 86) := by
  obtain ⟨d, rfl⟩ : ∃ e, d = e + 1 := ⟨d - 1, by omega⟩
  refine e_Ok.run (t' := (3, [(1, (4, 0)), (0, (1, 275))], [(1, 275)], w)) 3 rfl ?_
  refine e_Ok.getf (z := t) rfl rfl rfl rfl ht (by omega) ?_
  refine e_Ok.run (t' := (7, [(3, (0, t)), (1, (4, 0)), (0, (1, 275))], [], w)) 1 rfl ?_
  have hL1 : ∀ (nn : Nat) (y1 : Int) (y3 : Int), (t ≤ y3 ∧ y3 ≤ N) ∧ ((t < y3 ∨ (y3 = t ∧ w 281 y3 = w 281 t))) → 4001 - y3 < nn → e_Ok 20 elay ecode eI (d + 1) 329 (7, [(0, (1, 275)), (1, (4, y1)), (3, (0, y3))], [], w) (fun r w' => r = [] ∧ e_fr mTq w w' ∧ tkS w' N ∧ t ≤ w' 275 86) := by
    intro nn
    induction nn with
    | zero => intro y1 y3 hj hm; obtain ⟨j3, j4⟩ := hj; exfalso; omega
    | succ nn ih2 =>
      intro y1 y3 hj hm
      obtain ⟨j3, j4⟩ := hj
      refine e_Ok.run (t' := (9, [(0, (1, 275)), (1, (4, y1)), (3, (0, y3))], [(0, y3), (1, 275)], w)) 2 rfl ?_
      refine e_Ok.callV rfl (by omega) rfl rfl rfl rfl (l_326 hT hH hN hNr (by omega)) (fun r5 w6 h7 => ?_)
      obtain ⟨z8, rfl, rfl, q9⟩ := h7
      show e_Ok 20 elay ecode eI (d + 1) 329 (12, [(0, (1, 275)), (1, (4, y1)), (3, (0, y3))], [(0, z8)], w) _
      refine e_Ok.callS rfl (by omega) rfl rfl (c_325_x (by omega)) (fun r10 w11 h12 => ?_)
      obtain ⟨z13, rfl, rfl, q14⟩ := h12
      obtain ⟨rfl, q14⟩ | ⟨rfl, q14⟩ := q14
      · show e_Ok 20 elay ecode eI (d + 1) 329 (15, [(0, (1, 275)), (1, (4, y1)), (3, (0, y3))], [(0, 1)], w) _
        refine e_Ok.if1 rfl (fun h15 => ?_) (fun h15 => ?_)
        · replace h15 : (1 : Int) = 0 := h15
          exfalso; omega
        · replace h15 : (1 : Int) ≠ 0 := by have q : ¬ ((1 : Int) = 0) := h15; omega
          refine e_Ok.run (t' := (22, [(0, (1, 275)), (1, (4, y1)), (3, (0, y3))], [(4, 2147483647), (4, y1)], w)) 2 rfl ?_
          refine e_Ok.lcmp rfl (fun z16 z16a z16b z16c => ?_)
          refine e_Ok.if1 rfl (fun h17 => ?_) (fun h17 => ?_)
          · replace h17 : (z16 : Int) ≤ 0 := h17
            refine e_Ok.run (t' := (34, [(0, (1, 275)), (1, (4, y1)), (3, (0, y3))], [(4, y1), (4, 10)], w)) 2 rfl ?_
            refine e_Ok.anyL rfl ⟨_, rfl⟩ (fun x18 => ?_)
            refine e_Ok.run (t' := (37, [(0, (1, 275)), (1, (4, y1)), (3, (0, y3))], [(0, y3), (1, 275), (4, x18)], w)) 2 rfl ?_
            refine e_Ok.callV rfl (by omega) rfl rfl rfl rfl (l_326 hT hH hN hNr (by omega)) (fun r19 w20 h21 => ?_)
            obtain ⟨z22, rfl, rfl, q23⟩ := h21
            show e_Ok 20 elay ecode eI (d + 1) 329 (40, [(0, (1, 275)), (1, (4, y1)), (3, (0, y3))], [(0, z22), (4, x18)], w) _
            refine e_Ok.run (t' := (41, [(0, (1, 275)), (1, (4, y1)), (3, (0, y3))], [(4, z22), (4, x18)], w)) 1 rfl ?_
            refine e_Ok.anyL rfl ⟨_, rfl⟩ (fun x24 => ?_)
            refine e_Ok.run (t' := (45, [(0, (1, 275)), (1, (4, y1)), (3, (0, y3))], [(4, 48), (4, x24)], w)) 1 rfl ?_
            refine e_Ok.anyL rfl ⟨_, rfl⟩ (fun x25 => ?_)
            refine e_Ok.run (t' := (47, [(1, (4, x25)), (0, (1, 275)), (3, (0, y3))], [], w)) 1 rfl ?_
            refine e_Ok.inc (z := y3 + 1) rfl rfl (by omega) (by omega) ?_
            show e_Ok 20 elay ecode eI (d + 1) 329 (50, [(3, (0, y3 + 1)), (1, (4, x25)), (0, (1, 275))], [], w) _
            refine e_Ok.run (t' := (7, [(3, (0, y3 + 1)), (1, (4, x25)), (0, (1, 275))], [], w)) 1 rfl ?_
            refine e_Ok.sub eAlk (e_sub_of rfl ?_) (ih2 x25 (y3 + 1) ⟨by omega, (Or.inl (by omega))⟩ (by omega))
            exact ⟨rfl, rfl, rfl, trivial⟩
          · replace h17 : (z16 : Int) > 0 := by have q : ¬ ((z16 : Int) ≤ 0) := h17; omega
            refine e_Ok.run (t' := (47, [(1, (4, y1)), (0, (1, 275)), (3, (0, y3))], [], w)) 3 rfl ?_
            refine e_Ok.inc (z := y3 + 1) rfl rfl (by omega) (by omega) ?_
            show e_Ok 20 elay ecode eI (d + 1) 329 (50, [(3, (0, y3 + 1)), (1, (4, y1)), (0, (1, 275))], [], w) _
            refine e_Ok.run (t' := (7, [(3, (0, y3 + 1)), (1, (4, y1)), (0, (1, 275))], [], w)) 1 rfl ?_
            refine e_Ok.sub eAlk (e_sub_of rfl ?_) (ih2 y1 (y3 + 1) ⟨by omega, (Or.inl (by omega))⟩ (by omega))
            exact ⟨rfl, rfl, rfl, trivial⟩
      · show e_Ok 20 elay ecode eI (d + 1) 329 (15, [(0, (1, 275)), (1, (4, y1)), (3, (0, y3))], [(0, 0)], w) _
        refine e_Ok.if1 rfl (fun h26 => ?_) (fun h26 => ?_)
        · replace h26 : (0 : Int) = 0 := h26
          refine e_Ok.run (t' := (55, [(0, (1, 275)), (1, (4, y1)), (3, (0, y3))], [(0, y3), (1, 275)], w)) 2 rfl ?_
          refine e_Ok.putf rfl rfl rfl rfl ?_
          generalize hw27 : e_up w 275 87 y3 = w27
          have f28 : e_fr mTq w w27 := e_fr.up (e_fr.refl w) hw27 (by unfold mTq; omega)
          refine e_Ok.run (t' := (63, [(0, (1, 275)), (1, (4, y1)), (3, (0, y3))], [(4, 2147483647), (4, y1), (1, 275)], w27)) 3 rfl ?_
          refine e_Ok.lcmp rfl (fun z29 z29a z29b z29c => ?_)
          refine e_Ok.if1 rfl (fun h30 => ?_) (fun h30 => ?_)
          · replace h30 : (z29 : Int) ≤ 0 := h30
            refine e_Ok.run (t' := (72, [(0, (1, 275)), (1, (4, y1)), (3, (0, y3))], [(0, 2), (1, 275)], w27)) 1 rfl ?_
            refine e_Ok.putf rfl rfl rfl rfl ?_
            generalize hw31 : e_up w27 275 84 2 = w31
            have f32 : e_fr mTq w w31 := e_fr.up f28 hw31 (by unfold mTq; omega)
            refine e_Ok.run (t' := (77, [(0, (1, 275)), (1, (4, y1)), (3, (0, y3))], [(4, y1), (1, 275)], w31)) 2 rfl ?_
            refine e_Ok.l2i rfl (fun z33 z33a z33b => ?_)
            refine e_Ok.putf rfl rfl rfl rfl ?_
            generalize hw34 : e_up w31 275 85 z33 = w34
            have f35 : e_fr mTq w w34 := e_fr.up f32 hw34 (by unfold mTq; omega)
            refine e_Ok.rets rfl rfl ?_
            have et86 : w34 275 86 = t := (by rw [← hw34]; exact (e_up_ne _ _ (Or.inr (by omega))).trans (by rw [← hw31]; exact (e_up_ne _ _ (Or.inr (by omega))).trans (by rw [← hw27]; exact (e_up_ne _ _ (Or.inr (by omega))).trans ht)))
            have et87 : w34 275 87 = y3 := (by rw [← hw34]; exact (e_up_ne _ _ (Or.inr (by omega))).trans (by rw [← hw31]; exact (e_up_ne _ _ (Or.inr (by omega))).trans (by rw [← hw27]; exact e_up_eq _ _ _ _)))
            have et84 : w34 275 84 = 2 := (by rw [← hw34]; exact (e_up_ne _ _ (Or.inr (by omega))).trans (by rw [← hw31]; exact e_up_eq _ _ _ _))
            have et85 : w34 275 85 = z33 := (by rw [← hw34]; exact e_up_eq _ _ _ _)
            exact ⟨rfl, f35, by unfold tkS tkV; rw [et86, et87, et84, et85]; omega, by omega⟩
          · replace h30 : (z29 : Int) > 0 := by have q : ¬ ((z29 : Int) ≤ 0) := h30; omega
            refine e_Ok.run (t' := (72, [(0, (1, 275)), (1, (4, y1)), (3, (0, y3))], [(0, 5), (1, 275)], w27)) 2 rfl ?_
            refine e_Ok.putf rfl rfl rfl rfl ?_
            generalize hw36 : e_up w27 275 84 5 = w36
            have f37 : e_fr mTq w w36 := e_fr.up f28 hw36 (by unfold mTq; omega)
            refine e_Ok.run (t' := (77, [(0, (1, 275)), (1, (4, y1)), (3, (0, y3))], [(4, y1), (1, 275)], w36)) 2 rfl ?_
            refine e_Ok.l2i rfl (fun z38 z38a z38b => ?_)
            refine e_Ok.putf rfl rfl rfl rfl ?_
            generalize hw40 : e_up w36 275 85 z38 = w40
            have f41 : e_fr mTq w w40 := e_fr.up f37 hw40 (by unfold mTq; omega)
            refine e_Ok.rets rfl rfl ?_
            have et86 : w40 275 86 = t := (by rw [← hw40]; exact (e_up_ne _ _ (Or.inr (by omega))).trans (by rw [← hw36]; exact (e_up_ne _ _ (Or.inr (by omega))).trans (by rw [← hw27]; exact (e_up_ne _ _ (Or.inr (by omega))).trans ht)))
            have et87 : w40 275 87 = y3 := (by rw [← hw40]; exact (e_up_ne _ _ (Or.inr (by omega))).trans (by rw [← hw36]; exact (e_up_ne _ _ (Or.inr (by omega))).trans (by rw [← hw27]; exact e_up_eq _ _ _ _)))
            have et84 : w40 275 84 = 5 := (by rw [← hw40]; exact (e_up_ne _ _ (Or.inr (by omega))).trans (by rw [← hw36]; exact e_up_eq _ _ _ _))
            have et85 : w40 275 85 = z38 := (by rw [← hw40]; exact e_up_eq _ _ _ _)
            exact ⟨rfl, f41, by unfold tkS tkV; rw [et86, et87, et84, et85]; omega, by omega⟩
        · replace h26 : (0 : Int) ≠ 0 := by have q : ¬ ((0 : Int) = 0) := h26; omega
          exfalso; omega
  refine e_Ok.sub eAlk (e_sub_of rfl ?_) (hL1 (4001 + 1 : Int).toNat 0 t ⟨by omega, (Or.inr ⟨rfl, rfl⟩)⟩ (by omega))
  exact ⟨rfl, rfl, rfl, trivial⟩
end
