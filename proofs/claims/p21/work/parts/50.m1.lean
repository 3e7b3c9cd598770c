noncomputable section
theorem c_266 {d : Nat} {w : eW} {v lo hi : Int} : e_Ok 20 elay ecode eI d 266 (0, [(0, (4, v)), (2, (4, lo)), (4, (4, hi))], [], w) (fun r w' => ∃ z : Int, r = [(0, z)] ∧ w = w' ∧ ((z = 1 ∧ lo ≤ v ∧ v ≤ hi) ∨ (z = 0 ∧ (v < lo ∨ hi < v)))) := by
  refine e_Ok.run (t' := (2, [(0, (4, v)), (2, (4, lo)), (4, (4, hi))], [(4, lo), (4, v)], w)) 2 rfl ?_
  refine e_Ok.lcmp rfl (fun z1 z1a z1b z1c => ?_)
  refine e_Ok.if1 rfl (fun h2 => ?_) (fun h2 => ?_)
  · replace h2 : (z1 : Int) < 0 := h2
    refine e_Ok.run (t' := (18, [(0, (4, v)), (2, (4, lo)), (4, (4, hi))], [(0, 0)], w)) 1 rfl ?_
    refine e_Ok.rets rfl rfl ?_
    exact ⟨_, rfl, rfl, Or.inr ⟨rfl, by omega⟩⟩
  · replace h2 : (z1 : Int) ≥ 0 := by have q : ¬ ((z1 : Int) < 0) := h2; omega
    refine e_Ok.run (t' := (9, [(0, (4, v)), (2, (4, lo)), (4, (4, hi))], [(4, hi), (4, v)], w)) 2 rfl ?_
    refine e_Ok.lcmp rfl (fun z3 z3a z3b z3c => ?_)
    refine e_Ok.if1 rfl (fun h4 => ?_) (fun h4 => ?_)
    · replace h4 : (z3 : Int) > 0 := h4
      refine e_Ok.run (t' := (18, [(0, (4, v)), (2, (4, lo)), (4, (4, hi))], [(0, 0)], w)) 1 rfl ?_
      refine e_Ok.rets rfl rfl ?_
      exact ⟨_, rfl, rfl, Or.inr ⟨rfl, by omega⟩⟩
    · replace h4 : (z3 : Int) ≤ 0 := by have q : ¬ ((z3 : Int) > 0) := h4; omega
      refine e_Ok.run (t' := (18, [(0, (4, v)), (2, (4, lo)), (4, (4, hi))], [(0, 1)], w)) 2 rfl ?_
      refine e_Ok.rets rfl rfl ?_
      exact ⟨_, rfl, rfl, Or.inl ⟨rfl, by omega, by omega⟩⟩
theorem c_268 {d : Nat} {w : eW} {a : Int} (h : 0 ≤ a ∧ a ≤ 100) : e_Ok 20 elay ecode eI d 268 (0, [(0, (0, a))], [], w) (fun r w' => r = [(0, 36 * a + 16)] ∧ w = w') := by
  refine e_Ok.run (t' := (5, [(0, (0, a))], [(0, a), (0, 36), (0, 16)], w)) 3 rfl ?_
  refine e_Ok.mul (z := 36 * a) rfl (by omega) (by omega) ?_
  refine e_Ok.add (z := 36 * a + 16) rfl (by omega) (by omega) ?_
  refine e_Ok.rets rfl rfl ?_
  exact ⟨rfl, rfl⟩
theorem c_269 {d : Nat} {w : eW} {a : Int} (h : 0 ≤ a ∧ a ≤ 100) : e_Ok 20 elay ecode eI d 269 (0, [(0, (0, a))], [], w) (fun r w' => r = [(0, 1260 * a + 416)] ∧ w = w') := by
  refine e_Ok.run (t' := (7, [(0, (0, a))], [(0, a), (0, 1260), (0, 416)], w)) 3 rfl ?_
  refine e_Ok.mul (z := 1260 * a) rfl (by omega) (by omega) ?_
  refine e_Ok.add (z := 1260 * a + 416) rfl (by omega) (by omega) ?_
  refine e_Ok.rets rfl rfl ?_
  exact ⟨rfl, rfl⟩
theorem c_392 {d : Nat} {w : eW} {a : Int} (h : 0 ≤ a ∧ a ≤ 100) : e_Ok 20 elay ecode eI d 392 (0, [(0, (0, a))], [], w) (fun r w' => r = [(0, 4 * a + 20576)] ∧ w = w') := by
  refine e_Ok.run (t' := (5, [(0, (0, a))], [(0, a), (0, 4), (0, 20576)], w)) 3 rfl ?_
  refine e_Ok.mul (z := 4 * a) rfl (by omega) (by omega) ?_
  refine e_Ok.add (z := 4 * a + 20576) rfl (by omega) (by omega) ?_
  refine e_Ok.rets rfl rfl ?_
  exact ⟨rfl, rfl⟩
theorem c_270 {d : Nat} (hd : 21 ≤ d) {w : eW} (hT : e_Has mTy w) {a : Int} : e_Ok 20 elay ecode eI d 270 (0, [(0, (1, 275)), (1, (0, a))], [], w) (fun r w' => ∃ z : Int, r = [(0, z)] ∧ w = w' ∧ ((z = 1 ∧ 0 ≤ a ∧ a < w 275 10) ∨ (z = 0 ∧ (a < 0 ∨ w 275 10 ≤ a)))) := by
  obtain ⟨d, rfl⟩ : ∃ e, d = e + 1 := ⟨d - 1, by omega⟩
  refine e_Ok.run (t' := (4, [(0, (1, 275)), (1, (0, a))], [(1, 275), (4, 0), (4, a)], w)) 4 rfl ?_
  have h1 := (e_Has.get hT (c := 275) (k := 10) (lo := 0) (hi := 4) rfl (by decide))
  refine e_Ok.getf (z := w 275 10) rfl (el_o rfl) rfl rfl rfl (by omega) ?_
  refine e_Ok.run (t' := (8, [(0, (1, 275)), (1, (0, a))], [(0, 1), (0, w 275 10), (4, 0), (4, a)], w)) 1 rfl ?_
  refine e_Ok.sub' (z := w 275 10 - 1) rfl (by omega) (by omega) ?_
  refine e_Ok.run (t' := (10, [(0, (1, 275)), (1, (0, a))], [(4, w 275 10 - 1), (4, 0), (4, a)], w)) 1 rfl ?_
  refine e_Ok.callS rfl (by omega) rfl rfl (c_266) (fun r2 w3 h4 => ?_)
  obtain ⟨z5, rfl, rfl, q6⟩ := h4
  obtain ⟨rfl, q6⟩ | ⟨rfl, q6⟩ := q6
  · show e_Ok 20 elay ecode eI (d + 1) 270 (13, [(0, (1, 275)), (1, (0, a))], [(0, 1)], w) _
    refine e_Ok.rets rfl rfl ?_
    exact ⟨_, rfl, rfl, Or.inl ⟨rfl, by omega, by omega⟩⟩
  · show e_Ok 20 elay ecode eI (d + 1) 270 (13, [(0, (1, 275)), (1, (0, a))], [(0, 0)], w) _
    refine e_Ok.rets rfl rfl ?_
    exact ⟨_, rfl, rfl, Or.inr ⟨rfl, by omega⟩⟩
theorem c_306 {d : Nat} {w : eW} {a1 a2 a3 : Int} : e_Ok 20 elay ecode eI d 306 (0, [(0, (4, a1)), (2, (4, a2)), (4, (4, a3))], [], w) (fun r w' => ∃ z : Int, r = [(0, z)] ∧ w = w' ∧ 0 ≤ z ∧ z ≤ 1) := by
  refine e_Ok.run (t' := (2, [(0, (4, a1)), (2, (4, a2)), (4, (4, a3))], [(4, a1), (4, a1)], w)) 2 rfl ?_
  refine e_Ok.anyL rfl ⟨_, rfl⟩ (fun x1 => ?_)
  refine e_Ok.run (t' := (5, [(0, (4, a1)), (2, (4, a2)), (4, (4, a3))], [(4, a2), (4, a2), (4, x1)], w)) 2 rfl ?_
  refine e_Ok.anyL rfl ⟨_, rfl⟩ (fun x2 => ?_)
  refine e_Ok.anyL rfl ⟨_, rfl⟩ (fun x3 => ?_)
  refine e_Ok.run (t' := (11, [(0, (4, a1)), (2, (4, a2)), (4, (4, a3))], [(4, a3), (4, a3), (4, x3)], w)) 2 rfl ?_
  refine e_Ok.anyL rfl ⟨_, rfl⟩ (fun x4 => ?_)
  refine e_Ok.lcmp rfl (fun z5 z5a z5b z5c => ?_)
  have hJ8 : ∀ m7 : Int, 0 ≤ m7 ∧ m7 ≤ 1 → e_Ok 20 elay ecode eI d 306 (21, [(0, (4, a1)), (2, (4, a2)), (4, (4, a3))], [(0, m7)], w) (fun r w' => ∃ z : Int, r = [(0, z)] ∧ w = w' ∧ 0 ≤ z ∧ z ≤ 1) := by
    intro m7 m7r
    refine e_Ok.retb rfl (by omega) ?_
    exact ⟨_, rfl, rfl, by omega, by omega⟩
  refine e_Ok.if1 rfl (fun h6 => ?_) (fun h6 => ?_)
  · exact e_Ok.run 1 rfl (hJ8 0 (by omega))
  · exact e_Ok.run 2 rfl (hJ8 1 (by omega))
theorem c_308 {d : Nat} {w : eW} {a1 a2 a3 a4 a5 a6 : Int} : e_Ok 20 elay ecode eI d 308 (0, [(0, (4, a1)), (2, (4, a2)), (4, (4, a3)), (6, (4, a4)), (8, (4, a5)), (10, (4, a6))], [], w) (fun r w' => ∃ z : Int, r = [(0, z)] ∧ w = w' ∧ (-1) ≤ z ∧ z ≤ 1) := by
  refine e_Ok.run (t' := (3, [(0, (4, a1)), (2, (4, a2)), (4, (4, a3)), (6, (4, a4)), (8, (4, a5)), (10, (4, a6))], [(4, a1), (4, a3)], w)) 2 rfl ?_
  refine e_Ok.anyL rfl ⟨_, rfl⟩ (fun x1 => ?_)
  refine e_Ok.run (t' := (7, [(0, (4, a1)), (2, (4, a2)), (4, (4, a3)), (6, (4, a4)), (8, (4, a5)), (10, (4, a6))], [(4, a2), (4, a6), (4, x1)], w)) 2 rfl ?_
  refine e_Ok.anyL rfl ⟨_, rfl⟩ (fun x2 => ?_)
  refine e_Ok.anyL rfl ⟨_, rfl⟩ (fun x3 => ?_)
  refine e_Ok.run (t' := (12, [(0, (4, a1)), (2, (4, a2)), (4, (4, a3)), (6, (4, a4)), (8, (4, a5)), (10, (4, a6))], [(4, a2), (4, a4), (4, x3)], w)) 2 rfl ?_
  refine e_Ok.anyL rfl ⟨_, rfl⟩ (fun x4 => ?_)
  refine e_Ok.run (t' := (16, [(0, (4, a1)), (2, (4, a2)), (4, (4, a3)), (6, (4, a4)), (8, (4, a5)), (10, (4, a6))], [(4, a1), (4, a5), (4, x4), (4, x3)], w)) 2 rfl ?_
  refine e_Ok.anyL rfl ⟨_, rfl⟩ (fun x5 => ?_)
  refine e_Ok.anyL rfl ⟨_, rfl⟩ (fun x6 => ?_)
  refine e_Ok.anyL rfl ⟨_, rfl⟩ (fun x7 => ?_)
  refine e_Ok.run (t' := (24, [(12, (4, x7)), (0, (4, a1)), (2, (4, a2)), (4, (4, a3)), (6, (4, a4)), (8, (4, a5)), (10, (4, a6))], [(4, 0), (4, x7)], w)) 3 rfl ?_
  refine e_Ok.lcmp rfl (fun z8 z8a z8b z8c => ?_)
  refine e_Ok.if1 rfl (fun h9 => ?_) (fun h9 => ?_)
  · replace h9 : (z8 : Int) ≤ 0 := h9
    refine e_Ok.run (t' := (35, [(12, (4, x7)), (0, (4, a1)), (2, (4, a2)), (4, (4, a3)), (6, (4, a4)), (8, (4, a5)), (10, (4, a6))], [(4, 0), (4, x7)], w)) 2 rfl ?_
    refine e_Ok.lcmp rfl (fun z10 z10a z10b z10c => ?_)
    have hJ13 : ∀ m12 : Int, (-1) ≤ m12 ∧ m12 ≤ 0 → e_Ok 20 elay ecode eI d 308 (44, [(12, (4, x7)), (0, (4, a1)), (2, (4, a2)), (4, (4, a3)), (6, (4, a4)), (8, (4, a5)), (10, (4, a6))], [(0, m12)], w) (fun r w' => ∃ z : Int, r = [(0, z)] ∧ w = w' ∧ (-1) ≤ z ∧ z ≤ 1) := by
      intro m12 m12r
      refine e_Ok.rets rfl rfl ?_
      exact ⟨_, rfl, rfl, by omega, by omega⟩
    refine e_Ok.if1 rfl (fun h11 => ?_) (fun h11 => ?_)
    · exact e_Ok.run 1 rfl (hJ13 0 (by omega))
    · exact e_Ok.run 2 rfl (hJ13 (-1) (by omega))
  · replace h9 : (z8 : Int) > 0 := by have q : ¬ ((z8 : Int) ≤ 0) := h9; omega
    refine e_Ok.run (t' := (44, [(12, (4, x7)), (0, (4, a1)), (2, (4, a2)), (4, (4, a3)), (6, (4, a4)), (8, (4, a5)), (10, (4, a6))], [(0, 1)], w)) 2 rfl ?_
    refine e_Ok.rets rfl rfl ?_
    exact ⟨_, rfl, rfl, by omega, by omega⟩
theorem c_309 {d : Nat} {w : eW} {a1 a2 a3 a4 a5 : Int} : e_Ok 20 elay ecode eI d 309 (0, [(0, (4, a1)), (2, (4, a2)), (4, (4, a3)), (6, (4, a4)), (8, (4, a5))], [], w) (fun r w' => ∃ z : Int, r = [(0, z)] ∧ w = w' ∧ 0 ≤ z ∧ z ≤ 1) := by
  refine e_Ok.run (t' := (2, [(0, (4, a1)), (2, (4, a2)), (4, (4, a3)), (6, (4, a4)), (8, (4, a5))], [(4, a2), (4, a1)], w)) 2 rfl ?_
  refine e_Ok.lcmp rfl (fun z1 z1a z1b z1c => ?_)
  have hJ4 : ∀ m3 : Int, e_Ok 20 elay ecode eI d 309 (11, [(0, (4, a1)), (2, (4, a2)), (4, (4, a3)), (6, (4, a4)), (8, (4, a5))], [(4, m3)], w) (fun r w' => ∃ z : Int, r = [(0, z)] ∧ w = w' ∧ 0 ≤ z ∧ z ≤ 1) := by
    intro m3
    refine e_Ok.run (t' := (15, [(0, (4, a1)), (2, (4, a2)), (4, (4, a3)), (6, (4, a4)), (8, (4, a5))], [(4, a4), (4, a3), (4, m3)], w)) 2 rfl ?_
    refine e_Ok.lcmp rfl (fun z5 z5a z5b z5c => ?_)
    have hJ8 : ∀ m7 : Int, e_Ok 20 elay ecode eI d 309 (26, [(0, (4, a1)), (2, (4, a2)), (4, (4, a3)), (6, (4, a4)), (8, (4, a5))], [(4, m7), (4, m3)], w) (fun r w' => ∃ z : Int, r = [(0, z)] ∧ w = w' ∧ 0 ≤ z ∧ z ≤ 1) := by
      intro m7
      refine e_Ok.anyL rfl ⟨_, rfl⟩ (fun x9 => ?_)
      refine e_Ok.run (t' := (29, [(0, (4, a1)), (2, (4, a2)), (4, (4, a3)), (6, (4, a4)), (8, (4, a5))], [(4, a5), (4, x9)], w)) 1 rfl ?_
      refine e_Ok.lcmp rfl (fun z10 z10a z10b z10c => ?_)
      refine e_Ok.if1 rfl (fun h11 => ?_) (fun h11 => ?_)
      · replace h11 : (z10 : Int) > 0 := h11
        refine e_Ok.run (t' := (71, [(0, (4, a1)), (2, (4, a2)), (4, (4, a3)), (6, (4, a4)), (8, (4, a5))], [(0, 1)], w)) 2 rfl ?_
        refine e_Ok.rets rfl rfl ?_
        exact ⟨_, rfl, rfl, by omega, by omega⟩
      · replace h11 : (z10 : Int) ≤ 0 := by have q : ¬ ((z10 : Int) > 0) := h11; omega
        refine e_Ok.run (t' := (37, [(0, (4, a1)), (2, (4, a2)), (4, (4, a3)), (6, (4, a4)), (8, (4, a5))], [(4, a4), (4, a3)], w)) 2 rfl ?_
        refine e_Ok.lcmp rfl (fun z12 z12a z12b z12c => ?_)
        have hJ15 : ∀ m14 : Int, e_Ok 20 elay ecode eI d 309 (48, [(0, (4, a1)), (2, (4, a2)), (4, (4, a3)), (6, (4, a4)), (8, (4, a5))], [(4, m14)], w) (fun r w' => ∃ z : Int, r = [(0, z)] ∧ w = w' ∧ 0 ≤ z ∧ z ≤ 1) := by
          intro m14
          refine e_Ok.run (t' := (50, [(0, (4, a1)), (2, (4, a2)), (4, (4, a3)), (6, (4, a4)), (8, (4, a5))], [(4, a2), (4, a1), (4, m14)], w)) 2 rfl ?_
          refine e_Ok.lcmp rfl (fun z16 z16a z16b z16c => ?_)
          have hJ19 : ∀ m18 : Int, e_Ok 20 elay ecode eI d 309 (59, [(0, (4, a1)), (2, (4, a2)), (4, (4, a3)), (6, (4, a4)), (8, (4, a5))], [(4, m18), (4, m14)], w) (fun r w' => ∃ z : Int, r = [(0, z)] ∧ w = w' ∧ 0 ≤ z ∧ z ≤ 1) := by
            intro m18
            refine e_Ok.anyL rfl ⟨_, rfl⟩ (fun x20 => ?_)
            refine e_Ok.run (t' := (62, [(0, (4, a1)), (2, (4, a2)), (4, (4, a3)), (6, (4, a4)), (8, (4, a5))], [(4, a5), (4, x20)], w)) 1 rfl ?_
            refine e_Ok.lcmp rfl (fun z21 z21a z21b z21c => ?_)
            have hJ24 : ∀ m23 : Int, 0 ≤ m23 ∧ m23 ≤ 1 → e_Ok 20 elay ecode eI d 309 (71, [(0, (4, a1)), (2, (4, a2)), (4, (4, a3)), (6, (4, a4)), (8, (4, a5))], [(0, m23)], w) (fun r w' => ∃ z : Int, r = [(0, z)] ∧ w = w' ∧ 0 ≤ z ∧ z ≤ 1) := by
              intro m23 m23r
              refine e_Ok.retb rfl (by omega) ?_
              exact ⟨_, rfl, rfl, by omega, by omega⟩
            refine e_Ok.if1 rfl (fun h22 => ?_) (fun h22 => ?_)
            · exact e_Ok.run 1 rfl (hJ24 0 (by omega))
            · exact e_Ok.run 2 rfl (hJ24 1 (by omega))
          refine e_Ok.if1 rfl (fun h17 => ?_) (fun h17 => ?_)
          · exact e_Ok.run 1 rfl (hJ19 a1)
          · exact e_Ok.run 2 rfl (hJ19 a2)
        refine e_Ok.if1 rfl (fun h13 => ?_) (fun h13 => ?_)
        · exact e_Ok.run 1 rfl (hJ15 a4)
        · exact e_Ok.run 2 rfl (hJ15 a3)
    refine e_Ok.if1 rfl (fun h6 => ?_) (fun h6 => ?_)
    · exact e_Ok.run 1 rfl (hJ8 a3)
    · exact e_Ok.run 2 rfl (hJ8 a4)
  refine e_Ok.if1 rfl (fun h2 => ?_) (fun h2 => ?_)
  · exact e_Ok.run 1 rfl (hJ4 a2)
  · exact e_Ok.run 2 rfl (hJ4 a1)
theorem c_307 {d : Nat} (hd : 21 ≤ d) {w : eW} {a1 a2 a3 a4 a5 a6 a7 : Int} : e_Ok 20 elay ecode eI d 307 (0, [(0, (4, a1)), (2, (4, a2)), (4, (4, a3)), (6, (4, a4)), (8, (4, a5)), (10, (4, a6)), (12, (4, a7))], [], w) (fun r w' => ∃ z : Int, r = [(0, z)] ∧ w = w' ∧ 0 ≤ z ∧ z ≤ 1) := by
  obtain ⟨d, rfl⟩ : ∃ e, d = e + 1 := ⟨d - 1, by omega⟩
  refine e_Ok.run (t' := (4, [(0, (4, a1)), (2, (4, a2)), (4, (4, a3)), (6, (4, a4)), (8, (4, a5)), (10, (4, a6)), (12, (4, a7))], [(4, a3), (4, a5)], w)) 2 rfl ?_
  refine e_Ok.anyL rfl ⟨_, rfl⟩ (fun x1 => ?_)
  refine e_Ok.run (t' := (11, [(14, (4, x1)), (0, (4, a1)), (2, (4, a2)), (4, (4, a3)), (6, (4, a4)), (8, (4, a5)), (10, (4, a6)), (12, (4, a7))], [(4, a4), (4, a6)], w)) 3 rfl ?_
  refine e_Ok.anyL rfl ⟨_, rfl⟩ (fun x2 => ?_)
  refine e_Ok.run (t' := (17, [(16, (4, x2)), (14, (4, x1)), (0, (4, a1)), (2, (4, a2)), (4, (4, a3)), (6, (4, a4)), (8, (4, a5)), (10, (4, a6)), (12, (4, a7))], [(4, a3), (4, a1)], w)) 3 rfl ?_
  refine e_Ok.anyL rfl ⟨_, rfl⟩ (fun x3 => ?_)
  refine e_Ok.run (t' := (23, [(18, (4, x3)), (16, (4, x2)), (14, (4, x1)), (0, (4, a1)), (2, (4, a2)), (4, (4, a3)), (6, (4, a4)), (8, (4, a5)), (10, (4, a6)), (12, (4, a7))], [(4, a4), (4, a2)], w)) 3 rfl ?_
  refine e_Ok.anyL rfl ⟨_, rfl⟩ (fun x4 => ?_)
  refine e_Ok.run (t' := (30, [(20, (4, x4)), (18, (4, x3)), (16, (4, x2)), (14, (4, x1)), (0, (4, a1)), (2, (4, a2)), (4, (4, a3)), (6, (4, a4)), (8, (4, a5)), (10, (4, a6)), (12, (4, a7))], [(4, x3), (4, x1)], w)) 3 rfl ?_
  refine e_Ok.anyL rfl ⟨_, rfl⟩ (fun x5 => ?_)
  refine e_Ok.run (t' := (35, [(20, (4, x4)), (18, (4, x3)), (16, (4, x2)), (14, (4, x1)), (0, (4, a1)), (2, (4, a2)), (4, (4, a3)), (6, (4, a4)), (8, (4, a5)), (10, (4, a6)), (12, (4, a7))], [(4, x4), (4, x2), (4, x5)], w)) 2 rfl ?_
  refine e_Ok.anyL rfl ⟨_, rfl⟩ (fun x6 => ?_)
  refine e_Ok.anyL rfl ⟨_, rfl⟩ (fun x7 => ?_)
  refine e_Ok.run (t' := (43, [(22, (4, x7)), (20, (4, x4)), (18, (4, x3)), (16, (4, x2)), (14, (4, x1)), (0, (4, a1)), (2, (4, a2)), (4, (4, a3)), (6, (4, a4)), (8, (4, a5)), (10, (4, a6)), (12, (4, a7))], [(4, x1), (4, x1)], w)) 3 rfl ?_
  refine e_Ok.anyL rfl ⟨_, rfl⟩ (fun x8 => ?_)
  refine e_Ok.run (t' := (48, [(22, (4, x7)), (20, (4, x4)), (18, (4, x3)), (16, (4, x2)), (14, (4, x1)), (0, (4, a1)), (2, (4, a2)), (4, (4, a3)), (6, (4, a4)), (8, (4, a5)), (10, (4, a6)), (12, (4, a7))], [(4, x2), (4, x2), (4, x8)], w)) 2 rfl ?_
  refine e_Ok.anyL rfl ⟨_, rfl⟩ (fun x9 => ?_)
  refine e_Ok.anyL rfl ⟨_, rfl⟩ (fun x10 => ?_)
  refine e_Ok.run (t' := (55, [(24, (4, x10)), (22, (4, x7)), (20, (4, x4)), (18, (4, x3)), (16, (4, x2)), (14, (4, x1)), (0, (4, a1)), (2, (4, a2)), (4, (4, a3)), (6, (4, a4)), (8, (4, a5)), (10, (4, a6)), (12, (4, a7))], [(4, 0), (4, x7)], w)) 3 rfl ?_
  refine e_Ok.lcmp rfl (fun z11 z11a z11b z11c => ?_)
  refine e_Ok.if1 rfl (fun h12 => ?_) (fun h12 => ?_)
  · replace h12 : (z11 : Int) > 0 := h12
    refine e_Ok.run (t' := (73, [(24, (4, x10)), (22, (4, x7)), (20, (4, x4)), (18, (4, x3)), (16, (4, x2)), (14, (4, x1)), (0, (4, a1)), (2, (4, a2)), (4, (4, a3)), (6, (4, a4)), (8, (4, a5)), (10, (4, a6)), (12, (4, a7))], [(4, x10), (4, x7)], w)) 2 rfl ?_
    refine e_Ok.lcmp rfl (fun z13 z13a z13b z13c => ?_)
    refine e_Ok.if1 rfl (fun h14 => ?_) (fun h14 => ?_)
    · replace h14 : (z13 : Int) < 0 := h14
      refine e_Ok.run (t' := (95, [(24, (4, x10)), (22, (4, x7)), (20, (4, x4)), (18, (4, x3)), (16, (4, x2)), (14, (4, x1)), (0, (4, a1)), (2, (4, a2)), (4, (4, a3)), (6, (4, a4)), (8, (4, a5)), (10, (4, a6)), (12, (4, a7))], [(4, x4), (4, x1)], w)) 2 rfl ?_
      refine e_Ok.anyL rfl ⟨_, rfl⟩ (fun x15 => ?_)
      refine e_Ok.run (t' := (100, [(24, (4, x10)), (22, (4, x7)), (20, (4, x4)), (18, (4, x3)), (16, (4, x2)), (14, (4, x1)), (0, (4, a1)), (2, (4, a2)), (4, (4, a3)), (6, (4, a4)), (8, (4, a5)), (10, (4, a6)), (12, (4, a7))], [(4, x3), (4, x2), (4, x15)], w)) 2 rfl ?_
      refine e_Ok.anyL rfl ⟨_, rfl⟩ (fun x16 => ?_)
      refine e_Ok.anyL rfl ⟨_, rfl⟩ (fun x17 => ?_)
      refine e_Ok.run (t' := (108, [(26, (4, x17)), (24, (4, x10)), (22, (4, x7)), (20, (4, x4)), (18, (4, x3)), (16, (4, x2)), (14, (4, x1)), (0, (4, a1)), (2, (4, a2)), (4, (4, a3)), (6, (4, a4)), (8, (4, a5)), (10, (4, a6)), (12, (4, a7))], [(4, x17), (4, x17)], w)) 3 rfl ?_
      refine e_Ok.anyL rfl ⟨_, rfl⟩ (fun x18 => ?_)
      refine e_Ok.run (t' := (113, [(26, (4, x17)), (24, (4, x10)), (22, (4, x7)), (20, (4, x4)), (18, (4, x3)), (16, (4, x2)), (14, (4, x1)), (0, (4, a1)), (2, (4, a2)), (4, (4, a3)), (6, (4, a4)), (8, (4, a5)), (10, (4, a6)), (12, (4, a7))], [(4, a7), (4, a7), (4, x18)], w)) 2 rfl ?_
      refine e_Ok.anyL rfl ⟨_, rfl⟩ (fun x19 => ?_)
      refine e_Ok.run (t' := (116, [(26, (4, x17)), (24, (4, x10)), (22, (4, x7)), (20, (4, x4)), (18, (4, x3)), (16, (4, x2)), (14, (4, x1)), (0, (4, a1)), (2, (4, a2)), (4, (4, a3)), (6, (4, a4)), (8, (4, a5)), (10, (4, a6)), (12, (4, a7))], [(4, x10), (4, x19), (4, x18)], w)) 1 rfl ?_
      refine e_Ok.anyL rfl ⟨_, rfl⟩ (fun x20 => ?_)
      refine e_Ok.lcmp rfl (fun z21 z21a z21b z21c => ?_)
      have hJ24 : ∀ m23 : Int, 0 ≤ m23 ∧ m23 ≤ 1 → e_Ok 20 elay ecode eI (d + 1) 307 (126, [(26, (4, x17)), (24, (4, x10)), (22, (4, x7)), (20, (4, x4)), (18, (4, x3)), (16, (4, x2)), (14, (4, x1)), (0, (4, a1)), (2, (4, a2)), (4, (4, a3)), (6, (4, a4)), (8, (4, a5)), (10, (4, a6)), (12, (4, a7))], [(0, m23)], w) (fun r w' => ∃ z : Int, r = [(0, z)] ∧ w = w' ∧ 0 ≤ z ∧ z ≤ 1) := by
        intro m23 m23r
        refine e_Ok.retb rfl (by omega) ?_
        exact ⟨_, rfl, rfl, by omega, by omega⟩
      refine e_Ok.if1 rfl (fun h22 => ?_) (fun h22 => ?_)
      · exact e_Ok.run 1 rfl (hJ24 0 (by omega))
      · exact e_Ok.run 2 rfl (hJ24 1 (by omega))
    · replace h14 : (z13 : Int) ≥ 0 := by have q : ¬ ((z13 : Int) < 0) := h14; omega
      refine e_Ok.run (t' := (80, [(24, (4, x10)), (22, (4, x7)), (20, (4, x4)), (18, (4, x3)), (16, (4, x2)), (14, (4, x1)), (0, (4, a1)), (2, (4, a2)), (4, (4, a3)), (6, (4, a4)), (8, (4, a5)), (10, (4, a6)), (12, (4, a7))], [(4, a5), (4, a1)], w)) 2 rfl ?_
      refine e_Ok.anyL rfl ⟨_, rfl⟩ (fun x25 => ?_)
      refine e_Ok.run (t' := (84, [(24, (4, x10)), (22, (4, x7)), (20, (4, x4)), (18, (4, x3)), (16, (4, x2)), (14, (4, x1)), (0, (4, a1)), (2, (4, a2)), (4, (4, a3)), (6, (4, a4)), (8, (4, a5)), (10, (4, a6)), (12, (4, a7))], [(4, a6), (4, a2), (4, x25)], w)) 2 rfl ?_
      refine e_Ok.anyL rfl ⟨_, rfl⟩ (fun x26 => ?_)
      refine e_Ok.run (t' := (87, [(24, (4, x10)), (22, (4, x7)), (20, (4, x4)), (18, (4, x3)), (16, (4, x2)), (14, (4, x1)), (0, (4, a1)), (2, (4, a2)), (4, (4, a3)), (6, (4, a4)), (8, (4, a5)), (10, (4, a6)), (12, (4, a7))], [(4, a7), (4, x26), (4, x25)], w)) 1 rfl ?_
      refine e_Ok.callS rfl (by omega) rfl rfl (c_306) (fun r27 w28 h29 => ?_)
      obtain ⟨z30, rfl, rfl, q31a, q31b⟩ := h29
      show e_Ok 20 elay ecode eI (d + 1) 307 (90, [(24, (4, x10)), (22, (4, x7)), (20, (4, x4)), (18, (4, x3)), (16, (4, x2)), (14, (4, x1)), (0, (4, a1)), (2, (4, a2)), (4, (4, a3)), (6, (4, a4)), (8, (4, a5)), (10, (4, a6)), (12, (4, a7))], [(0, z30)], w) _
      refine e_Ok.retb rfl (by omega) ?_
      exact ⟨_, rfl, rfl, by omega, by omega⟩
  · replace h12 : (z11 : Int) ≤ 0 := by have q : ¬ ((z11 : Int) > 0) := h12; omega
    refine e_Ok.run (t' := (65, [(24, (4, x10)), (22, (4, x7)), (20, (4, x4)), (18, (4, x3)), (16, (4, x2)), (14, (4, x1)), (0, (4, a1)), (2, (4, a2)), (4, (4, a3)), (6, (4, a4)), (8, (4, a5)), (10, (4, a6)), (12, (4, a7))], [(4, a7), (4, x4), (4, x3)], w)) 3 rfl ?_
    refine e_Ok.callS rfl (by omega) rfl rfl (c_306) (fun r32 w33 h34 => ?_)
    obtain ⟨z35, rfl, rfl, q36a, q36b⟩ := h34
    show e_Ok 20 elay ecode eI (d + 1) 307 (68, [(24, (4, x10)), (22, (4, x7)), (20, (4, x4)), (18, (4, x3)), (16, (4, x2)), (14, (4, x1)), (0, (4, a1)), (2, (4, a2)), (4, (4, a3)), (6, (4, a4)), (8, (4, a5)), (10, (4, a6)), (12, (4, a7))], [(0, z35)], w) _
    refine e_Ok.retb rfl (by omega) ?_
    exact ⟨_, rfl, rfl, by omega, by omega⟩
theorem c_310 {d : Nat} (hd : 22 ≤ d) {w : eW} {a : Int} (k1 : e_kn w 324 0 3) (k2 : e_kn w 325 0 3) : e_Ok 20 elay ecode eI d 310 (0, [(0, (1, 324)), (1, (1, 325)), (2, (4, a))], [], w) (fun r w' => ∃ z : Int, r = [(0, z)] ∧ w = w' ∧ 0 ≤ z ∧ z ≤ 1) := by
  obtain ⟨d, rfl⟩ : ∃ e, d = e + 1 := ⟨d - 1, by omega⟩
  refine e_Ok.run (t' := (2, [(0, (1, 324)), (1, (1, 325)), (2, (4, a))], [(0, 0), (1, 324)], w)) 2 rfl ?_
  have h1 := (k1 0 (by omega) (by omega))
  refine e_Ok.ald (z := w 324 0) rfl (el_o rfl) rfl (by omega) rfl (by omega) ?_
  refine e_Ok.run (t' := (6, [(0, (1, 324)), (1, (1, 325)), (2, (4, a))], [(0, 2), (1, 324), (4, w 324 0)], w)) 3 rfl ?_
  have h2 := (k1 2 (by omega) (by omega))
  refine e_Ok.ald (z := w 324 2) rfl (el_o rfl) rfl (by omega) rfl (by omega) ?_
  refine e_Ok.run (t' := (10, [(0, (1, 324)), (1, (1, 325)), (2, (4, a))], [(0, 0), (1, 325), (4, w 324 2), (4, w 324 0)], w)) 3 rfl ?_
  have h3 := (k2 0 (by omega) (by omega))
  refine e_Ok.ald (z := w 325 0) rfl (el_o rfl) rfl (by omega) rfl (by omega) ?_
  refine e_Ok.run (t' := (14, [(0, (1, 324)), (1, (1, 325)), (2, (4, a))], [(0, 2), (1, 325), (4, w 325 0), (4, w 324 2), (4, w 324 0)], w)) 3 rfl ?_
  have h4 := (k2 2 (by omega) (by omega))
  refine e_Ok.ald (z := w 325 2) rfl (el_o rfl) rfl (by omega) rfl (by omega) ?_
  refine e_Ok.run (t' := (17, [(0, (1, 324)), (1, (1, 325)), (2, (4, a))], [(4, a), (4, w 325 2), (4, w 325 0), (4, w 324 2), (4, w 324 0)], w)) 2 rfl ?_
  refine e_Ok.callS rfl (by omega) rfl rfl (c_309) (fun r5 w6 h7 => ?_)
  obtain ⟨z8, rfl, rfl, q9a, q9b⟩ := h7
  show e_Ok 20 elay ecode eI (d + 1) 310 (20, [(0, (1, 324)), (1, (1, 325)), (2, (4, a))], [(0, z8)], w) _
  refine e_Ok.if1 rfl (fun h10 => ?_) (fun h10 => ?_)
  · replace h10 : (z8 : Int) ≠ 0 := h10
    refine e_Ok.run (t' := (47, [(0, (1, 324)), (1, (1, 325)), (2, (4, a))], [(0, 0)], w)) 1 rfl ?_
    refine e_Ok.rets rfl rfl ?_
    exact ⟨_, rfl, rfl, by omega, by omega⟩
  · replace h10 : (z8 : Int) = 0 := by have q : ¬ ((z8 : Int) ≠ 0) := h10; omega
    refine e_Ok.run (t' := (25, [(0, (1, 324)), (1, (1, 325)), (2, (4, a))], [(0, 1), (1, 324)], w)) 2 rfl ?_
    have h11 := (k1 1 (by omega) (by omega))
    refine e_Ok.ald (z := w 324 1) rfl (el_o rfl) rfl (by omega) rfl (by omega) ?_
    refine e_Ok.run (t' := (29, [(0, (1, 324)), (1, (1, 325)), (2, (4, a))], [(0, 3), (1, 324), (4, w 324 1)], w)) 3 rfl ?_
    have h12 := (k1 3 (by omega) (by omega))
    refine e_Ok.ald (z := w 324 3) rfl (el_o rfl) rfl (by omega) rfl (by omega) ?_
    refine e_Ok.run (t' := (33, [(0, (1, 324)), (1, (1, 325)), (2, (4, a))], [(0, 1), (1, 325), (4, w 324 3), (4, w 324 1)], w)) 3 rfl ?_
    have h13 := (k2 1 (by omega) (by omega))
    refine e_Ok.ald (z := w 325 1) rfl (el_o rfl) rfl (by omega) rfl (by omega) ?_
    refine e_Ok.run (t' := (37, [(0, (1, 324)), (1, (1, 325)), (2, (4, a))], [(0, 3), (1, 325), (4, w 325 1), (4, w 324 3), (4, w 324 1)], w)) 3 rfl ?_
    have h14 := (k2 3 (by omega) (by omega))
    refine e_Ok.ald (z := w 325 3) rfl (el_o rfl) rfl (by omega) rfl (by omega) ?_
    refine e_Ok.run (t' := (40, [(0, (1, 324)), (1, (1, 325)), (2, (4, a))], [(4, a), (4, w 325 3), (4, w 325 1), (4, w 324 3), (4, w 324 1)], w)) 2 rfl ?_
    refine e_Ok.callS rfl (by omega) rfl rfl (c_309) (fun r15 w16 h17 => ?_)
    obtain ⟨z18, rfl, rfl, q19a, q19b⟩ := h17
    show e_Ok 20 elay ecode eI (d + 1) 310 (43, [(0, (1, 324)), (1, (1, 325)), (2, (4, a))], [(0, z18)], w) _
    refine e_Ok.if1 rfl (fun h20 => ?_) (fun h20 => ?_)
    · replace h20 : (z18 : Int) = 0 := h20
      refine e_Ok.run (t' := (50, [(0, (1, 324)), (1, (1, 325)), (2, (4, a))], [(0, 0), (1, 324)], w)) 2 rfl ?_
      refine e_Ok.ald (z := w 324 0) rfl (el_o rfl) rfl (by omega) rfl (by omega) ?_
      refine e_Ok.run (t' := (54, [(0, (1, 324)), (1, (1, 325)), (2, (4, a))], [(0, 1), (1, 324), (4, w 324 0)], w)) 3 rfl ?_
      refine e_Ok.ald (z := w 324 1) rfl (el_o rfl) rfl (by omega) rfl (by omega) ?_
      refine e_Ok.run (t' := (58, [(0, (1, 324)), (1, (1, 325)), (2, (4, a))], [(0, 2), (1, 324), (4, w 324 1), (4, w 324 0)], w)) 3 rfl ?_
      refine e_Ok.ald (z := w 324 2) rfl (el_o rfl) rfl (by omega) rfl (by omega) ?_
      refine e_Ok.run (t' := (62, [(0, (1, 324)), (1, (1, 325)), (2, (4, a))], [(0, 3), (1, 324), (4, w 324 2), (4, w 324 1), (4, w 324 0)], w)) 3 rfl ?_
      refine e_Ok.ald (z := w 324 3) rfl (el_o rfl) rfl (by omega) rfl (by omega) ?_
      refine e_Ok.run (t' := (66, [(0, (1, 324)), (1, (1, 325)), (2, (4, a))], [(0, 0), (1, 325), (4, w 324 3), (4, w 324 2), (4, w 324 1), (4, w 324 0)], w)) 3 rfl ?_
      refine e_Ok.ald (z := w 325 0) rfl (el_o rfl) rfl (by omega) rfl (by omega) ?_
      refine e_Ok.run (t' := (70, [(0, (1, 324)), (1, (1, 325)), (2, (4, a))], [(0, 1), (1, 325), (4, w 325 0), (4, w 324 3), (4, w 324 2), (4, w 324 1), (4, w 324 0)], w)) 3 rfl ?_
      refine e_Ok.ald (z := w 325 1) rfl (el_o rfl) rfl (by omega) rfl (by omega) ?_
      refine e_Ok.run (t' := (72, [(0, (1, 324)), (1, (1, 325)), (2, (4, a))], [(4, w 325 1), (4, w 325 0), (4, w 324 3), (4, w 324 2), (4, w 324 1), (4, w 324 0)], w)) 1 rfl ?_
      refine e_Ok.callS rfl (by omega) rfl rfl (c_308) (fun r21 w22 h23 => ?_)
      obtain ⟨z24, rfl, rfl, q25a, q25b⟩ := h23
      show e_Ok 20 elay ecode eI (d + 1) 310 (75, [(0, (1, 324)), (1, (1, 325)), (2, (4, a))], [(0, z24)], w) _
      refine e_Ok.run (t' := (77, [(0, (1, 324)), (1, (1, 325)), (2, (4, a))], [(0, 0), (1, 324), (0, z24)], w)) 2 rfl ?_
      refine e_Ok.ald (z := w 324 0) rfl (el_o rfl) rfl (by omega) rfl (by omega) ?_
      refine e_Ok.run (t' := (81, [(0, (1, 324)), (1, (1, 325)), (2, (4, a))], [(0, 1), (1, 324), (4, w 324 0), (0, z24)], w)) 3 rfl ?_
      refine e_Ok.ald (z := w 324 1) rfl (el_o rfl) rfl (by omega) rfl (by omega) ?_
      refine e_Ok.run (t' := (85, [(0, (1, 324)), (1, (1, 325)), (2, (4, a))], [(0, 2), (1, 324), (4, w 324 1), (4, w 324 0), (0, z24)], w)) 3 rfl ?_
      refine e_Ok.ald (z := w 324 2) rfl (el_o rfl) rfl (by omega) rfl (by omega) ?_
      refine e_Ok.run (t' := (89, [(0, (1, 324)), (1, (1, 325)), (2, (4, a))], [(0, 3), (1, 324), (4, w 324 2), (4, w 324 1), (4, w 324 0), (0, z24)], w)) 3 rfl ?_
      refine e_Ok.ald (z := w 324 3) rfl (el_o rfl) rfl (by omega) rfl (by omega) ?_
      refine e_Ok.run (t' := (93, [(0, (1, 324)), (1, (1, 325)), (2, (4, a))], [(0, 2), (1, 325), (4, w 324 3), (4, w 324 2), (4, w 324 1), (4, w 324 0), (0, z24)], w)) 3 rfl ?_
      refine e_Ok.ald (z := w 325 2) rfl (el_o rfl) rfl (by omega) rfl (by omega) ?_
      refine e_Ok.run (t' := (97, [(0, (1, 324)), (1, (1, 325)), (2, (4, a))], [(0, 3), (1, 325), (4, w 325 2), (4, w 324 3), (4, w 324 2), (4, w 324 1), (4, w 324 0), (0, z24)], w)) 3 rfl ?_
      refine e_Ok.ald (z := w 325 3) rfl (el_o rfl) rfl (by omega) rfl (by omega) ?_
      refine e_Ok.run (t' := (99, [(0, (1, 324)), (1, (1, 325)), (2, (4, a))], [(4, w 325 3), (4, w 325 2), (4, w 324 3), (4, w 324 2), (4, w 324 1), (4, w 324 0), (0, z24)], w)) 1 rfl ?_
      refine e_Ok.callS rfl (by omega) rfl rfl (c_308) (fun r26 w27 h28 => ?_)
      obtain ⟨z29, rfl, rfl, q30a, q30b⟩ := h28
      show e_Ok 20 elay ecode eI (d + 1) 310 (102, [(0, (1, 324)), (1, (1, 325)), (2, (4, a))], [(0, z29), (0, z24)], w) _
      refine e_Ok.any rfl (eF_mul_any _ _) (fun z31 z31a z31b => ?_)
      have hJ34 : ∀ m33 : Int, 0 ≤ m33 ∧ m33 ≤ 1 → e_Ok 20 elay ecode eI (d + 1) 310 (111, [(0, (1, 324)), (1, (1, 325)), (2, (4, a))], [(0, m33)], w) (fun r w' => ∃ z : Int, r = [(0, z)] ∧ w = w' ∧ 0 ≤ z ∧ z ≤ 1) := by
        intro m33 m33r
        refine e_Ok.run (t' := (115, [(4, (0, m33)), (0, (1, 324)), (1, (1, 325)), (2, (4, a))], [(0, m33)], w)) 2 rfl ?_
        refine e_Ok.if1 rfl (fun h35 => ?_) (fun h35 => ?_)
        · replace h35 : (m33 : Int) = 0 := h35
          refine e_Ok.run (t' := (180, [(4, (0, m33)), (0, (1, 324)), (1, (1, 325)), (2, (4, a))], [(0, 0), (1, 324)], w)) 2 rfl ?_
          refine e_Ok.ald (z := w 324 0) rfl (el_o rfl) rfl (by omega) rfl (by omega) ?_
          refine e_Ok.run (t' := (184, [(4, (0, m33)), (0, (1, 324)), (1, (1, 325)), (2, (4, a))], [(0, 1), (1, 324), (4, w 324 0)], w)) 3 rfl ?_
          refine e_Ok.ald (z := w 324 1) rfl (el_o rfl) rfl (by omega) rfl (by omega) ?_
          refine e_Ok.run (t' := (188, [(4, (0, m33)), (0, (1, 324)), (1, (1, 325)), (2, (4, a))], [(0, 0), (1, 325), (4, w 324 1), (4, w 324 0)], w)) 3 rfl ?_
          refine e_Ok.ald (z := w 325 0) rfl (el_o rfl) rfl (by omega) rfl (by omega) ?_
          refine e_Ok.run (t' := (192, [(4, (0, m33)), (0, (1, 324)), (1, (1, 325)), (2, (4, a))], [(0, 1), (1, 325), (4, w 325 0), (4, w 324 1), (4, w 324 0)], w)) 3 rfl ?_
          refine e_Ok.ald (z := w 325 1) rfl (el_o rfl) rfl (by omega) rfl (by omega) ?_
          refine e_Ok.run (t' := (196, [(4, (0, m33)), (0, (1, 324)), (1, (1, 325)), (2, (4, a))], [(0, 2), (1, 325), (4, w 325 1), (4, w 325 0), (4, w 324 1), (4, w 324 0)], w)) 3 rfl ?_
          refine e_Ok.ald (z := w 325 2) rfl (el_o rfl) rfl (by omega) rfl (by omega) ?_
          refine e_Ok.run (t' := (200, [(4, (0, m33)), (0, (1, 324)), (1, (1, 325)), (2, (4, a))], [(0, 3), (1, 325), (4, w 325 2), (4, w 325 1), (4, w 325 0), (4, w 324 1), (4, w 324 0)], w)) 3 rfl ?_
          refine e_Ok.ald (z := w 325 3) rfl (el_o rfl) rfl (by omega) rfl (by omega) ?_
          refine e_Ok.run (t' := (203, [(4, (0, m33)), (0, (1, 324)), (1, (1, 325)), (2, (4, a))], [(4, a), (4, w 325 3), (4, w 325 2), (4, w 325 1), (4, w 325 0), (4, w 324 1), (4, w 324 0)], w)) 2 rfl ?_
          refine e_Ok.callS rfl (by omega) rfl rfl (c_307 (by omega)) (fun r36 w37 h38 => ?_)
          obtain ⟨z39, rfl, rfl, q40a, q40b⟩ := h38
          show e_Ok 20 elay ecode eI (d + 1) 310 (206, [(4, (0, m33)), (0, (1, 324)), (1, (1, 325)), (2, (4, a))], [(0, z39)], w) _
          refine e_Ok.if1 rfl (fun h41 => ?_) (fun h41 => ?_)
          · replace h41 : (z39 : Int) ≠ 0 := h41
            refine e_Ok.run (t' := (307, [(4, (0, m33)), (0, (1, 324)), (1, (1, 325)), (2, (4, a))], [(0, 1)], w)) 2 rfl ?_
            refine e_Ok.rets rfl rfl ?_
            exact ⟨_, rfl, rfl, by omega, by omega⟩
          · replace h41 : (z39 : Int) = 0 := by have q : ¬ ((z39 : Int) ≠ 0) := h41; omega
            refine e_Ok.run (t' := (211, [(4, (0, m33)), (0, (1, 324)), (1, (1, 325)), (2, (4, a))], [(0, 2), (1, 324)], w)) 2 rfl ?_
            refine e_Ok.ald (z := w 324 2) rfl (el_o rfl) rfl (by omega) rfl (by omega) ?_
            refine e_Ok.run (t' := (215, [(4, (0, m33)), (0, (1, 324)), (1, (1, 325)), (2, (4, a))], [(0, 3), (1, 324), (4, w 324 2)], w)) 3 rfl ?_
            refine e_Ok.ald (z := w 324 3) rfl (el_o rfl) rfl (by omega) rfl (by omega) ?_
            refine e_Ok.run (t' := (219, [(4, (0, m33)), (0, (1, 324)), (1, (1, 325)), (2, (4, a))], [(0, 0), (1, 325), (4, w 324 3), (4, w 324 2)], w)) 3 rfl ?_
            refine e_Ok.ald (z := w 325 0) rfl (el_o rfl) rfl (by omega) rfl (by omega) ?_
            refine e_Ok.run (t' := (223, [(4, (0, m33)), (0, (1, 324)), (1, (1, 325)), (2, (4, a))], [(0, 1), (1, 325), (4, w 325 0), (4, w 324 3), (4, w 324 2)], w)) 3 rfl ?_
            refine e_Ok.ald (z := w 325 1) rfl (el_o rfl) rfl (by omega) rfl (by omega) ?_
            refine e_Ok.run (t' := (227, [(4, (0, m33)), (0, (1, 324)), (1, (1, 325)), (2, (4, a))], [(0, 2), (1, 325), (4, w 325 1), (4, w 325 0), (4, w 324 3), (4, w 324 2)], w)) 3 rfl ?_
            refine e_Ok.ald (z := w 325 2) rfl (el_o rfl) rfl (by omega) rfl (by omega) ?_
            refine e_Ok.run (t' := (231, [(4, (0, m33)), (0, (1, 324)), (1, (1, 325)), (2, (4, a))], [(0, 3), (1, 325), (4, w 325 2), (4, w 325 1), (4, w 325 0), (4, w 324 3), (4, w 324 2)], w)) 3 rfl ?_
            refine e_Ok.ald (z := w 325 3) rfl (el_o rfl) rfl (by omega) rfl (by omega) ?_
            refine e_Ok.run (t' := (234, [(4, (0, m33)), (0, (1, 324)), (1, (1, 325)), (2, (4, a))], [(4, a), (4, w 325 3), (4, w 325 2), (4, w 325 1), (4, w 325 0), (4, w 324 3), (4, w 324 2)], w)) 2 rfl ?_
            refine e_Ok.callS rfl (by omega) rfl rfl (c_307 (by omega)) (fun r42 w43 h44 => ?_)
            obtain ⟨z45, rfl, rfl, q46a, q46b⟩ := h44
            show e_Ok 20 elay ecode eI (d + 1) 310 (237, [(4, (0, m33)), (0, (1, 324)), (1, (1, 325)), (2, (4, a))], [(0, z45)], w) _
            refine e_Ok.if1 rfl (fun h47 => ?_) (fun h47 => ?_)
            · replace h47 : (z45 : Int) ≠ 0 := h47
              refine e_Ok.run (t' := (307, [(4, (0, m33)), (0, (1, 324)), (1, (1, 325)), (2, (4, a))], [(0, 1)], w)) 2 rfl ?_
              refine e_Ok.rets rfl rfl ?_
              exact ⟨_, rfl, rfl, by omega, by omega⟩
            · replace h47 : (z45 : Int) = 0 := by have q : ¬ ((z45 : Int) ≠ 0) := h47; omega
              refine e_Ok.run (t' := (242, [(4, (0, m33)), (0, (1, 324)), (1, (1, 325)), (2, (4, a))], [(0, 0), (1, 325)], w)) 2 rfl ?_
              refine e_Ok.ald (z := w 325 0) rfl (el_o rfl) rfl (by omega) rfl (by omega) ?_
              refine e_Ok.run (t' := (246, [(4, (0, m33)), (0, (1, 324)), (1, (1, 325)), (2, (4, a))], [(0, 1), (1, 325), (4, w 325 0)], w)) 3 rfl ?_
              refine e_Ok.ald (z := w 325 1) rfl (el_o rfl) rfl (by omega) rfl (by omega) ?_
              refine e_Ok.run (t' := (250, [(4, (0, m33)), (0, (1, 324)), (1, (1, 325)), (2, (4, a))], [(0, 0), (1, 324), (4, w 325 1), (4, w 325 0)], w)) 3 rfl ?_
              refine e_Ok.ald (z := w 324 0) rfl (el_o rfl) rfl (by omega) rfl (by omega) ?_
              refine e_Ok.run (t' := (254, [(4, (0, m33)), (0, (1, 324)), (1, (1, 325)), (2, (4, a))], [(0, 1), (1, 324), (4, w 324 0), (4, w 325 1), (4, w 325 0)], w)) 3 rfl ?_
              refine e_Ok.ald (z := w 324 1) rfl (el_o rfl) rfl (by omega) rfl (by omega) ?_
              refine e_Ok.run (t' := (258, [(4, (0, m33)), (0, (1, 324)), (1, (1, 325)), (2, (4, a))], [(0, 2), (1, 324), (4, w 324 1), (4, w 324 0), (4, w 325 1), (4, w 325 0)], w)) 3 rfl ?_
              refine e_Ok.ald (z := w 324 2) rfl (el_o rfl) rfl (by omega) rfl (by omega) ?_
              refine e_Ok.run (t' := (262, [(4, (0, m33)), (0, (1, 324)), (1, (1, 325)), (2, (4, a))], [(0, 3), (1, 324), (4, w 324 2), (4, w 324 1), (4, w 324 0), (4, w 325 1), (4, w 325 0)], w)) 3 rfl ?_
              refine e_Ok.ald (z := w 324 3) rfl (el_o rfl) rfl (by omega) rfl (by omega) ?_
              refine e_Ok.run (t' := (265, [(4, (0, m33)), (0, (1, 324)), (1, (1, 325)), (2, (4, a))], [(4, a), (4, w 324 3), (4, w 324 2), (4, w 324 1), (4, w 324 0), (4, w 325 1), (4, w 325 0)], w)) 2 rfl ?_
              refine e_Ok.callS rfl (by omega) rfl rfl (c_307 (by omega)) (fun r48 w49 h50 => ?_)
              obtain ⟨z51, rfl, rfl, q52a, q52b⟩ := h50
              show e_Ok 20 elay ecode eI (d + 1) 310 (268, [(4, (0, m33)), (0, (1, 324)), (1, (1, 325)), (2, (4, a))], [(0, z51)], w) _
              refine e_Ok.if1 rfl (fun h53 => ?_) (fun h53 => ?_)
              · replace h53 : (z51 : Int) ≠ 0 := h53
                refine e_Ok.run (t' := (307, [(4, (0, m33)), (0, (1, 324)), (1, (1, 325)), (2, (4, a))], [(0, 1)], w)) 2 rfl ?_
                refine e_Ok.rets rfl rfl ?_
                exact ⟨_, rfl, rfl, by omega, by omega⟩
              · replace h53 : (z51 : Int) = 0 := by have q : ¬ ((z51 : Int) ≠ 0) := h53; omega
                refine e_Ok.run (t' := (273, [(4, (0, m33)), (0, (1, 324)), (1, (1, 325)), (2, (4, a))], [(0, 2), (1, 325)], w)) 2 rfl ?_
                refine e_Ok.ald (z := w 325 2) rfl (el_o rfl) rfl (by omega) rfl (by omega) ?_
                refine e_Ok.run (t' := (277, [(4, (0, m33)), (0, (1, 324)), (1, (1, 325)), (2, (4, a))], [(0, 3), (1, 325), (4, w 325 2)], w)) 3 rfl ?_
                refine e_Ok.ald (z := w 325 3) rfl (el_o rfl) rfl (by omega) rfl (by omega) ?_
                refine e_Ok.run (t' := (281, [(4, (0, m33)), (0, (1, 324)), (1, (1, 325)), (2, (4, a))], [(0, 0), (1, 324), (4, w 325 3), (4, w 325 2)], w)) 3 rfl ?_
                refine e_Ok.ald (z := w 324 0) rfl (el_o rfl) rfl (by omega) rfl (by omega) ?_
                refine e_Ok.run (t' := (285, [(4, (0, m33)), (0, (1, 324)), (1, (1, 325)), (2, (4, a))], [(0, 1), (1, 324), (4, w 324 0), (4, w 325 3), (4, w 325 2)], w)) 3 rfl ?_
                refine e_Ok.ald (z := w 324 1) rfl (el_o rfl) rfl (by omega) rfl (by omega) ?_
                refine e_Ok.run (t' := (289, [(4, (0, m33)), (0, (1, 324)), (1, (1, 325)), (2, (4, a))], [(0, 2), (1, 324), (4, w 324 1), (4, w 324 0), (4, w 325 3), (4, w 325 2)], w)) 3 rfl ?_
                refine e_Ok.ald (z := w 324 2) rfl (el_o rfl) rfl (by omega) rfl (by omega) ?_
                refine e_Ok.run (t' := (293, [(4, (0, m33)), (0, (1, 324)), (1, (1, 325)), (2, (4, a))], [(0, 3), (1, 324), (4, w 324 2), (4, w 324 1), (4, w 324 0), (4, w 325 3), (4, w 325 2)], w)) 3 rfl ?_
                refine e_Ok.ald (z := w 324 3) rfl (el_o rfl) rfl (by omega) rfl (by omega) ?_
                refine e_Ok.run (t' := (296, [(4, (0, m33)), (0, (1, 324)), (1, (1, 325)), (2, (4, a))], [(4, a), (4, w 324 3), (4, w 324 2), (4, w 324 1), (4, w 324 0), (4, w 325 3), (4, w 325 2)], w)) 2 rfl ?_
                refine e_Ok.callS rfl (by omega) rfl rfl (c_307 (by omega)) (fun r54 w55 h56 => ?_)
                obtain ⟨z57, rfl, rfl, q58a, q58b⟩ := h56
                show e_Ok 20 elay ecode eI (d + 1) 310 (299, [(4, (0, m33)), (0, (1, 324)), (1, (1, 325)), (2, (4, a))], [(0, z57)], w) _
                have hJ61 : ∀ m60 : Int, 0 ≤ m60 ∧ m60 ≤ 1 → e_Ok 20 elay ecode eI (d + 1) 310 (307, [(4, (0, m33)), (0, (1, 324)), (1, (1, 325)), (2, (4, a))], [(0, m60)], w) (fun r w' => ∃ z : Int, r = [(0, z)] ∧ w = w' ∧ 0 ≤ z ∧ z ≤ 1) := by
                  intro m60 m60r
                  refine e_Ok.retb rfl (by omega) ?_
                  exact ⟨_, rfl, rfl, by omega, by omega⟩
                refine e_Ok.if1 rfl (fun h59 => ?_) (fun h59 => ?_)
                · exact e_Ok.run 1 rfl (hJ61 0 (by omega))
                · exact e_Ok.run 2 rfl (hJ61 1 (by omega))
        · replace h35 : (m33 : Int) ≠ 0 := by have q : ¬ ((m33 : Int) = 0) := h35; omega
          refine e_Ok.run (t' := (120, [(4, (0, m33)), (0, (1, 324)), (1, (1, 325)), (2, (4, a))], [(0, 0), (1, 325)], w)) 2 rfl ?_
          refine e_Ok.ald (z := w 325 0) rfl (el_o rfl) rfl (by omega) rfl (by omega) ?_
          refine e_Ok.run (t' := (124, [(4, (0, m33)), (0, (1, 324)), (1, (1, 325)), (2, (4, a))], [(0, 1), (1, 325), (4, w 325 0)], w)) 3 rfl ?_
          refine e_Ok.ald (z := w 325 1) rfl (el_o rfl) rfl (by omega) rfl (by omega) ?_
          refine e_Ok.run (t' := (128, [(4, (0, m33)), (0, (1, 324)), (1, (1, 325)), (2, (4, a))], [(0, 2), (1, 325), (4, w 325 1), (4, w 325 0)], w)) 3 rfl ?_
          refine e_Ok.ald (z := w 325 2) rfl (el_o rfl) rfl (by omega) rfl (by omega) ?_
          refine e_Ok.run (t' := (132, [(4, (0, m33)), (0, (1, 324)), (1, (1, 325)), (2, (4, a))], [(0, 3), (1, 325), (4, w 325 2), (4, w 325 1), (4, w 325 0)], w)) 3 rfl ?_
          refine e_Ok.ald (z := w 325 3) rfl (el_o rfl) rfl (by omega) rfl (by omega) ?_
          refine e_Ok.run (t' := (136, [(4, (0, m33)), (0, (1, 324)), (1, (1, 325)), (2, (4, a))], [(0, 0), (1, 324), (4, w 325 3), (4, w 325 2), (4, w 325 1), (4, w 325 0)], w)) 3 rfl ?_
          refine e_Ok.ald (z := w 324 0) rfl (el_o rfl) rfl (by omega) rfl (by omega) ?_
          refine e_Ok.run (t' := (140, [(4, (0, m33)), (0, (1, 324)), (1, (1, 325)), (2, (4, a))], [(0, 1), (1, 324), (4, w 324 0), (4, w 325 3), (4, w 325 2), (4, w 325 1), (4, w 325 0)], w)) 3 rfl ?_
          refine e_Ok.ald (z := w 324 1) rfl (el_o rfl) rfl (by omega) rfl (by omega) ?_
          refine e_Ok.run (t' := (142, [(4, (0, m33)), (0, (1, 324)), (1, (1, 325)), (2, (4, a))], [(4, w 324 1), (4, w 324 0), (4, w 325 3), (4, w 325 2), (4, w 325 1), (4, w 325 0)], w)) 1 rfl ?_
          refine e_Ok.callS rfl (by omega) rfl rfl (c_308) (fun r62 w63 h64 => ?_)
          obtain ⟨z65, rfl, rfl, q66a, q66b⟩ := h64
          show e_Ok 20 elay ecode eI (d + 1) 310 (145, [(4, (0, m33)), (0, (1, 324)), (1, (1, 325)), (2, (4, a))], [(0, z65)], w) _
          refine e_Ok.run (t' := (147, [(4, (0, m33)), (0, (1, 324)), (1, (1, 325)), (2, (4, a))], [(0, 0), (1, 325), (0, z65)], w)) 2 rfl ?_
          refine e_Ok.ald (z := w 325 0) rfl (el_o rfl) rfl (by omega) rfl (by omega) ?_
          refine e_Ok.run (t' := (151, [(4, (0, m33)), (0, (1, 324)), (1, (1, 325)), (2, (4, a))], [(0, 1), (1, 325), (4, w 325 0), (0, z65)], w)) 3 rfl ?_
          refine e_Ok.ald (z := w 325 1) rfl (el_o rfl) rfl (by omega) rfl (by omega) ?_
          refine e_Ok.run (t' := (155, [(4, (0, m33)), (0, (1, 324)), (1, (1, 325)), (2, (4, a))], [(0, 2), (1, 325), (4, w 325 1), (4, w 325 0), (0, z65)], w)) 3 rfl ?_
          refine e_Ok.ald (z := w 325 2) rfl (el_o rfl) rfl (by omega) rfl (by omega) ?_
          refine e_Ok.run (t' := (159, [(4, (0, m33)), (0, (1, 324)), (1, (1, 325)), (2, (4, a))], [(0, 3), (1, 325), (4, w 325 2), (4, w 325 1), (4, w 325 0), (0, z65)], w)) 3 rfl ?_
          refine e_Ok.ald (z := w 325 3) rfl (el_o rfl) rfl (by omega) rfl (by omega) ?_
          refine e_Ok.run (t' := (163, [(4, (0, m33)), (0, (1, 324)), (1, (1, 325)), (2, (4, a))], [(0, 2), (1, 324), (4, w 325 3), (4, w 325 2), (4, w 325 1), (4, w 325 0), (0, z65)], w)) 3 rfl ?_
          refine e_Ok.ald (z := w 324 2) rfl (el_o rfl) rfl (by omega) rfl (by omega) ?_
          refine e_Ok.run (t' := (167, [(4, (0, m33)), (0, (1, 324)), (1, (1, 325)), (2, (4, a))], [(0, 3), (1, 324), (4, w 324 2), (4, w 325 3), (4, w 325 2), (4, w 325 1), (4, w 325 0), (0, z65)], w)) 3 rfl ?_
          refine e_Ok.ald (z := w 324 3) rfl (el_o rfl) rfl (by omega) rfl (by omega) ?_
          refine e_Ok.run (t' := (169, [(4, (0, m33)), (0, (1, 324)), (1, (1, 325)), (2, (4, a))], [(4, w 324 3), (4, w 324 2), (4, w 325 3), (4, w 325 2), (4, w 325 1), (4, w 325 0), (0, z65)], w)) 1 rfl ?_
          refine e_Ok.callS rfl (by omega) rfl rfl (c_308) (fun r67 w68 h69 => ?_)
          obtain ⟨z70, rfl, rfl, q71a, q71b⟩ := h69
          show e_Ok 20 elay ecode eI (d + 1) 310 (172, [(4, (0, m33)), (0, (1, 324)), (1, (1, 325)), (2, (4, a))], [(0, z70), (0, z65)], w) _
          refine e_Ok.any rfl (eF_mul_any _ _) (fun z72 z72a z72b => ?_)
          refine e_Ok.if1 rfl (fun h73 => ?_) (fun h73 => ?_)
          · replace h73 : (z72 : Int) ≥ 0 := h73
            refine e_Ok.run (t' := (180, [(4, (0, m33)), (0, (1, 324)), (1, (1, 325)), (2, (4, a))], [(0, 0), (1, 324)], w)) 2 rfl ?_
            refine e_Ok.ald (z := w 324 0) rfl (el_o rfl) rfl (by omega) rfl (by omega) ?_
            refine e_Ok.run (t' := (184, [(4, (0, m33)), (0, (1, 324)), (1, (1, 325)), (2, (4, a))], [(0, 1), (1, 324), (4, w 324 0)], w)) 3 rfl ?_
            refine e_Ok.ald (z := w 324 1) rfl (el_o rfl) rfl (by omega) rfl (by omega) ?_
            refine e_Ok.run (t' := (188, [(4, (0, m33)), (0, (1, 324)), (1, (1, 325)), (2, (4, a))], [(0, 0), (1, 325), (4, w 324 1), (4, w 324 0)], w)) 3 rfl ?_
            refine e_Ok.ald (z := w 325 0) rfl (el_o rfl) rfl (by omega) rfl (by omega) ?_
            refine e_Ok.run (t' := (192, [(4, (0, m33)), (0, (1, 324)), (1, (1, 325)), (2, (4, a))], [(0, 1), (1, 325), (4, w 325 0), (4, w 324 1), (4, w 324 0)], w)) 3 rfl ?_
            refine e_Ok.ald (z := w 325 1) rfl (el_o rfl) rfl (by omega) rfl (by omega) ?_
            refine e_Ok.run (t' := (196, [(4, (0, m33)), (0, (1, 324)), (1, (1, 325)), (2, (4, a))], [(0, 2), (1, 325), (4, w 325 1), (4, w 325 0), (4, w 324 1), (4, w 324 0)], w)) 3 rfl ?_
            refine e_Ok.ald (z := w 325 2) rfl (el_o rfl) rfl (by omega) rfl (by omega) ?_
            refine e_Ok.run (t' := (200, [(4, (0, m33)), (0, (1, 324)), (1, (1, 325)), (2, (4, a))], [(0, 3), (1, 325), (4, w 325 2), (4, w 325 1), (4, w 325 0), (4, w 324 1), (4, w 324 0)], w)) 3 rfl ?_
            refine e_Ok.ald (z := w 325 3) rfl (el_o rfl) rfl (by omega) rfl (by omega) ?_
            refine e_Ok.run (t' := (203, [(4, (0, m33)), (0, (1, 324)), (1, (1, 325)), (2, (4, a))], [(4, a), (4, w 325 3), (4, w 325 2), (4, w 325 1), (4, w 325 0), (4, w 324 1), (4, w 324 0)], w)) 2 rfl ?_
            refine e_Ok.callS rfl (by omega) rfl rfl (c_307 (by omega)) (fun r74 w75 h76 => ?_)
            obtain ⟨z77, rfl, rfl, q78a, q78b⟩ := h76
            show e_Ok 20 elay ecode eI (d + 1) 310 (206, [(4, (0, m33)), (0, (1, 324)), (1, (1, 325)), (2, (4, a))], [(0, z77)], w) _
            refine e_Ok.if1 rfl (fun h79 => ?_) (fun h79 => ?_)
            · replace h79 : (z77 : Int) ≠ 0 := h79
              refine e_Ok.run (t' := (307, [(4, (0, m33)), (0, (1, 324)), (1, (1, 325)), (2, (4, a))], [(0, 1)], w)) 2 rfl ?_
              refine e_Ok.rets rfl rfl ?_
              exact ⟨_, rfl, rfl, by omega, by omega⟩
            · replace h79 : (z77 : Int) = 0 := by have q : ¬ ((z77 : Int) ≠ 0) := h79; omega
              refine e_Ok.run (t' := (211, [(4, (0, m33)), (0, (1, 324)), (1, (1, 325)), (2, (4, a))], [(0, 2), (1, 324)], w)) 2 rfl ?_
              refine e_Ok.ald (z := w 324 2) rfl (el_o rfl) rfl (by omega) rfl (by omega) ?_
              refine e_Ok.run (t' := (215, [(4, (0, m33)), (0, (1, 324)), (1, (1, 325)), (2, (4, a))], [(0, 3), (1, 324), (4, w 324 2)], w)) 3 rfl ?_
              refine e_Ok.ald (z := w 324 3) rfl (el_o rfl) rfl (by omega) rfl (by omega) ?_
              refine e_Ok.run (t' := (219, [(4, (0, m33)), (0, (1, 324)), (1, (1, 325)), (2, (4, a))], [(0, 0), (1, 325), (4, w 324 3), (4, w 324 2)], w)) 3 rfl ?_
              refine e_Ok.ald (z := w 325 0) rfl (el_o rfl) rfl (by omega) rfl (by omega) ?_
              refine e_Ok.run (t' := (223, [(4, (0, m33)), (0, (1, 324)), (1, (1, 325)), (2, (4, a))], [(0, 1), (1, 325), (4, w 325 0), (4, w 324 3), (4, w 324 2)], w)) 3 rfl ?_
              refine e_Ok.ald (z := w 325 1) rfl (el_o rfl) rfl (by omega) rfl (by omega) ?_
              refine e_Ok.run (t' := (227, [(4, (0, m33)), (0, (1, 324)), (1, (1, 325)), (2, (4, a))], [(0, 2), (1, 325), (4, w 325 1), (4, w 325 0), (4, w 324 3), (4, w 324 2)], w)) 3 rfl ?_
              refine e_Ok.ald (z := w 325 2) rfl (el_o rfl) rfl (by omega) rfl (by omega) ?_
              refine e_Ok.run (t' := (231, [(4, (0, m33)), (0, (1, 324)), (1, (1, 325)), (2, (4, a))], [(0, 3), (1, 325), (4, w 325 2), (4, w 325 1), (4, w 325 0), (4, w 324 3), (4, w 324 2)], w)) 3 rfl ?_
              refine e_Ok.ald (z := w 325 3) rfl (el_o rfl) rfl (by omega) rfl (by omega) ?_
              refine e_Ok.run (t' := (234, [(4, (0, m33)), (0, (1, 324)), (1, (1, 325)), (2, (4, a))], [(4, a), (4, w 325 3), (4, w 325 2), (4, w 325 1), (4, w 325 0), (4, w 324 3), (4, w 324 2)], w)) 2 rfl ?_
              refine e_Ok.callS rfl (by omega) rfl rfl (c_307 (by omega)) (fun r80 w81 h82 => ?_)
              obtain ⟨z83, rfl, rfl, q84a, q84b⟩ := h82
              show e_Ok 20 elay ecode eI (d + 1) 310 (237, [(4, (0, m33)), (0, (1, 324)), (1, (1, 325)), (2, (4, a))], [(0, z83)], w) _
              refine e_Ok.if1 rfl (fun h85 => ?_) (fun h85 => ?_)
              · replace h85 : (z83 : Int) ≠ 0 := h85
                refine e_Ok.run (t' := (307, [(4, (0, m33)), (0, (1, 324)), (1, (1, 325)), (2, (4, a))], [(0, 1)], w)) 2 rfl ?_
                refine e_Ok.rets rfl rfl ?_
                exact ⟨_, rfl, rfl, by omega, by omega⟩
              · replace h85 : (z83 : Int) = 0 := by have q : ¬ ((z83 : Int) ≠ 0) := h85; omega
                refine e_Ok.run (t' := (242, [(4, (0, m33)), (0, (1, 324)), (1, (1, 325)), (2, (4, a))], [(0, 0), (1, 325)], w)) 2 rfl ?_
                refine e_Ok.ald (z := w 325 0) rfl (el_o rfl) rfl (by omega) rfl (by omega) ?_
                refine e_Ok.run (t' := (246, [(4, (0, m33)), (0, (1, 324)), (1, (1, 325)), (2, (4, a))], [(0, 1), (1, 325), (4, w 325 0)], w)) 3 rfl ?_
                refine e_Ok.ald (z := w 325 1) rfl (el_o rfl) rfl (by omega) rfl (by omega) ?_
                refine e_Ok.run (t' := (250, [(4, (0, m33)), (0, (1, 324)), (1, (1, 325)), (2, (4, a))], [(0, 0), (1, 324), (4, w 325 1), (4, w 325 0)], w)) 3 rfl ?_
                refine e_Ok.ald (z := w 324 0) rfl (el_o rfl) rfl (by omega) rfl (by omega) ?_
                refine e_Ok.run (t' := (254, [(4, (0, m33)), (0, (1, 324)), (1, (1, 325)), (2, (4, a))], [(0, 1), (1, 324), (4, w 324 0), (4, w 325 1), (4, w 325 0)], w)) 3 rfl ?_
                refine e_Ok.ald (z := w 324 1) rfl (el_o rfl) rfl (by omega) rfl (by omega) ?_
                refine e_Ok.run (t' := (258, [(4, (0, m33)), (0, (1, 324)), (1, (1, 325)), (2, (4, a))], [(0, 2), (1, 324), (4, w 324 1), (4, w 324 0), (4, w 325 1), (4, w 325 0)], w)) 3 rfl ?_
                refine e_Ok.ald (z := w 324 2) rfl (el_o rfl) rfl (by omega) rfl (by omega) ?_
                refine e_Ok.run (t' := (262, [(4, (0, m33)), (0, (1, 324)), (1, (1, 325)), (2, (4, a))], [(0, 3), (1, 324), (4, w 324 2), (4, w 324 1), (4, w 324 0), (4, w 325 1), (4, w 325 0)], w)) 3 rfl ?_
                refine e_Ok.ald (z := w 324 3) rfl (el_o rfl) rfl (by omega) rfl (by omega) ?_
                refine e_Ok.run (t' := (265, [(4, (0, m33)), (0, (1, 324)), (1, (1, 325)), (2, (4, a))], [(4, a), (4, w 324 3), (4, w 324 2), (4, w 324 1), (4, w 324 0), (4, w 325 1), (4, w 325 0)], w)) 2 rfl ?_
                refine e_Ok.callS rfl (by omega) rfl rfl (c_307 (by omega)) (fun r86 w87 h88 => ?_)
                obtain ⟨z89, rfl, rfl, q90a, q90b⟩ := h88
                show e_Ok 20 elay ecode eI (d + 1) 310 (268, [(4, (0, m33)), (0, (1, 324)), (1, (1, 325)), (2, (4, a))], [(0, z89)], w) _
                refine e_Ok.if1 rfl (fun h91 => ?_) (fun h91 => ?_)
                · replace h91 : (z89 : Int) ≠ 0 := h91
                  refine e_Ok.run (t' := (307, [(4, (0, m33)), (0, (1, 324)), (1, (1, 325)), (2, (4, a))], [(0, 1)], w)) 2 rfl ?_
                  refine e_Ok.rets rfl rfl ?_
                  exact ⟨_, rfl, rfl, by omega, by omega⟩
                · replace h91 : (z89 : Int) = 0 := by have q : ¬ ((z89 : Int) ≠ 0) := h91; omega
                  refine e_Ok.run (t' := (273, [(4, (0, m33)), (0, (1, 324)), (1, (1, 325)), (2, (4, a))], [(0, 2), (1, 325)], w)) 2 rfl ?_
                  refine e_Ok.ald (z := w 325 2) rfl (el_o rfl) rfl (by omega) rfl (by omega) ?_
                  refine e_Ok.run (t' := (277, [(4, (0, m33)), (0, (1, 324)), (1, (1, 325)), (2, (4, a))], [(0, 3), (1, 325), (4, w 325 2)], w)) 3 rfl ?_
                  refine e_Ok.ald (z := w 325 3) rfl (el_o rfl) rfl (by omega) rfl (by omega) ?_
                  refine e_Ok.run (t' := (281, [(4, (0, m33)), (0, (1, 324)), (1, (1, 325)), (2, (4, a))], [(0, 0), (1, 324), (4, w 325 3), (4, w 325 2)], w)) 3 rfl ?_
                  refine e_Ok.ald (z := w 324 0) rfl (el_o rfl) rfl (by omega) rfl (by omega) ?_
                  refine e_Ok.run (t' := (285, [(4, (0, m33)), (0, (1, 324)), (1, (1, 325)), (2, (4, a))], [(0, 1), (1, 324), (4, w 324 0), (4, w 325 3), (4, w 325 2)], w)) 3 rfl ?_
                  refine e_Ok.ald (z := w 324 1) rfl (el_o rfl) rfl (by omega) rfl (by omega) ?_
                  refine e_Ok.run (t' := (289, [(4, (0, m33)), (0, (1, 324)), (1, (1, 325)), (2, (4, a))], [(0, 2), (1, 324), (4, w 324 1), (4, w 324 0), (4, w 325 3), (4, w 325 2)], w)) 3 rfl ?_
                  refine e_Ok.ald (z := w 324 2) rfl (el_o rfl) rfl (by omega) rfl (by omega) ?_
                  refine e_Ok.run (t' := (293, [(4, (0, m33)), (0, (1, 324)), (1, (1, 325)), (2, (4, a))], [(0, 3), (1, 324), (4, w 324 2), (4, w 324 1), (4, w 324 0), (4, w 325 3), (4, w 325 2)], w)) 3 rfl ?_
                  refine e_Ok.ald (z := w 324 3) rfl (el_o rfl) rfl (by omega) rfl (by omega) ?_
                  refine e_Ok.run (t' := (296, [(4, (0, m33)), (0, (1, 324)), (1, (1, 325)), (2, (4, a))], [(4, a), (4, w 324 3), (4, w 324 2), (4, w 324 1), (4, w 324 0), (4, w 325 3), (4, w 325 2)], w)) 2 rfl ?_
                  refine e_Ok.callS rfl (by omega) rfl rfl (c_307 (by omega)) (fun r92 w93 h94 => ?_)
                  obtain ⟨z95, rfl, rfl, q96a, q96b⟩ := h94
                  show e_Ok 20 elay ecode eI (d + 1) 310 (299, [(4, (0, m33)), (0, (1, 324)), (1, (1, 325)), (2, (4, a))], [(0, z95)], w) _
                  have hJ99 : ∀ m98 : Int, 0 ≤ m98 ∧ m98 ≤ 1 → e_Ok 20 elay ecode eI (d + 1) 310 (307, [(4, (0, m33)), (0, (1, 324)), (1, (1, 325)), (2, (4, a))], [(0, m98)], w) (fun r w' => ∃ z : Int, r = [(0, z)] ∧ w = w' ∧ 0 ≤ z ∧ z ≤ 1) := by
                    intro m98 m98r
                    refine e_Ok.retb rfl (by omega) ?_
                    exact ⟨_, rfl, rfl, by omega, by omega⟩
                  refine e_Ok.if1 rfl (fun h97 => ?_) (fun h97 => ?_)
                  · exact e_Ok.run 1 rfl (hJ99 0 (by omega))
                  · exact e_Ok.run 2 rfl (hJ99 1 (by omega))
          · replace h73 : (z72 : Int) < 0 := by have q : ¬ ((z72 : Int) ≥ 0) := h73; omega
            refine e_Ok.run (t' := (177, [(4, (0, m33)), (0, (1, 324)), (1, (1, 325)), (2, (4, a))], [(0, 1)], w)) 1 rfl ?_
            refine e_Ok.rets rfl rfl ?_
            exact ⟨_, rfl, rfl, by omega, by omega⟩
      refine e_Ok.if1 rfl (fun h32 => ?_) (fun h32 => ?_)
      · exact e_Ok.run 1 rfl (hJ34 0 (by omega))
      · exact e_Ok.run 2 rfl (hJ34 1 (by omega))
    · replace h20 : (z18 : Int) ≠ 0 := by have q : ¬ ((z18 : Int) = 0) := h20; omega
      refine e_Ok.run (t' := (47, [(0, (1, 324)), (1, (1, 325)), (2, (4, a))], [(0, 0)], w)) 1 rfl ?_
      refine e_Ok.rets rfl rfl ?_
      exact ⟨_, rfl, rfl, by omega, by omega⟩
theorem c_304 {d : Nat} (hd : 21 ≤ d) {w : eW} (hT : e_Has mTy w) {a : Int} (ha : 0 ≤ a ∧ a ≤ 3) : e_Ok 20 elay ecode eI d 304 (0, [(0, (1, 275)), (1, (0, a))], [], w) (fun r w' => ∃ z : Int, r = [(0, z)] ∧ w = w' ∧ ((0 ≤ w 276 (36 * a + 17) ∧ z = w 286 a + 1) ∨ (w 276 (36 * a + 17) < 0 ∧ z = w 286 a))) := by
  obtain ⟨d, rfl⟩ : ∃ e, d = e + 1 := ⟨d - 1, by omega⟩
  refine e_Ok.run (t' := (1, [(0, (1, 275)), (1, (0, a))], [(1, 275)], w)) 1 rfl ?_
  refine e_Ok.getr (z := 286) rfl (el_o rfl) rfl rfl (e_Has.eq hT rfl) (by omega) ?_
  refine e_Ok.run (t' := (5, [(0, (1, 275)), (1, (0, a))], [(0, a), (1, 286)], w)) 1 rfl ?_
  have h1 := (e_Has.get hT (c := 286) (k := a) (lo := 0) (hi := 6) rfl (by decide))
  refine e_Ok.ald (z := w 286 a) rfl (el_o rfl) rfl (by omega) rfl (by omega) ?_
  refine e_Ok.run (t' := (7, [(0, (1, 275)), (1, (0, a))], [(1, 275), (0, w 286 a)], w)) 1 rfl ?_
  refine e_Ok.getr (z := 276) rfl (el_o rfl) rfl rfl (e_Has.eq hT rfl) (by omega) ?_
  refine e_Ok.run (t' := (11, [(0, (1, 275)), (1, (0, a))], [(0, a), (1, 276), (0, w 286 a)], w)) 1 rfl ?_
  refine e_Ok.callS rfl (by omega) rfl rfl (c_268 (by omega)) (fun r2 w3 h4 => ?_)
  obtain ⟨rfl, rfl⟩ := h4
  show e_Ok 20 elay ecode eI (d + 1) 304 (14, [(0, (1, 275)), (1, (0, a))], [(0, 36 * a + 16), (1, 276), (0, w 286 a)], w) _
  refine e_Ok.run (t' := (15, [(0, (1, 275)), (1, (0, a))], [(0, 1), (0, 36 * a + 16), (1, 276), (0, w 286 a)], w)) 1 rfl ?_
  refine e_Ok.add (z := 36 * a + 17) rfl (by omega) (by omega) ?_
  have h5 := (e_Has.get hT (c := 276) (nR_HOLDS (a := a) (by omega)) (by decide))
  refine e_Ok.ald (z := w 276 (36 * a + 17)) rfl (el_o rfl) rfl (by omega) rfl (by omega) ?_
  refine e_Ok.if1 rfl (fun h6 => ?_) (fun h6 => ?_)
  · replace h6 : (w 276 (36 * a + 17) : Int) < 0 := h6
    refine e_Ok.run (t' := (25, [(0, (1, 275)), (1, (0, a))], [(0, 0), (0, w 286 a)], w)) 1 rfl ?_
    refine e_Ok.add (z := w 286 a) rfl (by omega) (by omega) ?_
    refine e_Ok.rets rfl rfl ?_
    exact ⟨_, rfl, rfl, by omega⟩
  · replace h6 : (w 276 (36 * a + 17) : Int) ≥ 0 := by have q : ¬ ((w 276 (36 * a + 17) : Int) < 0) := h6; omega
    refine e_Ok.run (t' := (25, [(0, (1, 275)), (1, (0, a))], [(0, 1), (0, w 286 a)], w)) 2 rfl ?_
    refine e_Ok.add (z := w 286 a + 1) rfl (by omega) (by omega) ?_
    refine e_Ok.rets rfl rfl ?_
    exact ⟨_, rfl, rfl, by omega⟩
theorem c_305 {d : Nat} (hd : 21 ≤ d) {w : eW} (hT : e_Has mTy w) {a i b : Int} (ha : 0 ≤ a ∧ a ≤ 3) (hi : 0 ≤ i ∧ (i < w 286 a ∨ (i = w 286 a ∧ 0 ≤ w 276 (36 * a + 17)))) (hb : 0 ≤ b ∧ b ≤ 28) : e_Ok 20 elay ecode eI d 305 (0, [(0, (1, 275)), (1, (0, a)), (2, (0, i)), (3, (0, b))], [], w) (fun r w' => r = [] ∧ e_fr mB w w' ∧ w' 275 58 = b + i ∧ ((w' 275 59 = b + i ∧ i = w 286 a) ∨ (w' 275 59 = b + i + 1 ∧ i < w 286 a)) ∧ (0 ≤ w' 275 60 ∧ w' 275 60 ≤ 800)) := by
  obtain ⟨d, rfl⟩ : ∃ e, d = e + 1 := ⟨d - 1, by omega⟩
  have hj := (e_Has.get hT (c := 286) (k := a) (lo := 0) (hi := 6) rfl (by decide))
  refine e_Ok.run (t' := (2, [(0, (1, 275)), (1, (0, a)), (2, (0, i)), (3, (0, b))], [(1, 275), (0, i)], w)) 2 rfl ?_
  refine e_Ok.getr (z := 286) rfl (el_o rfl) rfl rfl (e_Has.eq hT rfl) (by omega) ?_
  refine e_Ok.run (t' := (6, [(0, (1, 275)), (1, (0, a)), (2, (0, i)), (3, (0, b))], [(0, a), (1, 286), (0, i)], w)) 1 rfl ?_
  have h1 := (e_Has.get hT (c := 286) (k := a) (lo := 0) (hi := 6) rfl (by decide))
  refine e_Ok.ald (z := w 286 a) rfl (el_o rfl) rfl (by omega) rfl (by omega) ?_
  refine e_Ok.if2 rfl (fun h2 => ?_) (fun h2 => ?_)
  · replace h2 : (i : Int) ≠ w 286 a := h2
    refine e_Ok.run (t' := (20, [(4, (0, 0)), (0, (1, 275)), (1, (0, a)), (2, (0, i)), (3, (0, b))], [(0, i), (0, b), (1, 275)], w)) 5 rfl ?_
    refine e_Ok.add (z := b + i) rfl (by omega) (by omega) ?_
    refine e_Ok.putf rfl (el_o rfl) rfl rfl ?_
    generalize hw3 : e_up w 275 58 (b + i) = w3
    have f4 : e_fr mB w w3 := e_fr.up (e_fr.refl w) hw3 (by unfold mB; omega)
    refine e_Ok.run (t' := (27, [(4, (0, 0)), (0, (1, 275)), (1, (0, a)), (2, (0, i)), (3, (0, b))], [(0, 0), (1, 275)], w3)) 2 rfl ?_
    refine e_Ok.if1 rfl (fun h5 => ?_) (fun h5 => ?_)
    · replace h5 : (0 : Int) = 0 := h5
      refine e_Ok.run (t' := (38, [(4, (0, 0)), (0, (1, 275)), (1, (0, a)), (2, (0, i)), (3, (0, b))], [(0, i), (0, b), (1, 275)], w3)) 2 rfl ?_
      refine e_Ok.add (z := b + i) rfl (by omega) (by omega) ?_
      refine e_Ok.run (t' := (40, [(4, (0, 0)), (0, (1, 275)), (1, (0, a)), (2, (0, i)), (3, (0, b))], [(0, 1), (0, b + i), (1, 275)], w3)) 1 rfl ?_
      refine e_Ok.add (z := b + i + 1) rfl (by omega) (by omega) ?_
      refine e_Ok.putf rfl (el_o rfl) rfl rfl ?_
      generalize hw6 : e_up w3 275 59 (b + i + 1) = w6
      have f7 : e_fr mB w w6 := e_fr.up f4 hw6 (by unfold mB; omega)
      refine e_Ok.run (t' := (47, [(4, (0, 0)), (0, (1, 275)), (1, (0, a)), (2, (0, i)), (3, (0, b))], [(0, 0), (1, 275)], w6)) 2 rfl ?_
      refine e_Ok.if1 rfl (fun h8 => ?_) (fun h8 => ?_)
      · replace h8 : (0 : Int) = 0 := h8
        refine e_Ok.run (t' := (70, [(4, (0, 0)), (0, (1, 275)), (1, (0, a)), (2, (0, i)), (3, (0, b))], [(1, 275), (1, 275)], w6)) 1 rfl ?_
        refine e_Ok.getr (z := 293) rfl (el_o rfl) rfl rfl (by rw [← hw6]; exact (e_up_ne _ _ (Or.inr (by omega))).trans (by rw [← hw3]; exact (e_up_ne _ _ (Or.inr (by omega))).trans (e_Has.eq hT rfl))) (by omega) ?_
        refine e_Ok.run (t' := (76, [(4, (0, 0)), (0, (1, 275)), (1, (0, a)), (2, (0, i)), (3, (0, b))], [(0, a), (0, 6), (1, 293), (1, 275)], w6)) 2 rfl ?_
        refine e_Ok.mul (z := 6 * a) rfl (by omega) (by omega) ?_
        refine e_Ok.run (t' := (78, [(4, (0, 0)), (0, (1, 275)), (1, (0, a)), (2, (0, i)), (3, (0, b))], [(0, i), (0, 6 * a), (1, 293), (1, 275)], w6)) 1 rfl ?_
        refine e_Ok.add (z := 6 * a + i) rfl (by omega) (by omega) ?_
        have h9 := (e_Has.get hT (c := 293) (k := 6 * a + i) (lo := 0) (hi := 800) rfl (by decide))
        refine e_Ok.ald (z := w 293 (6 * a + i)) rfl (el_o rfl) rfl (by omega) (by rw [← hw6]; exact (e_up_ne _ _ (Or.inl (by omega))).trans (by rw [← hw3]; exact (e_up_ne _ _ (Or.inl (by omega))).trans rfl)) (by omega) ?_
        refine e_Ok.putf rfl (el_o rfl) rfl rfl ?_
        generalize hw10 : e_up w6 275 60 (w 293 (6 * a + i)) = w10
        have f11 : e_fr mB w w10 := e_fr.up f7 hw10 (by unfold mB; omega)
        refine e_Ok.rets rfl rfl ?_
        have e58 : w10 275 58 = b + i := (by rw [← hw10]; exact (e_up_ne _ _ (Or.inr (by omega))).trans (by rw [← hw6]; exact (e_up_ne _ _ (Or.inr (by omega))).trans (by rw [← hw3]; exact e_up_eq _ _ _ _)))
        have e59 : w10 275 59 = b + i + 1 := (by rw [← hw10]; exact (e_up_ne _ _ (Or.inr (by omega))).trans (by rw [← hw6]; exact e_up_eq _ _ _ _))
        have e60 : w10 275 60 = w 293 (6 * a + i) := (by rw [← hw10]; exact e_up_eq _ _ _ _)
        exact ⟨rfl, f11, by omega, by omega, by omega⟩
      · replace h8 : (0 : Int) ≠ 0 := by have q : ¬ ((0 : Int) = 0) := h8; omega
        exfalso; omega
    · replace h5 : (0 : Int) ≠ 0 := by have q : ¬ ((0 : Int) = 0) := h5; omega
      exfalso; omega
  · replace h2 : (i : Int) = w 286 a := by have q : ¬ ((i : Int) ≠ w 286 a) := h2; omega
    refine e_Ok.run (t' := (20, [(4, (0, 1)), (0, (1, 275)), (1, (0, a)), (2, (0, i)), (3, (0, b))], [(0, i), (0, b), (1, 275)], w)) 6 rfl ?_
    refine e_Ok.add (z := b + i) rfl (by omega) (by omega) ?_
    refine e_Ok.putf rfl (el_o rfl) rfl rfl ?_
    generalize hw12 : e_up w 275 58 (b + i) = w12
    have f13 : e_fr mB w w12 := e_fr.up (e_fr.refl w) hw12 (by unfold mB; omega)
    refine e_Ok.run (t' := (27, [(4, (0, 1)), (0, (1, 275)), (1, (0, a)), (2, (0, i)), (3, (0, b))], [(0, 1), (1, 275)], w12)) 2 rfl ?_
    refine e_Ok.if1 rfl (fun h14 => ?_) (fun h14 => ?_)
    · replace h14 : (1 : Int) = 0 := h14
      exfalso; omega
    · replace h14 : (1 : Int) ≠ 0 := by have q : ¬ ((1 : Int) = 0) := h14; omega
      refine e_Ok.run (t' := (32, [(4, (0, 1)), (0, (1, 275)), (1, (0, a)), (2, (0, i)), (3, (0, b))], [(0, i), (0, b), (1, 275)], w12)) 2 rfl ?_
      refine e_Ok.add (z := b + i) rfl (by omega) (by omega) ?_
      refine e_Ok.run (t' := (41, [(4, (0, 1)), (0, (1, 275)), (1, (0, a)), (2, (0, i)), (3, (0, b))], [(0, b + i), (1, 275)], w12)) 1 rfl ?_
      refine e_Ok.putf rfl (el_o rfl) rfl rfl ?_
      generalize hw15 : e_up w12 275 59 (b + i) = w15
      have f16 : e_fr mB w w15 := e_fr.up f13 hw15 (by unfold mB; omega)
      refine e_Ok.run (t' := (47, [(4, (0, 1)), (0, (1, 275)), (1, (0, a)), (2, (0, i)), (3, (0, b))], [(0, 1), (1, 275)], w15)) 2 rfl ?_
      refine e_Ok.if1 rfl (fun h17 => ?_) (fun h17 => ?_)
      · replace h17 : (1 : Int) = 0 := h17
        exfalso; omega
      · replace h17 : (1 : Int) ≠ 0 := by have q : ¬ ((1 : Int) = 0) := h17; omega
        refine e_Ok.run (t' := (51, [(4, (0, 1)), (0, (1, 275)), (1, (0, a)), (2, (0, i)), (3, (0, b))], [(1, 275), (1, 275)], w15)) 1 rfl ?_
        refine e_Ok.getr (z := 309) rfl (el_o rfl) rfl rfl (by rw [← hw15]; exact (e_up_ne _ _ (Or.inr (by omega))).trans (by rw [← hw12]; exact (e_up_ne _ _ (Or.inr (by omega))).trans (e_Has.eq hT rfl))) (by omega) ?_
        refine e_Ok.run (t' := (55, [(4, (0, 1)), (0, (1, 275)), (1, (0, a)), (2, (0, i)), (3, (0, b))], [(1, 275), (1, 309), (1, 275)], w15)) 1 rfl ?_
        refine e_Ok.getr (z := 276) rfl (el_o rfl) rfl rfl (by rw [← hw15]; exact (e_up_ne _ _ (Or.inr (by omega))).trans (by rw [← hw12]; exact (e_up_ne _ _ (Or.inr (by omega))).trans (e_Has.eq hT rfl))) (by omega) ?_
        refine e_Ok.run (t' := (59, [(4, (0, 1)), (0, (1, 275)), (1, (0, a)), (2, (0, i)), (3, (0, b))], [(0, a), (1, 276), (1, 309), (1, 275)], w15)) 1 rfl ?_
        refine e_Ok.callS rfl (by omega) rfl rfl (c_268 (by omega)) (fun r18 w19 h20 => ?_)
        obtain ⟨rfl, rfl⟩ := h20
        show e_Ok 20 elay ecode eI (d + 1) 305 (62, [(4, (0, 1)), (0, (1, 275)), (1, (0, a)), (2, (0, i)), (3, (0, b))], [(0, 36 * a + 16), (1, 276), (1, 309), (1, 275)], w15) _
        refine e_Ok.run (t' := (63, [(4, (0, 1)), (0, (1, 275)), (1, (0, a)), (2, (0, i)), (3, (0, b))], [(0, 1), (0, 36 * a + 16), (1, 276), (1, 309), (1, 275)], w15)) 1 rfl ?_
        refine e_Ok.add (z := 36 * a + 17) rfl (by omega) (by omega) ?_
        have h21 := (e_Has.get hT (c := 276) (nR_HOLDS (a := a) (by omega)) (by decide))
        refine e_Ok.ald (z := w 276 (36 * a + 17)) rfl (el_o rfl) rfl (by omega) (by rw [← hw15]; exact (e_up_ne _ _ (Or.inl (by omega))).trans (by rw [← hw12]; exact (e_up_ne _ _ (Or.inl (by omega))).trans rfl)) (by omega) ?_
        have h22 := (e_Has.get hT (c := 309) (k := w 276 (36 * a + 17)) (lo := 0) (hi := 800) rfl (by decide))
        refine e_Ok.ald (z := w 309 (w 276 (36 * a + 17))) rfl rfl rfl (by omega) (by rw [← hw15]; exact (e_up_ne _ _ (Or.inl (by omega))).trans (by rw [← hw12]; exact (e_up_ne _ _ (Or.inl (by omega))).trans rfl)) (by omega) ?_
        refine e_Ok.run (t' := (80, [(4, (0, 1)), (0, (1, 275)), (1, (0, a)), (2, (0, i)), (3, (0, b))], [(0, w 309 (w 276 (36 * a + 17))), (1, 275)], w15)) 1 rfl ?_
        refine e_Ok.putf rfl (el_o rfl) rfl rfl ?_
        generalize hw23 : e_up w15 275 60 (w 309 (w 276 (36 * a + 17))) = w23
        have f24 : e_fr mB w w23 := e_fr.up f16 hw23 (by unfold mB; omega)
        refine e_Ok.rets rfl rfl ?_
        have e58 : w23 275 58 = b + i := (by rw [← hw23]; exact (e_up_ne _ _ (Or.inr (by omega))).trans (by rw [← hw15]; exact (e_up_ne _ _ (Or.inr (by omega))).trans (by rw [← hw12]; exact e_up_eq _ _ _ _)))
        have e59 : w23 275 59 = b + i := (by rw [← hw23]; exact (e_up_ne _ _ (Or.inr (by omega))).trans (by rw [← hw15]; exact e_up_eq _ _ _ _))
        have e60 : w23 275 60 = w 309 (w 276 (36 * a + 17)) := (by rw [← hw23]; exact e_up_eq _ _ _ _)
        exact ⟨rfl, f24, by omega, by omega, by omega⟩
theorem c_311_324 {d : Nat} {w : eW} {x y z v : Int} (hx : -2147483648 ≤ x ∧ x ≤ 2147483647) (hy : -2147483648 ≤ y ∧ y ≤ 2147483647) (hz : -2147483648 ≤ z ∧ z ≤ 2147483647) (hv : -2147483648 ≤ v ∧ v ≤ 2147483647) : e_Ok 20 elay ecode eI d 311 (0, [(0, (1, 275)), (1, (1, 324)), (2, (0, x)), (3, (0, y)), (4, (0, z)), (5, (0, v))], [], w) (fun r w' => r = [] ∧ e_fr m1 w w' ∧ e_kn w' 324 0 3) := by
  refine e_Ok.run (t' := (3, [(0, (1, 275)), (1, (1, 324)), (2, (0, x)), (3, (0, y)), (4, (0, z)), (5, (0, v))], [(0, x), (0, 0), (1, 324)], w)) 3 rfl ?_
  refine e_Ok.ast rfl (el_o rfl) rfl rfl (by omega) ?_
  generalize hw1 : e_up w 324 0 x = w1
  have f2 : e_fr m1 w w1 := e_fr.up (e_fr.refl w) hw1 (by unfold m1; omega)
  refine e_Ok.run (t' := (7, [(0, (1, 275)), (1, (1, 324)), (2, (0, x)), (3, (0, y)), (4, (0, z)), (5, (0, v))], [(0, y), (0, 1), (1, 324)], w1)) 3 rfl ?_
  refine e_Ok.ast rfl (el_o rfl) rfl rfl (by omega) ?_
  generalize hw3 : e_up w1 324 1 y = w3
  have f4 : e_fr m1 w w3 := e_fr.up f2 hw3 (by unfold m1; omega)
  refine e_Ok.run (t' := (12, [(0, (1, 275)), (1, (1, 324)), (2, (0, x)), (3, (0, y)), (4, (0, z)), (5, (0, v))], [(0, z), (0, 2), (1, 324)], w3)) 3 rfl ?_
  refine e_Ok.ast rfl (el_o rfl) rfl rfl (by omega) ?_
  generalize hw5 : e_up w3 324 2 z = w5
  have f6 : e_fr m1 w w5 := e_fr.up f4 hw5 (by unfold m1; omega)
  refine e_Ok.run (t' := (17, [(0, (1, 275)), (1, (1, 324)), (2, (0, x)), (3, (0, y)), (4, (0, z)), (5, (0, v))], [(0, v), (0, 3), (1, 324)], w5)) 3 rfl ?_
  refine e_Ok.ast rfl (el_o rfl) rfl rfl (by omega) ?_
  generalize hw7 : e_up w5 324 3 v = w7
  have f8 : e_fr m1 w w7 := e_fr.up f6 hw7 (by unfold m1; omega)
  refine e_Ok.rets rfl rfl ?_
  refine ⟨rfl, f8, fun i g1 g2 => ?_⟩
  obtain rfl | rfl | rfl | rfl : i = 0 ∨ i = 1 ∨ i = 2 ∨ i = 3 := by omega
  · rw [show w7 324 0 = x from (by rw [← hw7]; exact (e_up_ne _ _ (Or.inr (by omega))).trans (by rw [← hw5]; exact (e_up_ne _ _ (Or.inr (by omega))).trans (by rw [← hw3]; exact (e_up_ne _ _ (Or.inr (by omega))).trans (by rw [← hw1]; exact e_up_eq _ _ _ _))))]; omega
  · rw [show w7 324 1 = y from (by rw [← hw7]; exact (e_up_ne _ _ (Or.inr (by omega))).trans (by rw [← hw5]; exact (e_up_ne _ _ (Or.inr (by omega))).trans (by rw [← hw3]; exact e_up_eq _ _ _ _)))]; omega
  · rw [show w7 324 2 = z from (by rw [← hw7]; exact (e_up_ne _ _ (Or.inr (by omega))).trans (by rw [← hw5]; exact e_up_eq _ _ _ _))]; omega
  · rw [show w7 324 3 = v from (by rw [← hw7]; exact e_up_eq _ _ _ _)]; omega
theorem c_311_325 {d : Nat} {w : eW} {x y z v : Int} (hx : -2147483648 ≤ x ∧ x ≤ 2147483647) (hy : -2147483648 ≤ y ∧ y ≤ 2147483647) (hz : -2147483648 ≤ z ∧ z ≤ 2147483647) (hv : -2147483648 ≤ v ∧ v ≤ 2147483647) : e_Ok 20 elay ecode eI d 311 (0, [(0, (1, 275)), (1, (1, 325)), (2, (0, x)), (3, (0, y)), (4, (0, z)), (5, (0, v))], [], w) (fun r w' => r = [] ∧ e_fr m2 w w' ∧ e_kn w' 325 0 3) := by
  refine e_Ok.run (t' := (3, [(0, (1, 275)), (1, (1, 325)), (2, (0, x)), (3, (0, y)), (4, (0, z)), (5, (0, v))], [(0, x), (0, 0), (1, 325)], w)) 3 rfl ?_
  refine e_Ok.ast rfl (el_o rfl) rfl rfl (by omega) ?_
  generalize hw1 : e_up w 325 0 x = w1
  have f2 : e_fr m2 w w1 := e_fr.up (e_fr.refl w) hw1 (by unfold m2; omega)
  refine e_Ok.run (t' := (7, [(0, (1, 275)), (1, (1, 325)), (2, (0, x)), (3, (0, y)), (4, (0, z)), (5, (0, v))], [(0, y), (0, 1), (1, 325)], w1)) 3 rfl ?_
  refine e_Ok.ast rfl (el_o rfl) rfl rfl (by omega) ?_
  generalize hw3 : e_up w1 325 1 y = w3
  have f4 : e_fr m2 w w3 := e_fr.up f2 hw3 (by unfold m2; omega)
  refine e_Ok.run (t' := (12, [(0, (1, 275)), (1, (1, 325)), (2, (0, x)), (3, (0, y)), (4, (0, z)), (5, (0, v))], [(0, z), (0, 2), (1, 325)], w3)) 3 rfl ?_
  refine e_Ok.ast rfl (el_o rfl) rfl rfl (by omega) ?_
  generalize hw5 : e_up w3 325 2 z = w5
  have f6 : e_fr m2 w w5 := e_fr.up f4 hw5 (by unfold m2; omega)
  refine e_Ok.run (t' := (17, [(0, (1, 275)), (1, (1, 325)), (2, (0, x)), (3, (0, y)), (4, (0, z)), (5, (0, v))], [(0, v), (0, 3), (1, 325)], w5)) 3 rfl ?_
  refine e_Ok.ast rfl (el_o rfl) rfl rfl (by omega) ?_
  generalize hw7 : e_up w5 325 3 v = w7
  have f8 : e_fr m2 w w7 := e_fr.up f6 hw7 (by unfold m2; omega)
  refine e_Ok.rets rfl rfl ?_
  refine ⟨rfl, f8, fun i g1 g2 => ?_⟩
  obtain rfl | rfl | rfl | rfl : i = 0 ∨ i = 1 ∨ i = 2 ∨ i = 3 := by omega
  · rw [show w7 325 0 = x from (by rw [← hw7]; exact (e_up_ne _ _ (Or.inr (by omega))).trans (by rw [← hw5]; exact (e_up_ne _ _ (Or.inr (by omega))).trans (by rw [← hw3]; exact (e_up_ne _ _ (Or.inr (by omega))).trans (by rw [← hw1]; exact e_up_eq _ _ _ _))))]; omega
  · rw [show w7 325 1 = y from (by rw [← hw7]; exact (e_up_ne _ _ (Or.inr (by omega))).trans (by rw [← hw5]; exact (e_up_ne _ _ (Or.inr (by omega))).trans (by rw [← hw3]; exact e_up_eq _ _ _ _)))]; omega
  · rw [show w7 325 2 = z from (by rw [← hw7]; exact (e_up_ne _ _ (Or.inr (by omega))).trans (by rw [← hw5]; exact e_up_eq _ _ _ _))]; omega
  · rw [show w7 325 3 = v from (by rw [← hw7]; exact e_up_eq _ _ _ _)]; omega
theorem c_312_324 {d : Nat} (hd : 21 ≤ d) {w : eW} (hT : e_Has mTy w) {u v : Int} (hu : w 275 58 = u) (hv : w 275 59 = v) (hr : 0 ≤ u ∧ u ≤ 34 ∧ 0 ≤ v ∧ v ≤ 34) (k1 : e_kn w 321 u u) (k2 : e_kn w 322 u u) (k3 : e_kn w 321 v v) (k4 : e_kn w 322 v v) : e_Ok 20 elay ecode eI d 312 (0, [(0, (1, 275)), (1, (1, 324))], [], w) (fun r w' => r = [] ∧ e_fr m1 w w' ∧ e_kn w' 324 0 3) := by
  obtain ⟨d, rfl⟩ : ∃ e, d = e + 1 := ⟨d - 1, by omega⟩
  refine e_Ok.run (t' := (3, [(0, (1, 275)), (1, (1, 324))], [(1, 275), (1, 324), (1, 275)], w)) 3 rfl ?_
  refine e_Ok.getr (z := 321) rfl (el_o rfl) rfl rfl (e_Has.eq hT rfl) (by omega) ?_
  refine e_Ok.run (t' := (7, [(0, (1, 275)), (1, (1, 324))], [(1, 275), (1, 321), (1, 324), (1, 275)], w)) 1 rfl ?_
  refine e_Ok.getf (z := u) rfl (el_o rfl) rfl rfl hu (by omega) ?_
  have h1 := (k1 u (by omega) (by omega))
  refine e_Ok.ald (z := w 321 u) rfl (el_o rfl) rfl (by omega) rfl (by omega) ?_
  refine e_Ok.run (t' := (12, [(0, (1, 275)), (1, (1, 324))], [(1, 275), (0, w 321 u), (1, 324), (1, 275)], w)) 1 rfl ?_
  refine e_Ok.getr (z := 322) rfl (el_o rfl) rfl rfl (e_Has.eq hT rfl) (by omega) ?_
  refine e_Ok.run (t' := (16, [(0, (1, 275)), (1, (1, 324))], [(1, 275), (1, 322), (0, w 321 u), (1, 324), (1, 275)], w)) 1 rfl ?_
  refine e_Ok.getf (z := u) rfl (el_o rfl) rfl rfl hu (by omega) ?_
  have h2 := (k2 u (by omega) (by omega))
  refine e_Ok.ald (z := w 322 u) rfl (el_o rfl) rfl (by omega) rfl (by omega) ?_
  refine e_Ok.run (t' := (21, [(0, (1, 275)), (1, (1, 324))], [(1, 275), (0, w 322 u), (0, w 321 u), (1, 324), (1, 275)], w)) 1 rfl ?_
  refine e_Ok.getr (z := 321) rfl (el_o rfl) rfl rfl (e_Has.eq hT rfl) (by omega) ?_
  refine e_Ok.run (t' := (25, [(0, (1, 275)), (1, (1, 324))], [(1, 275), (1, 321), (0, w 322 u), (0, w 321 u), (1, 324), (1, 275)], w)) 1 rfl ?_
  refine e_Ok.getf (z := v) rfl (el_o rfl) rfl rfl hv (by omega) ?_
  have h3 := (k3 v (by omega) (by omega))
  refine e_Ok.ald (z := w 321 v) rfl (el_o rfl) rfl (by omega) rfl (by omega) ?_
  refine e_Ok.run (t' := (30, [(0, (1, 275)), (1, (1, 324))], [(1, 275), (0, w 321 v), (0, w 322 u), (0, w 321 u), (1, 324), (1, 275)], w)) 1 rfl ?_
  refine e_Ok.getr (z := 322) rfl (el_o rfl) rfl rfl (e_Has.eq hT rfl) (by omega) ?_
  refine e_Ok.run (t' := (34, [(0, (1, 275)), (1, (1, 324))], [(1, 275), (1, 322), (0, w 321 v), (0, w 322 u), (0, w 321 u), (1, 324), (1, 275)], w)) 1 rfl ?_
  refine e_Ok.getf (z := v) rfl (el_o rfl) rfl rfl hv (by omega) ?_
  have h4 := (k4 v (by omega) (by omega))
  refine e_Ok.ald (z := w 322 v) rfl (el_o rfl) rfl (by omega) rfl (by omega) ?_
  refine e_Ok.callV rfl (by omega) rfl rfl rfl rfl (c_311_324 (by omega) (by omega) (by omega) (by omega)) (fun r5 w6 h7 => ?_)
  obtain ⟨rfl, q8, q8k⟩ := h7
  have f9 : e_fr m1 w w6 := e_fr.trans (e_fr.refl w) (e_fr.mono q8 (fun c k q => by exact q))
  show e_Ok 20 elay ecode eI (d + 1) 312 (41, [(0, (1, 275)), (1, (1, 324))], [], w6) _
  refine e_Ok.rets rfl rfl ?_
  exact ⟨rfl, f9, q8k⟩
theorem c_312_325 {d : Nat} (hd : 21 ≤ d) {w : eW} (hT : e_Has mTy w) {u v : Int} (hu : w 275 58 = u) (hv : w 275 59 = v) (hr : 0 ≤ u ∧ u ≤ 34 ∧ 0 ≤ v ∧ v ≤ 34) (k1 : e_kn w 321 u u) (k2 : e_kn w 322 u u) (k3 : e_kn w 321 v v) (k4 : e_kn w 322 v v) : e_Ok 20 elay ecode eI d 312 (0, [(0, (1, 275)), (1, (1, 325))], [], w) (fun r w' => r = [] ∧ e_fr m2 w w' ∧ e_kn w' 325 0 3) := by
  obtain ⟨d, rfl⟩ : ∃ e, d = e + 1 := ⟨d - 1, by omega⟩
  refine e_Ok.run (t' := (3, [(0, (1, 275)), (1, (1, 325))], [(1, 275), (1, 325), (1, 275)], w)) 3 rfl ?_
  refine e_Ok.getr (z := 321) rfl (el_o rfl) rfl rfl (e_Has.eq hT rfl) (by omega) ?_
  refine e_Ok.run (t' := (7, [(0, (1, 275)), (1, (1, 325))], [(1, 275), (1, 321), (1, 325), (1, 275)], w)) 1 rfl ?_
  refine e_Ok.getf (z := u) rfl (el_o rfl) rfl rfl hu (by omega) ?_
  have h1 := (k1 u (by omega) (by omega))
  refine e_Ok.ald (z := w 321 u) rfl (el_o rfl) rfl (by omega) rfl (by omega) ?_
  refine e_Ok.run (t' := (12, [(0, (1, 275)), (1, (1, 325))], [(1, 275), (0, w 321 u), (1, 325), (1, 275)], w)) 1 rfl ?_
  refine e_Ok.getr (z := 322) rfl (el_o rfl) rfl rfl (e_Has.eq hT rfl) (by omega) ?_
  refine e_Ok.run (t' := (16, [(0, (1, 275)), (1, (1, 325))], [(1, 275), (1, 322), (0, w 321 u), (1, 325), (1, 275)], w)) 1 rfl ?_
  refine e_Ok.getf (z := u) rfl (el_o rfl) rfl rfl hu (by omega) ?_
  have h2 := (k2 u (by omega) (by omega))
  refine e_Ok.ald (z := w 322 u) rfl (el_o rfl) rfl (by omega) rfl (by omega) ?_
  refine e_Ok.run (t' := (21, [(0, (1, 275)), (1, (1, 325))], [(1, 275), (0, w 322 u), (0, w 321 u), (1, 325), (1, 275)], w)) 1 rfl ?_
  refine e_Ok.getr (z := 321) rfl (el_o rfl) rfl rfl (e_Has.eq hT rfl) (by omega) ?_
  refine e_Ok.run (t' := (25, [(0, (1, 275)), (1, (1, 325))], [(1, 275), (1, 321), (0, w 322 u), (0, w 321 u), (1, 325), (1, 275)], w)) 1 rfl ?_
  refine e_Ok.getf (z := v) rfl (el_o rfl) rfl rfl hv (by omega) ?_
  have h3 := (k3 v (by omega) (by omega))
  refine e_Ok.ald (z := w 321 v) rfl (el_o rfl) rfl (by omega) rfl (by omega) ?_
  refine e_Ok.run (t' := (30, [(0, (1, 275)), (1, (1, 325))], [(1, 275), (0, w 321 v), (0, w 322 u), (0, w 321 u), (1, 325), (1, 275)], w)) 1 rfl ?_
  refine e_Ok.getr (z := 322) rfl (el_o rfl) rfl rfl (e_Has.eq hT rfl) (by omega) ?_
  refine e_Ok.run (t' := (34, [(0, (1, 275)), (1, (1, 325))], [(1, 275), (1, 322), (0, w 321 v), (0, w 322 u), (0, w 321 u), (1, 325), (1, 275)], w)) 1 rfl ?_
  refine e_Ok.getf (z := v) rfl (el_o rfl) rfl rfl hv (by omega) ?_
  have h4 := (k4 v (by omega) (by omega))
  refine e_Ok.ald (z := w 322 v) rfl (el_o rfl) rfl (by omega) rfl (by omega) ?_
  refine e_Ok.callV rfl (by omega) rfl rfl rfl rfl (c_311_325 (by omega) (by omega) (by omega) (by omega)) (fun r5 w6 h7 => ?_)
  obtain ⟨rfl, q8, q8k⟩ := h7
  have f9 : e_fr m2 w w6 := e_fr.trans (e_fr.refl w) (e_fr.mono q8 (fun c k q => by exact q))
  show e_Ok 20 elay ecode eI (d + 1) 312 (41, [(0, (1, 275)), (1, (1, 325))], [], w6) _
  refine e_Ok.rets rfl rfl ?_
  exact ⟨rfl, f9, q8k⟩
end
