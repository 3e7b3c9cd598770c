noncomputable section
/-! the model: what builds a cell, exactly -/
theorem c_271_ex {d : Nat} (hd : 22 ≤ d) {w : eW} (hT : e_Has mTy w) {a j : Int} : e_Ok 20 elay ecode eI d 271 (0, [(0, (1, 275)), (1, (0, a)), (2, (0, j))], [], w) (fun r w' => ∃ z : Int, r = [(0, z)] ∧ w = w' ∧ ((z = 1 ∧ (0 ≤ a ∧ a < w 275 10) ∧ 0 ≤ j ∧ j < w 286 a) ∨ (z = 0 ∧ ¬ ((0 ≤ a ∧ a < w 275 10) ∧ 0 ≤ j ∧ j < w 286 a)))) := by
  obtain ⟨d, rfl⟩ : ∃ e, d = e + 1 := ⟨d - 1, by omega⟩
  refine e_Ok.run (t' := (2, [(0, (1, 275)), (1, (0, a)), (2, (0, j))], [(0, a), (1, 275)], w)) 2 rfl ?_
  refine e_Ok.callV rfl (by omega) rfl rfl rfl rfl (c_270 (by omega) hT) (fun r1 w2 h3 => ?_)
  have h4 := e_Has.get hT (c := 275) (k := 10) (lo := 0) (hi := 4) rfl (by decide)
  obtain ⟨z5, rfl, rfl, q6⟩ := h3
  obtain ⟨rfl, q6⟩ | ⟨rfl, q6⟩ := q6
  · show e_Ok 20 elay ecode eI (d + 1) 271 (5, [(0, (1, 275)), (1, (0, a)), (2, (0, j))], [(0, 1)], w) _
    refine e_Ok.if1 rfl (fun h7 => ?_) (fun h7 => ?_)
    · replace h7 : (1 : Int) = 0 := h7
      exfalso; omega
    · replace h7 : (1 : Int) ≠ 0 := by have q : ¬ ((1 : Int) = 0) := h7; omega
      refine e_Ok.run (t' := (12, [(0, (1, 275)), (1, (0, a)), (2, (0, j))], [(1, 275), (4, 0), (4, j)], w)) 4 rfl ?_
      refine e_Ok.getr (z := 286) rfl rfl rfl rfl (e_Has.eq hT rfl) (by omega) ?_
      refine e_Ok.run (t' := (16, [(0, (1, 275)), (1, (0, a)), (2, (0, j))], [(0, a), (1, 286), (4, 0), (4, j)], w)) 1 rfl ?_
      have h8 := (e_Has.get hT (c := 286) (k := a) (lo := 0) (hi := 6) rfl (by decide))
      refine e_Ok.ald (z := w 286 a) rfl rfl rfl (by omega) rfl (by omega) ?_
      refine e_Ok.run (t' := (18, [(0, (1, 275)), (1, (0, a)), (2, (0, j))], [(0, 1), (0, w 286 a), (4, 0), (4, j)], w)) 1 rfl ?_
      refine e_Ok.sub' (z := w 286 a - 1) rfl (by omega) (by omega) ?_
      refine e_Ok.run (t' := (20, [(0, (1, 275)), (1, (0, a)), (2, (0, j))], [(4, w 286 a - 1), (4, 0), (4, j)], w)) 1 rfl ?_
      refine e_Ok.callS rfl (by omega) rfl rfl (c_266) (fun r9 w10 h11 => ?_)
      obtain ⟨z12, rfl, rfl, q13⟩ := h11
      obtain ⟨rfl, q13⟩ | ⟨rfl, q13⟩ := q13
      · show e_Ok 20 elay ecode eI (d + 1) 271 (23, [(0, (1, 275)), (1, (0, a)), (2, (0, j))], [(0, 1)], w) _
        refine e_Ok.if1 rfl (fun h14 => ?_) (fun h14 => ?_)
        · replace h14 : (1 : Int) = 0 := h14
          exfalso; omega
        · replace h14 : (1 : Int) ≠ 0 := by have q : ¬ ((1 : Int) = 0) := h14; omega
          refine e_Ok.run (t' := (31, [(0, (1, 275)), (1, (0, a)), (2, (0, j))], [(0, 1)], w)) 2 rfl ?_
          refine e_Ok.rets rfl rfl ?_
          exact ⟨_, rfl, rfl, Or.inl ⟨rfl, by omega⟩⟩
      · show e_Ok 20 elay ecode eI (d + 1) 271 (23, [(0, (1, 275)), (1, (0, a)), (2, (0, j))], [(0, 0)], w) _
        refine e_Ok.if1 rfl (fun h15 => ?_) (fun h15 => ?_)
        · replace h15 : (0 : Int) = 0 := h15
          refine e_Ok.run (t' := (31, [(0, (1, 275)), (1, (0, a)), (2, (0, j))], [(0, 0)], w)) 1 rfl ?_
          refine e_Ok.rets rfl rfl ?_
          exact ⟨_, rfl, rfl, Or.inr ⟨rfl, by omega⟩⟩
        · replace h15 : (0 : Int) ≠ 0 := by have q : ¬ ((0 : Int) = 0) := h15; omega
          exfalso; omega
  · show e_Ok 20 elay ecode eI (d + 1) 271 (5, [(0, (1, 275)), (1, (0, a)), (2, (0, j))], [(0, 0)], w) _
    refine e_Ok.if1 rfl (fun h16 => ?_) (fun h16 => ?_)
    · replace h16 : (0 : Int) = 0 := h16
      refine e_Ok.run (t' := (31, [(0, (1, 275)), (1, (0, a)), (2, (0, j))], [(0, 0)], w)) 1 rfl ?_
      refine e_Ok.rets rfl rfl ?_
      exact ⟨_, rfl, rfl, Or.inr ⟨rfl, by omega⟩⟩
    · replace h16 : (0 : Int) ≠ 0 := by have q : ¬ ((0 : Int) = 0) := h16; omega
      exfalso; omega
theorem c_272_ex {d : Nat} (hd : 21 ≤ d) {w : eW} {x y : Int} : e_Ok 20 elay ecode eI d 272 (0, [(0, (0, x)), (1, (0, y))], [], w) (fun r w' => ∃ z : Int, r = [(0, z)] ∧ w = w' ∧ ((z = 1 ∧ (-16000 ≤ x ∧ x ≤ 16000) ∧ -16000 ≤ y ∧ y ≤ 16000) ∨ (z = 0 ∧ ¬ ((-16000 ≤ x ∧ x ≤ 16000) ∧ -16000 ≤ y ∧ y ≤ 16000)))) := by
  obtain ⟨d, rfl⟩ : ∃ e, d = e + 1 := ⟨d - 1, by omega⟩
  refine e_Ok.run (t' := (8, [(0, (0, x)), (1, (0, y))], [(4, 16000), (4, (-16000)), (4, x)], w)) 4 rfl ?_
  refine e_Ok.callS rfl (by omega) rfl rfl (c_266) (fun r1 w2 h3 => ?_)
  obtain ⟨z4, rfl, rfl, q5⟩ := h3
  obtain ⟨rfl, q5⟩ | ⟨rfl, q5⟩ := q5
  · show e_Ok 20 elay ecode eI (d + 1) 272 (11, [(0, (0, x)), (1, (0, y))], [(0, 1)], w) _
    refine e_Ok.if1 rfl (fun h6 => ?_) (fun h6 => ?_)
    · replace h6 : (1 : Int) = 0 := h6
      exfalso; omega
    · replace h6 : (1 : Int) ≠ 0 := by have q : ¬ ((1 : Int) = 0) := h6; omega
      refine e_Ok.run (t' := (22, [(0, (0, x)), (1, (0, y))], [(4, 16000), (4, (-16000)), (4, y)], w)) 4 rfl ?_
      refine e_Ok.callS rfl (by omega) rfl rfl (c_266) (fun r7 w8 h9 => ?_)
      obtain ⟨z10, rfl, rfl, q11⟩ := h9
      obtain ⟨rfl, q11⟩ | ⟨rfl, q11⟩ := q11
      · show e_Ok 20 elay ecode eI (d + 1) 272 (25, [(0, (0, x)), (1, (0, y))], [(0, 1)], w) _
        refine e_Ok.if1 rfl (fun h12 => ?_) (fun h12 => ?_)
        · replace h12 : (1 : Int) = 0 := h12
          exfalso; omega
        · replace h12 : (1 : Int) ≠ 0 := by have q : ¬ ((1 : Int) = 0) := h12; omega
          refine e_Ok.run (t' := (33, [(0, (0, x)), (1, (0, y))], [(0, 1)], w)) 2 rfl ?_
          refine e_Ok.rets rfl rfl ?_
          exact ⟨_, rfl, rfl, Or.inl ⟨rfl, by omega⟩⟩
      · show e_Ok 20 elay ecode eI (d + 1) 272 (25, [(0, (0, x)), (1, (0, y))], [(0, 0)], w) _
        refine e_Ok.if1 rfl (fun h13 => ?_) (fun h13 => ?_)
        · replace h13 : (0 : Int) = 0 := h13
          refine e_Ok.run (t' := (33, [(0, (0, x)), (1, (0, y))], [(0, 0)], w)) 1 rfl ?_
          refine e_Ok.rets rfl rfl ?_
          exact ⟨_, rfl, rfl, Or.inr ⟨rfl, by omega⟩⟩
        · replace h13 : (0 : Int) ≠ 0 := by have q : ¬ ((0 : Int) = 0) := h13; omega
          exfalso; omega
  · show e_Ok 20 elay ecode eI (d + 1) 272 (11, [(0, (0, x)), (1, (0, y))], [(0, 0)], w) _
    refine e_Ok.if1 rfl (fun h14 => ?_) (fun h14 => ?_)
    · replace h14 : (0 : Int) = 0 := h14
      refine e_Ok.run (t' := (33, [(0, (0, x)), (1, (0, y))], [(0, 0)], w)) 1 rfl ?_
      refine e_Ok.rets rfl rfl ?_
      exact ⟨_, rfl, rfl, Or.inr ⟨rfl, by omega⟩⟩
    · replace h14 : (0 : Int) ≠ 0 := by have q : ¬ ((0 : Int) = 0) := h14; omega
      exfalso; omega
theorem c_273_ex {d : Nat} (hd : 22 ≤ d) {w : eW} {x y u v : Int} (hu : -2147483648 ≤ u ∧ u ≤ 2147483647) (hv : -2147483648 ≤ v ∧ v ≤ 2147483647) : e_Ok 20 elay ecode eI d 273 (0, [(0, (0, x)), (1, (0, y)), (2, (0, u)), (3, (0, v))], [], w) (fun r w' => ∃ z : Int, r = [(0, z)] ∧ w = w' ∧ ((z = 1 ∧ (-16000 ≤ x ∧ x ≤ 16000) ∧ (-16000 ≤ y ∧ y ≤ 16000) ∧ (0 ≤ u ∧ x + u ≤ 16000) ∧ 0 ≤ v ∧ y + v ≤ 16000) ∨ (z = 0 ∧ ¬ ((-16000 ≤ x ∧ x ≤ 16000) ∧ (-16000 ≤ y ∧ y ≤ 16000) ∧ (0 ≤ u ∧ x + u ≤ 16000) ∧ 0 ≤ v ∧ y + v ≤ 16000)))) := by
  obtain ⟨d, rfl⟩ : ∃ e, d = e + 1 := ⟨d - 1, by omega⟩
  refine e_Ok.run (t' := (2, [(0, (0, x)), (1, (0, y)), (2, (0, u)), (3, (0, v))], [(0, y), (0, x)], w)) 2 rfl ?_
  refine e_Ok.callS rfl (by omega) rfl rfl (c_272_ex (by omega)) (fun r1 w2 h3 => ?_)
  obtain ⟨z4, rfl, rfl, q5⟩ := h3
  obtain ⟨rfl, q5⟩ | ⟨rfl, q5⟩ := q5
  · show e_Ok 20 elay ecode eI (d + 1) 273 (5, [(0, (0, x)), (1, (0, y)), (2, (0, u)), (3, (0, v))], [(0, 1)], w) _
    refine e_Ok.if1 rfl (fun h6 => ?_) (fun h6 => ?_)
    · replace h6 : (1 : Int) = 0 := h6
      exfalso; omega
    · replace h6 : (1 : Int) ≠ 0 := by have q : ¬ ((1 : Int) = 0) := h6; omega
      refine e_Ok.run (t' := (9, [(0, (0, x)), (1, (0, y)), (2, (0, u)), (3, (0, v))], [(0, u)], w)) 1 rfl ?_
      refine e_Ok.if1 rfl (fun h7 => ?_) (fun h7 => ?_)
      · replace h7 : (u : Int) < 0 := h7
        refine e_Ok.run (t' := (45, [(0, (0, x)), (1, (0, y)), (2, (0, u)), (3, (0, v))], [(0, 0)], w)) 1 rfl ?_
        refine e_Ok.rets rfl rfl ?_
        exact ⟨_, rfl, rfl, Or.inr ⟨rfl, by omega⟩⟩
      · replace h7 : (u : Int) ≥ 0 := by have q : ¬ ((u : Int) < 0) := h7; omega
        refine e_Ok.run (t' := (13, [(0, (0, x)), (1, (0, y)), (2, (0, u)), (3, (0, v))], [(0, v)], w)) 1 rfl ?_
        refine e_Ok.if1 rfl (fun h8 => ?_) (fun h8 => ?_)
        · replace h8 : (v : Int) < 0 := h8
          refine e_Ok.run (t' := (45, [(0, (0, x)), (1, (0, y)), (2, (0, u)), (3, (0, v))], [(0, 0)], w)) 1 rfl ?_
          refine e_Ok.rets rfl rfl ?_
          exact ⟨_, rfl, rfl, Or.inr ⟨rfl, by omega⟩⟩
        · replace h8 : (v : Int) ≥ 0 := by have q : ¬ ((v : Int) < 0) := h8; omega
          refine e_Ok.run (t' := (20, [(0, (0, x)), (1, (0, y)), (2, (0, u)), (3, (0, v))], [(4, u), (4, x)], w)) 4 rfl ?_
          refine e_Ok.addL (z := x + u) rfl (by omega) (by omega) ?_
          refine e_Ok.run (t' := (24, [(0, (0, x)), (1, (0, y)), (2, (0, u)), (3, (0, v))], [(4, 16000), (4, x + u)], w)) 1 rfl ?_
          refine e_Ok.lcmp rfl (fun z10 z10a z10b z10c => ?_)
          refine e_Ok.if1 rfl (fun h11 => ?_) (fun h11 => ?_)
          · replace h11 : (z10 : Int) > 0 := h11
            refine e_Ok.run (t' := (45, [(0, (0, x)), (1, (0, y)), (2, (0, u)), (3, (0, v))], [(0, 0)], w)) 1 rfl ?_
            refine e_Ok.rets rfl rfl ?_
            exact ⟨_, rfl, rfl, Or.inr ⟨rfl, by omega⟩⟩
          · replace h11 : (z10 : Int) ≤ 0 := by have q : ¬ ((z10 : Int) > 0) := h11; omega
            refine e_Ok.run (t' := (32, [(0, (0, x)), (1, (0, y)), (2, (0, u)), (3, (0, v))], [(4, v), (4, y)], w)) 4 rfl ?_
            refine e_Ok.addL (z := y + v) rfl (by omega) (by omega) ?_
            refine e_Ok.run (t' := (36, [(0, (0, x)), (1, (0, y)), (2, (0, u)), (3, (0, v))], [(4, 16000), (4, y + v)], w)) 1 rfl ?_
            refine e_Ok.lcmp rfl (fun z13 z13a z13b z13c => ?_)
            refine e_Ok.if1 rfl (fun h14 => ?_) (fun h14 => ?_)
            · replace h14 : (z13 : Int) > 0 := h14
              refine e_Ok.run (t' := (45, [(0, (0, x)), (1, (0, y)), (2, (0, u)), (3, (0, v))], [(0, 0)], w)) 1 rfl ?_
              refine e_Ok.rets rfl rfl ?_
              exact ⟨_, rfl, rfl, Or.inr ⟨rfl, by omega⟩⟩
            · replace h14 : (z13 : Int) ≤ 0 := by have q : ¬ ((z13 : Int) > 0) := h14; omega
              refine e_Ok.run (t' := (45, [(0, (0, x)), (1, (0, y)), (2, (0, u)), (3, (0, v))], [(0, 1)], w)) 2 rfl ?_
              refine e_Ok.rets rfl rfl ?_
              exact ⟨_, rfl, rfl, Or.inl ⟨rfl, by omega⟩⟩
  · show e_Ok 20 elay ecode eI (d + 1) 273 (5, [(0, (0, x)), (1, (0, y)), (2, (0, u)), (3, (0, v))], [(0, 0)], w) _
    refine e_Ok.if1 rfl (fun h15 => ?_) (fun h15 => ?_)
    · replace h15 : (0 : Int) = 0 := h15
      refine e_Ok.run (t' := (45, [(0, (0, x)), (1, (0, y)), (2, (0, u)), (3, (0, v))], [(0, 0)], w)) 1 rfl ?_
      refine e_Ok.rets rfl rfl ?_
      exact ⟨_, rfl, rfl, Or.inr ⟨rfl, by omega⟩⟩
    · replace h15 : (0 : Int) ≠ 0 := by have q : ¬ ((0 : Int) = 0) := h15; omega
      exfalso; omega
theorem c_278_ex {d : Nat} (hd : 24 ≤ d) {w : eW} (hT : e_Has mTy w) {p1 p2 p3 p4 : Int} (g1 : (-2147483648) ≤ p1 ∧ p1 ≤ 2147483647) (g2 : (-2147483648) ≤ p2 ∧ p2 ≤ 2147483647) (g3 : (-2147483648) ≤ p3 ∧ p3 ≤ 2147483647) (g4 : (-2147483648) ≤ p4 ∧ p4 ≤ 2147483647) : e_Ok 20 elay ecode eI d 278 (0, [(0, (1, 275)), (1, (0, p1)), (2, (0, p2)), (3, (0, p3)), (4, (0, p4))], [], w) (fun r w' => ∃ z : Int, r = [(0, z)] ∧ ((w = w' ∧ ((¬ ((-8000 ≤ p1 ∧ p1 ≤ 8000) ∧ (-8000 ≤ p2 ∧ p2 ≤ 8000) ∧ (0 ≤ p3 ∧ p3 ≤ 4095) ∧ (0 ≤ p4 ∧ p4 ≤ 800)) ∧ z = -1) ∨ (((-8000 ≤ p1 ∧ p1 ≤ 8000) ∧ (-8000 ≤ p2 ∧ p2 ≤ 8000) ∧ (0 ≤ p3 ∧ p3 ≤ 4095) ∧ (0 ≤ p4 ∧ p4 ≤ 800)) ∧ ((w 275 3 ≠ 0 ∧ z = -2) ∨ (w 275 3 = 0 ∧ w 275 10 = 4 ∧ z = -3))))) ∨ ((((-8000 ≤ p1 ∧ p1 ≤ 8000) ∧ (-8000 ≤ p2 ∧ p2 ≤ 8000) ∧ (0 ≤ p3 ∧ p3 ≤ 4095) ∧ (0 ≤ p4 ∧ p4 ≤ 800)) ∧ w 275 3 = 0 ∧ ¬ (w 275 10 = 4)) ∧ z = w 275 10 ∧ w' = e_up (e_up (e_up (e_up (e_up w 282 (w 275 10) (p1)) 283 (w 275 10) (p2)) 284 (w 275 10) (p3)) 285 (w 275 10) (p4)) 275 (10) (w 275 10 + 1)))) := by
  obtain ⟨d, rfl⟩ : ∃ e, d = e + 1 := ⟨d - 1, by omega⟩
  have hop := e_Has.get hT (c := 275) (k := 3) (lo := 0) (hi := 1) rfl (by decide)
  have hr := e_Has.get hT (c := 275) (k := 10) (lo := 0) (hi := 4) rfl (by decide)
  refine e_Ok.run (t' := (8, [(0, (1, 275)), (1, (0, p1)), (2, (0, p2)), (3, (0, p3)), (4, (0, p4))], [(4, 8000), (4, (-8000)), (4, p1)], w)) 4 rfl ?_
  refine e_Ok.callS rfl (by omega) rfl rfl (c_266) (fun r1 w2 h3 => ?_)
  obtain ⟨z4, rfl, rfl, q5⟩ := h3
  obtain ⟨rfl, q5⟩ | ⟨rfl, q5⟩ := q5
  · show e_Ok 20 elay ecode eI (d + 1) 278 (11, [(0, (1, 275)), (1, (0, p1)), (2, (0, p2)), (3, (0, p3)), (4, (0, p4))], [(0, 1)], w) _
    refine e_Ok.if1 rfl (fun h6 => ?_) (fun h6 => ?_)
    · replace h6 : (1 : Int) = 0 := h6
      exfalso; omega
    · replace h6 : (1 : Int) ≠ 0 := by have q : ¬ ((1 : Int) = 0) := h6; omega
      refine e_Ok.run (t' := (22, [(0, (1, 275)), (1, (0, p1)), (2, (0, p2)), (3, (0, p3)), (4, (0, p4))], [(4, 8000), (4, (-8000)), (4, p2)], w)) 4 rfl ?_
      refine e_Ok.callS rfl (by omega) rfl rfl (c_266) (fun r7 w8 h9 => ?_)
      obtain ⟨z10, rfl, rfl, q11⟩ := h9
      obtain ⟨rfl, q11⟩ | ⟨rfl, q11⟩ := q11
      · show e_Ok 20 elay ecode eI (d + 1) 278 (25, [(0, (1, 275)), (1, (0, p1)), (2, (0, p2)), (3, (0, p3)), (4, (0, p4))], [(0, 1)], w) _
        refine e_Ok.if1 rfl (fun h12 => ?_) (fun h12 => ?_)
        · replace h12 : (1 : Int) = 0 := h12
          exfalso; omega
        · replace h12 : (1 : Int) ≠ 0 := by have q : ¬ ((1 : Int) = 0) := h12; omega
          refine e_Ok.run (t' := (34, [(0, (1, 275)), (1, (0, p1)), (2, (0, p2)), (3, (0, p3)), (4, (0, p4))], [(4, 4095), (4, 0), (4, p3)], w)) 4 rfl ?_
          refine e_Ok.callS rfl (by omega) rfl rfl (c_266) (fun r13 w14 h15 => ?_)
          obtain ⟨z16, rfl, rfl, q17⟩ := h15
          obtain ⟨rfl, q17⟩ | ⟨rfl, q17⟩ := q17
          · show e_Ok 20 elay ecode eI (d + 1) 278 (37, [(0, (1, 275)), (1, (0, p1)), (2, (0, p2)), (3, (0, p3)), (4, (0, p4))], [(0, 1)], w) _
            refine e_Ok.if1 rfl (fun h18 => ?_) (fun h18 => ?_)
            · replace h18 : (1 : Int) = 0 := h18
              exfalso; omega
            · replace h18 : (1 : Int) ≠ 0 := by have q : ¬ ((1 : Int) = 0) := h18; omega
              refine e_Ok.run (t' := (47, [(0, (1, 275)), (1, (0, p1)), (2, (0, p2)), (3, (0, p3)), (4, (0, p4))], [(4, 800), (4, 0), (4, p4)], w)) 4 rfl ?_
              refine e_Ok.callS rfl (by omega) rfl rfl (c_266) (fun r19 w20 h21 => ?_)
              obtain ⟨z22, rfl, rfl, q23⟩ := h21
              obtain ⟨rfl, q23⟩ | ⟨rfl, q23⟩ := q23
              · show e_Ok 20 elay ecode eI (d + 1) 278 (50, [(0, (1, 275)), (1, (0, p1)), (2, (0, p2)), (3, (0, p3)), (4, (0, p4))], [(0, 1)], w) _
                refine e_Ok.if1 rfl (fun h24 => ?_) (fun h24 => ?_)
                · replace h24 : (1 : Int) ≠ 0 := h24
                  refine e_Ok.run (t' := (56, [(0, (1, 275)), (1, (0, p1)), (2, (0, p2)), (3, (0, p3)), (4, (0, p4))], [(1, 275)], w)) 1 rfl ?_
                  refine e_Ok.getf (z := w 275 3) rfl rfl rfl rfl rfl (by omega) ?_
                  refine e_Ok.if1 rfl (fun h25 => ?_) (fun h25 => ?_)
                  · replace h25 : (w 275 3 : Int) = 0 := h25
                    refine e_Ok.run (t' := (66, [(0, (1, 275)), (1, (0, p1)), (2, (0, p2)), (3, (0, p3)), (4, (0, p4))], [(1, 275)], w)) 1 rfl ?_
                    refine e_Ok.getf (z := w 275 10) rfl rfl rfl rfl rfl (by omega) ?_
                    refine e_Ok.run (t' := (70, [(0, (1, 275)), (1, (0, p1)), (2, (0, p2)), (3, (0, p3)), (4, (0, p4))], [(0, 4), (0, w 275 10)], w)) 1 rfl ?_
                    refine e_Ok.if2 rfl (fun h26 => ?_) (fun h26 => ?_)
                    · replace h26 : (w 275 10 : Int) ≠ 4 := h26
                      refine e_Ok.run (t' := (77, [(0, (1, 275)), (1, (0, p1)), (2, (0, p2)), (3, (0, p3)), (4, (0, p4))], [(1, 275)], w)) 1 rfl ?_
                      refine e_Ok.getr (z := 282) rfl rfl rfl rfl (e_Has.eq hT rfl) (by omega) ?_
                      refine e_Ok.run (t' := (81, [(0, (1, 275)), (1, (0, p1)), (2, (0, p2)), (3, (0, p3)), (4, (0, p4))], [(1, 275), (1, 282)], w)) 1 rfl ?_
                      refine e_Ok.getf (z := w 275 10) rfl rfl rfl rfl rfl (by omega) ?_
                      refine e_Ok.run (t' := (85, [(0, (1, 275)), (1, (0, p1)), (2, (0, p2)), (3, (0, p3)), (4, (0, p4))], [(0, p1), (0, w 275 10), (1, 282)], w)) 1 rfl ?_
                      refine e_Ok.ast rfl rfl rfl rfl (by omega) ?_
                      generalize hw27 : e_up w 282 (w 275 10) p1 = w27
                      refine e_Ok.run (t' := (87, [(0, (1, 275)), (1, (0, p1)), (2, (0, p2)), (3, (0, p3)), (4, (0, p4))], [(1, 275)], w27)) 1 rfl ?_
                      refine e_Ok.getr (z := 283) rfl rfl rfl rfl (by rw [← hw27]; exact (e_up_ne _ _ (Or.inl (by omega))).trans (e_Has.eq hT rfl)) (by omega) ?_
                      refine e_Ok.run (t' := (91, [(0, (1, 275)), (1, (0, p1)), (2, (0, p2)), (3, (0, p3)), (4, (0, p4))], [(1, 275), (1, 283)], w27)) 1 rfl ?_
                      refine e_Ok.getf (z := w 275 10) rfl rfl rfl rfl (by rw [← hw27]; exact (e_up_ne _ _ (Or.inl (by omega))).trans rfl) (by omega) ?_
                      refine e_Ok.run (t' := (95, [(0, (1, 275)), (1, (0, p1)), (2, (0, p2)), (3, (0, p3)), (4, (0, p4))], [(0, p2), (0, w 275 10), (1, 283)], w27)) 1 rfl ?_
                      refine e_Ok.ast rfl rfl rfl rfl (by omega) ?_
                      generalize hw28 : e_up w27 283 (w 275 10) p2 = w28
                      refine e_Ok.run (t' := (97, [(0, (1, 275)), (1, (0, p1)), (2, (0, p2)), (3, (0, p3)), (4, (0, p4))], [(1, 275)], w28)) 1 rfl ?_
                      refine e_Ok.getr (z := 284) rfl rfl rfl rfl (by rw [← hw28]; exact (e_up_ne _ _ (Or.inl (by omega))).trans (by rw [← hw27]; exact (e_up_ne _ _ (Or.inl (by omega))).trans (e_Has.eq hT rfl))) (by omega) ?_
                      refine e_Ok.run (t' := (101, [(0, (1, 275)), (1, (0, p1)), (2, (0, p2)), (3, (0, p3)), (4, (0, p4))], [(1, 275), (1, 284)], w28)) 1 rfl ?_
                      refine e_Ok.getf (z := w 275 10) rfl rfl rfl rfl (by rw [← hw28]; exact (e_up_ne _ _ (Or.inl (by omega))).trans (by rw [← hw27]; exact (e_up_ne _ _ (Or.inl (by omega))).trans rfl)) (by omega) ?_
                      refine e_Ok.run (t' := (105, [(0, (1, 275)), (1, (0, p1)), (2, (0, p2)), (3, (0, p3)), (4, (0, p4))], [(0, p3), (0, w 275 10), (1, 284)], w28)) 1 rfl ?_
                      refine e_Ok.ast rfl rfl rfl rfl (by omega) ?_
                      generalize hw29 : e_up w28 284 (w 275 10) p3 = w29
                      refine e_Ok.run (t' := (107, [(0, (1, 275)), (1, (0, p1)), (2, (0, p2)), (3, (0, p3)), (4, (0, p4))], [(1, 275)], w29)) 1 rfl ?_
                      refine e_Ok.getr (z := 285) rfl rfl rfl rfl (by rw [← hw29]; exact (e_up_ne _ _ (Or.inl (by omega))).trans (by rw [← hw28]; exact (e_up_ne _ _ (Or.inl (by omega))).trans (by rw [← hw27]; exact (e_up_ne _ _ (Or.inl (by omega))).trans (e_Has.eq hT rfl)))) (by omega) ?_
                      refine e_Ok.run (t' := (111, [(0, (1, 275)), (1, (0, p1)), (2, (0, p2)), (3, (0, p3)), (4, (0, p4))], [(1, 275), (1, 285)], w29)) 1 rfl ?_
                      refine e_Ok.getf (z := w 275 10) rfl rfl rfl rfl (by rw [← hw29]; exact (e_up_ne _ _ (Or.inl (by omega))).trans (by rw [← hw28]; exact (e_up_ne _ _ (Or.inl (by omega))).trans (by rw [← hw27]; exact (e_up_ne _ _ (Or.inl (by omega))).trans rfl))) (by omega) ?_
                      refine e_Ok.run (t' := (116, [(0, (1, 275)), (1, (0, p1)), (2, (0, p2)), (3, (0, p3)), (4, (0, p4))], [(0, p4), (0, w 275 10), (1, 285)], w29)) 1 rfl ?_
                      refine e_Ok.ast rfl rfl rfl rfl (by omega) ?_
                      generalize hw30 : e_up w29 285 (w 275 10) p4 = w30
                      refine e_Ok.run (t' := (119, [(0, (1, 275)), (1, (0, p1)), (2, (0, p2)), (3, (0, p3)), (4, (0, p4))], [(1, 275), (1, 275)], w30)) 2 rfl ?_
                      refine e_Ok.getf (z := w 275 10) rfl rfl rfl rfl (by rw [← hw30]; exact (e_up_ne _ _ (Or.inl (by omega))).trans (by rw [← hw29]; exact (e_up_ne _ _ (Or.inl (by omega))).trans (by rw [← hw28]; exact (e_up_ne _ _ (Or.inl (by omega))).trans (by rw [← hw27]; exact (e_up_ne _ _ (Or.inl (by omega))).trans rfl)))) (by omega) ?_
                      refine e_Ok.run (t' := (123, [(0, (1, 275)), (1, (0, p1)), (2, (0, p2)), (3, (0, p3)), (4, (0, p4))], [(0, 1), (0, w 275 10), (1, 275)], w30)) 1 rfl ?_
                      refine e_Ok.add (z := w 275 10 + 1) rfl (by omega) (by omega) ?_
                      refine e_Ok.putf rfl rfl rfl rfl ?_
                      generalize hw31 : e_up w30 275 10 (w 275 10 + 1) = w31
                      refine e_Ok.run (t' := (128, [(0, (1, 275)), (1, (0, p1)), (2, (0, p2)), (3, (0, p3)), (4, (0, p4))], [(1, 275)], w31)) 1 rfl ?_
                      refine e_Ok.getf (z := w 275 10 + 1) rfl rfl rfl rfl (by rw [← hw31]; exact e_up_eq _ _ _ _) (by omega) ?_
                      refine e_Ok.run (t' := (132, [(0, (1, 275)), (1, (0, p1)), (2, (0, p2)), (3, (0, p3)), (4, (0, p4))], [(0, 1), (0, w 275 10 + 1)], w31)) 1 rfl ?_
                      refine e_Ok.sub' (z := w 275 10) rfl (by omega) (by omega) ?_
                      refine e_Ok.rets rfl rfl ?_
                      exact ⟨_, rfl, Or.inr ⟨by omega, by omega, by rw [← hw31, ← hw30, ← hw29, ← hw28, ← hw27]⟩⟩
                    · replace h26 : (w 275 10 : Int) = 4 := by have q : ¬ ((w 275 10 : Int) ≠ 4) := h26; omega
                      refine e_Ok.run (t' := (75, [(0, (1, 275)), (1, (0, p1)), (2, (0, p2)), (3, (0, p3)), (4, (0, p4))], [(0, (-3))], w)) 1 rfl ?_
                      refine e_Ok.rets rfl rfl ?_
                      exact ⟨_, rfl, Or.inl ⟨rfl, by omega⟩⟩
                  · replace h25 : (w 275 3 : Int) ≠ 0 := by have q : ¬ ((w 275 3 : Int) = 0) := h25; omega
                    refine e_Ok.run (t' := (64, [(0, (1, 275)), (1, (0, p1)), (2, (0, p2)), (3, (0, p3)), (4, (0, p4))], [(0, (-2))], w)) 1 rfl ?_
                    refine e_Ok.rets rfl rfl ?_
                    exact ⟨_, rfl, Or.inl ⟨rfl, by omega⟩⟩
                · replace h24 : (1 : Int) = 0 := by have q : ¬ ((1 : Int) ≠ 0) := h24; omega
                  exfalso; omega
              · show e_Ok 20 elay ecode eI (d + 1) 278 (50, [(0, (1, 275)), (1, (0, p1)), (2, (0, p2)), (3, (0, p3)), (4, (0, p4))], [(0, 0)], w) _
                refine e_Ok.if1 rfl (fun h32 => ?_) (fun h32 => ?_)
                · replace h32 : (0 : Int) ≠ 0 := h32
                  exfalso; omega
                · replace h32 : (0 : Int) = 0 := by have q : ¬ ((0 : Int) ≠ 0) := h32; omega
                  refine e_Ok.run (t' := (54, [(0, (1, 275)), (1, (0, p1)), (2, (0, p2)), (3, (0, p3)), (4, (0, p4))], [(0, (-1))], w)) 1 rfl ?_
                  refine e_Ok.rets rfl rfl ?_
                  exact ⟨_, rfl, Or.inl ⟨rfl, by omega⟩⟩
          · show e_Ok 20 elay ecode eI (d + 1) 278 (37, [(0, (1, 275)), (1, (0, p1)), (2, (0, p2)), (3, (0, p3)), (4, (0, p4))], [(0, 0)], w) _
            refine e_Ok.if1 rfl (fun h33 => ?_) (fun h33 => ?_)
            · replace h33 : (0 : Int) = 0 := h33
              refine e_Ok.run (t' := (54, [(0, (1, 275)), (1, (0, p1)), (2, (0, p2)), (3, (0, p3)), (4, (0, p4))], [(0, (-1))], w)) 1 rfl ?_
              refine e_Ok.rets rfl rfl ?_
              exact ⟨_, rfl, Or.inl ⟨rfl, by omega⟩⟩
            · replace h33 : (0 : Int) ≠ 0 := by have q : ¬ ((0 : Int) = 0) := h33; omega
              exfalso; omega
      · show e_Ok 20 elay ecode eI (d + 1) 278 (25, [(0, (1, 275)), (1, (0, p1)), (2, (0, p2)), (3, (0, p3)), (4, (0, p4))], [(0, 0)], w) _
        refine e_Ok.if1 rfl (fun h34 => ?_) (fun h34 => ?_)
        · replace h34 : (0 : Int) = 0 := h34
          refine e_Ok.run (t' := (54, [(0, (1, 275)), (1, (0, p1)), (2, (0, p2)), (3, (0, p3)), (4, (0, p4))], [(0, (-1))], w)) 1 rfl ?_
          refine e_Ok.rets rfl rfl ?_
          exact ⟨_, rfl, Or.inl ⟨rfl, by omega⟩⟩
        · replace h34 : (0 : Int) ≠ 0 := by have q : ¬ ((0 : Int) = 0) := h34; omega
          exfalso; omega
  · show e_Ok 20 elay ecode eI (d + 1) 278 (11, [(0, (1, 275)), (1, (0, p1)), (2, (0, p2)), (3, (0, p3)), (4, (0, p4))], [(0, 0)], w) _
    refine e_Ok.if1 rfl (fun h35 => ?_) (fun h35 => ?_)
    · replace h35 : (0 : Int) = 0 := h35
      refine e_Ok.run (t' := (54, [(0, (1, 275)), (1, (0, p1)), (2, (0, p2)), (3, (0, p3)), (4, (0, p4))], [(0, (-1))], w)) 1 rfl ?_
      refine e_Ok.rets rfl rfl ?_
      exact ⟨_, rfl, Or.inl ⟨rfl, by omega⟩⟩
    · replace h35 : (0 : Int) ≠ 0 := by have q : ¬ ((0 : Int) = 0) := h35; omega
      exfalso; omega
theorem c_280_ex {d : Nat} (hd : 24 ≤ d) {w : eW} (hT : e_Has mTy w) {p1 p2 p3 : Int} (g1 : (-2147483648) ≤ p1 ∧ p1 ≤ 2147483647) (g2 : (-2147483648) ≤ p2 ∧ p2 ≤ 2147483647) (g3 : (-2147483648) ≤ p3 ∧ p3 ≤ 2147483647) : e_Ok 20 elay ecode eI d 280 (0, [(0, (1, 275)), (1, (0, p1)), (2, (0, p2)), (3, (0, p3))], [], w) (fun r w' => ∃ z : Int, r = [(0, z)] ∧ ((w = w' ∧ ((¬ ((0 ≤ p1 ∧ p1 < w 275 10) ∧ (0 ≤ p2 ∧ p2 < w 286 p1) ∧ (0 ≤ p3 ∧ p3 ≤ 800)) ∧ z = -1) ∨ (((0 ≤ p1 ∧ p1 < w 275 10) ∧ (0 ≤ p2 ∧ p2 < w 286 p1) ∧ (0 ≤ p3 ∧ p3 ≤ 800)) ∧ w 275 3 ≠ 0 ∧ z = -2))) ∨ ((((0 ≤ p1 ∧ p1 < w 275 10) ∧ (0 ≤ p2 ∧ p2 < w 286 p1) ∧ (0 ≤ p3 ∧ p3 ≤ 800)) ∧ w 275 3 = 0) ∧ z = w 293 (6 * p1 + p2) ∧ w' = e_up w 293 (6 * p1 + p2) (p3)))) := by
  obtain ⟨d, rfl⟩ : ∃ e, d = e + 1 := ⟨d - 1, by omega⟩
  have hop := e_Has.get hT (c := 275) (k := 3) (lo := 0) (hi := 1) rfl (by decide)
  refine e_Ok.run (t' := (3, [(0, (1, 275)), (1, (0, p1)), (2, (0, p2)), (3, (0, p3))], [(0, p2), (0, p1), (1, 275)], w)) 3 rfl ?_
  refine e_Ok.callV rfl (by omega) rfl rfl rfl rfl (c_271_ex (by omega) hT) (fun r1 w2 h3 => ?_)
  obtain ⟨z4, rfl, rfl, q5⟩ := h3
  have h6 := e_Has.get hT (c := 275) (k := 10) (lo := 0) (hi := 4) rfl (by decide)
  have h7 := e_Has.get hT (c := 286) (k := p1) (lo := 0) (hi := 6) rfl (by decide)
  obtain ⟨rfl, q5⟩ | ⟨rfl, q5⟩ := q5
  · show e_Ok 20 elay ecode eI (d + 1) 280 (6, [(0, (1, 275)), (1, (0, p1)), (2, (0, p2)), (3, (0, p3))], [(0, 1)], w) _
    refine e_Ok.if1 rfl (fun h8 => ?_) (fun h8 => ?_)
    · replace h8 : (1 : Int) = 0 := h8
      exfalso; omega
    · replace h8 : (1 : Int) ≠ 0 := by have q : ¬ ((1 : Int) = 0) := h8; omega
      refine e_Ok.run (t' := (15, [(0, (1, 275)), (1, (0, p1)), (2, (0, p2)), (3, (0, p3))], [(4, 800), (4, 0), (4, p3)], w)) 4 rfl ?_
      refine e_Ok.callS rfl (by omega) rfl rfl (c_266) (fun r9 w10 h11 => ?_)
      obtain ⟨z12, rfl, rfl, q13⟩ := h11
      obtain ⟨rfl, q13⟩ | ⟨rfl, q13⟩ := q13
      · show e_Ok 20 elay ecode eI (d + 1) 280 (18, [(0, (1, 275)), (1, (0, p1)), (2, (0, p2)), (3, (0, p3))], [(0, 1)], w) _
        refine e_Ok.if1 rfl (fun h14 => ?_) (fun h14 => ?_)
        · replace h14 : (1 : Int) ≠ 0 := h14
          refine e_Ok.run (t' := (24, [(0, (1, 275)), (1, (0, p1)), (2, (0, p2)), (3, (0, p3))], [(1, 275)], w)) 1 rfl ?_
          refine e_Ok.getf (z := w 275 3) rfl rfl rfl rfl rfl (by omega) ?_
          refine e_Ok.if1 rfl (fun h15 => ?_) (fun h15 => ?_)
          · replace h15 : (w 275 3 : Int) = 0 := h15
            refine e_Ok.run (t' := (34, [(0, (1, 275)), (1, (0, p1)), (2, (0, p2)), (3, (0, p3))], [(1, 275)], w)) 1 rfl ?_
            refine e_Ok.getr (z := 293) rfl rfl rfl rfl (e_Has.eq hT rfl) (by omega) ?_
            refine e_Ok.run (t' := (40, [(0, (1, 275)), (1, (0, p1)), (2, (0, p2)), (3, (0, p3))], [(0, p1), (0, 6), (1, 293)], w)) 2 rfl ?_
            refine e_Ok.mul (z := 6 * p1) rfl (by omega) (by omega) ?_
            refine e_Ok.run (t' := (42, [(0, (1, 275)), (1, (0, p1)), (2, (0, p2)), (3, (0, p3))], [(0, p2), (0, 6 * p1), (1, 293)], w)) 1 rfl ?_
            refine e_Ok.add (z := 6 * p1 + p2) rfl (by omega) (by omega) ?_
            have h16 := (e_Has.get hT (c := 293) (k := 6 * p1 + p2) (lo := 0) (hi := 800) rfl (by decide))
            refine e_Ok.ald (z := w 293 (6 * p1 + p2)) rfl rfl rfl (by omega) rfl (by omega) ?_
            refine e_Ok.run (t' := (47, [(4, (0, w 293 (6 * p1 + p2))), (0, (1, 275)), (1, (0, p1)), (2, (0, p2)), (3, (0, p3))], [(1, 275)], w)) 2 rfl ?_
            refine e_Ok.getr (z := 293) rfl rfl rfl rfl (e_Has.eq hT rfl) (by omega) ?_
            refine e_Ok.run (t' := (53, [(4, (0, w 293 (6 * p1 + p2))), (0, (1, 275)), (1, (0, p1)), (2, (0, p2)), (3, (0, p3))], [(0, p1), (0, 6), (1, 293)], w)) 2 rfl ?_
            refine e_Ok.mul (z := 6 * p1) rfl (by omega) (by omega) ?_
            refine e_Ok.run (t' := (55, [(4, (0, w 293 (6 * p1 + p2))), (0, (1, 275)), (1, (0, p1)), (2, (0, p2)), (3, (0, p3))], [(0, p2), (0, 6 * p1), (1, 293)], w)) 1 rfl ?_
            refine e_Ok.add (z := 6 * p1 + p2) rfl (by omega) (by omega) ?_
            refine e_Ok.run (t' := (57, [(4, (0, w 293 (6 * p1 + p2))), (0, (1, 275)), (1, (0, p1)), (2, (0, p2)), (3, (0, p3))], [(0, p3), (0, 6 * p1 + p2), (1, 293)], w)) 1 rfl ?_
            refine e_Ok.ast rfl rfl rfl rfl (by omega) ?_
            generalize hw17 : e_up w 293 (6 * p1 + p2) p3 = w17
            refine e_Ok.run (t' := (60, [(4, (0, w 293 (6 * p1 + p2))), (0, (1, 275)), (1, (0, p1)), (2, (0, p2)), (3, (0, p3))], [(0, w 293 (6 * p1 + p2))], w17)) 1 rfl ?_
            refine e_Ok.rets rfl rfl ?_
            exact ⟨_, rfl, Or.inr ⟨by omega, by omega, by rw [← hw17]⟩⟩
          · replace h15 : (w 275 3 : Int) ≠ 0 := by have q : ¬ ((w 275 3 : Int) = 0) := h15; omega
            refine e_Ok.run (t' := (32, [(0, (1, 275)), (1, (0, p1)), (2, (0, p2)), (3, (0, p3))], [(0, (-2))], w)) 1 rfl ?_
            refine e_Ok.rets rfl rfl ?_
            exact ⟨_, rfl, Or.inl ⟨rfl, by omega⟩⟩
        · replace h14 : (1 : Int) = 0 := by have q : ¬ ((1 : Int) ≠ 0) := h14; omega
          exfalso; omega
      · show e_Ok 20 elay ecode eI (d + 1) 280 (18, [(0, (1, 275)), (1, (0, p1)), (2, (0, p2)), (3, (0, p3))], [(0, 0)], w) _
        refine e_Ok.if1 rfl (fun h18 => ?_) (fun h18 => ?_)
        · replace h18 : (0 : Int) ≠ 0 := h18
          exfalso; omega
        · replace h18 : (0 : Int) = 0 := by have q : ¬ ((0 : Int) ≠ 0) := h18; omega
          refine e_Ok.run (t' := (22, [(0, (1, 275)), (1, (0, p1)), (2, (0, p2)), (3, (0, p3))], [(0, (-1))], w)) 1 rfl ?_
          refine e_Ok.rets rfl rfl ?_
          exact ⟨_, rfl, Or.inl ⟨rfl, by omega⟩⟩
  · show e_Ok 20 elay ecode eI (d + 1) 280 (6, [(0, (1, 275)), (1, (0, p1)), (2, (0, p2)), (3, (0, p3))], [(0, 0)], w) _
    refine e_Ok.if1 rfl (fun h19 => ?_) (fun h19 => ?_)
    · replace h19 : (0 : Int) = 0 := h19
      refine e_Ok.run (t' := (22, [(0, (1, 275)), (1, (0, p1)), (2, (0, p2)), (3, (0, p3))], [(0, (-1))], w)) 1 rfl ?_
      refine e_Ok.rets rfl rfl ?_
      exact ⟨_, rfl, Or.inl ⟨rfl, by omega⟩⟩
    · replace h19 : (0 : Int) ≠ 0 := by have q : ¬ ((0 : Int) = 0) := h19; omega
      exfalso; omega
theorem c_281_ex {d : Nat} (hd : 24 ≤ d) {w : eW} (hT : e_Has mTy w) {p1 p2 p3 p4 : Int} (g1 : (-2147483648) ≤ p1 ∧ p1 ≤ 2147483647) (g2 : (-2147483648) ≤ p2 ∧ p2 ≤ 2147483647) (g3 : (-2147483648) ≤ p3 ∧ p3 ≤ 2147483647) (g4 : (-2147483648) ≤ p4 ∧ p4 ≤ 2147483647) : e_Ok 20 elay ecode eI d 281 (0, [(0, (1, 275)), (1, (0, p1)), (2, (0, p2)), (3, (0, p3)), (4, (0, p4))], [], w) (fun r w' => ∃ z : Int, r = [(0, z)] ∧ ((w = w' ∧ ((¬ ((0 ≤ p1 ∧ p1 < w 275 10) ∧ (0 ≤ p2 ∧ p2 < w 286 p1) ∧ (1 ≤ p3 ∧ p3 ≤ 2000) ∧ (1 ≤ p4 ∧ p4 ≤ 2000)) ∧ z = -1) ∨ (((0 ≤ p1 ∧ p1 < w 275 10) ∧ (0 ≤ p2 ∧ p2 < w 286 p1) ∧ (1 ≤ p3 ∧ p3 ≤ 2000) ∧ (1 ≤ p4 ∧ p4 ≤ 2000)) ∧ w 275 3 ≠ 0 ∧ z = -2))) ∨ ((((0 ≤ p1 ∧ p1 < w 275 10) ∧ (0 ≤ p2 ∧ p2 < w 286 p1) ∧ (1 ≤ p3 ∧ p3 ≤ 2000) ∧ (1 ≤ p4 ∧ p4 ≤ 2000)) ∧ w 275 3 = 0) ∧ z = 0 ∧ w' = e_up (e_up w 290 (6 * p1 + p2) (p3)) 291 (6 * p1 + p2) (p4)))) := by
  obtain ⟨d, rfl⟩ : ∃ e, d = e + 1 := ⟨d - 1, by omega⟩
  have hop := e_Has.get hT (c := 275) (k := 3) (lo := 0) (hi := 1) rfl (by decide)
  refine e_Ok.run (t' := (3, [(0, (1, 275)), (1, (0, p1)), (2, (0, p2)), (3, (0, p3)), (4, (0, p4))], [(0, p2), (0, p1), (1, 275)], w)) 3 rfl ?_
  refine e_Ok.callV rfl (by omega) rfl rfl rfl rfl (c_271_ex (by omega) hT) (fun r1 w2 h3 => ?_)
  obtain ⟨z4, rfl, rfl, q5⟩ := h3
  have h6 := e_Has.get hT (c := 275) (k := 10) (lo := 0) (hi := 4) rfl (by decide)
  have h7 := e_Has.get hT (c := 286) (k := p1) (lo := 0) (hi := 6) rfl (by decide)
  obtain ⟨rfl, q5⟩ | ⟨rfl, q5⟩ := q5
  · show e_Ok 20 elay ecode eI (d + 1) 281 (6, [(0, (1, 275)), (1, (0, p1)), (2, (0, p2)), (3, (0, p3)), (4, (0, p4))], [(0, 1)], w) _
    refine e_Ok.if1 rfl (fun h8 => ?_) (fun h8 => ?_)
    · replace h8 : (1 : Int) = 0 := h8
      exfalso; omega
    · replace h8 : (1 : Int) ≠ 0 := by have q : ¬ ((1 : Int) = 0) := h8; omega
      refine e_Ok.run (t' := (15, [(0, (1, 275)), (1, (0, p1)), (2, (0, p2)), (3, (0, p3)), (4, (0, p4))], [(4, 2000), (4, 1), (4, p3)], w)) 4 rfl ?_
      refine e_Ok.callS rfl (by omega) rfl rfl (c_266) (fun r9 w10 h11 => ?_)
      obtain ⟨z12, rfl, rfl, q13⟩ := h11
      obtain ⟨rfl, q13⟩ | ⟨rfl, q13⟩ := q13
      · show e_Ok 20 elay ecode eI (d + 1) 281 (18, [(0, (1, 275)), (1, (0, p1)), (2, (0, p2)), (3, (0, p3)), (4, (0, p4))], [(0, 1)], w) _
        refine e_Ok.if1 rfl (fun h14 => ?_) (fun h14 => ?_)
        · replace h14 : (1 : Int) = 0 := h14
          exfalso; omega
        · replace h14 : (1 : Int) ≠ 0 := by have q : ¬ ((1 : Int) = 0) := h14; omega
          refine e_Ok.run (t' := (28, [(0, (1, 275)), (1, (0, p1)), (2, (0, p2)), (3, (0, p3)), (4, (0, p4))], [(4, 2000), (4, 1), (4, p4)], w)) 4 rfl ?_
          refine e_Ok.callS rfl (by omega) rfl rfl (c_266) (fun r15 w16 h17 => ?_)
          obtain ⟨z18, rfl, rfl, q19⟩ := h17
          obtain ⟨rfl, q19⟩ | ⟨rfl, q19⟩ := q19
          · show e_Ok 20 elay ecode eI (d + 1) 281 (31, [(0, (1, 275)), (1, (0, p1)), (2, (0, p2)), (3, (0, p3)), (4, (0, p4))], [(0, 1)], w) _
            refine e_Ok.if1 rfl (fun h20 => ?_) (fun h20 => ?_)
            · replace h20 : (1 : Int) ≠ 0 := h20
              refine e_Ok.run (t' := (37, [(0, (1, 275)), (1, (0, p1)), (2, (0, p2)), (3, (0, p3)), (4, (0, p4))], [(1, 275)], w)) 1 rfl ?_
              refine e_Ok.getf (z := w 275 3) rfl rfl rfl rfl rfl (by omega) ?_
              refine e_Ok.if1 rfl (fun h21 => ?_) (fun h21 => ?_)
              · replace h21 : (w 275 3 : Int) = 0 := h21
                refine e_Ok.run (t' := (47, [(0, (1, 275)), (1, (0, p1)), (2, (0, p2)), (3, (0, p3)), (4, (0, p4))], [(1, 275)], w)) 1 rfl ?_
                refine e_Ok.getr (z := 290) rfl rfl rfl rfl (e_Has.eq hT rfl) (by omega) ?_
                refine e_Ok.run (t' := (53, [(0, (1, 275)), (1, (0, p1)), (2, (0, p2)), (3, (0, p3)), (4, (0, p4))], [(0, p1), (0, 6), (1, 290)], w)) 2 rfl ?_
                refine e_Ok.mul (z := 6 * p1) rfl (by omega) (by omega) ?_
                refine e_Ok.run (t' := (55, [(0, (1, 275)), (1, (0, p1)), (2, (0, p2)), (3, (0, p3)), (4, (0, p4))], [(0, p2), (0, 6 * p1), (1, 290)], w)) 1 rfl ?_
                refine e_Ok.add (z := 6 * p1 + p2) rfl (by omega) (by omega) ?_
                refine e_Ok.run (t' := (57, [(0, (1, 275)), (1, (0, p1)), (2, (0, p2)), (3, (0, p3)), (4, (0, p4))], [(0, p3), (0, 6 * p1 + p2), (1, 290)], w)) 1 rfl ?_
                refine e_Ok.ast rfl rfl rfl rfl (by omega) ?_
                generalize hw22 : e_up w 290 (6 * p1 + p2) p3 = w22
                refine e_Ok.run (t' := (59, [(0, (1, 275)), (1, (0, p1)), (2, (0, p2)), (3, (0, p3)), (4, (0, p4))], [(1, 275)], w22)) 1 rfl ?_
                refine e_Ok.getr (z := 291) rfl rfl rfl rfl (by rw [← hw22]; exact (e_up_ne _ _ (Or.inl (by omega))).trans (e_Has.eq hT rfl)) (by omega) ?_
                refine e_Ok.run (t' := (65, [(0, (1, 275)), (1, (0, p1)), (2, (0, p2)), (3, (0, p3)), (4, (0, p4))], [(0, p1), (0, 6), (1, 291)], w22)) 2 rfl ?_
                refine e_Ok.mul (z := 6 * p1) rfl (by omega) (by omega) ?_
                refine e_Ok.run (t' := (67, [(0, (1, 275)), (1, (0, p1)), (2, (0, p2)), (3, (0, p3)), (4, (0, p4))], [(0, p2), (0, 6 * p1), (1, 291)], w22)) 1 rfl ?_
                refine e_Ok.add (z := 6 * p1 + p2) rfl (by omega) (by omega) ?_
                refine e_Ok.run (t' := (70, [(0, (1, 275)), (1, (0, p1)), (2, (0, p2)), (3, (0, p3)), (4, (0, p4))], [(0, p4), (0, 6 * p1 + p2), (1, 291)], w22)) 1 rfl ?_
                refine e_Ok.ast rfl rfl rfl rfl (by omega) ?_
                generalize hw23 : e_up w22 291 (6 * p1 + p2) p4 = w23
                refine e_Ok.run (t' := (72, [(0, (1, 275)), (1, (0, p1)), (2, (0, p2)), (3, (0, p3)), (4, (0, p4))], [(0, 0)], w23)) 1 rfl ?_
                refine e_Ok.rets rfl rfl ?_
                exact ⟨_, rfl, Or.inr ⟨by omega, by omega, by rw [← hw23, ← hw22]⟩⟩
              · replace h21 : (w 275 3 : Int) ≠ 0 := by have q : ¬ ((w 275 3 : Int) = 0) := h21; omega
                refine e_Ok.run (t' := (45, [(0, (1, 275)), (1, (0, p1)), (2, (0, p2)), (3, (0, p3)), (4, (0, p4))], [(0, (-2))], w)) 1 rfl ?_
                refine e_Ok.rets rfl rfl ?_
                exact ⟨_, rfl, Or.inl ⟨rfl, by omega⟩⟩
            · replace h20 : (1 : Int) = 0 := by have q : ¬ ((1 : Int) ≠ 0) := h20; omega
              exfalso; omega
          · show e_Ok 20 elay ecode eI (d + 1) 281 (31, [(0, (1, 275)), (1, (0, p1)), (2, (0, p2)), (3, (0, p3)), (4, (0, p4))], [(0, 0)], w) _
            refine e_Ok.if1 rfl (fun h24 => ?_) (fun h24 => ?_)
            · replace h24 : (0 : Int) ≠ 0 := h24
              exfalso; omega
            · replace h24 : (0 : Int) = 0 := by have q : ¬ ((0 : Int) ≠ 0) := h24; omega
              refine e_Ok.run (t' := (35, [(0, (1, 275)), (1, (0, p1)), (2, (0, p2)), (3, (0, p3)), (4, (0, p4))], [(0, (-1))], w)) 1 rfl ?_
              refine e_Ok.rets rfl rfl ?_
              exact ⟨_, rfl, Or.inl ⟨rfl, by omega⟩⟩
      · show e_Ok 20 elay ecode eI (d + 1) 281 (18, [(0, (1, 275)), (1, (0, p1)), (2, (0, p2)), (3, (0, p3)), (4, (0, p4))], [(0, 0)], w) _
        refine e_Ok.if1 rfl (fun h25 => ?_) (fun h25 => ?_)
        · replace h25 : (0 : Int) = 0 := h25
          refine e_Ok.run (t' := (35, [(0, (1, 275)), (1, (0, p1)), (2, (0, p2)), (3, (0, p3)), (4, (0, p4))], [(0, (-1))], w)) 1 rfl ?_
          refine e_Ok.rets rfl rfl ?_
          exact ⟨_, rfl, Or.inl ⟨rfl, by omega⟩⟩
        · replace h25 : (0 : Int) ≠ 0 := by have q : ¬ ((0 : Int) = 0) := h25; omega
          exfalso; omega
  · show e_Ok 20 elay ecode eI (d + 1) 281 (6, [(0, (1, 275)), (1, (0, p1)), (2, (0, p2)), (3, (0, p3)), (4, (0, p4))], [(0, 0)], w) _
    refine e_Ok.if1 rfl (fun h26 => ?_) (fun h26 => ?_)
    · replace h26 : (0 : Int) = 0 := h26
      refine e_Ok.run (t' := (35, [(0, (1, 275)), (1, (0, p1)), (2, (0, p2)), (3, (0, p3)), (4, (0, p4))], [(0, (-1))], w)) 1 rfl ?_
      refine e_Ok.rets rfl rfl ?_
      exact ⟨_, rfl, Or.inl ⟨rfl, by omega⟩⟩
    · replace h26 : (0 : Int) ≠ 0 := by have q : ¬ ((0 : Int) = 0) := h26; omega
      exfalso; omega
theorem c_287_ex {d : Nat} (hd : 24 ≤ d) {w : eW} (hT : e_Has mTy w) {p1 p2 : Int} (g1 : (-2147483648) ≤ p1 ∧ p1 ≤ 2147483647) (g2 : (-2147483648) ≤ p2 ∧ p2 ≤ 2147483647) : e_Ok 20 elay ecode eI d 287 (0, [(0, (1, 275)), (1, (0, p1)), (2, (0, p2))], [], w) (fun r w' => ∃ z : Int, r = [(0, z)] ∧ ((w = w' ∧ ((¬ ((0 ≤ p1 ∧ p1 < w 275 30) ∧ (0 ≤ p2 ∧ p2 ≤ 100)) ∧ z = -1) ∨ (((0 ≤ p1 ∧ p1 < w 275 30) ∧ (0 ≤ p2 ∧ p2 ≤ 100)) ∧ w 275 3 ≠ 0 ∧ z = -2))) ∨ ((((0 ≤ p1 ∧ p1 < w 275 30) ∧ (0 ≤ p2 ∧ p2 ≤ 100)) ∧ w 275 3 = 0) ∧ z = w 304 p1 ∧ w' = e_up w 304 (p1) (p2)))) := by
  obtain ⟨d, rfl⟩ : ∃ e, d = e + 1 := ⟨d - 1, by omega⟩
  have hop := e_Has.get hT (c := 275) (k := 3) (lo := 0) (hi := 1) rfl (by decide)
  refine e_Ok.run (t' := (4, [(0, (1, 275)), (1, (0, p1)), (2, (0, p2))], [(1, 275), (4, 0), (4, p1)], w)) 4 rfl ?_
  have h1 := (e_Has.get hT (c := 275) (k := 30) (lo := 0) (hi := 4) rfl (by decide))
  refine e_Ok.getf (z := w 275 30) rfl rfl rfl rfl rfl (by omega) ?_
  refine e_Ok.run (t' := (8, [(0, (1, 275)), (1, (0, p1)), (2, (0, p2))], [(0, 1), (0, w 275 30), (4, 0), (4, p1)], w)) 1 rfl ?_
  refine e_Ok.sub' (z := w 275 30 - 1) rfl (by omega) (by omega) ?_
  refine e_Ok.run (t' := (10, [(0, (1, 275)), (1, (0, p1)), (2, (0, p2))], [(4, w 275 30 - 1), (4, 0), (4, p1)], w)) 1 rfl ?_
  refine e_Ok.callS rfl (by omega) rfl rfl (c_266) (fun r2 w3 h4 => ?_)
  obtain ⟨z5, rfl, rfl, q6⟩ := h4
  obtain ⟨rfl, q6⟩ | ⟨rfl, q6⟩ := q6
  · show e_Ok 20 elay ecode eI (d + 1) 287 (13, [(0, (1, 275)), (1, (0, p1)), (2, (0, p2))], [(0, 1)], w) _
    refine e_Ok.if1 rfl (fun h7 => ?_) (fun h7 => ?_)
    · replace h7 : (1 : Int) = 0 := h7
      exfalso; omega
    · replace h7 : (1 : Int) ≠ 0 := by have q : ¬ ((1 : Int) = 0) := h7; omega
      refine e_Ok.run (t' := (22, [(0, (1, 275)), (1, (0, p1)), (2, (0, p2))], [(4, 100), (4, 0), (4, p2)], w)) 4 rfl ?_
      refine e_Ok.callS rfl (by omega) rfl rfl (c_266) (fun r8 w9 h10 => ?_)
      obtain ⟨z11, rfl, rfl, q12⟩ := h10
      obtain ⟨rfl, q12⟩ | ⟨rfl, q12⟩ := q12
      · show e_Ok 20 elay ecode eI (d + 1) 287 (25, [(0, (1, 275)), (1, (0, p1)), (2, (0, p2))], [(0, 1)], w) _
        refine e_Ok.if1 rfl (fun h13 => ?_) (fun h13 => ?_)
        · replace h13 : (1 : Int) ≠ 0 := h13
          refine e_Ok.run (t' := (31, [(0, (1, 275)), (1, (0, p1)), (2, (0, p2))], [(1, 275)], w)) 1 rfl ?_
          refine e_Ok.getf (z := w 275 3) rfl rfl rfl rfl rfl (by omega) ?_
          refine e_Ok.if1 rfl (fun h14 => ?_) (fun h14 => ?_)
          · replace h14 : (w 275 3 : Int) = 0 := h14
            refine e_Ok.run (t' := (41, [(0, (1, 275)), (1, (0, p1)), (2, (0, p2))], [(1, 275)], w)) 1 rfl ?_
            refine e_Ok.getr (z := 304) rfl rfl rfl rfl (e_Has.eq hT rfl) (by omega) ?_
            refine e_Ok.run (t' := (45, [(0, (1, 275)), (1, (0, p1)), (2, (0, p2))], [(0, p1), (1, 304)], w)) 1 rfl ?_
            have h15 := (e_Has.get hT (c := 304) (k := p1) (lo := 0) (hi := 100) rfl (by decide))
            refine e_Ok.ald (z := w 304 p1) rfl rfl rfl (by omega) rfl (by omega) ?_
            refine e_Ok.run (t' := (48, [(3, (0, w 304 p1)), (0, (1, 275)), (1, (0, p1)), (2, (0, p2))], [(1, 275)], w)) 2 rfl ?_
            refine e_Ok.getr (z := 304) rfl rfl rfl rfl (e_Has.eq hT rfl) (by omega) ?_
            refine e_Ok.run (t' := (53, [(3, (0, w 304 p1)), (0, (1, 275)), (1, (0, p1)), (2, (0, p2))], [(0, p2), (0, p1), (1, 304)], w)) 2 rfl ?_
            refine e_Ok.ast rfl rfl rfl rfl (by omega) ?_
            generalize hw16 : e_up w 304 p1 p2 = w16
            refine e_Ok.run (t' := (55, [(3, (0, w 304 p1)), (0, (1, 275)), (1, (0, p1)), (2, (0, p2))], [(0, w 304 p1)], w16)) 1 rfl ?_
            refine e_Ok.rets rfl rfl ?_
            exact ⟨_, rfl, Or.inr ⟨by omega, by omega, by rw [← hw16]⟩⟩
          · replace h14 : (w 275 3 : Int) ≠ 0 := by have q : ¬ ((w 275 3 : Int) = 0) := h14; omega
            refine e_Ok.run (t' := (39, [(0, (1, 275)), (1, (0, p1)), (2, (0, p2))], [(0, (-2))], w)) 1 rfl ?_
            refine e_Ok.rets rfl rfl ?_
            exact ⟨_, rfl, Or.inl ⟨rfl, by omega⟩⟩
        · replace h13 : (1 : Int) = 0 := by have q : ¬ ((1 : Int) ≠ 0) := h13; omega
          exfalso; omega
      · show e_Ok 20 elay ecode eI (d + 1) 287 (25, [(0, (1, 275)), (1, (0, p1)), (2, (0, p2))], [(0, 0)], w) _
        refine e_Ok.if1 rfl (fun h17 => ?_) (fun h17 => ?_)
        · replace h17 : (0 : Int) ≠ 0 := h17
          exfalso; omega
        · replace h17 : (0 : Int) = 0 := by have q : ¬ ((0 : Int) ≠ 0) := h17; omega
          refine e_Ok.run (t' := (29, [(0, (1, 275)), (1, (0, p1)), (2, (0, p2))], [(0, (-1))], w)) 1 rfl ?_
          refine e_Ok.rets rfl rfl ?_
          exact ⟨_, rfl, Or.inl ⟨rfl, by omega⟩⟩
  · show e_Ok 20 elay ecode eI (d + 1) 287 (13, [(0, (1, 275)), (1, (0, p1)), (2, (0, p2))], [(0, 0)], w) _
    refine e_Ok.if1 rfl (fun h18 => ?_) (fun h18 => ?_)
    · replace h18 : (0 : Int) = 0 := h18
      refine e_Ok.run (t' := (29, [(0, (1, 275)), (1, (0, p1)), (2, (0, p2))], [(0, (-1))], w)) 1 rfl ?_
      refine e_Ok.rets rfl rfl ?_
      exact ⟨_, rfl, Or.inl ⟨rfl, by omega⟩⟩
    · replace h18 : (0 : Int) ≠ 0 := by have q : ¬ ((0 : Int) = 0) := h18; omega
      exfalso; omega
theorem c_288_ex {d : Nat} (hd : 24 ≤ d) {w : eW} (hT : e_Has mTy w) {p1 p2 p3 p4 : Int} (g1 : (-2147483648) ≤ p1 ∧ p1 ≤ 2147483647) (g2 : (-2147483648) ≤ p2 ∧ p2 ≤ 2147483647) (g3 : (-2147483648) ≤ p3 ∧ p3 ≤ 2147483647) (g4 : (-2147483648) ≤ p4 ∧ p4 ≤ 2147483647) : e_Ok 20 elay ecode eI d 288 (0, [(0, (1, 275)), (1, (0, p1)), (2, (0, p2)), (3, (0, p3)), (4, (0, p4))], [], w) (fun r w' => ∃ z : Int, r = [(0, z)] ∧ ((w = w' ∧ ((¬ ((0 ≤ p1 ∧ p1 < w 275 30) ∧ (0 ≤ p2 ∧ p2 ≤ 63) ∧ 0 ≤ p3 ∧ p3 ≤ p4) ∧ z = -1) ∨ (((0 ≤ p1 ∧ p1 < w 275 30) ∧ (0 ≤ p2 ∧ p2 ≤ 63) ∧ 0 ≤ p3 ∧ p3 ≤ p4) ∧ w 275 3 ≠ 0 ∧ z = -2))) ∨ ((((0 ≤ p1 ∧ p1 < w 275 30) ∧ (0 ≤ p2 ∧ p2 ≤ 63) ∧ 0 ≤ p3 ∧ p3 ≤ p4) ∧ w 275 3 = 0) ∧ z = 0 ∧ w' = e_up (e_up (e_up w 306 (p1) (p2)) 307 (p1) (p3)) 308 (p1) (p4)))) := by
  obtain ⟨d, rfl⟩ : ∃ e, d = e + 1 := ⟨d - 1, by omega⟩
  have hop := e_Has.get hT (c := 275) (k := 3) (lo := 0) (hi := 1) rfl (by decide)
  refine e_Ok.run (t' := (4, [(0, (1, 275)), (1, (0, p1)), (2, (0, p2)), (3, (0, p3)), (4, (0, p4))], [(1, 275), (4, 0), (4, p1)], w)) 4 rfl ?_
  have h1 := (e_Has.get hT (c := 275) (k := 30) (lo := 0) (hi := 4) rfl (by decide))
  refine e_Ok.getf (z := w 275 30) rfl rfl rfl rfl rfl (by omega) ?_
  refine e_Ok.run (t' := (8, [(0, (1, 275)), (1, (0, p1)), (2, (0, p2)), (3, (0, p3)), (4, (0, p4))], [(0, 1), (0, w 275 30), (4, 0), (4, p1)], w)) 1 rfl ?_
  refine e_Ok.sub' (z := w 275 30 - 1) rfl (by omega) (by omega) ?_
  refine e_Ok.run (t' := (10, [(0, (1, 275)), (1, (0, p1)), (2, (0, p2)), (3, (0, p3)), (4, (0, p4))], [(4, w 275 30 - 1), (4, 0), (4, p1)], w)) 1 rfl ?_
  refine e_Ok.callS rfl (by omega) rfl rfl (c_266) (fun r2 w3 h4 => ?_)
  obtain ⟨z5, rfl, rfl, q6⟩ := h4
  obtain ⟨rfl, q6⟩ | ⟨rfl, q6⟩ := q6
  · show e_Ok 20 elay ecode eI (d + 1) 288 (13, [(0, (1, 275)), (1, (0, p1)), (2, (0, p2)), (3, (0, p3)), (4, (0, p4))], [(0, 1)], w) _
    refine e_Ok.if1 rfl (fun h7 => ?_) (fun h7 => ?_)
    · replace h7 : (1 : Int) = 0 := h7
      exfalso; omega
    · replace h7 : (1 : Int) ≠ 0 := by have q : ¬ ((1 : Int) = 0) := h7; omega
      refine e_Ok.run (t' := (22, [(0, (1, 275)), (1, (0, p1)), (2, (0, p2)), (3, (0, p3)), (4, (0, p4))], [(4, 63), (4, 0), (4, p2)], w)) 4 rfl ?_
      refine e_Ok.callS rfl (by omega) rfl rfl (c_266) (fun r8 w9 h10 => ?_)
      obtain ⟨z11, rfl, rfl, q12⟩ := h10
      obtain ⟨rfl, q12⟩ | ⟨rfl, q12⟩ := q12
      · show e_Ok 20 elay ecode eI (d + 1) 288 (25, [(0, (1, 275)), (1, (0, p1)), (2, (0, p2)), (3, (0, p3)), (4, (0, p4))], [(0, 1)], w) _
        refine e_Ok.if1 rfl (fun h13 => ?_) (fun h13 => ?_)
        · replace h13 : (1 : Int) = 0 := h13
          exfalso; omega
        · replace h13 : (1 : Int) ≠ 0 := by have q : ¬ ((1 : Int) = 0) := h13; omega
          refine e_Ok.run (t' := (29, [(0, (1, 275)), (1, (0, p1)), (2, (0, p2)), (3, (0, p3)), (4, (0, p4))], [(0, p3)], w)) 1 rfl ?_
          refine e_Ok.if1 rfl (fun h14 => ?_) (fun h14 => ?_)
          · replace h14 : (p3 : Int) < 0 := h14
            refine e_Ok.run (t' := (39, [(0, (1, 275)), (1, (0, p1)), (2, (0, p2)), (3, (0, p3)), (4, (0, p4))], [(0, (-1))], w)) 1 rfl ?_
            refine e_Ok.rets rfl rfl ?_
            exact ⟨_, rfl, Or.inl ⟨rfl, by omega⟩⟩
          · replace h14 : (p3 : Int) ≥ 0 := by have q : ¬ ((p3 : Int) < 0) := h14; omega
            refine e_Ok.run (t' := (35, [(0, (1, 275)), (1, (0, p1)), (2, (0, p2)), (3, (0, p3)), (4, (0, p4))], [(0, p3), (0, p4)], w)) 2 rfl ?_
            refine e_Ok.if2 rfl (fun h15 => ?_) (fun h15 => ?_)
            · replace h15 : (p4 : Int) ≥ p3 := h15
              refine e_Ok.run (t' := (41, [(0, (1, 275)), (1, (0, p1)), (2, (0, p2)), (3, (0, p3)), (4, (0, p4))], [(1, 275)], w)) 1 rfl ?_
              refine e_Ok.getf (z := w 275 3) rfl rfl rfl rfl rfl (by omega) ?_
              refine e_Ok.if1 rfl (fun h16 => ?_) (fun h16 => ?_)
              · replace h16 : (w 275 3 : Int) = 0 := h16
                refine e_Ok.run (t' := (51, [(0, (1, 275)), (1, (0, p1)), (2, (0, p2)), (3, (0, p3)), (4, (0, p4))], [(1, 275)], w)) 1 rfl ?_
                refine e_Ok.getr (z := 306) rfl rfl rfl rfl (e_Has.eq hT rfl) (by omega) ?_
                refine e_Ok.run (t' := (56, [(0, (1, 275)), (1, (0, p1)), (2, (0, p2)), (3, (0, p3)), (4, (0, p4))], [(0, p2), (0, p1), (1, 306)], w)) 2 rfl ?_
                refine e_Ok.ast rfl rfl rfl rfl (by omega) ?_
                generalize hw17 : e_up w 306 p1 p2 = w17
                refine e_Ok.run (t' := (58, [(0, (1, 275)), (1, (0, p1)), (2, (0, p2)), (3, (0, p3)), (4, (0, p4))], [(1, 275)], w17)) 1 rfl ?_
                refine e_Ok.getr (z := 307) rfl rfl rfl rfl (by rw [← hw17]; exact (e_up_ne _ _ (Or.inl (by omega))).trans (e_Has.eq hT rfl)) (by omega) ?_
                refine e_Ok.run (t' := (63, [(0, (1, 275)), (1, (0, p1)), (2, (0, p2)), (3, (0, p3)), (4, (0, p4))], [(0, p3), (0, p1), (1, 307)], w17)) 2 rfl ?_
                refine e_Ok.ast rfl rfl rfl rfl (by omega) ?_
                generalize hw18 : e_up w17 307 p1 p3 = w18
                refine e_Ok.run (t' := (65, [(0, (1, 275)), (1, (0, p1)), (2, (0, p2)), (3, (0, p3)), (4, (0, p4))], [(1, 275)], w18)) 1 rfl ?_
                refine e_Ok.getr (z := 308) rfl rfl rfl rfl (by rw [← hw18]; exact (e_up_ne _ _ (Or.inl (by omega))).trans (by rw [← hw17]; exact (e_up_ne _ _ (Or.inl (by omega))).trans (e_Has.eq hT rfl))) (by omega) ?_
                refine e_Ok.run (t' := (71, [(0, (1, 275)), (1, (0, p1)), (2, (0, p2)), (3, (0, p3)), (4, (0, p4))], [(0, p4), (0, p1), (1, 308)], w18)) 2 rfl ?_
                refine e_Ok.ast rfl rfl rfl rfl (by omega) ?_
                generalize hw19 : e_up w18 308 p1 p4 = w19
                refine e_Ok.run (t' := (73, [(0, (1, 275)), (1, (0, p1)), (2, (0, p2)), (3, (0, p3)), (4, (0, p4))], [(0, 0)], w19)) 1 rfl ?_
                refine e_Ok.rets rfl rfl ?_
                exact ⟨_, rfl, Or.inr ⟨by omega, by omega, by rw [← hw19, ← hw18, ← hw17]⟩⟩
              · replace h16 : (w 275 3 : Int) ≠ 0 := by have q : ¬ ((w 275 3 : Int) = 0) := h16; omega
                refine e_Ok.run (t' := (49, [(0, (1, 275)), (1, (0, p1)), (2, (0, p2)), (3, (0, p3)), (4, (0, p4))], [(0, (-2))], w)) 1 rfl ?_
                refine e_Ok.rets rfl rfl ?_
                exact ⟨_, rfl, Or.inl ⟨rfl, by omega⟩⟩
            · replace h15 : (p4 : Int) < p3 := by have q : ¬ ((p4 : Int) ≥ p3) := h15; omega
              refine e_Ok.run (t' := (39, [(0, (1, 275)), (1, (0, p1)), (2, (0, p2)), (3, (0, p3)), (4, (0, p4))], [(0, (-1))], w)) 1 rfl ?_
              refine e_Ok.rets rfl rfl ?_
              exact ⟨_, rfl, Or.inl ⟨rfl, by omega⟩⟩
      · show e_Ok 20 elay ecode eI (d + 1) 288 (25, [(0, (1, 275)), (1, (0, p1)), (2, (0, p2)), (3, (0, p3)), (4, (0, p4))], [(0, 0)], w) _
        refine e_Ok.if1 rfl (fun h20 => ?_) (fun h20 => ?_)
        · replace h20 : (0 : Int) = 0 := h20
          refine e_Ok.run (t' := (39, [(0, (1, 275)), (1, (0, p1)), (2, (0, p2)), (3, (0, p3)), (4, (0, p4))], [(0, (-1))], w)) 1 rfl ?_
          refine e_Ok.rets rfl rfl ?_
          exact ⟨_, rfl, Or.inl ⟨rfl, by omega⟩⟩
        · replace h20 : (0 : Int) ≠ 0 := by have q : ¬ ((0 : Int) = 0) := h20; omega
          exfalso; omega
  · show e_Ok 20 elay ecode eI (d + 1) 288 (13, [(0, (1, 275)), (1, (0, p1)), (2, (0, p2)), (3, (0, p3)), (4, (0, p4))], [(0, 0)], w) _
    refine e_Ok.if1 rfl (fun h21 => ?_) (fun h21 => ?_)
    · replace h21 : (0 : Int) = 0 := h21
      refine e_Ok.run (t' := (39, [(0, (1, 275)), (1, (0, p1)), (2, (0, p2)), (3, (0, p3)), (4, (0, p4))], [(0, (-1))], w)) 1 rfl ?_
      refine e_Ok.rets rfl rfl ?_
      exact ⟨_, rfl, Or.inl ⟨rfl, by omega⟩⟩
    · replace h21 : (0 : Int) ≠ 0 := by have q : ¬ ((0 : Int) = 0) := h21; omega
      exfalso; omega
theorem c_292_ex {d : Nat} (hd : 24 ≤ d) {w : eW} (hT : e_Has mTy w) {p1 p2 : Int} (g1 : (-2147483648) ≤ p1 ∧ p1 ≤ 2147483647) (g2 : (-2147483648) ≤ p2 ∧ p2 ≤ 2147483647) : e_Ok 20 elay ecode eI d 292 (0, [(0, (1, 275)), (1, (0, p1)), (2, (0, p2))], [], w) (fun r w' => ∃ z : Int, r = [(0, z)] ∧ ((w = w' ∧ ((¬ ((0 ≤ p1 ∧ p1 < w 275 42) ∧ (-1 ≤ p2 ∧ p2 ≤ 32000)) ∧ z = -1) ∨ (((0 ≤ p1 ∧ p1 < w 275 42) ∧ (-1 ≤ p2 ∧ p2 ≤ 32000)) ∧ w 275 3 ≠ 0 ∧ z = -2))) ∨ ((((0 ≤ p1 ∧ p1 < w 275 42) ∧ (-1 ≤ p2 ∧ p2 ≤ 32000)) ∧ w 275 3 = 0) ∧ z = w 315 p1 ∧ w' = e_up w 315 (p1) (p2)))) := by
  obtain ⟨d, rfl⟩ : ∃ e, d = e + 1 := ⟨d - 1, by omega⟩
  have hop := e_Has.get hT (c := 275) (k := 3) (lo := 0) (hi := 1) rfl (by decide)
  refine e_Ok.run (t' := (4, [(0, (1, 275)), (1, (0, p1)), (2, (0, p2))], [(1, 275), (4, 0), (4, p1)], w)) 4 rfl ?_
  have h1 := (e_Has.get hT (c := 275) (k := 42) (lo := 0) (hi := 8) rfl (by decide))
  refine e_Ok.getf (z := w 275 42) rfl rfl rfl rfl rfl (by omega) ?_
  refine e_Ok.run (t' := (8, [(0, (1, 275)), (1, (0, p1)), (2, (0, p2))], [(0, 1), (0, w 275 42), (4, 0), (4, p1)], w)) 1 rfl ?_
  refine e_Ok.sub' (z := w 275 42 - 1) rfl (by omega) (by omega) ?_
  refine e_Ok.run (t' := (10, [(0, (1, 275)), (1, (0, p1)), (2, (0, p2))], [(4, w 275 42 - 1), (4, 0), (4, p1)], w)) 1 rfl ?_
  refine e_Ok.callS rfl (by omega) rfl rfl (c_266) (fun r2 w3 h4 => ?_)
  obtain ⟨z5, rfl, rfl, q6⟩ := h4
  obtain ⟨rfl, q6⟩ | ⟨rfl, q6⟩ := q6
  · show e_Ok 20 elay ecode eI (d + 1) 292 (13, [(0, (1, 275)), (1, (0, p1)), (2, (0, p2))], [(0, 1)], w) _
    refine e_Ok.if1 rfl (fun h7 => ?_) (fun h7 => ?_)
    · replace h7 : (1 : Int) = 0 := h7
      exfalso; omega
    · replace h7 : (1 : Int) ≠ 0 := by have q : ¬ ((1 : Int) = 0) := h7; omega
      refine e_Ok.run (t' := (24, [(0, (1, 275)), (1, (0, p1)), (2, (0, p2))], [(4, 32000), (4, (-1)), (4, p2)], w)) 4 rfl ?_
      refine e_Ok.callS rfl (by omega) rfl rfl (c_266) (fun r8 w9 h10 => ?_)
      obtain ⟨z11, rfl, rfl, q12⟩ := h10
      obtain ⟨rfl, q12⟩ | ⟨rfl, q12⟩ := q12
      · show e_Ok 20 elay ecode eI (d + 1) 292 (27, [(0, (1, 275)), (1, (0, p1)), (2, (0, p2))], [(0, 1)], w) _
        refine e_Ok.if1 rfl (fun h13 => ?_) (fun h13 => ?_)
        · replace h13 : (1 : Int) ≠ 0 := h13
          refine e_Ok.run (t' := (33, [(0, (1, 275)), (1, (0, p1)), (2, (0, p2))], [(1, 275)], w)) 1 rfl ?_
          refine e_Ok.getf (z := w 275 3) rfl rfl rfl rfl rfl (by omega) ?_
          refine e_Ok.if1 rfl (fun h14 => ?_) (fun h14 => ?_)
          · replace h14 : (w 275 3 : Int) = 0 := h14
            refine e_Ok.run (t' := (43, [(0, (1, 275)), (1, (0, p1)), (2, (0, p2))], [(1, 275)], w)) 1 rfl ?_
            refine e_Ok.getr (z := 315) rfl rfl rfl rfl (e_Has.eq hT rfl) (by omega) ?_
            refine e_Ok.run (t' := (47, [(0, (1, 275)), (1, (0, p1)), (2, (0, p2))], [(0, p1), (1, 315)], w)) 1 rfl ?_
            have h15 := (e_Has.get hT (c := 315) (k := p1) (lo := (-2147483648)) (hi := 2147483647) rfl (by decide))
            refine e_Ok.ald (z := w 315 p1) rfl rfl rfl (by omega) rfl (by omega) ?_
            refine e_Ok.run (t' := (50, [(3, (0, w 315 p1)), (0, (1, 275)), (1, (0, p1)), (2, (0, p2))], [(1, 275)], w)) 2 rfl ?_
            refine e_Ok.getr (z := 315) rfl rfl rfl rfl (e_Has.eq hT rfl) (by omega) ?_
            refine e_Ok.run (t' := (55, [(3, (0, w 315 p1)), (0, (1, 275)), (1, (0, p1)), (2, (0, p2))], [(0, p2), (0, p1), (1, 315)], w)) 2 rfl ?_
            refine e_Ok.ast rfl rfl rfl rfl (by omega) ?_
            generalize hw16 : e_up w 315 p1 p2 = w16
            refine e_Ok.run (t' := (57, [(3, (0, w 315 p1)), (0, (1, 275)), (1, (0, p1)), (2, (0, p2))], [(0, w 315 p1)], w16)) 1 rfl ?_
            refine e_Ok.rets rfl rfl ?_
            exact ⟨_, rfl, Or.inr ⟨by omega, by omega, by rw [← hw16]⟩⟩
          · replace h14 : (w 275 3 : Int) ≠ 0 := by have q : ¬ ((w 275 3 : Int) = 0) := h14; omega
            refine e_Ok.run (t' := (41, [(0, (1, 275)), (1, (0, p1)), (2, (0, p2))], [(0, (-2))], w)) 1 rfl ?_
            refine e_Ok.rets rfl rfl ?_
            exact ⟨_, rfl, Or.inl ⟨rfl, by omega⟩⟩
        · replace h13 : (1 : Int) = 0 := by have q : ¬ ((1 : Int) ≠ 0) := h13; omega
          exfalso; omega
      · show e_Ok 20 elay ecode eI (d + 1) 292 (27, [(0, (1, 275)), (1, (0, p1)), (2, (0, p2))], [(0, 0)], w) _
        refine e_Ok.if1 rfl (fun h17 => ?_) (fun h17 => ?_)
        · replace h17 : (0 : Int) ≠ 0 := h17
          exfalso; omega
        · replace h17 : (0 : Int) = 0 := by have q : ¬ ((0 : Int) ≠ 0) := h17; omega
          refine e_Ok.run (t' := (31, [(0, (1, 275)), (1, (0, p1)), (2, (0, p2))], [(0, (-1))], w)) 1 rfl ?_
          refine e_Ok.rets rfl rfl ?_
          exact ⟨_, rfl, Or.inl ⟨rfl, by omega⟩⟩
  · show e_Ok 20 elay ecode eI (d + 1) 292 (13, [(0, (1, 275)), (1, (0, p1)), (2, (0, p2))], [(0, 0)], w) _
    refine e_Ok.if1 rfl (fun h18 => ?_) (fun h18 => ?_)
    · replace h18 : (0 : Int) = 0 := h18
      refine e_Ok.run (t' := (31, [(0, (1, 275)), (1, (0, p1)), (2, (0, p2))], [(0, (-1))], w)) 1 rfl ?_
      refine e_Ok.rets rfl rfl ?_
      exact ⟨_, rfl, Or.inl ⟨rfl, by omega⟩⟩
    · replace h18 : (0 : Int) ≠ 0 := by have q : ¬ ((0 : Int) = 0) := h18; omega
      exfalso; omega
theorem c_293_ex {d : Nat} (hd : 24 ≤ d) {w : eW} (hT : e_Has mTy w) {p1 : Int} (g1 : (-2147483648) ≤ p1 ∧ p1 ≤ 2147483647) : e_Ok 20 elay ecode eI d 293 (0, [(0, (1, 275)), (1, (0, p1))], [], w) (fun r w' => ∃ z : Int, r = [(0, z)] ∧ ((w = w' ∧ ((¬ ((0 ≤ p1 ∧ p1 ≤ 1000)) ∧ z = -1) ∨ (((0 ≤ p1 ∧ p1 ≤ 1000)) ∧ ((w 275 3 ≠ 0 ∧ z = -2) ∨ (w 275 3 = 0 ∧ w 275 49 = 8 ∧ z = -3))))) ∨ ((((0 ≤ p1 ∧ p1 ≤ 1000)) ∧ w 275 3 = 0 ∧ ¬ (w 275 49 = 8)) ∧ z = w 275 49 ∧ w' = e_up (e_up w 316 (w 275 49) (p1)) 275 (49) (w 275 49 + 1)))) := by
  obtain ⟨d, rfl⟩ : ∃ e, d = e + 1 := ⟨d - 1, by omega⟩
  have hop := e_Has.get hT (c := 275) (k := 3) (lo := 0) (hi := 1) rfl (by decide)
  refine e_Ok.run (t' := (6, [(0, (1, 275)), (1, (0, p1))], [(4, 1000), (4, 0), (4, p1)], w)) 4 rfl ?_
  refine e_Ok.callS rfl (by omega) rfl rfl (c_266) (fun r1 w2 h3 => ?_)
  obtain ⟨z4, rfl, rfl, q5⟩ := h3
  obtain ⟨rfl, q5⟩ | ⟨rfl, q5⟩ := q5
  · show e_Ok 20 elay ecode eI (d + 1) 293 (9, [(0, (1, 275)), (1, (0, p1))], [(0, 1)], w) _
    refine e_Ok.if1 rfl (fun h6 => ?_) (fun h6 => ?_)
    · replace h6 : (1 : Int) ≠ 0 := h6
      refine e_Ok.run (t' := (15, [(0, (1, 275)), (1, (0, p1))], [(1, 275)], w)) 1 rfl ?_
      refine e_Ok.getf (z := w 275 3) rfl rfl rfl rfl rfl (by omega) ?_
      refine e_Ok.if1 rfl (fun h7 => ?_) (fun h7 => ?_)
      · replace h7 : (w 275 3 : Int) = 0 := h7
        refine e_Ok.run (t' := (25, [(0, (1, 275)), (1, (0, p1))], [(1, 275)], w)) 1 rfl ?_
        have h8 := (e_Has.get hT (c := 275) (k := 49) (lo := 0) (hi := 8) rfl (by decide))
        refine e_Ok.getf (z := w 275 49) rfl rfl rfl rfl rfl (by omega) ?_
        refine e_Ok.run (t' := (30, [(0, (1, 275)), (1, (0, p1))], [(0, 8), (0, w 275 49)], w)) 1 rfl ?_
        refine e_Ok.if2 rfl (fun h9 => ?_) (fun h9 => ?_)
        · replace h9 : (w 275 49 : Int) ≠ 8 := h9
          refine e_Ok.run (t' := (37, [(0, (1, 275)), (1, (0, p1))], [(1, 275)], w)) 1 rfl ?_
          refine e_Ok.getr (z := 316) rfl rfl rfl rfl (e_Has.eq hT rfl) (by omega) ?_
          refine e_Ok.run (t' := (41, [(0, (1, 275)), (1, (0, p1))], [(1, 275), (1, 316)], w)) 1 rfl ?_
          refine e_Ok.getf (z := w 275 49) rfl rfl rfl rfl rfl (by omega) ?_
          refine e_Ok.run (t' := (45, [(0, (1, 275)), (1, (0, p1))], [(0, p1), (0, w 275 49), (1, 316)], w)) 1 rfl ?_
          refine e_Ok.ast rfl rfl rfl rfl (by omega) ?_
          generalize hw10 : e_up w 316 (w 275 49) p1 = w10
          refine e_Ok.run (t' := (48, [(0, (1, 275)), (1, (0, p1))], [(1, 275), (1, 275)], w10)) 2 rfl ?_
          refine e_Ok.getf (z := w 275 49) rfl rfl rfl rfl (by rw [← hw10]; exact (e_up_ne _ _ (Or.inl (by omega))).trans rfl) (by omega) ?_
          refine e_Ok.run (t' := (52, [(0, (1, 275)), (1, (0, p1))], [(0, 1), (0, w 275 49), (1, 275)], w10)) 1 rfl ?_
          refine e_Ok.add (z := w 275 49 + 1) rfl (by omega) (by omega) ?_
          refine e_Ok.putf rfl rfl rfl rfl ?_
          generalize hw11 : e_up w10 275 49 (w 275 49 + 1) = w11
          refine e_Ok.run (t' := (57, [(0, (1, 275)), (1, (0, p1))], [(1, 275)], w11)) 1 rfl ?_
          refine e_Ok.getf (z := w 275 49 + 1) rfl rfl rfl rfl (by rw [← hw11]; exact e_up_eq _ _ _ _) (by omega) ?_
          refine e_Ok.run (t' := (61, [(0, (1, 275)), (1, (0, p1))], [(0, 1), (0, w 275 49 + 1)], w11)) 1 rfl ?_
          refine e_Ok.sub' (z := w 275 49) rfl (by omega) (by omega) ?_
          refine e_Ok.rets rfl rfl ?_
          exact ⟨_, rfl, Or.inr ⟨by omega, by omega, by rw [← hw11, ← hw10]⟩⟩
        · replace h9 : (w 275 49 : Int) = 8 := by have q : ¬ ((w 275 49 : Int) ≠ 8) := h9; omega
          refine e_Ok.run (t' := (35, [(0, (1, 275)), (1, (0, p1))], [(0, (-3))], w)) 1 rfl ?_
          refine e_Ok.rets rfl rfl ?_
          exact ⟨_, rfl, Or.inl ⟨rfl, by omega⟩⟩
      · replace h7 : (w 275 3 : Int) ≠ 0 := by have q : ¬ ((w 275 3 : Int) = 0) := h7; omega
        refine e_Ok.run (t' := (23, [(0, (1, 275)), (1, (0, p1))], [(0, (-2))], w)) 1 rfl ?_
        refine e_Ok.rets rfl rfl ?_
        exact ⟨_, rfl, Or.inl ⟨rfl, by omega⟩⟩
    · replace h6 : (1 : Int) = 0 := by have q : ¬ ((1 : Int) ≠ 0) := h6; omega
      exfalso; omega
  · show e_Ok 20 elay ecode eI (d + 1) 293 (9, [(0, (1, 275)), (1, (0, p1))], [(0, 0)], w) _
    refine e_Ok.if1 rfl (fun h12 => ?_) (fun h12 => ?_)
    · replace h12 : (0 : Int) ≠ 0 := h12
      exfalso; omega
    · replace h12 : (0 : Int) = 0 := by have q : ¬ ((0 : Int) ≠ 0) := h12; omega
      refine e_Ok.run (t' := (13, [(0, (1, 275)), (1, (0, p1))], [(0, (-1))], w)) 1 rfl ?_
      refine e_Ok.rets rfl rfl ?_
      exact ⟨_, rfl, Or.inl ⟨rfl, by omega⟩⟩
theorem c_294_ex {d : Nat} (hd : 24 ≤ d) {w : eW} (hT : e_Has mTy w) {p1 p2 : Int} (g1 : (-2147483648) ≤ p1 ∧ p1 ≤ 2147483647) (g2 : 0 ≤ p2 ∧ p2 ≤ 1) : e_Ok 20 elay ecode eI d 294 (0, [(0, (1, 275)), (1, (0, p1)), (2, (0, p2))], [], w) (fun r w' => ∃ z : Int, r = [(0, z)] ∧ ((w = w' ∧ ((¬ ((0 ≤ p1 ∧ p1 ≤ 7)) ∧ z = -1) ∨ (((0 ≤ p1 ∧ p1 ≤ 7)) ∧ w 275 3 ≠ 0 ∧ z = -2))) ∨ ((((0 ≤ p1 ∧ p1 ≤ 7)) ∧ w 275 3 = 0) ∧ z = 0 ∧ w' = e_up w 317 (p1) (p2)))) := by
  obtain ⟨d, rfl⟩ : ∃ e, d = e + 1 := ⟨d - 1, by omega⟩
  have hop := e_Has.get hT (c := 275) (k := 3) (lo := 0) (hi := 1) rfl (by decide)
  refine e_Ok.run (t' := (6, [(0, (1, 275)), (1, (0, p1)), (2, (0, p2))], [(4, 7), (4, 0), (4, p1)], w)) 4 rfl ?_
  refine e_Ok.callS rfl (by omega) rfl rfl (c_266) (fun r1 w2 h3 => ?_)
  obtain ⟨z4, rfl, rfl, q5⟩ := h3
  obtain ⟨rfl, q5⟩ | ⟨rfl, q5⟩ := q5
  · show e_Ok 20 elay ecode eI (d + 1) 294 (9, [(0, (1, 275)), (1, (0, p1)), (2, (0, p2))], [(0, 1)], w) _
    refine e_Ok.if1 rfl (fun h6 => ?_) (fun h6 => ?_)
    · replace h6 : (1 : Int) ≠ 0 := h6
      refine e_Ok.run (t' := (15, [(0, (1, 275)), (1, (0, p1)), (2, (0, p2))], [(1, 275)], w)) 1 rfl ?_
      refine e_Ok.getf (z := w 275 3) rfl rfl rfl rfl rfl (by omega) ?_
      refine e_Ok.if1 rfl (fun h7 => ?_) (fun h7 => ?_)
      · replace h7 : (w 275 3 : Int) = 0 := h7
        refine e_Ok.run (t' := (25, [(0, (1, 275)), (1, (0, p1)), (2, (0, p2))], [(1, 275)], w)) 1 rfl ?_
        refine e_Ok.getr (z := 317) rfl rfl rfl rfl (e_Has.eq hT rfl) (by omega) ?_
        refine e_Ok.run (t' := (30, [(0, (1, 275)), (1, (0, p1)), (2, (0, p2))], [(0, p2), (0, p1), (1, 317)], w)) 2 rfl ?_
        refine e_Ok.ast rfl rfl rfl (e_nar_b (by omega)) (by omega) ?_
        generalize hw8 : e_up w 317 p1 p2 = w8
        refine e_Ok.run (t' := (32, [(0, (1, 275)), (1, (0, p1)), (2, (0, p2))], [(0, 0)], w8)) 1 rfl ?_
        refine e_Ok.rets rfl rfl ?_
        exact ⟨_, rfl, Or.inr ⟨by omega, by omega, by rw [← hw8]⟩⟩
      · replace h7 : (w 275 3 : Int) ≠ 0 := by have q : ¬ ((w 275 3 : Int) = 0) := h7; omega
        refine e_Ok.run (t' := (23, [(0, (1, 275)), (1, (0, p1)), (2, (0, p2))], [(0, (-2))], w)) 1 rfl ?_
        refine e_Ok.rets rfl rfl ?_
        exact ⟨_, rfl, Or.inl ⟨rfl, by omega⟩⟩
    · replace h6 : (1 : Int) = 0 := by have q : ¬ ((1 : Int) ≠ 0) := h6; omega
      exfalso; omega
  · show e_Ok 20 elay ecode eI (d + 1) 294 (9, [(0, (1, 275)), (1, (0, p1)), (2, (0, p2))], [(0, 0)], w) _
    refine e_Ok.if1 rfl (fun h9 => ?_) (fun h9 => ?_)
    · replace h9 : (0 : Int) ≠ 0 := h9
      exfalso; omega
    · replace h9 : (0 : Int) = 0 := by have q : ¬ ((0 : Int) ≠ 0) := h9; omega
      refine e_Ok.run (t' := (13, [(0, (1, 275)), (1, (0, p1)), (2, (0, p2))], [(0, (-1))], w)) 1 rfl ?_
      refine e_Ok.rets rfl rfl ?_
      exact ⟨_, rfl, Or.inl ⟨rfl, by omega⟩⟩
theorem c_291_ex {d : Nat} (hd : 24 ≤ d) {w : eW} (hT : e_Has mTy w) {p1 p2 p3 p4 p5 : Int} (g1 : (-2147483648) ≤ p1 ∧ p1 ≤ 2147483647) (g2 : (-2147483648) ≤ p2 ∧ p2 ≤ 2147483647) (g3 : (-2147483648) ≤ p3 ∧ p3 ≤ 2147483647) (g4 : (-2147483648) ≤ p4 ∧ p4 ≤ 2147483647) (g5 : (-2147483648) ≤ p5 ∧ p5 ≤ 2147483647) : e_Ok 20 elay ecode eI d 291 (0, [(0, (1, 275)), (1, (0, p1)), (2, (0, p2)), (3, (0, p3)), (4, (0, p4)), (5, (0, p5))], [], w) (fun r w' => ∃ z : Int, r = [(0, z)] ∧ ((w = w' ∧ ((¬ ((0 ≤ p1 ∧ p1 < w 275 10) ∧ (-16000 ≤ p2 ∧ p2 ≤ 16000) ∧ (-16000 ≤ p3 ∧ p3 ≤ 16000) ∧ (0 ≤ p4 ∧ p2 + p4 ≤ 16000) ∧ 0 ≤ p5 ∧ p3 + p5 ≤ 16000) ∧ z = -1) ∨ (((0 ≤ p1 ∧ p1 < w 275 10) ∧ (-16000 ≤ p2 ∧ p2 ≤ 16000) ∧ (-16000 ≤ p3 ∧ p3 ≤ 16000) ∧ (0 ≤ p4 ∧ p2 + p4 ≤ 16000) ∧ 0 ≤ p5 ∧ p3 + p5 ≤ 16000) ∧ ((w 275 3 ≠ 0 ∧ z = -2) ∨ (w 275 3 = 0 ∧ w 275 42 = 8 ∧ z = -3))))) ∨ ((((0 ≤ p1 ∧ p1 < w 275 10) ∧ (-16000 ≤ p2 ∧ p2 ≤ 16000) ∧ (-16000 ≤ p3 ∧ p3 ≤ 16000) ∧ (0 ≤ p4 ∧ p2 + p4 ≤ 16000) ∧ 0 ≤ p5 ∧ p3 + p5 ≤ 16000) ∧ w 275 3 = 0 ∧ ¬ (w 275 42 = 8)) ∧ z = w 275 42 ∧ w' = e_up (e_up (e_up (e_up (e_up (e_up (e_up w 310 (w 275 42) (p1)) 311 (w 275 42) (p2)) 312 (w 275 42) (p3)) 313 (w 275 42) (p4)) 314 (w 275 42) (p5)) 315 (w 275 42) (-1)) 275 (42) (w 275 42 + 1)))) := by
  obtain ⟨d, rfl⟩ : ∃ e, d = e + 1 := ⟨d - 1, by omega⟩
  have hop := e_Has.get hT (c := 275) (k := 3) (lo := 0) (hi := 1) rfl (by decide)
  refine e_Ok.run (t' := (2, [(0, (1, 275)), (1, (0, p1)), (2, (0, p2)), (3, (0, p3)), (4, (0, p4)), (5, (0, p5))], [(0, p1), (1, 275)], w)) 2 rfl ?_
  refine e_Ok.callV rfl (by omega) rfl rfl rfl rfl (c_270 (by omega) hT) (fun r1 w2 h3 => ?_)
  have h4 := e_Has.get hT (c := 275) (k := 10) (lo := 0) (hi := 4) rfl (by decide)
  obtain ⟨z5, rfl, rfl, q6⟩ := h3
  obtain ⟨rfl, q6⟩ | ⟨rfl, q6⟩ := q6
  · show e_Ok 20 elay ecode eI (d + 1) 291 (5, [(0, (1, 275)), (1, (0, p1)), (2, (0, p2)), (3, (0, p3)), (4, (0, p4)), (5, (0, p5))], [(0, 1)], w) _
    refine e_Ok.if1 rfl (fun h7 => ?_) (fun h7 => ?_)
    · replace h7 : (1 : Int) = 0 := h7
      exfalso; omega
    · replace h7 : (1 : Int) ≠ 0 := by have q : ¬ ((1 : Int) = 0) := h7; omega
      refine e_Ok.run (t' := (14, [(0, (1, 275)), (1, (0, p1)), (2, (0, p2)), (3, (0, p3)), (4, (0, p4)), (5, (0, p5))], [(0, p5), (0, p4), (0, p3), (0, p2)], w)) 4 rfl ?_
      refine e_Ok.callS rfl (by omega) rfl rfl (c_273_ex (by omega) (by omega) (by omega)) (fun r8 w9 h10 => ?_)
      obtain ⟨z11, rfl, rfl, q12⟩ := h10
      obtain ⟨rfl, q12⟩ | ⟨rfl, q12⟩ := q12
      · show e_Ok 20 elay ecode eI (d + 1) 291 (17, [(0, (1, 275)), (1, (0, p1)), (2, (0, p2)), (3, (0, p3)), (4, (0, p4)), (5, (0, p5))], [(0, 1)], w) _
        refine e_Ok.if1 rfl (fun h13 => ?_) (fun h13 => ?_)
        · replace h13 : (1 : Int) ≠ 0 := h13
          refine e_Ok.run (t' := (23, [(0, (1, 275)), (1, (0, p1)), (2, (0, p2)), (3, (0, p3)), (4, (0, p4)), (5, (0, p5))], [(1, 275)], w)) 1 rfl ?_
          refine e_Ok.getf (z := w 275 3) rfl rfl rfl rfl rfl (by omega) ?_
          refine e_Ok.if1 rfl (fun h14 => ?_) (fun h14 => ?_)
          · replace h14 : (w 275 3 : Int) = 0 := h14
            refine e_Ok.run (t' := (33, [(0, (1, 275)), (1, (0, p1)), (2, (0, p2)), (3, (0, p3)), (4, (0, p4)), (5, (0, p5))], [(1, 275)], w)) 1 rfl ?_
            have h15 := (e_Has.get hT (c := 275) (k := 42) (lo := 0) (hi := 8) rfl (by decide))
            refine e_Ok.getf (z := w 275 42) rfl rfl rfl rfl rfl (by omega) ?_
            refine e_Ok.run (t' := (38, [(0, (1, 275)), (1, (0, p1)), (2, (0, p2)), (3, (0, p3)), (4, (0, p4)), (5, (0, p5))], [(0, 8), (0, w 275 42)], w)) 1 rfl ?_
            refine e_Ok.if2 rfl (fun h16 => ?_) (fun h16 => ?_)
            · replace h16 : (w 275 42 : Int) ≠ 8 := h16
              refine e_Ok.run (t' := (45, [(0, (1, 275)), (1, (0, p1)), (2, (0, p2)), (3, (0, p3)), (4, (0, p4)), (5, (0, p5))], [(1, 275)], w)) 1 rfl ?_
              refine e_Ok.getr (z := 310) rfl rfl rfl rfl (e_Has.eq hT rfl) (by omega) ?_
              refine e_Ok.run (t' := (49, [(0, (1, 275)), (1, (0, p1)), (2, (0, p2)), (3, (0, p3)), (4, (0, p4)), (5, (0, p5))], [(1, 275), (1, 310)], w)) 1 rfl ?_
              refine e_Ok.getf (z := w 275 42) rfl rfl rfl rfl rfl (by omega) ?_
              refine e_Ok.run (t' := (53, [(0, (1, 275)), (1, (0, p1)), (2, (0, p2)), (3, (0, p3)), (4, (0, p4)), (5, (0, p5))], [(0, p1), (0, w 275 42), (1, 310)], w)) 1 rfl ?_
              refine e_Ok.ast rfl rfl rfl rfl (by omega) ?_
              generalize hw17 : e_up w 310 (w 275 42) p1 = w17
              refine e_Ok.run (t' := (55, [(0, (1, 275)), (1, (0, p1)), (2, (0, p2)), (3, (0, p3)), (4, (0, p4)), (5, (0, p5))], [(1, 275)], w17)) 1 rfl ?_
              refine e_Ok.getr (z := 311) rfl rfl rfl rfl (by rw [← hw17]; exact (e_up_ne _ _ (Or.inl (by omega))).trans (e_Has.eq hT rfl)) (by omega) ?_
              refine e_Ok.run (t' := (59, [(0, (1, 275)), (1, (0, p1)), (2, (0, p2)), (3, (0, p3)), (4, (0, p4)), (5, (0, p5))], [(1, 275), (1, 311)], w17)) 1 rfl ?_
              refine e_Ok.getf (z := w 275 42) rfl rfl rfl rfl (by rw [← hw17]; exact (e_up_ne _ _ (Or.inl (by omega))).trans rfl) (by omega) ?_
              refine e_Ok.run (t' := (63, [(0, (1, 275)), (1, (0, p1)), (2, (0, p2)), (3, (0, p3)), (4, (0, p4)), (5, (0, p5))], [(0, p2), (0, w 275 42), (1, 311)], w17)) 1 rfl ?_
              refine e_Ok.ast rfl rfl rfl rfl (by omega) ?_
              generalize hw18 : e_up w17 311 (w 275 42) p2 = w18
              refine e_Ok.run (t' := (65, [(0, (1, 275)), (1, (0, p1)), (2, (0, p2)), (3, (0, p3)), (4, (0, p4)), (5, (0, p5))], [(1, 275)], w18)) 1 rfl ?_
              refine e_Ok.getr (z := 312) rfl rfl rfl rfl (by rw [← hw18]; exact (e_up_ne _ _ (Or.inl (by omega))).trans (by rw [← hw17]; exact (e_up_ne _ _ (Or.inl (by omega))).trans (e_Has.eq hT rfl))) (by omega) ?_
              refine e_Ok.run (t' := (69, [(0, (1, 275)), (1, (0, p1)), (2, (0, p2)), (3, (0, p3)), (4, (0, p4)), (5, (0, p5))], [(1, 275), (1, 312)], w18)) 1 rfl ?_
              refine e_Ok.getf (z := w 275 42) rfl rfl rfl rfl (by rw [← hw18]; exact (e_up_ne _ _ (Or.inl (by omega))).trans (by rw [← hw17]; exact (e_up_ne _ _ (Or.inl (by omega))).trans rfl)) (by omega) ?_
              refine e_Ok.run (t' := (73, [(0, (1, 275)), (1, (0, p1)), (2, (0, p2)), (3, (0, p3)), (4, (0, p4)), (5, (0, p5))], [(0, p3), (0, w 275 42), (1, 312)], w18)) 1 rfl ?_
              refine e_Ok.ast rfl rfl rfl rfl (by omega) ?_
              generalize hw19 : e_up w18 312 (w 275 42) p3 = w19
              refine e_Ok.run (t' := (75, [(0, (1, 275)), (1, (0, p1)), (2, (0, p2)), (3, (0, p3)), (4, (0, p4)), (5, (0, p5))], [(1, 275)], w19)) 1 rfl ?_
              refine e_Ok.getr (z := 313) rfl rfl rfl rfl (by rw [← hw19]; exact (e_up_ne _ _ (Or.inl (by omega))).trans (by rw [← hw18]; exact (e_up_ne _ _ (Or.inl (by omega))).trans (by rw [← hw17]; exact (e_up_ne _ _ (Or.inl (by omega))).trans (e_Has.eq hT rfl)))) (by omega) ?_
              refine e_Ok.run (t' := (79, [(0, (1, 275)), (1, (0, p1)), (2, (0, p2)), (3, (0, p3)), (4, (0, p4)), (5, (0, p5))], [(1, 275), (1, 313)], w19)) 1 rfl ?_
              refine e_Ok.getf (z := w 275 42) rfl rfl rfl rfl (by rw [← hw19]; exact (e_up_ne _ _ (Or.inl (by omega))).trans (by rw [← hw18]; exact (e_up_ne _ _ (Or.inl (by omega))).trans (by rw [← hw17]; exact (e_up_ne _ _ (Or.inl (by omega))).trans rfl))) (by omega) ?_
              refine e_Ok.run (t' := (84, [(0, (1, 275)), (1, (0, p1)), (2, (0, p2)), (3, (0, p3)), (4, (0, p4)), (5, (0, p5))], [(0, p4), (0, w 275 42), (1, 313)], w19)) 1 rfl ?_
              refine e_Ok.ast rfl rfl rfl rfl (by omega) ?_
              generalize hw20 : e_up w19 313 (w 275 42) p4 = w20
              refine e_Ok.run (t' := (86, [(0, (1, 275)), (1, (0, p1)), (2, (0, p2)), (3, (0, p3)), (4, (0, p4)), (5, (0, p5))], [(1, 275)], w20)) 1 rfl ?_
              refine e_Ok.getr (z := 314) rfl rfl rfl rfl (by rw [← hw20]; exact (e_up_ne _ _ (Or.inl (by omega))).trans (by rw [← hw19]; exact (e_up_ne _ _ (Or.inl (by omega))).trans (by rw [← hw18]; exact (e_up_ne _ _ (Or.inl (by omega))).trans (by rw [← hw17]; exact (e_up_ne _ _ (Or.inl (by omega))).trans (e_Has.eq hT rfl))))) (by omega) ?_
              refine e_Ok.run (t' := (90, [(0, (1, 275)), (1, (0, p1)), (2, (0, p2)), (3, (0, p3)), (4, (0, p4)), (5, (0, p5))], [(1, 275), (1, 314)], w20)) 1 rfl ?_
              refine e_Ok.getf (z := w 275 42) rfl rfl rfl rfl (by rw [← hw20]; exact (e_up_ne _ _ (Or.inl (by omega))).trans (by rw [← hw19]; exact (e_up_ne _ _ (Or.inl (by omega))).trans (by rw [← hw18]; exact (e_up_ne _ _ (Or.inl (by omega))).trans (by rw [← hw17]; exact (e_up_ne _ _ (Or.inl (by omega))).trans rfl)))) (by omega) ?_
              refine e_Ok.run (t' := (95, [(0, (1, 275)), (1, (0, p1)), (2, (0, p2)), (3, (0, p3)), (4, (0, p4)), (5, (0, p5))], [(0, p5), (0, w 275 42), (1, 314)], w20)) 1 rfl ?_
              refine e_Ok.ast rfl rfl rfl rfl (by omega) ?_
              generalize hw21 : e_up w20 314 (w 275 42) p5 = w21
              refine e_Ok.run (t' := (97, [(0, (1, 275)), (1, (0, p1)), (2, (0, p2)), (3, (0, p3)), (4, (0, p4)), (5, (0, p5))], [(1, 275)], w21)) 1 rfl ?_
              refine e_Ok.getr (z := 315) rfl rfl rfl rfl (by rw [← hw21]; exact (e_up_ne _ _ (Or.inl (by omega))).trans (by rw [← hw20]; exact (e_up_ne _ _ (Or.inl (by omega))).trans (by rw [← hw19]; exact (e_up_ne _ _ (Or.inl (by omega))).trans (by rw [← hw18]; exact (e_up_ne _ _ (Or.inl (by omega))).trans (by rw [← hw17]; exact (e_up_ne _ _ (Or.inl (by omega))).trans (e_Has.eq hT rfl)))))) (by omega) ?_
              refine e_Ok.run (t' := (101, [(0, (1, 275)), (1, (0, p1)), (2, (0, p2)), (3, (0, p3)), (4, (0, p4)), (5, (0, p5))], [(1, 275), (1, 315)], w21)) 1 rfl ?_
              refine e_Ok.getf (z := w 275 42) rfl rfl rfl rfl (by rw [← hw21]; exact (e_up_ne _ _ (Or.inl (by omega))).trans (by rw [← hw20]; exact (e_up_ne _ _ (Or.inl (by omega))).trans (by rw [← hw19]; exact (e_up_ne _ _ (Or.inl (by omega))).trans (by rw [← hw18]; exact (e_up_ne _ _ (Or.inl (by omega))).trans (by rw [← hw17]; exact (e_up_ne _ _ (Or.inl (by omega))).trans rfl))))) (by omega) ?_
              refine e_Ok.run (t' := (105, [(0, (1, 275)), (1, (0, p1)), (2, (0, p2)), (3, (0, p3)), (4, (0, p4)), (5, (0, p5))], [(0, (-1)), (0, w 275 42), (1, 315)], w21)) 1 rfl ?_
              refine e_Ok.ast rfl rfl rfl rfl (by omega) ?_
              generalize hw22 : e_up w21 315 (w 275 42) (-1) = w22
              refine e_Ok.run (t' := (108, [(0, (1, 275)), (1, (0, p1)), (2, (0, p2)), (3, (0, p3)), (4, (0, p4)), (5, (0, p5))], [(1, 275), (1, 275)], w22)) 2 rfl ?_
              refine e_Ok.getf (z := w 275 42) rfl rfl rfl rfl (by rw [← hw22]; exact (e_up_ne _ _ (Or.inl (by omega))).trans (by rw [← hw21]; exact (e_up_ne _ _ (Or.inl (by omega))).trans (by rw [← hw20]; exact (e_up_ne _ _ (Or.inl (by omega))).trans (by rw [← hw19]; exact (e_up_ne _ _ (Or.inl (by omega))).trans (by rw [← hw18]; exact (e_up_ne _ _ (Or.inl (by omega))).trans (by rw [← hw17]; exact (e_up_ne _ _ (Or.inl (by omega))).trans rfl)))))) (by omega) ?_
              refine e_Ok.run (t' := (112, [(0, (1, 275)), (1, (0, p1)), (2, (0, p2)), (3, (0, p3)), (4, (0, p4)), (5, (0, p5))], [(0, 1), (0, w 275 42), (1, 275)], w22)) 1 rfl ?_
              refine e_Ok.add (z := w 275 42 + 1) rfl (by omega) (by omega) ?_
              refine e_Ok.putf rfl rfl rfl rfl ?_
              generalize hw23 : e_up w22 275 42 (w 275 42 + 1) = w23
              refine e_Ok.run (t' := (117, [(0, (1, 275)), (1, (0, p1)), (2, (0, p2)), (3, (0, p3)), (4, (0, p4)), (5, (0, p5))], [(1, 275)], w23)) 1 rfl ?_
              refine e_Ok.getf (z := w 275 42 + 1) rfl rfl rfl rfl (by rw [← hw23]; exact e_up_eq _ _ _ _) (by omega) ?_
              refine e_Ok.run (t' := (121, [(0, (1, 275)), (1, (0, p1)), (2, (0, p2)), (3, (0, p3)), (4, (0, p4)), (5, (0, p5))], [(0, 1), (0, w 275 42 + 1)], w23)) 1 rfl ?_
              refine e_Ok.sub' (z := w 275 42) rfl (by omega) (by omega) ?_
              refine e_Ok.rets rfl rfl ?_
              exact ⟨_, rfl, Or.inr ⟨by omega, by omega, by rw [← hw23, ← hw22, ← hw21, ← hw20, ← hw19, ← hw18, ← hw17]⟩⟩
            · replace h16 : (w 275 42 : Int) = 8 := by have q : ¬ ((w 275 42 : Int) ≠ 8) := h16; omega
              refine e_Ok.run (t' := (43, [(0, (1, 275)), (1, (0, p1)), (2, (0, p2)), (3, (0, p3)), (4, (0, p4)), (5, (0, p5))], [(0, (-3))], w)) 1 rfl ?_
              refine e_Ok.rets rfl rfl ?_
              exact ⟨_, rfl, Or.inl ⟨rfl, by omega⟩⟩
          · replace h14 : (w 275 3 : Int) ≠ 0 := by have q : ¬ ((w 275 3 : Int) = 0) := h14; omega
            refine e_Ok.run (t' := (31, [(0, (1, 275)), (1, (0, p1)), (2, (0, p2)), (3, (0, p3)), (4, (0, p4)), (5, (0, p5))], [(0, (-2))], w)) 1 rfl ?_
            refine e_Ok.rets rfl rfl ?_
            exact ⟨_, rfl, Or.inl ⟨rfl, by omega⟩⟩
        · replace h13 : (1 : Int) = 0 := by have q : ¬ ((1 : Int) ≠ 0) := h13; omega
          exfalso; omega
      · show e_Ok 20 elay ecode eI (d + 1) 291 (17, [(0, (1, 275)), (1, (0, p1)), (2, (0, p2)), (3, (0, p3)), (4, (0, p4)), (5, (0, p5))], [(0, 0)], w) _
        refine e_Ok.if1 rfl (fun h24 => ?_) (fun h24 => ?_)
        · replace h24 : (0 : Int) ≠ 0 := h24
          exfalso; omega
        · replace h24 : (0 : Int) = 0 := by have q : ¬ ((0 : Int) ≠ 0) := h24; omega
          refine e_Ok.run (t' := (21, [(0, (1, 275)), (1, (0, p1)), (2, (0, p2)), (3, (0, p3)), (4, (0, p4)), (5, (0, p5))], [(0, (-1))], w)) 1 rfl ?_
          refine e_Ok.rets rfl rfl ?_
          exact ⟨_, rfl, Or.inl ⟨rfl, by omega⟩⟩
  · show e_Ok 20 elay ecode eI (d + 1) 291 (5, [(0, (1, 275)), (1, (0, p1)), (2, (0, p2)), (3, (0, p3)), (4, (0, p4)), (5, (0, p5))], [(0, 0)], w) _
    refine e_Ok.if1 rfl (fun h25 => ?_) (fun h25 => ?_)
    · replace h25 : (0 : Int) = 0 := h25
      refine e_Ok.run (t' := (21, [(0, (1, 275)), (1, (0, p1)), (2, (0, p2)), (3, (0, p3)), (4, (0, p4)), (5, (0, p5))], [(0, (-1))], w)) 1 rfl ?_
      refine e_Ok.rets rfl rfl ?_
      exact ⟨_, rfl, Or.inl ⟨rfl, by omega⟩⟩
    · replace h25 : (0 : Int) ≠ 0 := by have q : ¬ ((0 : Int) = 0) := h25; omega
      exfalso; omega
set_option maxHeartbeats 4000000 in
theorem c_286_ex {d : Nat} (hd : 24 ≤ d) {w : eW} (hT : e_Has mTy w) {p1 p2 p3 p4 p5 : Int} (g1 : (-2147483648) ≤ p1 ∧ p1 ≤ 2147483647) (g2 : (-2147483648) ≤ p2 ∧ p2 ≤ 2147483647) (g3 : (-2147483648) ≤ p3 ∧ p3 ≤ 2147483647) (g4 : (-2147483648) ≤ p4 ∧ p4 ≤ 2147483647) (g5 : (-2147483648) ≤ p5 ∧ p5 ≤ 2147483647) : e_Ok 20 elay ecode eI d 286 (0, [(0, (1, 275)), (1, (0, p1)), (2, (0, p2)), (3, (0, p3)), (4, (0, p4)), (5, (0, p5))], [], w) (fun r w' => ∃ z : Int, r = [(0, z)] ∧ ((w = w' ∧ ((¬ ((-16000 ≤ p1 ∧ p1 ≤ 16000) ∧ (-16000 ≤ p2 ∧ p2 ≤ 16000) ∧ (0 ≤ p3 ∧ p3 ≤ 3) ∧ (0 ≤ p4 ∧ p4 ≤ 16000) ∧ (0 ≤ p5 ∧ p5 ≤ 2000) ∧ (p3 = 0 → p1 + p4 ≤ 16000) ∧ (p3 = 1 → p2 + p4 ≤ 16000) ∧ (p3 = 2 → -16000 ≤ p1 - p4) ∧ (p3 = 3 → -16000 ≤ p2 - p4)) ∧ z = -1) ∨ (((-16000 ≤ p1 ∧ p1 ≤ 16000) ∧ (-16000 ≤ p2 ∧ p2 ≤ 16000) ∧ (0 ≤ p3 ∧ p3 ≤ 3) ∧ (0 ≤ p4 ∧ p4 ≤ 16000) ∧ (0 ≤ p5 ∧ p5 ≤ 2000) ∧ (p3 = 0 → p1 + p4 ≤ 16000) ∧ (p3 = 1 → p2 + p4 ≤ 16000) ∧ (p3 = 2 → -16000 ≤ p1 - p4) ∧ (p3 = 3 → -16000 ≤ p2 - p4)) ∧ ((w 275 3 ≠ 0 ∧ z = -2) ∨ (w 275 3 = 0 ∧ w 275 30 = 4 ∧ z = -3))))) ∨ ((((-16000 ≤ p1 ∧ p1 ≤ 16000) ∧ (-16000 ≤ p2 ∧ p2 ≤ 16000) ∧ (0 ≤ p3 ∧ p3 ≤ 3) ∧ (0 ≤ p4 ∧ p4 ≤ 16000) ∧ (0 ≤ p5 ∧ p5 ≤ 2000) ∧ (p3 = 0 → p1 + p4 ≤ 16000) ∧ (p3 = 1 → p2 + p4 ≤ 16000) ∧ (p3 = 2 → -16000 ≤ p1 - p4) ∧ (p3 = 3 → -16000 ≤ p2 - p4)) ∧ w 275 3 = 0 ∧ ¬ (w 275 30 = 4)) ∧ z = w 275 30 ∧ w' = e_up (e_up (e_up (e_up (e_up (e_up (e_up (e_up w 300 (w 275 30) (p1)) 301 (w 275 30) (p2)) 302 (w 275 30) (p3)) 303 (w 275 30) (p4)) 304 (w 275 30) (0)) 306 (w 275 30) (-1)) 305 (w 275 30) (p5)) 275 (30) (w 275 30 + 1)))) := by
  obtain ⟨d, rfl⟩ : ∃ e, d = e + 1 := ⟨d - 1, by omega⟩
  have hop := e_Has.get hT (c := 275) (k := 3) (lo := 0) (hi := 1) rfl (by decide)
  refine e_Ok.run (t' := (2, [(0, (1, 275)), (1, (0, p1)), (2, (0, p2)), (3, (0, p3)), (4, (0, p4)), (5, (0, p5))], [(0, p2), (0, p1)], w)) 2 rfl ?_
  refine e_Ok.callS rfl (by omega) rfl rfl (c_272_ex (by omega)) (fun r1 w2 h3 => ?_)
  obtain ⟨z4, rfl, rfl, q5⟩ := h3
  obtain ⟨rfl, q5⟩ | ⟨rfl, q5⟩ := q5
  · show e_Ok 20 elay ecode eI (d + 1) 286 (5, [(0, (1, 275)), (1, (0, p1)), (2, (0, p2)), (3, (0, p3)), (4, (0, p4)), (5, (0, p5))], [(0, 1)], w) _
    refine e_Ok.if1 rfl (fun h6 => ?_) (fun h6 => ?_)
    · replace h6 : (1 : Int) = 0 := h6
      exfalso; omega
    · replace h6 : (1 : Int) ≠ 0 := by have q : ¬ ((1 : Int) = 0) := h6; omega
      refine e_Ok.run (t' := (14, [(0, (1, 275)), (1, (0, p1)), (2, (0, p2)), (3, (0, p3)), (4, (0, p4)), (5, (0, p5))], [(4, 3), (4, 0), (4, p3)], w)) 4 rfl ?_
      refine e_Ok.callS rfl (by omega) rfl rfl (c_266) (fun r7 w8 h9 => ?_)
      obtain ⟨z10, rfl, rfl, q11⟩ := h9
      obtain ⟨rfl, q11⟩ | ⟨rfl, q11⟩ := q11
      · show e_Ok 20 elay ecode eI (d + 1) 286 (17, [(0, (1, 275)), (1, (0, p1)), (2, (0, p2)), (3, (0, p3)), (4, (0, p4)), (5, (0, p5))], [(0, 1)], w) _
        refine e_Ok.if1 rfl (fun h12 => ?_) (fun h12 => ?_)
        · replace h12 : (1 : Int) = 0 := h12
          exfalso; omega
        · replace h12 : (1 : Int) ≠ 0 := by have q : ¬ ((1 : Int) = 0) := h12; omega
          refine e_Ok.run (t' := (27, [(0, (1, 275)), (1, (0, p1)), (2, (0, p2)), (3, (0, p3)), (4, (0, p4)), (5, (0, p5))], [(4, 16000), (4, 0), (4, p4)], w)) 4 rfl ?_
          refine e_Ok.callS rfl (by omega) rfl rfl (c_266) (fun r13 w14 h15 => ?_)
          obtain ⟨z16, rfl, rfl, q17⟩ := h15
          obtain ⟨rfl, q17⟩ | ⟨rfl, q17⟩ := q17
          · show e_Ok 20 elay ecode eI (d + 1) 286 (30, [(0, (1, 275)), (1, (0, p1)), (2, (0, p2)), (3, (0, p3)), (4, (0, p4)), (5, (0, p5))], [(0, 1)], w) _
            refine e_Ok.if1 rfl (fun h18 => ?_) (fun h18 => ?_)
            · replace h18 : (1 : Int) = 0 := h18
              exfalso; omega
            · replace h18 : (1 : Int) ≠ 0 := by have q : ¬ ((1 : Int) = 0) := h18; omega
              refine e_Ok.run (t' := (40, [(0, (1, 275)), (1, (0, p1)), (2, (0, p2)), (3, (0, p3)), (4, (0, p4)), (5, (0, p5))], [(4, 2000), (4, 0), (4, p5)], w)) 4 rfl ?_
              refine e_Ok.callS rfl (by omega) rfl rfl (c_266) (fun r19 w20 h21 => ?_)
              obtain ⟨z22, rfl, rfl, q23⟩ := h21
              obtain ⟨rfl, q23⟩ | ⟨rfl, q23⟩ := q23
              · show e_Ok 20 elay ecode eI (d + 1) 286 (43, [(0, (1, 275)), (1, (0, p1)), (2, (0, p2)), (3, (0, p3)), (4, (0, p4)), (5, (0, p5))], [(0, 1)], w) _
                refine e_Ok.if1 rfl (fun h24 => ?_) (fun h24 => ?_)
                · replace h24 : (1 : Int) ≠ 0 := h24
                  refine e_Ok.run (t' := (50, [(0, (1, 275)), (1, (0, p1)), (2, (0, p2)), (3, (0, p3)), (4, (0, p4)), (5, (0, p5))], [(0, 2), (0, p3)], w)) 2 rfl ?_
                  refine e_Ok.if2 rfl (fun h25 => ?_) (fun h25 => ?_)
                  · replace h25 : (p3 : Int) ≥ 2 := h25
                    refine e_Ok.run (t' := (60, [(0, (1, 275)), (1, (0, p1)), (2, (0, p2)), (3, (0, p3)), (4, (0, p4)), (5, (0, p5))], [(0, p4)], w)) 1 rfl ?_
                    refine e_Ok.neg (z := -p4) rfl (by omega) (by omega) ?_
                    refine e_Ok.run (t' := (65, [(6, (0, -p4)), (0, (1, 275)), (1, (0, p1)), (2, (0, p2)), (3, (0, p3)), (4, (0, p4)), (5, (0, p5))], [(0, 2), (0, p3)], w)) 3 rfl ?_
                    refine e_Ok.remn (fun z26 hz26 => ?_) rfl (by omega) (by omega)
                    replace hz26 : z26 = p3 % 2 := hz26
                    have z26r : 0 ≤ z26 ∧ z26 ≤ 1 := by omega
                    refine e_Ok.if1 rfl (fun h27 => ?_) (fun h27 => ?_)
                    · replace h27 : (z26 : Int) ≠ 0 := h27
                      refine e_Ok.run (t' := (79, [(6, (0, -p4)), (0, (1, 275)), (1, (0, p1)), (2, (0, p2)), (3, (0, p3)), (4, (0, p4)), (5, (0, p5))], [(0, 2), (0, p3), (0, p1)], w)) 3 rfl ?_
                      refine e_Ok.remn (fun z28 hz28 => ?_) rfl (by omega) (by omega)
                      replace hz28 : z28 = p3 % 2 := hz28
                      have z28r : 0 ≤ z28 ∧ z28 ≤ 1 := by omega
                      refine e_Ok.if1 rfl (fun h29 => ?_) (fun h29 => ?_)
                      · replace h29 : (z28 : Int) ≠ 0 := h29
                        refine e_Ok.run (t' := (90, [(6, (0, -p4)), (0, (1, 275)), (1, (0, p1)), (2, (0, p2)), (3, (0, p3)), (4, (0, p4)), (5, (0, p5))], [(0, -p4), (0, p2), (0, p1)], w)) 2 rfl ?_
                        refine e_Ok.add (z := p2 - p4) rfl (by omega) (by omega) ?_
                        refine e_Ok.callS rfl (by omega) rfl rfl (c_272_ex (by omega)) (fun r30 w31 h32 => ?_)
                        obtain ⟨z33, rfl, rfl, q34⟩ := h32
                        obtain ⟨rfl, q34⟩ | ⟨rfl, q34⟩ := q34
                        · show e_Ok 20 elay ecode eI (d + 1) 286 (94, [(6, (0, -p4)), (0, (1, 275)), (1, (0, p1)), (2, (0, p2)), (3, (0, p3)), (4, (0, p4)), (5, (0, p5))], [(0, 1)], w) _
                          refine e_Ok.if1 rfl (fun h35 => ?_) (fun h35 => ?_)
                          · replace h35 : (1 : Int) ≠ 0 := h35
                            refine e_Ok.run (t' := (100, [(6, (0, -p4)), (0, (1, 275)), (1, (0, p1)), (2, (0, p2)), (3, (0, p3)), (4, (0, p4)), (5, (0, p5))], [(1, 275)], w)) 1 rfl ?_
                            refine e_Ok.getf (z := w 275 3) rfl rfl rfl rfl rfl (by omega) ?_
                            refine e_Ok.if1 rfl (fun h36 => ?_) (fun h36 => ?_)
                            · replace h36 : (w 275 3 : Int) = 0 := h36
                              refine e_Ok.run (t' := (110, [(6, (0, -p4)), (0, (1, 275)), (1, (0, p1)), (2, (0, p2)), (3, (0, p3)), (4, (0, p4)), (5, (0, p5))], [(1, 275)], w)) 1 rfl ?_
                              have h37 := (e_Has.get hT (c := 275) (k := 30) (lo := 0) (hi := 4) rfl (by decide))
                              refine e_Ok.getf (z := w 275 30) rfl rfl rfl rfl rfl (by omega) ?_
                              refine e_Ok.run (t' := (114, [(6, (0, -p4)), (0, (1, 275)), (1, (0, p1)), (2, (0, p2)), (3, (0, p3)), (4, (0, p4)), (5, (0, p5))], [(0, 4), (0, w 275 30)], w)) 1 rfl ?_
                              refine e_Ok.if2 rfl (fun h38 => ?_) (fun h38 => ?_)
                              · replace h38 : (w 275 30 : Int) ≠ 4 := h38
                                refine e_Ok.run (t' := (121, [(6, (0, -p4)), (0, (1, 275)), (1, (0, p1)), (2, (0, p2)), (3, (0, p3)), (4, (0, p4)), (5, (0, p5))], [(1, 275)], w)) 1 rfl ?_
                                refine e_Ok.getr (z := 300) rfl rfl rfl rfl (e_Has.eq hT rfl) (by omega) ?_
                                refine e_Ok.run (t' := (125, [(6, (0, -p4)), (0, (1, 275)), (1, (0, p1)), (2, (0, p2)), (3, (0, p3)), (4, (0, p4)), (5, (0, p5))], [(1, 275), (1, 300)], w)) 1 rfl ?_
                                refine e_Ok.getf (z := w 275 30) rfl rfl rfl rfl rfl (by omega) ?_
                                refine e_Ok.run (t' := (129, [(6, (0, -p4)), (0, (1, 275)), (1, (0, p1)), (2, (0, p2)), (3, (0, p3)), (4, (0, p4)), (5, (0, p5))], [(0, p1), (0, w 275 30), (1, 300)], w)) 1 rfl ?_
                                refine e_Ok.ast rfl rfl rfl rfl (by omega) ?_
                                generalize hw40 : e_up w 300 (w 275 30) p1 = w40
                                refine e_Ok.run (t' := (131, [(6, (0, -p4)), (0, (1, 275)), (1, (0, p1)), (2, (0, p2)), (3, (0, p3)), (4, (0, p4)), (5, (0, p5))], [(1, 275)], w40)) 1 rfl ?_
                                refine e_Ok.getr (z := 301) rfl rfl rfl rfl (by rw [← hw40]; exact (e_up_ne _ _ (Or.inl (by omega))).trans (e_Has.eq hT rfl)) (by omega) ?_
                                refine e_Ok.run (t' := (135, [(6, (0, -p4)), (0, (1, 275)), (1, (0, p1)), (2, (0, p2)), (3, (0, p3)), (4, (0, p4)), (5, (0, p5))], [(1, 275), (1, 301)], w40)) 1 rfl ?_
                                refine e_Ok.getf (z := w 275 30) rfl rfl rfl rfl (by rw [← hw40]; exact (e_up_ne _ _ (Or.inl (by omega))).trans rfl) (by omega) ?_
                                refine e_Ok.run (t' := (139, [(6, (0, -p4)), (0, (1, 275)), (1, (0, p1)), (2, (0, p2)), (3, (0, p3)), (4, (0, p4)), (5, (0, p5))], [(0, p2), (0, w 275 30), (1, 301)], w40)) 1 rfl ?_
                                refine e_Ok.ast rfl rfl rfl rfl (by omega) ?_
                                generalize hw41 : e_up w40 301 (w 275 30) p2 = w41
                                refine e_Ok.run (t' := (141, [(6, (0, -p4)), (0, (1, 275)), (1, (0, p1)), (2, (0, p2)), (3, (0, p3)), (4, (0, p4)), (5, (0, p5))], [(1, 275)], w41)) 1 rfl ?_
                                refine e_Ok.getr (z := 302) rfl rfl rfl rfl (by rw [← hw41]; exact (e_up_ne _ _ (Or.inl (by omega))).trans (by rw [← hw40]; exact (e_up_ne _ _ (Or.inl (by omega))).trans (e_Has.eq hT rfl))) (by omega) ?_
                                refine e_Ok.run (t' := (145, [(6, (0, -p4)), (0, (1, 275)), (1, (0, p1)), (2, (0, p2)), (3, (0, p3)), (4, (0, p4)), (5, (0, p5))], [(1, 275), (1, 302)], w41)) 1 rfl ?_
                                refine e_Ok.getf (z := w 275 30) rfl rfl rfl rfl (by rw [← hw41]; exact (e_up_ne _ _ (Or.inl (by omega))).trans (by rw [← hw40]; exact (e_up_ne _ _ (Or.inl (by omega))).trans rfl)) (by omega) ?_
                                refine e_Ok.run (t' := (149, [(6, (0, -p4)), (0, (1, 275)), (1, (0, p1)), (2, (0, p2)), (3, (0, p3)), (4, (0, p4)), (5, (0, p5))], [(0, p3), (0, w 275 30), (1, 302)], w41)) 1 rfl ?_
                                refine e_Ok.ast rfl rfl rfl rfl (by omega) ?_
                                generalize hw42 : e_up w41 302 (w 275 30) p3 = w42
                                refine e_Ok.run (t' := (151, [(6, (0, -p4)), (0, (1, 275)), (1, (0, p1)), (2, (0, p2)), (3, (0, p3)), (4, (0, p4)), (5, (0, p5))], [(1, 275)], w42)) 1 rfl ?_
                                refine e_Ok.getr (z := 303) rfl rfl rfl rfl (by rw [← hw42]; exact (e_up_ne _ _ (Or.inl (by omega))).trans (by rw [← hw41]; exact (e_up_ne _ _ (Or.inl (by omega))).trans (by rw [← hw40]; exact (e_up_ne _ _ (Or.inl (by omega))).trans (e_Has.eq hT rfl)))) (by omega) ?_
                                refine e_Ok.run (t' := (155, [(6, (0, -p4)), (0, (1, 275)), (1, (0, p1)), (2, (0, p2)), (3, (0, p3)), (4, (0, p4)), (5, (0, p5))], [(1, 275), (1, 303)], w42)) 1 rfl ?_
                                refine e_Ok.getf (z := w 275 30) rfl rfl rfl rfl (by rw [← hw42]; exact (e_up_ne _ _ (Or.inl (by omega))).trans (by rw [← hw41]; exact (e_up_ne _ _ (Or.inl (by omega))).trans (by rw [← hw40]; exact (e_up_ne _ _ (Or.inl (by omega))).trans rfl))) (by omega) ?_
                                refine e_Ok.run (t' := (160, [(6, (0, -p4)), (0, (1, 275)), (1, (0, p1)), (2, (0, p2)), (3, (0, p3)), (4, (0, p4)), (5, (0, p5))], [(0, p4), (0, w 275 30), (1, 303)], w42)) 1 rfl ?_
                                refine e_Ok.ast rfl rfl rfl rfl (by omega) ?_
                                generalize hw43 : e_up w42 303 (w 275 30) p4 = w43
                                refine e_Ok.run (t' := (162, [(6, (0, -p4)), (0, (1, 275)), (1, (0, p1)), (2, (0, p2)), (3, (0, p3)), (4, (0, p4)), (5, (0, p5))], [(1, 275)], w43)) 1 rfl ?_
                                refine e_Ok.getr (z := 304) rfl rfl rfl rfl (by rw [← hw43]; exact (e_up_ne _ _ (Or.inl (by omega))).trans (by rw [← hw42]; exact (e_up_ne _ _ (Or.inl (by omega))).trans (by rw [← hw41]; exact (e_up_ne _ _ (Or.inl (by omega))).trans (by rw [← hw40]; exact (e_up_ne _ _ (Or.inl (by omega))).trans (e_Has.eq hT rfl))))) (by omega) ?_
                                refine e_Ok.run (t' := (166, [(6, (0, -p4)), (0, (1, 275)), (1, (0, p1)), (2, (0, p2)), (3, (0, p3)), (4, (0, p4)), (5, (0, p5))], [(1, 275), (1, 304)], w43)) 1 rfl ?_
                                refine e_Ok.getf (z := w 275 30) rfl rfl rfl rfl (by rw [← hw43]; exact (e_up_ne _ _ (Or.inl (by omega))).trans (by rw [← hw42]; exact (e_up_ne _ _ (Or.inl (by omega))).trans (by rw [← hw41]; exact (e_up_ne _ _ (Or.inl (by omega))).trans (by rw [← hw40]; exact (e_up_ne _ _ (Or.inl (by omega))).trans rfl)))) (by omega) ?_
                                refine e_Ok.run (t' := (170, [(6, (0, -p4)), (0, (1, 275)), (1, (0, p1)), (2, (0, p2)), (3, (0, p3)), (4, (0, p4)), (5, (0, p5))], [(0, 0), (0, w 275 30), (1, 304)], w43)) 1 rfl ?_
                                refine e_Ok.ast rfl rfl rfl rfl (by omega) ?_
                                generalize hw44 : e_up w43 304 (w 275 30) 0 = w44
                                refine e_Ok.run (t' := (172, [(6, (0, -p4)), (0, (1, 275)), (1, (0, p1)), (2, (0, p2)), (3, (0, p3)), (4, (0, p4)), (5, (0, p5))], [(1, 275)], w44)) 1 rfl ?_
                                refine e_Ok.getr (z := 306) rfl rfl rfl rfl (by rw [← hw44]; exact (e_up_ne _ _ (Or.inl (by omega))).trans (by rw [← hw43]; exact (e_up_ne _ _ (Or.inl (by omega))).trans (by rw [← hw42]; exact (e_up_ne _ _ (Or.inl (by omega))).trans (by rw [← hw41]; exact (e_up_ne _ _ (Or.inl (by omega))).trans (by rw [← hw40]; exact (e_up_ne _ _ (Or.inl (by omega))).trans (e_Has.eq hT rfl)))))) (by omega) ?_
                                refine e_Ok.run (t' := (176, [(6, (0, -p4)), (0, (1, 275)), (1, (0, p1)), (2, (0, p2)), (3, (0, p3)), (4, (0, p4)), (5, (0, p5))], [(1, 275), (1, 306)], w44)) 1 rfl ?_
                                refine e_Ok.getf (z := w 275 30) rfl rfl rfl rfl (by rw [← hw44]; exact (e_up_ne _ _ (Or.inl (by omega))).trans (by rw [← hw43]; exact (e_up_ne _ _ (Or.inl (by omega))).trans (by rw [← hw42]; exact (e_up_ne _ _ (Or.inl (by omega))).trans (by rw [← hw41]; exact (e_up_ne _ _ (Or.inl (by omega))).trans (by rw [← hw40]; exact (e_up_ne _ _ (Or.inl (by omega))).trans rfl))))) (by omega) ?_
                                refine e_Ok.run (t' := (180, [(6, (0, -p4)), (0, (1, 275)), (1, (0, p1)), (2, (0, p2)), (3, (0, p3)), (4, (0, p4)), (5, (0, p5))], [(0, (-1)), (0, w 275 30), (1, 306)], w44)) 1 rfl ?_
                                refine e_Ok.ast rfl rfl rfl rfl (by omega) ?_
                                generalize hw45 : e_up w44 306 (w 275 30) (-1) = w45
                                refine e_Ok.run (t' := (182, [(6, (0, -p4)), (0, (1, 275)), (1, (0, p1)), (2, (0, p2)), (3, (0, p3)), (4, (0, p4)), (5, (0, p5))], [(1, 275)], w45)) 1 rfl ?_
                                refine e_Ok.getr (z := 305) rfl rfl rfl rfl (by rw [← hw45]; exact (e_up_ne _ _ (Or.inl (by omega))).trans (by rw [← hw44]; exact (e_up_ne _ _ (Or.inl (by omega))).trans (by rw [← hw43]; exact (e_up_ne _ _ (Or.inl (by omega))).trans (by rw [← hw42]; exact (e_up_ne _ _ (Or.inl (by omega))).trans (by rw [← hw41]; exact (e_up_ne _ _ (Or.inl (by omega))).trans (by rw [← hw40]; exact (e_up_ne _ _ (Or.inl (by omega))).trans (e_Has.eq hT rfl))))))) (by omega) ?_
                                refine e_Ok.run (t' := (186, [(6, (0, -p4)), (0, (1, 275)), (1, (0, p1)), (2, (0, p2)), (3, (0, p3)), (4, (0, p4)), (5, (0, p5))], [(1, 275), (1, 305)], w45)) 1 rfl ?_
                                refine e_Ok.getf (z := w 275 30) rfl rfl rfl rfl (by rw [← hw45]; exact (e_up_ne _ _ (Or.inl (by omega))).trans (by rw [← hw44]; exact (e_up_ne _ _ (Or.inl (by omega))).trans (by rw [← hw43]; exact (e_up_ne _ _ (Or.inl (by omega))).trans (by rw [← hw42]; exact (e_up_ne _ _ (Or.inl (by omega))).trans (by rw [← hw41]; exact (e_up_ne _ _ (Or.inl (by omega))).trans (by rw [← hw40]; exact (e_up_ne _ _ (Or.inl (by omega))).trans rfl)))))) (by omega) ?_
                                refine e_Ok.run (t' := (191, [(6, (0, -p4)), (0, (1, 275)), (1, (0, p1)), (2, (0, p2)), (3, (0, p3)), (4, (0, p4)), (5, (0, p5))], [(0, p5), (0, w 275 30), (1, 305)], w45)) 1 rfl ?_
                                refine e_Ok.ast rfl rfl rfl rfl (by omega) ?_
                                generalize hw46 : e_up w45 305 (w 275 30) p5 = w46
                                refine e_Ok.run (t' := (194, [(6, (0, -p4)), (0, (1, 275)), (1, (0, p1)), (2, (0, p2)), (3, (0, p3)), (4, (0, p4)), (5, (0, p5))], [(1, 275), (1, 275)], w46)) 2 rfl ?_
                                refine e_Ok.getf (z := w 275 30) rfl rfl rfl rfl (by rw [← hw46]; exact (e_up_ne _ _ (Or.inl (by omega))).trans (by rw [← hw45]; exact (e_up_ne _ _ (Or.inl (by omega))).trans (by rw [← hw44]; exact (e_up_ne _ _ (Or.inl (by omega))).trans (by rw [← hw43]; exact (e_up_ne _ _ (Or.inl (by omega))).trans (by rw [← hw42]; exact (e_up_ne _ _ (Or.inl (by omega))).trans (by rw [← hw41]; exact (e_up_ne _ _ (Or.inl (by omega))).trans (by rw [← hw40]; exact (e_up_ne _ _ (Or.inl (by omega))).trans rfl))))))) (by omega) ?_
                                refine e_Ok.run (t' := (198, [(6, (0, -p4)), (0, (1, 275)), (1, (0, p1)), (2, (0, p2)), (3, (0, p3)), (4, (0, p4)), (5, (0, p5))], [(0, 1), (0, w 275 30), (1, 275)], w46)) 1 rfl ?_
                                refine e_Ok.add (z := w 275 30 + 1) rfl (by omega) (by omega) ?_
                                refine e_Ok.putf rfl rfl rfl rfl ?_
                                generalize hw47 : e_up w46 275 30 (w 275 30 + 1) = w47
                                refine e_Ok.run (t' := (203, [(6, (0, -p4)), (0, (1, 275)), (1, (0, p1)), (2, (0, p2)), (3, (0, p3)), (4, (0, p4)), (5, (0, p5))], [(1, 275)], w47)) 1 rfl ?_
                                refine e_Ok.getf (z := w 275 30 + 1) rfl rfl rfl rfl (by rw [← hw47]; exact e_up_eq _ _ _ _) (by omega) ?_
                                refine e_Ok.run (t' := (207, [(6, (0, -p4)), (0, (1, 275)), (1, (0, p1)), (2, (0, p2)), (3, (0, p3)), (4, (0, p4)), (5, (0, p5))], [(0, 1), (0, w 275 30 + 1)], w47)) 1 rfl ?_
                                refine e_Ok.sub' (z := w 275 30) rfl (by omega) (by omega) ?_
                                refine e_Ok.rets rfl rfl ?_
                                exact ⟨_, rfl, Or.inr ⟨by omega, by omega, by rw [← hw47, ← hw46, ← hw45, ← hw44, ← hw43, ← hw42, ← hw41, ← hw40]⟩⟩
                              · replace h38 : (w 275 30 : Int) = 4 := by have q : ¬ ((w 275 30 : Int) ≠ 4) := h38; omega
                                refine e_Ok.run (t' := (119, [(6, (0, -p4)), (0, (1, 275)), (1, (0, p1)), (2, (0, p2)), (3, (0, p3)), (4, (0, p4)), (5, (0, p5))], [(0, (-3))], w)) 1 rfl ?_
                                refine e_Ok.rets rfl rfl ?_
                                exact ⟨_, rfl, Or.inl ⟨rfl, by omega⟩⟩
                            · replace h36 : (w 275 3 : Int) ≠ 0 := by have q : ¬ ((w 275 3 : Int) = 0) := h36; omega
                              refine e_Ok.run (t' := (108, [(6, (0, -p4)), (0, (1, 275)), (1, (0, p1)), (2, (0, p2)), (3, (0, p3)), (4, (0, p4)), (5, (0, p5))], [(0, (-2))], w)) 1 rfl ?_
                              refine e_Ok.rets rfl rfl ?_
                              exact ⟨_, rfl, Or.inl ⟨rfl, by omega⟩⟩
                          · replace h35 : (1 : Int) = 0 := by have q : ¬ ((1 : Int) ≠ 0) := h35; omega
                            exfalso; omega
                        · show e_Ok 20 elay ecode eI (d + 1) 286 (94, [(6, (0, -p4)), (0, (1, 275)), (1, (0, p1)), (2, (0, p2)), (3, (0, p3)), (4, (0, p4)), (5, (0, p5))], [(0, 0)], w) _
                          refine e_Ok.if1 rfl (fun h48 => ?_) (fun h48 => ?_)
                          · replace h48 : (0 : Int) ≠ 0 := h48
                            exfalso; omega
                          · replace h48 : (0 : Int) = 0 := by have q : ¬ ((0 : Int) ≠ 0) := h48; omega
                            refine e_Ok.run (t' := (98, [(6, (0, -p4)), (0, (1, 275)), (1, (0, p1)), (2, (0, p2)), (3, (0, p3)), (4, (0, p4)), (5, (0, p5))], [(0, (-1))], w)) 1 rfl ?_
                            refine e_Ok.rets rfl rfl ?_
                            exact ⟨_, rfl, Or.inl ⟨rfl, by omega⟩⟩
                      · replace h29 : (z28 : Int) = 0 := by have q : ¬ ((z28 : Int) ≠ 0) := h29; omega
                        refine e_Ok.run (t' := (91, [(6, (0, -p4)), (0, (1, 275)), (1, (0, p1)), (2, (0, p2)), (3, (0, p3)), (4, (0, p4)), (5, (0, p5))], [(0, p2), (0, p1)], w)) 2 rfl ?_
                        refine e_Ok.callS rfl (by omega) rfl rfl (c_272_ex (by omega)) (fun r49 w50 h51 => ?_)
                        obtain ⟨z52, rfl, rfl, q53⟩ := h51
                        obtain ⟨rfl, q53⟩ | ⟨rfl, q53⟩ := q53
                        · show e_Ok 20 elay ecode eI (d + 1) 286 (94, [(6, (0, -p4)), (0, (1, 275)), (1, (0, p1)), (2, (0, p2)), (3, (0, p3)), (4, (0, p4)), (5, (0, p5))], [(0, 1)], w) _
                          refine e_Ok.if1 rfl (fun h54 => ?_) (fun h54 => ?_)
                          · replace h54 : (1 : Int) ≠ 0 := h54
                            refine e_Ok.run (t' := (100, [(6, (0, -p4)), (0, (1, 275)), (1, (0, p1)), (2, (0, p2)), (3, (0, p3)), (4, (0, p4)), (5, (0, p5))], [(1, 275)], w)) 1 rfl ?_
                            refine e_Ok.getf (z := w 275 3) rfl rfl rfl rfl rfl (by omega) ?_
                            refine e_Ok.if1 rfl (fun h55 => ?_) (fun h55 => ?_)
                            · replace h55 : (w 275 3 : Int) = 0 := h55
                              refine e_Ok.run (t' := (110, [(6, (0, -p4)), (0, (1, 275)), (1, (0, p1)), (2, (0, p2)), (3, (0, p3)), (4, (0, p4)), (5, (0, p5))], [(1, 275)], w)) 1 rfl ?_
                              have h56 := (e_Has.get hT (c := 275) (k := 30) (lo := 0) (hi := 4) rfl (by decide))
                              refine e_Ok.getf (z := w 275 30) rfl rfl rfl rfl rfl (by omega) ?_
                              refine e_Ok.run (t' := (114, [(6, (0, -p4)), (0, (1, 275)), (1, (0, p1)), (2, (0, p2)), (3, (0, p3)), (4, (0, p4)), (5, (0, p5))], [(0, 4), (0, w 275 30)], w)) 1 rfl ?_
                              refine e_Ok.if2 rfl (fun h57 => ?_) (fun h57 => ?_)
                              · replace h57 : (w 275 30 : Int) ≠ 4 := h57
                                refine e_Ok.run (t' := (121, [(6, (0, -p4)), (0, (1, 275)), (1, (0, p1)), (2, (0, p2)), (3, (0, p3)), (4, (0, p4)), (5, (0, p5))], [(1, 275)], w)) 1 rfl ?_
                                refine e_Ok.getr (z := 300) rfl rfl rfl rfl (e_Has.eq hT rfl) (by omega) ?_
                                refine e_Ok.run (t' := (125, [(6, (0, -p4)), (0, (1, 275)), (1, (0, p1)), (2, (0, p2)), (3, (0, p3)), (4, (0, p4)), (5, (0, p5))], [(1, 275), (1, 300)], w)) 1 rfl ?_
                                refine e_Ok.getf (z := w 275 30) rfl rfl rfl rfl rfl (by omega) ?_
                                refine e_Ok.run (t' := (129, [(6, (0, -p4)), (0, (1, 275)), (1, (0, p1)), (2, (0, p2)), (3, (0, p3)), (4, (0, p4)), (5, (0, p5))], [(0, p1), (0, w 275 30), (1, 300)], w)) 1 rfl ?_
                                refine e_Ok.ast rfl rfl rfl rfl (by omega) ?_
                                generalize hw58 : e_up w 300 (w 275 30) p1 = w58
                                refine e_Ok.run (t' := (131, [(6, (0, -p4)), (0, (1, 275)), (1, (0, p1)), (2, (0, p2)), (3, (0, p3)), (4, (0, p4)), (5, (0, p5))], [(1, 275)], w58)) 1 rfl ?_
                                refine e_Ok.getr (z := 301) rfl rfl rfl rfl (by rw [← hw58]; exact (e_up_ne _ _ (Or.inl (by omega))).trans (e_Has.eq hT rfl)) (by omega) ?_
                                refine e_Ok.run (t' := (135, [(6, (0, -p4)), (0, (1, 275)), (1, (0, p1)), (2, (0, p2)), (3, (0, p3)), (4, (0, p4)), (5, (0, p5))], [(1, 275), (1, 301)], w58)) 1 rfl ?_
                                refine e_Ok.getf (z := w 275 30) rfl rfl rfl rfl (by rw [← hw58]; exact (e_up_ne _ _ (Or.inl (by omega))).trans rfl) (by omega) ?_
                                refine e_Ok.run (t' := (139, [(6, (0, -p4)), (0, (1, 275)), (1, (0, p1)), (2, (0, p2)), (3, (0, p3)), (4, (0, p4)), (5, (0, p5))], [(0, p2), (0, w 275 30), (1, 301)], w58)) 1 rfl ?_
                                refine e_Ok.ast rfl rfl rfl rfl (by omega) ?_
                                generalize hw59 : e_up w58 301 (w 275 30) p2 = w59
                                refine e_Ok.run (t' := (141, [(6, (0, -p4)), (0, (1, 275)), (1, (0, p1)), (2, (0, p2)), (3, (0, p3)), (4, (0, p4)), (5, (0, p5))], [(1, 275)], w59)) 1 rfl ?_
                                refine e_Ok.getr (z := 302) rfl rfl rfl rfl (by rw [← hw59]; exact (e_up_ne _ _ (Or.inl (by omega))).trans (by rw [← hw58]; exact (e_up_ne _ _ (Or.inl (by omega))).trans (e_Has.eq hT rfl))) (by omega) ?_
                                refine e_Ok.run (t' := (145, [(6, (0, -p4)), (0, (1, 275)), (1, (0, p1)), (2, (0, p2)), (3, (0, p3)), (4, (0, p4)), (5, (0, p5))], [(1, 275), (1, 302)], w59)) 1 rfl ?_
                                refine e_Ok.getf (z := w 275 30) rfl rfl rfl rfl (by rw [← hw59]; exact (e_up_ne _ _ (Or.inl (by omega))).trans (by rw [← hw58]; exact (e_up_ne _ _ (Or.inl (by omega))).trans rfl)) (by omega) ?_
                                refine e_Ok.run (t' := (149, [(6, (0, -p4)), (0, (1, 275)), (1, (0, p1)), (2, (0, p2)), (3, (0, p3)), (4, (0, p4)), (5, (0, p5))], [(0, p3), (0, w 275 30), (1, 302)], w59)) 1 rfl ?_
                                refine e_Ok.ast rfl rfl rfl rfl (by omega) ?_
                                generalize hw60 : e_up w59 302 (w 275 30) p3 = w60
                                refine e_Ok.run (t' := (151, [(6, (0, -p4)), (0, (1, 275)), (1, (0, p1)), (2, (0, p2)), (3, (0, p3)), (4, (0, p4)), (5, (0, p5))], [(1, 275)], w60)) 1 rfl ?_
                                refine e_Ok.getr (z := 303) rfl rfl rfl rfl (by rw [← hw60]; exact (e_up_ne _ _ (Or.inl (by omega))).trans (by rw [← hw59]; exact (e_up_ne _ _ (Or.inl (by omega))).trans (by rw [← hw58]; exact (e_up_ne _ _ (Or.inl (by omega))).trans (e_Has.eq hT rfl)))) (by omega) ?_
                                refine e_Ok.run (t' := (155, [(6, (0, -p4)), (0, (1, 275)), (1, (0, p1)), (2, (0, p2)), (3, (0, p3)), (4, (0, p4)), (5, (0, p5))], [(1, 275), (1, 303)], w60)) 1 rfl ?_
                                refine e_Ok.getf (z := w 275 30) rfl rfl rfl rfl (by rw [← hw60]; exact (e_up_ne _ _ (Or.inl (by omega))).trans (by rw [← hw59]; exact (e_up_ne _ _ (Or.inl (by omega))).trans (by rw [← hw58]; exact (e_up_ne _ _ (Or.inl (by omega))).trans rfl))) (by omega) ?_
                                refine e_Ok.run (t' := (160, [(6, (0, -p4)), (0, (1, 275)), (1, (0, p1)), (2, (0, p2)), (3, (0, p3)), (4, (0, p4)), (5, (0, p5))], [(0, p4), (0, w 275 30), (1, 303)], w60)) 1 rfl ?_
                                refine e_Ok.ast rfl rfl rfl rfl (by omega) ?_
                                generalize hw61 : e_up w60 303 (w 275 30) p4 = w61
                                refine e_Ok.run (t' := (162, [(6, (0, -p4)), (0, (1, 275)), (1, (0, p1)), (2, (0, p2)), (3, (0, p3)), (4, (0, p4)), (5, (0, p5))], [(1, 275)], w61)) 1 rfl ?_
                                refine e_Ok.getr (z := 304) rfl rfl rfl rfl (by rw [← hw61]; exact (e_up_ne _ _ (Or.inl (by omega))).trans (by rw [← hw60]; exact (e_up_ne _ _ (Or.inl (by omega))).trans (by rw [← hw59]; exact (e_up_ne _ _ (Or.inl (by omega))).trans (by rw [← hw58]; exact (e_up_ne _ _ (Or.inl (by omega))).trans (e_Has.eq hT rfl))))) (by omega) ?_
                                refine e_Ok.run (t' := (166, [(6, (0, -p4)), (0, (1, 275)), (1, (0, p1)), (2, (0, p2)), (3, (0, p3)), (4, (0, p4)), (5, (0, p5))], [(1, 275), (1, 304)], w61)) 1 rfl ?_
                                refine e_Ok.getf (z := w 275 30) rfl rfl rfl rfl (by rw [← hw61]; exact (e_up_ne _ _ (Or.inl (by omega))).trans (by rw [← hw60]; exact (e_up_ne _ _ (Or.inl (by omega))).trans (by rw [← hw59]; exact (e_up_ne _ _ (Or.inl (by omega))).trans (by rw [← hw58]; exact (e_up_ne _ _ (Or.inl (by omega))).trans rfl)))) (by omega) ?_
                                refine e_Ok.run (t' := (170, [(6, (0, -p4)), (0, (1, 275)), (1, (0, p1)), (2, (0, p2)), (3, (0, p3)), (4, (0, p4)), (5, (0, p5))], [(0, 0), (0, w 275 30), (1, 304)], w61)) 1 rfl ?_
                                refine e_Ok.ast rfl rfl rfl rfl (by omega) ?_
                                generalize hw62 : e_up w61 304 (w 275 30) 0 = w62
                                refine e_Ok.run (t' := (172, [(6, (0, -p4)), (0, (1, 275)), (1, (0, p1)), (2, (0, p2)), (3, (0, p3)), (4, (0, p4)), (5, (0, p5))], [(1, 275)], w62)) 1 rfl ?_
                                refine e_Ok.getr (z := 306) rfl rfl rfl rfl (by rw [← hw62]; exact (e_up_ne _ _ (Or.inl (by omega))).trans (by rw [← hw61]; exact (e_up_ne _ _ (Or.inl (by omega))).trans (by rw [← hw60]; exact (e_up_ne _ _ (Or.inl (by omega))).trans (by rw [← hw59]; exact (e_up_ne _ _ (Or.inl (by omega))).trans (by rw [← hw58]; exact (e_up_ne _ _ (Or.inl (by omega))).trans (e_Has.eq hT rfl)))))) (by omega) ?_
                                refine e_Ok.run (t' := (176, [(6, (0, -p4)), (0, (1, 275)), (1, (0, p1)), (2, (0, p2)), (3, (0, p3)), (4, (0, p4)), (5, (0, p5))], [(1, 275), (1, 306)], w62)) 1 rfl ?_
                                refine e_Ok.getf (z := w 275 30) rfl rfl rfl rfl (by rw [← hw62]; exact (e_up_ne _ _ (Or.inl (by omega))).trans (by rw [← hw61]; exact (e_up_ne _ _ (Or.inl (by omega))).trans (by rw [← hw60]; exact (e_up_ne _ _ (Or.inl (by omega))).trans (by rw [← hw59]; exact (e_up_ne _ _ (Or.inl (by omega))).trans (by rw [← hw58]; exact (e_up_ne _ _ (Or.inl (by omega))).trans rfl))))) (by omega) ?_
                                refine e_Ok.run (t' := (180, [(6, (0, -p4)), (0, (1, 275)), (1, (0, p1)), (2, (0, p2)), (3, (0, p3)), (4, (0, p4)), (5, (0, p5))], [(0, (-1)), (0, w 275 30), (1, 306)], w62)) 1 rfl ?_
                                refine e_Ok.ast rfl rfl rfl rfl (by omega) ?_
                                generalize hw63 : e_up w62 306 (w 275 30) (-1) = w63
                                refine e_Ok.run (t' := (182, [(6, (0, -p4)), (0, (1, 275)), (1, (0, p1)), (2, (0, p2)), (3, (0, p3)), (4, (0, p4)), (5, (0, p5))], [(1, 275)], w63)) 1 rfl ?_
                                refine e_Ok.getr (z := 305) rfl rfl rfl rfl (by rw [← hw63]; exact (e_up_ne _ _ (Or.inl (by omega))).trans (by rw [← hw62]; exact (e_up_ne _ _ (Or.inl (by omega))).trans (by rw [← hw61]; exact (e_up_ne _ _ (Or.inl (by omega))).trans (by rw [← hw60]; exact (e_up_ne _ _ (Or.inl (by omega))).trans (by rw [← hw59]; exact (e_up_ne _ _ (Or.inl (by omega))).trans (by rw [← hw58]; exact (e_up_ne _ _ (Or.inl (by omega))).trans (e_Has.eq hT rfl))))))) (by omega) ?_
                                refine e_Ok.run (t' := (186, [(6, (0, -p4)), (0, (1, 275)), (1, (0, p1)), (2, (0, p2)), (3, (0, p3)), (4, (0, p4)), (5, (0, p5))], [(1, 275), (1, 305)], w63)) 1 rfl ?_
                                refine e_Ok.getf (z := w 275 30) rfl rfl rfl rfl (by rw [← hw63]; exact (e_up_ne _ _ (Or.inl (by omega))).trans (by rw [← hw62]; exact (e_up_ne _ _ (Or.inl (by omega))).trans (by rw [← hw61]; exact (e_up_ne _ _ (Or.inl (by omega))).trans (by rw [← hw60]; exact (e_up_ne _ _ (Or.inl (by omega))).trans (by rw [← hw59]; exact (e_up_ne _ _ (Or.inl (by omega))).trans (by rw [← hw58]; exact (e_up_ne _ _ (Or.inl (by omega))).trans rfl)))))) (by omega) ?_
                                refine e_Ok.run (t' := (191, [(6, (0, -p4)), (0, (1, 275)), (1, (0, p1)), (2, (0, p2)), (3, (0, p3)), (4, (0, p4)), (5, (0, p5))], [(0, p5), (0, w 275 30), (1, 305)], w63)) 1 rfl ?_
                                refine e_Ok.ast rfl rfl rfl rfl (by omega) ?_
                                generalize hw64 : e_up w63 305 (w 275 30) p5 = w64
                                refine e_Ok.run (t' := (194, [(6, (0, -p4)), (0, (1, 275)), (1, (0, p1)), (2, (0, p2)), (3, (0, p3)), (4, (0, p4)), (5, (0, p5))], [(1, 275), (1, 275)], w64)) 2 rfl ?_
                                refine e_Ok.getf (z := w 275 30) rfl rfl rfl rfl (by rw [← hw64]; exact (e_up_ne _ _ (Or.inl (by omega))).trans (by rw [← hw63]; exact (e_up_ne _ _ (Or.inl (by omega))).trans (by rw [← hw62]; exact (e_up_ne _ _ (Or.inl (by omega))).trans (by rw [← hw61]; exact (e_up_ne _ _ (Or.inl (by omega))).trans (by rw [← hw60]; exact (e_up_ne _ _ (Or.inl (by omega))).trans (by rw [← hw59]; exact (e_up_ne _ _ (Or.inl (by omega))).trans (by rw [← hw58]; exact (e_up_ne _ _ (Or.inl (by omega))).trans rfl))))))) (by omega) ?_
                                refine e_Ok.run (t' := (198, [(6, (0, -p4)), (0, (1, 275)), (1, (0, p1)), (2, (0, p2)), (3, (0, p3)), (4, (0, p4)), (5, (0, p5))], [(0, 1), (0, w 275 30), (1, 275)], w64)) 1 rfl ?_
                                refine e_Ok.add (z := w 275 30 + 1) rfl (by omega) (by omega) ?_
                                refine e_Ok.putf rfl rfl rfl rfl ?_
                                generalize hw65 : e_up w64 275 30 (w 275 30 + 1) = w65
                                refine e_Ok.run (t' := (203, [(6, (0, -p4)), (0, (1, 275)), (1, (0, p1)), (2, (0, p2)), (3, (0, p3)), (4, (0, p4)), (5, (0, p5))], [(1, 275)], w65)) 1 rfl ?_
                                refine e_Ok.getf (z := w 275 30 + 1) rfl rfl rfl rfl (by rw [← hw65]; exact e_up_eq _ _ _ _) (by omega) ?_
                                refine e_Ok.run (t' := (207, [(6, (0, -p4)), (0, (1, 275)), (1, (0, p1)), (2, (0, p2)), (3, (0, p3)), (4, (0, p4)), (5, (0, p5))], [(0, 1), (0, w 275 30 + 1)], w65)) 1 rfl ?_
                                refine e_Ok.sub' (z := w 275 30) rfl (by omega) (by omega) ?_
                                refine e_Ok.rets rfl rfl ?_
                                exact ⟨_, rfl, Or.inr ⟨by omega, by omega, by rw [← hw65, ← hw64, ← hw63, ← hw62, ← hw61, ← hw60, ← hw59, ← hw58]⟩⟩
                              · replace h57 : (w 275 30 : Int) = 4 := by have q : ¬ ((w 275 30 : Int) ≠ 4) := h57; omega
                                refine e_Ok.run (t' := (119, [(6, (0, -p4)), (0, (1, 275)), (1, (0, p1)), (2, (0, p2)), (3, (0, p3)), (4, (0, p4)), (5, (0, p5))], [(0, (-3))], w)) 1 rfl ?_
                                refine e_Ok.rets rfl rfl ?_
                                exact ⟨_, rfl, Or.inl ⟨rfl, by omega⟩⟩
                            · replace h55 : (w 275 3 : Int) ≠ 0 := by have q : ¬ ((w 275 3 : Int) = 0) := h55; omega
                              refine e_Ok.run (t' := (108, [(6, (0, -p4)), (0, (1, 275)), (1, (0, p1)), (2, (0, p2)), (3, (0, p3)), (4, (0, p4)), (5, (0, p5))], [(0, (-2))], w)) 1 rfl ?_
                              refine e_Ok.rets rfl rfl ?_
                              exact ⟨_, rfl, Or.inl ⟨rfl, by omega⟩⟩
                          · replace h54 : (1 : Int) = 0 := by have q : ¬ ((1 : Int) ≠ 0) := h54; omega
                            exfalso; omega
                        · show e_Ok 20 elay ecode eI (d + 1) 286 (94, [(6, (0, -p4)), (0, (1, 275)), (1, (0, p1)), (2, (0, p2)), (3, (0, p3)), (4, (0, p4)), (5, (0, p5))], [(0, 0)], w) _
                          refine e_Ok.if1 rfl (fun h66 => ?_) (fun h66 => ?_)
                          · replace h66 : (0 : Int) ≠ 0 := h66
                            exfalso; omega
                          · replace h66 : (0 : Int) = 0 := by have q : ¬ ((0 : Int) ≠ 0) := h66; omega
                            refine e_Ok.run (t' := (98, [(6, (0, -p4)), (0, (1, 275)), (1, (0, p1)), (2, (0, p2)), (3, (0, p3)), (4, (0, p4)), (5, (0, p5))], [(0, (-1))], w)) 1 rfl ?_
                            refine e_Ok.rets rfl rfl ?_
                            exact ⟨_, rfl, Or.inl ⟨rfl, by omega⟩⟩
                    · replace h27 : (z26 : Int) = 0 := by have q : ¬ ((z26 : Int) ≠ 0) := h27; omega
                      refine e_Ok.run (t' := (72, [(6, (0, -p4)), (0, (1, 275)), (1, (0, p1)), (2, (0, p2)), (3, (0, p3)), (4, (0, p4)), (5, (0, p5))], [(0, -p4), (0, p1)], w)) 2 rfl ?_
                      refine e_Ok.add (z := p1 - p4) rfl (by omega) (by omega) ?_
                      refine e_Ok.run (t' := (79, [(6, (0, -p4)), (0, (1, 275)), (1, (0, p1)), (2, (0, p2)), (3, (0, p3)), (4, (0, p4)), (5, (0, p5))], [(0, 2), (0, p3), (0, p1 - p4)], w)) 3 rfl ?_
                      refine e_Ok.remn (fun z67 hz67 => ?_) rfl (by omega) (by omega)
                      replace hz67 : z67 = p3 % 2 := hz67
                      have z67r : 0 ≤ z67 ∧ z67 ≤ 1 := by omega
                      refine e_Ok.if1 rfl (fun h68 => ?_) (fun h68 => ?_)
                      · replace h68 : (z67 : Int) ≠ 0 := h68
                        refine e_Ok.run (t' := (90, [(6, (0, -p4)), (0, (1, 275)), (1, (0, p1)), (2, (0, p2)), (3, (0, p3)), (4, (0, p4)), (5, (0, p5))], [(0, -p4), (0, p2), (0, p1 - p4)], w)) 2 rfl ?_
                        refine e_Ok.add (z := p2 - p4) rfl (by omega) (by omega) ?_
                        refine e_Ok.callS rfl (by omega) rfl rfl (c_272_ex (by omega)) (fun r69 w70 h71 => ?_)
                        obtain ⟨z72, rfl, rfl, q73⟩ := h71
                        obtain ⟨rfl, q73⟩ | ⟨rfl, q73⟩ := q73
                        · show e_Ok 20 elay ecode eI (d + 1) 286 (94, [(6, (0, -p4)), (0, (1, 275)), (1, (0, p1)), (2, (0, p2)), (3, (0, p3)), (4, (0, p4)), (5, (0, p5))], [(0, 1)], w) _
                          refine e_Ok.if1 rfl (fun h74 => ?_) (fun h74 => ?_)
                          · replace h74 : (1 : Int) ≠ 0 := h74
                            refine e_Ok.run (t' := (100, [(6, (0, -p4)), (0, (1, 275)), (1, (0, p1)), (2, (0, p2)), (3, (0, p3)), (4, (0, p4)), (5, (0, p5))], [(1, 275)], w)) 1 rfl ?_
                            refine e_Ok.getf (z := w 275 3) rfl rfl rfl rfl rfl (by omega) ?_
                            refine e_Ok.if1 rfl (fun h75 => ?_) (fun h75 => ?_)
                            · replace h75 : (w 275 3 : Int) = 0 := h75
                              refine e_Ok.run (t' := (110, [(6, (0, -p4)), (0, (1, 275)), (1, (0, p1)), (2, (0, p2)), (3, (0, p3)), (4, (0, p4)), (5, (0, p5))], [(1, 275)], w)) 1 rfl ?_
                              have h76 := (e_Has.get hT (c := 275) (k := 30) (lo := 0) (hi := 4) rfl (by decide))
                              refine e_Ok.getf (z := w 275 30) rfl rfl rfl rfl rfl (by omega) ?_
                              refine e_Ok.run (t' := (114, [(6, (0, -p4)), (0, (1, 275)), (1, (0, p1)), (2, (0, p2)), (3, (0, p3)), (4, (0, p4)), (5, (0, p5))], [(0, 4), (0, w 275 30)], w)) 1 rfl ?_
                              refine e_Ok.if2 rfl (fun h77 => ?_) (fun h77 => ?_)
                              · replace h77 : (w 275 30 : Int) ≠ 4 := h77
                                refine e_Ok.run (t' := (121, [(6, (0, -p4)), (0, (1, 275)), (1, (0, p1)), (2, (0, p2)), (3, (0, p3)), (4, (0, p4)), (5, (0, p5))], [(1, 275)], w)) 1 rfl ?_
                                refine e_Ok.getr (z := 300) rfl rfl rfl rfl (e_Has.eq hT rfl) (by omega) ?_
                                refine e_Ok.run (t' := (125, [(6, (0, -p4)), (0, (1, 275)), (1, (0, p1)), (2, (0, p2)), (3, (0, p3)), (4, (0, p4)), (5, (0, p5))], [(1, 275), (1, 300)], w)) 1 rfl ?_
                                refine e_Ok.getf (z := w 275 30) rfl rfl rfl rfl rfl (by omega) ?_
                                refine e_Ok.run (t' := (129, [(6, (0, -p4)), (0, (1, 275)), (1, (0, p1)), (2, (0, p2)), (3, (0, p3)), (4, (0, p4)), (5, (0, p5))], [(0, p1), (0, w 275 30), (1, 300)], w)) 1 rfl ?_
                                refine e_Ok.ast rfl rfl rfl rfl (by omega) ?_
                                generalize hw78 : e_up w 300 (w 275 30) p1 = w78
                                refine e_Ok.run (t' := (131, [(6, (0, -p4)), (0, (1, 275)), (1, (0, p1)), (2, (0, p2)), (3, (0, p3)), (4, (0, p4)), (5, (0, p5))], [(1, 275)], w78)) 1 rfl ?_
                                refine e_Ok.getr (z := 301) rfl rfl rfl rfl (by rw [← hw78]; exact (e_up_ne _ _ (Or.inl (by omega))).trans (e_Has.eq hT rfl)) (by omega) ?_
                                refine e_Ok.run (t' := (135, [(6, (0, -p4)), (0, (1, 275)), (1, (0, p1)), (2, (0, p2)), (3, (0, p3)), (4, (0, p4)), (5, (0, p5))], [(1, 275), (1, 301)], w78)) 1 rfl ?_
                                refine e_Ok.getf (z := w 275 30) rfl rfl rfl rfl (by rw [← hw78]; exact (e_up_ne _ _ (Or.inl (by omega))).trans rfl) (by omega) ?_
                                refine e_Ok.run (t' := (139, [(6, (0, -p4)), (0, (1, 275)), (1, (0, p1)), (2, (0, p2)), (3, (0, p3)), (4, (0, p4)), (5, (0, p5))], [(0, p2), (0, w 275 30), (1, 301)], w78)) 1 rfl ?_
                                refine e_Ok.ast rfl rfl rfl rfl (by omega) ?_
                                generalize hw79 : e_up w78 301 (w 275 30) p2 = w79
                                refine e_Ok.run (t' := (141, [(6, (0, -p4)), (0, (1, 275)), (1, (0, p1)), (2, (0, p2)), (3, (0, p3)), (4, (0, p4)), (5, (0, p5))], [(1, 275)], w79)) 1 rfl ?_
                                refine e_Ok.getr (z := 302) rfl rfl rfl rfl (by rw [← hw79]; exact (e_up_ne _ _ (Or.inl (by omega))).trans (by rw [← hw78]; exact (e_up_ne _ _ (Or.inl (by omega))).trans (e_Has.eq hT rfl))) (by omega) ?_
                                refine e_Ok.run (t' := (145, [(6, (0, -p4)), (0, (1, 275)), (1, (0, p1)), (2, (0, p2)), (3, (0, p3)), (4, (0, p4)), (5, (0, p5))], [(1, 275), (1, 302)], w79)) 1 rfl ?_
                                refine e_Ok.getf (z := w 275 30) rfl rfl rfl rfl (by rw [← hw79]; exact (e_up_ne _ _ (Or.inl (by omega))).trans (by rw [← hw78]; exact (e_up_ne _ _ (Or.inl (by omega))).trans rfl)) (by omega) ?_
                                refine e_Ok.run (t' := (149, [(6, (0, -p4)), (0, (1, 275)), (1, (0, p1)), (2, (0, p2)), (3, (0, p3)), (4, (0, p4)), (5, (0, p5))], [(0, p3), (0, w 275 30), (1, 302)], w79)) 1 rfl ?_
                                refine e_Ok.ast rfl rfl rfl rfl (by omega) ?_
                                generalize hw80 : e_up w79 302 (w 275 30) p3 = w80
                                refine e_Ok.run (t' := (151, [(6, (0, -p4)), (0, (1, 275)), (1, (0, p1)), (2, (0, p2)), (3, (0, p3)), (4, (0, p4)), (5, (0, p5))], [(1, 275)], w80)) 1 rfl ?_
                                refine e_Ok.getr (z := 303) rfl rfl rfl rfl (by rw [← hw80]; exact (e_up_ne _ _ (Or.inl (by omega))).trans (by rw [← hw79]; exact (e_up_ne _ _ (Or.inl (by omega))).trans (by rw [← hw78]; exact (e_up_ne _ _ (Or.inl (by omega))).trans (e_Has.eq hT rfl)))) (by omega) ?_
                                refine e_Ok.run (t' := (155, [(6, (0, -p4)), (0, (1, 275)), (1, (0, p1)), (2, (0, p2)), (3, (0, p3)), (4, (0, p4)), (5, (0, p5))], [(1, 275), (1, 303)], w80)) 1 rfl ?_
                                refine e_Ok.getf (z := w 275 30) rfl rfl rfl rfl (by rw [← hw80]; exact (e_up_ne _ _ (Or.inl (by omega))).trans (by rw [← hw79]; exact (e_up_ne _ _ (Or.inl (by omega))).trans (by rw [← hw78]; exact (e_up_ne _ _ (Or.inl (by omega))).trans rfl))) (by omega) ?_
                                refine e_Ok.run (t' := (160, [(6, (0, -p4)), (0, (1, 275)), (1, (0, p1)), (2, (0, p2)), (3, (0, p3)), (4, (0, p4)), (5, (0, p5))], [(0, p4), (0, w 275 30), (1, 303)], w80)) 1 rfl ?_
                                refine e_Ok.ast rfl rfl rfl rfl (by omega) ?_
                                generalize hw81 : e_up w80 303 (w 275 30) p4 = w81
                                refine e_Ok.run (t' := (162, [(6, (0, -p4)), (0, (1, 275)), (1, (0, p1)), (2, (0, p2)), (3, (0, p3)), (4, (0, p4)), (5, (0, p5))], [(1, 275)], w81)) 1 rfl ?_
                                refine e_Ok.getr (z := 304) rfl rfl rfl rfl (by rw [← hw81]; exact (e_up_ne _ _ (Or.inl (by omega))).trans (by rw [← hw80]; exact (e_up_ne _ _ (Or.inl (by omega))).trans (by rw [← hw79]; exact (e_up_ne _ _ (Or.inl (by omega))).trans (by rw [← hw78]; exact (e_up_ne _ _ (Or.inl (by omega))).trans (e_Has.eq hT rfl))))) (by omega) ?_
                                refine e_Ok.run (t' := (166, [(6, (0, -p4)), (0, (1, 275)), (1, (0, p1)), (2, (0, p2)), (3, (0, p3)), (4, (0, p4)), (5, (0, p5))], [(1, 275), (1, 304)], w81)) 1 rfl ?_
                                refine e_Ok.getf (z := w 275 30) rfl rfl rfl rfl (by rw [← hw81]; exact (e_up_ne _ _ (Or.inl (by omega))).trans (by rw [← hw80]; exact (e_up_ne _ _ (Or.inl (by omega))).trans (by rw [← hw79]; exact (e_up_ne _ _ (Or.inl (by omega))).trans (by rw [← hw78]; exact (e_up_ne _ _ (Or.inl (by omega))).trans rfl)))) (by omega) ?_
                                refine e_Ok.run (t' := (170, [(6, (0, -p4)), (0, (1, 275)), (1, (0, p1)), (2, (0, p2)), (3, (0, p3)), (4, (0, p4)), (5, (0, p5))], [(0, 0), (0, w 275 30), (1, 304)], w81)) 1 rfl ?_
                                refine e_Ok.ast rfl rfl rfl rfl (by omega) ?_
                                generalize hw82 : e_up w81 304 (w 275 30) 0 = w82
                                refine e_Ok.run (t' := (172, [(6, (0, -p4)), (0, (1, 275)), (1, (0, p1)), (2, (0, p2)), (3, (0, p3)), (4, (0, p4)), (5, (0, p5))], [(1, 275)], w82)) 1 rfl ?_
                                refine e_Ok.getr (z := 306) rfl rfl rfl rfl (by rw [← hw82]; exact (e_up_ne _ _ (Or.inl (by omega))).trans (by rw [← hw81]; exact (e_up_ne _ _ (Or.inl (by omega))).trans (by rw [← hw80]; exact (e_up_ne _ _ (Or.inl (by omega))).trans (by rw [← hw79]; exact (e_up_ne _ _ (Or.inl (by omega))).trans (by rw [← hw78]; exact (e_up_ne _ _ (Or.inl (by omega))).trans (e_Has.eq hT rfl)))))) (by omega) ?_
                                refine e_Ok.run (t' := (176, [(6, (0, -p4)), (0, (1, 275)), (1, (0, p1)), (2, (0, p2)), (3, (0, p3)), (4, (0, p4)), (5, (0, p5))], [(1, 275), (1, 306)], w82)) 1 rfl ?_
                                refine e_Ok.getf (z := w 275 30) rfl rfl rfl rfl (by rw [← hw82]; exact (e_up_ne _ _ (Or.inl (by omega))).trans (by rw [← hw81]; exact (e_up_ne _ _ (Or.inl (by omega))).trans (by rw [← hw80]; exact (e_up_ne _ _ (Or.inl (by omega))).trans (by rw [← hw79]; exact (e_up_ne _ _ (Or.inl (by omega))).trans (by rw [← hw78]; exact (e_up_ne _ _ (Or.inl (by omega))).trans rfl))))) (by omega) ?_
                                refine e_Ok.run (t' := (180, [(6, (0, -p4)), (0, (1, 275)), (1, (0, p1)), (2, (0, p2)), (3, (0, p3)), (4, (0, p4)), (5, (0, p5))], [(0, (-1)), (0, w 275 30), (1, 306)], w82)) 1 rfl ?_
                                refine e_Ok.ast rfl rfl rfl rfl (by omega) ?_
                                generalize hw83 : e_up w82 306 (w 275 30) (-1) = w83
                                refine e_Ok.run (t' := (182, [(6, (0, -p4)), (0, (1, 275)), (1, (0, p1)), (2, (0, p2)), (3, (0, p3)), (4, (0, p4)), (5, (0, p5))], [(1, 275)], w83)) 1 rfl ?_
                                refine e_Ok.getr (z := 305) rfl rfl rfl rfl (by rw [← hw83]; exact (e_up_ne _ _ (Or.inl (by omega))).trans (by rw [← hw82]; exact (e_up_ne _ _ (Or.inl (by omega))).trans (by rw [← hw81]; exact (e_up_ne _ _ (Or.inl (by omega))).trans (by rw [← hw80]; exact (e_up_ne _ _ (Or.inl (by omega))).trans (by rw [← hw79]; exact (e_up_ne _ _ (Or.inl (by omega))).trans (by rw [← hw78]; exact (e_up_ne _ _ (Or.inl (by omega))).trans (e_Has.eq hT rfl))))))) (by omega) ?_
                                refine e_Ok.run (t' := (186, [(6, (0, -p4)), (0, (1, 275)), (1, (0, p1)), (2, (0, p2)), (3, (0, p3)), (4, (0, p4)), (5, (0, p5))], [(1, 275), (1, 305)], w83)) 1 rfl ?_
                                refine e_Ok.getf (z := w 275 30) rfl rfl rfl rfl (by rw [← hw83]; exact (e_up_ne _ _ (Or.inl (by omega))).trans (by rw [← hw82]; exact (e_up_ne _ _ (Or.inl (by omega))).trans (by rw [← hw81]; exact (e_up_ne _ _ (Or.inl (by omega))).trans (by rw [← hw80]; exact (e_up_ne _ _ (Or.inl (by omega))).trans (by rw [← hw79]; exact (e_up_ne _ _ (Or.inl (by omega))).trans (by rw [← hw78]; exact (e_up_ne _ _ (Or.inl (by omega))).trans rfl)))))) (by omega) ?_
                                refine e_Ok.run (t' := (191, [(6, (0, -p4)), (0, (1, 275)), (1, (0, p1)), (2, (0, p2)), (3, (0, p3)), (4, (0, p4)), (5, (0, p5))], [(0, p5), (0, w 275 30), (1, 305)], w83)) 1 rfl ?_
                                refine e_Ok.ast rfl rfl rfl rfl (by omega) ?_
                                generalize hw84 : e_up w83 305 (w 275 30) p5 = w84
                                refine e_Ok.run (t' := (194, [(6, (0, -p4)), (0, (1, 275)), (1, (0, p1)), (2, (0, p2)), (3, (0, p3)), (4, (0, p4)), (5, (0, p5))], [(1, 275), (1, 275)], w84)) 2 rfl ?_
                                refine e_Ok.getf (z := w 275 30) rfl rfl rfl rfl (by rw [← hw84]; exact (e_up_ne _ _ (Or.inl (by omega))).trans (by rw [← hw83]; exact (e_up_ne _ _ (Or.inl (by omega))).trans (by rw [← hw82]; exact (e_up_ne _ _ (Or.inl (by omega))).trans (by rw [← hw81]; exact (e_up_ne _ _ (Or.inl (by omega))).trans (by rw [← hw80]; exact (e_up_ne _ _ (Or.inl (by omega))).trans (by rw [← hw79]; exact (e_up_ne _ _ (Or.inl (by omega))).trans (by rw [← hw78]; exact (e_up_ne _ _ (Or.inl (by omega))).trans rfl))))))) (by omega) ?_
                                refine e_Ok.run (t' := (198, [(6, (0, -p4)), (0, (1, 275)), (1, (0, p1)), (2, (0, p2)), (3, (0, p3)), (4, (0, p4)), (5, (0, p5))], [(0, 1), (0, w 275 30), (1, 275)], w84)) 1 rfl ?_
                                refine e_Ok.add (z := w 275 30 + 1) rfl (by omega) (by omega) ?_
                                refine e_Ok.putf rfl rfl rfl rfl ?_
                                generalize hw85 : e_up w84 275 30 (w 275 30 + 1) = w85
                                refine e_Ok.run (t' := (203, [(6, (0, -p4)), (0, (1, 275)), (1, (0, p1)), (2, (0, p2)), (3, (0, p3)), (4, (0, p4)), (5, (0, p5))], [(1, 275)], w85)) 1 rfl ?_
                                refine e_Ok.getf (z := w 275 30 + 1) rfl rfl rfl rfl (by rw [← hw85]; exact e_up_eq _ _ _ _) (by omega) ?_
                                refine e_Ok.run (t' := (207, [(6, (0, -p4)), (0, (1, 275)), (1, (0, p1)), (2, (0, p2)), (3, (0, p3)), (4, (0, p4)), (5, (0, p5))], [(0, 1), (0, w 275 30 + 1)], w85)) 1 rfl ?_
                                refine e_Ok.sub' (z := w 275 30) rfl (by omega) (by omega) ?_
                                refine e_Ok.rets rfl rfl ?_
                                exact ⟨_, rfl, Or.inr ⟨by omega, by omega, by rw [← hw85, ← hw84, ← hw83, ← hw82, ← hw81, ← hw80, ← hw79, ← hw78]⟩⟩
                              · replace h77 : (w 275 30 : Int) = 4 := by have q : ¬ ((w 275 30 : Int) ≠ 4) := h77; omega
                                refine e_Ok.run (t' := (119, [(6, (0, -p4)), (0, (1, 275)), (1, (0, p1)), (2, (0, p2)), (3, (0, p3)), (4, (0, p4)), (5, (0, p5))], [(0, (-3))], w)) 1 rfl ?_
                                refine e_Ok.rets rfl rfl ?_
                                exact ⟨_, rfl, Or.inl ⟨rfl, by omega⟩⟩
                            · replace h75 : (w 275 3 : Int) ≠ 0 := by have q : ¬ ((w 275 3 : Int) = 0) := h75; omega
                              refine e_Ok.run (t' := (108, [(6, (0, -p4)), (0, (1, 275)), (1, (0, p1)), (2, (0, p2)), (3, (0, p3)), (4, (0, p4)), (5, (0, p5))], [(0, (-2))], w)) 1 rfl ?_
                              refine e_Ok.rets rfl rfl ?_
                              exact ⟨_, rfl, Or.inl ⟨rfl, by omega⟩⟩
                          · replace h74 : (1 : Int) = 0 := by have q : ¬ ((1 : Int) ≠ 0) := h74; omega
                            exfalso; omega
                        · show e_Ok 20 elay ecode eI (d + 1) 286 (94, [(6, (0, -p4)), (0, (1, 275)), (1, (0, p1)), (2, (0, p2)), (3, (0, p3)), (4, (0, p4)), (5, (0, p5))], [(0, 0)], w) _
                          refine e_Ok.if1 rfl (fun h86 => ?_) (fun h86 => ?_)
                          · replace h86 : (0 : Int) ≠ 0 := h86
                            exfalso; omega
                          · replace h86 : (0 : Int) = 0 := by have q : ¬ ((0 : Int) ≠ 0) := h86; omega
                            refine e_Ok.run (t' := (98, [(6, (0, -p4)), (0, (1, 275)), (1, (0, p1)), (2, (0, p2)), (3, (0, p3)), (4, (0, p4)), (5, (0, p5))], [(0, (-1))], w)) 1 rfl ?_
                            refine e_Ok.rets rfl rfl ?_
                            exact ⟨_, rfl, Or.inl ⟨rfl, by omega⟩⟩
                      · replace h68 : (z67 : Int) = 0 := by have q : ¬ ((z67 : Int) ≠ 0) := h68; omega
                        refine e_Ok.run (t' := (91, [(6, (0, -p4)), (0, (1, 275)), (1, (0, p1)), (2, (0, p2)), (3, (0, p3)), (4, (0, p4)), (5, (0, p5))], [(0, p2), (0, p1 - p4)], w)) 2 rfl ?_
                        refine e_Ok.callS rfl (by omega) rfl rfl (c_272_ex (by omega)) (fun r87 w88 h89 => ?_)
                        obtain ⟨z90, rfl, rfl, q91⟩ := h89
                        obtain ⟨rfl, q91⟩ | ⟨rfl, q91⟩ := q91
                        · show e_Ok 20 elay ecode eI (d + 1) 286 (94, [(6, (0, -p4)), (0, (1, 275)), (1, (0, p1)), (2, (0, p2)), (3, (0, p3)), (4, (0, p4)), (5, (0, p5))], [(0, 1)], w) _
                          refine e_Ok.if1 rfl (fun h92 => ?_) (fun h92 => ?_)
                          · replace h92 : (1 : Int) ≠ 0 := h92
                            refine e_Ok.run (t' := (100, [(6, (0, -p4)), (0, (1, 275)), (1, (0, p1)), (2, (0, p2)), (3, (0, p3)), (4, (0, p4)), (5, (0, p5))], [(1, 275)], w)) 1 rfl ?_
                            refine e_Ok.getf (z := w 275 3) rfl rfl rfl rfl rfl (by omega) ?_
                            refine e_Ok.if1 rfl (fun h93 => ?_) (fun h93 => ?_)
                            · replace h93 : (w 275 3 : Int) = 0 := h93
                              refine e_Ok.run (t' := (110, [(6, (0, -p4)), (0, (1, 275)), (1, (0, p1)), (2, (0, p2)), (3, (0, p3)), (4, (0, p4)), (5, (0, p5))], [(1, 275)], w)) 1 rfl ?_
                              have h94 := (e_Has.get hT (c := 275) (k := 30) (lo := 0) (hi := 4) rfl (by decide))
                              refine e_Ok.getf (z := w 275 30) rfl rfl rfl rfl rfl (by omega) ?_
                              refine e_Ok.run (t' := (114, [(6, (0, -p4)), (0, (1, 275)), (1, (0, p1)), (2, (0, p2)), (3, (0, p3)), (4, (0, p4)), (5, (0, p5))], [(0, 4), (0, w 275 30)], w)) 1 rfl ?_
                              refine e_Ok.if2 rfl (fun h95 => ?_) (fun h95 => ?_)
                              · replace h95 : (w 275 30 : Int) ≠ 4 := h95
                                refine e_Ok.run (t' := (121, [(6, (0, -p4)), (0, (1, 275)), (1, (0, p1)), (2, (0, p2)), (3, (0, p3)), (4, (0, p4)), (5, (0, p5))], [(1, 275)], w)) 1 rfl ?_
                                refine e_Ok.getr (z := 300) rfl rfl rfl rfl (e_Has.eq hT rfl) (by omega) ?_
                                refine e_Ok.run (t' := (125, [(6, (0, -p4)), (0, (1, 275)), (1, (0, p1)), (2, (0, p2)), (3, (0, p3)), (4, (0, p4)), (5, (0, p5))], [(1, 275), (1, 300)], w)) 1 rfl ?_
                                refine e_Ok.getf (z := w 275 30) rfl rfl rfl rfl rfl (by omega) ?_
                                refine e_Ok.run (t' := (129, [(6, (0, -p4)), (0, (1, 275)), (1, (0, p1)), (2, (0, p2)), (3, (0, p3)), (4, (0, p4)), (5, (0, p5))], [(0, p1), (0, w 275 30), (1, 300)], w)) 1 rfl ?_
                                refine e_Ok.ast rfl rfl rfl rfl (by omega) ?_
                                generalize hw101 : e_up w 300 (w 275 30) p1 = w101
                                refine e_Ok.run (t' := (131, [(6, (0, -p4)), (0, (1, 275)), (1, (0, p1)), (2, (0, p2)), (3, (0, p3)), (4, (0, p4)), (5, (0, p5))], [(1, 275)], w101)) 1 rfl ?_
                                refine e_Ok.getr (z := 301) rfl rfl rfl rfl (by rw [← hw101]; exact (e_up_ne _ _ (Or.inl (by omega))).trans (e_Has.eq hT rfl)) (by omega) ?_
                                refine e_Ok.run (t' := (135, [(6, (0, -p4)), (0, (1, 275)), (1, (0, p1)), (2, (0, p2)), (3, (0, p3)), (4, (0, p4)), (5, (0, p5))], [(1, 275), (1, 301)], w101)) 1 rfl ?_
                                refine e_Ok.getf (z := w 275 30) rfl rfl rfl rfl (by rw [← hw101]; exact (e_up_ne _ _ (Or.inl (by omega))).trans rfl) (by omega) ?_
                                refine e_Ok.run (t' := (139, [(6, (0, -p4)), (0, (1, 275)), (1, (0, p1)), (2, (0, p2)), (3, (0, p3)), (4, (0, p4)), (5, (0, p5))], [(0, p2), (0, w 275 30), (1, 301)], w101)) 1 rfl ?_
                                refine e_Ok.ast rfl rfl rfl rfl (by omega) ?_
                                generalize hw103 : e_up w101 301 (w 275 30) p2 = w103
                                refine e_Ok.run (t' := (141, [(6, (0, -p4)), (0, (1, 275)), (1, (0, p1)), (2, (0, p2)), (3, (0, p3)), (4, (0, p4)), (5, (0, p5))], [(1, 275)], w103)) 1 rfl ?_
                                refine e_Ok.getr (z := 302) rfl rfl rfl rfl (by rw [← hw103]; exact (e_up_ne _ _ (Or.inl (by omega))).trans (by rw [← hw101]; exact (e_up_ne _ _ (Or.inl (by omega))).trans (e_Has.eq hT rfl))) (by omega) ?_
                                refine e_Ok.run (t' := (145, [(6, (0, -p4)), (0, (1, 275)), (1, (0, p1)), (2, (0, p2)), (3, (0, p3)), (4, (0, p4)), (5, (0, p5))], [(1, 275), (1, 302)], w103)) 1 rfl ?_
                                refine e_Ok.getf (z := w 275 30) rfl rfl rfl rfl (by rw [← hw103]; exact (e_up_ne _ _ (Or.inl (by omega))).trans (by rw [← hw101]; exact (e_up_ne _ _ (Or.inl (by omega))).trans rfl)) (by omega) ?_
                                refine e_Ok.run (t' := (149, [(6, (0, -p4)), (0, (1, 275)), (1, (0, p1)), (2, (0, p2)), (3, (0, p3)), (4, (0, p4)), (5, (0, p5))], [(0, p3), (0, w 275 30), (1, 302)], w103)) 1 rfl ?_
                                refine e_Ok.ast rfl rfl rfl rfl (by omega) ?_
                                generalize hw104 : e_up w103 302 (w 275 30) p3 = w104
                                refine e_Ok.run (t' := (151, [(6, (0, -p4)), (0, (1, 275)), (1, (0, p1)), (2, (0, p2)), (3, (0, p3)), (4, (0, p4)), (5, (0, p5))], [(1, 275)], w104)) 1 rfl ?_
                                refine e_Ok.getr (z := 303) rfl rfl rfl rfl (by rw [← hw104]; exact (e_up_ne _ _ (Or.inl (by omega))).trans (by rw [← hw103]; exact (e_up_ne _ _ (Or.inl (by omega))).trans (by rw [← hw101]; exact (e_up_ne _ _ (Or.inl (by omega))).trans (e_Has.eq hT rfl)))) (by omega) ?_
                                refine e_Ok.run (t' := (155, [(6, (0, -p4)), (0, (1, 275)), (1, (0, p1)), (2, (0, p2)), (3, (0, p3)), (4, (0, p4)), (5, (0, p5))], [(1, 275), (1, 303)], w104)) 1 rfl ?_
                                refine e_Ok.getf (z := w 275 30) rfl rfl rfl rfl (by rw [← hw104]; exact (e_up_ne _ _ (Or.inl (by omega))).trans (by rw [← hw103]; exact (e_up_ne _ _ (Or.inl (by omega))).trans (by rw [← hw101]; exact (e_up_ne _ _ (Or.inl (by omega))).trans rfl))) (by omega) ?_
                                refine e_Ok.run (t' := (160, [(6, (0, -p4)), (0, (1, 275)), (1, (0, p1)), (2, (0, p2)), (3, (0, p3)), (4, (0, p4)), (5, (0, p5))], [(0, p4), (0, w 275 30), (1, 303)], w104)) 1 rfl ?_
                                refine e_Ok.ast rfl rfl rfl rfl (by omega) ?_
                                generalize hw105 : e_up w104 303 (w 275 30) p4 = w105
                                refine e_Ok.run (t' := (162, [(6, (0, -p4)), (0, (1, 275)), (1, (0, p1)), (2, (0, p2)), (3, (0, p3)), (4, (0, p4)), (5, (0, p5))], [(1, 275)], w105)) 1 rfl ?_
                                refine e_Ok.getr (z := 304) rfl rfl rfl rfl (by rw [← hw105]; exact (e_up_ne _ _ (Or.inl (by omega))).trans (by rw [← hw104]; exact (e_up_ne _ _ (Or.inl (by omega))).trans (by rw [← hw103]; exact (e_up_ne _ _ (Or.inl (by omega))).trans (by rw [← hw101]; exact (e_up_ne _ _ (Or.inl (by omega))).trans (e_Has.eq hT rfl))))) (by omega) ?_
                                refine e_Ok.run (t' := (166, [(6, (0, -p4)), (0, (1, 275)), (1, (0, p1)), (2, (0, p2)), (3, (0, p3)), (4, (0, p4)), (5, (0, p5))], [(1, 275), (1, 304)], w105)) 1 rfl ?_
                                refine e_Ok.getf (z := w 275 30) rfl rfl rfl rfl (by rw [← hw105]; exact (e_up_ne _ _ (Or.inl (by omega))).trans (by rw [← hw104]; exact (e_up_ne _ _ (Or.inl (by omega))).trans (by rw [← hw103]; exact (e_up_ne _ _ (Or.inl (by omega))).trans (by rw [← hw101]; exact (e_up_ne _ _ (Or.inl (by omega))).trans rfl)))) (by omega) ?_
                                refine e_Ok.run (t' := (170, [(6, (0, -p4)), (0, (1, 275)), (1, (0, p1)), (2, (0, p2)), (3, (0, p3)), (4, (0, p4)), (5, (0, p5))], [(0, 0), (0, w 275 30), (1, 304)], w105)) 1 rfl ?_
                                refine e_Ok.ast rfl rfl rfl rfl (by omega) ?_
                                generalize hw106 : e_up w105 304 (w 275 30) 0 = w106
                                refine e_Ok.run (t' := (172, [(6, (0, -p4)), (0, (1, 275)), (1, (0, p1)), (2, (0, p2)), (3, (0, p3)), (4, (0, p4)), (5, (0, p5))], [(1, 275)], w106)) 1 rfl ?_
                                refine e_Ok.getr (z := 306) rfl rfl rfl rfl (by rw [← hw106]; exact (e_up_ne _ _ (Or.inl (by omega))).trans (by rw [← hw105]; exact (e_up_ne _ _ (Or.inl (by omega))).trans (by rw [← hw104]; exact (e_up_ne _ _ (Or.inl (by omega))).trans (by rw [← hw103]; exact (e_up_ne _ _ (Or.inl (by omega))).trans (by rw [← hw101]; exact (e_up_ne _ _ (Or.inl (by omega))).trans (e_Has.eq hT rfl)))))) (by omega) ?_
                                refine e_Ok.run (t' := (176, [(6, (0, -p4)), (0, (1, 275)), (1, (0, p1)), (2, (0, p2)), (3, (0, p3)), (4, (0, p4)), (5, (0, p5))], [(1, 275), (1, 306)], w106)) 1 rfl ?_
                                refine e_Ok.getf (z := w 275 30) rfl rfl rfl rfl (by rw [← hw106]; exact (e_up_ne _ _ (Or.inl (by omega))).trans (by rw [← hw105]; exact (e_up_ne _ _ (Or.inl (by omega))).trans (by rw [← hw104]; exact (e_up_ne _ _ (Or.inl (by omega))).trans (by rw [← hw103]; exact (e_up_ne _ _ (Or.inl (by omega))).trans (by rw [← hw101]; exact (e_up_ne _ _ (Or.inl (by omega))).trans rfl))))) (by omega) ?_
                                refine e_Ok.run (t' := (180, [(6, (0, -p4)), (0, (1, 275)), (1, (0, p1)), (2, (0, p2)), (3, (0, p3)), (4, (0, p4)), (5, (0, p5))], [(0, (-1)), (0, w 275 30), (1, 306)], w106)) 1 rfl ?_
                                refine e_Ok.ast rfl rfl rfl rfl (by omega) ?_
                                generalize hw107 : e_up w106 306 (w 275 30) (-1) = w107
                                refine e_Ok.run (t' := (182, [(6, (0, -p4)), (0, (1, 275)), (1, (0, p1)), (2, (0, p2)), (3, (0, p3)), (4, (0, p4)), (5, (0, p5))], [(1, 275)], w107)) 1 rfl ?_
                                refine e_Ok.getr (z := 305) rfl rfl rfl rfl (by rw [← hw107]; exact (e_up_ne _ _ (Or.inl (by omega))).trans (by rw [← hw106]; exact (e_up_ne _ _ (Or.inl (by omega))).trans (by rw [← hw105]; exact (e_up_ne _ _ (Or.inl (by omega))).trans (by rw [← hw104]; exact (e_up_ne _ _ (Or.inl (by omega))).trans (by rw [← hw103]; exact (e_up_ne _ _ (Or.inl (by omega))).trans (by rw [← hw101]; exact (e_up_ne _ _ (Or.inl (by omega))).trans (e_Has.eq hT rfl))))))) (by omega) ?_
                                refine e_Ok.run (t' := (186, [(6, (0, -p4)), (0, (1, 275)), (1, (0, p1)), (2, (0, p2)), (3, (0, p3)), (4, (0, p4)), (5, (0, p5))], [(1, 275), (1, 305)], w107)) 1 rfl ?_
                                refine e_Ok.getf (z := w 275 30) rfl rfl rfl rfl (by rw [← hw107]; exact (e_up_ne _ _ (Or.inl (by omega))).trans (by rw [← hw106]; exact (e_up_ne _ _ (Or.inl (by omega))).trans (by rw [← hw105]; exact (e_up_ne _ _ (Or.inl (by omega))).trans (by rw [← hw104]; exact (e_up_ne _ _ (Or.inl (by omega))).trans (by rw [← hw103]; exact (e_up_ne _ _ (Or.inl (by omega))).trans (by rw [← hw101]; exact (e_up_ne _ _ (Or.inl (by omega))).trans rfl)))))) (by omega) ?_
                                refine e_Ok.run (t' := (191, [(6, (0, -p4)), (0, (1, 275)), (1, (0, p1)), (2, (0, p2)), (3, (0, p3)), (4, (0, p4)), (5, (0, p5))], [(0, p5), (0, w 275 30), (1, 305)], w107)) 1 rfl ?_
                                refine e_Ok.ast rfl rfl rfl rfl (by omega) ?_
                                generalize hw108 : e_up w107 305 (w 275 30) p5 = w108
                                refine e_Ok.run (t' := (194, [(6, (0, -p4)), (0, (1, 275)), (1, (0, p1)), (2, (0, p2)), (3, (0, p3)), (4, (0, p4)), (5, (0, p5))], [(1, 275), (1, 275)], w108)) 2 rfl ?_
                                refine e_Ok.getf (z := w 275 30) rfl rfl rfl rfl (by rw [← hw108]; exact (e_up_ne _ _ (Or.inl (by omega))).trans (by rw [← hw107]; exact (e_up_ne _ _ (Or.inl (by omega))).trans (by rw [← hw106]; exact (e_up_ne _ _ (Or.inl (by omega))).trans (by rw [← hw105]; exact (e_up_ne _ _ (Or.inl (by omega))).trans (by rw [← hw104]; exact (e_up_ne _ _ (Or.inl (by omega))).trans (by rw [← hw103]; exact (e_up_ne _ _ (Or.inl (by omega))).trans (by rw [← hw101]; exact (e_up_ne _ _ (Or.inl (by omega))).trans rfl))))))) (by omega) ?_
                                refine e_Ok.run (t' := (198, [(6, (0, -p4)), (0, (1, 275)), (1, (0, p1)), (2, (0, p2)), (3, (0, p3)), (4, (0, p4)), (5, (0, p5))], [(0, 1), (0, w 275 30), (1, 275)], w108)) 1 rfl ?_
                                refine e_Ok.add (z := w 275 30 + 1) rfl (by omega) (by omega) ?_
                                refine e_Ok.putf rfl rfl rfl rfl ?_
                                generalize hw109 : e_up w108 275 30 (w 275 30 + 1) = w109
                                refine e_Ok.run (t' := (203, [(6, (0, -p4)), (0, (1, 275)), (1, (0, p1)), (2, (0, p2)), (3, (0, p3)), (4, (0, p4)), (5, (0, p5))], [(1, 275)], w109)) 1 rfl ?_
                                refine e_Ok.getf (z := w 275 30 + 1) rfl rfl rfl rfl (by rw [← hw109]; exact e_up_eq _ _ _ _) (by omega) ?_
                                refine e_Ok.run (t' := (207, [(6, (0, -p4)), (0, (1, 275)), (1, (0, p1)), (2, (0, p2)), (3, (0, p3)), (4, (0, p4)), (5, (0, p5))], [(0, 1), (0, w 275 30 + 1)], w109)) 1 rfl ?_
                                refine e_Ok.sub' (z := w 275 30) rfl (by omega) (by omega) ?_
                                refine e_Ok.rets rfl rfl ?_
                                exact ⟨_, rfl, Or.inr ⟨by omega, by omega, by rw [← hw109, ← hw108, ← hw107, ← hw106, ← hw105, ← hw104, ← hw103, ← hw101]⟩⟩
                              · replace h95 : (w 275 30 : Int) = 4 := by have q : ¬ ((w 275 30 : Int) ≠ 4) := h95; omega
                                refine e_Ok.run (t' := (119, [(6, (0, -p4)), (0, (1, 275)), (1, (0, p1)), (2, (0, p2)), (3, (0, p3)), (4, (0, p4)), (5, (0, p5))], [(0, (-3))], w)) 1 rfl ?_
                                refine e_Ok.rets rfl rfl ?_
                                exact ⟨_, rfl, Or.inl ⟨rfl, by omega⟩⟩
                            · replace h93 : (w 275 3 : Int) ≠ 0 := by have q : ¬ ((w 275 3 : Int) = 0) := h93; omega
                              refine e_Ok.run (t' := (108, [(6, (0, -p4)), (0, (1, 275)), (1, (0, p1)), (2, (0, p2)), (3, (0, p3)), (4, (0, p4)), (5, (0, p5))], [(0, (-2))], w)) 1 rfl ?_
                              refine e_Ok.rets rfl rfl ?_
                              exact ⟨_, rfl, Or.inl ⟨rfl, by omega⟩⟩
                          · replace h92 : (1 : Int) = 0 := by have q : ¬ ((1 : Int) ≠ 0) := h92; omega
                            exfalso; omega
                        · show e_Ok 20 elay ecode eI (d + 1) 286 (94, [(6, (0, -p4)), (0, (1, 275)), (1, (0, p1)), (2, (0, p2)), (3, (0, p3)), (4, (0, p4)), (5, (0, p5))], [(0, 0)], w) _
                          refine e_Ok.if1 rfl (fun h110 => ?_) (fun h110 => ?_)
                          · replace h110 : (0 : Int) ≠ 0 := h110
                            exfalso; omega
                          · replace h110 : (0 : Int) = 0 := by have q : ¬ ((0 : Int) ≠ 0) := h110; omega
                            refine e_Ok.run (t' := (98, [(6, (0, -p4)), (0, (1, 275)), (1, (0, p1)), (2, (0, p2)), (3, (0, p3)), (4, (0, p4)), (5, (0, p5))], [(0, (-1))], w)) 1 rfl ?_
                            refine e_Ok.rets rfl rfl ?_
                            exact ⟨_, rfl, Or.inl ⟨rfl, by omega⟩⟩
                  · replace h25 : (p3 : Int) < 2 := by have q : ¬ ((p3 : Int) ≥ 2) := h25; omega
                    refine e_Ok.run (t' := (65, [(6, (0, p4)), (0, (1, 275)), (1, (0, p1)), (2, (0, p2)), (3, (0, p3)), (4, (0, p4)), (5, (0, p5))], [(0, 2), (0, p3)], w)) 5 rfl ?_
                    refine e_Ok.remn (fun z111 hz111 => ?_) rfl (by omega) (by omega)
                    replace hz111 : z111 = p3 % 2 := hz111
                    have z111r : 0 ≤ z111 ∧ z111 ≤ 1 := by omega
                    refine e_Ok.if1 rfl (fun h112 => ?_) (fun h112 => ?_)
                    · replace h112 : (z111 : Int) ≠ 0 := h112
                      refine e_Ok.run (t' := (79, [(6, (0, p4)), (0, (1, 275)), (1, (0, p1)), (2, (0, p2)), (3, (0, p3)), (4, (0, p4)), (5, (0, p5))], [(0, 2), (0, p3), (0, p1)], w)) 3 rfl ?_
                      refine e_Ok.remn (fun z113 hz113 => ?_) rfl (by omega) (by omega)
                      replace hz113 : z113 = p3 % 2 := hz113
                      have z113r : 0 ≤ z113 ∧ z113 ≤ 1 := by omega
                      refine e_Ok.if1 rfl (fun h114 => ?_) (fun h114 => ?_)
                      · replace h114 : (z113 : Int) ≠ 0 := h114
                        refine e_Ok.run (t' := (90, [(6, (0, p4)), (0, (1, 275)), (1, (0, p1)), (2, (0, p2)), (3, (0, p3)), (4, (0, p4)), (5, (0, p5))], [(0, p4), (0, p2), (0, p1)], w)) 2 rfl ?_
                        refine e_Ok.add (z := p2 + p4) rfl (by omega) (by omega) ?_
                        refine e_Ok.callS rfl (by omega) rfl rfl (c_272_ex (by omega)) (fun r115 w116 h117 => ?_)
                        obtain ⟨z118, rfl, rfl, q119⟩ := h117
                        obtain ⟨rfl, q119⟩ | ⟨rfl, q119⟩ := q119
                        · show e_Ok 20 elay ecode eI (d + 1) 286 (94, [(6, (0, p4)), (0, (1, 275)), (1, (0, p1)), (2, (0, p2)), (3, (0, p3)), (4, (0, p4)), (5, (0, p5))], [(0, 1)], w) _
                          refine e_Ok.if1 rfl (fun h120 => ?_) (fun h120 => ?_)
                          · replace h120 : (1 : Int) ≠ 0 := h120
                            refine e_Ok.run (t' := (100, [(6, (0, p4)), (0, (1, 275)), (1, (0, p1)), (2, (0, p2)), (3, (0, p3)), (4, (0, p4)), (5, (0, p5))], [(1, 275)], w)) 1 rfl ?_
                            refine e_Ok.getf (z := w 275 3) rfl rfl rfl rfl rfl (by omega) ?_
                            refine e_Ok.if1 rfl (fun h121 => ?_) (fun h121 => ?_)
                            · replace h121 : (w 275 3 : Int) = 0 := h121
                              refine e_Ok.run (t' := (110, [(6, (0, p4)), (0, (1, 275)), (1, (0, p1)), (2, (0, p2)), (3, (0, p3)), (4, (0, p4)), (5, (0, p5))], [(1, 275)], w)) 1 rfl ?_
                              have h122 := (e_Has.get hT (c := 275) (k := 30) (lo := 0) (hi := 4) rfl (by decide))
                              refine e_Ok.getf (z := w 275 30) rfl rfl rfl rfl rfl (by omega) ?_
                              refine e_Ok.run (t' := (114, [(6, (0, p4)), (0, (1, 275)), (1, (0, p1)), (2, (0, p2)), (3, (0, p3)), (4, (0, p4)), (5, (0, p5))], [(0, 4), (0, w 275 30)], w)) 1 rfl ?_
                              refine e_Ok.if2 rfl (fun h123 => ?_) (fun h123 => ?_)
                              · replace h123 : (w 275 30 : Int) ≠ 4 := h123
                                refine e_Ok.run (t' := (121, [(6, (0, p4)), (0, (1, 275)), (1, (0, p1)), (2, (0, p2)), (3, (0, p3)), (4, (0, p4)), (5, (0, p5))], [(1, 275)], w)) 1 rfl ?_
                                refine e_Ok.getr (z := 300) rfl rfl rfl rfl (e_Has.eq hT rfl) (by omega) ?_
                                refine e_Ok.run (t' := (125, [(6, (0, p4)), (0, (1, 275)), (1, (0, p1)), (2, (0, p2)), (3, (0, p3)), (4, (0, p4)), (5, (0, p5))], [(1, 275), (1, 300)], w)) 1 rfl ?_
                                refine e_Ok.getf (z := w 275 30) rfl rfl rfl rfl rfl (by omega) ?_
                                refine e_Ok.run (t' := (129, [(6, (0, p4)), (0, (1, 275)), (1, (0, p1)), (2, (0, p2)), (3, (0, p3)), (4, (0, p4)), (5, (0, p5))], [(0, p1), (0, w 275 30), (1, 300)], w)) 1 rfl ?_
                                refine e_Ok.ast rfl rfl rfl rfl (by omega) ?_
                                generalize hw124 : e_up w 300 (w 275 30) p1 = w124
                                refine e_Ok.run (t' := (131, [(6, (0, p4)), (0, (1, 275)), (1, (0, p1)), (2, (0, p2)), (3, (0, p3)), (4, (0, p4)), (5, (0, p5))], [(1, 275)], w124)) 1 rfl ?_
                                refine e_Ok.getr (z := 301) rfl rfl rfl rfl (by rw [← hw124]; exact (e_up_ne _ _ (Or.inl (by omega))).trans (e_Has.eq hT rfl)) (by omega) ?_
                                refine e_Ok.run (t' := (135, [(6, (0, p4)), (0, (1, 275)), (1, (0, p1)), (2, (0, p2)), (3, (0, p3)), (4, (0, p4)), (5, (0, p5))], [(1, 275), (1, 301)], w124)) 1 rfl ?_
                                refine e_Ok.getf (z := w 275 30) rfl rfl rfl rfl (by rw [← hw124]; exact (e_up_ne _ _ (Or.inl (by omega))).trans rfl) (by omega) ?_
                                refine e_Ok.run (t' := (139, [(6, (0, p4)), (0, (1, 275)), (1, (0, p1)), (2, (0, p2)), (3, (0, p3)), (4, (0, p4)), (5, (0, p5))], [(0, p2), (0, w 275 30), (1, 301)], w124)) 1 rfl ?_
                                refine e_Ok.ast rfl rfl rfl rfl (by omega) ?_
                                generalize hw125 : e_up w124 301 (w 275 30) p2 = w125
                                refine e_Ok.run (t' := (141, [(6, (0, p4)), (0, (1, 275)), (1, (0, p1)), (2, (0, p2)), (3, (0, p3)), (4, (0, p4)), (5, (0, p5))], [(1, 275)], w125)) 1 rfl ?_
                                refine e_Ok.getr (z := 302) rfl rfl rfl rfl (by rw [← hw125]; exact (e_up_ne _ _ (Or.inl (by omega))).trans (by rw [← hw124]; exact (e_up_ne _ _ (Or.inl (by omega))).trans (e_Has.eq hT rfl))) (by omega) ?_
                                refine e_Ok.run (t' := (145, [(6, (0, p4)), (0, (1, 275)), (1, (0, p1)), (2, (0, p2)), (3, (0, p3)), (4, (0, p4)), (5, (0, p5))], [(1, 275), (1, 302)], w125)) 1 rfl ?_
                                refine e_Ok.getf (z := w 275 30) rfl rfl rfl rfl (by rw [← hw125]; exact (e_up_ne _ _ (Or.inl (by omega))).trans (by rw [← hw124]; exact (e_up_ne _ _ (Or.inl (by omega))).trans rfl)) (by omega) ?_
                                refine e_Ok.run (t' := (149, [(6, (0, p4)), (0, (1, 275)), (1, (0, p1)), (2, (0, p2)), (3, (0, p3)), (4, (0, p4)), (5, (0, p5))], [(0, p3), (0, w 275 30), (1, 302)], w125)) 1 rfl ?_
                                refine e_Ok.ast rfl rfl rfl rfl (by omega) ?_
                                generalize hw126 : e_up w125 302 (w 275 30) p3 = w126
                                refine e_Ok.run (t' := (151, [(6, (0, p4)), (0, (1, 275)), (1, (0, p1)), (2, (0, p2)), (3, (0, p3)), (4, (0, p4)), (5, (0, p5))], [(1, 275)], w126)) 1 rfl ?_
                                refine e_Ok.getr (z := 303) rfl rfl rfl rfl (by rw [← hw126]; exact (e_up_ne _ _ (Or.inl (by omega))).trans (by rw [← hw125]; exact (e_up_ne _ _ (Or.inl (by omega))).trans (by rw [← hw124]; exact (e_up_ne _ _ (Or.inl (by omega))).trans (e_Has.eq hT rfl)))) (by omega) ?_
                                refine e_Ok.run (t' := (155, [(6, (0, p4)), (0, (1, 275)), (1, (0, p1)), (2, (0, p2)), (3, (0, p3)), (4, (0, p4)), (5, (0, p5))], [(1, 275), (1, 303)], w126)) 1 rfl ?_
                                refine e_Ok.getf (z := w 275 30) rfl rfl rfl rfl (by rw [← hw126]; exact (e_up_ne _ _ (Or.inl (by omega))).trans (by rw [← hw125]; exact (e_up_ne _ _ (Or.inl (by omega))).trans (by rw [← hw124]; exact (e_up_ne _ _ (Or.inl (by omega))).trans rfl))) (by omega) ?_
                                refine e_Ok.run (t' := (160, [(6, (0, p4)), (0, (1, 275)), (1, (0, p1)), (2, (0, p2)), (3, (0, p3)), (4, (0, p4)), (5, (0, p5))], [(0, p4), (0, w 275 30), (1, 303)], w126)) 1 rfl ?_
                                refine e_Ok.ast rfl rfl rfl rfl (by omega) ?_
                                generalize hw127 : e_up w126 303 (w 275 30) p4 = w127
                                refine e_Ok.run (t' := (162, [(6, (0, p4)), (0, (1, 275)), (1, (0, p1)), (2, (0, p2)), (3, (0, p3)), (4, (0, p4)), (5, (0, p5))], [(1, 275)], w127)) 1 rfl ?_
                                refine e_Ok.getr (z := 304) rfl rfl rfl rfl (by rw [← hw127]; exact (e_up_ne _ _ (Or.inl (by omega))).trans (by rw [← hw126]; exact (e_up_ne _ _ (Or.inl (by omega))).trans (by rw [← hw125]; exact (e_up_ne _ _ (Or.inl (by omega))).trans (by rw [← hw124]; exact (e_up_ne _ _ (Or.inl (by omega))).trans (e_Has.eq hT rfl))))) (by omega) ?_
                                refine e_Ok.run (t' := (166, [(6, (0, p4)), (0, (1, 275)), (1, (0, p1)), (2, (0, p2)), (3, (0, p3)), (4, (0, p4)), (5, (0, p5))], [(1, 275), (1, 304)], w127)) 1 rfl ?_
                                refine e_Ok.getf (z := w 275 30) rfl rfl rfl rfl (by rw [← hw127]; exact (e_up_ne _ _ (Or.inl (by omega))).trans (by rw [← hw126]; exact (e_up_ne _ _ (Or.inl (by omega))).trans (by rw [← hw125]; exact (e_up_ne _ _ (Or.inl (by omega))).trans (by rw [← hw124]; exact (e_up_ne _ _ (Or.inl (by omega))).trans rfl)))) (by omega) ?_
                                refine e_Ok.run (t' := (170, [(6, (0, p4)), (0, (1, 275)), (1, (0, p1)), (2, (0, p2)), (3, (0, p3)), (4, (0, p4)), (5, (0, p5))], [(0, 0), (0, w 275 30), (1, 304)], w127)) 1 rfl ?_
                                refine e_Ok.ast rfl rfl rfl rfl (by omega) ?_
                                generalize hw128 : e_up w127 304 (w 275 30) 0 = w128
                                refine e_Ok.run (t' := (172, [(6, (0, p4)), (0, (1, 275)), (1, (0, p1)), (2, (0, p2)), (3, (0, p3)), (4, (0, p4)), (5, (0, p5))], [(1, 275)], w128)) 1 rfl ?_
                                refine e_Ok.getr (z := 306) rfl rfl rfl rfl (by rw [← hw128]; exact (e_up_ne _ _ (Or.inl (by omega))).trans (by rw [← hw127]; exact (e_up_ne _ _ (Or.inl (by omega))).trans (by rw [← hw126]; exact (e_up_ne _ _ (Or.inl (by omega))).trans (by rw [← hw125]; exact (e_up_ne _ _ (Or.inl (by omega))).trans (by rw [← hw124]; exact (e_up_ne _ _ (Or.inl (by omega))).trans (e_Has.eq hT rfl)))))) (by omega) ?_
                                refine e_Ok.run (t' := (176, [(6, (0, p4)), (0, (1, 275)), (1, (0, p1)), (2, (0, p2)), (3, (0, p3)), (4, (0, p4)), (5, (0, p5))], [(1, 275), (1, 306)], w128)) 1 rfl ?_
                                refine e_Ok.getf (z := w 275 30) rfl rfl rfl rfl (by rw [← hw128]; exact (e_up_ne _ _ (Or.inl (by omega))).trans (by rw [← hw127]; exact (e_up_ne _ _ (Or.inl (by omega))).trans (by rw [← hw126]; exact (e_up_ne _ _ (Or.inl (by omega))).trans (by rw [← hw125]; exact (e_up_ne _ _ (Or.inl (by omega))).trans (by rw [← hw124]; exact (e_up_ne _ _ (Or.inl (by omega))).trans rfl))))) (by omega) ?_
                                refine e_Ok.run (t' := (180, [(6, (0, p4)), (0, (1, 275)), (1, (0, p1)), (2, (0, p2)), (3, (0, p3)), (4, (0, p4)), (5, (0, p5))], [(0, (-1)), (0, w 275 30), (1, 306)], w128)) 1 rfl ?_
                                refine e_Ok.ast rfl rfl rfl rfl (by omega) ?_
                                generalize hw129 : e_up w128 306 (w 275 30) (-1) = w129
                                refine e_Ok.run (t' := (182, [(6, (0, p4)), (0, (1, 275)), (1, (0, p1)), (2, (0, p2)), (3, (0, p3)), (4, (0, p4)), (5, (0, p5))], [(1, 275)], w129)) 1 rfl ?_
                                refine e_Ok.getr (z := 305) rfl rfl rfl rfl (by rw [← hw129]; exact (e_up_ne _ _ (Or.inl (by omega))).trans (by rw [← hw128]; exact (e_up_ne _ _ (Or.inl (by omega))).trans (by rw [← hw127]; exact (e_up_ne _ _ (Or.inl (by omega))).trans (by rw [← hw126]; exact (e_up_ne _ _ (Or.inl (by omega))).trans (by rw [← hw125]; exact (e_up_ne _ _ (Or.inl (by omega))).trans (by rw [← hw124]; exact (e_up_ne _ _ (Or.inl (by omega))).trans (e_Has.eq hT rfl))))))) (by omega) ?_
                                refine e_Ok.run (t' := (186, [(6, (0, p4)), (0, (1, 275)), (1, (0, p1)), (2, (0, p2)), (3, (0, p3)), (4, (0, p4)), (5, (0, p5))], [(1, 275), (1, 305)], w129)) 1 rfl ?_
                                refine e_Ok.getf (z := w 275 30) rfl rfl rfl rfl (by rw [← hw129]; exact (e_up_ne _ _ (Or.inl (by omega))).trans (by rw [← hw128]; exact (e_up_ne _ _ (Or.inl (by omega))).trans (by rw [← hw127]; exact (e_up_ne _ _ (Or.inl (by omega))).trans (by rw [← hw126]; exact (e_up_ne _ _ (Or.inl (by omega))).trans (by rw [← hw125]; exact (e_up_ne _ _ (Or.inl (by omega))).trans (by rw [← hw124]; exact (e_up_ne _ _ (Or.inl (by omega))).trans rfl)))))) (by omega) ?_
                                refine e_Ok.run (t' := (191, [(6, (0, p4)), (0, (1, 275)), (1, (0, p1)), (2, (0, p2)), (3, (0, p3)), (4, (0, p4)), (5, (0, p5))], [(0, p5), (0, w 275 30), (1, 305)], w129)) 1 rfl ?_
                                refine e_Ok.ast rfl rfl rfl rfl (by omega) ?_
                                generalize hw130 : e_up w129 305 (w 275 30) p5 = w130
                                refine e_Ok.run (t' := (194, [(6, (0, p4)), (0, (1, 275)), (1, (0, p1)), (2, (0, p2)), (3, (0, p3)), (4, (0, p4)), (5, (0, p5))], [(1, 275), (1, 275)], w130)) 2 rfl ?_
                                refine e_Ok.getf (z := w 275 30) rfl rfl rfl rfl (by rw [← hw130]; exact (e_up_ne _ _ (Or.inl (by omega))).trans (by rw [← hw129]; exact (e_up_ne _ _ (Or.inl (by omega))).trans (by rw [← hw128]; exact (e_up_ne _ _ (Or.inl (by omega))).trans (by rw [← hw127]; exact (e_up_ne _ _ (Or.inl (by omega))).trans (by rw [← hw126]; exact (e_up_ne _ _ (Or.inl (by omega))).trans (by rw [← hw125]; exact (e_up_ne _ _ (Or.inl (by omega))).trans (by rw [← hw124]; exact (e_up_ne _ _ (Or.inl (by omega))).trans rfl))))))) (by omega) ?_
                                refine e_Ok.run (t' := (198, [(6, (0, p4)), (0, (1, 275)), (1, (0, p1)), (2, (0, p2)), (3, (0, p3)), (4, (0, p4)), (5, (0, p5))], [(0, 1), (0, w 275 30), (1, 275)], w130)) 1 rfl ?_
                                refine e_Ok.add (z := w 275 30 + 1) rfl (by omega) (by omega) ?_
                                refine e_Ok.putf rfl rfl rfl rfl ?_
                                generalize hw131 : e_up w130 275 30 (w 275 30 + 1) = w131
                                refine e_Ok.run (t' := (203, [(6, (0, p4)), (0, (1, 275)), (1, (0, p1)), (2, (0, p2)), (3, (0, p3)), (4, (0, p4)), (5, (0, p5))], [(1, 275)], w131)) 1 rfl ?_
                                refine e_Ok.getf (z := w 275 30 + 1) rfl rfl rfl rfl (by rw [← hw131]; exact e_up_eq _ _ _ _) (by omega) ?_
                                refine e_Ok.run (t' := (207, [(6, (0, p4)), (0, (1, 275)), (1, (0, p1)), (2, (0, p2)), (3, (0, p3)), (4, (0, p4)), (5, (0, p5))], [(0, 1), (0, w 275 30 + 1)], w131)) 1 rfl ?_
                                refine e_Ok.sub' (z := w 275 30) rfl (by omega) (by omega) ?_
                                refine e_Ok.rets rfl rfl ?_
                                exact ⟨_, rfl, Or.inr ⟨by omega, by omega, by rw [← hw131, ← hw130, ← hw129, ← hw128, ← hw127, ← hw126, ← hw125, ← hw124]⟩⟩
                              · replace h123 : (w 275 30 : Int) = 4 := by have q : ¬ ((w 275 30 : Int) ≠ 4) := h123; omega
                                refine e_Ok.run (t' := (119, [(6, (0, p4)), (0, (1, 275)), (1, (0, p1)), (2, (0, p2)), (3, (0, p3)), (4, (0, p4)), (5, (0, p5))], [(0, (-3))], w)) 1 rfl ?_
                                refine e_Ok.rets rfl rfl ?_
                                exact ⟨_, rfl, Or.inl ⟨rfl, by omega⟩⟩
                            · replace h121 : (w 275 3 : Int) ≠ 0 := by have q : ¬ ((w 275 3 : Int) = 0) := h121; omega
                              refine e_Ok.run (t' := (108, [(6, (0, p4)), (0, (1, 275)), (1, (0, p1)), (2, (0, p2)), (3, (0, p3)), (4, (0, p4)), (5, (0, p5))], [(0, (-2))], w)) 1 rfl ?_
                              refine e_Ok.rets rfl rfl ?_
                              exact ⟨_, rfl, Or.inl ⟨rfl, by omega⟩⟩
                          · replace h120 : (1 : Int) = 0 := by have q : ¬ ((1 : Int) ≠ 0) := h120; omega
                            exfalso; omega
                        · show e_Ok 20 elay ecode eI (d + 1) 286 (94, [(6, (0, p4)), (0, (1, 275)), (1, (0, p1)), (2, (0, p2)), (3, (0, p3)), (4, (0, p4)), (5, (0, p5))], [(0, 0)], w) _
                          refine e_Ok.if1 rfl (fun h132 => ?_) (fun h132 => ?_)
                          · replace h132 : (0 : Int) ≠ 0 := h132
                            exfalso; omega
                          · replace h132 : (0 : Int) = 0 := by have q : ¬ ((0 : Int) ≠ 0) := h132; omega
                            refine e_Ok.run (t' := (98, [(6, (0, p4)), (0, (1, 275)), (1, (0, p1)), (2, (0, p2)), (3, (0, p3)), (4, (0, p4)), (5, (0, p5))], [(0, (-1))], w)) 1 rfl ?_
                            refine e_Ok.rets rfl rfl ?_
                            exact ⟨_, rfl, Or.inl ⟨rfl, by omega⟩⟩
                      · replace h114 : (z113 : Int) = 0 := by have q : ¬ ((z113 : Int) ≠ 0) := h114; omega
                        refine e_Ok.run (t' := (91, [(6, (0, p4)), (0, (1, 275)), (1, (0, p1)), (2, (0, p2)), (3, (0, p3)), (4, (0, p4)), (5, (0, p5))], [(0, p2), (0, p1)], w)) 2 rfl ?_
                        refine e_Ok.callS rfl (by omega) rfl rfl (c_272_ex (by omega)) (fun r133 w134 h135 => ?_)
                        obtain ⟨z136, rfl, rfl, q137⟩ := h135
                        obtain ⟨rfl, q137⟩ | ⟨rfl, q137⟩ := q137
                        · show e_Ok 20 elay ecode eI (d + 1) 286 (94, [(6, (0, p4)), (0, (1, 275)), (1, (0, p1)), (2, (0, p2)), (3, (0, p3)), (4, (0, p4)), (5, (0, p5))], [(0, 1)], w) _
                          refine e_Ok.if1 rfl (fun h138 => ?_) (fun h138 => ?_)
                          · replace h138 : (1 : Int) ≠ 0 := h138
                            refine e_Ok.run (t' := (100, [(6, (0, p4)), (0, (1, 275)), (1, (0, p1)), (2, (0, p2)), (3, (0, p3)), (4, (0, p4)), (5, (0, p5))], [(1, 275)], w)) 1 rfl ?_
                            refine e_Ok.getf (z := w 275 3) rfl rfl rfl rfl rfl (by omega) ?_
                            refine e_Ok.if1 rfl (fun h139 => ?_) (fun h139 => ?_)
                            · replace h139 : (w 275 3 : Int) = 0 := h139
                              refine e_Ok.run (t' := (110, [(6, (0, p4)), (0, (1, 275)), (1, (0, p1)), (2, (0, p2)), (3, (0, p3)), (4, (0, p4)), (5, (0, p5))], [(1, 275)], w)) 1 rfl ?_
                              have h140 := (e_Has.get hT (c := 275) (k := 30) (lo := 0) (hi := 4) rfl (by decide))
                              refine e_Ok.getf (z := w 275 30) rfl rfl rfl rfl rfl (by omega) ?_
                              refine e_Ok.run (t' := (114, [(6, (0, p4)), (0, (1, 275)), (1, (0, p1)), (2, (0, p2)), (3, (0, p3)), (4, (0, p4)), (5, (0, p5))], [(0, 4), (0, w 275 30)], w)) 1 rfl ?_
                              refine e_Ok.if2 rfl (fun h141 => ?_) (fun h141 => ?_)
                              · replace h141 : (w 275 30 : Int) ≠ 4 := h141
                                refine e_Ok.run (t' := (121, [(6, (0, p4)), (0, (1, 275)), (1, (0, p1)), (2, (0, p2)), (3, (0, p3)), (4, (0, p4)), (5, (0, p5))], [(1, 275)], w)) 1 rfl ?_
                                refine e_Ok.getr (z := 300) rfl rfl rfl rfl (e_Has.eq hT rfl) (by omega) ?_
                                refine e_Ok.run (t' := (125, [(6, (0, p4)), (0, (1, 275)), (1, (0, p1)), (2, (0, p2)), (3, (0, p3)), (4, (0, p4)), (5, (0, p5))], [(1, 275), (1, 300)], w)) 1 rfl ?_
                                refine e_Ok.getf (z := w 275 30) rfl rfl rfl rfl rfl (by omega) ?_
                                refine e_Ok.run (t' := (129, [(6, (0, p4)), (0, (1, 275)), (1, (0, p1)), (2, (0, p2)), (3, (0, p3)), (4, (0, p4)), (5, (0, p5))], [(0, p1), (0, w 275 30), (1, 300)], w)) 1 rfl ?_
                                refine e_Ok.ast rfl rfl rfl rfl (by omega) ?_
                                generalize hw142 : e_up w 300 (w 275 30) p1 = w142
                                refine e_Ok.run (t' := (131, [(6, (0, p4)), (0, (1, 275)), (1, (0, p1)), (2, (0, p2)), (3, (0, p3)), (4, (0, p4)), (5, (0, p5))], [(1, 275)], w142)) 1 rfl ?_
                                refine e_Ok.getr (z := 301) rfl rfl rfl rfl (by rw [← hw142]; exact (e_up_ne _ _ (Or.inl (by omega))).trans (e_Has.eq hT rfl)) (by omega) ?_
                                refine e_Ok.run (t' := (135, [(6, (0, p4)), (0, (1, 275)), (1, (0, p1)), (2, (0, p2)), (3, (0, p3)), (4, (0, p4)), (5, (0, p5))], [(1, 275), (1, 301)], w142)) 1 rfl ?_
                                refine e_Ok.getf (z := w 275 30) rfl rfl rfl rfl (by rw [← hw142]; exact (e_up_ne _ _ (Or.inl (by omega))).trans rfl) (by omega) ?_
                                refine e_Ok.run (t' := (139, [(6, (0, p4)), (0, (1, 275)), (1, (0, p1)), (2, (0, p2)), (3, (0, p3)), (4, (0, p4)), (5, (0, p5))], [(0, p2), (0, w 275 30), (1, 301)], w142)) 1 rfl ?_
                                refine e_Ok.ast rfl rfl rfl rfl (by omega) ?_
                                generalize hw143 : e_up w142 301 (w 275 30) p2 = w143
                                refine e_Ok.run (t' := (141, [(6, (0, p4)), (0, (1, 275)), (1, (0, p1)), (2, (0, p2)), (3, (0, p3)), (4, (0, p4)), (5, (0, p5))], [(1, 275)], w143)) 1 rfl ?_
                                refine e_Ok.getr (z := 302) rfl rfl rfl rfl (by rw [← hw143]; exact (e_up_ne _ _ (Or.inl (by omega))).trans (by rw [← hw142]; exact (e_up_ne _ _ (Or.inl (by omega))).trans (e_Has.eq hT rfl))) (by omega) ?_
                                refine e_Ok.run (t' := (145, [(6, (0, p4)), (0, (1, 275)), (1, (0, p1)), (2, (0, p2)), (3, (0, p3)), (4, (0, p4)), (5, (0, p5))], [(1, 275), (1, 302)], w143)) 1 rfl ?_
                                refine e_Ok.getf (z := w 275 30) rfl rfl rfl rfl (by rw [← hw143]; exact (e_up_ne _ _ (Or.inl (by omega))).trans (by rw [← hw142]; exact (e_up_ne _ _ (Or.inl (by omega))).trans rfl)) (by omega) ?_
                                refine e_Ok.run (t' := (149, [(6, (0, p4)), (0, (1, 275)), (1, (0, p1)), (2, (0, p2)), (3, (0, p3)), (4, (0, p4)), (5, (0, p5))], [(0, p3), (0, w 275 30), (1, 302)], w143)) 1 rfl ?_
                                refine e_Ok.ast rfl rfl rfl rfl (by omega) ?_
                                generalize hw144 : e_up w143 302 (w 275 30) p3 = w144
                                refine e_Ok.run (t' := (151, [(6, (0, p4)), (0, (1, 275)), (1, (0, p1)), (2, (0, p2)), (3, (0, p3)), (4, (0, p4)), (5, (0, p5))], [(1, 275)], w144)) 1 rfl ?_
                                refine e_Ok.getr (z := 303) rfl rfl rfl rfl (by rw [← hw144]; exact (e_up_ne _ _ (Or.inl (by omega))).trans (by rw [← hw143]; exact (e_up_ne _ _ (Or.inl (by omega))).trans (by rw [← hw142]; exact (e_up_ne _ _ (Or.inl (by omega))).trans (e_Has.eq hT rfl)))) (by omega) ?_
                                refine e_Ok.run (t' := (155, [(6, (0, p4)), (0, (1, 275)), (1, (0, p1)), (2, (0, p2)), (3, (0, p3)), (4, (0, p4)), (5, (0, p5))], [(1, 275), (1, 303)], w144)) 1 rfl ?_
                                refine e_Ok.getf (z := w 275 30) rfl rfl rfl rfl (by rw [← hw144]; exact (e_up_ne _ _ (Or.inl (by omega))).trans (by rw [← hw143]; exact (e_up_ne _ _ (Or.inl (by omega))).trans (by rw [← hw142]; exact (e_up_ne _ _ (Or.inl (by omega))).trans rfl))) (by omega) ?_
                                refine e_Ok.run (t' := (160, [(6, (0, p4)), (0, (1, 275)), (1, (0, p1)), (2, (0, p2)), (3, (0, p3)), (4, (0, p4)), (5, (0, p5))], [(0, p4), (0, w 275 30), (1, 303)], w144)) 1 rfl ?_
                                refine e_Ok.ast rfl rfl rfl rfl (by omega) ?_
                                generalize hw145 : e_up w144 303 (w 275 30) p4 = w145
                                refine e_Ok.run (t' := (162, [(6, (0, p4)), (0, (1, 275)), (1, (0, p1)), (2, (0, p2)), (3, (0, p3)), (4, (0, p4)), (5, (0, p5))], [(1, 275)], w145)) 1 rfl ?_
                                refine e_Ok.getr (z := 304) rfl rfl rfl rfl (by rw [← hw145]; exact (e_up_ne _ _ (Or.inl (by omega))).trans (by rw [← hw144]; exact (e_up_ne _ _ (Or.inl (by omega))).trans (by rw [← hw143]; exact (e_up_ne _ _ (Or.inl (by omega))).trans (by rw [← hw142]; exact (e_up_ne _ _ (Or.inl (by omega))).trans (e_Has.eq hT rfl))))) (by omega) ?_
                                refine e_Ok.run (t' := (166, [(6, (0, p4)), (0, (1, 275)), (1, (0, p1)), (2, (0, p2)), (3, (0, p3)), (4, (0, p4)), (5, (0, p5))], [(1, 275), (1, 304)], w145)) 1 rfl ?_
                                refine e_Ok.getf (z := w 275 30) rfl rfl rfl rfl (by rw [← hw145]; exact (e_up_ne _ _ (Or.inl (by omega))).trans (by rw [← hw144]; exact (e_up_ne _ _ (Or.inl (by omega))).trans (by rw [← hw143]; exact (e_up_ne _ _ (Or.inl (by omega))).trans (by rw [← hw142]; exact (e_up_ne _ _ (Or.inl (by omega))).trans rfl)))) (by omega) ?_
                                refine e_Ok.run (t' := (170, [(6, (0, p4)), (0, (1, 275)), (1, (0, p1)), (2, (0, p2)), (3, (0, p3)), (4, (0, p4)), (5, (0, p5))], [(0, 0), (0, w 275 30), (1, 304)], w145)) 1 rfl ?_
                                refine e_Ok.ast rfl rfl rfl rfl (by omega) ?_
                                generalize hw146 : e_up w145 304 (w 275 30) 0 = w146
                                refine e_Ok.run (t' := (172, [(6, (0, p4)), (0, (1, 275)), (1, (0, p1)), (2, (0, p2)), (3, (0, p3)), (4, (0, p4)), (5, (0, p5))], [(1, 275)], w146)) 1 rfl ?_
                                refine e_Ok.getr (z := 306) rfl rfl rfl rfl (by rw [← hw146]; exact (e_up_ne _ _ (Or.inl (by omega))).trans (by rw [← hw145]; exact (e_up_ne _ _ (Or.inl (by omega))).trans (by rw [← hw144]; exact (e_up_ne _ _ (Or.inl (by omega))).trans (by rw [← hw143]; exact (e_up_ne _ _ (Or.inl (by omega))).trans (by rw [← hw142]; exact (e_up_ne _ _ (Or.inl (by omega))).trans (e_Has.eq hT rfl)))))) (by omega) ?_
                                refine e_Ok.run (t' := (176, [(6, (0, p4)), (0, (1, 275)), (1, (0, p1)), (2, (0, p2)), (3, (0, p3)), (4, (0, p4)), (5, (0, p5))], [(1, 275), (1, 306)], w146)) 1 rfl ?_
                                refine e_Ok.getf (z := w 275 30) rfl rfl rfl rfl (by rw [← hw146]; exact (e_up_ne _ _ (Or.inl (by omega))).trans (by rw [← hw145]; exact (e_up_ne _ _ (Or.inl (by omega))).trans (by rw [← hw144]; exact (e_up_ne _ _ (Or.inl (by omega))).trans (by rw [← hw143]; exact (e_up_ne _ _ (Or.inl (by omega))).trans (by rw [← hw142]; exact (e_up_ne _ _ (Or.inl (by omega))).trans rfl))))) (by omega) ?_
                                refine e_Ok.run (t' := (180, [(6, (0, p4)), (0, (1, 275)), (1, (0, p1)), (2, (0, p2)), (3, (0, p3)), (4, (0, p4)), (5, (0, p5))], [(0, (-1)), (0, w 275 30), (1, 306)], w146)) 1 rfl ?_
                                refine e_Ok.ast rfl rfl rfl rfl (by omega) ?_
                                generalize hw147 : e_up w146 306 (w 275 30) (-1) = w147
                                refine e_Ok.run (t' := (182, [(6, (0, p4)), (0, (1, 275)), (1, (0, p1)), (2, (0, p2)), (3, (0, p3)), (4, (0, p4)), (5, (0, p5))], [(1, 275)], w147)) 1 rfl ?_
                                refine e_Ok.getr (z := 305) rfl rfl rfl rfl (by rw [← hw147]; exact (e_up_ne _ _ (Or.inl (by omega))).trans (by rw [← hw146]; exact (e_up_ne _ _ (Or.inl (by omega))).trans (by rw [← hw145]; exact (e_up_ne _ _ (Or.inl (by omega))).trans (by rw [← hw144]; exact (e_up_ne _ _ (Or.inl (by omega))).trans (by rw [← hw143]; exact (e_up_ne _ _ (Or.inl (by omega))).trans (by rw [← hw142]; exact (e_up_ne _ _ (Or.inl (by omega))).trans (e_Has.eq hT rfl))))))) (by omega) ?_
                                refine e_Ok.run (t' := (186, [(6, (0, p4)), (0, (1, 275)), (1, (0, p1)), (2, (0, p2)), (3, (0, p3)), (4, (0, p4)), (5, (0, p5))], [(1, 275), (1, 305)], w147)) 1 rfl ?_
                                refine e_Ok.getf (z := w 275 30) rfl rfl rfl rfl (by rw [← hw147]; exact (e_up_ne _ _ (Or.inl (by omega))).trans (by rw [← hw146]; exact (e_up_ne _ _ (Or.inl (by omega))).trans (by rw [← hw145]; exact (e_up_ne _ _ (Or.inl (by omega))).trans (by rw [← hw144]; exact (e_up_ne _ _ (Or.inl (by omega))).trans (by rw [← hw143]; exact (e_up_ne _ _ (Or.inl (by omega))).trans (by rw [← hw142]; exact (e_up_ne _ _ (Or.inl (by omega))).trans rfl)))))) (by omega) ?_
                                refine e_Ok.run (t' := (191, [(6, (0, p4)), (0, (1, 275)), (1, (0, p1)), (2, (0, p2)), (3, (0, p3)), (4, (0, p4)), (5, (0, p5))], [(0, p5), (0, w 275 30), (1, 305)], w147)) 1 rfl ?_
                                refine e_Ok.ast rfl rfl rfl rfl (by omega) ?_
                                generalize hw148 : e_up w147 305 (w 275 30) p5 = w148
                                refine e_Ok.run (t' := (194, [(6, (0, p4)), (0, (1, 275)), (1, (0, p1)), (2, (0, p2)), (3, (0, p3)), (4, (0, p4)), (5, (0, p5))], [(1, 275), (1, 275)], w148)) 2 rfl ?_
                                refine e_Ok.getf (z := w 275 30) rfl rfl rfl rfl (by rw [← hw148]; exact (e_up_ne _ _ (Or.inl (by omega))).trans (by rw [← hw147]; exact (e_up_ne _ _ (Or.inl (by omega))).trans (by rw [← hw146]; exact (e_up_ne _ _ (Or.inl (by omega))).trans (by rw [← hw145]; exact (e_up_ne _ _ (Or.inl (by omega))).trans (by rw [← hw144]; exact (e_up_ne _ _ (Or.inl (by omega))).trans (by rw [← hw143]; exact (e_up_ne _ _ (Or.inl (by omega))).trans (by rw [← hw142]; exact (e_up_ne _ _ (Or.inl (by omega))).trans rfl))))))) (by omega) ?_
                                refine e_Ok.run (t' := (198, [(6, (0, p4)), (0, (1, 275)), (1, (0, p1)), (2, (0, p2)), (3, (0, p3)), (4, (0, p4)), (5, (0, p5))], [(0, 1), (0, w 275 30), (1, 275)], w148)) 1 rfl ?_
                                refine e_Ok.add (z := w 275 30 + 1) rfl (by omega) (by omega) ?_
                                refine e_Ok.putf rfl rfl rfl rfl ?_
                                generalize hw149 : e_up w148 275 30 (w 275 30 + 1) = w149
                                refine e_Ok.run (t' := (203, [(6, (0, p4)), (0, (1, 275)), (1, (0, p1)), (2, (0, p2)), (3, (0, p3)), (4, (0, p4)), (5, (0, p5))], [(1, 275)], w149)) 1 rfl ?_
                                refine e_Ok.getf (z := w 275 30 + 1) rfl rfl rfl rfl (by rw [← hw149]; exact e_up_eq _ _ _ _) (by omega) ?_
                                refine e_Ok.run (t' := (207, [(6, (0, p4)), (0, (1, 275)), (1, (0, p1)), (2, (0, p2)), (3, (0, p3)), (4, (0, p4)), (5, (0, p5))], [(0, 1), (0, w 275 30 + 1)], w149)) 1 rfl ?_
                                refine e_Ok.sub' (z := w 275 30) rfl (by omega) (by omega) ?_
                                refine e_Ok.rets rfl rfl ?_
                                exact ⟨_, rfl, Or.inr ⟨by omega, by omega, by rw [← hw149, ← hw148, ← hw147, ← hw146, ← hw145, ← hw144, ← hw143, ← hw142]⟩⟩
                              · replace h141 : (w 275 30 : Int) = 4 := by have q : ¬ ((w 275 30 : Int) ≠ 4) := h141; omega
                                refine e_Ok.run (t' := (119, [(6, (0, p4)), (0, (1, 275)), (1, (0, p1)), (2, (0, p2)), (3, (0, p3)), (4, (0, p4)), (5, (0, p5))], [(0, (-3))], w)) 1 rfl ?_
                                refine e_Ok.rets rfl rfl ?_
                                exact ⟨_, rfl, Or.inl ⟨rfl, by omega⟩⟩
                            · replace h139 : (w 275 3 : Int) ≠ 0 := by have q : ¬ ((w 275 3 : Int) = 0) := h139; omega
                              refine e_Ok.run (t' := (108, [(6, (0, p4)), (0, (1, 275)), (1, (0, p1)), (2, (0, p2)), (3, (0, p3)), (4, (0, p4)), (5, (0, p5))], [(0, (-2))], w)) 1 rfl ?_
                              refine e_Ok.rets rfl rfl ?_
                              exact ⟨_, rfl, Or.inl ⟨rfl, by omega⟩⟩
                          · replace h138 : (1 : Int) = 0 := by have q : ¬ ((1 : Int) ≠ 0) := h138; omega
                            exfalso; omega
                        · show e_Ok 20 elay ecode eI (d + 1) 286 (94, [(6, (0, p4)), (0, (1, 275)), (1, (0, p1)), (2, (0, p2)), (3, (0, p3)), (4, (0, p4)), (5, (0, p5))], [(0, 0)], w) _
                          refine e_Ok.if1 rfl (fun h150 => ?_) (fun h150 => ?_)
                          · replace h150 : (0 : Int) ≠ 0 := h150
                            exfalso; omega
                          · replace h150 : (0 : Int) = 0 := by have q : ¬ ((0 : Int) ≠ 0) := h150; omega
                            refine e_Ok.run (t' := (98, [(6, (0, p4)), (0, (1, 275)), (1, (0, p1)), (2, (0, p2)), (3, (0, p3)), (4, (0, p4)), (5, (0, p5))], [(0, (-1))], w)) 1 rfl ?_
                            refine e_Ok.rets rfl rfl ?_
                            exact ⟨_, rfl, Or.inl ⟨rfl, by omega⟩⟩
                    · replace h112 : (z111 : Int) = 0 := by have q : ¬ ((z111 : Int) ≠ 0) := h112; omega
                      refine e_Ok.run (t' := (72, [(6, (0, p4)), (0, (1, 275)), (1, (0, p1)), (2, (0, p2)), (3, (0, p3)), (4, (0, p4)), (5, (0, p5))], [(0, p4), (0, p1)], w)) 2 rfl ?_
                      refine e_Ok.add (z := p1 + p4) rfl (by omega) (by omega) ?_
                      refine e_Ok.run (t' := (79, [(6, (0, p4)), (0, (1, 275)), (1, (0, p1)), (2, (0, p2)), (3, (0, p3)), (4, (0, p4)), (5, (0, p5))], [(0, 2), (0, p3), (0, p1 + p4)], w)) 3 rfl ?_
                      refine e_Ok.remn (fun z151 hz151 => ?_) rfl (by omega) (by omega)
                      replace hz151 : z151 = p3 % 2 := hz151
                      have z151r : 0 ≤ z151 ∧ z151 ≤ 1 := by omega
                      refine e_Ok.if1 rfl (fun h152 => ?_) (fun h152 => ?_)
                      · replace h152 : (z151 : Int) ≠ 0 := h152
                        refine e_Ok.run (t' := (90, [(6, (0, p4)), (0, (1, 275)), (1, (0, p1)), (2, (0, p2)), (3, (0, p3)), (4, (0, p4)), (5, (0, p5))], [(0, p4), (0, p2), (0, p1 + p4)], w)) 2 rfl ?_
                        refine e_Ok.add (z := p2 + p4) rfl (by omega) (by omega) ?_
                        refine e_Ok.callS rfl (by omega) rfl rfl (c_272_ex (by omega)) (fun r153 w154 h155 => ?_)
                        obtain ⟨z156, rfl, rfl, q157⟩ := h155
                        obtain ⟨rfl, q157⟩ | ⟨rfl, q157⟩ := q157
                        · show e_Ok 20 elay ecode eI (d + 1) 286 (94, [(6, (0, p4)), (0, (1, 275)), (1, (0, p1)), (2, (0, p2)), (3, (0, p3)), (4, (0, p4)), (5, (0, p5))], [(0, 1)], w) _
                          refine e_Ok.if1 rfl (fun h158 => ?_) (fun h158 => ?_)
                          · replace h158 : (1 : Int) ≠ 0 := h158
                            refine e_Ok.run (t' := (100, [(6, (0, p4)), (0, (1, 275)), (1, (0, p1)), (2, (0, p2)), (3, (0, p3)), (4, (0, p4)), (5, (0, p5))], [(1, 275)], w)) 1 rfl ?_
                            refine e_Ok.getf (z := w 275 3) rfl rfl rfl rfl rfl (by omega) ?_
                            refine e_Ok.if1 rfl (fun h159 => ?_) (fun h159 => ?_)
                            · replace h159 : (w 275 3 : Int) = 0 := h159
                              refine e_Ok.run (t' := (110, [(6, (0, p4)), (0, (1, 275)), (1, (0, p1)), (2, (0, p2)), (3, (0, p3)), (4, (0, p4)), (5, (0, p5))], [(1, 275)], w)) 1 rfl ?_
                              have h160 := (e_Has.get hT (c := 275) (k := 30) (lo := 0) (hi := 4) rfl (by decide))
                              refine e_Ok.getf (z := w 275 30) rfl rfl rfl rfl rfl (by omega) ?_
                              refine e_Ok.run (t' := (114, [(6, (0, p4)), (0, (1, 275)), (1, (0, p1)), (2, (0, p2)), (3, (0, p3)), (4, (0, p4)), (5, (0, p5))], [(0, 4), (0, w 275 30)], w)) 1 rfl ?_
                              refine e_Ok.if2 rfl (fun h161 => ?_) (fun h161 => ?_)
                              · replace h161 : (w 275 30 : Int) ≠ 4 := h161
                                refine e_Ok.run (t' := (121, [(6, (0, p4)), (0, (1, 275)), (1, (0, p1)), (2, (0, p2)), (3, (0, p3)), (4, (0, p4)), (5, (0, p5))], [(1, 275)], w)) 1 rfl ?_
                                refine e_Ok.getr (z := 300) rfl rfl rfl rfl (e_Has.eq hT rfl) (by omega) ?_
                                refine e_Ok.run (t' := (125, [(6, (0, p4)), (0, (1, 275)), (1, (0, p1)), (2, (0, p2)), (3, (0, p3)), (4, (0, p4)), (5, (0, p5))], [(1, 275), (1, 300)], w)) 1 rfl ?_
                                refine e_Ok.getf (z := w 275 30) rfl rfl rfl rfl rfl (by omega) ?_
                                refine e_Ok.run (t' := (129, [(6, (0, p4)), (0, (1, 275)), (1, (0, p1)), (2, (0, p2)), (3, (0, p3)), (4, (0, p4)), (5, (0, p5))], [(0, p1), (0, w 275 30), (1, 300)], w)) 1 rfl ?_
                                refine e_Ok.ast rfl rfl rfl rfl (by omega) ?_
                                generalize hw162 : e_up w 300 (w 275 30) p1 = w162
                                refine e_Ok.run (t' := (131, [(6, (0, p4)), (0, (1, 275)), (1, (0, p1)), (2, (0, p2)), (3, (0, p3)), (4, (0, p4)), (5, (0, p5))], [(1, 275)], w162)) 1 rfl ?_
                                refine e_Ok.getr (z := 301) rfl rfl rfl rfl (by rw [← hw162]; exact (e_up_ne _ _ (Or.inl (by omega))).trans (e_Has.eq hT rfl)) (by omega) ?_
                                refine e_Ok.run (t' := (135, [(6, (0, p4)), (0, (1, 275)), (1, (0, p1)), (2, (0, p2)), (3, (0, p3)), (4, (0, p4)), (5, (0, p5))], [(1, 275), (1, 301)], w162)) 1 rfl ?_
                                refine e_Ok.getf (z := w 275 30) rfl rfl rfl rfl (by rw [← hw162]; exact (e_up_ne _ _ (Or.inl (by omega))).trans rfl) (by omega) ?_
                                refine e_Ok.run (t' := (139, [(6, (0, p4)), (0, (1, 275)), (1, (0, p1)), (2, (0, p2)), (3, (0, p3)), (4, (0, p4)), (5, (0, p5))], [(0, p2), (0, w 275 30), (1, 301)], w162)) 1 rfl ?_
                                refine e_Ok.ast rfl rfl rfl rfl (by omega) ?_
                                generalize hw163 : e_up w162 301 (w 275 30) p2 = w163
                                refine e_Ok.run (t' := (141, [(6, (0, p4)), (0, (1, 275)), (1, (0, p1)), (2, (0, p2)), (3, (0, p3)), (4, (0, p4)), (5, (0, p5))], [(1, 275)], w163)) 1 rfl ?_
                                refine e_Ok.getr (z := 302) rfl rfl rfl rfl (by rw [← hw163]; exact (e_up_ne _ _ (Or.inl (by omega))).trans (by rw [← hw162]; exact (e_up_ne _ _ (Or.inl (by omega))).trans (e_Has.eq hT rfl))) (by omega) ?_
                                refine e_Ok.run (t' := (145, [(6, (0, p4)), (0, (1, 275)), (1, (0, p1)), (2, (0, p2)), (3, (0, p3)), (4, (0, p4)), (5, (0, p5))], [(1, 275), (1, 302)], w163)) 1 rfl ?_
                                refine e_Ok.getf (z := w 275 30) rfl rfl rfl rfl (by rw [← hw163]; exact (e_up_ne _ _ (Or.inl (by omega))).trans (by rw [← hw162]; exact (e_up_ne _ _ (Or.inl (by omega))).trans rfl)) (by omega) ?_
                                refine e_Ok.run (t' := (149, [(6, (0, p4)), (0, (1, 275)), (1, (0, p1)), (2, (0, p2)), (3, (0, p3)), (4, (0, p4)), (5, (0, p5))], [(0, p3), (0, w 275 30), (1, 302)], w163)) 1 rfl ?_
                                refine e_Ok.ast rfl rfl rfl rfl (by omega) ?_
                                generalize hw164 : e_up w163 302 (w 275 30) p3 = w164
                                refine e_Ok.run (t' := (151, [(6, (0, p4)), (0, (1, 275)), (1, (0, p1)), (2, (0, p2)), (3, (0, p3)), (4, (0, p4)), (5, (0, p5))], [(1, 275)], w164)) 1 rfl ?_
                                refine e_Ok.getr (z := 303) rfl rfl rfl rfl (by rw [← hw164]; exact (e_up_ne _ _ (Or.inl (by omega))).trans (by rw [← hw163]; exact (e_up_ne _ _ (Or.inl (by omega))).trans (by rw [← hw162]; exact (e_up_ne _ _ (Or.inl (by omega))).trans (e_Has.eq hT rfl)))) (by omega) ?_
                                refine e_Ok.run (t' := (155, [(6, (0, p4)), (0, (1, 275)), (1, (0, p1)), (2, (0, p2)), (3, (0, p3)), (4, (0, p4)), (5, (0, p5))], [(1, 275), (1, 303)], w164)) 1 rfl ?_
                                refine e_Ok.getf (z := w 275 30) rfl rfl rfl rfl (by rw [← hw164]; exact (e_up_ne _ _ (Or.inl (by omega))).trans (by rw [← hw163]; exact (e_up_ne _ _ (Or.inl (by omega))).trans (by rw [← hw162]; exact (e_up_ne _ _ (Or.inl (by omega))).trans rfl))) (by omega) ?_
                                refine e_Ok.run (t' := (160, [(6, (0, p4)), (0, (1, 275)), (1, (0, p1)), (2, (0, p2)), (3, (0, p3)), (4, (0, p4)), (5, (0, p5))], [(0, p4), (0, w 275 30), (1, 303)], w164)) 1 rfl ?_
                                refine e_Ok.ast rfl rfl rfl rfl (by omega) ?_
                                generalize hw165 : e_up w164 303 (w 275 30) p4 = w165
                                refine e_Ok.run (t' := (162, [(6, (0, p4)), (0, (1, 275)), (1, (0, p1)), (2, (0, p2)), (3, (0, p3)), (4, (0, p4)), (5, (0, p5))], [(1, 275)], w165)) 1 rfl ?_
                                refine e_Ok.getr (z := 304) rfl rfl rfl rfl (by rw [← hw165]; exact (e_up_ne _ _ (Or.inl (by omega))).trans (by rw [← hw164]; exact (e_up_ne _ _ (Or.inl (by omega))).trans (by rw [← hw163]; exact (e_up_ne _ _ (Or.inl (by omega))).trans (by rw [← hw162]; exact (e_up_ne _ _ (Or.inl (by omega))).trans (e_Has.eq hT rfl))))) (by omega) ?_
                                refine e_Ok.run (t' := (166, [(6, (0, p4)), (0, (1, 275)), (1, (0, p1)), (2, (0, p2)), (3, (0, p3)), (4, (0, p4)), (5, (0, p5))], [(1, 275), (1, 304)], w165)) 1 rfl ?_
                                refine e_Ok.getf (z := w 275 30) rfl rfl rfl rfl (by rw [← hw165]; exact (e_up_ne _ _ (Or.inl (by omega))).trans (by rw [← hw164]; exact (e_up_ne _ _ (Or.inl (by omega))).trans (by rw [← hw163]; exact (e_up_ne _ _ (Or.inl (by omega))).trans (by rw [← hw162]; exact (e_up_ne _ _ (Or.inl (by omega))).trans rfl)))) (by omega) ?_
                                refine e_Ok.run (t' := (170, [(6, (0, p4)), (0, (1, 275)), (1, (0, p1)), (2, (0, p2)), (3, (0, p3)), (4, (0, p4)), (5, (0, p5))], [(0, 0), (0, w 275 30), (1, 304)], w165)) 1 rfl ?_
                                refine e_Ok.ast rfl rfl rfl rfl (by omega) ?_
                                generalize hw166 : e_up w165 304 (w 275 30) 0 = w166
                                refine e_Ok.run (t' := (172, [(6, (0, p4)), (0, (1, 275)), (1, (0, p1)), (2, (0, p2)), (3, (0, p3)), (4, (0, p4)), (5, (0, p5))], [(1, 275)], w166)) 1 rfl ?_
                                refine e_Ok.getr (z := 306) rfl rfl rfl rfl (by rw [← hw166]; exact (e_up_ne _ _ (Or.inl (by omega))).trans (by rw [← hw165]; exact (e_up_ne _ _ (Or.inl (by omega))).trans (by rw [← hw164]; exact (e_up_ne _ _ (Or.inl (by omega))).trans (by rw [← hw163]; exact (e_up_ne _ _ (Or.inl (by omega))).trans (by rw [← hw162]; exact (e_up_ne _ _ (Or.inl (by omega))).trans (e_Has.eq hT rfl)))))) (by omega) ?_
                                refine e_Ok.run (t' := (176, [(6, (0, p4)), (0, (1, 275)), (1, (0, p1)), (2, (0, p2)), (3, (0, p3)), (4, (0, p4)), (5, (0, p5))], [(1, 275), (1, 306)], w166)) 1 rfl ?_
                                refine e_Ok.getf (z := w 275 30) rfl rfl rfl rfl (by rw [← hw166]; exact (e_up_ne _ _ (Or.inl (by omega))).trans (by rw [← hw165]; exact (e_up_ne _ _ (Or.inl (by omega))).trans (by rw [← hw164]; exact (e_up_ne _ _ (Or.inl (by omega))).trans (by rw [← hw163]; exact (e_up_ne _ _ (Or.inl (by omega))).trans (by rw [← hw162]; exact (e_up_ne _ _ (Or.inl (by omega))).trans rfl))))) (by omega) ?_
                                refine e_Ok.run (t' := (180, [(6, (0, p4)), (0, (1, 275)), (1, (0, p1)), (2, (0, p2)), (3, (0, p3)), (4, (0, p4)), (5, (0, p5))], [(0, (-1)), (0, w 275 30), (1, 306)], w166)) 1 rfl ?_
                                refine e_Ok.ast rfl rfl rfl rfl (by omega) ?_
                                generalize hw167 : e_up w166 306 (w 275 30) (-1) = w167
                                refine e_Ok.run (t' := (182, [(6, (0, p4)), (0, (1, 275)), (1, (0, p1)), (2, (0, p2)), (3, (0, p3)), (4, (0, p4)), (5, (0, p5))], [(1, 275)], w167)) 1 rfl ?_
                                refine e_Ok.getr (z := 305) rfl rfl rfl rfl (by rw [← hw167]; exact (e_up_ne _ _ (Or.inl (by omega))).trans (by rw [← hw166]; exact (e_up_ne _ _ (Or.inl (by omega))).trans (by rw [← hw165]; exact (e_up_ne _ _ (Or.inl (by omega))).trans (by rw [← hw164]; exact (e_up_ne _ _ (Or.inl (by omega))).trans (by rw [← hw163]; exact (e_up_ne _ _ (Or.inl (by omega))).trans (by rw [← hw162]; exact (e_up_ne _ _ (Or.inl (by omega))).trans (e_Has.eq hT rfl))))))) (by omega) ?_
                                refine e_Ok.run (t' := (186, [(6, (0, p4)), (0, (1, 275)), (1, (0, p1)), (2, (0, p2)), (3, (0, p3)), (4, (0, p4)), (5, (0, p5))], [(1, 275), (1, 305)], w167)) 1 rfl ?_
                                refine e_Ok.getf (z := w 275 30) rfl rfl rfl rfl (by rw [← hw167]; exact (e_up_ne _ _ (Or.inl (by omega))).trans (by rw [← hw166]; exact (e_up_ne _ _ (Or.inl (by omega))).trans (by rw [← hw165]; exact (e_up_ne _ _ (Or.inl (by omega))).trans (by rw [← hw164]; exact (e_up_ne _ _ (Or.inl (by omega))).trans (by rw [← hw163]; exact (e_up_ne _ _ (Or.inl (by omega))).trans (by rw [← hw162]; exact (e_up_ne _ _ (Or.inl (by omega))).trans rfl)))))) (by omega) ?_
                                refine e_Ok.run (t' := (191, [(6, (0, p4)), (0, (1, 275)), (1, (0, p1)), (2, (0, p2)), (3, (0, p3)), (4, (0, p4)), (5, (0, p5))], [(0, p5), (0, w 275 30), (1, 305)], w167)) 1 rfl ?_
                                refine e_Ok.ast rfl rfl rfl rfl (by omega) ?_
                                generalize hw168 : e_up w167 305 (w 275 30) p5 = w168
                                refine e_Ok.run (t' := (194, [(6, (0, p4)), (0, (1, 275)), (1, (0, p1)), (2, (0, p2)), (3, (0, p3)), (4, (0, p4)), (5, (0, p5))], [(1, 275), (1, 275)], w168)) 2 rfl ?_
                                refine e_Ok.getf (z := w 275 30) rfl rfl rfl rfl (by rw [← hw168]; exact (e_up_ne _ _ (Or.inl (by omega))).trans (by rw [← hw167]; exact (e_up_ne _ _ (Or.inl (by omega))).trans (by rw [← hw166]; exact (e_up_ne _ _ (Or.inl (by omega))).trans (by rw [← hw165]; exact (e_up_ne _ _ (Or.inl (by omega))).trans (by rw [← hw164]; exact (e_up_ne _ _ (Or.inl (by omega))).trans (by rw [← hw163]; exact (e_up_ne _ _ (Or.inl (by omega))).trans (by rw [← hw162]; exact (e_up_ne _ _ (Or.inl (by omega))).trans rfl))))))) (by omega) ?_
                                refine e_Ok.run (t' := (198, [(6, (0, p4)), (0, (1, 275)), (1, (0, p1)), (2, (0, p2)), (3, (0, p3)), (4, (0, p4)), (5, (0, p5))], [(0, 1), (0, w 275 30), (1, 275)], w168)) 1 rfl ?_
                                refine e_Ok.add (z := w 275 30 + 1) rfl (by omega) (by omega) ?_
                                refine e_Ok.putf rfl rfl rfl rfl ?_
                                generalize hw169 : e_up w168 275 30 (w 275 30 + 1) = w169
                                refine e_Ok.run (t' := (203, [(6, (0, p4)), (0, (1, 275)), (1, (0, p1)), (2, (0, p2)), (3, (0, p3)), (4, (0, p4)), (5, (0, p5))], [(1, 275)], w169)) 1 rfl ?_
                                refine e_Ok.getf (z := w 275 30 + 1) rfl rfl rfl rfl (by rw [← hw169]; exact e_up_eq _ _ _ _) (by omega) ?_
                                refine e_Ok.run (t' := (207, [(6, (0, p4)), (0, (1, 275)), (1, (0, p1)), (2, (0, p2)), (3, (0, p3)), (4, (0, p4)), (5, (0, p5))], [(0, 1), (0, w 275 30 + 1)], w169)) 1 rfl ?_
                                refine e_Ok.sub' (z := w 275 30) rfl (by omega) (by omega) ?_
                                refine e_Ok.rets rfl rfl ?_
                                exact ⟨_, rfl, Or.inr ⟨by omega, by omega, by rw [← hw169, ← hw168, ← hw167, ← hw166, ← hw165, ← hw164, ← hw163, ← hw162]⟩⟩
                              · replace h161 : (w 275 30 : Int) = 4 := by have q : ¬ ((w 275 30 : Int) ≠ 4) := h161; omega
                                refine e_Ok.run (t' := (119, [(6, (0, p4)), (0, (1, 275)), (1, (0, p1)), (2, (0, p2)), (3, (0, p3)), (4, (0, p4)), (5, (0, p5))], [(0, (-3))], w)) 1 rfl ?_
                                refine e_Ok.rets rfl rfl ?_
                                exact ⟨_, rfl, Or.inl ⟨rfl, by omega⟩⟩
                            · replace h159 : (w 275 3 : Int) ≠ 0 := by have q : ¬ ((w 275 3 : Int) = 0) := h159; omega
                              refine e_Ok.run (t' := (108, [(6, (0, p4)), (0, (1, 275)), (1, (0, p1)), (2, (0, p2)), (3, (0, p3)), (4, (0, p4)), (5, (0, p5))], [(0, (-2))], w)) 1 rfl ?_
                              refine e_Ok.rets rfl rfl ?_
                              exact ⟨_, rfl, Or.inl ⟨rfl, by omega⟩⟩
                          · replace h158 : (1 : Int) = 0 := by have q : ¬ ((1 : Int) ≠ 0) := h158; omega
                            exfalso; omega
                        · show e_Ok 20 elay ecode eI (d + 1) 286 (94, [(6, (0, p4)), (0, (1, 275)), (1, (0, p1)), (2, (0, p2)), (3, (0, p3)), (4, (0, p4)), (5, (0, p5))], [(0, 0)], w) _
                          refine e_Ok.if1 rfl (fun h170 => ?_) (fun h170 => ?_)
                          · replace h170 : (0 : Int) ≠ 0 := h170
                            exfalso; omega
                          · replace h170 : (0 : Int) = 0 := by have q : ¬ ((0 : Int) ≠ 0) := h170; omega
                            refine e_Ok.run (t' := (98, [(6, (0, p4)), (0, (1, 275)), (1, (0, p1)), (2, (0, p2)), (3, (0, p3)), (4, (0, p4)), (5, (0, p5))], [(0, (-1))], w)) 1 rfl ?_
                            refine e_Ok.rets rfl rfl ?_
                            exact ⟨_, rfl, Or.inl ⟨rfl, by omega⟩⟩
                      · replace h152 : (z151 : Int) = 0 := by have q : ¬ ((z151 : Int) ≠ 0) := h152; omega
                        refine e_Ok.run (t' := (91, [(6, (0, p4)), (0, (1, 275)), (1, (0, p1)), (2, (0, p2)), (3, (0, p3)), (4, (0, p4)), (5, (0, p5))], [(0, p2), (0, p1 + p4)], w)) 2 rfl ?_
                        refine e_Ok.callS rfl (by omega) rfl rfl (c_272_ex (by omega)) (fun r171 w172 h173 => ?_)
                        obtain ⟨z174, rfl, rfl, q175⟩ := h173
                        obtain ⟨rfl, q175⟩ | ⟨rfl, q175⟩ := q175
                        · show e_Ok 20 elay ecode eI (d + 1) 286 (94, [(6, (0, p4)), (0, (1, 275)), (1, (0, p1)), (2, (0, p2)), (3, (0, p3)), (4, (0, p4)), (5, (0, p5))], [(0, 1)], w) _
                          refine e_Ok.if1 rfl (fun h176 => ?_) (fun h176 => ?_)
                          · replace h176 : (1 : Int) ≠ 0 := h176
                            refine e_Ok.run (t' := (100, [(6, (0, p4)), (0, (1, 275)), (1, (0, p1)), (2, (0, p2)), (3, (0, p3)), (4, (0, p4)), (5, (0, p5))], [(1, 275)], w)) 1 rfl ?_
                            refine e_Ok.getf (z := w 275 3) rfl rfl rfl rfl rfl (by omega) ?_
                            refine e_Ok.if1 rfl (fun h177 => ?_) (fun h177 => ?_)
                            · replace h177 : (w 275 3 : Int) = 0 := h177
                              refine e_Ok.run (t' := (110, [(6, (0, p4)), (0, (1, 275)), (1, (0, p1)), (2, (0, p2)), (3, (0, p3)), (4, (0, p4)), (5, (0, p5))], [(1, 275)], w)) 1 rfl ?_
                              have h178 := (e_Has.get hT (c := 275) (k := 30) (lo := 0) (hi := 4) rfl (by decide))
                              refine e_Ok.getf (z := w 275 30) rfl rfl rfl rfl rfl (by omega) ?_
                              refine e_Ok.run (t' := (114, [(6, (0, p4)), (0, (1, 275)), (1, (0, p1)), (2, (0, p2)), (3, (0, p3)), (4, (0, p4)), (5, (0, p5))], [(0, 4), (0, w 275 30)], w)) 1 rfl ?_
                              refine e_Ok.if2 rfl (fun h179 => ?_) (fun h179 => ?_)
                              · replace h179 : (w 275 30 : Int) ≠ 4 := h179
                                refine e_Ok.run (t' := (121, [(6, (0, p4)), (0, (1, 275)), (1, (0, p1)), (2, (0, p2)), (3, (0, p3)), (4, (0, p4)), (5, (0, p5))], [(1, 275)], w)) 1 rfl ?_
                                refine e_Ok.getr (z := 300) rfl rfl rfl rfl (e_Has.eq hT rfl) (by omega) ?_
                                refine e_Ok.run (t' := (125, [(6, (0, p4)), (0, (1, 275)), (1, (0, p1)), (2, (0, p2)), (3, (0, p3)), (4, (0, p4)), (5, (0, p5))], [(1, 275), (1, 300)], w)) 1 rfl ?_
                                refine e_Ok.getf (z := w 275 30) rfl rfl rfl rfl rfl (by omega) ?_
                                refine e_Ok.run (t' := (129, [(6, (0, p4)), (0, (1, 275)), (1, (0, p1)), (2, (0, p2)), (3, (0, p3)), (4, (0, p4)), (5, (0, p5))], [(0, p1), (0, w 275 30), (1, 300)], w)) 1 rfl ?_
                                refine e_Ok.ast rfl rfl rfl rfl (by omega) ?_
                                generalize hw180 : e_up w 300 (w 275 30) p1 = w180
                                refine e_Ok.run (t' := (131, [(6, (0, p4)), (0, (1, 275)), (1, (0, p1)), (2, (0, p2)), (3, (0, p3)), (4, (0, p4)), (5, (0, p5))], [(1, 275)], w180)) 1 rfl ?_
                                refine e_Ok.getr (z := 301) rfl rfl rfl rfl (by rw [← hw180]; exact (e_up_ne _ _ (Or.inl (by omega))).trans (e_Has.eq hT rfl)) (by omega) ?_
                                refine e_Ok.run (t' := (135, [(6, (0, p4)), (0, (1, 275)), (1, (0, p1)), (2, (0, p2)), (3, (0, p3)), (4, (0, p4)), (5, (0, p5))], [(1, 275), (1, 301)], w180)) 1 rfl ?_
                                refine e_Ok.getf (z := w 275 30) rfl rfl rfl rfl (by rw [← hw180]; exact (e_up_ne _ _ (Or.inl (by omega))).trans rfl) (by omega) ?_
                                refine e_Ok.run (t' := (139, [(6, (0, p4)), (0, (1, 275)), (1, (0, p1)), (2, (0, p2)), (3, (0, p3)), (4, (0, p4)), (5, (0, p5))], [(0, p2), (0, w 275 30), (1, 301)], w180)) 1 rfl ?_
                                refine e_Ok.ast rfl rfl rfl rfl (by omega) ?_
                                generalize hw181 : e_up w180 301 (w 275 30) p2 = w181
                                refine e_Ok.run (t' := (141, [(6, (0, p4)), (0, (1, 275)), (1, (0, p1)), (2, (0, p2)), (3, (0, p3)), (4, (0, p4)), (5, (0, p5))], [(1, 275)], w181)) 1 rfl ?_
                                refine e_Ok.getr (z := 302) rfl rfl rfl rfl (by rw [← hw181]; exact (e_up_ne _ _ (Or.inl (by omega))).trans (by rw [← hw180]; exact (e_up_ne _ _ (Or.inl (by omega))).trans (e_Has.eq hT rfl))) (by omega) ?_
                                refine e_Ok.run (t' := (145, [(6, (0, p4)), (0, (1, 275)), (1, (0, p1)), (2, (0, p2)), (3, (0, p3)), (4, (0, p4)), (5, (0, p5))], [(1, 275), (1, 302)], w181)) 1 rfl ?_
                                refine e_Ok.getf (z := w 275 30) rfl rfl rfl rfl (by rw [← hw181]; exact (e_up_ne _ _ (Or.inl (by omega))).trans (by rw [← hw180]; exact (e_up_ne _ _ (Or.inl (by omega))).trans rfl)) (by omega) ?_
                                refine e_Ok.run (t' := (149, [(6, (0, p4)), (0, (1, 275)), (1, (0, p1)), (2, (0, p2)), (3, (0, p3)), (4, (0, p4)), (5, (0, p5))], [(0, p3), (0, w 275 30), (1, 302)], w181)) 1 rfl ?_
                                refine e_Ok.ast rfl rfl rfl rfl (by omega) ?_
                                generalize hw182 : e_up w181 302 (w 275 30) p3 = w182
                                refine e_Ok.run (t' := (151, [(6, (0, p4)), (0, (1, 275)), (1, (0, p1)), (2, (0, p2)), (3, (0, p3)), (4, (0, p4)), (5, (0, p5))], [(1, 275)], w182)) 1 rfl ?_
                                refine e_Ok.getr (z := 303) rfl rfl rfl rfl (by rw [← hw182]; exact (e_up_ne _ _ (Or.inl (by omega))).trans (by rw [← hw181]; exact (e_up_ne _ _ (Or.inl (by omega))).trans (by rw [← hw180]; exact (e_up_ne _ _ (Or.inl (by omega))).trans (e_Has.eq hT rfl)))) (by omega) ?_
                                refine e_Ok.run (t' := (155, [(6, (0, p4)), (0, (1, 275)), (1, (0, p1)), (2, (0, p2)), (3, (0, p3)), (4, (0, p4)), (5, (0, p5))], [(1, 275), (1, 303)], w182)) 1 rfl ?_
                                refine e_Ok.getf (z := w 275 30) rfl rfl rfl rfl (by rw [← hw182]; exact (e_up_ne _ _ (Or.inl (by omega))).trans (by rw [← hw181]; exact (e_up_ne _ _ (Or.inl (by omega))).trans (by rw [← hw180]; exact (e_up_ne _ _ (Or.inl (by omega))).trans rfl))) (by omega) ?_
                                refine e_Ok.run (t' := (160, [(6, (0, p4)), (0, (1, 275)), (1, (0, p1)), (2, (0, p2)), (3, (0, p3)), (4, (0, p4)), (5, (0, p5))], [(0, p4), (0, w 275 30), (1, 303)], w182)) 1 rfl ?_
                                refine e_Ok.ast rfl rfl rfl rfl (by omega) ?_
                                generalize hw183 : e_up w182 303 (w 275 30) p4 = w183
                                refine e_Ok.run (t' := (162, [(6, (0, p4)), (0, (1, 275)), (1, (0, p1)), (2, (0, p2)), (3, (0, p3)), (4, (0, p4)), (5, (0, p5))], [(1, 275)], w183)) 1 rfl ?_
                                refine e_Ok.getr (z := 304) rfl rfl rfl rfl (by rw [← hw183]; exact (e_up_ne _ _ (Or.inl (by omega))).trans (by rw [← hw182]; exact (e_up_ne _ _ (Or.inl (by omega))).trans (by rw [← hw181]; exact (e_up_ne _ _ (Or.inl (by omega))).trans (by rw [← hw180]; exact (e_up_ne _ _ (Or.inl (by omega))).trans (e_Has.eq hT rfl))))) (by omega) ?_
                                refine e_Ok.run (t' := (166, [(6, (0, p4)), (0, (1, 275)), (1, (0, p1)), (2, (0, p2)), (3, (0, p3)), (4, (0, p4)), (5, (0, p5))], [(1, 275), (1, 304)], w183)) 1 rfl ?_
                                refine e_Ok.getf (z := w 275 30) rfl rfl rfl rfl (by rw [← hw183]; exact (e_up_ne _ _ (Or.inl (by omega))).trans (by rw [← hw182]; exact (e_up_ne _ _ (Or.inl (by omega))).trans (by rw [← hw181]; exact (e_up_ne _ _ (Or.inl (by omega))).trans (by rw [← hw180]; exact (e_up_ne _ _ (Or.inl (by omega))).trans rfl)))) (by omega) ?_
                                refine e_Ok.run (t' := (170, [(6, (0, p4)), (0, (1, 275)), (1, (0, p1)), (2, (0, p2)), (3, (0, p3)), (4, (0, p4)), (5, (0, p5))], [(0, 0), (0, w 275 30), (1, 304)], w183)) 1 rfl ?_
                                refine e_Ok.ast rfl rfl rfl rfl (by omega) ?_
                                generalize hw184 : e_up w183 304 (w 275 30) 0 = w184
                                refine e_Ok.run (t' := (172, [(6, (0, p4)), (0, (1, 275)), (1, (0, p1)), (2, (0, p2)), (3, (0, p3)), (4, (0, p4)), (5, (0, p5))], [(1, 275)], w184)) 1 rfl ?_
                                refine e_Ok.getr (z := 306) rfl rfl rfl rfl (by rw [← hw184]; exact (e_up_ne _ _ (Or.inl (by omega))).trans (by rw [← hw183]; exact (e_up_ne _ _ (Or.inl (by omega))).trans (by rw [← hw182]; exact (e_up_ne _ _ (Or.inl (by omega))).trans (by rw [← hw181]; exact (e_up_ne _ _ (Or.inl (by omega))).trans (by rw [← hw180]; exact (e_up_ne _ _ (Or.inl (by omega))).trans (e_Has.eq hT rfl)))))) (by omega) ?_
                                refine e_Ok.run (t' := (176, [(6, (0, p4)), (0, (1, 275)), (1, (0, p1)), (2, (0, p2)), (3, (0, p3)), (4, (0, p4)), (5, (0, p5))], [(1, 275), (1, 306)], w184)) 1 rfl ?_
                                refine e_Ok.getf (z := w 275 30) rfl rfl rfl rfl (by rw [← hw184]; exact (e_up_ne _ _ (Or.inl (by omega))).trans (by rw [← hw183]; exact (e_up_ne _ _ (Or.inl (by omega))).trans (by rw [← hw182]; exact (e_up_ne _ _ (Or.inl (by omega))).trans (by rw [← hw181]; exact (e_up_ne _ _ (Or.inl (by omega))).trans (by rw [← hw180]; exact (e_up_ne _ _ (Or.inl (by omega))).trans rfl))))) (by omega) ?_
                                refine e_Ok.run (t' := (180, [(6, (0, p4)), (0, (1, 275)), (1, (0, p1)), (2, (0, p2)), (3, (0, p3)), (4, (0, p4)), (5, (0, p5))], [(0, (-1)), (0, w 275 30), (1, 306)], w184)) 1 rfl ?_
                                refine e_Ok.ast rfl rfl rfl rfl (by omega) ?_
                                generalize hw185 : e_up w184 306 (w 275 30) (-1) = w185
                                refine e_Ok.run (t' := (182, [(6, (0, p4)), (0, (1, 275)), (1, (0, p1)), (2, (0, p2)), (3, (0, p3)), (4, (0, p4)), (5, (0, p5))], [(1, 275)], w185)) 1 rfl ?_
                                refine e_Ok.getr (z := 305) rfl rfl rfl rfl (by rw [← hw185]; exact (e_up_ne _ _ (Or.inl (by omega))).trans (by rw [← hw184]; exact (e_up_ne _ _ (Or.inl (by omega))).trans (by rw [← hw183]; exact (e_up_ne _ _ (Or.inl (by omega))).trans (by rw [← hw182]; exact (e_up_ne _ _ (Or.inl (by omega))).trans (by rw [← hw181]; exact (e_up_ne _ _ (Or.inl (by omega))).trans (by rw [← hw180]; exact (e_up_ne _ _ (Or.inl (by omega))).trans (e_Has.eq hT rfl))))))) (by omega) ?_
                                refine e_Ok.run (t' := (186, [(6, (0, p4)), (0, (1, 275)), (1, (0, p1)), (2, (0, p2)), (3, (0, p3)), (4, (0, p4)), (5, (0, p5))], [(1, 275), (1, 305)], w185)) 1 rfl ?_
                                refine e_Ok.getf (z := w 275 30) rfl rfl rfl rfl (by rw [← hw185]; exact (e_up_ne _ _ (Or.inl (by omega))).trans (by rw [← hw184]; exact (e_up_ne _ _ (Or.inl (by omega))).trans (by rw [← hw183]; exact (e_up_ne _ _ (Or.inl (by omega))).trans (by rw [← hw182]; exact (e_up_ne _ _ (Or.inl (by omega))).trans (by rw [← hw181]; exact (e_up_ne _ _ (Or.inl (by omega))).trans (by rw [← hw180]; exact (e_up_ne _ _ (Or.inl (by omega))).trans rfl)))))) (by omega) ?_
                                refine e_Ok.run (t' := (191, [(6, (0, p4)), (0, (1, 275)), (1, (0, p1)), (2, (0, p2)), (3, (0, p3)), (4, (0, p4)), (5, (0, p5))], [(0, p5), (0, w 275 30), (1, 305)], w185)) 1 rfl ?_
                                refine e_Ok.ast rfl rfl rfl rfl (by omega) ?_
                                generalize hw186 : e_up w185 305 (w 275 30) p5 = w186
                                refine e_Ok.run (t' := (194, [(6, (0, p4)), (0, (1, 275)), (1, (0, p1)), (2, (0, p2)), (3, (0, p3)), (4, (0, p4)), (5, (0, p5))], [(1, 275), (1, 275)], w186)) 2 rfl ?_
                                refine e_Ok.getf (z := w 275 30) rfl rfl rfl rfl (by rw [← hw186]; exact (e_up_ne _ _ (Or.inl (by omega))).trans (by rw [← hw185]; exact (e_up_ne _ _ (Or.inl (by omega))).trans (by rw [← hw184]; exact (e_up_ne _ _ (Or.inl (by omega))).trans (by rw [← hw183]; exact (e_up_ne _ _ (Or.inl (by omega))).trans (by rw [← hw182]; exact (e_up_ne _ _ (Or.inl (by omega))).trans (by rw [← hw181]; exact (e_up_ne _ _ (Or.inl (by omega))).trans (by rw [← hw180]; exact (e_up_ne _ _ (Or.inl (by omega))).trans rfl))))))) (by omega) ?_
                                refine e_Ok.run (t' := (198, [(6, (0, p4)), (0, (1, 275)), (1, (0, p1)), (2, (0, p2)), (3, (0, p3)), (4, (0, p4)), (5, (0, p5))], [(0, 1), (0, w 275 30), (1, 275)], w186)) 1 rfl ?_
                                refine e_Ok.add (z := w 275 30 + 1) rfl (by omega) (by omega) ?_
                                refine e_Ok.putf rfl rfl rfl rfl ?_
                                generalize hw187 : e_up w186 275 30 (w 275 30 + 1) = w187
                                refine e_Ok.run (t' := (203, [(6, (0, p4)), (0, (1, 275)), (1, (0, p1)), (2, (0, p2)), (3, (0, p3)), (4, (0, p4)), (5, (0, p5))], [(1, 275)], w187)) 1 rfl ?_
                                refine e_Ok.getf (z := w 275 30 + 1) rfl rfl rfl rfl (by rw [← hw187]; exact e_up_eq _ _ _ _) (by omega) ?_
                                refine e_Ok.run (t' := (207, [(6, (0, p4)), (0, (1, 275)), (1, (0, p1)), (2, (0, p2)), (3, (0, p3)), (4, (0, p4)), (5, (0, p5))], [(0, 1), (0, w 275 30 + 1)], w187)) 1 rfl ?_
                                refine e_Ok.sub' (z := w 275 30) rfl (by omega) (by omega) ?_
                                refine e_Ok.rets rfl rfl ?_
                                exact ⟨_, rfl, Or.inr ⟨by omega, by omega, by rw [← hw187, ← hw186, ← hw185, ← hw184, ← hw183, ← hw182, ← hw181, ← hw180]⟩⟩
                              · replace h179 : (w 275 30 : Int) = 4 := by have q : ¬ ((w 275 30 : Int) ≠ 4) := h179; omega
                                refine e_Ok.run (t' := (119, [(6, (0, p4)), (0, (1, 275)), (1, (0, p1)), (2, (0, p2)), (3, (0, p3)), (4, (0, p4)), (5, (0, p5))], [(0, (-3))], w)) 1 rfl ?_
                                refine e_Ok.rets rfl rfl ?_
                                exact ⟨_, rfl, Or.inl ⟨rfl, by omega⟩⟩
                            · replace h177 : (w 275 3 : Int) ≠ 0 := by have q : ¬ ((w 275 3 : Int) = 0) := h177; omega
                              refine e_Ok.run (t' := (108, [(6, (0, p4)), (0, (1, 275)), (1, (0, p1)), (2, (0, p2)), (3, (0, p3)), (4, (0, p4)), (5, (0, p5))], [(0, (-2))], w)) 1 rfl ?_
                              refine e_Ok.rets rfl rfl ?_
                              exact ⟨_, rfl, Or.inl ⟨rfl, by omega⟩⟩
                          · replace h176 : (1 : Int) = 0 := by have q : ¬ ((1 : Int) ≠ 0) := h176; omega
                            exfalso; omega
                        · show e_Ok 20 elay ecode eI (d + 1) 286 (94, [(6, (0, p4)), (0, (1, 275)), (1, (0, p1)), (2, (0, p2)), (3, (0, p3)), (4, (0, p4)), (5, (0, p5))], [(0, 0)], w) _
                          refine e_Ok.if1 rfl (fun h188 => ?_) (fun h188 => ?_)
                          · replace h188 : (0 : Int) ≠ 0 := h188
                            exfalso; omega
                          · replace h188 : (0 : Int) = 0 := by have q : ¬ ((0 : Int) ≠ 0) := h188; omega
                            refine e_Ok.run (t' := (98, [(6, (0, p4)), (0, (1, 275)), (1, (0, p1)), (2, (0, p2)), (3, (0, p3)), (4, (0, p4)), (5, (0, p5))], [(0, (-1))], w)) 1 rfl ?_
                            refine e_Ok.rets rfl rfl ?_
                            exact ⟨_, rfl, Or.inl ⟨rfl, by omega⟩⟩
                · replace h24 : (1 : Int) = 0 := by have q : ¬ ((1 : Int) ≠ 0) := h24; omega
                  exfalso; omega
              · show e_Ok 20 elay ecode eI (d + 1) 286 (43, [(0, (1, 275)), (1, (0, p1)), (2, (0, p2)), (3, (0, p3)), (4, (0, p4)), (5, (0, p5))], [(0, 0)], w) _
                refine e_Ok.if1 rfl (fun h189 => ?_) (fun h189 => ?_)
                · replace h189 : (0 : Int) ≠ 0 := h189
                  exfalso; omega
                · replace h189 : (0 : Int) = 0 := by have q : ¬ ((0 : Int) ≠ 0) := h189; omega
                  refine e_Ok.run (t' := (47, [(0, (1, 275)), (1, (0, p1)), (2, (0, p2)), (3, (0, p3)), (4, (0, p4)), (5, (0, p5))], [(0, (-1))], w)) 1 rfl ?_
                  refine e_Ok.rets rfl rfl ?_
                  exact ⟨_, rfl, Or.inl ⟨rfl, by omega⟩⟩
          · show e_Ok 20 elay ecode eI (d + 1) 286 (30, [(0, (1, 275)), (1, (0, p1)), (2, (0, p2)), (3, (0, p3)), (4, (0, p4)), (5, (0, p5))], [(0, 0)], w) _
            refine e_Ok.if1 rfl (fun h190 => ?_) (fun h190 => ?_)
            · replace h190 : (0 : Int) = 0 := h190
              refine e_Ok.run (t' := (47, [(0, (1, 275)), (1, (0, p1)), (2, (0, p2)), (3, (0, p3)), (4, (0, p4)), (5, (0, p5))], [(0, (-1))], w)) 1 rfl ?_
              refine e_Ok.rets rfl rfl ?_
              exact ⟨_, rfl, Or.inl ⟨rfl, by omega⟩⟩
            · replace h190 : (0 : Int) ≠ 0 := by have q : ¬ ((0 : Int) = 0) := h190; omega
              exfalso; omega
      · show e_Ok 20 elay ecode eI (d + 1) 286 (17, [(0, (1, 275)), (1, (0, p1)), (2, (0, p2)), (3, (0, p3)), (4, (0, p4)), (5, (0, p5))], [(0, 0)], w) _
        refine e_Ok.if1 rfl (fun h191 => ?_) (fun h191 => ?_)
        · replace h191 : (0 : Int) = 0 := h191
          refine e_Ok.run (t' := (47, [(0, (1, 275)), (1, (0, p1)), (2, (0, p2)), (3, (0, p3)), (4, (0, p4)), (5, (0, p5))], [(0, (-1))], w)) 1 rfl ?_
          refine e_Ok.rets rfl rfl ?_
          exact ⟨_, rfl, Or.inl ⟨rfl, by omega⟩⟩
        · replace h191 : (0 : Int) ≠ 0 := by have q : ¬ ((0 : Int) = 0) := h191; omega
          exfalso; omega
  · show e_Ok 20 elay ecode eI (d + 1) 286 (5, [(0, (1, 275)), (1, (0, p1)), (2, (0, p2)), (3, (0, p3)), (4, (0, p4)), (5, (0, p5))], [(0, 0)], w) _
    refine e_Ok.if1 rfl (fun h192 => ?_) (fun h192 => ?_)
    · replace h192 : (0 : Int) = 0 := h192
      refine e_Ok.run (t' := (47, [(0, (1, 275)), (1, (0, p1)), (2, (0, p2)), (3, (0, p3)), (4, (0, p4)), (5, (0, p5))], [(0, (-1))], w)) 1 rfl ?_
      refine e_Ok.rets rfl rfl ?_
      exact ⟨_, rfl, Or.inl ⟨rfl, by omega⟩⟩
    · replace h192 : (0 : Int) ≠ 0 := by have q : ¬ ((0 : Int) = 0) := h192; omega
      exfalso; omega
theorem c_282_ex {d : Nat} (hd : 24 ≤ d) {w : eW} (hT : e_Has mTy w) {p1 p2 p3 p4 p5 : Int} (g1 : 0 ≤ p1 ∧ p1 ≤ 1) (g2 : (-2147483648) ≤ p2 ∧ p2 ≤ 2147483647) (g3 : (-2147483648) ≤ p3 ∧ p3 ≤ 2147483647) (g4 : (-2147483648) ≤ p4 ∧ p4 ≤ 2147483647) (g5 : (-2147483648) ≤ p5 ∧ p5 ≤ 2147483647) : e_Ok 20 elay ecode eI d 282 (0, [(0, (1, 275)), (1, (0, p1)), (2, (0, p2)), (3, (0, p3)), (4, (0, p4)), (5, (0, p5))], [], w) (fun r w' => ∃ z : Int, r = [(0, z)] ∧ ((w = w' ∧ ((¬ ((0 : Int) ≤ 0) ∧ z = -1) ∨ (((0 : Int) ≤ 0) ∧ ((w 275 3 ≠ 0 ∧ z = -2) ∨ (w 275 3 = 0 ∧ w 275 23 = 16 ∧ z = -3))))) ∨ ((((0 : Int) ≤ 0) ∧ w 275 3 = 0 ∧ ¬ (w 275 23 = 16)) ∧ z = w 275 23 ∧ w' = e_up (e_up (e_up (e_up (e_up (e_up w 294 (w 275 23) (p1)) 295 (w 275 23) (p2)) 296 (w 275 23) (p3)) 297 (w 275 23) (p4)) 298 (w 275 23) (p5)) 275 (23) (w 275 23 + 1)))) := by
  have hop := e_Has.get hT (c := 275) (k := 3) (lo := 0) (hi := 1) rfl (by decide)
  refine e_Ok.run (t' := (1, [(0, (1, 275)), (1, (0, p1)), (2, (0, p2)), (3, (0, p3)), (4, (0, p4)), (5, (0, p5))], [(1, 275)], w)) 1 rfl ?_
  refine e_Ok.getf (z := w 275 3) rfl rfl rfl rfl rfl (by omega) ?_
  refine e_Ok.if1 rfl (fun h1 => ?_) (fun h1 => ?_)
  · replace h1 : (w 275 3 : Int) = 0 := h1
    refine e_Ok.run (t' := (11, [(0, (1, 275)), (1, (0, p1)), (2, (0, p2)), (3, (0, p3)), (4, (0, p4)), (5, (0, p5))], [(1, 275)], w)) 1 rfl ?_
    have h2 := (e_Has.get hT (c := 275) (k := 23) (lo := 0) (hi := 16) rfl (by decide))
    refine e_Ok.getf (z := w 275 23) rfl rfl rfl rfl rfl (by omega) ?_
    refine e_Ok.run (t' := (16, [(0, (1, 275)), (1, (0, p1)), (2, (0, p2)), (3, (0, p3)), (4, (0, p4)), (5, (0, p5))], [(0, 16), (0, w 275 23)], w)) 1 rfl ?_
    refine e_Ok.if2 rfl (fun h3 => ?_) (fun h3 => ?_)
    · replace h3 : (w 275 23 : Int) ≠ 16 := h3
      refine e_Ok.run (t' := (23, [(0, (1, 275)), (1, (0, p1)), (2, (0, p2)), (3, (0, p3)), (4, (0, p4)), (5, (0, p5))], [(1, 275)], w)) 1 rfl ?_
      refine e_Ok.getr (z := 294) rfl rfl rfl rfl (e_Has.eq hT rfl) (by omega) ?_
      refine e_Ok.run (t' := (27, [(0, (1, 275)), (1, (0, p1)), (2, (0, p2)), (3, (0, p3)), (4, (0, p4)), (5, (0, p5))], [(1, 275), (1, 294)], w)) 1 rfl ?_
      refine e_Ok.getf (z := w 275 23) rfl rfl rfl rfl rfl (by omega) ?_
      refine e_Ok.run (t' := (31, [(0, (1, 275)), (1, (0, p1)), (2, (0, p2)), (3, (0, p3)), (4, (0, p4)), (5, (0, p5))], [(0, p1), (0, w 275 23), (1, 294)], w)) 1 rfl ?_
      refine e_Ok.ast rfl rfl rfl (e_nar_b (by omega)) (by omega) ?_
      generalize hw4 : e_up w 294 (w 275 23) p1 = w4
      refine e_Ok.run (t' := (33, [(0, (1, 275)), (1, (0, p1)), (2, (0, p2)), (3, (0, p3)), (4, (0, p4)), (5, (0, p5))], [(1, 275)], w4)) 1 rfl ?_
      refine e_Ok.getr (z := 295) rfl rfl rfl rfl (by rw [← hw4]; exact (e_up_ne _ _ (Or.inl (by omega))).trans (e_Has.eq hT rfl)) (by omega) ?_
      refine e_Ok.run (t' := (37, [(0, (1, 275)), (1, (0, p1)), (2, (0, p2)), (3, (0, p3)), (4, (0, p4)), (5, (0, p5))], [(1, 275), (1, 295)], w4)) 1 rfl ?_
      refine e_Ok.getf (z := w 275 23) rfl rfl rfl rfl (by rw [← hw4]; exact (e_up_ne _ _ (Or.inl (by omega))).trans rfl) (by omega) ?_
      refine e_Ok.run (t' := (41, [(0, (1, 275)), (1, (0, p1)), (2, (0, p2)), (3, (0, p3)), (4, (0, p4)), (5, (0, p5))], [(0, p2), (0, w 275 23), (1, 295)], w4)) 1 rfl ?_
      refine e_Ok.ast rfl rfl rfl rfl (by omega) ?_
      generalize hw5 : e_up w4 295 (w 275 23) p2 = w5
      refine e_Ok.run (t' := (43, [(0, (1, 275)), (1, (0, p1)), (2, (0, p2)), (3, (0, p3)), (4, (0, p4)), (5, (0, p5))], [(1, 275)], w5)) 1 rfl ?_
      refine e_Ok.getr (z := 296) rfl rfl rfl rfl (by rw [← hw5]; exact (e_up_ne _ _ (Or.inl (by omega))).trans (by rw [← hw4]; exact (e_up_ne _ _ (Or.inl (by omega))).trans (e_Has.eq hT rfl))) (by omega) ?_
      refine e_Ok.run (t' := (47, [(0, (1, 275)), (1, (0, p1)), (2, (0, p2)), (3, (0, p3)), (4, (0, p4)), (5, (0, p5))], [(1, 275), (1, 296)], w5)) 1 rfl ?_
      refine e_Ok.getf (z := w 275 23) rfl rfl rfl rfl (by rw [← hw5]; exact (e_up_ne _ _ (Or.inl (by omega))).trans (by rw [← hw4]; exact (e_up_ne _ _ (Or.inl (by omega))).trans rfl)) (by omega) ?_
      refine e_Ok.run (t' := (51, [(0, (1, 275)), (1, (0, p1)), (2, (0, p2)), (3, (0, p3)), (4, (0, p4)), (5, (0, p5))], [(0, p3), (0, w 275 23), (1, 296)], w5)) 1 rfl ?_
      refine e_Ok.ast rfl rfl rfl rfl (by omega) ?_
      generalize hw6 : e_up w5 296 (w 275 23) p3 = w6
      refine e_Ok.run (t' := (53, [(0, (1, 275)), (1, (0, p1)), (2, (0, p2)), (3, (0, p3)), (4, (0, p4)), (5, (0, p5))], [(1, 275)], w6)) 1 rfl ?_
      refine e_Ok.getr (z := 297) rfl rfl rfl rfl (by rw [← hw6]; exact (e_up_ne _ _ (Or.inl (by omega))).trans (by rw [← hw5]; exact (e_up_ne _ _ (Or.inl (by omega))).trans (by rw [← hw4]; exact (e_up_ne _ _ (Or.inl (by omega))).trans (e_Has.eq hT rfl)))) (by omega) ?_
      refine e_Ok.run (t' := (57, [(0, (1, 275)), (1, (0, p1)), (2, (0, p2)), (3, (0, p3)), (4, (0, p4)), (5, (0, p5))], [(1, 275), (1, 297)], w6)) 1 rfl ?_
      refine e_Ok.getf (z := w 275 23) rfl rfl rfl rfl (by rw [← hw6]; exact (e_up_ne _ _ (Or.inl (by omega))).trans (by rw [← hw5]; exact (e_up_ne _ _ (Or.inl (by omega))).trans (by rw [← hw4]; exact (e_up_ne _ _ (Or.inl (by omega))).trans rfl))) (by omega) ?_
      refine e_Ok.run (t' := (62, [(0, (1, 275)), (1, (0, p1)), (2, (0, p2)), (3, (0, p3)), (4, (0, p4)), (5, (0, p5))], [(0, p4), (0, w 275 23), (1, 297)], w6)) 1 rfl ?_
      refine e_Ok.ast rfl rfl rfl rfl (by omega) ?_
      generalize hw7 : e_up w6 297 (w 275 23) p4 = w7
      refine e_Ok.run (t' := (64, [(0, (1, 275)), (1, (0, p1)), (2, (0, p2)), (3, (0, p3)), (4, (0, p4)), (5, (0, p5))], [(1, 275)], w7)) 1 rfl ?_
      refine e_Ok.getr (z := 298) rfl rfl rfl rfl (by rw [← hw7]; exact (e_up_ne _ _ (Or.inl (by omega))).trans (by rw [← hw6]; exact (e_up_ne _ _ (Or.inl (by omega))).trans (by rw [← hw5]; exact (e_up_ne _ _ (Or.inl (by omega))).trans (by rw [← hw4]; exact (e_up_ne _ _ (Or.inl (by omega))).trans (e_Has.eq hT rfl))))) (by omega) ?_
      refine e_Ok.run (t' := (68, [(0, (1, 275)), (1, (0, p1)), (2, (0, p2)), (3, (0, p3)), (4, (0, p4)), (5, (0, p5))], [(1, 275), (1, 298)], w7)) 1 rfl ?_
      refine e_Ok.getf (z := w 275 23) rfl rfl rfl rfl (by rw [← hw7]; exact (e_up_ne _ _ (Or.inl (by omega))).trans (by rw [← hw6]; exact (e_up_ne _ _ (Or.inl (by omega))).trans (by rw [← hw5]; exact (e_up_ne _ _ (Or.inl (by omega))).trans (by rw [← hw4]; exact (e_up_ne _ _ (Or.inl (by omega))).trans rfl)))) (by omega) ?_
      refine e_Ok.run (t' := (73, [(0, (1, 275)), (1, (0, p1)), (2, (0, p2)), (3, (0, p3)), (4, (0, p4)), (5, (0, p5))], [(0, p5), (0, w 275 23), (1, 298)], w7)) 1 rfl ?_
      refine e_Ok.ast rfl rfl rfl rfl (by omega) ?_
      generalize hw8 : e_up w7 298 (w 275 23) p5 = w8
      refine e_Ok.run (t' := (76, [(0, (1, 275)), (1, (0, p1)), (2, (0, p2)), (3, (0, p3)), (4, (0, p4)), (5, (0, p5))], [(1, 275), (1, 275)], w8)) 2 rfl ?_
      refine e_Ok.getf (z := w 275 23) rfl rfl rfl rfl (by rw [← hw8]; exact (e_up_ne _ _ (Or.inl (by omega))).trans (by rw [← hw7]; exact (e_up_ne _ _ (Or.inl (by omega))).trans (by rw [← hw6]; exact (e_up_ne _ _ (Or.inl (by omega))).trans (by rw [← hw5]; exact (e_up_ne _ _ (Or.inl (by omega))).trans (by rw [← hw4]; exact (e_up_ne _ _ (Or.inl (by omega))).trans rfl))))) (by omega) ?_
      refine e_Ok.run (t' := (80, [(0, (1, 275)), (1, (0, p1)), (2, (0, p2)), (3, (0, p3)), (4, (0, p4)), (5, (0, p5))], [(0, 1), (0, w 275 23), (1, 275)], w8)) 1 rfl ?_
      refine e_Ok.add (z := w 275 23 + 1) rfl (by omega) (by omega) ?_
      refine e_Ok.putf rfl rfl rfl rfl ?_
      generalize hw9 : e_up w8 275 23 (w 275 23 + 1) = w9
      refine e_Ok.run (t' := (85, [(0, (1, 275)), (1, (0, p1)), (2, (0, p2)), (3, (0, p3)), (4, (0, p4)), (5, (0, p5))], [(1, 275)], w9)) 1 rfl ?_
      refine e_Ok.getf (z := w 275 23 + 1) rfl rfl rfl rfl (by rw [← hw9]; exact e_up_eq _ _ _ _) (by omega) ?_
      refine e_Ok.run (t' := (89, [(0, (1, 275)), (1, (0, p1)), (2, (0, p2)), (3, (0, p3)), (4, (0, p4)), (5, (0, p5))], [(0, 1), (0, w 275 23 + 1)], w9)) 1 rfl ?_
      refine e_Ok.sub' (z := w 275 23) rfl (by omega) (by omega) ?_
      refine e_Ok.rets rfl rfl ?_
      exact ⟨_, rfl, Or.inr ⟨by omega, by omega, by rw [← hw9, ← hw8, ← hw7, ← hw6, ← hw5, ← hw4]⟩⟩
    · replace h3 : (w 275 23 : Int) = 16 := by have q : ¬ ((w 275 23 : Int) ≠ 16) := h3; omega
      refine e_Ok.run (t' := (21, [(0, (1, 275)), (1, (0, p1)), (2, (0, p2)), (3, (0, p3)), (4, (0, p4)), (5, (0, p5))], [(0, (-3))], w)) 1 rfl ?_
      refine e_Ok.rets rfl rfl ?_
      exact ⟨_, rfl, Or.inl ⟨rfl, by omega⟩⟩
  · replace h1 : (w 275 3 : Int) ≠ 0 := by have q : ¬ ((w 275 3 : Int) = 0) := h1; omega
    refine e_Ok.run (t' := (9, [(0, (1, 275)), (1, (0, p1)), (2, (0, p2)), (3, (0, p3)), (4, (0, p4)), (5, (0, p5))], [(0, (-2))], w)) 1 rfl ?_
    refine e_Ok.rets rfl rfl ?_
    exact ⟨_, rfl, Or.inl ⟨rfl, by omega⟩⟩
theorem c_283_ex {d : Nat} (hd : 26 ≤ d) {w : eW} (hT : e_Has mTy w) {p1 p2 p3 : Int} (g1 : (-2147483648) ≤ p1 ∧ p1 ≤ 2147483647) (g2 : (-2147483648) ≤ p2 ∧ p2 ≤ 2147483647) (g3 : (-2147483648) ≤ p3 ∧ p3 ≤ 2147483647) : e_Ok 20 elay ecode eI d 283 (0, [(0, (1, 275)), (1, (0, p1)), (2, (0, p2)), (3, (0, p3))], [], w) (fun r w' => ∃ z : Int, r = [(0, z)] ∧ ((w = w' ∧ ((¬ ((-16000 ≤ p1 ∧ p1 ≤ 16000) ∧ (-16000 ≤ p2 ∧ p2 ≤ 16000) ∧ 0 ≤ p3 ∧ p3 ≤ 8000) ∧ z = -1) ∨ (((-16000 ≤ p1 ∧ p1 ≤ 16000) ∧ (-16000 ≤ p2 ∧ p2 ≤ 16000) ∧ 0 ≤ p3 ∧ p3 ≤ 8000) ∧ ((w 275 3 ≠ 0 ∧ z = -2) ∨ (w 275 3 = 0 ∧ w 275 23 = 16 ∧ z = -3))))) ∨ ((((-16000 ≤ p1 ∧ p1 ≤ 16000) ∧ (-16000 ≤ p2 ∧ p2 ≤ 16000) ∧ 0 ≤ p3 ∧ p3 ≤ 8000) ∧ w 275 3 = 0 ∧ ¬ (w 275 23 = 16)) ∧ z = w 275 23 ∧ w' = e_up (e_up (e_up (e_up (e_up (e_up w 294 (w 275 23) (0)) 295 (w 275 23) (p1)) 296 (w 275 23) (p2)) 297 (w 275 23) (p3)) 298 (w 275 23) (0)) 275 (23) (w 275 23 + 1)))) := by
  obtain ⟨d, rfl⟩ : ∃ e, d = e + 1 := ⟨d - 1, by omega⟩
  have hop := e_Has.get hT (c := 275) (k := 3) (lo := 0) (hi := 1) rfl (by decide)
  refine e_Ok.run (t' := (2, [(0, (1, 275)), (1, (0, p1)), (2, (0, p2)), (3, (0, p3))], [(0, p2), (0, p1)], w)) 2 rfl ?_
  refine e_Ok.callS rfl (by omega) rfl rfl (c_272_ex (by omega)) (fun r1 w2 h3 => ?_)
  obtain ⟨z4, rfl, rfl, q5⟩ := h3
  obtain ⟨rfl, q5⟩ | ⟨rfl, q5⟩ := q5
  · show e_Ok 20 elay ecode eI (d + 1) 283 (5, [(0, (1, 275)), (1, (0, p1)), (2, (0, p2)), (3, (0, p3))], [(0, 1)], w) _
    refine e_Ok.if1 rfl (fun h6 => ?_) (fun h6 => ?_)
    · replace h6 : (1 : Int) = 0 := h6
      exfalso; omega
    · replace h6 : (1 : Int) ≠ 0 := by have q : ¬ ((1 : Int) = 0) := h6; omega
      refine e_Ok.run (t' := (14, [(0, (1, 275)), (1, (0, p1)), (2, (0, p2)), (3, (0, p3))], [(4, 8000), (4, 0), (4, p3)], w)) 4 rfl ?_
      refine e_Ok.callS rfl (by omega) rfl rfl (c_266) (fun r7 w8 h9 => ?_)
      obtain ⟨z10, rfl, rfl, q11⟩ := h9
      obtain ⟨rfl, q11⟩ | ⟨rfl, q11⟩ := q11
      · show e_Ok 20 elay ecode eI (d + 1) 283 (17, [(0, (1, 275)), (1, (0, p1)), (2, (0, p2)), (3, (0, p3))], [(0, 1)], w) _
        refine e_Ok.if1 rfl (fun h12 => ?_) (fun h12 => ?_)
        · replace h12 : (1 : Int) = 0 := h12
          exfalso; omega
        · replace h12 : (1 : Int) ≠ 0 := by have q : ¬ ((1 : Int) = 0) := h12; omega
          refine e_Ok.run (t' := (26, [(0, (1, 275)), (1, (0, p1)), (2, (0, p2)), (3, (0, p3))], [(0, 0), (0, p3), (0, p2), (0, p1), (0, 0), (1, 275)], w)) 6 rfl ?_
          refine e_Ok.callV rfl (by omega) rfl rfl rfl rfl (c_282_ex (by omega) hT (by omega) (by omega) (by omega) (by omega) (by omega)) (fun r13 w14 h15 => ?_)
          obtain ⟨z16, rfl, q17⟩ := h15
          show e_Ok 20 elay ecode eI (d + 1) 283 (29, [(0, (1, 275)), (1, (0, p1)), (2, (0, p2)), (3, (0, p3))], [(0, z16)], w14) _
          refine e_Ok.run (t' := (33, [(0, (1, 275)), (1, (0, p1)), (2, (0, p2)), (3, (0, p3))], [(0, z16)], w14)) 1 rfl ?_
          refine e_Ok.rets rfl rfl ?_
          exact ⟨_, rfl, Or.elim q17 (fun h => Or.inl ⟨h.1, by have e := h.2; omega⟩) (fun h => Or.inr ⟨by have e := h.1; omega, h.2.1, h.2.2⟩)⟩
      · show e_Ok 20 elay ecode eI (d + 1) 283 (17, [(0, (1, 275)), (1, (0, p1)), (2, (0, p2)), (3, (0, p3))], [(0, 0)], w) _
        refine e_Ok.if1 rfl (fun h18 => ?_) (fun h18 => ?_)
        · replace h18 : (0 : Int) = 0 := h18
          refine e_Ok.run (t' := (33, [(0, (1, 275)), (1, (0, p1)), (2, (0, p2)), (3, (0, p3))], [(0, (-1))], w)) 1 rfl ?_
          refine e_Ok.rets rfl rfl ?_
          exact ⟨_, rfl, Or.inl ⟨rfl, by omega⟩⟩
        · replace h18 : (0 : Int) ≠ 0 := by have q : ¬ ((0 : Int) = 0) := h18; omega
          exfalso; omega
  · show e_Ok 20 elay ecode eI (d + 1) 283 (5, [(0, (1, 275)), (1, (0, p1)), (2, (0, p2)), (3, (0, p3))], [(0, 0)], w) _
    refine e_Ok.if1 rfl (fun h19 => ?_) (fun h19 => ?_)
    · replace h19 : (0 : Int) = 0 := h19
      refine e_Ok.run (t' := (33, [(0, (1, 275)), (1, (0, p1)), (2, (0, p2)), (3, (0, p3))], [(0, (-1))], w)) 1 rfl ?_
      refine e_Ok.rets rfl rfl ?_
      exact ⟨_, rfl, Or.inl ⟨rfl, by omega⟩⟩
    · replace h19 : (0 : Int) ≠ 0 := by have q : ¬ ((0 : Int) = 0) := h19; omega
      exfalso; omega
theorem c_284_ex {d : Nat} (hd : 26 ≤ d) {w : eW} (hT : e_Has mTy w) {p1 p2 p3 p4 : Int} (g1 : (-2147483648) ≤ p1 ∧ p1 ≤ 2147483647) (g2 : (-2147483648) ≤ p2 ∧ p2 ≤ 2147483647) (g3 : (-2147483648) ≤ p3 ∧ p3 ≤ 2147483647) (g4 : (-2147483648) ≤ p4 ∧ p4 ≤ 2147483647) : e_Ok 20 elay ecode eI d 284 (0, [(0, (1, 275)), (1, (0, p1)), (2, (0, p2)), (3, (0, p3)), (4, (0, p4))], [], w) (fun r w' => ∃ z : Int, r = [(0, z)] ∧ ((w = w' ∧ ((¬ ((-16000 ≤ p1 ∧ p1 ≤ 16000) ∧ (-16000 ≤ p2 ∧ p2 ≤ 16000) ∧ (0 ≤ p3 ∧ p1 + p3 ≤ 16000) ∧ 0 ≤ p4 ∧ p2 + p4 ≤ 16000) ∧ z = -1) ∨ (((-16000 ≤ p1 ∧ p1 ≤ 16000) ∧ (-16000 ≤ p2 ∧ p2 ≤ 16000) ∧ (0 ≤ p3 ∧ p1 + p3 ≤ 16000) ∧ 0 ≤ p4 ∧ p2 + p4 ≤ 16000) ∧ ((w 275 3 ≠ 0 ∧ z = -2) ∨ (w 275 3 = 0 ∧ w 275 23 = 16 ∧ z = -3))))) ∨ ((((-16000 ≤ p1 ∧ p1 ≤ 16000) ∧ (-16000 ≤ p2 ∧ p2 ≤ 16000) ∧ (0 ≤ p3 ∧ p1 + p3 ≤ 16000) ∧ 0 ≤ p4 ∧ p2 + p4 ≤ 16000) ∧ w 275 3 = 0 ∧ ¬ (w 275 23 = 16)) ∧ z = w 275 23 ∧ w' = e_up (e_up (e_up (e_up (e_up (e_up w 294 (w 275 23) (1)) 295 (w 275 23) (p1)) 296 (w 275 23) (p2)) 297 (w 275 23) (p3)) 298 (w 275 23) (p4)) 275 (23) (w 275 23 + 1)))) := by
  obtain ⟨d, rfl⟩ : ∃ e, d = e + 1 := ⟨d - 1, by omega⟩
  have hop := e_Has.get hT (c := 275) (k := 3) (lo := 0) (hi := 1) rfl (by decide)
  refine e_Ok.run (t' := (5, [(0, (1, 275)), (1, (0, p1)), (2, (0, p2)), (3, (0, p3)), (4, (0, p4))], [(0, p4), (0, p3), (0, p2), (0, p1)], w)) 4 rfl ?_
  refine e_Ok.callS rfl (by omega) rfl rfl (c_273_ex (by omega) (by omega) (by omega)) (fun r1 w2 h3 => ?_)
  obtain ⟨z4, rfl, rfl, q5⟩ := h3
  obtain ⟨rfl, q5⟩ | ⟨rfl, q5⟩ := q5
  · show e_Ok 20 elay ecode eI (d + 1) 284 (8, [(0, (1, 275)), (1, (0, p1)), (2, (0, p2)), (3, (0, p3)), (4, (0, p4))], [(0, 1)], w) _
    refine e_Ok.if1 rfl (fun h6 => ?_) (fun h6 => ?_)
    · replace h6 : (1 : Int) = 0 := h6
      exfalso; omega
    · replace h6 : (1 : Int) ≠ 0 := by have q : ¬ ((1 : Int) = 0) := h6; omega
      refine e_Ok.run (t' := (18, [(0, (1, 275)), (1, (0, p1)), (2, (0, p2)), (3, (0, p3)), (4, (0, p4))], [(0, p4), (0, p3), (0, p2), (0, p1), (0, 1), (1, 275)], w)) 6 rfl ?_
      refine e_Ok.callV rfl (by omega) rfl rfl rfl rfl (c_282_ex (by omega) hT (by omega) (by omega) (by omega) (by omega) (by omega)) (fun r7 w8 h9 => ?_)
      obtain ⟨z10, rfl, q11⟩ := h9
      show e_Ok 20 elay ecode eI (d + 1) 284 (21, [(0, (1, 275)), (1, (0, p1)), (2, (0, p2)), (3, (0, p3)), (4, (0, p4))], [(0, z10)], w8) _
      refine e_Ok.run (t' := (25, [(0, (1, 275)), (1, (0, p1)), (2, (0, p2)), (3, (0, p3)), (4, (0, p4))], [(0, z10)], w8)) 1 rfl ?_
      refine e_Ok.rets rfl rfl ?_
      exact ⟨_, rfl, Or.elim q11 (fun h => Or.inl ⟨h.1, by have e := h.2; omega⟩) (fun h => Or.inr ⟨by have e := h.1; omega, h.2.1, h.2.2⟩)⟩
  · show e_Ok 20 elay ecode eI (d + 1) 284 (8, [(0, (1, 275)), (1, (0, p1)), (2, (0, p2)), (3, (0, p3)), (4, (0, p4))], [(0, 0)], w) _
    refine e_Ok.if1 rfl (fun h12 => ?_) (fun h12 => ?_)
    · replace h12 : (0 : Int) = 0 := h12
      refine e_Ok.run (t' := (25, [(0, (1, 275)), (1, (0, p1)), (2, (0, p2)), (3, (0, p3)), (4, (0, p4))], [(0, (-1))], w)) 1 rfl ?_
      refine e_Ok.rets rfl rfl ?_
      exact ⟨_, rfl, Or.inl ⟨rfl, by omega⟩⟩
    · replace h12 : (0 : Int) ≠ 0 := by have q : ¬ ((0 : Int) = 0) := h12; omega
      exfalso; omega
end
