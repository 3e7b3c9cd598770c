noncomputable section
def mF (f a b c k : Int) : Prop := (c = 275 ∧ k = f) ∨ (a ≤ c ∧ c ≤ b)
def mF2 (f c1 c2 c k : Int) : Prop := (c = 275 ∧ k = f) ∨ c = c1 ∨ c = c2
def mTape (c k : Int) : Prop := (c = 275 ∧ k = 9) ∨ c = 281
theorem mT_hi {S : Int → Int → Prop} {w w' : eW} (hS : ∀ c k, S c k → mTy c k = (1, 0)) (f : e_fr S w w') (h : e_Has mTy w) : e_Has mTy w' := h.fr hS f
theorem hT_lo {S : Int → Int → Prop} {w w' : eW} (hS : ∀ c k, S c k → hTy c k = (1, 0)) (f : e_fr S w w') (h : e_Has hTy w) : e_Has hTy w' := h.fr hS f
theorem c_271 {d : Nat} (hd : 22 ≤ d) {w : eW} (hT : e_Has mTy w) {a j : Int} : e_Ok 20 elay ecode eI d 271 (0, [(0, (1, 275)), (1, (0, a)), (2, (0, j))], [], w) (fun r w' => ∃ z : Int, r = [(0, z)] ∧ w = w' ∧ ((z = 1 ∧ (0 ≤ a ∧ a < w 275 10) ∧ 0 ≤ j ∧ j < w 286 a) ∨ (z = 0 ∧ True))) := by
  obtain ⟨d, rfl⟩ : ∃ e, d = e + 1 := ⟨d - 1, by omega⟩
  refine e_Ok.run (t' := (2, [(0, (1, 275)), (1, (0, a)), (2, (0, j))], [(0, a), (1, 275)], w)) 2 rfl ?_
  refine e_Ok.callV rfl (by omega) rfl rfl rfl rfl (c_270 (by omega) hT) (fun r1 w2 h3 => ?_)
  have h4 := e_Has.get hT (c := 275) (k := 10) (lo := 0) (hi := 4) rfl (by decide)
  obtain ⟨z5, rfl, rfl, q6⟩ := h3
  obtain ⟨rfl, q6⟩ | ⟨rfl, q6⟩ := q6
  · show e_Ok 20 elay ecode eI (d + 1) 271 (5, [(0, (1, 275)), (1, (0, a)), (2, (0, j))], [(0, 1)], w) _
    refine e_Ok.if1 rfl (fun h7 => ?_) (fun h7 => ?_)
    · replace h7 : (1 : Int) = 0 := h7
      exfalso; omega
    · replace h7 : (1 : Int) ≠ 0 := by have q : ¬ ((1 : Int) = 0) := h7; omega
      refine e_Ok.run (t' := (12, [(0, (1, 275)), (1, (0, a)), (2, (0, j))], [(1, 275), (4, 0), (4, j)], w)) 4 rfl ?_
      refine e_Ok.getr (z := 286) rfl (el_o rfl) rfl rfl (e_Has.eq hT rfl) (by omega) ?_
      refine e_Ok.run (t' := (16, [(0, (1, 275)), (1, (0, a)), (2, (0, j))], [(0, a), (1, 286), (4, 0), (4, j)], w)) 1 rfl ?_
      have h8 := (e_Has.get hT (c := 286) (k := a) (lo := 0) (hi := 6) rfl (by decide))
      refine e_Ok.ald (z := w 286 a) rfl (el_o rfl) rfl (by omega) rfl (by omega) ?_
      refine e_Ok.run (t' := (18, [(0, (1, 275)), (1, (0, a)), (2, (0, j))], [(0, 1), (0, w 286 a), (4, 0), (4, j)], w)) 1 rfl ?_
      refine e_Ok.sub' (z := w 286 a - 1) rfl (by omega) (by omega) ?_
      refine e_Ok.run (t' := (20, [(0, (1, 275)), (1, (0, a)), (2, (0, j))], [(4, w 286 a - 1), (4, 0), (4, j)], w)) 1 rfl ?_
      refine e_Ok.callS rfl (by omega) rfl rfl (c_266) (fun r9 w10 h11 => ?_)
      obtain ⟨z12, rfl, rfl, q13⟩ := h11
      obtain ⟨rfl, q13⟩ | ⟨rfl, q13⟩ := q13
      · show e_Ok 20 elay ecode eI (d + 1) 271 (23, [(0, (1, 275)), (1, (0, a)), (2, (0, j))], [(0, 1)], w) _
        refine e_Ok.if1 rfl (fun h14 => ?_) (fun h14 => ?_)
        · replace h14 : (1 : Int) = 0 := h14
          exfalso; omega
        · replace h14 : (1 : Int) ≠ 0 := by have q : ¬ ((1 : Int) = 0) := h14; omega
          refine e_Ok.run (t' := (31, [(0, (1, 275)), (1, (0, a)), (2, (0, j))], [(0, 1)], w)) 2 rfl ?_
          refine e_Ok.rets rfl rfl ?_
          exact ⟨_, rfl, rfl, Or.inl ⟨rfl, by omega, by omega⟩⟩
      · show e_Ok 20 elay ecode eI (d + 1) 271 (23, [(0, (1, 275)), (1, (0, a)), (2, (0, j))], [(0, 0)], w) _
        refine e_Ok.if1 rfl (fun h15 => ?_) (fun h15 => ?_)
        · replace h15 : (0 : Int) = 0 := h15
          refine e_Ok.run (t' := (31, [(0, (1, 275)), (1, (0, a)), (2, (0, j))], [(0, 0)], w)) 1 rfl ?_
          refine e_Ok.rets rfl rfl ?_
          exact ⟨_, rfl, rfl, Or.inr ⟨rfl, trivial⟩⟩
        · replace h15 : (0 : Int) ≠ 0 := by have q : ¬ ((0 : Int) = 0) := h15; omega
          exfalso; omega
  · show e_Ok 20 elay ecode eI (d + 1) 271 (5, [(0, (1, 275)), (1, (0, a)), (2, (0, j))], [(0, 0)], w) _
    refine e_Ok.if1 rfl (fun h16 => ?_) (fun h16 => ?_)
    · replace h16 : (0 : Int) = 0 := h16
      refine e_Ok.run (t' := (31, [(0, (1, 275)), (1, (0, a)), (2, (0, j))], [(0, 0)], w)) 1 rfl ?_
      refine e_Ok.rets rfl rfl ?_
      exact ⟨_, rfl, rfl, Or.inr ⟨rfl, trivial⟩⟩
    · replace h16 : (0 : Int) ≠ 0 := by have q : ¬ ((0 : Int) = 0) := h16; omega
      exfalso; omega
theorem c_272 {d : Nat} (hd : 21 ≤ d) {w : eW} {x y : Int} : e_Ok 20 elay ecode eI d 272 (0, [(0, (0, x)), (1, (0, y))], [], w) (fun r w' => ∃ z : Int, r = [(0, z)] ∧ w = w' ∧ ((z = 1 ∧ (-16000 ≤ x ∧ x ≤ 16000) ∧ -16000 ≤ y ∧ y ≤ 16000) ∨ (z = 0 ∧ True))) := by
  obtain ⟨d, rfl⟩ : ∃ e, d = e + 1 := ⟨d - 1, by omega⟩
  refine e_Ok.run (t' := (8, [(0, (0, x)), (1, (0, y))], [(4, 16000), (4, (-16000)), (4, x)], w)) 4 rfl ?_
  refine e_Ok.callS rfl (by omega) rfl rfl (c_266) (fun r1 w2 h3 => ?_)
  obtain ⟨z4, rfl, rfl, q5⟩ := h3
  obtain ⟨rfl, q5⟩ | ⟨rfl, q5⟩ := q5
  · show e_Ok 20 elay ecode eI (d + 1) 272 (11, [(0, (0, x)), (1, (0, y))], [(0, 1)], w) _
    refine e_Ok.if1 rfl (fun h6 => ?_) (fun h6 => ?_)
    · replace h6 : (1 : Int) = 0 := h6
      exfalso; omega
    · replace h6 : (1 : Int) ≠ 0 := by have q : ¬ ((1 : Int) = 0) := h6; omega
      refine e_Ok.run (t' := (22, [(0, (0, x)), (1, (0, y))], [(4, 16000), (4, (-16000)), (4, y)], w)) 4 rfl ?_
      refine e_Ok.callS rfl (by omega) rfl rfl (c_266) (fun r7 w8 h9 => ?_)
      obtain ⟨z10, rfl, rfl, q11⟩ := h9
      obtain ⟨rfl, q11⟩ | ⟨rfl, q11⟩ := q11
      · show e_Ok 20 elay ecode eI (d + 1) 272 (25, [(0, (0, x)), (1, (0, y))], [(0, 1)], w) _
        refine e_Ok.if1 rfl (fun h12 => ?_) (fun h12 => ?_)
        · replace h12 : (1 : Int) = 0 := h12
          exfalso; omega
        · replace h12 : (1 : Int) ≠ 0 := by have q : ¬ ((1 : Int) = 0) := h12; omega
          refine e_Ok.run (t' := (33, [(0, (0, x)), (1, (0, y))], [(0, 1)], w)) 2 rfl ?_
          refine e_Ok.rets rfl rfl ?_
          exact ⟨_, rfl, rfl, Or.inl ⟨rfl, by omega, by omega⟩⟩
      · show e_Ok 20 elay ecode eI (d + 1) 272 (25, [(0, (0, x)), (1, (0, y))], [(0, 0)], w) _
        refine e_Ok.if1 rfl (fun h13 => ?_) (fun h13 => ?_)
        · replace h13 : (0 : Int) = 0 := h13
          refine e_Ok.run (t' := (33, [(0, (0, x)), (1, (0, y))], [(0, 0)], w)) 1 rfl ?_
          refine e_Ok.rets rfl rfl ?_
          exact ⟨_, rfl, rfl, Or.inr ⟨rfl, trivial⟩⟩
        · replace h13 : (0 : Int) ≠ 0 := by have q : ¬ ((0 : Int) = 0) := h13; omega
          exfalso; omega
  · show e_Ok 20 elay ecode eI (d + 1) 272 (11, [(0, (0, x)), (1, (0, y))], [(0, 0)], w) _
    refine e_Ok.if1 rfl (fun h14 => ?_) (fun h14 => ?_)
    · replace h14 : (0 : Int) = 0 := h14
      refine e_Ok.run (t' := (33, [(0, (0, x)), (1, (0, y))], [(0, 0)], w)) 1 rfl ?_
      refine e_Ok.rets rfl rfl ?_
      exact ⟨_, rfl, rfl, Or.inr ⟨rfl, trivial⟩⟩
    · replace h14 : (0 : Int) ≠ 0 := by have q : ¬ ((0 : Int) = 0) := h14; omega
      exfalso; omega
theorem c_273 {d : Nat} (hd : 22 ≤ d) {w : eW} {x y u v : Int} (hu : -2147483648 ≤ u ∧ u ≤ 2147483647) (hv : -2147483648 ≤ v ∧ v ≤ 2147483647) : e_Ok 20 elay ecode eI d 273 (0, [(0, (0, x)), (1, (0, y)), (2, (0, u)), (3, (0, v))], [], w) (fun r w' => ∃ z : Int, r = [(0, z)] ∧ w = w' ∧ ((z = 1 ∧ (-16000 ≤ x ∧ x ≤ 16000) ∧ (-16000 ≤ y ∧ y ≤ 16000) ∧ (0 ≤ u ∧ u ≤ 32000) ∧ 0 ≤ v ∧ v ≤ 32000) ∨ (z = 0 ∧ True))) := by
  obtain ⟨d, rfl⟩ : ∃ e, d = e + 1 := ⟨d - 1, by omega⟩
  refine e_Ok.run (t' := (2, [(0, (0, x)), (1, (0, y)), (2, (0, u)), (3, (0, v))], [(0, y), (0, x)], w)) 2 rfl ?_
  refine e_Ok.callS rfl (by omega) rfl rfl (c_272 (by omega)) (fun r1 w2 h3 => ?_)
  obtain ⟨z4, rfl, rfl, q5⟩ := h3
  obtain ⟨rfl, q5⟩ | ⟨rfl, q5⟩ := q5
  · show e_Ok 20 elay ecode eI (d + 1) 273 (5, [(0, (0, x)), (1, (0, y)), (2, (0, u)), (3, (0, v))], [(0, 1)], w) _
    refine e_Ok.if1 rfl (fun h6 => ?_) (fun h6 => ?_)
    · replace h6 : (1 : Int) = 0 := h6
      exfalso; omega
    · replace h6 : (1 : Int) ≠ 0 := by have q : ¬ ((1 : Int) = 0) := h6; omega
      refine e_Ok.run (t' := (9, [(0, (0, x)), (1, (0, y)), (2, (0, u)), (3, (0, v))], [(0, u)], w)) 1 rfl ?_
      refine e_Ok.if1 rfl (fun h7 => ?_) (fun h7 => ?_)
      · replace h7 : (u : Int) < 0 := h7
        refine e_Ok.run (t' := (45, [(0, (0, x)), (1, (0, y)), (2, (0, u)), (3, (0, v))], [(0, 0)], w)) 1 rfl ?_
        refine e_Ok.rets rfl rfl ?_
        exact ⟨_, rfl, rfl, Or.inr ⟨rfl, trivial⟩⟩
      · replace h7 : (u : Int) ≥ 0 := by have q : ¬ ((u : Int) < 0) := h7; omega
        refine e_Ok.run (t' := (13, [(0, (0, x)), (1, (0, y)), (2, (0, u)), (3, (0, v))], [(0, v)], w)) 1 rfl ?_
        refine e_Ok.if1 rfl (fun h8 => ?_) (fun h8 => ?_)
        · replace h8 : (v : Int) < 0 := h8
          refine e_Ok.run (t' := (45, [(0, (0, x)), (1, (0, y)), (2, (0, u)), (3, (0, v))], [(0, 0)], w)) 1 rfl ?_
          refine e_Ok.rets rfl rfl ?_
          exact ⟨_, rfl, rfl, Or.inr ⟨rfl, trivial⟩⟩
        · replace h8 : (v : Int) ≥ 0 := by have q : ¬ ((v : Int) < 0) := h8; omega
          refine e_Ok.run (t' := (20, [(0, (0, x)), (1, (0, y)), (2, (0, u)), (3, (0, v))], [(4, u), (4, x)], w)) 4 rfl ?_
          refine e_Ok.addL (z := x + u) rfl (by omega) (by omega) ?_
          refine e_Ok.run (t' := (24, [(0, (0, x)), (1, (0, y)), (2, (0, u)), (3, (0, v))], [(4, 16000), (4, x + u)], w)) 1 rfl ?_
          refine e_Ok.lcmp rfl (fun z10 z10a z10b z10c => ?_)
          refine e_Ok.if1 rfl (fun h11 => ?_) (fun h11 => ?_)
          · replace h11 : (z10 : Int) > 0 := h11
            refine e_Ok.run (t' := (45, [(0, (0, x)), (1, (0, y)), (2, (0, u)), (3, (0, v))], [(0, 0)], w)) 1 rfl ?_
            refine e_Ok.rets rfl rfl ?_
            exact ⟨_, rfl, rfl, Or.inr ⟨rfl, trivial⟩⟩
          · replace h11 : (z10 : Int) ≤ 0 := by have q : ¬ ((z10 : Int) > 0) := h11; omega
            refine e_Ok.run (t' := (32, [(0, (0, x)), (1, (0, y)), (2, (0, u)), (3, (0, v))], [(4, v), (4, y)], w)) 4 rfl ?_
            refine e_Ok.addL (z := y + v) rfl (by omega) (by omega) ?_
            refine e_Ok.run (t' := (36, [(0, (0, x)), (1, (0, y)), (2, (0, u)), (3, (0, v))], [(4, 16000), (4, y + v)], w)) 1 rfl ?_
            refine e_Ok.lcmp rfl (fun z13 z13a z13b z13c => ?_)
            refine e_Ok.if1 rfl (fun h14 => ?_) (fun h14 => ?_)
            · replace h14 : (z13 : Int) > 0 := h14
              refine e_Ok.run (t' := (45, [(0, (0, x)), (1, (0, y)), (2, (0, u)), (3, (0, v))], [(0, 0)], w)) 1 rfl ?_
              refine e_Ok.rets rfl rfl ?_
              exact ⟨_, rfl, rfl, Or.inr ⟨rfl, trivial⟩⟩
            · replace h14 : (z13 : Int) ≤ 0 := by have q : ¬ ((z13 : Int) > 0) := h14; omega
              refine e_Ok.run (t' := (45, [(0, (0, x)), (1, (0, y)), (2, (0, u)), (3, (0, v))], [(0, 1)], w)) 2 rfl ?_
              refine e_Ok.rets rfl rfl ?_
              exact ⟨_, rfl, rfl, Or.inl ⟨rfl, by omega, by omega, by omega, by omega⟩⟩
  · show e_Ok 20 elay ecode eI (d + 1) 273 (5, [(0, (0, x)), (1, (0, y)), (2, (0, u)), (3, (0, v))], [(0, 0)], w) _
    refine e_Ok.if1 rfl (fun h15 => ?_) (fun h15 => ?_)
    · replace h15 : (0 : Int) = 0 := h15
      refine e_Ok.run (t' := (45, [(0, (0, x)), (1, (0, y)), (2, (0, u)), (3, (0, v))], [(0, 0)], w)) 1 rfl ?_
      refine e_Ok.rets rfl rfl ?_
      exact ⟨_, rfl, rfl, Or.inr ⟨rfl, trivial⟩⟩
    · replace h15 : (0 : Int) ≠ 0 := by have q : ¬ ((0 : Int) = 0) := h15; omega
      exfalso; omega
theorem c_278 {d : Nat} (hd : 23 ≤ d) {w : eW} (hT : e_Has mTy w) {p1 p2 p3 p4 : Int} (g1 : (-2147483648) ≤ p1 ∧ p1 ≤ 2147483647) (g2 : (-2147483648) ≤ p2 ∧ p2 ≤ 2147483647) (g3 : (-2147483648) ≤ p3 ∧ p3 ≤ 2147483647) (g4 : (-2147483648) ≤ p4 ∧ p4 ≤ 2147483647) : e_Ok 20 elay ecode eI d 278 (0, [(0, (1, 275)), (1, (0, p1)), (2, (0, p2)), (3, (0, p3)), (4, (0, p4))], [], w) (fun r w' => ∃ z : Int, r = [(0, z)] ∧ e_fr (mF 10 282 285) w w' ∧ e_Has mTy w' ∧ (((-8000 ≤ p1 ∧ p1 ≤ 8000 ∧ -8000 ≤ p2 ∧ p2 ≤ 8000 ∧ 0 ≤ p3 ∧ p3 ≤ 4095 ∧ 0 ≤ p4 ∧ p4 ≤ 800 ∧ w 275 3 = 0 ∧ w 275 10 < 4) ∧ w' 275 10 = w 275 10 + 1) ∨ (¬ (-8000 ≤ p1 ∧ p1 ≤ 8000 ∧ -8000 ≤ p2 ∧ p2 ≤ 8000 ∧ 0 ≤ p3 ∧ p3 ≤ 4095 ∧ 0 ≤ p4 ∧ p4 ≤ 800 ∧ w 275 3 = 0 ∧ w 275 10 < 4) ∧ w' 275 10 = w 275 10))) := by
  obtain ⟨d, rfl⟩ : ∃ e, d = e + 1 := ⟨d - 1, by omega⟩
  have ho := e_Has.get hT (c := 275) (k := 3) (lo := 0) (hi := 1) rfl (by decide)
  have hr := e_Has.get hT (c := 275) (k := 10) (lo := 0) (hi := 4) rfl (by decide)
  refine e_Ok.run (t' := (8, [(0, (1, 275)), (1, (0, p1)), (2, (0, p2)), (3, (0, p3)), (4, (0, p4))], [(4, 8000), (4, (-8000)), (4, p1)], w)) 4 rfl ?_
  refine e_Ok.callS rfl (by omega) rfl rfl (c_266) (fun r1 w2 h3 => ?_)
  obtain ⟨z4, rfl, rfl, q5⟩ := h3
  obtain ⟨rfl, q5⟩ | ⟨rfl, q5⟩ := q5
  · show e_Ok 20 elay ecode eI (d + 1) 278 (11, [(0, (1, 275)), (1, (0, p1)), (2, (0, p2)), (3, (0, p3)), (4, (0, p4))], [(0, 1)], w) _
    refine e_Ok.if1 rfl (fun h6 => ?_) (fun h6 => ?_)
    · replace h6 : (1 : Int) = 0 := h6
      exfalso; omega
    · replace h6 : (1 : Int) ≠ 0 := by have q : ¬ ((1 : Int) = 0) := h6; omega
      refine e_Ok.run (t' := (22, [(0, (1, 275)), (1, (0, p1)), (2, (0, p2)), (3, (0, p3)), (4, (0, p4))], [(4, 8000), (4, (-8000)), (4, p2)], w)) 4 rfl ?_
      refine e_Ok.callS rfl (by omega) rfl rfl (c_266) (fun r7 w8 h9 => ?_)
      obtain ⟨z10, rfl, rfl, q11⟩ := h9
      obtain ⟨rfl, q11⟩ | ⟨rfl, q11⟩ := q11
      · show e_Ok 20 elay ecode eI (d + 1) 278 (25, [(0, (1, 275)), (1, (0, p1)), (2, (0, p2)), (3, (0, p3)), (4, (0, p4))], [(0, 1)], w) _
        refine e_Ok.if1 rfl (fun h12 => ?_) (fun h12 => ?_)
        · replace h12 : (1 : Int) = 0 := h12
          exfalso; omega
        · replace h12 : (1 : Int) ≠ 0 := by have q : ¬ ((1 : Int) = 0) := h12; omega
          refine e_Ok.run (t' := (34, [(0, (1, 275)), (1, (0, p1)), (2, (0, p2)), (3, (0, p3)), (4, (0, p4))], [(4, 4095), (4, 0), (4, p3)], w)) 4 rfl ?_
          refine e_Ok.callS rfl (by omega) rfl rfl (c_266) (fun r13 w14 h15 => ?_)
          obtain ⟨z16, rfl, rfl, q17⟩ := h15
          obtain ⟨rfl, q17⟩ | ⟨rfl, q17⟩ := q17
          · show e_Ok 20 elay ecode eI (d + 1) 278 (37, [(0, (1, 275)), (1, (0, p1)), (2, (0, p2)), (3, (0, p3)), (4, (0, p4))], [(0, 1)], w) _
            refine e_Ok.if1 rfl (fun h18 => ?_) (fun h18 => ?_)
            · replace h18 : (1 : Int) = 0 := h18
              exfalso; omega
            · replace h18 : (1 : Int) ≠ 0 := by have q : ¬ ((1 : Int) = 0) := h18; omega
              refine e_Ok.run (t' := (47, [(0, (1, 275)), (1, (0, p1)), (2, (0, p2)), (3, (0, p3)), (4, (0, p4))], [(4, 800), (4, 0), (4, p4)], w)) 4 rfl ?_
              refine e_Ok.callS rfl (by omega) rfl rfl (c_266) (fun r19 w20 h21 => ?_)
              obtain ⟨z22, rfl, rfl, q23⟩ := h21
              obtain ⟨rfl, q23⟩ | ⟨rfl, q23⟩ := q23
              · show e_Ok 20 elay ecode eI (d + 1) 278 (50, [(0, (1, 275)), (1, (0, p1)), (2, (0, p2)), (3, (0, p3)), (4, (0, p4))], [(0, 1)], w) _
                refine e_Ok.if1 rfl (fun h24 => ?_) (fun h24 => ?_)
                · replace h24 : (1 : Int) ≠ 0 := h24
                  refine e_Ok.run (t' := (56, [(0, (1, 275)), (1, (0, p1)), (2, (0, p2)), (3, (0, p3)), (4, (0, p4))], [(1, 275)], w)) 1 rfl ?_
                  refine e_Ok.getf (z := w 275 3) rfl (el_o rfl) rfl rfl rfl (by omega) ?_
                  refine e_Ok.if1 rfl (fun h25 => ?_) (fun h25 => ?_)
                  · replace h25 : (w 275 3 : Int) = 0 := h25
                    refine e_Ok.run (t' := (66, [(0, (1, 275)), (1, (0, p1)), (2, (0, p2)), (3, (0, p3)), (4, (0, p4))], [(1, 275)], w)) 1 rfl ?_
                    refine e_Ok.getf (z := w 275 10) rfl (el_o rfl) rfl rfl rfl (by omega) ?_
                    refine e_Ok.run (t' := (70, [(0, (1, 275)), (1, (0, p1)), (2, (0, p2)), (3, (0, p3)), (4, (0, p4))], [(0, 4), (0, w 275 10)], w)) 1 rfl ?_
                    refine e_Ok.if2 rfl (fun h26 => ?_) (fun h26 => ?_)
                    · replace h26 : (w 275 10 : Int) ≠ 4 := h26
                      refine e_Ok.run (t' := (77, [(0, (1, 275)), (1, (0, p1)), (2, (0, p2)), (3, (0, p3)), (4, (0, p4))], [(1, 275)], w)) 1 rfl ?_
                      refine e_Ok.getr (z := 282) rfl (el_o rfl) rfl rfl (e_Has.eq hT rfl) (by omega) ?_
                      refine e_Ok.run (t' := (81, [(0, (1, 275)), (1, (0, p1)), (2, (0, p2)), (3, (0, p3)), (4, (0, p4))], [(1, 275), (1, 282)], w)) 1 rfl ?_
                      refine e_Ok.getf (z := w 275 10) rfl (el_o rfl) rfl rfl rfl (by omega) ?_
                      refine e_Ok.run (t' := (85, [(0, (1, 275)), (1, (0, p1)), (2, (0, p2)), (3, (0, p3)), (4, (0, p4))], [(0, p1), (0, w 275 10), (1, 282)], w)) 1 rfl ?_
                      refine e_Ok.ast rfl (el_o rfl) rfl rfl (by omega) ?_
                      generalize hw27 : e_up w 282 (w 275 10) p1 = w27
                      have f28 : e_fr (mF 10 282 285) w w27 := e_fr.up (e_fr.refl w) hw27 (by unfold mF; omega)
                      have hT29 : e_Has mTy w27 := e_Has.upr hT hw27 rfl (by omega)
                      refine e_Ok.run (t' := (87, [(0, (1, 275)), (1, (0, p1)), (2, (0, p2)), (3, (0, p3)), (4, (0, p4))], [(1, 275)], w27)) 1 rfl ?_
                      refine e_Ok.getr (z := 283) rfl (el_o rfl) rfl rfl (by rw [← hw27]; exact (e_up_ne _ _ (Or.inl (by omega))).trans (e_Has.eq hT rfl)) (by omega) ?_
                      refine e_Ok.run (t' := (91, [(0, (1, 275)), (1, (0, p1)), (2, (0, p2)), (3, (0, p3)), (4, (0, p4))], [(1, 275), (1, 283)], w27)) 1 rfl ?_
                      refine e_Ok.getf (z := w 275 10) rfl (el_o rfl) rfl rfl (by rw [← hw27]; exact (e_up_ne _ _ (Or.inl (by omega))).trans rfl) (by omega) ?_
                      refine e_Ok.run (t' := (95, [(0, (1, 275)), (1, (0, p1)), (2, (0, p2)), (3, (0, p3)), (4, (0, p4))], [(0, p2), (0, w 275 10), (1, 283)], w27)) 1 rfl ?_
                      refine e_Ok.ast rfl (el_o rfl) rfl rfl (by omega) ?_
                      generalize hw30 : e_up w27 283 (w 275 10) p2 = w30
                      have f31 : e_fr (mF 10 282 285) w w30 := e_fr.up f28 hw30 (by unfold mF; omega)
                      have hT32 : e_Has mTy w30 := e_Has.upr hT29 hw30 rfl (by omega)
                      refine e_Ok.run (t' := (97, [(0, (1, 275)), (1, (0, p1)), (2, (0, p2)), (3, (0, p3)), (4, (0, p4))], [(1, 275)], w30)) 1 rfl ?_
                      refine e_Ok.getr (z := 284) rfl (el_o rfl) rfl rfl (by rw [← hw30]; exact (e_up_ne _ _ (Or.inl (by omega))).trans (by rw [← hw27]; exact (e_up_ne _ _ (Or.inl (by omega))).trans (e_Has.eq hT rfl))) (by omega) ?_
                      refine e_Ok.run (t' := (101, [(0, (1, 275)), (1, (0, p1)), (2, (0, p2)), (3, (0, p3)), (4, (0, p4))], [(1, 275), (1, 284)], w30)) 1 rfl ?_
                      refine e_Ok.getf (z := w 275 10) rfl (el_o rfl) rfl rfl (by rw [← hw30]; exact (e_up_ne _ _ (Or.inl (by omega))).trans (by rw [← hw27]; exact (e_up_ne _ _ (Or.inl (by omega))).trans rfl)) (by omega) ?_
                      refine e_Ok.run (t' := (105, [(0, (1, 275)), (1, (0, p1)), (2, (0, p2)), (3, (0, p3)), (4, (0, p4))], [(0, p3), (0, w 275 10), (1, 284)], w30)) 1 rfl ?_
                      refine e_Ok.ast rfl (el_o rfl) rfl rfl (by omega) ?_
                      generalize hw33 : e_up w30 284 (w 275 10) p3 = w33
                      have f34 : e_fr (mF 10 282 285) w w33 := e_fr.up f31 hw33 (by unfold mF; omega)
                      have hT35 : e_Has mTy w33 := e_Has.upr hT32 hw33 rfl (by omega)
                      refine e_Ok.run (t' := (107, [(0, (1, 275)), (1, (0, p1)), (2, (0, p2)), (3, (0, p3)), (4, (0, p4))], [(1, 275)], w33)) 1 rfl ?_
                      refine e_Ok.getr (z := 285) rfl (el_o rfl) rfl rfl (by rw [← hw33]; exact (e_up_ne _ _ (Or.inl (by omega))).trans (by rw [← hw30]; exact (e_up_ne _ _ (Or.inl (by omega))).trans (by rw [← hw27]; exact (e_up_ne _ _ (Or.inl (by omega))).trans (e_Has.eq hT rfl)))) (by omega) ?_
                      refine e_Ok.run (t' := (111, [(0, (1, 275)), (1, (0, p1)), (2, (0, p2)), (3, (0, p3)), (4, (0, p4))], [(1, 275), (1, 285)], w33)) 1 rfl ?_
                      refine e_Ok.getf (z := w 275 10) rfl (el_o rfl) rfl rfl (by rw [← hw33]; exact (e_up_ne _ _ (Or.inl (by omega))).trans (by rw [← hw30]; exact (e_up_ne _ _ (Or.inl (by omega))).trans (by rw [← hw27]; exact (e_up_ne _ _ (Or.inl (by omega))).trans rfl))) (by omega) ?_
                      refine e_Ok.run (t' := (116, [(0, (1, 275)), (1, (0, p1)), (2, (0, p2)), (3, (0, p3)), (4, (0, p4))], [(0, p4), (0, w 275 10), (1, 285)], w33)) 1 rfl ?_
                      refine e_Ok.ast rfl (el_o rfl) rfl rfl (by omega) ?_
                      generalize hw36 : e_up w33 285 (w 275 10) p4 = w36
                      have f37 : e_fr (mF 10 282 285) w w36 := e_fr.up f34 hw36 (by unfold mF; omega)
                      have hT38 : e_Has mTy w36 := e_Has.upr hT35 hw36 rfl (by omega)
                      refine e_Ok.run (t' := (119, [(0, (1, 275)), (1, (0, p1)), (2, (0, p2)), (3, (0, p3)), (4, (0, p4))], [(1, 275), (1, 275)], w36)) 2 rfl ?_
                      refine e_Ok.getf (z := w 275 10) rfl (el_o rfl) rfl rfl (by rw [← hw36]; exact (e_up_ne _ _ (Or.inl (by omega))).trans (by rw [← hw33]; exact (e_up_ne _ _ (Or.inl (by omega))).trans (by rw [← hw30]; exact (e_up_ne _ _ (Or.inl (by omega))).trans (by rw [← hw27]; exact (e_up_ne _ _ (Or.inl (by omega))).trans rfl)))) (by omega) ?_
                      refine e_Ok.run (t' := (123, [(0, (1, 275)), (1, (0, p1)), (2, (0, p2)), (3, (0, p3)), (4, (0, p4))], [(0, 1), (0, w 275 10), (1, 275)], w36)) 1 rfl ?_
                      refine e_Ok.add (z := w 275 10 + 1) rfl (by omega) (by omega) ?_
                      refine e_Ok.putf rfl (el_o rfl) rfl rfl ?_
                      generalize hw39 : e_up w36 275 10 (w 275 10 + 1) = w39
                      have f40 : e_fr (mF 10 282 285) w w39 := e_fr.up f37 hw39 (by unfold mF; omega)
                      have hT41 : e_Has mTy w39 := e_Has.upr hT38 hw39 rfl (by omega)
                      refine e_Ok.run (t' := (128, [(0, (1, 275)), (1, (0, p1)), (2, (0, p2)), (3, (0, p3)), (4, (0, p4))], [(1, 275)], w39)) 1 rfl ?_
                      refine e_Ok.getf (z := w 275 10 + 1) rfl (el_o rfl) rfl rfl (by rw [← hw39]; exact e_up_eq _ _ _ _) (by omega) ?_
                      refine e_Ok.run (t' := (132, [(0, (1, 275)), (1, (0, p1)), (2, (0, p2)), (3, (0, p3)), (4, (0, p4))], [(0, 1), (0, w 275 10 + 1)], w39)) 1 rfl ?_
                      refine e_Ok.sub' (z := w 275 10) rfl (by omega) (by omega) ?_
                      refine e_Ok.rets rfl rfl ?_
                      have e42 : w39 275 10 = w 275 10 + 1 := (by rw [← hw39]; exact e_up_eq _ _ _ _)
                      exact ⟨_, rfl, f40, hT41, by omega⟩
                    · replace h26 : (w 275 10 : Int) = 4 := by have q : ¬ ((w 275 10 : Int) ≠ 4) := h26; omega
                      refine e_Ok.run (t' := (75, [(0, (1, 275)), (1, (0, p1)), (2, (0, p2)), (3, (0, p3)), (4, (0, p4))], [(0, (-3))], w)) 1 rfl ?_
                      refine e_Ok.rets rfl rfl ?_
                      have e43 : w 275 10 = w 275 10 := rfl
                      exact ⟨_, rfl, (e_fr.refl w), hT, by omega⟩
                  · replace h25 : (w 275 3 : Int) ≠ 0 := by have q : ¬ ((w 275 3 : Int) = 0) := h25; omega
                    refine e_Ok.run (t' := (64, [(0, (1, 275)), (1, (0, p1)), (2, (0, p2)), (3, (0, p3)), (4, (0, p4))], [(0, (-2))], w)) 1 rfl ?_
                    refine e_Ok.rets rfl rfl ?_
                    have e44 : w 275 10 = w 275 10 := rfl
                    exact ⟨_, rfl, (e_fr.refl w), hT, by omega⟩
                · replace h24 : (1 : Int) = 0 := by have q : ¬ ((1 : Int) ≠ 0) := h24; omega
                  exfalso; omega
              · show e_Ok 20 elay ecode eI (d + 1) 278 (50, [(0, (1, 275)), (1, (0, p1)), (2, (0, p2)), (3, (0, p3)), (4, (0, p4))], [(0, 0)], w) _
                refine e_Ok.if1 rfl (fun h45 => ?_) (fun h45 => ?_)
                · replace h45 : (0 : Int) ≠ 0 := h45
                  exfalso; omega
                · replace h45 : (0 : Int) = 0 := by have q : ¬ ((0 : Int) ≠ 0) := h45; omega
                  refine e_Ok.run (t' := (54, [(0, (1, 275)), (1, (0, p1)), (2, (0, p2)), (3, (0, p3)), (4, (0, p4))], [(0, (-1))], w)) 1 rfl ?_
                  refine e_Ok.rets rfl rfl ?_
                  have e46 : w 275 10 = w 275 10 := rfl
                  exact ⟨_, rfl, (e_fr.refl w), hT, by omega⟩
          · show e_Ok 20 elay ecode eI (d + 1) 278 (37, [(0, (1, 275)), (1, (0, p1)), (2, (0, p2)), (3, (0, p3)), (4, (0, p4))], [(0, 0)], w) _
            refine e_Ok.if1 rfl (fun h47 => ?_) (fun h47 => ?_)
            · replace h47 : (0 : Int) = 0 := h47
              refine e_Ok.run (t' := (54, [(0, (1, 275)), (1, (0, p1)), (2, (0, p2)), (3, (0, p3)), (4, (0, p4))], [(0, (-1))], w)) 1 rfl ?_
              refine e_Ok.rets rfl rfl ?_
              have e48 : w 275 10 = w 275 10 := rfl
              exact ⟨_, rfl, (e_fr.refl w), hT, by omega⟩
            · replace h47 : (0 : Int) ≠ 0 := by have q : ¬ ((0 : Int) = 0) := h47; omega
              exfalso; omega
      · show e_Ok 20 elay ecode eI (d + 1) 278 (25, [(0, (1, 275)), (1, (0, p1)), (2, (0, p2)), (3, (0, p3)), (4, (0, p4))], [(0, 0)], w) _
        refine e_Ok.if1 rfl (fun h49 => ?_) (fun h49 => ?_)
        · replace h49 : (0 : Int) = 0 := h49
          refine e_Ok.run (t' := (54, [(0, (1, 275)), (1, (0, p1)), (2, (0, p2)), (3, (0, p3)), (4, (0, p4))], [(0, (-1))], w)) 1 rfl ?_
          refine e_Ok.rets rfl rfl ?_
          have e50 : w 275 10 = w 275 10 := rfl
          exact ⟨_, rfl, (e_fr.refl w), hT, by omega⟩
        · replace h49 : (0 : Int) ≠ 0 := by have q : ¬ ((0 : Int) = 0) := h49; omega
          exfalso; omega
  · show e_Ok 20 elay ecode eI (d + 1) 278 (11, [(0, (1, 275)), (1, (0, p1)), (2, (0, p2)), (3, (0, p3)), (4, (0, p4))], [(0, 0)], w) _
    refine e_Ok.if1 rfl (fun h51 => ?_) (fun h51 => ?_)
    · replace h51 : (0 : Int) = 0 := h51
      refine e_Ok.run (t' := (54, [(0, (1, 275)), (1, (0, p1)), (2, (0, p2)), (3, (0, p3)), (4, (0, p4))], [(0, (-1))], w)) 1 rfl ?_
      refine e_Ok.rets rfl rfl ?_
      have e52 : w 275 10 = w 275 10 := rfl
      exact ⟨_, rfl, (e_fr.refl w), hT, by omega⟩
    · replace h51 : (0 : Int) ≠ 0 := by have q : ¬ ((0 : Int) = 0) := h51; omega
      exfalso; omega
theorem c_280 {d : Nat} (hd : 23 ≤ d) {w : eW} (hT : e_Has mTy w) {p1 p2 p3 : Int} (g1 : (-2147483648) ≤ p1 ∧ p1 ≤ 2147483647) (g2 : (-2147483648) ≤ p2 ∧ p2 ≤ 2147483647) (g3 : (-2147483648) ≤ p3 ∧ p3 ≤ 2147483647) : e_Ok 20 elay ecode eI d 280 (0, [(0, (1, 275)), (1, (0, p1)), (2, (0, p2)), (3, (0, p3))], [], w) (fun r w' => ∃ z : Int, r = [(0, z)] ∧ e_fr (mF (-1) 293 293) w w' ∧ e_Has mTy w' ∧ True) := by
  obtain ⟨d, rfl⟩ : ∃ e, d = e + 1 := ⟨d - 1, by omega⟩
  refine e_Ok.run (t' := (3, [(0, (1, 275)), (1, (0, p1)), (2, (0, p2)), (3, (0, p3))], [(0, p2), (0, p1), (1, 275)], w)) 3 rfl ?_
  refine e_Ok.callV rfl (by omega) rfl rfl rfl rfl (c_271 (by omega) hT) (fun r1 w2 h3 => ?_)
  obtain ⟨z4, rfl, rfl, q5⟩ := h3
  have h6 := e_Has.get hT (c := 275) (k := 10) (lo := 0) (hi := 4) rfl (by decide)
  have h7 := e_Has.get hT (c := 286) (k := p1) (lo := 0) (hi := 6) rfl (by decide)
  obtain ⟨rfl, q5⟩ | ⟨rfl, q5⟩ := q5
  · show e_Ok 20 elay ecode eI (d + 1) 280 (6, [(0, (1, 275)), (1, (0, p1)), (2, (0, p2)), (3, (0, p3))], [(0, 1)], w) _
    refine e_Ok.if1 rfl (fun h8 => ?_) (fun h8 => ?_)
    · replace h8 : (1 : Int) = 0 := h8
      exfalso; omega
    · replace h8 : (1 : Int) ≠ 0 := by have q : ¬ ((1 : Int) = 0) := h8; omega
      refine e_Ok.run (t' := (15, [(0, (1, 275)), (1, (0, p1)), (2, (0, p2)), (3, (0, p3))], [(4, 800), (4, 0), (4, p3)], w)) 4 rfl ?_
      refine e_Ok.callS rfl (by omega) rfl rfl (c_266) (fun r9 w10 h11 => ?_)
      obtain ⟨z12, rfl, rfl, q13⟩ := h11
      obtain ⟨rfl, q13⟩ | ⟨rfl, q13⟩ := q13
      · show e_Ok 20 elay ecode eI (d + 1) 280 (18, [(0, (1, 275)), (1, (0, p1)), (2, (0, p2)), (3, (0, p3))], [(0, 1)], w) _
        refine e_Ok.if1 rfl (fun h14 => ?_) (fun h14 => ?_)
        · replace h14 : (1 : Int) ≠ 0 := h14
          refine e_Ok.run (t' := (24, [(0, (1, 275)), (1, (0, p1)), (2, (0, p2)), (3, (0, p3))], [(1, 275)], w)) 1 rfl ?_
          have h15 := (e_Has.get hT (c := 275) (k := 3) (lo := 0) (hi := 1) rfl (by decide))
          refine e_Ok.getf (z := w 275 3) rfl (el_o rfl) rfl rfl rfl (by omega) ?_
          refine e_Ok.if1 rfl (fun h16 => ?_) (fun h16 => ?_)
          · replace h16 : (w 275 3 : Int) = 0 := h16
            refine e_Ok.run (t' := (34, [(0, (1, 275)), (1, (0, p1)), (2, (0, p2)), (3, (0, p3))], [(1, 275)], w)) 1 rfl ?_
            refine e_Ok.getr (z := 293) rfl (el_o rfl) rfl rfl (e_Has.eq hT rfl) (by omega) ?_
            refine e_Ok.run (t' := (40, [(0, (1, 275)), (1, (0, p1)), (2, (0, p2)), (3, (0, p3))], [(0, p1), (0, 6), (1, 293)], w)) 2 rfl ?_
            refine e_Ok.mul (z := 6 * p1) rfl (by omega) (by omega) ?_
            refine e_Ok.run (t' := (42, [(0, (1, 275)), (1, (0, p1)), (2, (0, p2)), (3, (0, p3))], [(0, p2), (0, 6 * p1), (1, 293)], w)) 1 rfl ?_
            refine e_Ok.add (z := 6 * p1 + p2) rfl (by omega) (by omega) ?_
            have h17 := (e_Has.get hT (c := 293) (k := 6 * p1 + p2) (lo := 0) (hi := 800) rfl (by decide))
            refine e_Ok.ald (z := w 293 (6 * p1 + p2)) rfl (el_o rfl) rfl (by omega) rfl (by omega) ?_
            refine e_Ok.run (t' := (47, [(4, (0, w 293 (6 * p1 + p2))), (0, (1, 275)), (1, (0, p1)), (2, (0, p2)), (3, (0, p3))], [(1, 275)], w)) 2 rfl ?_
            refine e_Ok.getr (z := 293) rfl (el_o rfl) rfl rfl (e_Has.eq hT rfl) (by omega) ?_
            refine e_Ok.run (t' := (53, [(4, (0, w 293 (6 * p1 + p2))), (0, (1, 275)), (1, (0, p1)), (2, (0, p2)), (3, (0, p3))], [(0, p1), (0, 6), (1, 293)], w)) 2 rfl ?_
            refine e_Ok.mul (z := 6 * p1) rfl (by omega) (by omega) ?_
            refine e_Ok.run (t' := (55, [(4, (0, w 293 (6 * p1 + p2))), (0, (1, 275)), (1, (0, p1)), (2, (0, p2)), (3, (0, p3))], [(0, p2), (0, 6 * p1), (1, 293)], w)) 1 rfl ?_
            refine e_Ok.add (z := 6 * p1 + p2) rfl (by omega) (by omega) ?_
            refine e_Ok.run (t' := (57, [(4, (0, w 293 (6 * p1 + p2))), (0, (1, 275)), (1, (0, p1)), (2, (0, p2)), (3, (0, p3))], [(0, p3), (0, 6 * p1 + p2), (1, 293)], w)) 1 rfl ?_
            refine e_Ok.ast rfl (el_o rfl) rfl rfl (by omega) ?_
            generalize hw18 : e_up w 293 (6 * p1 + p2) p3 = w18
            have f19 : e_fr (mF (-1) 293 293) w w18 := e_fr.up (e_fr.refl w) hw18 (by unfold mF; omega)
            have hT20 : e_Has mTy w18 := e_Has.upr hT hw18 rfl (by omega)
            refine e_Ok.run (t' := (60, [(4, (0, w 293 (6 * p1 + p2))), (0, (1, 275)), (1, (0, p1)), (2, (0, p2)), (3, (0, p3))], [(0, w 293 (6 * p1 + p2))], w18)) 1 rfl ?_
            refine e_Ok.rets rfl rfl ?_
            exact ⟨_, rfl, f19, hT20, trivial⟩
          · replace h16 : (w 275 3 : Int) ≠ 0 := by have q : ¬ ((w 275 3 : Int) = 0) := h16; omega
            refine e_Ok.run (t' := (32, [(0, (1, 275)), (1, (0, p1)), (2, (0, p2)), (3, (0, p3))], [(0, (-2))], w)) 1 rfl ?_
            refine e_Ok.rets rfl rfl ?_
            exact ⟨_, rfl, (e_fr.refl w), hT, trivial⟩
        · replace h14 : (1 : Int) = 0 := by have q : ¬ ((1 : Int) ≠ 0) := h14; omega
          exfalso; omega
      · show e_Ok 20 elay ecode eI (d + 1) 280 (18, [(0, (1, 275)), (1, (0, p1)), (2, (0, p2)), (3, (0, p3))], [(0, 0)], w) _
        refine e_Ok.if1 rfl (fun h21 => ?_) (fun h21 => ?_)
        · replace h21 : (0 : Int) ≠ 0 := h21
          exfalso; omega
        · replace h21 : (0 : Int) = 0 := by have q : ¬ ((0 : Int) ≠ 0) := h21; omega
          refine e_Ok.run (t' := (22, [(0, (1, 275)), (1, (0, p1)), (2, (0, p2)), (3, (0, p3))], [(0, (-1))], w)) 1 rfl ?_
          refine e_Ok.rets rfl rfl ?_
          exact ⟨_, rfl, (e_fr.refl w), hT, trivial⟩
  · show e_Ok 20 elay ecode eI (d + 1) 280 (6, [(0, (1, 275)), (1, (0, p1)), (2, (0, p2)), (3, (0, p3))], [(0, 0)], w) _
    refine e_Ok.if1 rfl (fun h22 => ?_) (fun h22 => ?_)
    · replace h22 : (0 : Int) = 0 := h22
      refine e_Ok.run (t' := (22, [(0, (1, 275)), (1, (0, p1)), (2, (0, p2)), (3, (0, p3))], [(0, (-1))], w)) 1 rfl ?_
      refine e_Ok.rets rfl rfl ?_
      exact ⟨_, rfl, (e_fr.refl w), hT, trivial⟩
    · replace h22 : (0 : Int) ≠ 0 := by have q : ¬ ((0 : Int) = 0) := h22; omega
      exfalso; omega
theorem c_281 {d : Nat} (hd : 23 ≤ d) {w : eW} (hT : e_Has mTy w) {p1 p2 p3 p4 : Int} (g1 : (-2147483648) ≤ p1 ∧ p1 ≤ 2147483647) (g2 : (-2147483648) ≤ p2 ∧ p2 ≤ 2147483647) (g3 : (-2147483648) ≤ p3 ∧ p3 ≤ 2147483647) (g4 : (-2147483648) ≤ p4 ∧ p4 ≤ 2147483647) : e_Ok 20 elay ecode eI d 281 (0, [(0, (1, 275)), (1, (0, p1)), (2, (0, p2)), (3, (0, p3)), (4, (0, p4))], [], w) (fun r w' => ∃ z : Int, r = [(0, z)] ∧ e_fr (mF (-1) 290 291) w w' ∧ e_Has mTy w' ∧ True) := by
  obtain ⟨d, rfl⟩ : ∃ e, d = e + 1 := ⟨d - 1, by omega⟩
  refine e_Ok.run (t' := (3, [(0, (1, 275)), (1, (0, p1)), (2, (0, p2)), (3, (0, p3)), (4, (0, p4))], [(0, p2), (0, p1), (1, 275)], w)) 3 rfl ?_
  refine e_Ok.callV rfl (by omega) rfl rfl rfl rfl (c_271 (by omega) hT) (fun r1 w2 h3 => ?_)
  obtain ⟨z4, rfl, rfl, q5⟩ := h3
  have h6 := e_Has.get hT (c := 275) (k := 10) (lo := 0) (hi := 4) rfl (by decide)
  have h7 := e_Has.get hT (c := 286) (k := p1) (lo := 0) (hi := 6) rfl (by decide)
  obtain ⟨rfl, q5⟩ | ⟨rfl, q5⟩ := q5
  · show e_Ok 20 elay ecode eI (d + 1) 281 (6, [(0, (1, 275)), (1, (0, p1)), (2, (0, p2)), (3, (0, p3)), (4, (0, p4))], [(0, 1)], w) _
    refine e_Ok.if1 rfl (fun h8 => ?_) (fun h8 => ?_)
    · replace h8 : (1 : Int) = 0 := h8
      exfalso; omega
    · replace h8 : (1 : Int) ≠ 0 := by have q : ¬ ((1 : Int) = 0) := h8; omega
      refine e_Ok.run (t' := (15, [(0, (1, 275)), (1, (0, p1)), (2, (0, p2)), (3, (0, p3)), (4, (0, p4))], [(4, 2000), (4, 1), (4, p3)], w)) 4 rfl ?_
      refine e_Ok.callS rfl (by omega) rfl rfl (c_266) (fun r9 w10 h11 => ?_)
      obtain ⟨z12, rfl, rfl, q13⟩ := h11
      obtain ⟨rfl, q13⟩ | ⟨rfl, q13⟩ := q13
      · show e_Ok 20 elay ecode eI (d + 1) 281 (18, [(0, (1, 275)), (1, (0, p1)), (2, (0, p2)), (3, (0, p3)), (4, (0, p4))], [(0, 1)], w) _
        refine e_Ok.if1 rfl (fun h14 => ?_) (fun h14 => ?_)
        · replace h14 : (1 : Int) = 0 := h14
          exfalso; omega
        · replace h14 : (1 : Int) ≠ 0 := by have q : ¬ ((1 : Int) = 0) := h14; omega
          refine e_Ok.run (t' := (28, [(0, (1, 275)), (1, (0, p1)), (2, (0, p2)), (3, (0, p3)), (4, (0, p4))], [(4, 2000), (4, 1), (4, p4)], w)) 4 rfl ?_
          refine e_Ok.callS rfl (by omega) rfl rfl (c_266) (fun r15 w16 h17 => ?_)
          obtain ⟨z18, rfl, rfl, q19⟩ := h17
          obtain ⟨rfl, q19⟩ | ⟨rfl, q19⟩ := q19
          · show e_Ok 20 elay ecode eI (d + 1) 281 (31, [(0, (1, 275)), (1, (0, p1)), (2, (0, p2)), (3, (0, p3)), (4, (0, p4))], [(0, 1)], w) _
            refine e_Ok.if1 rfl (fun h20 => ?_) (fun h20 => ?_)
            · replace h20 : (1 : Int) ≠ 0 := h20
              refine e_Ok.run (t' := (37, [(0, (1, 275)), (1, (0, p1)), (2, (0, p2)), (3, (0, p3)), (4, (0, p4))], [(1, 275)], w)) 1 rfl ?_
              have h21 := (e_Has.get hT (c := 275) (k := 3) (lo := 0) (hi := 1) rfl (by decide))
              refine e_Ok.getf (z := w 275 3) rfl (el_o rfl) rfl rfl rfl (by omega) ?_
              refine e_Ok.if1 rfl (fun h22 => ?_) (fun h22 => ?_)
              · replace h22 : (w 275 3 : Int) = 0 := h22
                refine e_Ok.run (t' := (47, [(0, (1, 275)), (1, (0, p1)), (2, (0, p2)), (3, (0, p3)), (4, (0, p4))], [(1, 275)], w)) 1 rfl ?_
                refine e_Ok.getr (z := 290) rfl (el_o rfl) rfl rfl (e_Has.eq hT rfl) (by omega) ?_
                refine e_Ok.run (t' := (53, [(0, (1, 275)), (1, (0, p1)), (2, (0, p2)), (3, (0, p3)), (4, (0, p4))], [(0, p1), (0, 6), (1, 290)], w)) 2 rfl ?_
                refine e_Ok.mul (z := 6 * p1) rfl (by omega) (by omega) ?_
                refine e_Ok.run (t' := (55, [(0, (1, 275)), (1, (0, p1)), (2, (0, p2)), (3, (0, p3)), (4, (0, p4))], [(0, p2), (0, 6 * p1), (1, 290)], w)) 1 rfl ?_
                refine e_Ok.add (z := 6 * p1 + p2) rfl (by omega) (by omega) ?_
                refine e_Ok.run (t' := (57, [(0, (1, 275)), (1, (0, p1)), (2, (0, p2)), (3, (0, p3)), (4, (0, p4))], [(0, p3), (0, 6 * p1 + p2), (1, 290)], w)) 1 rfl ?_
                refine e_Ok.ast rfl (el_o rfl) rfl rfl (by omega) ?_
                generalize hw23 : e_up w 290 (6 * p1 + p2) p3 = w23
                have f24 : e_fr (mF (-1) 290 291) w w23 := e_fr.up (e_fr.refl w) hw23 (by unfold mF; omega)
                have hT25 : e_Has mTy w23 := e_Has.upr hT hw23 rfl (by omega)
                refine e_Ok.run (t' := (59, [(0, (1, 275)), (1, (0, p1)), (2, (0, p2)), (3, (0, p3)), (4, (0, p4))], [(1, 275)], w23)) 1 rfl ?_
                refine e_Ok.getr (z := 291) rfl (el_o rfl) rfl rfl (by rw [← hw23]; exact (e_up_ne _ _ (Or.inl (by omega))).trans (e_Has.eq hT rfl)) (by omega) ?_
                refine e_Ok.run (t' := (65, [(0, (1, 275)), (1, (0, p1)), (2, (0, p2)), (3, (0, p3)), (4, (0, p4))], [(0, p1), (0, 6), (1, 291)], w23)) 2 rfl ?_
                refine e_Ok.mul (z := 6 * p1) rfl (by omega) (by omega) ?_
                refine e_Ok.run (t' := (67, [(0, (1, 275)), (1, (0, p1)), (2, (0, p2)), (3, (0, p3)), (4, (0, p4))], [(0, p2), (0, 6 * p1), (1, 291)], w23)) 1 rfl ?_
                refine e_Ok.add (z := 6 * p1 + p2) rfl (by omega) (by omega) ?_
                refine e_Ok.run (t' := (70, [(0, (1, 275)), (1, (0, p1)), (2, (0, p2)), (3, (0, p3)), (4, (0, p4))], [(0, p4), (0, 6 * p1 + p2), (1, 291)], w23)) 1 rfl ?_
                refine e_Ok.ast rfl (el_o rfl) rfl rfl (by omega) ?_
                generalize hw26 : e_up w23 291 (6 * p1 + p2) p4 = w26
                have f27 : e_fr (mF (-1) 290 291) w w26 := e_fr.up f24 hw26 (by unfold mF; omega)
                have hT28 : e_Has mTy w26 := e_Has.upr hT25 hw26 rfl (by omega)
                refine e_Ok.run (t' := (72, [(0, (1, 275)), (1, (0, p1)), (2, (0, p2)), (3, (0, p3)), (4, (0, p4))], [(0, 0)], w26)) 1 rfl ?_
                refine e_Ok.rets rfl rfl ?_
                exact ⟨_, rfl, f27, hT28, trivial⟩
              · replace h22 : (w 275 3 : Int) ≠ 0 := by have q : ¬ ((w 275 3 : Int) = 0) := h22; omega
                refine e_Ok.run (t' := (45, [(0, (1, 275)), (1, (0, p1)), (2, (0, p2)), (3, (0, p3)), (4, (0, p4))], [(0, (-2))], w)) 1 rfl ?_
                refine e_Ok.rets rfl rfl ?_
                exact ⟨_, rfl, (e_fr.refl w), hT, trivial⟩
            · replace h20 : (1 : Int) = 0 := by have q : ¬ ((1 : Int) ≠ 0) := h20; omega
              exfalso; omega
          · show e_Ok 20 elay ecode eI (d + 1) 281 (31, [(0, (1, 275)), (1, (0, p1)), (2, (0, p2)), (3, (0, p3)), (4, (0, p4))], [(0, 0)], w) _
            refine e_Ok.if1 rfl (fun h29 => ?_) (fun h29 => ?_)
            · replace h29 : (0 : Int) ≠ 0 := h29
              exfalso; omega
            · replace h29 : (0 : Int) = 0 := by have q : ¬ ((0 : Int) ≠ 0) := h29; omega
              refine e_Ok.run (t' := (35, [(0, (1, 275)), (1, (0, p1)), (2, (0, p2)), (3, (0, p3)), (4, (0, p4))], [(0, (-1))], w)) 1 rfl ?_
              refine e_Ok.rets rfl rfl ?_
              exact ⟨_, rfl, (e_fr.refl w), hT, trivial⟩
      · show e_Ok 20 elay ecode eI (d + 1) 281 (18, [(0, (1, 275)), (1, (0, p1)), (2, (0, p2)), (3, (0, p3)), (4, (0, p4))], [(0, 0)], w) _
        refine e_Ok.if1 rfl (fun h30 => ?_) (fun h30 => ?_)
        · replace h30 : (0 : Int) = 0 := h30
          refine e_Ok.run (t' := (35, [(0, (1, 275)), (1, (0, p1)), (2, (0, p2)), (3, (0, p3)), (4, (0, p4))], [(0, (-1))], w)) 1 rfl ?_
          refine e_Ok.rets rfl rfl ?_
          exact ⟨_, rfl, (e_fr.refl w), hT, trivial⟩
        · replace h30 : (0 : Int) ≠ 0 := by have q : ¬ ((0 : Int) = 0) := h30; omega
          exfalso; omega
  · show e_Ok 20 elay ecode eI (d + 1) 281 (6, [(0, (1, 275)), (1, (0, p1)), (2, (0, p2)), (3, (0, p3)), (4, (0, p4))], [(0, 0)], w) _
    refine e_Ok.if1 rfl (fun h31 => ?_) (fun h31 => ?_)
    · replace h31 : (0 : Int) = 0 := h31
      refine e_Ok.run (t' := (35, [(0, (1, 275)), (1, (0, p1)), (2, (0, p2)), (3, (0, p3)), (4, (0, p4))], [(0, (-1))], w)) 1 rfl ?_
      refine e_Ok.rets rfl rfl ?_
      exact ⟨_, rfl, (e_fr.refl w), hT, trivial⟩
    · replace h31 : (0 : Int) ≠ 0 := by have q : ¬ ((0 : Int) = 0) := h31; omega
      exfalso; omega
theorem c_282 {d : Nat} (hd : 23 ≤ d) {w : eW} (hT : e_Has mTy w) {p1 p2 p3 p4 p5 : Int} (g1 : 0 ≤ p1 ∧ p1 ≤ 1) (g2 : (-16000) ≤ p2 ∧ p2 ≤ 16000) (g3 : (-16000) ≤ p3 ∧ p3 ≤ 16000) (g4 : (-2147483648) ≤ p4 ∧ p4 ≤ 2147483647) (g5 : (-2147483648) ≤ p5 ∧ p5 ≤ 2147483647) : e_Ok 20 elay ecode eI d 282 (0, [(0, (1, 275)), (1, (0, p1)), (2, (0, p2)), (3, (0, p3)), (4, (0, p4)), (5, (0, p5))], [], w) (fun r w' => ∃ z : Int, r = [(0, z)] ∧ e_fr (mF 23 294 298) w w' ∧ e_Has mTy w' ∧ True) := by
  refine e_Ok.run (t' := (1, [(0, (1, 275)), (1, (0, p1)), (2, (0, p2)), (3, (0, p3)), (4, (0, p4)), (5, (0, p5))], [(1, 275)], w)) 1 rfl ?_
  have h1 := (e_Has.get hT (c := 275) (k := 3) (lo := 0) (hi := 1) rfl (by decide))
  refine e_Ok.getf (z := w 275 3) rfl (el_o rfl) rfl rfl rfl (by omega) ?_
  refine e_Ok.if1 rfl (fun h2 => ?_) (fun h2 => ?_)
  · replace h2 : (w 275 3 : Int) = 0 := h2
    refine e_Ok.run (t' := (11, [(0, (1, 275)), (1, (0, p1)), (2, (0, p2)), (3, (0, p3)), (4, (0, p4)), (5, (0, p5))], [(1, 275)], w)) 1 rfl ?_
    have h3 := (e_Has.get hT (c := 275) (k := 23) (lo := 0) (hi := 16) rfl (by decide))
    refine e_Ok.getf (z := w 275 23) rfl (el_o rfl) rfl rfl rfl (by omega) ?_
    refine e_Ok.run (t' := (16, [(0, (1, 275)), (1, (0, p1)), (2, (0, p2)), (3, (0, p3)), (4, (0, p4)), (5, (0, p5))], [(0, 16), (0, w 275 23)], w)) 1 rfl ?_
    refine e_Ok.if2 rfl (fun h4 => ?_) (fun h4 => ?_)
    · replace h4 : (w 275 23 : Int) ≠ 16 := h4
      refine e_Ok.run (t' := (23, [(0, (1, 275)), (1, (0, p1)), (2, (0, p2)), (3, (0, p3)), (4, (0, p4)), (5, (0, p5))], [(1, 275)], w)) 1 rfl ?_
      refine e_Ok.getr (z := 294) rfl (el_o rfl) rfl rfl (e_Has.eq hT rfl) (by omega) ?_
      refine e_Ok.run (t' := (27, [(0, (1, 275)), (1, (0, p1)), (2, (0, p2)), (3, (0, p3)), (4, (0, p4)), (5, (0, p5))], [(1, 275), (1, 294)], w)) 1 rfl ?_
      refine e_Ok.getf (z := w 275 23) rfl (el_o rfl) rfl rfl rfl (by omega) ?_
      refine e_Ok.run (t' := (31, [(0, (1, 275)), (1, (0, p1)), (2, (0, p2)), (3, (0, p3)), (4, (0, p4)), (5, (0, p5))], [(0, p1), (0, w 275 23), (1, 294)], w)) 1 rfl ?_
      refine e_Ok.ast rfl (el_o rfl) rfl (e_nar_b (by omega)) (by omega) ?_
      generalize hw5 : e_up w 294 (w 275 23) p1 = w5
      have f6 : e_fr (mF 23 294 298) w w5 := e_fr.up (e_fr.refl w) hw5 (by unfold mF; omega)
      have hT7 : e_Has mTy w5 := e_Has.upr hT hw5 rfl (by omega)
      refine e_Ok.run (t' := (33, [(0, (1, 275)), (1, (0, p1)), (2, (0, p2)), (3, (0, p3)), (4, (0, p4)), (5, (0, p5))], [(1, 275)], w5)) 1 rfl ?_
      refine e_Ok.getr (z := 295) rfl (el_o rfl) rfl rfl (by rw [← hw5]; exact (e_up_ne _ _ (Or.inl (by omega))).trans (e_Has.eq hT rfl)) (by omega) ?_
      refine e_Ok.run (t' := (37, [(0, (1, 275)), (1, (0, p1)), (2, (0, p2)), (3, (0, p3)), (4, (0, p4)), (5, (0, p5))], [(1, 275), (1, 295)], w5)) 1 rfl ?_
      refine e_Ok.getf (z := w 275 23) rfl (el_o rfl) rfl rfl (by rw [← hw5]; exact (e_up_ne _ _ (Or.inl (by omega))).trans rfl) (by omega) ?_
      refine e_Ok.run (t' := (41, [(0, (1, 275)), (1, (0, p1)), (2, (0, p2)), (3, (0, p3)), (4, (0, p4)), (5, (0, p5))], [(0, p2), (0, w 275 23), (1, 295)], w5)) 1 rfl ?_
      refine e_Ok.ast rfl (el_o rfl) rfl rfl (by omega) ?_
      generalize hw8 : e_up w5 295 (w 275 23) p2 = w8
      have f9 : e_fr (mF 23 294 298) w w8 := e_fr.up f6 hw8 (by unfold mF; omega)
      have hT10 : e_Has mTy w8 := e_Has.upr hT7 hw8 rfl (by omega)
      refine e_Ok.run (t' := (43, [(0, (1, 275)), (1, (0, p1)), (2, (0, p2)), (3, (0, p3)), (4, (0, p4)), (5, (0, p5))], [(1, 275)], w8)) 1 rfl ?_
      refine e_Ok.getr (z := 296) rfl (el_o rfl) rfl rfl (by rw [← hw8]; exact (e_up_ne _ _ (Or.inl (by omega))).trans (by rw [← hw5]; exact (e_up_ne _ _ (Or.inl (by omega))).trans (e_Has.eq hT rfl))) (by omega) ?_
      refine e_Ok.run (t' := (47, [(0, (1, 275)), (1, (0, p1)), (2, (0, p2)), (3, (0, p3)), (4, (0, p4)), (5, (0, p5))], [(1, 275), (1, 296)], w8)) 1 rfl ?_
      refine e_Ok.getf (z := w 275 23) rfl (el_o rfl) rfl rfl (by rw [← hw8]; exact (e_up_ne _ _ (Or.inl (by omega))).trans (by rw [← hw5]; exact (e_up_ne _ _ (Or.inl (by omega))).trans rfl)) (by omega) ?_
      refine e_Ok.run (t' := (51, [(0, (1, 275)), (1, (0, p1)), (2, (0, p2)), (3, (0, p3)), (4, (0, p4)), (5, (0, p5))], [(0, p3), (0, w 275 23), (1, 296)], w8)) 1 rfl ?_
      refine e_Ok.ast rfl (el_o rfl) rfl rfl (by omega) ?_
      generalize hw11 : e_up w8 296 (w 275 23) p3 = w11
      have f12 : e_fr (mF 23 294 298) w w11 := e_fr.up f9 hw11 (by unfold mF; omega)
      have hT13 : e_Has mTy w11 := e_Has.upr hT10 hw11 rfl (by omega)
      refine e_Ok.run (t' := (53, [(0, (1, 275)), (1, (0, p1)), (2, (0, p2)), (3, (0, p3)), (4, (0, p4)), (5, (0, p5))], [(1, 275)], w11)) 1 rfl ?_
      refine e_Ok.getr (z := 297) rfl (el_o rfl) rfl rfl (by rw [← hw11]; exact (e_up_ne _ _ (Or.inl (by omega))).trans (by rw [← hw8]; exact (e_up_ne _ _ (Or.inl (by omega))).trans (by rw [← hw5]; exact (e_up_ne _ _ (Or.inl (by omega))).trans (e_Has.eq hT rfl)))) (by omega) ?_
      refine e_Ok.run (t' := (57, [(0, (1, 275)), (1, (0, p1)), (2, (0, p2)), (3, (0, p3)), (4, (0, p4)), (5, (0, p5))], [(1, 275), (1, 297)], w11)) 1 rfl ?_
      refine e_Ok.getf (z := w 275 23) rfl (el_o rfl) rfl rfl (by rw [← hw11]; exact (e_up_ne _ _ (Or.inl (by omega))).trans (by rw [← hw8]; exact (e_up_ne _ _ (Or.inl (by omega))).trans (by rw [← hw5]; exact (e_up_ne _ _ (Or.inl (by omega))).trans rfl))) (by omega) ?_
      refine e_Ok.run (t' := (62, [(0, (1, 275)), (1, (0, p1)), (2, (0, p2)), (3, (0, p3)), (4, (0, p4)), (5, (0, p5))], [(0, p4), (0, w 275 23), (1, 297)], w11)) 1 rfl ?_
      refine e_Ok.ast rfl (el_o rfl) rfl rfl (by omega) ?_
      generalize hw14 : e_up w11 297 (w 275 23) p4 = w14
      have f15 : e_fr (mF 23 294 298) w w14 := e_fr.up f12 hw14 (by unfold mF; omega)
      have hT16 : e_Has mTy w14 := e_Has.upr hT13 hw14 rfl (by omega)
      refine e_Ok.run (t' := (64, [(0, (1, 275)), (1, (0, p1)), (2, (0, p2)), (3, (0, p3)), (4, (0, p4)), (5, (0, p5))], [(1, 275)], w14)) 1 rfl ?_
      refine e_Ok.getr (z := 298) rfl (el_o rfl) rfl rfl (by rw [← hw14]; exact (e_up_ne _ _ (Or.inl (by omega))).trans (by rw [← hw11]; exact (e_up_ne _ _ (Or.inl (by omega))).trans (by rw [← hw8]; exact (e_up_ne _ _ (Or.inl (by omega))).trans (by rw [← hw5]; exact (e_up_ne _ _ (Or.inl (by omega))).trans (e_Has.eq hT rfl))))) (by omega) ?_
      refine e_Ok.run (t' := (68, [(0, (1, 275)), (1, (0, p1)), (2, (0, p2)), (3, (0, p3)), (4, (0, p4)), (5, (0, p5))], [(1, 275), (1, 298)], w14)) 1 rfl ?_
      refine e_Ok.getf (z := w 275 23) rfl (el_o rfl) rfl rfl (by rw [← hw14]; exact (e_up_ne _ _ (Or.inl (by omega))).trans (by rw [← hw11]; exact (e_up_ne _ _ (Or.inl (by omega))).trans (by rw [← hw8]; exact (e_up_ne _ _ (Or.inl (by omega))).trans (by rw [← hw5]; exact (e_up_ne _ _ (Or.inl (by omega))).trans rfl)))) (by omega) ?_
      refine e_Ok.run (t' := (73, [(0, (1, 275)), (1, (0, p1)), (2, (0, p2)), (3, (0, p3)), (4, (0, p4)), (5, (0, p5))], [(0, p5), (0, w 275 23), (1, 298)], w14)) 1 rfl ?_
      refine e_Ok.ast rfl (el_o rfl) rfl rfl (by omega) ?_
      generalize hw17 : e_up w14 298 (w 275 23) p5 = w17
      have f18 : e_fr (mF 23 294 298) w w17 := e_fr.up f15 hw17 (by unfold mF; omega)
      have hT19 : e_Has mTy w17 := e_Has.upr hT16 hw17 rfl (by omega)
      refine e_Ok.run (t' := (76, [(0, (1, 275)), (1, (0, p1)), (2, (0, p2)), (3, (0, p3)), (4, (0, p4)), (5, (0, p5))], [(1, 275), (1, 275)], w17)) 2 rfl ?_
      refine e_Ok.getf (z := w 275 23) rfl (el_o rfl) rfl rfl (by rw [← hw17]; exact (e_up_ne _ _ (Or.inl (by omega))).trans (by rw [← hw14]; exact (e_up_ne _ _ (Or.inl (by omega))).trans (by rw [← hw11]; exact (e_up_ne _ _ (Or.inl (by omega))).trans (by rw [← hw8]; exact (e_up_ne _ _ (Or.inl (by omega))).trans (by rw [← hw5]; exact (e_up_ne _ _ (Or.inl (by omega))).trans rfl))))) (by omega) ?_
      refine e_Ok.run (t' := (80, [(0, (1, 275)), (1, (0, p1)), (2, (0, p2)), (3, (0, p3)), (4, (0, p4)), (5, (0, p5))], [(0, 1), (0, w 275 23), (1, 275)], w17)) 1 rfl ?_
      refine e_Ok.add (z := w 275 23 + 1) rfl (by omega) (by omega) ?_
      refine e_Ok.putf rfl (el_o rfl) rfl rfl ?_
      generalize hw20 : e_up w17 275 23 (w 275 23 + 1) = w20
      have f21 : e_fr (mF 23 294 298) w w20 := e_fr.up f18 hw20 (by unfold mF; omega)
      have hT22 : e_Has mTy w20 := e_Has.upr hT19 hw20 rfl (by omega)
      refine e_Ok.run (t' := (85, [(0, (1, 275)), (1, (0, p1)), (2, (0, p2)), (3, (0, p3)), (4, (0, p4)), (5, (0, p5))], [(1, 275)], w20)) 1 rfl ?_
      refine e_Ok.getf (z := w 275 23 + 1) rfl (el_o rfl) rfl rfl (by rw [← hw20]; exact e_up_eq _ _ _ _) (by omega) ?_
      refine e_Ok.run (t' := (89, [(0, (1, 275)), (1, (0, p1)), (2, (0, p2)), (3, (0, p3)), (4, (0, p4)), (5, (0, p5))], [(0, 1), (0, w 275 23 + 1)], w20)) 1 rfl ?_
      refine e_Ok.sub' (z := w 275 23) rfl (by omega) (by omega) ?_
      refine e_Ok.rets rfl rfl ?_
      exact ⟨_, rfl, f21, hT22, trivial⟩
    · replace h4 : (w 275 23 : Int) = 16 := by have q : ¬ ((w 275 23 : Int) ≠ 16) := h4; omega
      refine e_Ok.run (t' := (21, [(0, (1, 275)), (1, (0, p1)), (2, (0, p2)), (3, (0, p3)), (4, (0, p4)), (5, (0, p5))], [(0, (-3))], w)) 1 rfl ?_
      refine e_Ok.rets rfl rfl ?_
      exact ⟨_, rfl, (e_fr.refl w), hT, trivial⟩
  · replace h2 : (w 275 3 : Int) ≠ 0 := by have q : ¬ ((w 275 3 : Int) = 0) := h2; omega
    refine e_Ok.run (t' := (9, [(0, (1, 275)), (1, (0, p1)), (2, (0, p2)), (3, (0, p3)), (4, (0, p4)), (5, (0, p5))], [(0, (-2))], w)) 1 rfl ?_
    refine e_Ok.rets rfl rfl ?_
    exact ⟨_, rfl, (e_fr.refl w), hT, trivial⟩
theorem c_283 {d : Nat} (hd : 25 ≤ d) {w : eW} (hT : e_Has mTy w) {p1 p2 p3 : Int} (g1 : (-2147483648) ≤ p1 ∧ p1 ≤ 2147483647) (g2 : (-2147483648) ≤ p2 ∧ p2 ≤ 2147483647) (g3 : (-2147483648) ≤ p3 ∧ p3 ≤ 2147483647) : e_Ok 20 elay ecode eI d 283 (0, [(0, (1, 275)), (1, (0, p1)), (2, (0, p2)), (3, (0, p3))], [], w) (fun r w' => ∃ z : Int, r = [(0, z)] ∧ e_fr (mF 23 294 298) w w' ∧ e_Has mTy w' ∧ True) := by
  obtain ⟨d, rfl⟩ : ∃ e, d = e + 1 := ⟨d - 1, by omega⟩
  refine e_Ok.run (t' := (2, [(0, (1, 275)), (1, (0, p1)), (2, (0, p2)), (3, (0, p3))], [(0, p2), (0, p1)], w)) 2 rfl ?_
  refine e_Ok.callS rfl (by omega) rfl rfl (c_272 (by omega)) (fun r1 w2 h3 => ?_)
  obtain ⟨z4, rfl, rfl, q5⟩ := h3
  obtain ⟨rfl, q5⟩ | ⟨rfl, q5⟩ := q5
  · show e_Ok 20 elay ecode eI (d + 1) 283 (5, [(0, (1, 275)), (1, (0, p1)), (2, (0, p2)), (3, (0, p3))], [(0, 1)], w) _
    refine e_Ok.if1 rfl (fun h6 => ?_) (fun h6 => ?_)
    · replace h6 : (1 : Int) = 0 := h6
      exfalso; omega
    · replace h6 : (1 : Int) ≠ 0 := by have q : ¬ ((1 : Int) = 0) := h6; omega
      refine e_Ok.run (t' := (14, [(0, (1, 275)), (1, (0, p1)), (2, (0, p2)), (3, (0, p3))], [(4, 8000), (4, 0), (4, p3)], w)) 4 rfl ?_
      refine e_Ok.callS rfl (by omega) rfl rfl (c_266) (fun r7 w8 h9 => ?_)
      obtain ⟨z10, rfl, rfl, q11⟩ := h9
      obtain ⟨rfl, q11⟩ | ⟨rfl, q11⟩ := q11
      · show e_Ok 20 elay ecode eI (d + 1) 283 (17, [(0, (1, 275)), (1, (0, p1)), (2, (0, p2)), (3, (0, p3))], [(0, 1)], w) _
        refine e_Ok.if1 rfl (fun h12 => ?_) (fun h12 => ?_)
        · replace h12 : (1 : Int) = 0 := h12
          exfalso; omega
        · replace h12 : (1 : Int) ≠ 0 := by have q : ¬ ((1 : Int) = 0) := h12; omega
          refine e_Ok.run (t' := (26, [(0, (1, 275)), (1, (0, p1)), (2, (0, p2)), (3, (0, p3))], [(0, 0), (0, p3), (0, p2), (0, p1), (0, 0), (1, 275)], w)) 6 rfl ?_
          refine e_Ok.callV rfl (by omega) rfl rfl rfl rfl (c_282 (by omega) hT (by omega) (by omega) (by omega) (by omega) (by omega)) (fun r13 w14 h15 => ?_)
          obtain ⟨z16, rfl, q17, q17T, -⟩ := h15
          have f18 : e_fr (mF 23 294 298) w w14 := e_fr.trans (e_fr.refl w) (e_fr.mono q17 (fun c k q => by exact q))
          show e_Ok 20 elay ecode eI (d + 1) 283 (29, [(0, (1, 275)), (1, (0, p1)), (2, (0, p2)), (3, (0, p3))], [(0, z16)], w14) _
          refine e_Ok.run (t' := (33, [(0, (1, 275)), (1, (0, p1)), (2, (0, p2)), (3, (0, p3))], [(0, z16)], w14)) 1 rfl ?_
          refine e_Ok.rets rfl rfl ?_
          exact ⟨_, rfl, f18, q17T, trivial⟩
      · show e_Ok 20 elay ecode eI (d + 1) 283 (17, [(0, (1, 275)), (1, (0, p1)), (2, (0, p2)), (3, (0, p3))], [(0, 0)], w) _
        refine e_Ok.if1 rfl (fun h19 => ?_) (fun h19 => ?_)
        · replace h19 : (0 : Int) = 0 := h19
          refine e_Ok.run (t' := (33, [(0, (1, 275)), (1, (0, p1)), (2, (0, p2)), (3, (0, p3))], [(0, (-1))], w)) 1 rfl ?_
          refine e_Ok.rets rfl rfl ?_
          exact ⟨_, rfl, (e_fr.refl w), hT, trivial⟩
        · replace h19 : (0 : Int) ≠ 0 := by have q : ¬ ((0 : Int) = 0) := h19; omega
          exfalso; omega
  · show e_Ok 20 elay ecode eI (d + 1) 283 (5, [(0, (1, 275)), (1, (0, p1)), (2, (0, p2)), (3, (0, p3))], [(0, 0)], w) _
    refine e_Ok.if1 rfl (fun h20 => ?_) (fun h20 => ?_)
    · replace h20 : (0 : Int) = 0 := h20
      refine e_Ok.run (t' := (33, [(0, (1, 275)), (1, (0, p1)), (2, (0, p2)), (3, (0, p3))], [(0, (-1))], w)) 1 rfl ?_
      refine e_Ok.rets rfl rfl ?_
      exact ⟨_, rfl, (e_fr.refl w), hT, trivial⟩
    · replace h20 : (0 : Int) ≠ 0 := by have q : ¬ ((0 : Int) = 0) := h20; omega
      exfalso; omega
theorem c_284 {d : Nat} (hd : 25 ≤ d) {w : eW} (hT : e_Has mTy w) {p1 p2 p3 p4 : Int} (g1 : (-2147483648) ≤ p1 ∧ p1 ≤ 2147483647) (g2 : (-2147483648) ≤ p2 ∧ p2 ≤ 2147483647) (g3 : (-2147483648) ≤ p3 ∧ p3 ≤ 2147483647) (g4 : (-2147483648) ≤ p4 ∧ p4 ≤ 2147483647) : e_Ok 20 elay ecode eI d 284 (0, [(0, (1, 275)), (1, (0, p1)), (2, (0, p2)), (3, (0, p3)), (4, (0, p4))], [], w) (fun r w' => ∃ z : Int, r = [(0, z)] ∧ e_fr (mF 23 294 298) w w' ∧ e_Has mTy w' ∧ True) := by
  obtain ⟨d, rfl⟩ : ∃ e, d = e + 1 := ⟨d - 1, by omega⟩
  refine e_Ok.run (t' := (5, [(0, (1, 275)), (1, (0, p1)), (2, (0, p2)), (3, (0, p3)), (4, (0, p4))], [(0, p4), (0, p3), (0, p2), (0, p1)], w)) 4 rfl ?_
  refine e_Ok.callS rfl (by omega) rfl rfl (c_273 (by omega) (by omega) (by omega)) (fun r1 w2 h3 => ?_)
  obtain ⟨z4, rfl, rfl, q5⟩ := h3
  obtain ⟨rfl, q5⟩ | ⟨rfl, q5⟩ := q5
  · show e_Ok 20 elay ecode eI (d + 1) 284 (8, [(0, (1, 275)), (1, (0, p1)), (2, (0, p2)), (3, (0, p3)), (4, (0, p4))], [(0, 1)], w) _
    refine e_Ok.if1 rfl (fun h6 => ?_) (fun h6 => ?_)
    · replace h6 : (1 : Int) = 0 := h6
      exfalso; omega
    · replace h6 : (1 : Int) ≠ 0 := by have q : ¬ ((1 : Int) = 0) := h6; omega
      refine e_Ok.run (t' := (18, [(0, (1, 275)), (1, (0, p1)), (2, (0, p2)), (3, (0, p3)), (4, (0, p4))], [(0, p4), (0, p3), (0, p2), (0, p1), (0, 1), (1, 275)], w)) 6 rfl ?_
      refine e_Ok.callV rfl (by omega) rfl rfl rfl rfl (c_282 (by omega) hT (by omega) (by omega) (by omega) (by omega) (by omega)) (fun r7 w8 h9 => ?_)
      obtain ⟨z10, rfl, q11, q11T, -⟩ := h9
      have f12 : e_fr (mF 23 294 298) w w8 := e_fr.trans (e_fr.refl w) (e_fr.mono q11 (fun c k q => by exact q))
      show e_Ok 20 elay ecode eI (d + 1) 284 (21, [(0, (1, 275)), (1, (0, p1)), (2, (0, p2)), (3, (0, p3)), (4, (0, p4))], [(0, z10)], w8) _
      refine e_Ok.run (t' := (25, [(0, (1, 275)), (1, (0, p1)), (2, (0, p2)), (3, (0, p3)), (4, (0, p4))], [(0, z10)], w8)) 1 rfl ?_
      refine e_Ok.rets rfl rfl ?_
      exact ⟨_, rfl, f12, q11T, trivial⟩
  · show e_Ok 20 elay ecode eI (d + 1) 284 (8, [(0, (1, 275)), (1, (0, p1)), (2, (0, p2)), (3, (0, p3)), (4, (0, p4))], [(0, 0)], w) _
    refine e_Ok.if1 rfl (fun h13 => ?_) (fun h13 => ?_)
    · replace h13 : (0 : Int) = 0 := h13
      refine e_Ok.run (t' := (25, [(0, (1, 275)), (1, (0, p1)), (2, (0, p2)), (3, (0, p3)), (4, (0, p4))], [(0, (-1))], w)) 1 rfl ?_
      refine e_Ok.rets rfl rfl ?_
      exact ⟨_, rfl, (e_fr.refl w), hT, trivial⟩
    · replace h13 : (0 : Int) ≠ 0 := by have q : ¬ ((0 : Int) = 0) := h13; omega
      exfalso; omega
theorem c_285 {d : Nat} (hd : 23 ≤ d) {w : eW} (hT : e_Has mTy w) {p1 p2 p3 : Int} (g1 : (-2147483648) ≤ p1 ∧ p1 ≤ 2147483647) (g2 : (-2147483648) ≤ p2 ∧ p2 ≤ 2147483647) (g3 : (-2147483648) ≤ p3 ∧ p3 ≤ 2147483647) : e_Ok 20 elay ecode eI d 285 (0, [(0, (1, 275)), (1, (0, p1)), (2, (0, p2)), (3, (0, p3))], [], w) (fun r w' => ∃ z : Int, r = [(0, z)] ∧ e_fr (mF (-1) 299 299) w w' ∧ e_Has mTy w' ∧ True) := by
  obtain ⟨d, rfl⟩ : ∃ e, d = e + 1 := ⟨d - 1, by omega⟩
  refine e_Ok.run (t' := (2, [(0, (1, 275)), (1, (0, p1)), (2, (0, p2)), (3, (0, p3))], [(0, p1), (1, 275)], w)) 2 rfl ?_
  refine e_Ok.callV rfl (by omega) rfl rfl rfl rfl (c_270 (by omega) hT) (fun r1 w2 h3 => ?_)
  have h4 := e_Has.get hT (c := 275) (k := 10) (lo := 0) (hi := 4) rfl (by decide)
  obtain ⟨z5, rfl, rfl, q6⟩ := h3
  obtain ⟨rfl, q6⟩ | ⟨rfl, q6⟩ := q6
  · show e_Ok 20 elay ecode eI (d + 1) 285 (5, [(0, (1, 275)), (1, (0, p1)), (2, (0, p2)), (3, (0, p3))], [(0, 1)], w) _
    refine e_Ok.if1 rfl (fun h7 => ?_) (fun h7 => ?_)
    · replace h7 : (1 : Int) = 0 := h7
      exfalso; omega
    · replace h7 : (1 : Int) ≠ 0 := by have q : ¬ ((1 : Int) = 0) := h7; omega
      refine e_Ok.run (t' := (14, [(0, (1, 275)), (1, (0, p1)), (2, (0, p2)), (3, (0, p3))], [(4, 6), (4, 0), (4, p2)], w)) 4 rfl ?_
      refine e_Ok.callS rfl (by omega) rfl rfl (c_266) (fun r8 w9 h10 => ?_)
      obtain ⟨z11, rfl, rfl, q12⟩ := h10
      obtain ⟨rfl, q12⟩ | ⟨rfl, q12⟩ := q12
      · show e_Ok 20 elay ecode eI (d + 1) 285 (17, [(0, (1, 275)), (1, (0, p1)), (2, (0, p2)), (3, (0, p3))], [(0, 1)], w) _
        refine e_Ok.if1 rfl (fun h13 => ?_) (fun h13 => ?_)
        · replace h13 : (1 : Int) = 0 := h13
          exfalso; omega
        · replace h13 : (1 : Int) ≠ 0 := by have q : ¬ ((1 : Int) = 0) := h13; omega
          refine e_Ok.run (t' := (24, [(0, (1, 275)), (1, (0, p1)), (2, (0, p2)), (3, (0, p3))], [(1, 275), (4, 0), (4, p3)], w)) 4 rfl ?_
          have h14 := (e_Has.get hT (c := 275) (k := 23) (lo := 0) (hi := 16) rfl (by decide))
          refine e_Ok.getf (z := w 275 23) rfl (el_o rfl) rfl rfl rfl (by omega) ?_
          refine e_Ok.run (t' := (28, [(0, (1, 275)), (1, (0, p1)), (2, (0, p2)), (3, (0, p3))], [(0, 1), (0, w 275 23), (4, 0), (4, p3)], w)) 1 rfl ?_
          refine e_Ok.sub' (z := w 275 23 - 1) rfl (by omega) (by omega) ?_
          refine e_Ok.run (t' := (30, [(0, (1, 275)), (1, (0, p1)), (2, (0, p2)), (3, (0, p3))], [(4, w 275 23 - 1), (4, 0), (4, p3)], w)) 1 rfl ?_
          refine e_Ok.callS rfl (by omega) rfl rfl (c_266) (fun r15 w16 h17 => ?_)
          obtain ⟨z18, rfl, rfl, q19⟩ := h17
          obtain ⟨rfl, q19⟩ | ⟨rfl, q19⟩ := q19
          · show e_Ok 20 elay ecode eI (d + 1) 285 (33, [(0, (1, 275)), (1, (0, p1)), (2, (0, p2)), (3, (0, p3))], [(0, 1)], w) _
            refine e_Ok.if1 rfl (fun h20 => ?_) (fun h20 => ?_)
            · replace h20 : (1 : Int) ≠ 0 := h20
              refine e_Ok.run (t' := (39, [(0, (1, 275)), (1, (0, p1)), (2, (0, p2)), (3, (0, p3))], [(1, 275)], w)) 1 rfl ?_
              have h21 := (e_Has.get hT (c := 275) (k := 3) (lo := 0) (hi := 1) rfl (by decide))
              refine e_Ok.getf (z := w 275 3) rfl (el_o rfl) rfl rfl rfl (by omega) ?_
              refine e_Ok.if1 rfl (fun h22 => ?_) (fun h22 => ?_)
              · replace h22 : (w 275 3 : Int) = 0 := h22
                refine e_Ok.run (t' := (51, [(0, (1, 275)), (1, (0, p1)), (2, (0, p2)), (3, (0, p3))], [(0, p1), (0, 112)], w)) 2 rfl ?_
                refine e_Ok.mul (z := 112 * p1) rfl (by omega) (by omega) ?_
                refine e_Ok.run (t' := (55, [(0, (1, 275)), (1, (0, p1)), (2, (0, p2)), (3, (0, p3))], [(0, p2), (0, 16), (0, 112 * p1)], w)) 2 rfl ?_
                refine e_Ok.mul (z := 16 * p2) rfl (by omega) (by omega) ?_
                refine e_Ok.add (z := 112 * p1 + 16 * p2) rfl (by omega) (by omega) ?_
                refine e_Ok.run (t' := (58, [(0, (1, 275)), (1, (0, p1)), (2, (0, p2)), (3, (0, p3))], [(0, p3), (0, 112 * p1 + 16 * p2)], w)) 1 rfl ?_
                refine e_Ok.add (z := 112 * p1 + 16 * p2 + p3) rfl (by omega) (by omega) ?_
                refine e_Ok.run (t' := (62, [(4, (0, 112 * p1 + 16 * p2 + p3)), (0, (1, 275)), (1, (0, p1)), (2, (0, p2)), (3, (0, p3))], [(1, 275)], w)) 2 rfl ?_
                refine e_Ok.getr (z := 299) rfl (el_o rfl) rfl rfl (e_Has.eq hT rfl) (by omega) ?_
                refine e_Ok.run (t' := (67, [(4, (0, 112 * p1 + 16 * p2 + p3)), (0, (1, 275)), (1, (0, p1)), (2, (0, p2)), (3, (0, p3))], [(0, 112 * p1 + 16 * p2 + p3), (1, 299)], w)) 1 rfl ?_
                have h23 := (e_Has.get hT (c := 299) (k := 112 * p1 + 16 * p2 + p3) (lo := 0) (hi := 1) rfl (by decide))
                refine e_Ok.ald (z := w 299 (112 * p1 + 16 * p2 + p3)) rfl (el_o rfl) rfl (by omega) rfl (by omega) ?_
                refine e_Ok.if1 rfl (fun h24 => ?_) (fun h24 => ?_)
                · replace h24 : (w 299 (112 * p1 + 16 * p2 + p3) : Int) = 0 := h24
                  refine e_Ok.run (t' := (79, [(5, (0, 1)), (4, (0, 112 * p1 + 16 * p2 + p3)), (0, (1, 275)), (1, (0, p1)), (2, (0, p2)), (3, (0, p3))], [(1, 275)], w)) 3 rfl ?_
                  refine e_Ok.getr (z := 299) rfl (el_o rfl) rfl rfl (e_Has.eq hT rfl) (by omega) ?_
                  refine e_Ok.run (t' := (85, [(5, (0, 1)), (4, (0, 112 * p1 + 16 * p2 + p3)), (0, (1, 275)), (1, (0, p1)), (2, (0, p2)), (3, (0, p3))], [(0, 1), (0, 112 * p1 + 16 * p2 + p3), (1, 299)], w)) 2 rfl ?_
                  refine e_Ok.ast rfl (el_o rfl) rfl (e_nar_b (by omega)) (by omega) ?_
                  generalize hw25 : e_up w 299 (112 * p1 + 16 * p2 + p3) 1 = w25
                  have f26 : e_fr (mF (-1) 299 299) w w25 := e_fr.up (e_fr.refl w) hw25 (by unfold mF; omega)
                  have hT27 : e_Has mTy w25 := e_Has.upr hT hw25 rfl (by omega)
                  refine e_Ok.run (t' := (88, [(5, (0, 1)), (4, (0, 112 * p1 + 16 * p2 + p3)), (0, (1, 275)), (1, (0, p1)), (2, (0, p2)), (3, (0, p3))], [(0, 1)], w25)) 1 rfl ?_
                  refine e_Ok.rets rfl rfl ?_
                  exact ⟨_, rfl, f26, hT27, trivial⟩
                · replace h24 : (w 299 (112 * p1 + 16 * p2 + p3) : Int) ≠ 0 := by have q : ¬ ((w 299 (112 * p1 + 16 * p2 + p3) : Int) = 0) := h24; omega
                  refine e_Ok.run (t' := (79, [(5, (0, 0)), (4, (0, 112 * p1 + 16 * p2 + p3)), (0, (1, 275)), (1, (0, p1)), (2, (0, p2)), (3, (0, p3))], [(1, 275)], w)) 4 rfl ?_
                  refine e_Ok.getr (z := 299) rfl (el_o rfl) rfl rfl (e_Has.eq hT rfl) (by omega) ?_
                  refine e_Ok.run (t' := (85, [(5, (0, 0)), (4, (0, 112 * p1 + 16 * p2 + p3)), (0, (1, 275)), (1, (0, p1)), (2, (0, p2)), (3, (0, p3))], [(0, 1), (0, 112 * p1 + 16 * p2 + p3), (1, 299)], w)) 2 rfl ?_
                  refine e_Ok.ast rfl (el_o rfl) rfl (e_nar_b (by omega)) (by omega) ?_
                  generalize hw28 : e_up w 299 (112 * p1 + 16 * p2 + p3) 1 = w28
                  have f29 : e_fr (mF (-1) 299 299) w w28 := e_fr.up (e_fr.refl w) hw28 (by unfold mF; omega)
                  have hT30 : e_Has mTy w28 := e_Has.upr hT hw28 rfl (by omega)
                  refine e_Ok.run (t' := (88, [(5, (0, 0)), (4, (0, 112 * p1 + 16 * p2 + p3)), (0, (1, 275)), (1, (0, p1)), (2, (0, p2)), (3, (0, p3))], [(0, 0)], w28)) 1 rfl ?_
                  refine e_Ok.rets rfl rfl ?_
                  exact ⟨_, rfl, f29, hT30, trivial⟩
              · replace h22 : (w 275 3 : Int) ≠ 0 := by have q : ¬ ((w 275 3 : Int) = 0) := h22; omega
                refine e_Ok.run (t' := (47, [(0, (1, 275)), (1, (0, p1)), (2, (0, p2)), (3, (0, p3))], [(0, (-2))], w)) 1 rfl ?_
                refine e_Ok.rets rfl rfl ?_
                exact ⟨_, rfl, (e_fr.refl w), hT, trivial⟩
            · replace h20 : (1 : Int) = 0 := by have q : ¬ ((1 : Int) ≠ 0) := h20; omega
              exfalso; omega
          · show e_Ok 20 elay ecode eI (d + 1) 285 (33, [(0, (1, 275)), (1, (0, p1)), (2, (0, p2)), (3, (0, p3))], [(0, 0)], w) _
            refine e_Ok.if1 rfl (fun h31 => ?_) (fun h31 => ?_)
            · replace h31 : (0 : Int) ≠ 0 := h31
              exfalso; omega
            · replace h31 : (0 : Int) = 0 := by have q : ¬ ((0 : Int) ≠ 0) := h31; omega
              refine e_Ok.run (t' := (37, [(0, (1, 275)), (1, (0, p1)), (2, (0, p2)), (3, (0, p3))], [(0, (-1))], w)) 1 rfl ?_
              refine e_Ok.rets rfl rfl ?_
              exact ⟨_, rfl, (e_fr.refl w), hT, trivial⟩
      · show e_Ok 20 elay ecode eI (d + 1) 285 (17, [(0, (1, 275)), (1, (0, p1)), (2, (0, p2)), (3, (0, p3))], [(0, 0)], w) _
        refine e_Ok.if1 rfl (fun h32 => ?_) (fun h32 => ?_)
        · replace h32 : (0 : Int) = 0 := h32
          refine e_Ok.run (t' := (37, [(0, (1, 275)), (1, (0, p1)), (2, (0, p2)), (3, (0, p3))], [(0, (-1))], w)) 1 rfl ?_
          refine e_Ok.rets rfl rfl ?_
          exact ⟨_, rfl, (e_fr.refl w), hT, trivial⟩
        · replace h32 : (0 : Int) ≠ 0 := by have q : ¬ ((0 : Int) = 0) := h32; omega
          exfalso; omega
  · show e_Ok 20 elay ecode eI (d + 1) 285 (5, [(0, (1, 275)), (1, (0, p1)), (2, (0, p2)), (3, (0, p3))], [(0, 0)], w) _
    refine e_Ok.if1 rfl (fun h33 => ?_) (fun h33 => ?_)
    · replace h33 : (0 : Int) = 0 := h33
      refine e_Ok.run (t' := (37, [(0, (1, 275)), (1, (0, p1)), (2, (0, p2)), (3, (0, p3))], [(0, (-1))], w)) 1 rfl ?_
      refine e_Ok.rets rfl rfl ?_
      exact ⟨_, rfl, (e_fr.refl w), hT, trivial⟩
    · replace h33 : (0 : Int) ≠ 0 := by have q : ¬ ((0 : Int) = 0) := h33; omega
      exfalso; omega
set_option maxHeartbeats 4000000 in
theorem c_286 {d : Nat} (hd : 23 ≤ d) {w : eW} (hT : e_Has mTy w) {p1 p2 p3 p4 p5 : Int} (g1 : (-2147483648) ≤ p1 ∧ p1 ≤ 2147483647) (g2 : (-2147483648) ≤ p2 ∧ p2 ≤ 2147483647) (g3 : (-2147483648) ≤ p3 ∧ p3 ≤ 2147483647) (g4 : (-2147483648) ≤ p4 ∧ p4 ≤ 2147483647) (g5 : (-2147483648) ≤ p5 ∧ p5 ≤ 2147483647) : e_Ok 20 elay ecode eI d 286 (0, [(0, (1, 275)), (1, (0, p1)), (2, (0, p2)), (3, (0, p3)), (4, (0, p4)), (5, (0, p5))], [], w) (fun r w' => ∃ z : Int, r = [(0, z)] ∧ e_fr (mF 30 300 306) w w' ∧ e_Has mTy w' ∧ True) := by
  obtain ⟨d, rfl⟩ : ∃ e, d = e + 1 := ⟨d - 1, by omega⟩
  refine e_Ok.run (t' := (2, [(0, (1, 275)), (1, (0, p1)), (2, (0, p2)), (3, (0, p3)), (4, (0, p4)), (5, (0, p5))], [(0, p2), (0, p1)], w)) 2 rfl ?_
  refine e_Ok.callS rfl (by omega) rfl rfl (c_272 (by omega)) (fun r1 w2 h3 => ?_)
  obtain ⟨z4, rfl, rfl, q5⟩ := h3
  obtain ⟨rfl, q5⟩ | ⟨rfl, q5⟩ := q5
  · show e_Ok 20 elay ecode eI (d + 1) 286 (5, [(0, (1, 275)), (1, (0, p1)), (2, (0, p2)), (3, (0, p3)), (4, (0, p4)), (5, (0, p5))], [(0, 1)], w) _
    refine e_Ok.if1 rfl (fun h6 => ?_) (fun h6 => ?_)
    · replace h6 : (1 : Int) = 0 := h6
      exfalso; omega
    · replace h6 : (1 : Int) ≠ 0 := by have q : ¬ ((1 : Int) = 0) := h6; omega
      refine e_Ok.run (t' := (14, [(0, (1, 275)), (1, (0, p1)), (2, (0, p2)), (3, (0, p3)), (4, (0, p4)), (5, (0, p5))], [(4, 3), (4, 0), (4, p3)], w)) 4 rfl ?_
      refine e_Ok.callS rfl (by omega) rfl rfl (c_266) (fun r7 w8 h9 => ?_)
      obtain ⟨z10, rfl, rfl, q11⟩ := h9
      obtain ⟨rfl, q11⟩ | ⟨rfl, q11⟩ := q11
      · show e_Ok 20 elay ecode eI (d + 1) 286 (17, [(0, (1, 275)), (1, (0, p1)), (2, (0, p2)), (3, (0, p3)), (4, (0, p4)), (5, (0, p5))], [(0, 1)], w) _
        refine e_Ok.if1 rfl (fun h12 => ?_) (fun h12 => ?_)
        · replace h12 : (1 : Int) = 0 := h12
          exfalso; omega
        · replace h12 : (1 : Int) ≠ 0 := by have q : ¬ ((1 : Int) = 0) := h12; omega
          refine e_Ok.run (t' := (27, [(0, (1, 275)), (1, (0, p1)), (2, (0, p2)), (3, (0, p3)), (4, (0, p4)), (5, (0, p5))], [(4, 16000), (4, 0), (4, p4)], w)) 4 rfl ?_
          refine e_Ok.callS rfl (by omega) rfl rfl (c_266) (fun r13 w14 h15 => ?_)
          obtain ⟨z16, rfl, rfl, q17⟩ := h15
          obtain ⟨rfl, q17⟩ | ⟨rfl, q17⟩ := q17
          · show e_Ok 20 elay ecode eI (d + 1) 286 (30, [(0, (1, 275)), (1, (0, p1)), (2, (0, p2)), (3, (0, p3)), (4, (0, p4)), (5, (0, p5))], [(0, 1)], w) _
            refine e_Ok.if1 rfl (fun h18 => ?_) (fun h18 => ?_)
            · replace h18 : (1 : Int) = 0 := h18
              exfalso; omega
            · replace h18 : (1 : Int) ≠ 0 := by have q : ¬ ((1 : Int) = 0) := h18; omega
              refine e_Ok.run (t' := (40, [(0, (1, 275)), (1, (0, p1)), (2, (0, p2)), (3, (0, p3)), (4, (0, p4)), (5, (0, p5))], [(4, 2000), (4, 0), (4, p5)], w)) 4 rfl ?_
              refine e_Ok.callS rfl (by omega) rfl rfl (c_266) (fun r19 w20 h21 => ?_)
              obtain ⟨z22, rfl, rfl, q23⟩ := h21
              obtain ⟨rfl, q23⟩ | ⟨rfl, q23⟩ := q23
              · show e_Ok 20 elay ecode eI (d + 1) 286 (43, [(0, (1, 275)), (1, (0, p1)), (2, (0, p2)), (3, (0, p3)), (4, (0, p4)), (5, (0, p5))], [(0, 1)], w) _
                refine e_Ok.if1 rfl (fun h24 => ?_) (fun h24 => ?_)
                · replace h24 : (1 : Int) ≠ 0 := h24
                  have hC99 : e_Ok 20 elay ecode eI (d + 1) 286 (99, [(0, (1, 275)), (1, (0, p1)), (2, (0, p2)), (3, (0, p3)), (4, (0, p4)), (5, (0, p5))], [], w) (fun r w' => ∃ z : Int, r = [(0, z)] ∧ e_fr (mF 30 300 306) w w' ∧ e_Has mTy w' ∧ True) := by
                    refine e_Ok.run (t' := (100, [(0, (1, 275)), (1, (0, p1)), (2, (0, p2)), (3, (0, p3)), (4, (0, p4)), (5, (0, p5))], [(1, 275)], w)) 1 rfl ?_
                    have h25 := (e_Has.get hT (c := 275) (k := 3) (lo := 0) (hi := 1) rfl (by decide))
                    refine e_Ok.getf (z := w 275 3) rfl (el_o rfl) rfl rfl rfl (by omega) ?_
                    refine e_Ok.if1 rfl (fun h26 => ?_) (fun h26 => ?_)
                    · replace h26 : (w 275 3 : Int) = 0 := h26
                      refine e_Ok.run (t' := (110, [(0, (1, 275)), (1, (0, p1)), (2, (0, p2)), (3, (0, p3)), (4, (0, p4)), (5, (0, p5))], [(1, 275)], w)) 1 rfl ?_
                      have h27 := (e_Has.get hT (c := 275) (k := 30) (lo := 0) (hi := 4) rfl (by decide))
                      refine e_Ok.getf (z := w 275 30) rfl (el_o rfl) rfl rfl rfl (by omega) ?_
                      refine e_Ok.run (t' := (114, [(0, (1, 275)), (1, (0, p1)), (2, (0, p2)), (3, (0, p3)), (4, (0, p4)), (5, (0, p5))], [(0, 4), (0, w 275 30)], w)) 1 rfl ?_
                      refine e_Ok.if2 rfl (fun h28 => ?_) (fun h28 => ?_)
                      · replace h28 : (w 275 30 : Int) ≠ 4 := h28
                        refine e_Ok.run (t' := (121, [(0, (1, 275)), (1, (0, p1)), (2, (0, p2)), (3, (0, p3)), (4, (0, p4)), (5, (0, p5))], [(1, 275)], w)) 1 rfl ?_
                        refine e_Ok.getr (z := 300) rfl (el_o rfl) rfl rfl (e_Has.eq hT rfl) (by omega) ?_
                        refine e_Ok.run (t' := (125, [(0, (1, 275)), (1, (0, p1)), (2, (0, p2)), (3, (0, p3)), (4, (0, p4)), (5, (0, p5))], [(1, 275), (1, 300)], w)) 1 rfl ?_
                        refine e_Ok.getf (z := w 275 30) rfl (el_o rfl) rfl rfl rfl (by omega) ?_
                        refine e_Ok.run (t' := (129, [(0, (1, 275)), (1, (0, p1)), (2, (0, p2)), (3, (0, p3)), (4, (0, p4)), (5, (0, p5))], [(0, p1), (0, w 275 30), (1, 300)], w)) 1 rfl ?_
                        refine e_Ok.ast rfl (el_o rfl) rfl rfl (by omega) ?_
                        generalize hw29 : e_up w 300 (w 275 30) p1 = w29
                        have f30 : e_fr (mF 30 300 306) w w29 := e_fr.up (e_fr.refl w) hw29 (by unfold mF; omega)
                        have hT31 : e_Has mTy w29 := e_Has.upr hT hw29 rfl (by omega)
                        refine e_Ok.run (t' := (131, [(0, (1, 275)), (1, (0, p1)), (2, (0, p2)), (3, (0, p3)), (4, (0, p4)), (5, (0, p5))], [(1, 275)], w29)) 1 rfl ?_
                        refine e_Ok.getr (z := 301) rfl (el_o rfl) rfl rfl (by rw [← hw29]; exact (e_up_ne _ _ (Or.inl (by omega))).trans (e_Has.eq hT rfl)) (by omega) ?_
                        refine e_Ok.run (t' := (135, [(0, (1, 275)), (1, (0, p1)), (2, (0, p2)), (3, (0, p3)), (4, (0, p4)), (5, (0, p5))], [(1, 275), (1, 301)], w29)) 1 rfl ?_
                        refine e_Ok.getf (z := w 275 30) rfl (el_o rfl) rfl rfl (by rw [← hw29]; exact (e_up_ne _ _ (Or.inl (by omega))).trans rfl) (by omega) ?_
                        refine e_Ok.run (t' := (139, [(0, (1, 275)), (1, (0, p1)), (2, (0, p2)), (3, (0, p3)), (4, (0, p4)), (5, (0, p5))], [(0, p2), (0, w 275 30), (1, 301)], w29)) 1 rfl ?_
                        refine e_Ok.ast rfl (el_o rfl) rfl rfl (by omega) ?_
                        generalize hw32 : e_up w29 301 (w 275 30) p2 = w32
                        have f33 : e_fr (mF 30 300 306) w w32 := e_fr.up f30 hw32 (by unfold mF; omega)
                        have hT34 : e_Has mTy w32 := e_Has.upr hT31 hw32 rfl (by omega)
                        refine e_Ok.run (t' := (141, [(0, (1, 275)), (1, (0, p1)), (2, (0, p2)), (3, (0, p3)), (4, (0, p4)), (5, (0, p5))], [(1, 275)], w32)) 1 rfl ?_
                        refine e_Ok.getr (z := 302) rfl (el_o rfl) rfl rfl (by rw [← hw32]; exact (e_up_ne _ _ (Or.inl (by omega))).trans (by rw [← hw29]; exact (e_up_ne _ _ (Or.inl (by omega))).trans (e_Has.eq hT rfl))) (by omega) ?_
                        refine e_Ok.run (t' := (145, [(0, (1, 275)), (1, (0, p1)), (2, (0, p2)), (3, (0, p3)), (4, (0, p4)), (5, (0, p5))], [(1, 275), (1, 302)], w32)) 1 rfl ?_
                        refine e_Ok.getf (z := w 275 30) rfl (el_o rfl) rfl rfl (by rw [← hw32]; exact (e_up_ne _ _ (Or.inl (by omega))).trans (by rw [← hw29]; exact (e_up_ne _ _ (Or.inl (by omega))).trans rfl)) (by omega) ?_
                        refine e_Ok.run (t' := (149, [(0, (1, 275)), (1, (0, p1)), (2, (0, p2)), (3, (0, p3)), (4, (0, p4)), (5, (0, p5))], [(0, p3), (0, w 275 30), (1, 302)], w32)) 1 rfl ?_
                        refine e_Ok.ast rfl (el_o rfl) rfl rfl (by omega) ?_
                        generalize hw35 : e_up w32 302 (w 275 30) p3 = w35
                        have f36 : e_fr (mF 30 300 306) w w35 := e_fr.up f33 hw35 (by unfold mF; omega)
                        have hT37 : e_Has mTy w35 := e_Has.upr hT34 hw35 rfl (by omega)
                        refine e_Ok.run (t' := (151, [(0, (1, 275)), (1, (0, p1)), (2, (0, p2)), (3, (0, p3)), (4, (0, p4)), (5, (0, p5))], [(1, 275)], w35)) 1 rfl ?_
                        refine e_Ok.getr (z := 303) rfl (el_o rfl) rfl rfl (by rw [← hw35]; exact (e_up_ne _ _ (Or.inl (by omega))).trans (by rw [← hw32]; exact (e_up_ne _ _ (Or.inl (by omega))).trans (by rw [← hw29]; exact (e_up_ne _ _ (Or.inl (by omega))).trans (e_Has.eq hT rfl)))) (by omega) ?_
                        refine e_Ok.run (t' := (155, [(0, (1, 275)), (1, (0, p1)), (2, (0, p2)), (3, (0, p3)), (4, (0, p4)), (5, (0, p5))], [(1, 275), (1, 303)], w35)) 1 rfl ?_
                        refine e_Ok.getf (z := w 275 30) rfl (el_o rfl) rfl rfl (by rw [← hw35]; exact (e_up_ne _ _ (Or.inl (by omega))).trans (by rw [← hw32]; exact (e_up_ne _ _ (Or.inl (by omega))).trans (by rw [← hw29]; exact (e_up_ne _ _ (Or.inl (by omega))).trans rfl))) (by omega) ?_
                        refine e_Ok.run (t' := (160, [(0, (1, 275)), (1, (0, p1)), (2, (0, p2)), (3, (0, p3)), (4, (0, p4)), (5, (0, p5))], [(0, p4), (0, w 275 30), (1, 303)], w35)) 1 rfl ?_
                        refine e_Ok.ast rfl (el_o rfl) rfl rfl (by omega) ?_
                        generalize hw38 : e_up w35 303 (w 275 30) p4 = w38
                        have f40 : e_fr (mF 30 300 306) w w38 := e_fr.up f36 hw38 (by unfold mF; omega)
                        have hT41 : e_Has mTy w38 := e_Has.upr hT37 hw38 rfl (by omega)
                        refine e_Ok.run (t' := (162, [(0, (1, 275)), (1, (0, p1)), (2, (0, p2)), (3, (0, p3)), (4, (0, p4)), (5, (0, p5))], [(1, 275)], w38)) 1 rfl ?_
                        refine e_Ok.getr (z := 304) rfl (el_o rfl) rfl rfl (by rw [← hw38]; exact (e_up_ne _ _ (Or.inl (by omega))).trans (by rw [← hw35]; exact (e_up_ne _ _ (Or.inl (by omega))).trans (by rw [← hw32]; exact (e_up_ne _ _ (Or.inl (by omega))).trans (by rw [← hw29]; exact (e_up_ne _ _ (Or.inl (by omega))).trans (e_Has.eq hT rfl))))) (by omega) ?_
                        refine e_Ok.run (t' := (166, [(0, (1, 275)), (1, (0, p1)), (2, (0, p2)), (3, (0, p3)), (4, (0, p4)), (5, (0, p5))], [(1, 275), (1, 304)], w38)) 1 rfl ?_
                        refine e_Ok.getf (z := w 275 30) rfl (el_o rfl) rfl rfl (by rw [← hw38]; exact (e_up_ne _ _ (Or.inl (by omega))).trans (by rw [← hw35]; exact (e_up_ne _ _ (Or.inl (by omega))).trans (by rw [← hw32]; exact (e_up_ne _ _ (Or.inl (by omega))).trans (by rw [← hw29]; exact (e_up_ne _ _ (Or.inl (by omega))).trans rfl)))) (by omega) ?_
                        refine e_Ok.run (t' := (170, [(0, (1, 275)), (1, (0, p1)), (2, (0, p2)), (3, (0, p3)), (4, (0, p4)), (5, (0, p5))], [(0, 0), (0, w 275 30), (1, 304)], w38)) 1 rfl ?_
                        refine e_Ok.ast rfl (el_o rfl) rfl rfl (by omega) ?_
                        generalize hw42 : e_up w38 304 (w 275 30) 0 = w42
                        have f43 : e_fr (mF 30 300 306) w w42 := e_fr.up f40 hw42 (by unfold mF; omega)
                        have hT44 : e_Has mTy w42 := e_Has.upr hT41 hw42 rfl (by omega)
                        refine e_Ok.run (t' := (172, [(0, (1, 275)), (1, (0, p1)), (2, (0, p2)), (3, (0, p3)), (4, (0, p4)), (5, (0, p5))], [(1, 275)], w42)) 1 rfl ?_
                        refine e_Ok.getr (z := 306) rfl (el_o rfl) rfl rfl (by rw [← hw42]; exact (e_up_ne _ _ (Or.inl (by omega))).trans (by rw [← hw38]; exact (e_up_ne _ _ (Or.inl (by omega))).trans (by rw [← hw35]; exact (e_up_ne _ _ (Or.inl (by omega))).trans (by rw [← hw32]; exact (e_up_ne _ _ (Or.inl (by omega))).trans (by rw [← hw29]; exact (e_up_ne _ _ (Or.inl (by omega))).trans (e_Has.eq hT rfl)))))) (by omega) ?_
                        refine e_Ok.run (t' := (176, [(0, (1, 275)), (1, (0, p1)), (2, (0, p2)), (3, (0, p3)), (4, (0, p4)), (5, (0, p5))], [(1, 275), (1, 306)], w42)) 1 rfl ?_
                        refine e_Ok.getf (z := w 275 30) rfl (el_o rfl) rfl rfl (by rw [← hw42]; exact (e_up_ne _ _ (Or.inl (by omega))).trans (by rw [← hw38]; exact (e_up_ne _ _ (Or.inl (by omega))).trans (by rw [← hw35]; exact (e_up_ne _ _ (Or.inl (by omega))).trans (by rw [← hw32]; exact (e_up_ne _ _ (Or.inl (by omega))).trans (by rw [← hw29]; exact (e_up_ne _ _ (Or.inl (by omega))).trans rfl))))) (by omega) ?_
                        refine e_Ok.run (t' := (180, [(0, (1, 275)), (1, (0, p1)), (2, (0, p2)), (3, (0, p3)), (4, (0, p4)), (5, (0, p5))], [(0, (-1)), (0, w 275 30), (1, 306)], w42)) 1 rfl ?_
                        refine e_Ok.ast rfl (el_o rfl) rfl rfl (by omega) ?_
                        generalize hw45 : e_up w42 306 (w 275 30) (-1) = w45
                        have f46 : e_fr (mF 30 300 306) w w45 := e_fr.up f43 hw45 (by unfold mF; omega)
                        have hT47 : e_Has mTy w45 := e_Has.upr hT44 hw45 rfl (by omega)
                        refine e_Ok.run (t' := (182, [(0, (1, 275)), (1, (0, p1)), (2, (0, p2)), (3, (0, p3)), (4, (0, p4)), (5, (0, p5))], [(1, 275)], w45)) 1 rfl ?_
                        refine e_Ok.getr (z := 305) rfl (el_o rfl) rfl rfl (by rw [← hw45]; exact (e_up_ne _ _ (Or.inl (by omega))).trans (by rw [← hw42]; exact (e_up_ne _ _ (Or.inl (by omega))).trans (by rw [← hw38]; exact (e_up_ne _ _ (Or.inl (by omega))).trans (by rw [← hw35]; exact (e_up_ne _ _ (Or.inl (by omega))).trans (by rw [← hw32]; exact (e_up_ne _ _ (Or.inl (by omega))).trans (by rw [← hw29]; exact (e_up_ne _ _ (Or.inl (by omega))).trans (e_Has.eq hT rfl))))))) (by omega) ?_
                        refine e_Ok.run (t' := (186, [(0, (1, 275)), (1, (0, p1)), (2, (0, p2)), (3, (0, p3)), (4, (0, p4)), (5, (0, p5))], [(1, 275), (1, 305)], w45)) 1 rfl ?_
                        refine e_Ok.getf (z := w 275 30) rfl (el_o rfl) rfl rfl (by rw [← hw45]; exact (e_up_ne _ _ (Or.inl (by omega))).trans (by rw [← hw42]; exact (e_up_ne _ _ (Or.inl (by omega))).trans (by rw [← hw38]; exact (e_up_ne _ _ (Or.inl (by omega))).trans (by rw [← hw35]; exact (e_up_ne _ _ (Or.inl (by omega))).trans (by rw [← hw32]; exact (e_up_ne _ _ (Or.inl (by omega))).trans (by rw [← hw29]; exact (e_up_ne _ _ (Or.inl (by omega))).trans rfl)))))) (by omega) ?_
                        refine e_Ok.run (t' := (191, [(0, (1, 275)), (1, (0, p1)), (2, (0, p2)), (3, (0, p3)), (4, (0, p4)), (5, (0, p5))], [(0, p5), (0, w 275 30), (1, 305)], w45)) 1 rfl ?_
                        refine e_Ok.ast rfl (el_o rfl) rfl rfl (by omega) ?_
                        generalize hw48 : e_up w45 305 (w 275 30) p5 = w48
                        have f49 : e_fr (mF 30 300 306) w w48 := e_fr.up f46 hw48 (by unfold mF; omega)
                        have hT50 : e_Has mTy w48 := e_Has.upr hT47 hw48 rfl (by omega)
                        refine e_Ok.run (t' := (194, [(0, (1, 275)), (1, (0, p1)), (2, (0, p2)), (3, (0, p3)), (4, (0, p4)), (5, (0, p5))], [(1, 275), (1, 275)], w48)) 2 rfl ?_
                        refine e_Ok.getf (z := w 275 30) rfl (el_o rfl) rfl rfl (by rw [← hw48]; exact (e_up_ne _ _ (Or.inl (by omega))).trans (by rw [← hw45]; exact (e_up_ne _ _ (Or.inl (by omega))).trans (by rw [← hw42]; exact (e_up_ne _ _ (Or.inl (by omega))).trans (by rw [← hw38]; exact (e_up_ne _ _ (Or.inl (by omega))).trans (by rw [← hw35]; exact (e_up_ne _ _ (Or.inl (by omega))).trans (by rw [← hw32]; exact (e_up_ne _ _ (Or.inl (by omega))).trans (by rw [← hw29]; exact (e_up_ne _ _ (Or.inl (by omega))).trans rfl))))))) (by omega) ?_
                        refine e_Ok.run (t' := (198, [(0, (1, 275)), (1, (0, p1)), (2, (0, p2)), (3, (0, p3)), (4, (0, p4)), (5, (0, p5))], [(0, 1), (0, w 275 30), (1, 275)], w48)) 1 rfl ?_
                        refine e_Ok.add (z := w 275 30 + 1) rfl (by omega) (by omega) ?_
                        refine e_Ok.putf rfl (el_o rfl) rfl rfl ?_
                        generalize hw51 : e_up w48 275 30 (w 275 30 + 1) = w51
                        have f52 : e_fr (mF 30 300 306) w w51 := e_fr.up f49 hw51 (by unfold mF; omega)
                        have hT53 : e_Has mTy w51 := e_Has.upr hT50 hw51 rfl (by omega)
                        refine e_Ok.run (t' := (203, [(0, (1, 275)), (1, (0, p1)), (2, (0, p2)), (3, (0, p3)), (4, (0, p4)), (5, (0, p5))], [(1, 275)], w51)) 1 rfl ?_
                        refine e_Ok.getf (z := w 275 30 + 1) rfl (el_o rfl) rfl rfl (by rw [← hw51]; exact e_up_eq _ _ _ _) (by omega) ?_
                        refine e_Ok.run (t' := (207, [(0, (1, 275)), (1, (0, p1)), (2, (0, p2)), (3, (0, p3)), (4, (0, p4)), (5, (0, p5))], [(0, 1), (0, w 275 30 + 1)], w51)) 1 rfl ?_
                        refine e_Ok.sub' (z := w 275 30) rfl (by omega) (by omega) ?_
                        refine e_Ok.rets rfl rfl ?_
                        exact ⟨_, rfl, f52, hT53, trivial⟩
                      · replace h28 : (w 275 30 : Int) = 4 := by have q : ¬ ((w 275 30 : Int) ≠ 4) := h28; omega
                        refine e_Ok.run (t' := (119, [(0, (1, 275)), (1, (0, p1)), (2, (0, p2)), (3, (0, p3)), (4, (0, p4)), (5, (0, p5))], [(0, (-3))], w)) 1 rfl ?_
                        refine e_Ok.rets rfl rfl ?_
                        exact ⟨_, rfl, (e_fr.refl w), hT, trivial⟩
                    · replace h26 : (w 275 3 : Int) ≠ 0 := by have q : ¬ ((w 275 3 : Int) = 0) := h26; omega
                      refine e_Ok.run (t' := (108, [(0, (1, 275)), (1, (0, p1)), (2, (0, p2)), (3, (0, p3)), (4, (0, p4)), (5, (0, p5))], [(0, (-2))], w)) 1 rfl ?_
                      refine e_Ok.rets rfl rfl ?_
                      exact ⟨_, rfl, (e_fr.refl w), hT, trivial⟩
                  refine e_Ok.run (t' := (50, [(0, (1, 275)), (1, (0, p1)), (2, (0, p2)), (3, (0, p3)), (4, (0, p4)), (5, (0, p5))], [(0, 2), (0, p3)], w)) 2 rfl ?_
                  refine e_Ok.if2 rfl (fun h54 => ?_) (fun h54 => ?_)
                  · replace h54 : (p3 : Int) ≥ 2 := h54
                    refine e_Ok.run (t' := (60, [(0, (1, 275)), (1, (0, p1)), (2, (0, p2)), (3, (0, p3)), (4, (0, p4)), (5, (0, p5))], [(0, p4)], w)) 1 rfl ?_
                    refine e_Ok.neg (z := -p4) rfl (by omega) (by omega) ?_
                    refine e_Ok.run (t' := (65, [(6, (0, -p4)), (0, (1, 275)), (1, (0, p1)), (2, (0, p2)), (3, (0, p3)), (4, (0, p4)), (5, (0, p5))], [(0, 2), (0, p3)], w)) 3 rfl ?_
                    refine e_Ok.remn (fun z55 hz55 => ?_) rfl (by omega) (by omega)
                    replace hz55 : z55 = p3 % 2 := hz55
                    have z55r : 0 ≤ z55 ∧ z55 ≤ 1 := by omega
                    refine e_Ok.if1 rfl (fun h56 => ?_) (fun h56 => ?_)
                    · replace h56 : (z55 : Int) ≠ 0 := h56
                      refine e_Ok.run (t' := (79, [(6, (0, -p4)), (0, (1, 275)), (1, (0, p1)), (2, (0, p2)), (3, (0, p3)), (4, (0, p4)), (5, (0, p5))], [(0, 2), (0, p3), (0, p1)], w)) 3 rfl ?_
                      refine e_Ok.remn (fun z57 hz57 => ?_) rfl (by omega) (by omega)
                      replace hz57 : z57 = p3 % 2 := hz57
                      have z57r : 0 ≤ z57 ∧ z57 ≤ 1 := by omega
                      refine e_Ok.if1 rfl (fun h58 => ?_) (fun h58 => ?_)
                      · replace h58 : (z57 : Int) ≠ 0 := h58
                        refine e_Ok.run (t' := (90, [(6, (0, -p4)), (0, (1, 275)), (1, (0, p1)), (2, (0, p2)), (3, (0, p3)), (4, (0, p4)), (5, (0, p5))], [(0, -p4), (0, p2), (0, p1)], w)) 2 rfl ?_
                        refine e_Ok.add (z := p2 - p4) rfl (by omega) (by omega) ?_
                        refine e_Ok.callS rfl (by omega) rfl rfl (c_272 (by omega)) (fun r59 w60 h61 => ?_)
                        obtain ⟨z62, rfl, rfl, q63⟩ := h61
                        obtain ⟨rfl, q63⟩ | ⟨rfl, q63⟩ := q63
                        · show e_Ok 20 elay ecode eI (d + 1) 286 (94, [(6, (0, -p4)), (0, (1, 275)), (1, (0, p1)), (2, (0, p2)), (3, (0, p3)), (4, (0, p4)), (5, (0, p5))], [(0, 1)], w) _
                          refine e_Ok.if1 rfl (fun h64 => ?_) (fun h64 => ?_)
                          · replace h64 : (1 : Int) ≠ 0 := h64
                            refine e_Ok.sub eAlk (e_sub_of rfl ?_) hC99
                            exact ⟨rfl, rfl, rfl, rfl, rfl, rfl, trivial⟩
                          · replace h64 : (1 : Int) = 0 := by have q : ¬ ((1 : Int) ≠ 0) := h64; omega
                            exfalso; omega
                        · show e_Ok 20 elay ecode eI (d + 1) 286 (94, [(6, (0, -p4)), (0, (1, 275)), (1, (0, p1)), (2, (0, p2)), (3, (0, p3)), (4, (0, p4)), (5, (0, p5))], [(0, 0)], w) _
                          refine e_Ok.if1 rfl (fun h65 => ?_) (fun h65 => ?_)
                          · replace h65 : (0 : Int) ≠ 0 := h65
                            exfalso; omega
                          · replace h65 : (0 : Int) = 0 := by have q : ¬ ((0 : Int) ≠ 0) := h65; omega
                            refine e_Ok.run (t' := (98, [(6, (0, -p4)), (0, (1, 275)), (1, (0, p1)), (2, (0, p2)), (3, (0, p3)), (4, (0, p4)), (5, (0, p5))], [(0, (-1))], w)) 1 rfl ?_
                            refine e_Ok.rets rfl rfl ?_
                            exact ⟨_, rfl, (e_fr.refl w), hT, trivial⟩
                      · replace h58 : (z57 : Int) = 0 := by have q : ¬ ((z57 : Int) ≠ 0) := h58; omega
                        refine e_Ok.run (t' := (91, [(6, (0, -p4)), (0, (1, 275)), (1, (0, p1)), (2, (0, p2)), (3, (0, p3)), (4, (0, p4)), (5, (0, p5))], [(0, p2), (0, p1)], w)) 2 rfl ?_
                        refine e_Ok.callS rfl (by omega) rfl rfl (c_272 (by omega)) (fun r66 w67 h68 => ?_)
                        obtain ⟨z69, rfl, rfl, q70⟩ := h68
                        obtain ⟨rfl, q70⟩ | ⟨rfl, q70⟩ := q70
                        · show e_Ok 20 elay ecode eI (d + 1) 286 (94, [(6, (0, -p4)), (0, (1, 275)), (1, (0, p1)), (2, (0, p2)), (3, (0, p3)), (4, (0, p4)), (5, (0, p5))], [(0, 1)], w) _
                          refine e_Ok.if1 rfl (fun h71 => ?_) (fun h71 => ?_)
                          · replace h71 : (1 : Int) ≠ 0 := h71
                            refine e_Ok.sub eAlk (e_sub_of rfl ?_) hC99
                            exact ⟨rfl, rfl, rfl, rfl, rfl, rfl, trivial⟩
                          · replace h71 : (1 : Int) = 0 := by have q : ¬ ((1 : Int) ≠ 0) := h71; omega
                            exfalso; omega
                        · show e_Ok 20 elay ecode eI (d + 1) 286 (94, [(6, (0, -p4)), (0, (1, 275)), (1, (0, p1)), (2, (0, p2)), (3, (0, p3)), (4, (0, p4)), (5, (0, p5))], [(0, 0)], w) _
                          refine e_Ok.if1 rfl (fun h72 => ?_) (fun h72 => ?_)
                          · replace h72 : (0 : Int) ≠ 0 := h72
                            exfalso; omega
                          · replace h72 : (0 : Int) = 0 := by have q : ¬ ((0 : Int) ≠ 0) := h72; omega
                            refine e_Ok.run (t' := (98, [(6, (0, -p4)), (0, (1, 275)), (1, (0, p1)), (2, (0, p2)), (3, (0, p3)), (4, (0, p4)), (5, (0, p5))], [(0, (-1))], w)) 1 rfl ?_
                            refine e_Ok.rets rfl rfl ?_
                            exact ⟨_, rfl, (e_fr.refl w), hT, trivial⟩
                    · replace h56 : (z55 : Int) = 0 := by have q : ¬ ((z55 : Int) ≠ 0) := h56; omega
                      refine e_Ok.run (t' := (72, [(6, (0, -p4)), (0, (1, 275)), (1, (0, p1)), (2, (0, p2)), (3, (0, p3)), (4, (0, p4)), (5, (0, p5))], [(0, -p4), (0, p1)], w)) 2 rfl ?_
                      refine e_Ok.add (z := p1 - p4) rfl (by omega) (by omega) ?_
                      refine e_Ok.run (t' := (79, [(6, (0, -p4)), (0, (1, 275)), (1, (0, p1)), (2, (0, p2)), (3, (0, p3)), (4, (0, p4)), (5, (0, p5))], [(0, 2), (0, p3), (0, p1 - p4)], w)) 3 rfl ?_
                      refine e_Ok.remn (fun z73 hz73 => ?_) rfl (by omega) (by omega)
                      replace hz73 : z73 = p3 % 2 := hz73
                      have z73r : 0 ≤ z73 ∧ z73 ≤ 1 := by omega
                      refine e_Ok.if1 rfl (fun h74 => ?_) (fun h74 => ?_)
                      · replace h74 : (z73 : Int) ≠ 0 := h74
                        refine e_Ok.run (t' := (90, [(6, (0, -p4)), (0, (1, 275)), (1, (0, p1)), (2, (0, p2)), (3, (0, p3)), (4, (0, p4)), (5, (0, p5))], [(0, -p4), (0, p2), (0, p1 - p4)], w)) 2 rfl ?_
                        refine e_Ok.add (z := p2 - p4) rfl (by omega) (by omega) ?_
                        refine e_Ok.callS rfl (by omega) rfl rfl (c_272 (by omega)) (fun r75 w76 h77 => ?_)
                        obtain ⟨z78, rfl, rfl, q79⟩ := h77
                        obtain ⟨rfl, q79⟩ | ⟨rfl, q79⟩ := q79
                        · show e_Ok 20 elay ecode eI (d + 1) 286 (94, [(6, (0, -p4)), (0, (1, 275)), (1, (0, p1)), (2, (0, p2)), (3, (0, p3)), (4, (0, p4)), (5, (0, p5))], [(0, 1)], w) _
                          refine e_Ok.if1 rfl (fun h80 => ?_) (fun h80 => ?_)
                          · replace h80 : (1 : Int) ≠ 0 := h80
                            refine e_Ok.sub eAlk (e_sub_of rfl ?_) hC99
                            exact ⟨rfl, rfl, rfl, rfl, rfl, rfl, trivial⟩
                          · replace h80 : (1 : Int) = 0 := by have q : ¬ ((1 : Int) ≠ 0) := h80; omega
                            exfalso; omega
                        · show e_Ok 20 elay ecode eI (d + 1) 286 (94, [(6, (0, -p4)), (0, (1, 275)), (1, (0, p1)), (2, (0, p2)), (3, (0, p3)), (4, (0, p4)), (5, (0, p5))], [(0, 0)], w) _
                          refine e_Ok.if1 rfl (fun h81 => ?_) (fun h81 => ?_)
                          · replace h81 : (0 : Int) ≠ 0 := h81
                            exfalso; omega
                          · replace h81 : (0 : Int) = 0 := by have q : ¬ ((0 : Int) ≠ 0) := h81; omega
                            refine e_Ok.run (t' := (98, [(6, (0, -p4)), (0, (1, 275)), (1, (0, p1)), (2, (0, p2)), (3, (0, p3)), (4, (0, p4)), (5, (0, p5))], [(0, (-1))], w)) 1 rfl ?_
                            refine e_Ok.rets rfl rfl ?_
                            exact ⟨_, rfl, (e_fr.refl w), hT, trivial⟩
                      · replace h74 : (z73 : Int) = 0 := by have q : ¬ ((z73 : Int) ≠ 0) := h74; omega
                        refine e_Ok.run (t' := (91, [(6, (0, -p4)), (0, (1, 275)), (1, (0, p1)), (2, (0, p2)), (3, (0, p3)), (4, (0, p4)), (5, (0, p5))], [(0, p2), (0, p1 - p4)], w)) 2 rfl ?_
                        refine e_Ok.callS rfl (by omega) rfl rfl (c_272 (by omega)) (fun r82 w83 h84 => ?_)
                        obtain ⟨z85, rfl, rfl, q86⟩ := h84
                        obtain ⟨rfl, q86⟩ | ⟨rfl, q86⟩ := q86
                        · show e_Ok 20 elay ecode eI (d + 1) 286 (94, [(6, (0, -p4)), (0, (1, 275)), (1, (0, p1)), (2, (0, p2)), (3, (0, p3)), (4, (0, p4)), (5, (0, p5))], [(0, 1)], w) _
                          refine e_Ok.if1 rfl (fun h87 => ?_) (fun h87 => ?_)
                          · replace h87 : (1 : Int) ≠ 0 := h87
                            refine e_Ok.sub eAlk (e_sub_of rfl ?_) hC99
                            exact ⟨rfl, rfl, rfl, rfl, rfl, rfl, trivial⟩
                          · replace h87 : (1 : Int) = 0 := by have q : ¬ ((1 : Int) ≠ 0) := h87; omega
                            exfalso; omega
                        · show e_Ok 20 elay ecode eI (d + 1) 286 (94, [(6, (0, -p4)), (0, (1, 275)), (1, (0, p1)), (2, (0, p2)), (3, (0, p3)), (4, (0, p4)), (5, (0, p5))], [(0, 0)], w) _
                          refine e_Ok.if1 rfl (fun h88 => ?_) (fun h88 => ?_)
                          · replace h88 : (0 : Int) ≠ 0 := h88
                            exfalso; omega
                          · replace h88 : (0 : Int) = 0 := by have q : ¬ ((0 : Int) ≠ 0) := h88; omega
                            refine e_Ok.run (t' := (98, [(6, (0, -p4)), (0, (1, 275)), (1, (0, p1)), (2, (0, p2)), (3, (0, p3)), (4, (0, p4)), (5, (0, p5))], [(0, (-1))], w)) 1 rfl ?_
                            refine e_Ok.rets rfl rfl ?_
                            exact ⟨_, rfl, (e_fr.refl w), hT, trivial⟩
                  · replace h54 : (p3 : Int) < 2 := by have q : ¬ ((p3 : Int) ≥ 2) := h54; omega
                    refine e_Ok.run (t' := (65, [(6, (0, p4)), (0, (1, 275)), (1, (0, p1)), (2, (0, p2)), (3, (0, p3)), (4, (0, p4)), (5, (0, p5))], [(0, 2), (0, p3)], w)) 5 rfl ?_
                    refine e_Ok.remn (fun z89 hz89 => ?_) rfl (by omega) (by omega)
                    replace hz89 : z89 = p3 % 2 := hz89
                    have z89r : 0 ≤ z89 ∧ z89 ≤ 1 := by omega
                    refine e_Ok.if1 rfl (fun h90 => ?_) (fun h90 => ?_)
                    · replace h90 : (z89 : Int) ≠ 0 := h90
                      refine e_Ok.run (t' := (79, [(6, (0, p4)), (0, (1, 275)), (1, (0, p1)), (2, (0, p2)), (3, (0, p3)), (4, (0, p4)), (5, (0, p5))], [(0, 2), (0, p3), (0, p1)], w)) 3 rfl ?_
                      refine e_Ok.remn (fun z91 hz91 => ?_) rfl (by omega) (by omega)
                      replace hz91 : z91 = p3 % 2 := hz91
                      have z91r : 0 ≤ z91 ∧ z91 ≤ 1 := by omega
                      refine e_Ok.if1 rfl (fun h92 => ?_) (fun h92 => ?_)
                      · replace h92 : (z91 : Int) ≠ 0 := h92
                        refine e_Ok.run (t' := (90, [(6, (0, p4)), (0, (1, 275)), (1, (0, p1)), (2, (0, p2)), (3, (0, p3)), (4, (0, p4)), (5, (0, p5))], [(0, p4), (0, p2), (0, p1)], w)) 2 rfl ?_
                        refine e_Ok.add (z := p2 + p4) rfl (by omega) (by omega) ?_
                        refine e_Ok.callS rfl (by omega) rfl rfl (c_272 (by omega)) (fun r93 w94 h95 => ?_)
                        obtain ⟨z101, rfl, rfl, q103⟩ := h95
                        obtain ⟨rfl, q103⟩ | ⟨rfl, q103⟩ := q103
                        · show e_Ok 20 elay ecode eI (d + 1) 286 (94, [(6, (0, p4)), (0, (1, 275)), (1, (0, p1)), (2, (0, p2)), (3, (0, p3)), (4, (0, p4)), (5, (0, p5))], [(0, 1)], w) _
                          refine e_Ok.if1 rfl (fun h104 => ?_) (fun h104 => ?_)
                          · replace h104 : (1 : Int) ≠ 0 := h104
                            refine e_Ok.sub eAlk (e_sub_of rfl ?_) hC99
                            exact ⟨rfl, rfl, rfl, rfl, rfl, rfl, trivial⟩
                          · replace h104 : (1 : Int) = 0 := by have q : ¬ ((1 : Int) ≠ 0) := h104; omega
                            exfalso; omega
                        · show e_Ok 20 elay ecode eI (d + 1) 286 (94, [(6, (0, p4)), (0, (1, 275)), (1, (0, p1)), (2, (0, p2)), (3, (0, p3)), (4, (0, p4)), (5, (0, p5))], [(0, 0)], w) _
                          refine e_Ok.if1 rfl (fun h105 => ?_) (fun h105 => ?_)
                          · replace h105 : (0 : Int) ≠ 0 := h105
                            exfalso; omega
                          · replace h105 : (0 : Int) = 0 := by have q : ¬ ((0 : Int) ≠ 0) := h105; omega
                            refine e_Ok.run (t' := (98, [(6, (0, p4)), (0, (1, 275)), (1, (0, p1)), (2, (0, p2)), (3, (0, p3)), (4, (0, p4)), (5, (0, p5))], [(0, (-1))], w)) 1 rfl ?_
                            refine e_Ok.rets rfl rfl ?_
                            exact ⟨_, rfl, (e_fr.refl w), hT, trivial⟩
                      · replace h92 : (z91 : Int) = 0 := by have q : ¬ ((z91 : Int) ≠ 0) := h92; omega
                        refine e_Ok.run (t' := (91, [(6, (0, p4)), (0, (1, 275)), (1, (0, p1)), (2, (0, p2)), (3, (0, p3)), (4, (0, p4)), (5, (0, p5))], [(0, p2), (0, p1)], w)) 2 rfl ?_
                        refine e_Ok.callS rfl (by omega) rfl rfl (c_272 (by omega)) (fun r106 w107 h108 => ?_)
                        obtain ⟨z109, rfl, rfl, q110⟩ := h108
                        obtain ⟨rfl, q110⟩ | ⟨rfl, q110⟩ := q110
                        · show e_Ok 20 elay ecode eI (d + 1) 286 (94, [(6, (0, p4)), (0, (1, 275)), (1, (0, p1)), (2, (0, p2)), (3, (0, p3)), (4, (0, p4)), (5, (0, p5))], [(0, 1)], w) _
                          refine e_Ok.if1 rfl (fun h111 => ?_) (fun h111 => ?_)
                          · replace h111 : (1 : Int) ≠ 0 := h111
                            refine e_Ok.sub eAlk (e_sub_of rfl ?_) hC99
                            exact ⟨rfl, rfl, rfl, rfl, rfl, rfl, trivial⟩
                          · replace h111 : (1 : Int) = 0 := by have q : ¬ ((1 : Int) ≠ 0) := h111; omega
                            exfalso; omega
                        · show e_Ok 20 elay ecode eI (d + 1) 286 (94, [(6, (0, p4)), (0, (1, 275)), (1, (0, p1)), (2, (0, p2)), (3, (0, p3)), (4, (0, p4)), (5, (0, p5))], [(0, 0)], w) _
                          refine e_Ok.if1 rfl (fun h112 => ?_) (fun h112 => ?_)
                          · replace h112 : (0 : Int) ≠ 0 := h112
                            exfalso; omega
                          · replace h112 : (0 : Int) = 0 := by have q : ¬ ((0 : Int) ≠ 0) := h112; omega
                            refine e_Ok.run (t' := (98, [(6, (0, p4)), (0, (1, 275)), (1, (0, p1)), (2, (0, p2)), (3, (0, p3)), (4, (0, p4)), (5, (0, p5))], [(0, (-1))], w)) 1 rfl ?_
                            refine e_Ok.rets rfl rfl ?_
                            exact ⟨_, rfl, (e_fr.refl w), hT, trivial⟩
                    · replace h90 : (z89 : Int) = 0 := by have q : ¬ ((z89 : Int) ≠ 0) := h90; omega
                      refine e_Ok.run (t' := (72, [(6, (0, p4)), (0, (1, 275)), (1, (0, p1)), (2, (0, p2)), (3, (0, p3)), (4, (0, p4)), (5, (0, p5))], [(0, p4), (0, p1)], w)) 2 rfl ?_
                      refine e_Ok.add (z := p1 + p4) rfl (by omega) (by omega) ?_
                      refine e_Ok.run (t' := (79, [(6, (0, p4)), (0, (1, 275)), (1, (0, p1)), (2, (0, p2)), (3, (0, p3)), (4, (0, p4)), (5, (0, p5))], [(0, 2), (0, p3), (0, p1 + p4)], w)) 3 rfl ?_
                      refine e_Ok.remn (fun z113 hz113 => ?_) rfl (by omega) (by omega)
                      replace hz113 : z113 = p3 % 2 := hz113
                      have z113r : 0 ≤ z113 ∧ z113 ≤ 1 := by omega
                      refine e_Ok.if1 rfl (fun h114 => ?_) (fun h114 => ?_)
                      · replace h114 : (z113 : Int) ≠ 0 := h114
                        refine e_Ok.run (t' := (90, [(6, (0, p4)), (0, (1, 275)), (1, (0, p1)), (2, (0, p2)), (3, (0, p3)), (4, (0, p4)), (5, (0, p5))], [(0, p4), (0, p2), (0, p1 + p4)], w)) 2 rfl ?_
                        refine e_Ok.add (z := p2 + p4) rfl (by omega) (by omega) ?_
                        refine e_Ok.callS rfl (by omega) rfl rfl (c_272 (by omega)) (fun r115 w116 h117 => ?_)
                        obtain ⟨z118, rfl, rfl, q119⟩ := h117
                        obtain ⟨rfl, q119⟩ | ⟨rfl, q119⟩ := q119
                        · show e_Ok 20 elay ecode eI (d + 1) 286 (94, [(6, (0, p4)), (0, (1, 275)), (1, (0, p1)), (2, (0, p2)), (3, (0, p3)), (4, (0, p4)), (5, (0, p5))], [(0, 1)], w) _
                          refine e_Ok.if1 rfl (fun h120 => ?_) (fun h120 => ?_)
                          · replace h120 : (1 : Int) ≠ 0 := h120
                            refine e_Ok.sub eAlk (e_sub_of rfl ?_) hC99
                            exact ⟨rfl, rfl, rfl, rfl, rfl, rfl, trivial⟩
                          · replace h120 : (1 : Int) = 0 := by have q : ¬ ((1 : Int) ≠ 0) := h120; omega
                            exfalso; omega
                        · show e_Ok 20 elay ecode eI (d + 1) 286 (94, [(6, (0, p4)), (0, (1, 275)), (1, (0, p1)), (2, (0, p2)), (3, (0, p3)), (4, (0, p4)), (5, (0, p5))], [(0, 0)], w) _
                          refine e_Ok.if1 rfl (fun h121 => ?_) (fun h121 => ?_)
                          · replace h121 : (0 : Int) ≠ 0 := h121
                            exfalso; omega
                          · replace h121 : (0 : Int) = 0 := by have q : ¬ ((0 : Int) ≠ 0) := h121; omega
                            refine e_Ok.run (t' := (98, [(6, (0, p4)), (0, (1, 275)), (1, (0, p1)), (2, (0, p2)), (3, (0, p3)), (4, (0, p4)), (5, (0, p5))], [(0, (-1))], w)) 1 rfl ?_
                            refine e_Ok.rets rfl rfl ?_
                            exact ⟨_, rfl, (e_fr.refl w), hT, trivial⟩
                      · replace h114 : (z113 : Int) = 0 := by have q : ¬ ((z113 : Int) ≠ 0) := h114; omega
                        refine e_Ok.run (t' := (91, [(6, (0, p4)), (0, (1, 275)), (1, (0, p1)), (2, (0, p2)), (3, (0, p3)), (4, (0, p4)), (5, (0, p5))], [(0, p2), (0, p1 + p4)], w)) 2 rfl ?_
                        refine e_Ok.callS rfl (by omega) rfl rfl (c_272 (by omega)) (fun r122 w123 h124 => ?_)
                        obtain ⟨z125, rfl, rfl, q126⟩ := h124
                        obtain ⟨rfl, q126⟩ | ⟨rfl, q126⟩ := q126
                        · show e_Ok 20 elay ecode eI (d + 1) 286 (94, [(6, (0, p4)), (0, (1, 275)), (1, (0, p1)), (2, (0, p2)), (3, (0, p3)), (4, (0, p4)), (5, (0, p5))], [(0, 1)], w) _
                          refine e_Ok.if1 rfl (fun h127 => ?_) (fun h127 => ?_)
                          · replace h127 : (1 : Int) ≠ 0 := h127
                            refine e_Ok.sub eAlk (e_sub_of rfl ?_) hC99
                            exact ⟨rfl, rfl, rfl, rfl, rfl, rfl, trivial⟩
                          · replace h127 : (1 : Int) = 0 := by have q : ¬ ((1 : Int) ≠ 0) := h127; omega
                            exfalso; omega
                        · show e_Ok 20 elay ecode eI (d + 1) 286 (94, [(6, (0, p4)), (0, (1, 275)), (1, (0, p1)), (2, (0, p2)), (3, (0, p3)), (4, (0, p4)), (5, (0, p5))], [(0, 0)], w) _
                          refine e_Ok.if1 rfl (fun h128 => ?_) (fun h128 => ?_)
                          · replace h128 : (0 : Int) ≠ 0 := h128
                            exfalso; omega
                          · replace h128 : (0 : Int) = 0 := by have q : ¬ ((0 : Int) ≠ 0) := h128; omega
                            refine e_Ok.run (t' := (98, [(6, (0, p4)), (0, (1, 275)), (1, (0, p1)), (2, (0, p2)), (3, (0, p3)), (4, (0, p4)), (5, (0, p5))], [(0, (-1))], w)) 1 rfl ?_
                            refine e_Ok.rets rfl rfl ?_
                            exact ⟨_, rfl, (e_fr.refl w), hT, trivial⟩
                · replace h24 : (1 : Int) = 0 := by have q : ¬ ((1 : Int) ≠ 0) := h24; omega
                  exfalso; omega
              · show e_Ok 20 elay ecode eI (d + 1) 286 (43, [(0, (1, 275)), (1, (0, p1)), (2, (0, p2)), (3, (0, p3)), (4, (0, p4)), (5, (0, p5))], [(0, 0)], w) _
                refine e_Ok.if1 rfl (fun h129 => ?_) (fun h129 => ?_)
                · replace h129 : (0 : Int) ≠ 0 := h129
                  exfalso; omega
                · replace h129 : (0 : Int) = 0 := by have q : ¬ ((0 : Int) ≠ 0) := h129; omega
                  refine e_Ok.run (t' := (47, [(0, (1, 275)), (1, (0, p1)), (2, (0, p2)), (3, (0, p3)), (4, (0, p4)), (5, (0, p5))], [(0, (-1))], w)) 1 rfl ?_
                  refine e_Ok.rets rfl rfl ?_
                  exact ⟨_, rfl, (e_fr.refl w), hT, trivial⟩
          · show e_Ok 20 elay ecode eI (d + 1) 286 (30, [(0, (1, 275)), (1, (0, p1)), (2, (0, p2)), (3, (0, p3)), (4, (0, p4)), (5, (0, p5))], [(0, 0)], w) _
            refine e_Ok.if1 rfl (fun h130 => ?_) (fun h130 => ?_)
            · replace h130 : (0 : Int) = 0 := h130
              refine e_Ok.run (t' := (47, [(0, (1, 275)), (1, (0, p1)), (2, (0, p2)), (3, (0, p3)), (4, (0, p4)), (5, (0, p5))], [(0, (-1))], w)) 1 rfl ?_
              refine e_Ok.rets rfl rfl ?_
              exact ⟨_, rfl, (e_fr.refl w), hT, trivial⟩
            · replace h130 : (0 : Int) ≠ 0 := by have q : ¬ ((0 : Int) = 0) := h130; omega
              exfalso; omega
      · show e_Ok 20 elay ecode eI (d + 1) 286 (17, [(0, (1, 275)), (1, (0, p1)), (2, (0, p2)), (3, (0, p3)), (4, (0, p4)), (5, (0, p5))], [(0, 0)], w) _
        refine e_Ok.if1 rfl (fun h131 => ?_) (fun h131 => ?_)
        · replace h131 : (0 : Int) = 0 := h131
          refine e_Ok.run (t' := (47, [(0, (1, 275)), (1, (0, p1)), (2, (0, p2)), (3, (0, p3)), (4, (0, p4)), (5, (0, p5))], [(0, (-1))], w)) 1 rfl ?_
          refine e_Ok.rets rfl rfl ?_
          exact ⟨_, rfl, (e_fr.refl w), hT, trivial⟩
        · replace h131 : (0 : Int) ≠ 0 := by have q : ¬ ((0 : Int) = 0) := h131; omega
          exfalso; omega
  · show e_Ok 20 elay ecode eI (d + 1) 286 (5, [(0, (1, 275)), (1, (0, p1)), (2, (0, p2)), (3, (0, p3)), (4, (0, p4)), (5, (0, p5))], [(0, 0)], w) _
    refine e_Ok.if1 rfl (fun h132 => ?_) (fun h132 => ?_)
    · replace h132 : (0 : Int) = 0 := h132
      refine e_Ok.run (t' := (47, [(0, (1, 275)), (1, (0, p1)), (2, (0, p2)), (3, (0, p3)), (4, (0, p4)), (5, (0, p5))], [(0, (-1))], w)) 1 rfl ?_
      refine e_Ok.rets rfl rfl ?_
      exact ⟨_, rfl, (e_fr.refl w), hT, trivial⟩
    · replace h132 : (0 : Int) ≠ 0 := by have q : ¬ ((0 : Int) = 0) := h132; omega
      exfalso; omega
theorem c_287 {d : Nat} (hd : 23 ≤ d) {w : eW} (hT : e_Has mTy w) {p1 p2 : Int} (g1 : (-2147483648) ≤ p1 ∧ p1 ≤ 2147483647) (g2 : (-2147483648) ≤ p2 ∧ p2 ≤ 2147483647) : e_Ok 20 elay ecode eI d 287 (0, [(0, (1, 275)), (1, (0, p1)), (2, (0, p2))], [], w) (fun r w' => ∃ z : Int, r = [(0, z)] ∧ e_fr (mF (-1) 304 304) w w' ∧ e_Has mTy w' ∧ True) := by
  obtain ⟨d, rfl⟩ : ∃ e, d = e + 1 := ⟨d - 1, by omega⟩
  refine e_Ok.run (t' := (4, [(0, (1, 275)), (1, (0, p1)), (2, (0, p2))], [(1, 275), (4, 0), (4, p1)], w)) 4 rfl ?_
  have h1 := (e_Has.get hT (c := 275) (k := 30) (lo := 0) (hi := 4) rfl (by decide))
  refine e_Ok.getf (z := w 275 30) rfl (el_o rfl) rfl rfl rfl (by omega) ?_
  refine e_Ok.run (t' := (8, [(0, (1, 275)), (1, (0, p1)), (2, (0, p2))], [(0, 1), (0, w 275 30), (4, 0), (4, p1)], w)) 1 rfl ?_
  refine e_Ok.sub' (z := w 275 30 - 1) rfl (by omega) (by omega) ?_
  refine e_Ok.run (t' := (10, [(0, (1, 275)), (1, (0, p1)), (2, (0, p2))], [(4, w 275 30 - 1), (4, 0), (4, p1)], w)) 1 rfl ?_
  refine e_Ok.callS rfl (by omega) rfl rfl (c_266) (fun r2 w3 h4 => ?_)
  obtain ⟨z5, rfl, rfl, q6⟩ := h4
  obtain ⟨rfl, q6⟩ | ⟨rfl, q6⟩ := q6
  · show e_Ok 20 elay ecode eI (d + 1) 287 (13, [(0, (1, 275)), (1, (0, p1)), (2, (0, p2))], [(0, 1)], w) _
    refine e_Ok.if1 rfl (fun h7 => ?_) (fun h7 => ?_)
    · replace h7 : (1 : Int) = 0 := h7
      exfalso; omega
    · replace h7 : (1 : Int) ≠ 0 := by have q : ¬ ((1 : Int) = 0) := h7; omega
      refine e_Ok.run (t' := (22, [(0, (1, 275)), (1, (0, p1)), (2, (0, p2))], [(4, 100), (4, 0), (4, p2)], w)) 4 rfl ?_
      refine e_Ok.callS rfl (by omega) rfl rfl (c_266) (fun r8 w9 h10 => ?_)
      obtain ⟨z11, rfl, rfl, q12⟩ := h10
      obtain ⟨rfl, q12⟩ | ⟨rfl, q12⟩ := q12
      · show e_Ok 20 elay ecode eI (d + 1) 287 (25, [(0, (1, 275)), (1, (0, p1)), (2, (0, p2))], [(0, 1)], w) _
        refine e_Ok.if1 rfl (fun h13 => ?_) (fun h13 => ?_)
        · replace h13 : (1 : Int) ≠ 0 := h13
          refine e_Ok.run (t' := (31, [(0, (1, 275)), (1, (0, p1)), (2, (0, p2))], [(1, 275)], w)) 1 rfl ?_
          have h14 := (e_Has.get hT (c := 275) (k := 3) (lo := 0) (hi := 1) rfl (by decide))
          refine e_Ok.getf (z := w 275 3) rfl (el_o rfl) rfl rfl rfl (by omega) ?_
          refine e_Ok.if1 rfl (fun h15 => ?_) (fun h15 => ?_)
          · replace h15 : (w 275 3 : Int) = 0 := h15
            refine e_Ok.run (t' := (41, [(0, (1, 275)), (1, (0, p1)), (2, (0, p2))], [(1, 275)], w)) 1 rfl ?_
            refine e_Ok.getr (z := 304) rfl (el_o rfl) rfl rfl (e_Has.eq hT rfl) (by omega) ?_
            refine e_Ok.run (t' := (45, [(0, (1, 275)), (1, (0, p1)), (2, (0, p2))], [(0, p1), (1, 304)], w)) 1 rfl ?_
            have h16 := (e_Has.get hT (c := 304) (k := p1) (lo := 0) (hi := 100) rfl (by decide))
            refine e_Ok.ald (z := w 304 p1) rfl (el_o rfl) rfl (by omega) rfl (by omega) ?_
            refine e_Ok.run (t' := (48, [(3, (0, w 304 p1)), (0, (1, 275)), (1, (0, p1)), (2, (0, p2))], [(1, 275)], w)) 2 rfl ?_
            refine e_Ok.getr (z := 304) rfl (el_o rfl) rfl rfl (e_Has.eq hT rfl) (by omega) ?_
            refine e_Ok.run (t' := (53, [(3, (0, w 304 p1)), (0, (1, 275)), (1, (0, p1)), (2, (0, p2))], [(0, p2), (0, p1), (1, 304)], w)) 2 rfl ?_
            refine e_Ok.ast rfl (el_o rfl) rfl rfl (by omega) ?_
            generalize hw17 : e_up w 304 p1 p2 = w17
            have f18 : e_fr (mF (-1) 304 304) w w17 := e_fr.up (e_fr.refl w) hw17 (by unfold mF; omega)
            have hT19 : e_Has mTy w17 := e_Has.upr hT hw17 rfl (by omega)
            refine e_Ok.run (t' := (55, [(3, (0, w 304 p1)), (0, (1, 275)), (1, (0, p1)), (2, (0, p2))], [(0, w 304 p1)], w17)) 1 rfl ?_
            refine e_Ok.rets rfl rfl ?_
            exact ⟨_, rfl, f18, hT19, trivial⟩
          · replace h15 : (w 275 3 : Int) ≠ 0 := by have q : ¬ ((w 275 3 : Int) = 0) := h15; omega
            refine e_Ok.run (t' := (39, [(0, (1, 275)), (1, (0, p1)), (2, (0, p2))], [(0, (-2))], w)) 1 rfl ?_
            refine e_Ok.rets rfl rfl ?_
            exact ⟨_, rfl, (e_fr.refl w), hT, trivial⟩
        · replace h13 : (1 : Int) = 0 := by have q : ¬ ((1 : Int) ≠ 0) := h13; omega
          exfalso; omega
      · show e_Ok 20 elay ecode eI (d + 1) 287 (25, [(0, (1, 275)), (1, (0, p1)), (2, (0, p2))], [(0, 0)], w) _
        refine e_Ok.if1 rfl (fun h20 => ?_) (fun h20 => ?_)
        · replace h20 : (0 : Int) ≠ 0 := h20
          exfalso; omega
        · replace h20 : (0 : Int) = 0 := by have q : ¬ ((0 : Int) ≠ 0) := h20; omega
          refine e_Ok.run (t' := (29, [(0, (1, 275)), (1, (0, p1)), (2, (0, p2))], [(0, (-1))], w)) 1 rfl ?_
          refine e_Ok.rets rfl rfl ?_
          exact ⟨_, rfl, (e_fr.refl w), hT, trivial⟩
  · show e_Ok 20 elay ecode eI (d + 1) 287 (13, [(0, (1, 275)), (1, (0, p1)), (2, (0, p2))], [(0, 0)], w) _
    refine e_Ok.if1 rfl (fun h21 => ?_) (fun h21 => ?_)
    · replace h21 : (0 : Int) = 0 := h21
      refine e_Ok.run (t' := (29, [(0, (1, 275)), (1, (0, p1)), (2, (0, p2))], [(0, (-1))], w)) 1 rfl ?_
      refine e_Ok.rets rfl rfl ?_
      exact ⟨_, rfl, (e_fr.refl w), hT, trivial⟩
    · replace h21 : (0 : Int) ≠ 0 := by have q : ¬ ((0 : Int) = 0) := h21; omega
      exfalso; omega
theorem c_288 {d : Nat} (hd : 23 ≤ d) {w : eW} (hT : e_Has mTy w) {p1 p2 p3 p4 : Int} (g1 : (-2147483648) ≤ p1 ∧ p1 ≤ 2147483647) (g2 : (-2147483648) ≤ p2 ∧ p2 ≤ 2147483647) (g3 : (-2147483648) ≤ p3 ∧ p3 ≤ 2147483647) (g4 : (-2147483648) ≤ p4 ∧ p4 ≤ 2147483647) : e_Ok 20 elay ecode eI d 288 (0, [(0, (1, 275)), (1, (0, p1)), (2, (0, p2)), (3, (0, p3)), (4, (0, p4))], [], w) (fun r w' => ∃ z : Int, r = [(0, z)] ∧ e_fr (mF (-1) 306 308) w w' ∧ e_Has mTy w' ∧ True) := by
  obtain ⟨d, rfl⟩ : ∃ e, d = e + 1 := ⟨d - 1, by omega⟩
  refine e_Ok.run (t' := (4, [(0, (1, 275)), (1, (0, p1)), (2, (0, p2)), (3, (0, p3)), (4, (0, p4))], [(1, 275), (4, 0), (4, p1)], w)) 4 rfl ?_
  have h1 := (e_Has.get hT (c := 275) (k := 30) (lo := 0) (hi := 4) rfl (by decide))
  refine e_Ok.getf (z := w 275 30) rfl (el_o rfl) rfl rfl rfl (by omega) ?_
  refine e_Ok.run (t' := (8, [(0, (1, 275)), (1, (0, p1)), (2, (0, p2)), (3, (0, p3)), (4, (0, p4))], [(0, 1), (0, w 275 30), (4, 0), (4, p1)], w)) 1 rfl ?_
  refine e_Ok.sub' (z := w 275 30 - 1) rfl (by omega) (by omega) ?_
  refine e_Ok.run (t' := (10, [(0, (1, 275)), (1, (0, p1)), (2, (0, p2)), (3, (0, p3)), (4, (0, p4))], [(4, w 275 30 - 1), (4, 0), (4, p1)], w)) 1 rfl ?_
  refine e_Ok.callS rfl (by omega) rfl rfl (c_266) (fun r2 w3 h4 => ?_)
  obtain ⟨z5, rfl, rfl, q6⟩ := h4
  obtain ⟨rfl, q6⟩ | ⟨rfl, q6⟩ := q6
  · show e_Ok 20 elay ecode eI (d + 1) 288 (13, [(0, (1, 275)), (1, (0, p1)), (2, (0, p2)), (3, (0, p3)), (4, (0, p4))], [(0, 1)], w) _
    refine e_Ok.if1 rfl (fun h7 => ?_) (fun h7 => ?_)
    · replace h7 : (1 : Int) = 0 := h7
      exfalso; omega
    · replace h7 : (1 : Int) ≠ 0 := by have q : ¬ ((1 : Int) = 0) := h7; omega
      refine e_Ok.run (t' := (22, [(0, (1, 275)), (1, (0, p1)), (2, (0, p2)), (3, (0, p3)), (4, (0, p4))], [(4, 63), (4, 0), (4, p2)], w)) 4 rfl ?_
      refine e_Ok.callS rfl (by omega) rfl rfl (c_266) (fun r8 w9 h10 => ?_)
      obtain ⟨z11, rfl, rfl, q12⟩ := h10
      obtain ⟨rfl, q12⟩ | ⟨rfl, q12⟩ := q12
      · show e_Ok 20 elay ecode eI (d + 1) 288 (25, [(0, (1, 275)), (1, (0, p1)), (2, (0, p2)), (3, (0, p3)), (4, (0, p4))], [(0, 1)], w) _
        refine e_Ok.if1 rfl (fun h13 => ?_) (fun h13 => ?_)
        · replace h13 : (1 : Int) = 0 := h13
          exfalso; omega
        · replace h13 : (1 : Int) ≠ 0 := by have q : ¬ ((1 : Int) = 0) := h13; omega
          refine e_Ok.run (t' := (29, [(0, (1, 275)), (1, (0, p1)), (2, (0, p2)), (3, (0, p3)), (4, (0, p4))], [(0, p3)], w)) 1 rfl ?_
          refine e_Ok.if1 rfl (fun h14 => ?_) (fun h14 => ?_)
          · replace h14 : (p3 : Int) < 0 := h14
            refine e_Ok.run (t' := (39, [(0, (1, 275)), (1, (0, p1)), (2, (0, p2)), (3, (0, p3)), (4, (0, p4))], [(0, (-1))], w)) 1 rfl ?_
            refine e_Ok.rets rfl rfl ?_
            exact ⟨_, rfl, (e_fr.refl w), hT, trivial⟩
          · replace h14 : (p3 : Int) ≥ 0 := by have q : ¬ ((p3 : Int) < 0) := h14; omega
            refine e_Ok.run (t' := (35, [(0, (1, 275)), (1, (0, p1)), (2, (0, p2)), (3, (0, p3)), (4, (0, p4))], [(0, p3), (0, p4)], w)) 2 rfl ?_
            refine e_Ok.if2 rfl (fun h15 => ?_) (fun h15 => ?_)
            · replace h15 : (p4 : Int) ≥ p3 := h15
              refine e_Ok.run (t' := (41, [(0, (1, 275)), (1, (0, p1)), (2, (0, p2)), (3, (0, p3)), (4, (0, p4))], [(1, 275)], w)) 1 rfl ?_
              have h16 := (e_Has.get hT (c := 275) (k := 3) (lo := 0) (hi := 1) rfl (by decide))
              refine e_Ok.getf (z := w 275 3) rfl (el_o rfl) rfl rfl rfl (by omega) ?_
              refine e_Ok.if1 rfl (fun h17 => ?_) (fun h17 => ?_)
              · replace h17 : (w 275 3 : Int) = 0 := h17
                refine e_Ok.run (t' := (51, [(0, (1, 275)), (1, (0, p1)), (2, (0, p2)), (3, (0, p3)), (4, (0, p4))], [(1, 275)], w)) 1 rfl ?_
                refine e_Ok.getr (z := 306) rfl (el_o rfl) rfl rfl (e_Has.eq hT rfl) (by omega) ?_
                refine e_Ok.run (t' := (56, [(0, (1, 275)), (1, (0, p1)), (2, (0, p2)), (3, (0, p3)), (4, (0, p4))], [(0, p2), (0, p1), (1, 306)], w)) 2 rfl ?_
                refine e_Ok.ast rfl (el_o rfl) rfl rfl (by omega) ?_
                generalize hw18 : e_up w 306 p1 p2 = w18
                have f19 : e_fr (mF (-1) 306 308) w w18 := e_fr.up (e_fr.refl w) hw18 (by unfold mF; omega)
                have hT20 : e_Has mTy w18 := e_Has.upr hT hw18 rfl (by omega)
                refine e_Ok.run (t' := (58, [(0, (1, 275)), (1, (0, p1)), (2, (0, p2)), (3, (0, p3)), (4, (0, p4))], [(1, 275)], w18)) 1 rfl ?_
                refine e_Ok.getr (z := 307) rfl (el_o rfl) rfl rfl (by rw [← hw18]; exact (e_up_ne _ _ (Or.inl (by omega))).trans (e_Has.eq hT rfl)) (by omega) ?_
                refine e_Ok.run (t' := (63, [(0, (1, 275)), (1, (0, p1)), (2, (0, p2)), (3, (0, p3)), (4, (0, p4))], [(0, p3), (0, p1), (1, 307)], w18)) 2 rfl ?_
                refine e_Ok.ast rfl (el_o rfl) rfl rfl (by omega) ?_
                generalize hw21 : e_up w18 307 p1 p3 = w21
                have f22 : e_fr (mF (-1) 306 308) w w21 := e_fr.up f19 hw21 (by unfold mF; omega)
                have hT23 : e_Has mTy w21 := e_Has.upr hT20 hw21 rfl (by omega)
                refine e_Ok.run (t' := (65, [(0, (1, 275)), (1, (0, p1)), (2, (0, p2)), (3, (0, p3)), (4, (0, p4))], [(1, 275)], w21)) 1 rfl ?_
                refine e_Ok.getr (z := 308) rfl (el_o rfl) rfl rfl (by rw [← hw21]; exact (e_up_ne _ _ (Or.inl (by omega))).trans (by rw [← hw18]; exact (e_up_ne _ _ (Or.inl (by omega))).trans (e_Has.eq hT rfl))) (by omega) ?_
                refine e_Ok.run (t' := (71, [(0, (1, 275)), (1, (0, p1)), (2, (0, p2)), (3, (0, p3)), (4, (0, p4))], [(0, p4), (0, p1), (1, 308)], w21)) 2 rfl ?_
                refine e_Ok.ast rfl (el_o rfl) rfl rfl (by omega) ?_
                generalize hw24 : e_up w21 308 p1 p4 = w24
                have f25 : e_fr (mF (-1) 306 308) w w24 := e_fr.up f22 hw24 (by unfold mF; omega)
                have hT26 : e_Has mTy w24 := e_Has.upr hT23 hw24 rfl (by omega)
                refine e_Ok.run (t' := (73, [(0, (1, 275)), (1, (0, p1)), (2, (0, p2)), (3, (0, p3)), (4, (0, p4))], [(0, 0)], w24)) 1 rfl ?_
                refine e_Ok.rets rfl rfl ?_
                exact ⟨_, rfl, f25, hT26, trivial⟩
              · replace h17 : (w 275 3 : Int) ≠ 0 := by have q : ¬ ((w 275 3 : Int) = 0) := h17; omega
                refine e_Ok.run (t' := (49, [(0, (1, 275)), (1, (0, p1)), (2, (0, p2)), (3, (0, p3)), (4, (0, p4))], [(0, (-2))], w)) 1 rfl ?_
                refine e_Ok.rets rfl rfl ?_
                exact ⟨_, rfl, (e_fr.refl w), hT, trivial⟩
            · replace h15 : (p4 : Int) < p3 := by have q : ¬ ((p4 : Int) ≥ p3) := h15; omega
              refine e_Ok.run (t' := (39, [(0, (1, 275)), (1, (0, p1)), (2, (0, p2)), (3, (0, p3)), (4, (0, p4))], [(0, (-1))], w)) 1 rfl ?_
              refine e_Ok.rets rfl rfl ?_
              exact ⟨_, rfl, (e_fr.refl w), hT, trivial⟩
      · show e_Ok 20 elay ecode eI (d + 1) 288 (25, [(0, (1, 275)), (1, (0, p1)), (2, (0, p2)), (3, (0, p3)), (4, (0, p4))], [(0, 0)], w) _
        refine e_Ok.if1 rfl (fun h27 => ?_) (fun h27 => ?_)
        · replace h27 : (0 : Int) = 0 := h27
          refine e_Ok.run (t' := (39, [(0, (1, 275)), (1, (0, p1)), (2, (0, p2)), (3, (0, p3)), (4, (0, p4))], [(0, (-1))], w)) 1 rfl ?_
          refine e_Ok.rets rfl rfl ?_
          exact ⟨_, rfl, (e_fr.refl w), hT, trivial⟩
        · replace h27 : (0 : Int) ≠ 0 := by have q : ¬ ((0 : Int) = 0) := h27; omega
          exfalso; omega
  · show e_Ok 20 elay ecode eI (d + 1) 288 (13, [(0, (1, 275)), (1, (0, p1)), (2, (0, p2)), (3, (0, p3)), (4, (0, p4))], [(0, 0)], w) _
    refine e_Ok.if1 rfl (fun h28 => ?_) (fun h28 => ?_)
    · replace h28 : (0 : Int) = 0 := h28
      refine e_Ok.run (t' := (39, [(0, (1, 275)), (1, (0, p1)), (2, (0, p2)), (3, (0, p3)), (4, (0, p4))], [(0, (-1))], w)) 1 rfl ?_
      refine e_Ok.rets rfl rfl ?_
      exact ⟨_, rfl, (e_fr.refl w), hT, trivial⟩
    · replace h28 : (0 : Int) ≠ 0 := by have q : ¬ ((0 : Int) = 0) := h28; omega
      exfalso; omega
theorem c_291 {d : Nat} (hd : 23 ≤ d) {w : eW} (hT : e_Has mTy w) {p1 p2 p3 p4 p5 : Int} (g1 : (-2147483648) ≤ p1 ∧ p1 ≤ 2147483647) (g2 : (-2147483648) ≤ p2 ∧ p2 ≤ 2147483647) (g3 : (-2147483648) ≤ p3 ∧ p3 ≤ 2147483647) (g4 : (-2147483648) ≤ p4 ∧ p4 ≤ 2147483647) (g5 : (-2147483648) ≤ p5 ∧ p5 ≤ 2147483647) : e_Ok 20 elay ecode eI d 291 (0, [(0, (1, 275)), (1, (0, p1)), (2, (0, p2)), (3, (0, p3)), (4, (0, p4)), (5, (0, p5))], [], w) (fun r w' => ∃ z : Int, r = [(0, z)] ∧ e_fr (mF 42 310 315) w w' ∧ e_Has mTy w' ∧ True) := by
  obtain ⟨d, rfl⟩ : ∃ e, d = e + 1 := ⟨d - 1, by omega⟩
  refine e_Ok.run (t' := (2, [(0, (1, 275)), (1, (0, p1)), (2, (0, p2)), (3, (0, p3)), (4, (0, p4)), (5, (0, p5))], [(0, p1), (1, 275)], w)) 2 rfl ?_
  refine e_Ok.callV rfl (by omega) rfl rfl rfl rfl (c_270 (by omega) hT) (fun r1 w2 h3 => ?_)
  have h4 := e_Has.get hT (c := 275) (k := 10) (lo := 0) (hi := 4) rfl (by decide)
  obtain ⟨z5, rfl, rfl, q6⟩ := h3
  obtain ⟨rfl, q6⟩ | ⟨rfl, q6⟩ := q6
  · show e_Ok 20 elay ecode eI (d + 1) 291 (5, [(0, (1, 275)), (1, (0, p1)), (2, (0, p2)), (3, (0, p3)), (4, (0, p4)), (5, (0, p5))], [(0, 1)], w) _
    refine e_Ok.if1 rfl (fun h7 => ?_) (fun h7 => ?_)
    · replace h7 : (1 : Int) = 0 := h7
      exfalso; omega
    · replace h7 : (1 : Int) ≠ 0 := by have q : ¬ ((1 : Int) = 0) := h7; omega
      refine e_Ok.run (t' := (14, [(0, (1, 275)), (1, (0, p1)), (2, (0, p2)), (3, (0, p3)), (4, (0, p4)), (5, (0, p5))], [(0, p5), (0, p4), (0, p3), (0, p2)], w)) 4 rfl ?_
      refine e_Ok.callS rfl (by omega) rfl rfl (c_273 (by omega) (by omega) (by omega)) (fun r8 w9 h10 => ?_)
      obtain ⟨z11, rfl, rfl, q12⟩ := h10
      obtain ⟨rfl, q12⟩ | ⟨rfl, q12⟩ := q12
      · show e_Ok 20 elay ecode eI (d + 1) 291 (17, [(0, (1, 275)), (1, (0, p1)), (2, (0, p2)), (3, (0, p3)), (4, (0, p4)), (5, (0, p5))], [(0, 1)], w) _
        refine e_Ok.if1 rfl (fun h13 => ?_) (fun h13 => ?_)
        · replace h13 : (1 : Int) ≠ 0 := h13
          refine e_Ok.run (t' := (23, [(0, (1, 275)), (1, (0, p1)), (2, (0, p2)), (3, (0, p3)), (4, (0, p4)), (5, (0, p5))], [(1, 275)], w)) 1 rfl ?_
          have h14 := (e_Has.get hT (c := 275) (k := 3) (lo := 0) (hi := 1) rfl (by decide))
          refine e_Ok.getf (z := w 275 3) rfl (el_o rfl) rfl rfl rfl (by omega) ?_
          refine e_Ok.if1 rfl (fun h15 => ?_) (fun h15 => ?_)
          · replace h15 : (w 275 3 : Int) = 0 := h15
            refine e_Ok.run (t' := (33, [(0, (1, 275)), (1, (0, p1)), (2, (0, p2)), (3, (0, p3)), (4, (0, p4)), (5, (0, p5))], [(1, 275)], w)) 1 rfl ?_
            have h16 := (e_Has.get hT (c := 275) (k := 42) (lo := 0) (hi := 8) rfl (by decide))
            refine e_Ok.getf (z := w 275 42) rfl (el_o rfl) rfl rfl rfl (by omega) ?_
            refine e_Ok.run (t' := (38, [(0, (1, 275)), (1, (0, p1)), (2, (0, p2)), (3, (0, p3)), (4, (0, p4)), (5, (0, p5))], [(0, 8), (0, w 275 42)], w)) 1 rfl ?_
            refine e_Ok.if2 rfl (fun h17 => ?_) (fun h17 => ?_)
            · replace h17 : (w 275 42 : Int) ≠ 8 := h17
              refine e_Ok.run (t' := (45, [(0, (1, 275)), (1, (0, p1)), (2, (0, p2)), (3, (0, p3)), (4, (0, p4)), (5, (0, p5))], [(1, 275)], w)) 1 rfl ?_
              refine e_Ok.getr (z := 310) rfl (el_o rfl) rfl rfl (e_Has.eq hT rfl) (by omega) ?_
              refine e_Ok.run (t' := (49, [(0, (1, 275)), (1, (0, p1)), (2, (0, p2)), (3, (0, p3)), (4, (0, p4)), (5, (0, p5))], [(1, 275), (1, 310)], w)) 1 rfl ?_
              refine e_Ok.getf (z := w 275 42) rfl (el_o rfl) rfl rfl rfl (by omega) ?_
              refine e_Ok.run (t' := (53, [(0, (1, 275)), (1, (0, p1)), (2, (0, p2)), (3, (0, p3)), (4, (0, p4)), (5, (0, p5))], [(0, p1), (0, w 275 42), (1, 310)], w)) 1 rfl ?_
              refine e_Ok.ast rfl (el_o rfl) rfl rfl (by omega) ?_
              generalize hw18 : e_up w 310 (w 275 42) p1 = w18
              have f19 : e_fr (mF 42 310 315) w w18 := e_fr.up (e_fr.refl w) hw18 (by unfold mF; omega)
              have hT20 : e_Has mTy w18 := e_Has.upr hT hw18 rfl (by omega)
              refine e_Ok.run (t' := (55, [(0, (1, 275)), (1, (0, p1)), (2, (0, p2)), (3, (0, p3)), (4, (0, p4)), (5, (0, p5))], [(1, 275)], w18)) 1 rfl ?_
              refine e_Ok.getr (z := 311) rfl (el_o rfl) rfl rfl (by rw [← hw18]; exact (e_up_ne _ _ (Or.inl (by omega))).trans (e_Has.eq hT rfl)) (by omega) ?_
              refine e_Ok.run (t' := (59, [(0, (1, 275)), (1, (0, p1)), (2, (0, p2)), (3, (0, p3)), (4, (0, p4)), (5, (0, p5))], [(1, 275), (1, 311)], w18)) 1 rfl ?_
              refine e_Ok.getf (z := w 275 42) rfl (el_o rfl) rfl rfl (by rw [← hw18]; exact (e_up_ne _ _ (Or.inl (by omega))).trans rfl) (by omega) ?_
              refine e_Ok.run (t' := (63, [(0, (1, 275)), (1, (0, p1)), (2, (0, p2)), (3, (0, p3)), (4, (0, p4)), (5, (0, p5))], [(0, p2), (0, w 275 42), (1, 311)], w18)) 1 rfl ?_
              refine e_Ok.ast rfl (el_o rfl) rfl rfl (by omega) ?_
              generalize hw21 : e_up w18 311 (w 275 42) p2 = w21
              have f22 : e_fr (mF 42 310 315) w w21 := e_fr.up f19 hw21 (by unfold mF; omega)
              have hT23 : e_Has mTy w21 := e_Has.upr hT20 hw21 rfl (by omega)
              refine e_Ok.run (t' := (65, [(0, (1, 275)), (1, (0, p1)), (2, (0, p2)), (3, (0, p3)), (4, (0, p4)), (5, (0, p5))], [(1, 275)], w21)) 1 rfl ?_
              refine e_Ok.getr (z := 312) rfl (el_o rfl) rfl rfl (by rw [← hw21]; exact (e_up_ne _ _ (Or.inl (by omega))).trans (by rw [← hw18]; exact (e_up_ne _ _ (Or.inl (by omega))).trans (e_Has.eq hT rfl))) (by omega) ?_
              refine e_Ok.run (t' := (69, [(0, (1, 275)), (1, (0, p1)), (2, (0, p2)), (3, (0, p3)), (4, (0, p4)), (5, (0, p5))], [(1, 275), (1, 312)], w21)) 1 rfl ?_
              refine e_Ok.getf (z := w 275 42) rfl (el_o rfl) rfl rfl (by rw [← hw21]; exact (e_up_ne _ _ (Or.inl (by omega))).trans (by rw [← hw18]; exact (e_up_ne _ _ (Or.inl (by omega))).trans rfl)) (by omega) ?_
              refine e_Ok.run (t' := (73, [(0, (1, 275)), (1, (0, p1)), (2, (0, p2)), (3, (0, p3)), (4, (0, p4)), (5, (0, p5))], [(0, p3), (0, w 275 42), (1, 312)], w21)) 1 rfl ?_
              refine e_Ok.ast rfl (el_o rfl) rfl rfl (by omega) ?_
              generalize hw24 : e_up w21 312 (w 275 42) p3 = w24
              have f25 : e_fr (mF 42 310 315) w w24 := e_fr.up f22 hw24 (by unfold mF; omega)
              have hT26 : e_Has mTy w24 := e_Has.upr hT23 hw24 rfl (by omega)
              refine e_Ok.run (t' := (75, [(0, (1, 275)), (1, (0, p1)), (2, (0, p2)), (3, (0, p3)), (4, (0, p4)), (5, (0, p5))], [(1, 275)], w24)) 1 rfl ?_
              refine e_Ok.getr (z := 313) rfl (el_o rfl) rfl rfl (by rw [← hw24]; exact (e_up_ne _ _ (Or.inl (by omega))).trans (by rw [← hw21]; exact (e_up_ne _ _ (Or.inl (by omega))).trans (by rw [← hw18]; exact (e_up_ne _ _ (Or.inl (by omega))).trans (e_Has.eq hT rfl)))) (by omega) ?_
              refine e_Ok.run (t' := (79, [(0, (1, 275)), (1, (0, p1)), (2, (0, p2)), (3, (0, p3)), (4, (0, p4)), (5, (0, p5))], [(1, 275), (1, 313)], w24)) 1 rfl ?_
              refine e_Ok.getf (z := w 275 42) rfl (el_o rfl) rfl rfl (by rw [← hw24]; exact (e_up_ne _ _ (Or.inl (by omega))).trans (by rw [← hw21]; exact (e_up_ne _ _ (Or.inl (by omega))).trans (by rw [← hw18]; exact (e_up_ne _ _ (Or.inl (by omega))).trans rfl))) (by omega) ?_
              refine e_Ok.run (t' := (84, [(0, (1, 275)), (1, (0, p1)), (2, (0, p2)), (3, (0, p3)), (4, (0, p4)), (5, (0, p5))], [(0, p4), (0, w 275 42), (1, 313)], w24)) 1 rfl ?_
              refine e_Ok.ast rfl (el_o rfl) rfl rfl (by omega) ?_
              generalize hw27 : e_up w24 313 (w 275 42) p4 = w27
              have f28 : e_fr (mF 42 310 315) w w27 := e_fr.up f25 hw27 (by unfold mF; omega)
              have hT29 : e_Has mTy w27 := e_Has.upr hT26 hw27 rfl (by omega)
              refine e_Ok.run (t' := (86, [(0, (1, 275)), (1, (0, p1)), (2, (0, p2)), (3, (0, p3)), (4, (0, p4)), (5, (0, p5))], [(1, 275)], w27)) 1 rfl ?_
              refine e_Ok.getr (z := 314) rfl (el_o rfl) rfl rfl (by rw [← hw27]; exact (e_up_ne _ _ (Or.inl (by omega))).trans (by rw [← hw24]; exact (e_up_ne _ _ (Or.inl (by omega))).trans (by rw [← hw21]; exact (e_up_ne _ _ (Or.inl (by omega))).trans (by rw [← hw18]; exact (e_up_ne _ _ (Or.inl (by omega))).trans (e_Has.eq hT rfl))))) (by omega) ?_
              refine e_Ok.run (t' := (90, [(0, (1, 275)), (1, (0, p1)), (2, (0, p2)), (3, (0, p3)), (4, (0, p4)), (5, (0, p5))], [(1, 275), (1, 314)], w27)) 1 rfl ?_
              refine e_Ok.getf (z := w 275 42) rfl (el_o rfl) rfl rfl (by rw [← hw27]; exact (e_up_ne _ _ (Or.inl (by omega))).trans (by rw [← hw24]; exact (e_up_ne _ _ (Or.inl (by omega))).trans (by rw [← hw21]; exact (e_up_ne _ _ (Or.inl (by omega))).trans (by rw [← hw18]; exact (e_up_ne _ _ (Or.inl (by omega))).trans rfl)))) (by omega) ?_
              refine e_Ok.run (t' := (95, [(0, (1, 275)), (1, (0, p1)), (2, (0, p2)), (3, (0, p3)), (4, (0, p4)), (5, (0, p5))], [(0, p5), (0, w 275 42), (1, 314)], w27)) 1 rfl ?_
              refine e_Ok.ast rfl (el_o rfl) rfl rfl (by omega) ?_
              generalize hw30 : e_up w27 314 (w 275 42) p5 = w30
              have f31 : e_fr (mF 42 310 315) w w30 := e_fr.up f28 hw30 (by unfold mF; omega)
              have hT32 : e_Has mTy w30 := e_Has.upr hT29 hw30 rfl (by omega)
              refine e_Ok.run (t' := (97, [(0, (1, 275)), (1, (0, p1)), (2, (0, p2)), (3, (0, p3)), (4, (0, p4)), (5, (0, p5))], [(1, 275)], w30)) 1 rfl ?_
              refine e_Ok.getr (z := 315) rfl (el_o rfl) rfl rfl (by rw [← hw30]; exact (e_up_ne _ _ (Or.inl (by omega))).trans (by rw [← hw27]; exact (e_up_ne _ _ (Or.inl (by omega))).trans (by rw [← hw24]; exact (e_up_ne _ _ (Or.inl (by omega))).trans (by rw [← hw21]; exact (e_up_ne _ _ (Or.inl (by omega))).trans (by rw [← hw18]; exact (e_up_ne _ _ (Or.inl (by omega))).trans (e_Has.eq hT rfl)))))) (by omega) ?_
              refine e_Ok.run (t' := (101, [(0, (1, 275)), (1, (0, p1)), (2, (0, p2)), (3, (0, p3)), (4, (0, p4)), (5, (0, p5))], [(1, 275), (1, 315)], w30)) 1 rfl ?_
              refine e_Ok.getf (z := w 275 42) rfl (el_o rfl) rfl rfl (by rw [← hw30]; exact (e_up_ne _ _ (Or.inl (by omega))).trans (by rw [← hw27]; exact (e_up_ne _ _ (Or.inl (by omega))).trans (by rw [← hw24]; exact (e_up_ne _ _ (Or.inl (by omega))).trans (by rw [← hw21]; exact (e_up_ne _ _ (Or.inl (by omega))).trans (by rw [← hw18]; exact (e_up_ne _ _ (Or.inl (by omega))).trans rfl))))) (by omega) ?_
              refine e_Ok.run (t' := (105, [(0, (1, 275)), (1, (0, p1)), (2, (0, p2)), (3, (0, p3)), (4, (0, p4)), (5, (0, p5))], [(0, (-1)), (0, w 275 42), (1, 315)], w30)) 1 rfl ?_
              refine e_Ok.ast rfl (el_o rfl) rfl rfl (by omega) ?_
              generalize hw33 : e_up w30 315 (w 275 42) (-1) = w33
              have f34 : e_fr (mF 42 310 315) w w33 := e_fr.up f31 hw33 (by unfold mF; omega)
              have hT35 : e_Has mTy w33 := e_Has.upr hT32 hw33 rfl (by omega)
              refine e_Ok.run (t' := (108, [(0, (1, 275)), (1, (0, p1)), (2, (0, p2)), (3, (0, p3)), (4, (0, p4)), (5, (0, p5))], [(1, 275), (1, 275)], w33)) 2 rfl ?_
              refine e_Ok.getf (z := w 275 42) rfl (el_o rfl) rfl rfl (by rw [← hw33]; exact (e_up_ne _ _ (Or.inl (by omega))).trans (by rw [← hw30]; exact (e_up_ne _ _ (Or.inl (by omega))).trans (by rw [← hw27]; exact (e_up_ne _ _ (Or.inl (by omega))).trans (by rw [← hw24]; exact (e_up_ne _ _ (Or.inl (by omega))).trans (by rw [← hw21]; exact (e_up_ne _ _ (Or.inl (by omega))).trans (by rw [← hw18]; exact (e_up_ne _ _ (Or.inl (by omega))).trans rfl)))))) (by omega) ?_
              refine e_Ok.run (t' := (112, [(0, (1, 275)), (1, (0, p1)), (2, (0, p2)), (3, (0, p3)), (4, (0, p4)), (5, (0, p5))], [(0, 1), (0, w 275 42), (1, 275)], w33)) 1 rfl ?_
              refine e_Ok.add (z := w 275 42 + 1) rfl (by omega) (by omega) ?_
              refine e_Ok.putf rfl (el_o rfl) rfl rfl ?_
              generalize hw36 : e_up w33 275 42 (w 275 42 + 1) = w36
              have f37 : e_fr (mF 42 310 315) w w36 := e_fr.up f34 hw36 (by unfold mF; omega)
              have hT38 : e_Has mTy w36 := e_Has.upr hT35 hw36 rfl (by omega)
              refine e_Ok.run (t' := (117, [(0, (1, 275)), (1, (0, p1)), (2, (0, p2)), (3, (0, p3)), (4, (0, p4)), (5, (0, p5))], [(1, 275)], w36)) 1 rfl ?_
              refine e_Ok.getf (z := w 275 42 + 1) rfl (el_o rfl) rfl rfl (by rw [← hw36]; exact e_up_eq _ _ _ _) (by omega) ?_
              refine e_Ok.run (t' := (121, [(0, (1, 275)), (1, (0, p1)), (2, (0, p2)), (3, (0, p3)), (4, (0, p4)), (5, (0, p5))], [(0, 1), (0, w 275 42 + 1)], w36)) 1 rfl ?_
              refine e_Ok.sub' (z := w 275 42) rfl (by omega) (by omega) ?_
              refine e_Ok.rets rfl rfl ?_
              exact ⟨_, rfl, f37, hT38, trivial⟩
            · replace h17 : (w 275 42 : Int) = 8 := by have q : ¬ ((w 275 42 : Int) ≠ 8) := h17; omega
              refine e_Ok.run (t' := (43, [(0, (1, 275)), (1, (0, p1)), (2, (0, p2)), (3, (0, p3)), (4, (0, p4)), (5, (0, p5))], [(0, (-3))], w)) 1 rfl ?_
              refine e_Ok.rets rfl rfl ?_
              exact ⟨_, rfl, (e_fr.refl w), hT, trivial⟩
          · replace h15 : (w 275 3 : Int) ≠ 0 := by have q : ¬ ((w 275 3 : Int) = 0) := h15; omega
            refine e_Ok.run (t' := (31, [(0, (1, 275)), (1, (0, p1)), (2, (0, p2)), (3, (0, p3)), (4, (0, p4)), (5, (0, p5))], [(0, (-2))], w)) 1 rfl ?_
            refine e_Ok.rets rfl rfl ?_
            exact ⟨_, rfl, (e_fr.refl w), hT, trivial⟩
        · replace h13 : (1 : Int) = 0 := by have q : ¬ ((1 : Int) ≠ 0) := h13; omega
          exfalso; omega
      · show e_Ok 20 elay ecode eI (d + 1) 291 (17, [(0, (1, 275)), (1, (0, p1)), (2, (0, p2)), (3, (0, p3)), (4, (0, p4)), (5, (0, p5))], [(0, 0)], w) _
        refine e_Ok.if1 rfl (fun h39 => ?_) (fun h39 => ?_)
        · replace h39 : (0 : Int) ≠ 0 := h39
          exfalso; omega
        · replace h39 : (0 : Int) = 0 := by have q : ¬ ((0 : Int) ≠ 0) := h39; omega
          refine e_Ok.run (t' := (21, [(0, (1, 275)), (1, (0, p1)), (2, (0, p2)), (3, (0, p3)), (4, (0, p4)), (5, (0, p5))], [(0, (-1))], w)) 1 rfl ?_
          refine e_Ok.rets rfl rfl ?_
          exact ⟨_, rfl, (e_fr.refl w), hT, trivial⟩
  · show e_Ok 20 elay ecode eI (d + 1) 291 (5, [(0, (1, 275)), (1, (0, p1)), (2, (0, p2)), (3, (0, p3)), (4, (0, p4)), (5, (0, p5))], [(0, 0)], w) _
    refine e_Ok.if1 rfl (fun h40 => ?_) (fun h40 => ?_)
    · replace h40 : (0 : Int) = 0 := h40
      refine e_Ok.run (t' := (21, [(0, (1, 275)), (1, (0, p1)), (2, (0, p2)), (3, (0, p3)), (4, (0, p4)), (5, (0, p5))], [(0, (-1))], w)) 1 rfl ?_
      refine e_Ok.rets rfl rfl ?_
      exact ⟨_, rfl, (e_fr.refl w), hT, trivial⟩
    · replace h40 : (0 : Int) ≠ 0 := by have q : ¬ ((0 : Int) = 0) := h40; omega
      exfalso; omega
theorem c_292 {d : Nat} (hd : 23 ≤ d) {w : eW} (hT : e_Has mTy w) {p1 p2 : Int} (g1 : (-2147483648) ≤ p1 ∧ p1 ≤ 2147483647) (g2 : (-2147483648) ≤ p2 ∧ p2 ≤ 2147483647) : e_Ok 20 elay ecode eI d 292 (0, [(0, (1, 275)), (1, (0, p1)), (2, (0, p2))], [], w) (fun r w' => ∃ z : Int, r = [(0, z)] ∧ e_fr (mF (-1) 315 315) w w' ∧ e_Has mTy w' ∧ True) := by
  obtain ⟨d, rfl⟩ : ∃ e, d = e + 1 := ⟨d - 1, by omega⟩
  refine e_Ok.run (t' := (4, [(0, (1, 275)), (1, (0, p1)), (2, (0, p2))], [(1, 275), (4, 0), (4, p1)], w)) 4 rfl ?_
  have h1 := (e_Has.get hT (c := 275) (k := 42) (lo := 0) (hi := 8) rfl (by decide))
  refine e_Ok.getf (z := w 275 42) rfl (el_o rfl) rfl rfl rfl (by omega) ?_
  refine e_Ok.run (t' := (8, [(0, (1, 275)), (1, (0, p1)), (2, (0, p2))], [(0, 1), (0, w 275 42), (4, 0), (4, p1)], w)) 1 rfl ?_
  refine e_Ok.sub' (z := w 275 42 - 1) rfl (by omega) (by omega) ?_
  refine e_Ok.run (t' := (10, [(0, (1, 275)), (1, (0, p1)), (2, (0, p2))], [(4, w 275 42 - 1), (4, 0), (4, p1)], w)) 1 rfl ?_
  refine e_Ok.callS rfl (by omega) rfl rfl (c_266) (fun r2 w3 h4 => ?_)
  obtain ⟨z5, rfl, rfl, q6⟩ := h4
  obtain ⟨rfl, q6⟩ | ⟨rfl, q6⟩ := q6
  · show e_Ok 20 elay ecode eI (d + 1) 292 (13, [(0, (1, 275)), (1, (0, p1)), (2, (0, p2))], [(0, 1)], w) _
    refine e_Ok.if1 rfl (fun h7 => ?_) (fun h7 => ?_)
    · replace h7 : (1 : Int) = 0 := h7
      exfalso; omega
    · replace h7 : (1 : Int) ≠ 0 := by have q : ¬ ((1 : Int) = 0) := h7; omega
      refine e_Ok.run (t' := (24, [(0, (1, 275)), (1, (0, p1)), (2, (0, p2))], [(4, 32000), (4, (-1)), (4, p2)], w)) 4 rfl ?_
      refine e_Ok.callS rfl (by omega) rfl rfl (c_266) (fun r8 w9 h10 => ?_)
      obtain ⟨z11, rfl, rfl, q12⟩ := h10
      obtain ⟨rfl, q12⟩ | ⟨rfl, q12⟩ := q12
      · show e_Ok 20 elay ecode eI (d + 1) 292 (27, [(0, (1, 275)), (1, (0, p1)), (2, (0, p2))], [(0, 1)], w) _
        refine e_Ok.if1 rfl (fun h13 => ?_) (fun h13 => ?_)
        · replace h13 : (1 : Int) ≠ 0 := h13
          refine e_Ok.run (t' := (33, [(0, (1, 275)), (1, (0, p1)), (2, (0, p2))], [(1, 275)], w)) 1 rfl ?_
          have h14 := (e_Has.get hT (c := 275) (k := 3) (lo := 0) (hi := 1) rfl (by decide))
          refine e_Ok.getf (z := w 275 3) rfl (el_o rfl) rfl rfl rfl (by omega) ?_
          refine e_Ok.if1 rfl (fun h15 => ?_) (fun h15 => ?_)
          · replace h15 : (w 275 3 : Int) = 0 := h15
            refine e_Ok.run (t' := (43, [(0, (1, 275)), (1, (0, p1)), (2, (0, p2))], [(1, 275)], w)) 1 rfl ?_
            refine e_Ok.getr (z := 315) rfl (el_o rfl) rfl rfl (e_Has.eq hT rfl) (by omega) ?_
            refine e_Ok.run (t' := (47, [(0, (1, 275)), (1, (0, p1)), (2, (0, p2))], [(0, p1), (1, 315)], w)) 1 rfl ?_
            have h16 := (e_Has.get hT (c := 315) (k := p1) (lo := (-2147483648)) (hi := 2147483647) rfl (by decide))
            refine e_Ok.ald (z := w 315 p1) rfl (el_o rfl) rfl (by omega) rfl (by omega) ?_
            refine e_Ok.run (t' := (50, [(3, (0, w 315 p1)), (0, (1, 275)), (1, (0, p1)), (2, (0, p2))], [(1, 275)], w)) 2 rfl ?_
            refine e_Ok.getr (z := 315) rfl (el_o rfl) rfl rfl (e_Has.eq hT rfl) (by omega) ?_
            refine e_Ok.run (t' := (55, [(3, (0, w 315 p1)), (0, (1, 275)), (1, (0, p1)), (2, (0, p2))], [(0, p2), (0, p1), (1, 315)], w)) 2 rfl ?_
            refine e_Ok.ast rfl (el_o rfl) rfl rfl (by omega) ?_
            generalize hw17 : e_up w 315 p1 p2 = w17
            have f18 : e_fr (mF (-1) 315 315) w w17 := e_fr.up (e_fr.refl w) hw17 (by unfold mF; omega)
            have hT19 : e_Has mTy w17 := e_Has.upr hT hw17 rfl (by omega)
            refine e_Ok.run (t' := (57, [(3, (0, w 315 p1)), (0, (1, 275)), (1, (0, p1)), (2, (0, p2))], [(0, w 315 p1)], w17)) 1 rfl ?_
            refine e_Ok.rets rfl rfl ?_
            exact ⟨_, rfl, f18, hT19, trivial⟩
          · replace h15 : (w 275 3 : Int) ≠ 0 := by have q : ¬ ((w 275 3 : Int) = 0) := h15; omega
            refine e_Ok.run (t' := (41, [(0, (1, 275)), (1, (0, p1)), (2, (0, p2))], [(0, (-2))], w)) 1 rfl ?_
            refine e_Ok.rets rfl rfl ?_
            exact ⟨_, rfl, (e_fr.refl w), hT, trivial⟩
        · replace h13 : (1 : Int) = 0 := by have q : ¬ ((1 : Int) ≠ 0) := h13; omega
          exfalso; omega
      · show e_Ok 20 elay ecode eI (d + 1) 292 (27, [(0, (1, 275)), (1, (0, p1)), (2, (0, p2))], [(0, 0)], w) _
        refine e_Ok.if1 rfl (fun h20 => ?_) (fun h20 => ?_)
        · replace h20 : (0 : Int) ≠ 0 := h20
          exfalso; omega
        · replace h20 : (0 : Int) = 0 := by have q : ¬ ((0 : Int) ≠ 0) := h20; omega
          refine e_Ok.run (t' := (31, [(0, (1, 275)), (1, (0, p1)), (2, (0, p2))], [(0, (-1))], w)) 1 rfl ?_
          refine e_Ok.rets rfl rfl ?_
          exact ⟨_, rfl, (e_fr.refl w), hT, trivial⟩
  · show e_Ok 20 elay ecode eI (d + 1) 292 (13, [(0, (1, 275)), (1, (0, p1)), (2, (0, p2))], [(0, 0)], w) _
    refine e_Ok.if1 rfl (fun h21 => ?_) (fun h21 => ?_)
    · replace h21 : (0 : Int) = 0 := h21
      refine e_Ok.run (t' := (31, [(0, (1, 275)), (1, (0, p1)), (2, (0, p2))], [(0, (-1))], w)) 1 rfl ?_
      refine e_Ok.rets rfl rfl ?_
      exact ⟨_, rfl, (e_fr.refl w), hT, trivial⟩
    · replace h21 : (0 : Int) ≠ 0 := by have q : ¬ ((0 : Int) = 0) := h21; omega
      exfalso; omega
theorem c_293 {d : Nat} (hd : 23 ≤ d) {w : eW} (hT : e_Has mTy w) {p1 : Int} (g1 : (-2147483648) ≤ p1 ∧ p1 ≤ 2147483647) : e_Ok 20 elay ecode eI d 293 (0, [(0, (1, 275)), (1, (0, p1))], [], w) (fun r w' => ∃ z : Int, r = [(0, z)] ∧ e_fr (mF 49 316 316) w w' ∧ e_Has mTy w' ∧ True) := by
  obtain ⟨d, rfl⟩ : ∃ e, d = e + 1 := ⟨d - 1, by omega⟩
  refine e_Ok.run (t' := (6, [(0, (1, 275)), (1, (0, p1))], [(4, 1000), (4, 0), (4, p1)], w)) 4 rfl ?_
  refine e_Ok.callS rfl (by omega) rfl rfl (c_266) (fun r1 w2 h3 => ?_)
  obtain ⟨z4, rfl, rfl, q5⟩ := h3
  obtain ⟨rfl, q5⟩ | ⟨rfl, q5⟩ := q5
  · show e_Ok 20 elay ecode eI (d + 1) 293 (9, [(0, (1, 275)), (1, (0, p1))], [(0, 1)], w) _
    refine e_Ok.if1 rfl (fun h6 => ?_) (fun h6 => ?_)
    · replace h6 : (1 : Int) ≠ 0 := h6
      refine e_Ok.run (t' := (15, [(0, (1, 275)), (1, (0, p1))], [(1, 275)], w)) 1 rfl ?_
      have h7 := (e_Has.get hT (c := 275) (k := 3) (lo := 0) (hi := 1) rfl (by decide))
      refine e_Ok.getf (z := w 275 3) rfl (el_o rfl) rfl rfl rfl (by omega) ?_
      refine e_Ok.if1 rfl (fun h8 => ?_) (fun h8 => ?_)
      · replace h8 : (w 275 3 : Int) = 0 := h8
        refine e_Ok.run (t' := (25, [(0, (1, 275)), (1, (0, p1))], [(1, 275)], w)) 1 rfl ?_
        have h9 := (e_Has.get hT (c := 275) (k := 49) (lo := 0) (hi := 8) rfl (by decide))
        refine e_Ok.getf (z := w 275 49) rfl (el_o rfl) rfl rfl rfl (by omega) ?_
        refine e_Ok.run (t' := (30, [(0, (1, 275)), (1, (0, p1))], [(0, 8), (0, w 275 49)], w)) 1 rfl ?_
        refine e_Ok.if2 rfl (fun h10 => ?_) (fun h10 => ?_)
        · replace h10 : (w 275 49 : Int) ≠ 8 := h10
          refine e_Ok.run (t' := (37, [(0, (1, 275)), (1, (0, p1))], [(1, 275)], w)) 1 rfl ?_
          refine e_Ok.getr (z := 316) rfl (el_o rfl) rfl rfl (e_Has.eq hT rfl) (by omega) ?_
          refine e_Ok.run (t' := (41, [(0, (1, 275)), (1, (0, p1))], [(1, 275), (1, 316)], w)) 1 rfl ?_
          refine e_Ok.getf (z := w 275 49) rfl (el_o rfl) rfl rfl rfl (by omega) ?_
          refine e_Ok.run (t' := (45, [(0, (1, 275)), (1, (0, p1))], [(0, p1), (0, w 275 49), (1, 316)], w)) 1 rfl ?_
          refine e_Ok.ast rfl (el_o rfl) rfl rfl (by omega) ?_
          generalize hw11 : e_up w 316 (w 275 49) p1 = w11
          have f12 : e_fr (mF 49 316 316) w w11 := e_fr.up (e_fr.refl w) hw11 (by unfold mF; omega)
          have hT13 : e_Has mTy w11 := e_Has.upr hT hw11 rfl (by omega)
          refine e_Ok.run (t' := (48, [(0, (1, 275)), (1, (0, p1))], [(1, 275), (1, 275)], w11)) 2 rfl ?_
          refine e_Ok.getf (z := w 275 49) rfl (el_o rfl) rfl rfl (by rw [← hw11]; exact (e_up_ne _ _ (Or.inl (by omega))).trans rfl) (by omega) ?_
          refine e_Ok.run (t' := (52, [(0, (1, 275)), (1, (0, p1))], [(0, 1), (0, w 275 49), (1, 275)], w11)) 1 rfl ?_
          refine e_Ok.add (z := w 275 49 + 1) rfl (by omega) (by omega) ?_
          refine e_Ok.putf rfl (el_o rfl) rfl rfl ?_
          generalize hw14 : e_up w11 275 49 (w 275 49 + 1) = w14
          have f15 : e_fr (mF 49 316 316) w w14 := e_fr.up f12 hw14 (by unfold mF; omega)
          have hT16 : e_Has mTy w14 := e_Has.upr hT13 hw14 rfl (by omega)
          refine e_Ok.run (t' := (57, [(0, (1, 275)), (1, (0, p1))], [(1, 275)], w14)) 1 rfl ?_
          refine e_Ok.getf (z := w 275 49 + 1) rfl (el_o rfl) rfl rfl (by rw [← hw14]; exact e_up_eq _ _ _ _) (by omega) ?_
          refine e_Ok.run (t' := (61, [(0, (1, 275)), (1, (0, p1))], [(0, 1), (0, w 275 49 + 1)], w14)) 1 rfl ?_
          refine e_Ok.sub' (z := w 275 49) rfl (by omega) (by omega) ?_
          refine e_Ok.rets rfl rfl ?_
          exact ⟨_, rfl, f15, hT16, trivial⟩
        · replace h10 : (w 275 49 : Int) = 8 := by have q : ¬ ((w 275 49 : Int) ≠ 8) := h10; omega
          refine e_Ok.run (t' := (35, [(0, (1, 275)), (1, (0, p1))], [(0, (-3))], w)) 1 rfl ?_
          refine e_Ok.rets rfl rfl ?_
          exact ⟨_, rfl, (e_fr.refl w), hT, trivial⟩
      · replace h8 : (w 275 3 : Int) ≠ 0 := by have q : ¬ ((w 275 3 : Int) = 0) := h8; omega
        refine e_Ok.run (t' := (23, [(0, (1, 275)), (1, (0, p1))], [(0, (-2))], w)) 1 rfl ?_
        refine e_Ok.rets rfl rfl ?_
        exact ⟨_, rfl, (e_fr.refl w), hT, trivial⟩
    · replace h6 : (1 : Int) = 0 := by have q : ¬ ((1 : Int) ≠ 0) := h6; omega
      exfalso; omega
  · show e_Ok 20 elay ecode eI (d + 1) 293 (9, [(0, (1, 275)), (1, (0, p1))], [(0, 0)], w) _
    refine e_Ok.if1 rfl (fun h17 => ?_) (fun h17 => ?_)
    · replace h17 : (0 : Int) ≠ 0 := h17
      exfalso; omega
    · replace h17 : (0 : Int) = 0 := by have q : ¬ ((0 : Int) ≠ 0) := h17; omega
      refine e_Ok.run (t' := (13, [(0, (1, 275)), (1, (0, p1))], [(0, (-1))], w)) 1 rfl ?_
      refine e_Ok.rets rfl rfl ?_
      exact ⟨_, rfl, (e_fr.refl w), hT, trivial⟩
theorem c_294 {d : Nat} (hd : 23 ≤ d) {w : eW} (hT : e_Has mTy w) {p1 p2 : Int} (g1 : (-2147483648) ≤ p1 ∧ p1 ≤ 2147483647) (g2 : 0 ≤ p2 ∧ p2 ≤ 1) : e_Ok 20 elay ecode eI d 294 (0, [(0, (1, 275)), (1, (0, p1)), (2, (0, p2))], [], w) (fun r w' => ∃ z : Int, r = [(0, z)] ∧ e_fr (mF (-1) 317 317) w w' ∧ e_Has mTy w' ∧ True) := by
  obtain ⟨d, rfl⟩ : ∃ e, d = e + 1 := ⟨d - 1, by omega⟩
  refine e_Ok.run (t' := (6, [(0, (1, 275)), (1, (0, p1)), (2, (0, p2))], [(4, 7), (4, 0), (4, p1)], w)) 4 rfl ?_
  refine e_Ok.callS rfl (by omega) rfl rfl (c_266) (fun r1 w2 h3 => ?_)
  obtain ⟨z4, rfl, rfl, q5⟩ := h3
  obtain ⟨rfl, q5⟩ | ⟨rfl, q5⟩ := q5
  · show e_Ok 20 elay ecode eI (d + 1) 294 (9, [(0, (1, 275)), (1, (0, p1)), (2, (0, p2))], [(0, 1)], w) _
    refine e_Ok.if1 rfl (fun h6 => ?_) (fun h6 => ?_)
    · replace h6 : (1 : Int) ≠ 0 := h6
      refine e_Ok.run (t' := (15, [(0, (1, 275)), (1, (0, p1)), (2, (0, p2))], [(1, 275)], w)) 1 rfl ?_
      have h7 := (e_Has.get hT (c := 275) (k := 3) (lo := 0) (hi := 1) rfl (by decide))
      refine e_Ok.getf (z := w 275 3) rfl (el_o rfl) rfl rfl rfl (by omega) ?_
      refine e_Ok.if1 rfl (fun h8 => ?_) (fun h8 => ?_)
      · replace h8 : (w 275 3 : Int) = 0 := h8
        refine e_Ok.run (t' := (25, [(0, (1, 275)), (1, (0, p1)), (2, (0, p2))], [(1, 275)], w)) 1 rfl ?_
        refine e_Ok.getr (z := 317) rfl (el_o rfl) rfl rfl (e_Has.eq hT rfl) (by omega) ?_
        refine e_Ok.run (t' := (30, [(0, (1, 275)), (1, (0, p1)), (2, (0, p2))], [(0, p2), (0, p1), (1, 317)], w)) 2 rfl ?_
        refine e_Ok.ast rfl (el_o rfl) rfl (e_nar_b (by omega)) (by omega) ?_
        generalize hw9 : e_up w 317 p1 p2 = w9
        have f10 : e_fr (mF (-1) 317 317) w w9 := e_fr.up (e_fr.refl w) hw9 (by unfold mF; omega)
        have hT11 : e_Has mTy w9 := e_Has.upr hT hw9 rfl (by omega)
        refine e_Ok.run (t' := (32, [(0, (1, 275)), (1, (0, p1)), (2, (0, p2))], [(0, 0)], w9)) 1 rfl ?_
        refine e_Ok.rets rfl rfl ?_
        exact ⟨_, rfl, f10, hT11, trivial⟩
      · replace h8 : (w 275 3 : Int) ≠ 0 := by have q : ¬ ((w 275 3 : Int) = 0) := h8; omega
        refine e_Ok.run (t' := (23, [(0, (1, 275)), (1, (0, p1)), (2, (0, p2))], [(0, (-2))], w)) 1 rfl ?_
        refine e_Ok.rets rfl rfl ?_
        exact ⟨_, rfl, (e_fr.refl w), hT, trivial⟩
    · replace h6 : (1 : Int) = 0 := by have q : ¬ ((1 : Int) ≠ 0) := h6; omega
      exfalso; omega
  · show e_Ok 20 elay ecode eI (d + 1) 294 (9, [(0, (1, 275)), (1, (0, p1)), (2, (0, p2))], [(0, 0)], w) _
    refine e_Ok.if1 rfl (fun h12 => ?_) (fun h12 => ?_)
    · replace h12 : (0 : Int) ≠ 0 := h12
      exfalso; omega
    · replace h12 : (0 : Int) = 0 := by have q : ¬ ((0 : Int) ≠ 0) := h12; omega
      refine e_Ok.run (t' := (13, [(0, (1, 275)), (1, (0, p1)), (2, (0, p2))], [(0, (-1))], w)) 1 rfl ?_
      refine e_Ok.rets rfl rfl ?_
      exact ⟨_, rfl, (e_fr.refl w), hT, trivial⟩
end
