noncomputable section
def mF (f a b c k : Int) : Prop := (c = 275 ∧ k = f) ∨ (a ≤ c ∧ c ≤ b)
def mF2 (f c1 c2 c k : Int) : Prop := (c = 275 ∧ k = f) ∨ c = c1 ∨ c = c2
def mTape (c k : Int) : Prop := (c = 275 ∧ k = 9) ∨ c = 281
theorem mT_hi {S : Int → Int → Prop} {w w' : eW} (hS : ∀ c k, S c k → mTy c k = (1, 0)) (f : e_fr S w w') (h : e_Has mTy w) : e_Has mTy w' := h.fr hS f
theorem hT_lo {S : Int → Int → Prop} {w w' : eW} (hS : ∀ c k, S c k → hTy c k = (1, 0)) (f : e_fr S w w') (h : e_Has hTy w) : e_Has hTy w' := h.fr hS f
theorem c_271 {d : Nat} (hd : 22 ≤ d) {w : eW} (hT : e_Has mTy w) {a j : Int} : e_Ok 20 elay ecode eI d 271 (0, [(0, (1, 275)), (1, (0, a)), (2, (0, j))], [], w) (fun r w' => ∃ z : Int, r = [(0, z)] ∧ w = w' ∧ ((z = 1 ∧ (0 ≤ a ∧ a < w 275 10) ∧ 0 ≤ j ∧ j < w 286 a) ∨ (z = 0 ∧ True))) := by
  obtain ⟨d, rfl⟩ : ∃ e, d = e + 1 := ⟨d - 1, by omega⟩
  refine e_Ok.run (t' := (2, [(0, (1, 275)), (1, (0, a)), (2, (0, j))], [(0, a), (1, 275)], w)) 2 rfl ?_
  refine e_Ok.callV rfl (by omega) rfl rfl rfl rfl (c_270 (by omega) hT) (fun r1 w2 h3 => ?_)
  have h4 := e_Has.get hT (c := 275) (k := 10) (lo := 0) (hi := 4) rfl (by decide)
  obtain ⟨z5, rfl, rfl, q6⟩ := h3
  obtain ⟨rfl, q6⟩ | ⟨rfl, q6⟩ := q6
  · show e_Ok 20 elay ecode eI (d + 1) 271 (5, [(0, (1, 275)), (1, (0, a)), (2, (0, j))], [(0, 1)], w) _
    refine e_Ok.if1 rfl (fun h7 => ?_) (fun h7 => ?_)
    · replace h7 : (1 : Int) = 0 := h7
      exfalso; omega
    · replace h7 : (1 : Int) ≠ 0 := by have q : ¬ ((1 : Int) = 0) := h7; omega
      refine e_Ok.run (t' := (12, [(0, (1, 275)), (1, (0, a)), (2, (0, j))], [(1, 275), (4, 0), (4, j)], w)) 4 rfl ?_
      refine e_Ok.getr (z := 286) rfl (el_o rfl) rfl rfl (e_Has.eq hT rfl) (by omega) ?_
      refine e_Ok.run (t' := (16, [(0, (1, 275)), (1, (0, a)), (2, (0, j))], [(0, a), (1, 286), (4, 0), (4, j)], w)) 1 rfl ?_
      have h8 := (e_Has.get hT (c := 286) (k := a) (lo := 0) (hi := 6) rfl (by decide))
      refine e_Ok.ald (z := w 286 a) rfl (el_o rfl) rfl (by omega) rfl (by omega) ?_
      refine e_Ok.run (t' := (18, [(0, (1, 275)), (1, (0, a)), (2, (0, j))], [(0, 1), (0, w 286 a), (4, 0), (4, j)], w)) 1 rfl ?_
      refine e_Ok.sub' (z := w 286 a - 1) rfl (by omega) (by omega) ?_
      refine e_Ok.run (t' := (20, [(0, (1, 275)), (1, (0, a)), (2, (0, j))], [(4, w 286 a - 1), (4, 0), (4, j)], w)) 1 rfl ?_
      refine e_Ok.callS rfl (by omega) rfl rfl (c_266) (fun r9 w10 h11 => ?_)
      obtain ⟨z12, rfl, rfl, q13⟩ := h11
      obtain ⟨rfl, q13⟩ | ⟨rfl, q13⟩ := q13
      · show e_Ok 20 elay ecode eI (d + 1) 271 (23, [(0, (1, 275)), (1, (0, a)), (2, (0, j))], [(0, 1)], w) _
        refine e_Ok.if1 rfl (fun h14 => ?_) (fun h14 => ?_)
        · replace h14 : (1 : Int) = 0 := h14
          exfalso; omega
        · replace h14 : (1 : Int) ≠ 0 := by have q : ¬ ((1 : Int) = 0) := h14; omega
          refine e_Ok.run (t' := (31, [(0, (1, 275)), (1, (0, a)), (2, (0, j))], [(0, 1)], w)) 2 rfl ?_
          refine e_Ok.rets rfl rfl ?_
          exact ⟨_, rfl, rfl, Or.inl ⟨rfl, by omega, by omega⟩⟩
      · show e_Ok 20 elay ecode eI (d + 1) 271 (23, [(0, (1, 275)), (1, (0, a)), (2, (0, j))], [(0, 0)], w) _
        refine e_Ok.if1 rfl (fun h15 => ?_) (fun h15 => ?_)
        · replace h15 : (0 : Int) = 0 := h15
          refine e_Ok.run (t' := (31, [(0, (1, 275)), (1, (0, a)), (2, (0, j))], [(0, 0)], w)) 1 rfl ?_
          refine e_Ok.rets rfl rfl ?_
          exact ⟨_, rfl, rfl, Or.inr ⟨rfl, trivial⟩⟩
        · replace h15 : (0 : Int) ≠ 0 := by have q : ¬ ((0 : Int) = 0) := h15; omega
          exfalso; omega
  · show e_Ok 20 elay ecode eI (d + 1) 271 (5, [(0, (1, 275)), (1, (0, a)), (2, (0, j))], [(0, 0)], w) _
    refine e_Ok.if1 rfl (fun h16 => ?_) (fun h16 => ?_)
    · replace h16 : (0 : Int) = 0 := h16
      refine e_Ok.run (t' := (31, [(0, (1, 275)), (1, (0, a)), (2, (0, j))], [(0, 0)], w)) 1 rfl ?_
      refine e_Ok.rets rfl rfl ?_
      exact ⟨_, rfl, rfl, Or.inr ⟨rfl, trivial⟩⟩
    · replace h16 : (0 : Int) ≠ 0 := by have q : ¬ ((0 : Int) = 0) := h16; omega
      exfalso; omega
theorem c_272 {d : Nat} (hd : 21 ≤ d) {w : eW} {x y : Int} : e_Ok 20 elay ecode eI d 272 (0, [(0, (0, x)), (1, (0, y))], [], w) (fun r w' => ∃ z : Int, r = [(0, z)] ∧ w = w' ∧ ((z = 1 ∧ (-16000 ≤ x ∧ x ≤ 16000) ∧ -16000 ≤ y ∧ y ≤ 16000) ∨ (z = 0 ∧ True))) := by
  obtain ⟨d, rfl⟩ : ∃ e, d = e + 1 := ⟨d - 1, by omega⟩
  refine e_Ok.run (t' := (8, [(0, (0, x)), (1, (0, y))], [(4, 16000), (4, (-16000)), (4, x)], w)) 4 rfl ?_
  refine e_Ok.callS rfl (by omega) rfl rfl (c_266) (fun r1 w2 h3 => ?_)
  obtain ⟨z4, rfl, rfl, q5⟩ := h3
  obtain ⟨rfl, q5⟩ | ⟨rfl, q5⟩ := q5
  · show e_Ok 20 elay ecode eI (d + 1) 272 (11, [(0, (0, x)), (1, (0, y))], [(0, 1)], w) _
    refine e_Ok.if1 rfl (fun h6 => ?_) (fun h6 => ?_)
    · replace h6 : (1 : Int) = 0 := h6
      exfalso; omega
    · replace h6 : (1 : Int) ≠ 0 := by have q : ¬ ((1 : Int) = 0) := h6; omega
      refine e_Ok.run (t' := (22, [(0, (0, x)), (1, (0, y))], [(4, 16000), (4, (-16000)), (4, y)], w)) 4 rfl ?_
      refine e_Ok.callS rfl (by omega) rfl rfl (c_266) (fun r7 w8 h9 => ?_)
      obtain ⟨z10, rfl, rfl, q11⟩ := h9
      obtain ⟨rfl, q11⟩ | ⟨rfl, q11⟩ := q11
      · show e_Ok 20 elay ecode eI (d + 1) 272 (25, [(0, (0, x)), (1, (0, y))], [(0, 1)], w) _
        refine e_Ok.if1 rfl (fun h12 => ?_) (fun h12 => ?_)
        · replace h12 : (1 : Int) = 0 := h12
          exfalso; omega
        · replace h12 : (1 : Int) ≠ 0 := by have q : ¬ ((1 : Int) = 0) := h12; omega
          refine e_Ok.run (t' := (33, [(0, (0, x)), (1, (0, y))], [(0, 1)], w)) 2 rfl ?_
          refine e_Ok.rets rfl rfl ?_
          exact ⟨_, rfl, rfl, Or.inl ⟨rfl, by omega, by omega⟩⟩
      · show e_Ok 20 elay ecode eI (d + 1) 272 (25, [(0, (0, x)), (1, (0, y))], [(0, 0)], w) _
        refine e_Ok.if1 rfl (fun h13 => ?_) (fun h13 => ?_)
        · replace h13 : (0 : Int) = 0 := h13
          refine e_Ok.run (t' := (33, [(0, (0, x)), (1, (0, y))], [(0, 0)], w)) 1 rfl ?_
          refine e_Ok.rets rfl rfl ?_
          exact ⟨_, rfl, rfl, Or.inr ⟨rfl, trivial⟩⟩
        · replace h13 : (0 : Int) ≠ 0 := by have q : ¬ ((0 : Int) = 0) := h13; omega
          exfalso; omega
  · show e_Ok 20 elay ecode eI (d + 1) 272 (11, [(0, (0, x)), (1, (0, y))], [(0, 0)], w) _
    refine e_Ok.if1 rfl (fun h14 => ?_) (fun h14 => ?_)
    · replace h14 : (0 : Int) = 0 := h14
      refine e_Ok.run (t' := (33, [(0, (0, x)), (1, (0, y))], [(0, 0)], w)) 1 rfl ?_
      refine e_Ok.rets rfl rfl ?_
      exact ⟨_, rfl, rfl, Or.inr ⟨rfl, trivial⟩⟩
    · replace h14 : (0 : Int) ≠ 0 := by have q : ¬ ((0 : Int) = 0) := h14; omega
      exfalso; omega
theorem c_273 {d : Nat} (hd : 22 ≤ d) {w : eW} {x y u v : Int} (hu : -2147483648 ≤ u ∧ u ≤ 2147483647) (hv : -2147483648 ≤ v ∧ v ≤ 2147483647) : e_Ok 20 elay ecode eI d 273 (0, [(0, (0, x)), (1, (0, y)), (2, (0, u)), (3, (0, v))], [], w) (fun r w' => ∃ z : Int, r = [(0, z)] ∧ w = w' ∧ ((z = 1 ∧ (-16000 ≤ x ∧ x ≤ 16000) ∧ (-16000 ≤ y ∧ y ≤ 16000) ∧ (0 ≤ u ∧ u ≤ 32000) ∧ 0 ≤ v ∧ v ≤ 32000) ∨ (z = 0 ∧ True))) := by
  obtain ⟨d, rfl⟩ : ∃ e, d = e + 1 := ⟨d - 1, by omega⟩
  refine e_Ok.run (t' := (2, [(0, (0, x)), (1, (0, y)), (2, (0, u)), (3, (0, v))], [(0, y), (0, x)], w)) 2 rfl ?_
  refine e_Ok.callS rfl (by omega) rfl rfl (c_272 (by omega)) (fun r1 w2 h3 => ?_)
  obtain ⟨z4, rfl, rfl, q5⟩ := h3
  obtain ⟨rfl, q5⟩ | ⟨rfl, q5⟩ := q5
  · show e_Ok 20 elay ecode eI (d + 1) 273 (5, [(0, (0, x)), (1, (0, y)), (2, (0, u)), (3, (0, v))], [(0, 1)], w) _
    refine e_Ok.if1 rfl (fun h6 => ?_) (fun h6 => ?_)
    · replace h6 : (1 : Int) = 0 := h6
      exfalso; omega
    · replace h6 : (1 : Int) ≠ 0 := by have q : ¬ ((1 : Int) = 0) := h6; omega
      refine e_Ok.run (t' := (9, [(0, (0, x)), (1, (0, y)), (2, (0, u)), (3, (0, v))], [(0, u)], w)) 1 rfl ?_
      refine e_Ok.if1 rfl (fun h7 => ?_) (fun h7 => ?_)
      · replace h7 : (u : Int) < 0 := h7
        refine e_Ok.run (t' := (45, [(0, (0, x)), (1, (0, y)), (2, (0, u)), (3, (0, v))], [(0, 0)], w)) 1 rfl ?_
        refine e_Ok.rets rfl rfl ?_
        exact ⟨_, rfl, rfl, Or.inr ⟨rfl, trivial⟩⟩
      · replace h7 : (u : Int) ≥ 0 := by have q : ¬ ((u : Int) < 0) := h7; omega
        refine e_Ok.run (t' := (13, [(0, (0, x)), (1, (0, y)), (2, (0, u)), (3, (0, v))], [(0, v)], w)) 1 rfl ?_
        refine e_Ok.if1 rfl (fun h8 => ?_) (fun h8 => ?_)
        · replace h8 : (v : Int) < 0 := h8
          refine e_Ok.run (t' := (45, [(0, (0, x)), (1, (0, y)), (2, (0, u)), (3, (0, v))], [(0, 0)], w)) 1 rfl ?_
          refine e_Ok.rets rfl rfl ?_
          exact ⟨_, rfl, rfl, Or.inr ⟨rfl, trivial⟩⟩
        · replace h8 : (v : Int) ≥ 0 := by have q : ¬ ((v : Int) < 0) := h8; omega
          refine e_Ok.run (t' := (20, [(0, (0, x)), (1, (0, y)), (2, (0, u)), (3, (0, v))], [(4, u), (4, x)], w)) 4 rfl ?_
          refine e_Ok.addL (z := x + u) rfl (by omega) (by omega) ?_
          refine e_Ok.run (t' := (24, [(0, (0, x)), (1, (0, y)), (2, (0, u)), (3, (0, v))], [(4, 16000), (4, x + u)], w)) 1 rfl ?_
          refine e_Ok.lcmp rfl (fun z10 z10a z10b z10c => ?_)
          refine e_Ok.if1 rfl (fun h11 => ?_) (fun h11 => ?_)
          · replace h11 : (z10 : Int) > 0 := h11
            refine e_Ok.run (t' := (45, [(0, (0, x)), (1, (0, y)), (2, (0, u)), (3, (0, v))], [(0, 0)], w)) 1 rfl ?_
            refine e_Ok.rets rfl rfl ?_
            exact ⟨_, rfl, rfl, Or.inr ⟨rfl, trivial⟩⟩
          · replace h11 : (z10 : Int) ≤ 0 := by have q : ¬ ((z10 : Int) > 0) := h11; omega
            refine e_Ok.run (t' := (32, [(0, (0, x)), (1, (0, y)), (2, (0, u)), (3, (0, v))], [(4, v), (4, y)], w)) 4 rfl ?_
            refine e_Ok.addL (z := y + v) rfl (by omega) (by omega) ?_
            refine e_Ok.run (t' := (36, [(0, (0, x)), (1, (0, y)), (2, (0, u)), (3, (0, v))], [(4, 16000), (4, y + v)], w)) 1 rfl ?_
            refine e_Ok.lcmp rfl (fun z13 z13a z13b z13c => ?_)
            refine e_Ok.if1 rfl (fun h14 => ?_) (fun h14 => ?_)
            · replace h14 : (z13 : Int) > 0 := h14
              refine e_Ok.run (t' := (45, [(0, (0, x)), (1, (0, y)), (2, (0, u)), (3, (0, v))], [(0, 0)], w)) 1 rfl ?_
              refine e_Ok.rets rfl rfl ?_
              exact ⟨_, rfl, rfl, Or.inr ⟨rfl, trivial⟩⟩
            · replace h14 : (z13 : Int) ≤ 0 := by have q : ¬ ((z13 : Int) > 0) := h14; omega
              refine e_Ok.run (t' := (45, [(0, (0, x)), (1, (0, y)), (2, (0, u)), (3, (0, v))], [(0, 1)], w)) 2 rfl ?_
              refine e_Ok.rets rfl rfl ?_
              exact ⟨_, rfl, rfl, Or.inl ⟨rfl, by omega, by omega, by omega, by omega⟩⟩
  · show e_Ok 20 elay ecode eI (d + 1) 273 (5, [(0, (0, x)), (1, (0, y)), (2, (0, u)), (3, (0, v))], [(0, 0)], w) _
    refine e_Ok.if1 rfl (fun h15 => ?_) (fun h15 => ?_)
    · replace h15 : (0 : Int) = 0 := h15
      refine e_Ok.run (t' := (45, [(0, (0, x)), (1, (0, y)), (2, (0, u)), (3, (0, v))], [(0, 0)], w)) 1 rfl ?_
      refine e_Ok.rets rfl rfl ?_
      exact ⟨_, rfl, rfl, Or.inr ⟨rfl, trivial⟩⟩
    · replace h15 : (0 : Int) ≠ 0 := by have q : ¬ ((0 : Int) = 0) := h15; omega
      exfalso; omega
theorem c_278 {d : Nat} (hd : 23 ≤ d) {w : eW} (hT : e_Has mTy w) {p1 p2 p3 p4 : Int} (g1 : (-2147483648) ≤ p1 ∧ p1 ≤ 2147483647) (g2 : (-2147483648) ≤ p2 ∧ p2 ≤ 2147483647) (g3 : (-2147483648) ≤ p3 ∧ p3 ≤ 2147483647) (g4 : (-2147483648) ≤ p4 ∧ p4 ≤ 2147483647) : e_Ok 20 elay ecode eI d 278 (0, [(0, (1, 275)), (1, (0, p1)), (2, (0, p2)), (3, (0, p3)), (4, (0, p4))], [], w) (fun r w' => ∃ z : Int, r = [(0, z)] ∧ e_fr (mF 10 282 285) w w' ∧ e_Has mTy w' ∧ (((-8000 ≤ p1 ∧ p1 ≤ 8000 ∧ -8000 ≤ p2 ∧ p2 ≤ 8000 ∧ 0 ≤ p3 ∧ p3 ≤ 4095 ∧ 0 ≤ p4 ∧ p4 ≤ 800 ∧ w 275 3 = 0 ∧ w 275 10 < 4) ∧ w' 275 10 = w 275 10 + 1) ∨ (¬ (-8000 ≤ p1 ∧ p1 ≤ 8000 ∧ -8000 ≤ p2 ∧ p2 ≤ 8000 ∧ 0 ≤ p3 ∧ p3 ≤ 4095 ∧ 0 ≤ p4 ∧ p4 ≤ 800 ∧ w 275 3 = 0 ∧ w 275 10 < 4) ∧ w' 275 10 = w 275 10))) := by
  obtain ⟨d, rfl⟩ : ∃ e, d = e + 1 := ⟨d - 1, by omega⟩
  have ho := e_Has.get hT (c := 275) (k := 3) (lo := 0) (hi := 1) rfl (by decide)
  have hr := e_Has.get hT (c := 275) (k := 10) (lo := 0) (hi := 4) rfl (by decide)
  refine e_Ok.run (t' := (8, [(0, (1, 275)), (1, (0, p1)), (2, (0, p2)), (3, (0, p3)), (4, (0, p4))], [(4, 8000), (4, (-8000)), (4, p1)], w)) 4 rfl ?_
  refine e_Ok.callS rfl (by omega) rfl rfl (c_266) (fun r1 w2 h3 => ?_)
  obtain ⟨z4, rfl, rfl, q5⟩ := h3
  obtain ⟨rfl, q5⟩ | ⟨rfl, q5⟩ := q5
  · show e_Ok 20 elay ecode eI (d + 1) 278 (11, [(0, (1, 275)), (1, (0, p1)), (2, (0, p2)), (3, (0, p3)), (4, (0, p4))], [(0, 1)], w) _
    refine e_Ok.if1 rfl (fun h6 => ?_) (fun h6 => ?_)
    · replace h6 : (1 : Int) = 0 := h6
      exfalso; omega
    · replace h6 : (1 : Int) ≠ 0 := by have q : ¬ ((1 : Int) = 0) := h6; omega
      refine e_Ok.run (t' := (22, [(0, (1, 275)), (1, (0, p1)), (2, (0, p2)), (3, (0, p3)), (4, (0, p4))], [(4, 8000), (4, (-8000)), (4, p2)], w)) 4 rfl ?_
      refine e_Ok.callS rfl (by omega) rfl rfl (c_266) (fun r7 w8 h9 => ?_)
      obtain ⟨z10, rfl, rfl, q11⟩ := h9
      obtain ⟨rfl, q11⟩ | ⟨rfl, q11⟩ := q11
      · show e_Ok 20 elay ecode eI (d + 1) 278 (25, [(0, (1, 275)), (1, (0, p1)), (2, (0, p2)), (3, (0, p3)), (4, (0, p4))], [(0, 1)], w) _
        refine e_Ok.if1 rfl (fun h12 => ?_) (fun h12 => ?_)
        · replace h12 : (1 : Int) = 0 := h12
          exfalso; omega
        · replace h12 : (1 : Int) ≠ 0 := by have q : ¬ ((1 : Int) = 0) := h12; omega
          refine e_Ok.run (t' := (34, [(0, (1, 275)), (1, (0, p1)), (2, (0, p2)), (3, (0, p3)), (4, (0, p4))], [(4, 4095), (4, 0), (4, p3)], w)) 4 rfl ?_
          refine e_Ok.callS rfl (by omega) rfl rfl (c_266) (fun r13 w14 h15 => ?_)
          obtain ⟨z16, rfl, rfl, q17⟩ := h15
          obtain ⟨rfl, q17⟩ | ⟨rfl, q17⟩ := q17
          · show e_Ok 20 elay ecode eI (d + 1) 278 (37, [(0, (1, 275)), (1, (0, p1)), (2, (0, p2)), (3, (0, p3)), (4, (0, p4))], [(0, 1)], w) _
            refine e_Ok.if1 rfl (fun h18 => ?_) (fun h18 => ?_)
            · replace h18 : (1 : Int) = 0 := h18
              exfalso; omega
            · replace h18 : (1 : Int) ≠ 0 := by have q : ¬ ((1 : Int) = 0) := h18; omega
              refine e_Ok.run (t' := (47, [(0, (1, 275)), (1, (0, p1)), (2, (0, p2)), (3, (0, p3)), (4, (0, p4))], [(4, 800), (4, 0), (4, p4)], w)) 4 rfl ?_
              refine e_Ok.callS rfl (by omega) rfl rfl (c_266) (fun r19 w20 h21 => ?_)
              obtain ⟨z22, rfl, rfl, q23⟩ := h21
              obtain ⟨rfl, q23⟩ | ⟨rfl, q23⟩ := q23
              · show e_Ok 20 elay ecode eI (d + 1) 278 (50, [(0, (1, 275)), (1, (0, p1)), (2, (0, p2)), (3, (0, p3)), (4, (0, p4))], [(0, 1)], w) _
                refine e_Ok.if1 rfl (fun h24 => ?_) (fun h24 => ?_)
                · replace h24 : (1 : Int) ≠ 0 := h24
                  refine e_Ok.run (t' := (56, [(0, (1, 275)), (1, (0, p1)), (2, (0, p2)), (3, (0, p3)), (4, (0, p4))], [(1, 275)], w)) 1 rfl ?_
                  refine e_Ok.getf (z := w 275 3) rfl (el_o rfl) rfl rfl rfl (by omega) ?_
                  refine e_Ok.if1 rfl (fun h25 => ?_) (fun h25 => ?_)
                  · replace h25 : (w 275 3 : Int) = 0 := h25
                    refine e_Ok.run (t' := (66, [(0, (1, 275)), (1, (0, p1)), (2, (0, p2)), (3, (0, p3)), (4, (0, p4))], [(1, 275)], w)) 1 rfl ?_
                    refine e_Ok.getf (z := w 275 10) rfl (el_o rfl) rfl rfl rfl (by omega) ?_
                    refine e_Ok.run (t' := (70, [(0, (1, 275)), (1, (0, p1)), (2, (0, p2)), (3, (0, p3)), (4, (0, p4))], [(0, 4), (0, w 275 10)], w)) 1 rfl ?_
                    refine e_Ok.if2 rfl (fun h26 => ?_) (fun h26 => ?_)
                    · replace h26 : (w 275 10 : Int) ≠ 4 := h26
                      refine e_Ok.run (t' := (77, [(0, (1, 275)), (1, (0, p1)), (2, (0, p2)), (3, (0, p3)), (4, (0, p4))], [(1, 275)], w)) 1 rfl ?_
                      refine e_Ok.getr (z := 282) rfl (el_o rfl) rfl rfl (e_Has.eq hT rfl) (by omega) ?_
                      refine e_Ok.run (t' := (81, [(0, (1, 275)), (1, (0, p1)), (2, (0, p2)), (3, (0, p3)), (4, (0, p4))], [(1, 275), (1, 282)], w)) 1 rfl ?_
                      refine e_Ok.getf (z := w 275 10) rfl (el_o rfl) rfl rfl rfl (by omega) ?_
                      refine e_Ok.run (t' := (85, [(0, (1, 275)), (1, (0, p1)), (2, (0, p2)), (3, (0, p3)), (4, (0, p4))], [(0, p1), (0, w 275 10), (1, 282)], w)) 1 rfl ?_
                      refine e_Ok.ast rfl (el_o rfl) rfl rfl (by omega) ?_
                      generalize hw27 : e_up w 282 (w 275 10) p1 = w27
                      have f28 : e_fr (mF 10 282 285) w w27 := e_fr.up (e_fr.refl w) hw27 (by unfold mF; omega)
                      have hT29 : e_Has mTy w27 := e_Has.upr hT hw27 rfl (by omega)
                      refine e_Ok.run (t' := (87, [(0, (1, 275)), (1, (0, p1)), (2, (0, p2)), (3, (0, p3)), (4, (0, p4))], [(1, 275)], w27)) 1 rfl ?_
                      refine e_Ok.getr (z := 283) rfl (el_o rfl) rfl rfl (by rw [← hw27]; exact (e_up_ne _ _ (Or.inl (by omega))).trans (e_Has.eq hT rfl)) (by omega) ?_
                      refine e_Ok.run (t' := (91, [(0, (1, 275)), (1, (0, p1)), (2, (0, p2)), (3, (0, p3)), (4, (0, p4))], [(1, 275), (1, 283)], w27)) 1 rfl ?_
                      refine e_Ok.getf (z := w 275 10) rfl (el_o rfl) rfl rfl (by rw [← hw27]; exact (e_up_ne _ _ (Or.inl (by omega))).trans rfl) (by omega) ?_
                      refine e_Ok.run (t' := (95, [(0, (1, 275)), (1, (0, p1)), (2, (0, p2)), (3, (0, p3)), (4, (0, p4))], [(0, p2), (0, w 275 10), (1, 283)], w27)) 1 rfl ?_
                      refine e_Ok.ast rfl (el_o rfl) rfl rfl (by omega) ?_
                      generalize hw30 : e_up w27 283 (w 275 10) p2 = w30
                      have f31 : e_fr (mF 10 282 285) w w30 := e_fr.up f28 hw30 (by unfold mF; omega)
                      have hT32 : e_Has mTy w30 := e_Has.upr hT29 hw30 rfl (by omega)
                      refine e_Ok.run (t' := (97, [(0, (1, 275)), (1, (0, p1)), (2, (0, p2)), (3, (0, p3)), (4, (0, p4))], [(1, 275)], w30)) 1 rfl ?_
                      refine e_Ok.getr (z := 284) rfl (el_o rfl) rfl rfl (by rw [← hw30]; exact (e_up_ne _ _ (Or.inl (by omega))).trans (by rw [← hw27]; exact (e_up_ne _ _ (Or.inl (by omega))).trans (e_Has.eq hT rfl))) (by omega) ?_
                      refine e_Ok.run (t' := (101, [(0, (1, 275)), (1, (0, p1)), (2, (0, p2)), (3, (0, p3)), (4, (0, p4))], [(1, 275), (1, 284)], w30)) 1 rfl ?_
                      refine e_Ok.getf (z := w 275 10) rfl (el_o rfl) rfl rfl (by rw [← hw30]; exact (e_up_ne _ _ (Or.inl (by omega))).trans (by rw [← hw27]; exact (e_up_ne _ _ (Or.inl (by omega))).trans rfl)) (by omega) ?_
                      refine e_Ok.run (t' := (105, [(0, (1, 275)), (1, (0, p1)), (2, (0, p2)), (3, (0, p3)), (4, (0, p4))], [(0, p3), (0, w 275 10), (1, 284)], w30)) 1 rfl ?_
                      refine e_Ok.ast rfl (el_o rfl) rfl rfl (by omega) ?_
                      generalize hw33 : e_up w30 284 (w 275 10) p3 = w33
                      have f34 : e_fr (mF 10 282 285) w w33 := e_fr.up f31 hw33 (by unfold mF; omega)
                      have hT35 : e_Has mTy w33 := e_Has.upr hT32 hw33 rfl (by omega)
                      refine e_Ok.run (t' := (107, [(0, (1, 275)), (1, (0, p1)), (2, (0, p2)), (3, (0, p3)), (4, (0, p4))], [(1, 275)], w33)) 1 rfl ?_
                      refine e_Ok.getr (z := 285) rfl (el_o rfl) rfl rfl (by rw [← hw33]; exact (e_up_ne _ _ (Or.inl (by omega))).trans (by rw [← hw30]; exact (e_up_ne _ _ (Or.inl (by omega))).trans (by rw [← hw27]; exact (e_up_ne _ _ (Or.inl (by omega))).trans (e_Has.eq hT rfl)))) (by omega) ?_
                      refine e_Ok.run (t' := (111, [(0, (1, 275)), (1, (0, p1)), (2, (0, p2)), (3, (0, p3)), (4, (0, p4))], [(1, 275), (1, 285)], w33)) 1 rfl ?_
                      refine e_Ok.getf (z := w 275 10) rfl (el_o rfl) rfl rfl (by rw [← hw33]; exact (e_up_ne _ _ (Or.inl (by omega))).trans (by rw [← hw30]; exact (e_up_ne _ _ (Or.inl (by omega))).trans (by rw [← hw27]; exact (e_up_ne _ _ (Or.inl (by omega))).trans rfl))) (by omega) ?_
                      refine e_Ok.run (t' := (116, [(0, (1, 275)), (1, (0, p1)), (2, (0, p2)), (3, (0, p3)), (4, (0, p4))], [(0, p4), (0, w 275 10), (1, 285)], w33)) 1 rfl ?_
                      refine e_Ok.ast rfl (el_o rfl) rfl rfl (by omega) ?_
                      generalize hw36 : e_up w33 285 (w 275 10) p4 = w36
                      have f37 : e_fr (mF 10 282 285) w w36 := e_fr.up f34 hw36 (by unfold mF; omega)
                      have hT38 : e_Has mTy w36 := e_Has.upr hT35 hw36 rfl (by omega)
                      refine e_Ok.run (t' := (119, [(0, (1, 275)), (1, (0, p1)), (2, (0, p2)), (3, (0, p3)), (4, (0, p4))], [(1, 275), (1, 275)], w36)) 2 rfl ?_
                      refine e_Ok.getf (z := w 275 10) rfl (el_o rfl) rfl rfl (by rw [← hw36]; exact (e_up_ne _ _ (Or.inl (by omega))).trans (by rw [← hw33]; exact (e_up_ne _ _ (Or.inl (by omega))).trans (by rw [← hw30]; exact (e_up_ne _ _ (Or.inl (by omega))).trans (by rw [← hw27]; exact (e_up_ne _ _ (Or.inl (by omega))).trans rfl)))) (by omega) ?_
                      refine e_Ok.run (t' := (123, [(0, (1, 275)), (1, (0, p1)), (2, (0, p2)), (3, (0, p3)), (4, (0, p4))], [(0, 1), (0, w 275 10), (1, 275)], w36)) 1 rfl ?_
                      refine e_Ok.add (z := w 275 10 + 1) rfl (by omega) (by omega) ?_
                      refine e_Ok.putf rfl (el_o rfl) rfl rfl ?_
                      generalize hw39 : e_up w36 275 10 (w 275 10 + 1) = w39
                      have f40 : e_fr (mF 10 282 285) w w39 := e_fr.up f37 hw39 (by unfold mF; omega)
                      have hT41 : e_Has mTy w39 := e_Has.upr hT38 hw39 rfl (by omega)
                      refine e_Ok.run (t' := (128, [(0, (1, 275)), (1, (0, p1)), (2, (0, p2)), (3, (0, p3)), (4, (0, p4))], [(1, 275)], w39)) 1 rfl ?_
                      refine e_Ok.getf (z := w 275 10 + 1) rfl (el_o rfl) rfl rfl (by rw [← hw39]; exact e_up_eq _ _ _ _) (by omega) ?_
                      refine e_Ok.run (t' := (132, [(0, (1, 275)), (1, (0, p1)), (2, (0, p2)), (3, (0, p3)), (4, (0, p4))], [(0, 1), (0, w 275 10 + 1)], w39)) 1 rfl ?_
                      refine e_Ok.sub' (z := w 275 10) rfl (by omega) (by omega) ?_
                      refine e_Ok.rets rfl rfl ?_
                      have e42 : w39 275 10 = w 275 10 + 1 := (by rw [← hw39]; exact e_up_eq _ _ _ _)
                      exact ⟨_, rfl, f40, hT41, by omega⟩
                    · replace h26 : (w 275 10 : Int) = 4 := by have q : ¬ ((w 275 10 : Int) ≠ 4) := h26; omega
                      refine e_Ok.run (t' := (75, [(0, (1, 275)), (1, (0, p1)), (2, (0, p2)), (3, (0, p3)), (4, (0, p4))], [(0, (-3))], w)) 1 rfl ?_
                      refine e_Ok.rets rfl rfl ?_
                      have e43 : w 275 10 = w 275 10 := rfl
                      exact ⟨_, rfl, (e_fr.refl w), hT, by omega⟩
                  · replace h25 : (w 275 3 : Int) ≠ 0 := by have q : ¬ ((w 275 3 : Int) = 0) := h25; omega
                    refine e_Ok.run (t' := (64, [(0, (1, 275)), (1, (0, p1)), (2, (0, p2)), (3, (0, p3)), (4, (0, p4))], [(0, (-2))], w)) 1 rfl ?_
                    refine e_Ok.rets rfl rfl ?_
                    have e44 : w 275 10 = w 275 10 := rfl
                    exact ⟨_, rfl, (e_fr.refl w), hT, by omega⟩
                · replace h24 : (1 : Int) = 0 := by have q : ¬ ((1 : Int) ≠ 0) := h24; omega
                  exfalso; omega
              · show e_Ok 20 elay ecode eI (d + 1) 278 (50, [(0, (1, 275)), (1, (0, p1)), (2, (0, p2)), (3, (0, p3)), (4, (0, p4))], [(0, 0)], w) _
                refine e_Ok.if1 rfl (fun h45 => ?_) (fun h45 => ?_)
                · replace h45 : (0 : Int) ≠ 0 := h45
                  exfalso; omega
                · replace h45 : (0 : Int) = 0 := by have q : ¬ ((0 : Int) ≠ 0) := h45; omega
                  refine e_Ok.run (t' := (54, [(0, (1, 275)), (1, (0, p1)), (2, (0, p2)), (3, (0, p3)), (4, (0, p4))], [(0, (-1))], w)) 1 rfl ?_
                  refine e_Ok.rets rfl rfl ?_
                  have e46 : w 275 10 = w 275 10 := rfl
                  exact ⟨_, rfl, (e_fr.refl w), hT, by omega⟩
          · show e_Ok 20 elay ecode eI (d + 1) 278 (37, [(0, (1, 275)), (1, (0, p1)), (2, (0, p2)), (3, (0, p3)), (4, (0, p4))], [(0, 0)], w) _
            refine e_Ok.if1 rfl (fun h47 => ?_) (fun h47 => ?_)
            · replace h47 : (0 : Int) = 0 := h47
              refine e_Ok.run (t' := (54, [(0, (1, 275)), (1, (0, p1)), (2, (0, p2)), (3, (0, p3)), (4, (0, p4))], [(0, (-1))], w)) 1 rfl ?_
              refine e_Ok.rets rfl rfl ?_
              have e48 : w 275 10 = w 275 10 := rfl
              exact ⟨_, rfl, (e_fr.refl w), hT, by omega⟩
            · replace h47 : (0 : Int) ≠ 0 := by have q : ¬ ((0 : Int) = 0) := h47; omega
              exfalso; omega
      · show e_Ok 20 elay ecode eI (d + 1) 278 (25, [(0, (1, 275)), (1, (0, p1)), (2, (0, p2)), (3, (0, p3)), (4, (0, p4))], [(0, 0)], w) _
        refine e_Ok.if1 rfl (fun h49 => ?_) (fun h49 => ?_)
        · replace h49 : (0 : Int) = 0 := h49
          refine e_Ok.run (t' := (54, [(0, (1, 275)), (1, (0, p1)), (2, (0, p2)), (3, (0, p3)), (4, (0, p4))], [(0, (-1))], w)) 1 rfl ?_
          refine e_Ok.rets rfl rfl ?_
          have e50 : w 275 10 = w 275 10 := rfl
          exact ⟨_, rfl, (e_fr.refl w), hT, by omega⟩
        · replace h49 : (0 : Int) ≠ 0 := by have q : ¬ ((0 : Int) = 0) := h49; omega
          exfalso; omega
  · show e_Ok 20 elay ecode eI (d + 1) 278 (11, [(0, (1, 275)), (1, (0, p1)), (2, (0, p2)), (3, (0, p3)), (4, (0, p4))], [(0, 0)], w) _
    refine e_Ok.if1 rfl (fun h51 => ?_) (fun h51 => ?_)
    · replace h51 : (0 : Int) = 0 := h51
      refine e_Ok.run (t' := (54, [(0, (1, 275)), (1, (0, p1)), (2, (0, p2)), (3, (0, p3)), (4, (0, p4))], [(0, (-1))], w)) 1 rfl ?_
      refine e_Ok.rets rfl rfl ?_
      have e52 : w 275 10 = w 275 10 := rfl
      exact ⟨_, rfl, (e_fr.refl w), hT, by omega⟩
    · replace h51 : (0 : Int) ≠ 0 := by have q : ¬ ((0 : Int) = 0) := h51; omega
      exfalso; omega
theorem c_280 {d : Nat} (hd : 23 ≤ d) {w : eW} (hT : e_Has mTy w) {p1 p2 p3 : Int} (g1 : (-2147483648) ≤ p1 ∧ p1 ≤ 2147483647) (g2 : (-2147483648) ≤ p2 ∧ p2 ≤ 2147483647) (g3 : (-2147483648) ≤ p3 ∧ p3 ≤ 2147483647) : e_Ok 20 elay ecode eI d 280 (0, [(0, (1, 275)), (1, (0, p1)), (2, (0, p2)), (3, (0, p3))], [], w) (fun r w' => ∃ z : Int, r = [(0, z)] ∧ e_fr (mF (-1) 293 293) w w' ∧ e_Has mTy w' ∧ True) := by
  obtain ⟨d, rfl⟩ : ∃ e, d = e + 1 := ⟨d - 1, by omega⟩
  refine e_Ok.run (t' := (3, [(0, (1, 275)), (1, (0, p1)), (2, (0, p2)), (3, (0, p3))], [(0, p2), (0, p1), (1, 275)], w)) 3 rfl ?_
  refine e_Ok.callV rfl (by omega) rfl rfl rfl rfl (c_271 (by omega) hT) (fun r1 w2 h3 => ?_)
  obtain ⟨z4, rfl, rfl, q5⟩ := h3
  have h6 := e_Has.get hT (c := 275) (k := 10) (lo := 0) (hi := 4) rfl (by decide)
  have h7 := e_Has.get hT (c := 286) (k := p1) (lo := 0) (hi := 6) rfl (by decide)
  obtain ⟨rfl, q5⟩ | ⟨rfl, q5⟩ := q5
  · show e_Ok 20 elay ecode eI (d + 1) 280 (6, [(0, (1, 275)), (1, (0, p1)), (2, (0, p2)), (3, (0, p3))], [(0, 1)], w) _
    refine e_Ok.if1 rfl (fun h8 => ?_) (fun h8 => ?_)
    · replace h8 : (1 : Int) = 0 := h8
      exfalso; omega
    · replace h8 : (1 : Int) ≠ 0 := by have q : ¬ ((1 : Int) = 0) := h8; omega
      refine e_Ok.run (t' := (15, [(0, (1, 275)), (1, (0, p1)), (2, (0, p2)), (3, (0, p3))], [(4, 800), (4, 0), (4, p3)], w)) 4 rfl ?_
      refine e_Ok.callS rfl (by omega) rfl rfl (c_266) (fun r9 w10 h11 => ?_)
      obtain ⟨z12, rfl, rfl, q13⟩ := h11
      obtain ⟨rfl, q13⟩ | ⟨rfl, q13⟩ := q13
      · show e_Ok 20 elay ecode eI (d + 1) 280 (18, [(0, (1, 275)), (1, (0, p1)), (2, (0, p2)), (3, (0, p3))], [(0, 1)], w) _
        refine e_Ok.if1 rfl (fun h14 => ?_) (fun h14 => ?_)
        · replace h14 : (1 : Int) ≠ 0 := h14
          refine e_Ok.run (t' := (24, [(0, (1, 275)), (1, (0, p1)), (2, (0, p2)), (3, (0, p3))], [(1, 275)], w)) 1 rfl ?_
          have h15 := (e_Has.get hT (c := 275) (k := 3) (lo := 0) (hi := 1) rfl (by decide))
          refine e_Ok.getf (z := w 275 3) rfl (el_o rfl) rfl rfl rfl (by omega) ?_
          refine e_Ok.if1 rfl (fun h16 => ?_) (fun h16 => ?_)
          · replace h16 : (w 275 3 : Int) = 0 := h16
            refine e_Ok.run (t' := (34, [(0, (1, 275)), (1, (0, p1)), (2, (0, p2)), (3, (0, p3))], [(1, 275)], w)) 1 rfl ?_
            refine e_Ok.getr (z := 293) rfl (el_o rfl) rfl rfl (e_Has.eq hT rfl) (by omega) ?_
            refine e_Ok.run (t' := (40, [(0, (1, 275)), (1, (0, p1)), (2, (0, p2)), (3, (0, p3))], [(0, p1), (0, 6), (1, 293)], w)) 2 rfl ?_
            refine e_Ok.mul (z := 6 * p1) rfl (by omega) (by omega) ?_
            refine e_Ok.run (t' := (42, [(0, (1, 275)), (1, (0, p1)), (2, (0, p2)), (3, (0, p3))], [(0, p2), (0, 6 * p1), (1, 293)], w)) 1 rfl ?_
            refine e_Ok.add (z := 6 * p1 + p2) rfl (by omega) (by omega) ?_
            have h17 := (e_Has.get hT (c := 293) (k := 6 * p1 + p2) (lo := 0) (hi := 800) rfl (by decide))
            refine e_Ok.ald (z := w 293 (6 * p1 + p2)) rfl (el_o rfl) rfl (by omega) rfl (by omega) ?_
            refine e_Ok.run (t' := (47, [(4, (0, w 293 (6 * p1 + p2))), (0, (1, 275)), (1, (0, p1)), (2, (0, p2)), (3, (0, p3))], [(1, 275)], w)) 2 rfl ?_
            refine e_Ok.getr (z := 293) rfl (el_o rfl) rfl rfl (e_Has.eq hT rfl) (by omega) ?_
            refine e_Ok.run (t' := (53, [(4, (0, w 293 (6 * p1 + p2))), (0, (1, 275)), (1, (0, p1)), (2, (0, p2)), (3, (0, p3))], [(0, p1), (0, 6), (1, 293)], w)) 2 rfl ?_
            refine e_Ok.mul (z := 6 * p1) rfl (by omega) (by omega) ?_
            refine e_Ok.run (t' := (55, [(4, (0, w 293 (6 * p1 + p2))), (0, (1, 275)), (1, (0, p1)), (2, (0, p2)), (3, (0, p3))], [(0, p2), (0, 6 * p1), (1, 293)], w)) 1 rfl ?_
            refine e_Ok.add (z := 6 * p1 + p2) rfl (by omega) (by omega) ?_
            refine e_Ok.run (t' := (57, [(4, (0, w 293 (6 * p1 + p2))), (0, (1, 275)), (1, (0, p1)), (2, (0, p2)), (3, (0, p3))], [(0, p3), (0, 6 * p1 + p2), (1, 293)], w)) 1 rfl ?_
            refine e_Ok.ast rfl (el_o rfl) rfl rfl (by omega) ?_
            generalize hw18 : e_up w 293 (6 * p1 + p2) p3 = w18
            have f19 : e_fr (mF (-1) 293 293) w w18 := e_fr.up (e_fr.refl w) hw18 (by unfold mF; omega)
            have hT20 : e_Has mTy w18 := e_Has.upr hT hw18 rfl (by omega)
            refine e_Ok.run (t' := (60, [(4, (0, w 293 (6 * p1 + p2))), (0, (1, 275)), (1, (0, p1)), (2, (0, p2)), (3, (0, p3))], [(0, w 293 (6 * p1 + p2))], w18)) 1 rfl ?_
            refine e_Ok.rets rfl rfl ?_
            exact ⟨_, rfl, f19, hT20, trivial⟩
          · replace h16 : (w 275 3 : Int) ≠ 0 := by have q : ¬ ((w 275 3 : Int) = 0) := h16; omega
            refine e_Ok.run (t' := (32, [(0, (1, 275)), (1, (0, p1)), (2, (0, p2)), (3, (0, p3))], [(0, (-2))], w)) 1 rfl ?_
            refine e_Ok.rets rfl rfl ?_
            exact ⟨_, rfl, (e_fr.refl w), hT, trivial⟩
        · replace h14 : (1 : Int) = 0 := by have q : ¬ ((1 : Int) ≠ 0) := h14; omega
          exfalso; omega
      · show e_Ok 20 elay ecode eI (d + 1) 280 (18, [(0, (1, 275)), (1, (0, p1)), (2, (0, p2)), (3, (0, p3))], [(0, 0)], w) _
        refine e_Ok.if1 rfl (fun h21 => ?_) (fun h21 => ?_)
        · replace h21 : (0 : Int) ≠ 0 := h21
          exfalso; omega
        · replace h21 : (0 : Int) = 0 := by have q : ¬ ((0 : Int) ≠ 0) := h21; omega
          refine e_Ok.run (t' := (22, [(0, (1, 275)), (1, (0, p1)), (2, (0, p2)), (3, (0, p3))], [(0, (-1))], w)) 1 rfl ?_
          refine e_Ok.rets rfl rfl ?_
          exact ⟨_, rfl, (e_fr.refl w), hT, trivial⟩
  · show e_Ok 20 elay ecode eI (d + 1) 280 (6, [(0, (1, 275)), (1, (0, p1)), (2, (0, p2)), (3, (0, p3))], [(0, 0)], w) _
    refine e_Ok.if1 rfl (fun h22 => ?_) (fun h22 => ?_)
    · replace h22 : (0 : Int) = 0 := h22
      refine e_Ok.run (t' := (22, [(0, (1, 275)), (1, (0, p1)), (2, (0, p2)), (3, (0, p3))], [(0, (-1))], w)) 1 rfl ?_
      refine e_Ok.rets rfl rfl ?_
      exact ⟨_, rfl, (e_fr.refl w), hT, trivial⟩
    · replace h22 : (0 : Int) ≠ 0 := by have q : ¬ ((0 : Int) = 0) := h22; omega
      exfalso; omega
theorem c_281 {d : Nat} (hd : 23 ≤ d) {w : eW} (hT : e_Has mTy w) {p1 p2 p3 p4 : Int} (g1 : (-2147483648) ≤ p1 ∧ p1 ≤ 2147483647) (g2 : (-2147483648) ≤ p2 ∧ p2 ≤ 2147483647) (g3 : (-2147483648) ≤ p3 ∧ p3 ≤ 2147483647) (g4 : (-2147483648) ≤ p4 ∧ p4 ≤ 2147483647) : e_Ok 20 elay ecode eI d 281 (0, [(0, (1, 275)), (1, (0, p1)), (2, (0, p2)), (3, (0, p3)), (4, (0, p4))], [], w) (fun r w' => ∃ z : Int, r = [(0, z)] ∧ e_fr (mF (-1) 290 291) w w' ∧ e_Has mTy w' ∧ True) := by
  obtain ⟨d, rfl⟩ : ∃ e, d = e + 1 := ⟨d - 1, by omega⟩
  refine e_Ok.run (t' := (3, [(0, (1, 275)), (1, (0, p1)), (2, (0, p2)), (3, (0, p3)), (4, (0, p4))], [(0, p2), (0, p1), (1, 275)], w)) 3 rfl ?_
  refine e_Ok.callV rfl (by omega) rfl rfl rfl rfl (c_271 (by omega) hT) (fun r1 w2 h3 => ?_)
  obtain ⟨z4, rfl, rfl, q5⟩ := h3
  have h6 := e_Has.get hT (c := 275) (k := 10) (lo := 0) (hi := 4) rfl (by decide)
  have h7 := e_Has.get hT (c := 286) (k := p1) (lo := 0) (hi := 6) rfl (by decide)
  obtain ⟨rfl, q5⟩ | ⟨rfl, q5⟩ := q5
  · show e_Ok 20 elay ecode eI (d + 1) 281 (6, [(0, (1, 275)), (1, (0, p1)), (2, (0, p2)), (3, (0, p3)), (4, (0, p4))], [(0, 1)], w) _
    refine e_Ok.if1 rfl (fun h8 => ?_) (fun h8 => ?_)
    · replace h8 : (1 : Int) = 0 := h8
      exfalso; omega
    · replace h8 : (1 : Int) ≠ 0 := by have q : ¬ ((1 : Int) = 0) := h8; omega
      refine e_Ok.run (t' := (15, [(0, (1, 275)), (1, (0, p1)), (2, (0, p2)), (3, (0, p3)), (4, (0, p4))], [(4, 2000), (4, 1), (4, p3)], w)) 4 rfl ?_
      refine e_Ok.callS rfl (by omega) rfl rfl (c_266) (fun r9 w10 h11 => ?_)
      obtain ⟨z12, rfl, rfl, q13⟩ := h11
      obtain ⟨rfl, q13⟩ | ⟨rfl, q13⟩ := q13
      · show e_Ok 20 elay ecode eI (d + 1) 281 (18, [(0, (1, 275)), (1, (0, p1)), (2, (0, p2)), (3, (0, p3)), (4, (0, p4))], [(0, 1)], w) _
        refine e_Ok.if1 rfl (fun h14 => ?_) (fun h14 => ?_)
        · replace h14 : (1 : Int) = 0 := h14
          exfalso; omega
        · replace h14 : (1 : Int) ≠ 0 := by have q : ¬ ((1 : Int) = 0) := h14; omega
          refine e_Ok.run (t' := (28, [(0, (1, 275)), (1, (0, p1)), (2, (0, p2)), (3, (0, p3)), (4, (0, p4))], [(4, 2000), (4, 1), (4, p4)], w)) 4 rfl ?_
          refine e_Ok.callS rfl (by omega) rfl rfl (c_266) (fun r15 w16 h17 => ?_)
          obtain ⟨z18, rfl, rfl, q19⟩ := h17
          obtain ⟨rfl, q19⟩ | ⟨rfl, q19⟩ := q19
          · show e_Ok 20 elay ecode eI (d + 1) 281 (31, [(0, (1, 275)), (1, (0, p1)), (2, (0, p2)), (3, (0, p3)), (4, (0, p4))], [(0, 1)], w) _
            refine e_Ok.if1 rfl (fun h20 => ?_) (fun h20 => ?_)
            · replace h20 : (1 : Int) ≠ 0 := h20
              refine e_Ok.run (t' := (37, [(0, (1, 275)), (1, (0, p1)), (2, (0, p2)), (3, (0, p3)), (4, (0, p4))], [(1, 275)], w)) 1 rfl ?_
              have h21 := (e_Has.get hT (c := 275) (k := 3) (lo := 0) (hi := 1) rfl (by decide))
              refine e_Ok.getf (z := w 275 3) rfl (el_o rfl) rfl rfl rfl (by omega) ?_
              refine e_Ok.if1 rfl (fun h22 => ?_) (fun h22 => ?_)
              · replace h22 : (w 275 3 : Int) = 0 := h22
                refine e_Ok.run (t' := (47, [(0, (1, 275)), (1, (0, p1)), (2, (0, p2)), (3, (0, p3)), (4, (0, p4))], [(1, 275)], w)) 1 rfl ?_
                refine e_Ok.getr (z := 290) rfl (el_o rfl) rfl rfl (e_Has.eq hT rfl) (by omega) ?_
                refine e_Ok.run (t' := (53, [(0, (1, 275)), (1, (0, p1)), (2, (0, p2)), (3, (0, p3)), (4, (0, p4))], [(0, p1), (0, 6), (1, 290)], w)) 2 rfl ?_
                refine e_Ok.mul (z := 6 * p1) rfl (by omega) (by omega) ?_
                refine e_Ok.run (t' := (55, [(0, (1, 275)), (1, (0, p1)), (2, (0, p2)), (3, (0, p3)), (4, (0, p4))], [(0, p2), (0, 6 * p1), (1, 290)], w)) 1 rfl ?_
                refine e_Ok.add (z := 6 * p1 + p2) rfl (by omega) (by omega) ?_
                refine e_Ok.run (t' := (57, [(0, (1, 275)), (1, (0, p1)), (2, (0, p2)), (3, (0, p3)), (4, (0, p4))], [(0, p3), (0, 6 * p1 + p2), (1, 290)], w)) 1 rfl ?_
                refine e_Ok.ast rfl (el_o rfl) rfl rfl (by omega) ?_
                generalize hw23 : e_up w 290 (6 * p1 + p2) p3 = w23
                have f24 : e_fr (mF (-1) 290 291) w w23 := e_fr.up (e_fr.refl w) hw23 (by unfold mF; omega)
                have hT25 : e_Has mTy w23 := e_Has.upr hT hw23 rfl (by omega)
                refine e_Ok.run (t' := (59, [(0, (1, 275)), (1, (0, p1)), (2, (0, p2)), (3, (0, p3)), (4, (0, p4))], [(1, 275)], w23)) 1 rfl ?_
                refine e_Ok.getr (z := 291) rfl (el_o rfl) rfl rfl (by rw [← hw23]; exact (e_up_ne _ _ (Or.inl (by omega))).trans (e_Has.eq hT rfl)) (by omega) ?_
                refine e_Ok.run (t' := (65, [(0, (1, 275)), (1, (0, p1)), (2, (0, p2)), (3, (0, p3)), (4, (0, p4))], [(0, p1), (0, 6), (1, 291)], w23)) 2 rfl ?_
                refine e_Ok.mul (z := 6 * p1) rfl (by omega) (by omega) ?_
                refine e_Ok.run (t' := (67, [(0, (1, 275)), (1, (0, p1)), (2, (0, p2)), (3, (0, p3)), (4, (0, p4))], [(0, p2), (0, 6 * p1), (1, 291)], w23)) 1 rfl ?_
                refine e_Ok.add (z := 6 * p1 + p2) rfl (by omega) (by omega) ?_
                refine e_Ok.run (t' := (70, [(0, (1, 275)), (1, (0, p1)), (2, (0, p2)), (3, (0, p3)), (4, (0, p4))], [(0, p4), (0, 6 * p1 + p2), (1, 291)], w23)) 1 rfl ?_
                refine e_Ok.ast rfl (el_o rfl) rfl rfl (by omega) ?_
                generalize hw26 : e_up w23 291 (6 * p1 + p2) p4 = w26
                have f27 : e_fr (mF (-1) 290 291) w w26 := e_fr.up f24 hw26 (by unfold mF; omega)
                have hT28 : e_Has mTy w26 := e_Has.upr hT25 hw26 rfl (by omega)
                refine e_Ok.run (t' := (72, [(0, (1, 275)), (1, (0, p1)), (2, (0, p2)), (3, (0, p3)), (4, (0, p4))], [(0, 0)], w26)) 1 rfl ?_
                refine e_Ok.rets rfl rfl ?_
                exact ⟨_, rfl, f27, hT28, trivial⟩
              · replace h22 : (w 275 3 : Int) ≠ 0 := by have q : ¬ ((w 275 3 : Int) = 0) := h22; omega
                refine e_Ok.run (t' := (45, [(0, (1, 275)), (1, (0, p1)), (2, (0, p2)), (3, (0, p3)), (4, (0, p4))], [(0, (-2))], w)) 1 rfl ?_
                refine e_Ok.rets rfl rfl ?_
                exact ⟨_, rfl, (e_fr.refl w), hT, trivial⟩
            · replace h20 : (1 : Int) = 0 := by have q : ¬ ((1 : Int) ≠ 0) := h20; omega
              exfalso; omega
          · show e_Ok 20 elay ecode eI (d + 1) 281 (31, [(0, (1, 275)), (1, (0, p1)), (2, (0, p2)), (3, (0, p3)), (4, (0, p4))], [(0, 0)], w) _
            refine e_Ok.if1 rfl (fun h29 => ?_) (fun h29 => ?_)
            · replace h29 : (0 : Int) ≠ 0 := h29
              exfalso; omega
            · replace h29 : (0 : Int) = 0 := by have q : ¬ ((0 : Int) ≠ 0) := h29; omega
              refine e_Ok.run (t' := (35, [(0, (1, 275)), (1, (0, p1)), (2, (0, p2)), (3, (0, p3)), (4, (0, p4))], [(0, (-1))], w)) 1 rfl ?_
              refine e_Ok.rets rfl rfl ?_
              exact ⟨_, rfl, (e_fr.refl w), hT, trivial⟩
      · show e_Ok 20 elay ecode eI (d + 1) 281 (18, [(0, (1, 275)), (1, (0, p1)), (2, (0, p2)), (3, (0, p3)), (4, (0, p4))], [(0, 0)], w) _
        refine e_Ok.if1 rfl (fun h30 => ?_) (fun h30 => ?_)
        · replace h30 : (0 : Int) = 0 := h30
          refine e_Ok.run (t' := (35, [(0, (1, 275)), (1, (0, p1)), (2, (0, p2)), (3, (0, p3)), (4, (0, p4))], [(0, (-1))], w)) 1 rfl ?_
          refine e_Ok.rets rfl rfl ?_
          exact ⟨_, rfl, (e_fr.refl w), hT, trivial⟩
        · replace h30 : (0 : Int) ≠ 0 := by have q : ¬ ((0 : Int) = 0) := h30; omega
          exfalso; omega
  · show e_Ok 20 elay ecode eI (d + 1) 281 (6, [(0, (1, 275)), (1, (0, p1)), (2, (0, p2)), (3, (0, p3)), (4, (0, p4))], [(0, 0)], w) _
    refine e_Ok.if1 rfl (fun h31 => ?_) (fun h31 => ?_)
    · replace h31 : (0 : Int) = 0 := h31
      refine e_Ok.run (t' := (35, [(0, (1, 275)), (1, (0, p1)), (2, (0, p2)), (3, (0, p3)), (4, (0, p4))], [(0, (-1))], w)) 1 rfl ?_
      refine e_Ok.rets rfl rfl ?_
      exact ⟨_, rfl, (e_fr.refl w), hT, trivial⟩
    · replace h31 : (0 : Int) ≠ 0 := by have q : ¬ ((0 : Int) = 0) := h31; omega
      exfalso; omega
theorem c_282 {d : Nat} (hd : 23 ≤ d) {w : eW} (hT : e_Has mTy w) {p1 p2 p3 p4 p5 : Int} (g1 : 0 ≤ p1 ∧ p1 ≤ 1) (g2 : (-16000) ≤ p2 ∧ p2 ≤ 16000) (g3 : (-16000) ≤ p3 ∧ p3 ≤ 16000) (g4 : (-2147483648) ≤ p4 ∧ p4 ≤ 2147483647) (g5 : (-2147483648) ≤ p5 ∧ p5 ≤ 2147483647) : e_Ok 20 elay ecode eI d 282 (0, [(0, (1, 275)), (1, (0, p1)), (2, (0, p2)), (3, (0, p3)), (4, (0, p4)), (5, (0, p5))], [], w) (fun r w' => ∃ z : Int, r = [(0, z)] ∧ e_fr (mF 23 294 298) w w' ∧ e_Has mTy w' ∧ True) := by
  refine e_Ok.run (t' := (1, [(0, (1, 275)), (1, (0, p1)), (2, (0, p2)), (3, (0, p3)), (4, (0, p4)), (5, (0, p5))], [(1, 275)], w)) 1 rfl ?_
  have h1 := (e_Has.get hT (c := 275) (k := 3) (lo := 0) (hi := 1) rfl (by decide))
  refine e_Ok.getf (z := w 275 3) rfl (el_o rfl) rfl rfl rfl (by omega) ?_
  refine e_Ok.if1 rfl (fun h2 => ?_) (fun h2 => ?_)
  · replace h2 : (w 275 3 : Int) = 0 := h2
    refine e_Ok.run (t' := (11, [(0, (1, 275)), (1, (0, p1)), (2, (0, p2)), (3, (0, p3)), (4, (0, p4)), (5, (0, p5))], [(1, 275)], w)) 1 rfl ?_
    have h3 := (e_Has.get hT (c := 275) (k := 23) (lo := 0) (hi := 16) rfl (by decide))
    refine e_Ok.getf (z := w 275 23) rfl (el_o rfl) rfl rfl rfl (by omega) ?_
    refine e_Ok.run (t' := (16, [(0, (1, 275)), (1, (0, p1)), (2, (0, p2)), (3, (0, p3)), (4, (0, p4)), (5, (0, p5))], [(0, 16), (0, w 275 23)], w)) 1 rfl ?_
    refine e_Ok.if2 rfl (fun h4 => ?_) (fun h4 => ?_)
    · replace h4 : (w 275 23 : Int) ≠ 16 := h4
      refine e_Ok.run (t' := (23, [(0, (1, 275)), (1, (0, p1)), (2, (0, p2)), (3, (0, p3)), (4, (0, p4)), (5, (0, p5))], [(1, 275)], w)) 1 rfl ?_
      refine e_Ok.getr (z := 294) rfl (el_o rfl) rfl rfl (e_Has.eq hT rfl) (by omega) ?_
      refine e_Ok.run (t' := (27, [(0, (1, 275)), (1, (0, p1)), (2, (0, p2)), (3, (0, p3)), (4, (0, p4)), (5, (0, p5))], [(1, 275), (1, 294)], w)) 1 rfl ?_
      refine e_Ok.getf (z := w 275 23) rfl (el_o rfl) rfl rfl rfl (by omega) ?_
      refine e_Ok.run (t' := (31, [(0, (1, 275)), (1, (0, p1)), (2, (0, p2)), (3, (0, p3)), (4, (0, p4)), (5, (0, p5))], [(0, p1), (0, w 275 23), (1, 294)], w)) 1 rfl ?_
      refine e_Ok.ast rfl (el_o rfl) rfl (e_nar_b (by omega)) (by omega) ?_
      generalize hw5 : e_up w 294 (w 275 23) p1 = w5
      have f6 : e_fr (mF 23 294 298) w w5 := e_fr.up (e_fr.refl w) hw5 (by unfold mF; omega)
      have hT7 : e_Has mTy w5 := e_Has.upr hT hw5 rfl (by omega)
      refine e_Ok.run (t' := (33, [(0, (1, 275)), (1, (0, p1)), (2, (0, p2)), (3, (0, p3)), (4, (0, p4)), (5, (0, p5))], [(1, 275)], w5)) 1 rfl ?_
      refine e_Ok.getr (z := 295) rfl (el_o rfl) rfl rfl (by rw [← hw5]; exact (e_up_ne _ _ (Or.inl (by omega))).trans (e_Has.eq hT rfl)) (by omega) ?_
      refine e_Ok.run (t' := (37, [(0, (1, 275)), (1, (0, p1)), (2, (0, p2)), (3, (0, p3)), (4, (0, p4)), (5, (0, p5))], [(1, 275), (1, 295)], w5)) 1 rfl ?_
      refine e_Ok.getf (z := w 275 23) rfl (el_o rfl) rfl rfl (by rw [← hw5]; exact (e_up_ne _ _ (Or.inl (by omega))).trans rfl) (by omega) ?_
      refine e_Ok.run (t' := (41, [(0, (1, 275)), (1, (0, p1)), (2, (0, p2)), (3, (0, p3)), (4, (0, p4)), (5, (0, p5))], [(0, p2), (0, w 275 23), (1, 295)], w5)) 1 rfl ?_
      refine e_Ok.ast rfl (el_o rfl) rfl rfl (by omega) ?_
      generalize hw8 : e_up w5 295 (w 275 23) p2 = w8
      have f9 : e_fr (mF 23 294 298) w w8 := e_fr.up f6 hw8 (by unfold mF; omega)
      have hT10 : e_Has mTy w8 := e_Has.upr hT7 hw8 rfl (by omega)
      refine e_Ok.run (t' := (43, [(0, (1, 275)), (1, (0, p1)), (2, (0, p2)), (3, (0, p3)), (4, (0, p4)), (5, (0, p5))], [(1, 275)], w8)) 1 rfl ?_
      refine e_Ok.getr (z := 296) rfl (el_o rfl) rfl rfl (by rw [← hw8]; exact (e_up_ne _ _ (Or.inl (by omega))).trans (by rw [← hw5]; exact (e_up_ne _ _ (Or.inl (by omega))).trans (e_Has.eq hT rfl))) (by omega) ?_
      refine e_Ok.run (t' := (47, [(0, (1, 275)), (1, (0, p1)), (2, (0, p2)), (3, (0, p3)), (4, (0, p4)), (5, (0, p5))], [(1, 275), (1, 296)], w8)) 1 rfl ?_
      refine e_Ok.getf (z := w 275 23) rfl (el_o rfl) rfl rfl (by rw [← hw8]; exact (e_up_ne _ _ (Or.inl (by omega))).trans (by rw [← hw5]; exact (e_up_ne _ _ (Or.inl (by omega))).trans rfl)) (by omega) ?_
      refine e_Ok.run (t' := (51, [(0, (1, 275)), (1, (0, p1)), (2, (0, p2)), (3, (0, p3)), (4, (0, p4)), (5, (0, p5))], [(0, p3), (0, w 275 23), (1, 296)], w8)) 1 rfl ?_
      refine e_Ok.ast rfl (el_o rfl) rfl rfl (by omega) ?_
      generalize hw11 : e_up w8 296 (w 275 23) p3 = w11
      have f12 : e_fr (mF 23 294 298) w w11 := e_fr.up f9 hw11 (by unfold mF; omega)
      have hT13 : e_Has mTy w11 := e_Has.upr hT10 hw11 rfl (by omega)
      refine e_Ok.run (t' := (53, [(0, (1, 275)), (1, (0, p1)), (2, (0, p2)), (3, (0, p3)), (4, (0, p4)), (5, (0, p5))], [(1, 275)], w11)) 1 rfl ?_
      refine e_Ok.getr (z := 297) rfl (el_o rfl) rfl rfl (by rw [← hw11]; exact (e_up_ne _ _ (Or.inl (by omega))).trans (by rw [← hw8]; exact (e_up_ne _ _ (Or.inl (by omega))).trans (by rw [← hw5]; exact (e_up_ne _ _ (Or.inl (by omega))).trans (e_Has.eq hT rfl)))) (by omega) ?_
      refine e_Ok.run (t' := (57, [(0, (1, 275)), (1, (0, p1)), (2, (0, p2)), (3, (0, p3)), (4, (0, p4)), (5, (0, p5))], [(1, 275), (1, 297)], w11)) 1 rfl ?_
      refine e_Ok.getf (z := w 275 23) rfl (el_o rfl) rfl rfl (by rw [← hw11]; exact (e_up_ne _ _ (Or.inl (by omega))).trans (by rw [← hw8]; exact (e_up_ne _ _ (Or.inl (by omega))).trans (by rw [← hw5]; exact (e_up_ne _ _ (Or.inl (by omega))).trans rfl))) (by omega) ?_
      refine e_Ok.run (t' := (62, [(0, (1, 275)), (1, (0, p1)), (2, (0, p2)), (3, (0, p3)), (4, (0, p4)), (5, (0, p5))], [(0, p4), (0, w 275 23), (1, 297)], w11)) 1 rfl ?_
      refine e_Ok.ast rfl (el_o rfl) rfl rfl (by omega) ?_
      generalize hw14 : e_up w11 297 (w 275 23) p4 = w14
      have f15 : e_fr (mF 23 294 298) w w14 := e_fr.up f12 hw14 (by unfold mF; omega)
      have hT16 : e_Has mTy w14 := e_Has.upr hT13 hw14 rfl (by omega)
      refine e_Ok.run (t' := (64, [(0, (1, 275)), (1, (0, p1)), (2, (0, p2)), (3, (0, p3)), (4, (0, p4)), (5, (0, p5))], [(1, 275)], w14)) 1 rfl ?_
      refine e_Ok.getr (z := 298) rfl (el_o rfl) rfl rfl (by rw [← hw14]; exact (e_up_ne _ _ (Or.inl (by omega))).trans (by rw [← hw11]; exact (e_up_ne _ _ (Or.inl (by omega))).trans (by rw [← hw8]; exact (e_up_ne _ _ (Or.inl (by omega))).trans (by rw [← hw5]; exact (e_up_ne _ _ (Or.inl (by omega))).trans (e_Has.eq hT rfl))))) (by omega) ?_
      refine e_Ok.run (t' := (68, [(0, (1, 275)), (1, (0, p1)), (2, (0, p2)), (3, (0, p3)), (4, (0, p4)), (5, (0, p5))], [(1, 275), (1, 298)], w14)) 1 rfl ?_
      refine e_Ok.getf (z := w 275 23) rfl (el_o rfl) rfl rfl (by rw [← hw14]; exact (e_up_ne _ _ (Or.inl (by omega))).trans (by rw [← hw11]; exact (e_up_ne _ _ (Or.inl (by omega))).trans (by rw [← hw8]; exact (e_up_ne _ _ (Or.inl (by omega))).trans (by rw [← hw5]; exact (e_up_ne _ _ (Or.inl (by omega))).trans rfl)))) (by omega) ?_
      refine e_Ok.run (t' := (73, [(0, (1, 275)), (1, (0, p1)), (2, (0, p2)), (3, (0, p3)), (4, (0, p4)), (5, (0, p5))], [(0, p5), (0, w 275 23), (1, 298)], w14)) 1 rfl ?_
      refine e_Ok.ast rfl (el_o rfl) rfl rfl (by omega) ?_
      generalize hw17 : e_up w14 298 (w 275 23) p5 = w17
      have f18 : e_fr (mF 23 294 298) w w17 := e_fr.up f15 hw17 (by unfold mF; omega)
      have hT19 : e_Has mTy w17 := e_Has.upr hT16 hw17 rfl (by omega)
      refine e_Ok.run (t' := (76, [(0, (1, 275)), (1, (0, p1)), (2, (0, p2)), (3, (0, p3)), (4, (0, p4)), (5, (0, p5))], [(1, 275), (1, 275)], w17)) 2 rfl ?_
      refine e_Ok.getf (z := w 275 23) rfl (el_o rfl) rfl rfl (by rw [← hw17]; exact (e_up_ne _ _ (Or.inl (by omega))).trans (by rw [← hw14]; exact (e_up_ne _ _ (Or.inl (by omega))).trans (by rw [← hw11]; exact (e_up_ne _ _ (Or.inl (by omega))).trans (by rw [← hw8]; exact (e_up_ne _ _ (Or.inl (by omega))).trans (by rw [← hw5]; exact (e_up_ne _ _ (Or.inl (by omega))).trans rfl))))) (by omega) ?_
      refine e_Ok.run (t' := (80, [(0, (1, 275)), (1, (0, p1)), (2, (0, p2)), (3, (0, p3)), (4, (0, p4)), (5, (0, p5))], [(0, 1), (0, w 275 23), (1, 275)], w17)) 1 rfl ?_
      refine e_Ok.add (z := w 275 23 + 1) rfl (by omega) (by omega) ?_
      refine e_Ok.putf rfl (el_o rfl) rfl rfl ?_
      generalize hw20 : e_up w17 275 23 (w 275 23 + 1) = w20
      have f21 : e_fr (mF 23 294 298) w w20 := e_fr.up f18 hw20 (by unfold mF; omega)
      have hT22 : e_Has mTy w20 := e_Has.upr hT19 hw20 rfl (by omega)
      refine e_Ok.run (t' := (85, [(0, (1, 275)), (1, (0, p1)), (2, (0, p2)), (3, (0, p3)), (4, (0, p4)), (5, (0, p5))], [(1, 275)], w20)) 1 rfl ?_
      refine e_Ok.getf (z := w 275 23 + 1) rfl (el_o rfl) rfl rfl (by rw [← hw20]; exact e_up_eq _ _ _ _) (by omega) ?_
      refine e_Ok.run (t' := (89, [(0, (1, 275)), (1, (0, p1)), (2, (0, p2)), (3, (0, p3)), (4, (0, p4)), (5, (0, p5))], [(0, 1), (0, w 275 23 + 1)], w20)) 1 rfl ?_
      refine e_Ok.sub' (z := w 275 23) rfl (by omega) (by omega) ?_
      refine e_Ok.rets rfl rfl ?_
      exact ⟨_, rfl, f21, hT22, trivial⟩
    · replace h4 : (w 275 23 : Int) = 16 := by have q : ¬ ((w 275 23 : Int) ≠ 16) := h4; omega
      refine e_Ok.run (t' := (21, [(0, (1, 275)), (1, (0, p1)), (2, (0, p2)), (3, (0, p3)), (4, (0, p4)), (5, (0, p5))], [(0, (-3))], w)) 1 rfl ?_
      refine e_Ok.rets rfl rfl ?_
      exact ⟨_, rfl, (e_fr.refl w), hT, trivial⟩
  · replace h2 : (w 275 3 : Int) ≠ 0 := by have q : ¬ ((w 275 3 : Int) = 0) := h2; omega
    refine e_Ok.run (t' := (9, [(0, (1, 275)), (1, (0, p1)), (2, (0, p2)), (3, (0, p3)), (4, (0, p4)), (5, (0, p5))], [(0, (-2))], w)) 1 rfl ?_
    refine e_Ok.rets rfl rfl ?_
    exact ⟨_, rfl, (e_fr.refl w), hT, trivial⟩
theorem c_283 {d : Nat} (hd : 25 ≤ d) {w : eW} (hT : e_Has mTy w) {p1 p2 p3 : Int} (g1 : (-2147483648) ≤ p1 ∧ p1 ≤ 2147483647) (g2 : (-2147483648) ≤ p2 ∧ p2 ≤ 2147483647) (g3 : (-2147483648) ≤ p3 ∧ p3 ≤ 2147483647) : e_Ok 20 elay ecode eI d 283 (0, [(0, (1, 275)), (1, (0, p1)), (2, (0, p2)), (3, (0, p3))], [], w) (fun r w' => ∃ z : Int, r = [(0, z)] ∧ e_fr (mF 23 294 298) w w' ∧ e_Has mTy w' ∧ True) := by
  obtain ⟨d, rfl⟩ : ∃ e, d = e + 1 := ⟨d - 1, by omega⟩
  refine e_Ok.run (t' := (2, [(0, (1, 275)), (1, (0, p1)), (2, (0, p2)), (3, (0, p3))], [(0, p2), (0, p1)], w)) 2 rfl ?_
  refine e_Ok.callS rfl (by omega) rfl rfl (c_272 (by omega)) (fun r1 w2 h3 => ?_)
  obtain ⟨z4, rfl, rfl, q5⟩ := h3
  obtain ⟨rfl, q5⟩ | ⟨rfl, q5⟩ := q5
  · show e_Ok 20 elay ecode eI (d + 1) 283 (5, [(0, (1, 275)), (1, (0, p1)), (2, (0, p2)), (3, (0, p3))], [(0, 1)], w) _
    refine e_Ok.if1 rfl (fun h6 => ?_) (fun h6 => ?_)
    · replace h6 : (1 : Int) = 0 := h6
      exfalso; omega
    · replace h6 : (1 : Int) ≠ 0 := by have q : ¬ ((1 : Int) = 0) := h6; omega
      refine e_Ok.run (t' := (14, [(0, (1, 275)), (1, (0, p1)), (2, (0, p2)), (3, (0, p3))], [(4, 8000), (4, 0), (4, p3)], w)) 4 rfl ?_
      refine e_Ok.callS rfl (by omega) rfl rfl (c_266) (fun r7 w8 h9 => ?_)
      obtain ⟨z10, rfl, rfl, q11⟩ := h9
      obtain ⟨rfl, q11⟩ | ⟨rfl, q11⟩ := q11
      · show e_Ok 20 elay ecode eI (d + 1) 283 (17, [(0, (1, 275)), (1, (0, p1)), (2, (0, p2)), (3, (0, p3))], [(0, 1)], w) _
        refine e_Ok.if1 rfl (fun h12 => ?_) (fun h12 => ?_)
        · replace h12 : (1 : Int) = 0 := h12
          exfalso; omega
        · replace h12 : (1 : Int) ≠ 0 := by have q : ¬ ((1 : Int) = 0) := h12; omega
          refine e_Ok.run (t' := (26, [(0, (1, 275)), (1, (0, p1)), (2, (0, p2)), (3, (0, p3))], [(0, 0), (0, p3), (0, p2), (0, p1), (0, 0), (1, 275)], w)) 6 rfl ?_
          refine e_Ok.callV rfl (by omega) rfl rfl rfl rfl (c_282 (by omega) hT (by omega) (by omega) (by omega) (by omega) (by omega)) (fun r13 w14 h15 => ?_)
          obtain ⟨z16, rfl, q17, q17T, -⟩ := h15
          have f18 : e_fr (mF 23 294 298) w w14 := e_fr.trans (e_fr.refl w) (e_fr.mono q17 (fun c k q => by exact q))
          show e_Ok 20 elay ecode eI (d + 1) 283 (29, [(0, (1, 275)), (1, (0, p1)), (2, (0, p2)), (3, (0, p3))], [(0, z16)], w14) _
          refine e_Ok.run (t' := (33, [(0, (1, 275)), (1, (0, p1)), (2, (0, p2)), (3, (0, p3))], [(0, z16)], w14)) 1 rfl ?_
          refine e_Ok.rets rfl rfl ?_
          exact ⟨_, rfl, f18, q17T, trivial⟩
      · show e_Ok 20 elay ecode eI (d + 1) 283 (17, [(0, (1, 275)), (1, (0, p1)), (2, (0, p2)), (3, (0, p3))], [(0, 0)], w) _
        refine e_Ok.if1 rfl (fun h19 => ?_) (fun h19 => ?_)
        · replace h19 : (0 : Int) = 0 := h19
          refine e_Ok.run (t' := (33, [(0, (1, 275)), (1, (0, p1)), (2, (0, p2)), (3, (0, p3))], [(0, (-1))], w)) 1 rfl ?_
          refine e_Ok.rets rfl rfl ?_
          exact ⟨_, rfl, (e_fr.refl w), hT, trivial⟩
        · replace h19 : (0 : Int) ≠ 0 := by have q : ¬ ((0 : Int) = 0) := h19; omega
          exfalso; omega
  · show e_Ok 20 elay ecode eI (d + 1) 283 (5, [(0, (1, 275)), (1, (0, p1)), (2, (0, p2)), (3, (0, p3))], [(0, 0)], w) _
    refine e_Ok.if1 rfl (fun h20 => ?_) (fun h20 => ?_)
    · replace h20 : (0 : Int) = 0 := h20
      refine e_Ok.run (t' := (33, [(0, (1, 275)), (1, (0, p1)), (2, (0, p2)), (3, (0, p3))], [(0, (-1))], w)) 1 rfl ?_
      refine e_Ok.rets rfl rfl ?_
      exact ⟨_, rfl, (e_fr.refl w), hT, trivial⟩
    · replace h20 : (0 : Int) ≠ 0 := by have q : ¬ ((0 : Int) = 0) := h20; omega
      exfalso; omega
theorem c_284 {d : Nat} (hd : 25 ≤ d) {w : eW} (hT : e_Has mTy w) {p1 p2 p3 p4 : Int} (g1 : (-2147483648) ≤ p1 ∧ p1 ≤ 2147483647) (g2 : (-2147483648) ≤ p2 ∧ p2 ≤ 2147483647) (g3 : (-2147483648) ≤ p3 ∧ p3 ≤ 2147483647) (g4 : (-2147483648) ≤ p4 ∧ p4 ≤ 2147483647) : e_Ok 20 elay ecode eI d 284 (0, [(0, (1, 275)), (1, (0, p1)), (2, (0, p2)), (3, (0, p3)), (4, (0, p4))], [], w) (fun r w' => ∃ z : Int, r = [(0, z)] ∧ e_fr (mF 23 294 298) w w' ∧ e_Has mTy w' ∧ True) := by
  obtain ⟨d, rfl⟩ : ∃ e, d = e + 1 := ⟨d - 1, by omega⟩
  refine e_Ok.run (t' := (5, [(0, (1, 275)), (1, (0, p1)), (2, (0, p2)), (3, (0, p3)), (4, (0, p4))], [(0, p4), (0, p3), (0, p2), (0, p1)], w)) 4 rfl ?_
  refine e_Ok.callS rfl (by omega) rfl rfl (c_273 (by omega) (by omega) (by omega)) (fun r1 w2 h3 => ?_)
  obtain ⟨z4, rfl, rfl, q5⟩ := h3
  obtain ⟨rfl, q5⟩ | ⟨rfl, q5⟩ := q5
  · show e_Ok 20 elay ecode eI (d + 1) 284 (8, [(0, (1, 275)), (1, (0, p1)), (2, (0, p2)), (3, (0, p3)), (4, (0, p4))], [(0, 1)], w) _
    refine e_Ok.if1 rfl (fun h6 => ?_) (fun h6 => ?_)
    · replace h6 : (1 : Int) = 0 := h6
      exfalso; omega
    · replace h6 : (1 : Int) ≠ 0 := by have q : ¬ ((1 : Int) = 0) := h6; omega
      refine e_Ok.run (t' := (18, [(0, (1, 275)), (1, (0, p1)), (2, (0, p2)), (3, (0, p3)), (4, (0, p4))], [(0, p4), (0, p3), (0, p2), (0, p1), (0, 1), (1, 275)], w)) 6 rfl ?_
      refine e_Ok.callV rfl (by omega) rfl rfl rfl rfl (c_282 (by omega) hT (by omega) (by omega) (by omega) (by omega) (by omega)) (fun r7 w8 h9 => ?_)
      obtain ⟨z10, rfl, q11, q11T, -⟩ := h9
      have f12 : e_fr (mF 23 294 298) w w8 := e_fr.trans (e_fr.refl w) (e_fr.mono q11 (fun c k q => by exact q))
      show e_Ok 20 elay ecode eI (d + 1) 284 (21, [(0, (1, 275)), (1, (0, p1)), (2, (0, p2)), (3, (0, p3)), (4, (0, p4))], [(0, z10)], w8) _
      refine e_Ok.run (t' := (25, [(0, (1, 275)), (1, (0, p1)), (2, (0, p2)), (3, (0, p3)), (4, (0, p4))], [(0, z10)], w8)) 1 rfl ?_
      refine e_Ok.rets rfl rfl ?_
      exact ⟨_, rfl, f12, q11T, trivial⟩
  · show e_Ok 20 elay ecode eI (d + 1) 284 (8, [(0, (1, 275)), (1, (0, p1)), (2, (0, p2)), (3, (0, p3)), (4, (0, p4))], [(0, 0)], w) _
    refine e_Ok.if1 rfl (fun h13 => ?_) (fun h13 => ?_)
    · replace h13 : (0 : Int) = 0 := h13
      refine e_Ok.run (t' := (25, [(0, (1, 275)), (1, (0, p1)), (2, (0, p2)), (3, (0, p3)), (4, (0, p4))], [(0, (-1))], w)) 1 rfl ?_
      refine e_Ok.rets rfl rfl ?_
      exact ⟨_, rfl, (e_fr.refl w), hT, trivial⟩
    · replace h13 : (0 : Int) ≠ 0 := by have q : ¬ ((0 : Int) = 0) := h13; omega
      exfalso; omega
theorem c_285 {d : Nat} (hd : 23 ≤ d) {w : eW} (hT : e_Has mTy w) {p1 p2 p3 : Int} (g1 : (-2147483648) ≤ p1 ∧ p1 ≤ 2147483647) (g2 : (-2147483648) ≤ p2 ∧ p2 ≤ 2147483647) (g3 : (-2147483648) ≤ p3 ∧ p3 ≤ 2147483647) : e_Ok 20 elay ecode eI d 285 (0, [(0, (1, 275)), (1, (0, p1)), (2, (0, p2)), (3, (0, p3))], [], w) (fun r w' => ∃ z : Int, r = [(0, z)] ∧ e_fr (mF (-1) 299 299) w w' ∧ e_Has mTy w' ∧ True) := by
  obtain ⟨d, rfl⟩ : ∃ e, d = e + 1 := ⟨d - 1, by omega⟩
  refine e_Ok.run (t' := (2, [(0, (1, 275)), (1, (0, p1)), (2, (0, p2)), (3, (0, p3))], [(0, p1), (1, 275)], w)) 2 rfl ?_
  refine e_Ok.callV rfl (by omega) rfl rfl rfl rfl (c_270 (by omega) hT) (fun r1 w2 h3 => ?_)
  have h4 := e_Has.get hT (c := 275) (k := 10) (lo := 0) (hi := 4) rfl (by decide)
  obtain ⟨z5, rfl, rfl, q6⟩ := h3
  obtain ⟨rfl, q6⟩ | ⟨rfl, q6⟩ := q6
  · show e_Ok 20 elay ecode eI (d + 1) 285 (5, [(0, (1, 275)), (1, (0, p1)), (2, (0, p2)), (3, (0, p3))], [(0, 1)], w) _
    refine e_Ok.if1 rfl (fun h7 => ?_) (fun h7 => ?_)
    · replace h7 : (1 : Int) = 0 := h7
      exfalso; omega
    · replace h7 : (1 : Int) ≠ 0 := by have q : ¬ ((1 : Int) = 0) := h7; omega
      refine e_Ok.run (t' := (14, [(0, (1, 275)), (1, (0, p1)), (2, (0, p2)), (3, (0, p3))], [(4, 6), (4, 0), (4, p2)], w)) 4 rfl ?_
      refine e_Ok.callS rfl (by omega) rfl rfl (c_266) (fun r8 w9 h10 => ?_)
      obtain ⟨z11, rfl, rfl, q12⟩ := h10
      obtain ⟨rfl, q12⟩ | ⟨rfl, q12⟩ := q12
      · show e_Ok 20 elay ecode eI (d + 1) 285 (17, [(0, (1, 275)), (1, (0, p1)), (2, (0, p2)), (3, (0, p3))], [(0, 1)], w) _
        refine e_Ok.if1 rfl (fun h13 => ?_) (fun h13 => ?_)
        · replace h13 : (1 : Int) = 0 := h13
          exfalso; omega
        · replace h13 : (1 : Int) ≠ 0 := by have q : ¬ ((1 : Int) = 0) := h13; omega
          refine e_Ok.run (t' := (24, [(0, (1, 275)), (1, (0, p1)), (2, (0, p2)), (3, (0, p3))], [(1, 275), (4, 0), (4, p3)], w)) 4 rfl ?_
          have h14 := (e_Has.get hT (c := 275) (k := 23) (lo := 0) (hi := 16) rfl (by decide))
          refine e_Ok.getf (z := w 275 23) rfl (el_o rfl) rfl rfl rfl (by omega) ?_
          refine e_Ok.run (t' := (28, [(0, (1, 275)), (1, (0, p1)), (2, (0, p2)), (3, (0, p3))], [(0, 1), (0, w 275 23), (4, 0), (4, p3)], w)) 1 rfl ?_
          refine e_Ok.sub' (z := w 275 23 - 1) rfl (by omega) (by omega) ?_
          refine e_Ok.run (t' := (30, [(0, (1, 275)), (1, (0, p1)), (2, (0, p2)), (3, (0, p3))], [(4, w 275 23 - 1), (4, 0), (4, p3)], w)) 1 rfl ?_
          refine e_Ok.callS rfl (by omega) rfl rfl (c_266) (fun r15 w16 h17 => ?_)
          obtain ⟨z18, rfl, rfl, q19⟩ := h17
          obtain ⟨rfl, q19⟩ | ⟨rfl, q19⟩ := q19
          · show e_Ok 20 elay ecode eI (d + 1) 285 (33, [(0, (1, 275)), (1, (0, p1)), (2, (0, p2)), (3, (0, p3))], [(0, 1)], w) _
            refine e_Ok.if1 rfl (fun h20 => ?_) (fun h20 => ?_)
            · replace h20 : (1 : Int) ≠ 0 := h20
              refine e_Ok.run (t' := (39, [(0, (1, 275)), (1, (0, p1)), (2, (0, p2)), (3, (0, p3))], [(1, 275)], w)) 1 rfl ?_
              have h21 := (e_Has.get hT (c := 275) (k := 3) (lo := 0) (hi := 1) rfl (by decide))
              refine e_Ok.getf (z := w 275 3) rfl (el_o rfl) rfl rfl rfl (by omega) ?_
              refine e_Ok.if1 rfl (fun h22 => ?_) (fun h22 => ?_)
              · replace h22 : (w 275 3 : Int) = 0 := h22
                refine e_Ok.run (t' := (51, [(0, (1, 275)), (1, (0, p1)), (2, (0, p2)), (3, (0, p3))], [(0, p1), (0, 112)], w)) 2 rfl ?_
                refine e_Ok.mul (z := 112 * p1) rfl (by omega) (by omega) ?_
                refine e_Ok.run (t' := (55, [(0, (1, 275)), (1, (0, p1)), (2, (0, p2)), (3, (0, p3))], [(0, p2), (0, 16), (0, 112 * p1)], w)) 2 rfl ?_
                refine e_Ok.mul (z := 16 * p2) rfl (by omega) (by omega) ?_
                refine e_Ok.add (z := 112 * p1 + 16 * p2) rfl (by omega) (by omega) ?_
                refine e_Ok.run (t' := (58, [(0, (1, 275)), (1, (0, p1)), (2, (0, p2)), (3, (0, p3))], [(0, p3), (0, 112 * p1 + 16 * p2)], w)) 1 rfl ?_
                refine e_Ok.add (z := 112 * p1 + 16 * p2 + p3) rfl (by omega) (by omega) ?_
                refine e_Ok.run (t' := (62, [(4, (0, 112 * p1 + 16 * p2 + p3)), (0, (1, 275)), (1, (0, p1)), (2, (0, p2)), (3, (0, p3))], [(1, 275)], w)) 2 rfl ?_
                refine e_Ok.getr (z := 299) rfl (el_o rfl) rfl rfl (e_Has.eq hT rfl) (by omega) ?_
                refine e_Ok.run (t' := (67, [(4, (0, 112 * p1 + 16 * p2 + p3)), (0, (1, 275)), (1, (0, p1)), (2, (0, p2)), (3, (0, p3))], [(0, 112 * p1 + 16 * p2 + p3), (1, 299)], w)) 1 rfl ?_
                have h23 := (e_Has.get hT (c := 299) (k := 112 * p1 + 16 * p2 + p3) (lo := 0) (hi := 1) rfl (by decide))
                refine e_Ok.ald (z := w 299 (112 * p1 + 16 * p2 + p3)) rfl (el_o rfl) rfl (by omega) rfl (by omega) ?_
                refine e_Ok.if1 rfl (fun h24 => ?_) (fun h24 => ?_)
                · replace h24 : (w 299 (112 * p1 + 16 * p2 + p3) : Int) = 0 := h24
                  refine e_Ok.run (t' := (79, [(5, (0, 1)), (4, (0, 112 * p1 + 16 * p2 + p3)), (0, (1, 275)), (1, (0, p1)), (2, (0, p2)), (3, (0, p3))], [(1, 275)], w)) 3 rfl ?_
                  refine e_Ok.getr (z := 299) rfl (el_o rfl) rfl rfl (e_Has.eq hT rfl) (by omega) ?_
                  refine e_Ok.run (t' := (85, [(5, (0, 1)), (4, (0, 112 * p1 + 16 * p2 + p3)), (0, (1, 275)), (1, (0, p1)), (2, (0, p2)), (3, (0, p3))], [(0, 1), (0, 112 * p1 + 16 * p2 + p3), (1, 299)], w)) 2 rfl ?_
                  refine e_Ok.ast rfl (el_o rfl) rfl (e_nar_b (by omega)) (by omega) ?_
                  generalize hw25 : e_up w 299 (112 * p1 + 16 * p2 + p3) 1 = w25
                  have f26 : e_fr (mF (-1) 299 299) w w25 := e_fr.up (e_fr.refl w) hw25 (by unfold mF; omega)
                  have hT27 : e_Has mTy w25 := e_Has.upr hT hw25 rfl (by omega)
                  refine e_Ok.run (t' := (88, [(5, (0, 1)), (4, (0, 112 * p1 + 16 * p2 + p3)), (0, (1, 275)), (1, (0, p1)), (2, (0, p2)), (3, (0, p3))], [(0, 1)], w25)) 1 rfl ?_
                  refine e_Ok.rets rfl rfl ?_
                  exact ⟨_, rfl, f26, hT27, trivial⟩
                · replace h24 : (w 299 (112 * p1 + 16 * p2 + p3) : Int) ≠ 0 := by have q : ¬ ((w 299 (112 * p1 + 16 * p2 + p3) : Int) = 0) := h24; omega
                  refine e_Ok.run (t' := (79, [(5, (0, 0)), (4, (0, 112 * p1 + 16 * p2 + p3)), (0, (1, 275)), (1, (0, p1)), (2, (0, p2)), (3, (0, p3))], [(1, 275)], w)) 4 rfl ?_
                  refine e_Ok.getr (z := 299) rfl (el_o rfl) rfl rfl (e_Has.eq hT rfl) (by omega) ?_
                  refine e_Ok.run (t' := (85, [(5, (0, 0)), (4, (0, 112 * p1 + 16 * p2 + p3)), (0, (1, 275)), (1, (0, p1)), (2, (0, p2)), (3, (0, p3))], [(0, 1), (0, 112 * p1 + 16 * p2 + p3), (1, 299)], w)) 2 rfl ?_
                  refine e_Ok.ast rfl (el_o rfl) rfl (e_nar_b (by omega)) (by omega) ?_
                  generalize hw28 : e_up w 299 (112 * p1 + 16 * p2 + p3) 1 = w28
                  have f29 : e_fr (mF (-1) 299 299) w w28 := e_fr.up (e_fr.refl w) hw28 (by unfold mF; omega)
                  have hT30 : e_Has mTy w28 := e_Has.upr hT hw28 rfl (by omega)
                  refine e_Ok.run (t' := (88, [(5, (0, 0)), (4, (0, 112 * p1 + 16 * p2 + p3)), (0, (1, 275)), (1, (0, p1)), (2, (0, p2)), (3, (0, p3))], [(0, 0)], w28)) 1 rfl ?_
                  refine e_Ok.rets rfl rfl ?_
                  exact ⟨_, rfl, f29, hT30, trivial⟩
              · replace h22 : (w 275 3 : Int) ≠ 0 := by have q : ¬ ((w 275 3 : Int) = 0) := h22; omega
                refine e_Ok.run (t' := (47, [(0, (1, 275)), (1, (0, p1)), (2, (0, p2)), (3, (0, p3))], [(0, (-2))], w)) 1 rfl ?_
                refine e_Ok.rets rfl rfl ?_
                exact ⟨_, rfl, (e_fr.refl w), hT, trivial⟩
            · replace h20 : (1 : Int) = 0 := by have q : ¬ ((1 : Int) ≠ 0) := h20; omega
              exfalso; omega
          · show e_Ok 20 elay ecode eI (d + 1) 285 (33, [(0, (1, 275)), (1, (0, p1)), (2, (0, p2)), (3, (0, p3))], [(0, 0)], w) _
            refine e_Ok.if1 rfl (fun h31 => ?_) (fun h31 => ?_)
            · replace h31 : (0 : Int) ≠ 0 := h31
              exfalso; omega
            · replace h31 : (0 : Int) = 0 := by have q : ¬ ((0 : Int) ≠ 0) := h31; omega
              refine e_Ok.run (t' := (37, [(0, (1, 275)), (1, (0, p1)), (2, (0, p2)), (3, (0, p3))], [(0, (-1))], w)) 1 rfl ?_
              refine e_Ok.rets rfl rfl ?_
              exact ⟨_, rfl, (e_fr.refl w), hT, trivial⟩
      · show e_Ok 20 elay ecode eI (d + 1) 285 (17, [(0, (1, 275)), (1, (0, p1)), (2, (0, p2)), (3, (0, p3))], [(0, 0)], w) _
        refine e_Ok.if1 rfl (fun h32 => ?_) (fun h32 => ?_)
        · replace h32 : (0 : Int) = 0 := h32
          refine e_Ok.run (t' := (37, [(0, (1, 275)), (1, (0, p1)), (2, (0, p2)), (3, (0, p3))], [(0, (-1))], w)) 1 rfl ?_
          refine e_Ok.rets rfl rfl ?_
          exact ⟨_, rfl, (e_fr.refl w), hT, trivial⟩
        · replace h32 : (0 : Int) ≠ 0 := by have q : ¬ ((0 : Int) = 0) := h32; omega
          exfalso; omega
  · show e_Ok 20 elay ecode eI (d + 1) 285 (5, [(0, (1, 275)), (1, (0, p1)), (2, (0, p2)), (3, (0, p3))], [(0, 0)], w) _
    refine e_Ok.if1 rfl (fun h33 => ?_) (fun h33 => ?_)
    · replace h33 : (0 : Int) = 0 := h33
      refine e_Ok.run (t' := (37, [(0, (1, 275)), (1, (0, p1)), (2, (0, p2)), (3, (0, p3))], [(0, (-1))], w)) 1 rfl ?_
      refine e_Ok.rets rfl rfl ?_
      exact ⟨_, rfl, (e_fr.refl w), hT, trivial⟩
    · replace h33 : (0 : Int) ≠ 0 := by have q : ¬ ((0 : Int) = 0) := h33; omega
      exfalso; omega
set_option maxHeartbeats 4000000 in
theorem c_286 {d : Nat} (hd : 23 ≤ d) {w : eW} (hT : e_Has mTy w) {p1 p2 p3 p4 p5 : Int} (g1 : (-2147483648) ≤ p1 ∧ p1 ≤ 2147483647) (g2 : (-2147483648) ≤ p2 ∧ p2 ≤ 2147483647) (g3 : (-2147483648) ≤ p3 ∧ p3 ≤ 2147483647) (g4 : (-2147483648) ≤ p4 ∧ p4 ≤ 2147483647) (g5 : (-2147483648) ≤ p5 ∧ p5 ≤ 2147483647) : e_Ok 20 elay ecode eI d 286 (0, [(0, (1, 275)), (1, (0, p1)), (2, (0, p2)), (3, (0, p3)), (4, (0, p4)), (5, (0, p5))], [], w) (fun r w' => ∃ z : Int, r = [(0, z)] ∧ e_fr (mF 30 300 306) w w' ∧ e_Has mTy w' ∧ True) := by
  obtain ⟨d, rfl⟩ : ∃ e, d = e + 1 := ⟨d - 1, by omega⟩
  refine e_Ok.run (t' := (2, [(0, (1, 275)), (1, (0, p1)), (2, (0, p2)), (3, (0, p3)), (4, (0, p4)), (5, (0, p5))], [(0, p2), (0, p1)], w)) 2 rfl ?_
  refine e_Ok.callS rfl (by omega) rfl rfl (c_272 (by omega)) (fun r1 w2 h3 => ?_)
  obtain ⟨z4, rfl, rfl, q5⟩ := h3
  obtain ⟨rfl, q5⟩ | ⟨rfl, q5⟩ := q5
  · show e_Ok 20 elay ecode eI (d + 1) 286 (5, [(0, (1, 275)), (1, (0, p1)), (2, (0, p2)), (3, (0, p3)), (4, (0, p4)), (5, (0, p5))], [(0, 1)], w) _
    refine e_Ok.if1 rfl (fun h6 => ?_) (fun h6 => ?_)
    · replace h6 : (1 : Int) = 0 := h6
      exfalso; omega
    · replace h6 : (1 : Int) ≠ 0 := by have q : ¬ ((1 : Int) = 0) := h6; omega
      refine e_Ok.run (t' := (14, [(0, (1, 275)), (1, (0, p1)), (2, (0, p2)), (3, (0, p3)), (4, (0, p4)), (5, (0, p5))], [(4, 3), (4, 0), (4, p3)], w)) 4 rfl ?_
      refine e_Ok.callS rfl (by omega) rfl rfl (c_266) (fun r7 w8 h9 => ?_)
      obtain ⟨z10, rfl, rfl, q11⟩ := h9
      obtain ⟨rfl, q11⟩ | ⟨rfl, q11⟩ := q11
      · show e_Ok 20 elay ecode eI (d + 1) 286 (17, [(0, (1, 275)), (1, (0, p1)), (2, (0, p2)), (3, (0, p3)), (4, (0, p4)), (5, (0, p5))], [(0, 1)], w) _
        refine e_Ok.if1 rfl (fun h12 => ?_) (fun h12 => ?_)
        · replace h12 : (1 : Int) = 0 := h12
          exfalso; omega
        · replace h12 : (1 : Int) ≠ 0 := by have q : ¬ ((1 : Int) = 0) := h12; omega
          refine e_Ok.run (t' := (27, [(0, (1, 275)), (1, (0, p1)), (2, (0, p2)), (3, (0, p3)), (4, (0, p4)), (5, (0, p5))], [(4, 16000), (4, 0), (4, p4)], w)) 4 rfl ?_
          refine e_Ok.callS rfl (by omega) rfl rfl (c_266) (fun r13 w14 h15 => ?_)
          obtain ⟨z16, rfl, rfl, q17⟩ := h15
          obtain ⟨rfl, q17⟩ | ⟨rfl, q17⟩ := q17
          · show e_Ok 20 elay ecode eI (d + 1) 286 (30, [(0, (1, 275)), (1, (0, p1)), (2, (0, p2)), (3, (0, p3)), (4, (0, p4)), (5, (0, p5))], [(0, 1)], w) _
            refine e_Ok.if1 rfl (fun h18 => ?_) (fun h18 => ?_)
            · replace h18 : (1 : Int) = 0 := h18
              exfalso; omega
            · replace h18 : (1 : Int) ≠ 0 := by have q : ¬ ((1 : Int) = 0) := h18; omega
              refine e_Ok.run (t' := (40, [(0, (1, 275)), (1, (0, p1)), (2, (0, p2)), (3, (0, p3)), (4, (0, p4)), (5, (0, p5))], [(4, 2000), (4, 0), (4, p5)], w)) 4 rfl ?_
              refine e_Ok.callS rfl (by omega) rfl rfl (c_266) (fun r19 w20 h21 => ?_)
              obtain ⟨z22, rfl, rfl, q23⟩ := h21
              obtain ⟨rfl, q23⟩ | ⟨rfl, q23⟩ := q23
              · show e_Ok 20 elay ecode eI (d + 1) 286 (43, [(0, (1, 275)), (1, (0, p1)), (2, (0, p2)), (3, (0, p3)), (4, (0, p4)), (5, (0, p5))], [(0, 1)], w) _
                refine e_Ok.if1 rfl (fun h24 => ?_) (fun h24 => ?_)
                · replace h24 : (1 : Int) ≠ 0 := h24
                  refine e_Ok.run (t' := (50, [(0, (1, 275)), (1, (0, p1)), (2, (0, p2)), (3, (0, p3)), (4, (0, p4)), (5, (0, p5))], [(0, 2), (0, p3)], w)) 2 rfl ?_
                  refine e_Ok.if2 rfl (fun h25 => ?_) (fun h25 => ?_)
                  · replace h25 : (p3 : Int) ≥ 2 := h25
                    refine e_Ok.run (t' := (60, [(0, (1, 275)), (1, (0, p1)), (2, (0, p2)), (3, (0, p3)), (4, (0, p4)), (5, (0, p5))], [(0, p4)], w)) 1 rfl ?_
                    refine e_Ok.neg (z := -p4) rfl (by omega) (by omega) ?_
                    refine e_Ok.run (t' := (65, [(6, (0, -p4)), (0, (1, 275)), (1, (0, p1)), (2, (0, p2)), (3, (0, p3)), (4, (0, p4)), (5, (0, p5))], [(0, 2), (0, p3)], w)) 3 rfl ?_
                    refine e_Ok.remn (fun z26 hz26 => ?_) rfl (by omega) (by omega)
                    replace hz26 : z26 = p3 % 2 := hz26
                    have z26r : 0 ≤ z26 ∧ z26 ≤ 1 := by omega
                    refine e_Ok.if1 rfl (fun h27 => ?_) (fun h27 => ?_)
                    · replace h27 : (z26 : Int) ≠ 0 := h27
                      refine e_Ok.run (t' := (79, [(6, (0, -p4)), (0, (1, 275)), (1, (0, p1)), (2, (0, p2)), (3, (0, p3)), (4, (0, p4)), (5, (0, p5))], [(0, 2), (0, p3), (0, p1)], w)) 3 rfl ?_
                      refine e_Ok.remn (fun z28 hz28 => ?_) rfl (by omega) (by omega)
                      replace hz28 : z28 = p3 % 2 := hz28
                      have z28r : 0 ≤ z28 ∧ z28 ≤ 1 := by omega
                      refine e_Ok.if1 rfl (fun h29 => ?_) (fun h29 => ?_)
                      · replace h29 : (z28 : Int) ≠ 0 := h29
                        refine e_Ok.run (t' := (90, [(6, (0, -p4)), (0, (1, 275)), (1, (0, p1)), (2, (0, p2)), (3, (0, p3)), (4, (0, p4)), (5, (0, p5))], [(0, -p4), (0, p2), (0, p1)], w)) 2 rfl ?_
                        refine e_Ok.add (z := p2 - p4) rfl (by omega) (by omega) ?_
                        refine e_Ok.callS rfl (by omega) rfl rfl (c_272 (by omega)) (fun r30 w31 h32 => ?_)
                        obtain ⟨z33, rfl, rfl, q34⟩ := h32
                        obtain ⟨rfl, q34⟩ | ⟨rfl, q34⟩ := q34
                        · show e_Ok 20 elay ecode eI (d + 1) 286 (94, [(6, (0, -p4)), (0, (1, 275)), (1, (0, p1)), (2, (0, p2)), (3, (0, p3)), (4, (0, p4)), (5, (0, p5))], [(0, 1)], w) _
                          refine e_Ok.if1 rfl (fun h35 => ?_) (fun h35 => ?_)
                          · replace h35 : (1 : Int) ≠ 0 := h35
                            refine e_Ok.run (t' := (100, [(6, (0, -p4)), (0, (1, 275)), (1, (0, p1)), (2, (0, p2)), (3, (0, p3)), (4, (0, p4)), (5, (0, p5))], [(1, 275)], w)) 1 rfl ?_
                            have h36 := (e_Has.get hT (c := 275) (k := 3) (lo := 0) (hi := 1) rfl (by decide))
                            refine e_Ok.getf (z := w 275 3) rfl (el_o rfl) rfl rfl rfl (by omega) ?_
                            refine e_Ok.if1 rfl (fun h37 => ?_) (fun h37 => ?_)
                            · replace h37 : (w 275 3 : Int) = 0 := h37
                              refine e_Ok.run (t' := (110, [(6, (0, -p4)), (0, (1, 275)), (1, (0, p1)), (2, (0, p2)), (3, (0, p3)), (4, (0, p4)), (5, (0, p5))], [(1, 275)], w)) 1 rfl ?_
                              have h38 := (e_Has.get hT (c := 275) (k := 30) (lo := 0) (hi := 4) rfl (by decide))
                              refine e_Ok.getf (z := w 275 30) rfl (el_o rfl) rfl rfl rfl (by omega) ?_
                              refine e_Ok.run (t' := (114, [(6, (0, -p4)), (0, (1, 275)), (1, (0, p1)), (2, (0, p2)), (3, (0, p3)), (4, (0, p4)), (5, (0, p5))], [(0, 4), (0, w 275 30)], w)) 1 rfl ?_
                              refine e_Ok.if2 rfl (fun h39 => ?_) (fun h39 => ?_)
                              · replace h39 : (w 275 30 : Int) ≠ 4 := h39
                                refine e_Ok.run (t' := (121, [(6, (0, -p4)), (0, (1, 275)), (1, (0, p1)), (2, (0, p2)), (3, (0, p3)), (4, (0, p4)), (5, (0, p5))], [(1, 275)], w)) 1 rfl ?_
                                refine e_Ok.getr (z := 300) rfl (el_o rfl) rfl rfl (e_Has.eq hT rfl) (by omega) ?_
                                refine e_Ok.run (t' := (125, [(6, (0, -p4)), (0, (1, 275)), (1, (0, p1)), (2, (0, p2)), (3, (0, p3)), (4, (0, p4)), (5, (0, p5))], [(1, 275), (1, 300)], w)) 1 rfl ?_
                                refine e_Ok.getf (z := w 275 30) rfl (el_o rfl) rfl rfl rfl (by omega) ?_
                                refine e_Ok.run (t' := (129, [(6, (0, -p4)), (0, (1, 275)), (1, (0, p1)), (2, (0, p2)), (3, (0, p3)), (4, (0, p4)), (5, (0, p5))], [(0, p1), (0, w 275 30), (1, 300)], w)) 1 rfl ?_
                                refine e_Ok.ast rfl (el_o rfl) rfl rfl (by omega) ?_
                                generalize hw40 : e_up w 300 (w 275 30) p1 = w40
                                have f41 : e_fr (mF 30 300 306) w w40 := e_fr.up (e_fr.refl w) hw40 (by unfold mF; omega)
                                have hT42 : e_Has mTy w40 := e_Has.upr hT hw40 rfl (by omega)
                                refine e_Ok.run (t' := (131, [(6, (0, -p4)), (0, (1, 275)), (1, (0, p1)), (2, (0, p2)), (3, (0, p3)), (4, (0, p4)), (5, (0, p5))], [(1, 275)], w40)) 1 rfl ?_
                                refine e_Ok.getr (z := 301) rfl (el_o rfl) rfl rfl (by rw [← hw40]; exact (e_up_ne _ _ (Or.inl (by omega))).trans (e_Has.eq hT rfl)) (by omega) ?_
                                refine e_Ok.run (t' := (135, [(6, (0, -p4)), (0, (1, 275)), (1, (0, p1)), (2, (0, p2)), (3, (0, p3)), (4, (0, p4)), (5, (0, p5))], [(1, 275), (1, 301)], w40)) 1 rfl ?_
                                refine e_Ok.getf (z := w 275 30) rfl (el_o rfl) rfl rfl (by rw [← hw40]; exact (e_up_ne _ _ (Or.inl (by omega))).trans rfl) (by omega) ?_
                                refine e_Ok.run (t' := (139, [(6, (0, -p4)), (0, (1, 275)), (1, (0, p1)), (2, (0, p2)), (3, (0, p3)), (4, (0, p4)), (5, (0, p5))], [(0, p2), (0, w 275 30), (1, 301)], w40)) 1 rfl ?_
                                refine e_Ok.ast rfl (el_o rfl) rfl rfl (by omega) ?_
                                generalize hw43 : e_up w40 301 (w 275 30) p2 = w43
                                have f44 : e_fr (mF 30 300 306) w w43 := e_fr.up f41 hw43 (by unfold mF; omega)
                                have hT45 : e_Has mTy w43 := e_Has.upr hT42 hw43 rfl (by omega)
                                refine e_Ok.run (t' := (141, [(6, (0, -p4)), (0, (1, 275)), (1, (0, p1)), (2, (0, p2)), (3, (0, p3)), (4, (0, p4)), (5, (0, p5))], [(1, 275)], w43)) 1 rfl ?_
                                refine e_Ok.getr (z := 302) rfl (el_o rfl) rfl rfl (by rw [← hw43]; exact (e_up_ne _ _ (Or.inl (by omega))).trans (by rw [← hw40]; exact (e_up_ne _ _ (Or.inl (by omega))).trans (e_Has.eq hT rfl))) (by omega) ?_
                                refine e_Ok.run (t' := (145, [(6, (0, -p4)), (0, (1, 275)), (1, (0, p1)), (2, (0, p2)), (3, (0, p3)), (4, (0, p4)), (5, (0, p5))], [(1, 275), (1, 302)], w43)) 1 rfl ?_
                                refine e_Ok.getf (z := w 275 30) rfl (el_o rfl) rfl rfl (by rw [← hw43]; exact (e_up_ne _ _ (Or.inl (by omega))).trans (by rw [← hw40]; exact (e_up_ne _ _ (Or.inl (by omega))).trans rfl)) (by omega) ?_
                                refine e_Ok.run (t' := (149, [(6, (0, -p4)), (0, (1, 275)), (1, (0, p1)), (2, (0, p2)), (3, (0, p3)), (4, (0, p4)), (5, (0, p5))], [(0, p3), (0, w 275 30), (1, 302)], w43)) 1 rfl ?_
                                refine e_Ok.ast rfl (el_o rfl) rfl rfl (by omega) ?_
                                generalize hw46 : e_up w43 302 (w 275 30) p3 = w46
                                have f47 : e_fr (mF 30 300 306) w w46 := e_fr.up f44 hw46 (by unfold mF; omega)
                                have hT48 : e_Has mTy w46 := e_Has.upr hT45 hw46 rfl (by omega)
                                refine e_Ok.run (t' := (151, [(6, (0, -p4)), (0, (1, 275)), (1, (0, p1)), (2, (0, p2)), (3, (0, p3)), (4, (0, p4)), (5, (0, p5))], [(1, 275)], w46)) 1 rfl ?_
                                refine e_Ok.getr (z := 303) rfl (el_o rfl) rfl rfl (by rw [← hw46]; exact (e_up_ne _ _ (Or.inl (by omega))).trans (by rw [← hw43]; exact (e_up_ne _ _ (Or.inl (by omega))).trans (by rw [← hw40]; exact (e_up_ne _ _ (Or.inl (by omega))).trans (e_Has.eq hT rfl)))) (by omega) ?_
                                refine e_Ok.run (t' := (155, [(6, (0, -p4)), (0, (1, 275)), (1, (0, p1)), (2, (0, p2)), (3, (0, p3)), (4, (0, p4)), (5, (0, p5))], [(1, 275), (1, 303)], w46)) 1 rfl ?_
                                refine e_Ok.getf (z := w 275 30) rfl (el_o rfl) rfl rfl (by rw [← hw46]; exact (e_up_ne _ _ (Or.inl (by omega))).trans (by rw [← hw43]; exact (e_up_ne _ _ (Or.inl (by omega))).trans (by rw [← hw40]; exact (e_up_ne _ _ (Or.inl (by omega))).trans rfl))) (by omega) ?_
                                refine e_Ok.run (t' := (160, [(6, (0, -p4)), (0, (1, 275)), (1, (0, p1)), (2, (0, p2)), (3, (0, p3)), (4, (0, p4)), (5, (0, p5))], [(0, p4), (0, w 275 30), (1, 303)], w46)) 1 rfl ?_
                                refine e_Ok.ast rfl (el_o rfl) rfl rfl (by omega) ?_
                                generalize hw49 : e_up w46 303 (w 275 30) p4 = w49
                                have f50 : e_fr (mF 30 300 306) w w49 := e_fr.up f47 hw49 (by unfold mF; omega)
                                have hT51 : e_Has mTy w49 := e_Has.upr hT48 hw49 rfl (by omega)
                                refine e_Ok.run (t' := (162, [(6, (0, -p4)), (0, (1, 275)), (1, (0, p1)), (2, (0, p2)), (3, (0, p3)), (4, (0, p4)), (5, (0, p5))], [(1, 275)], w49)) 1 rfl ?_
                                refine e_Ok.getr (z := 304) rfl (el_o rfl) rfl rfl (by rw [← hw49]; exact (e_up_ne _ _ (Or.inl (by omega))).trans (by rw [← hw46]; exact (e_up_ne _ _ (Or.inl (by omega))).trans (by rw [← hw43]; exact (e_up_ne _ _ (Or.inl (by omega))).trans (by rw [← hw40]; exact (e_up_ne _ _ (Or.inl (by omega))).trans (e_Has.eq hT rfl))))) (by omega) ?_
                                refine e_Ok.run (t' := (166, [(6, (0, -p4)), (0, (1, 275)), (1, (0, p1)), (2, (0, p2)), (3, (0, p3)), (4, (0, p4)), (5, (0, p5))], [(1, 275), (1, 304)], w49)) 1 rfl ?_
                                refine e_Ok.getf (z := w 275 30) rfl (el_o rfl) rfl rfl (by rw [← hw49]; exact (e_up_ne _ _ (Or.inl (by omega))).trans (by rw [← hw46]; exact (e_up_ne _ _ (Or.inl (by omega))).trans (by rw [← hw43]; exact (e_up_ne _ _ (Or.inl (by omega))).trans (by rw [← hw40]; exact (e_up_ne _ _ (Or.inl (by omega))).trans rfl)))) (by omega) ?_
                                refine e_Ok.run (t' := (170, [(6, (0, -p4)), (0, (1, 275)), (1, (0, p1)), (2, (0, p2)), (3, (0, p3)), (4, (0, p4)), (5, (0, p5))], [(0, 0), (0, w 275 30), (1, 304)], w49)) 1 rfl ?_
                                refine e_Ok.ast rfl (el_o rfl) rfl rfl (by omega) ?_
                                generalize hw52 : e_up w49 304 (w 275 30) 0 = w52
                                have f53 : e_fr (mF 30 300 306) w w52 := e_fr.up f50 hw52 (by unfold mF; omega)
                                have hT54 : e_Has mTy w52 := e_Has.upr hT51 hw52 rfl (by omega)
                                refine e_Ok.run (t' := (172, [(6, (0, -p4)), (0, (1, 275)), (1, (0, p1)), (2, (0, p2)), (3, (0, p3)), (4, (0, p4)), (5, (0, p5))], [(1, 275)], w52)) 1 rfl ?_
                                refine e_Ok.getr (z := 306) rfl (el_o rfl) rfl rfl (by rw [← hw52]; exact (e_up_ne _ _ (Or.inl (by omega))).trans (by rw [← hw49]; exact (e_up_ne _ _ (Or.inl (by omega))).trans (by rw [← hw46]; exact (e_up_ne _ _ (Or.inl (by omega))).trans (by rw [← hw43]; exact (e_up_ne _ _ (Or.inl (by omega))).trans (by rw [← hw40]; exact (e_up_ne _ _ (Or.inl (by omega))).trans (e_Has.eq hT rfl)))))) (by omega) ?_
                                refine e_Ok.run (t' := (176, [(6, (0, -p4)), (0, (1, 275)), (1, (0, p1)), (2, (0, p2)), (3, (0, p3)), (4, (0, p4)), (5, (0, p5))], [(1, 275), (1, 306)], w52)) 1 rfl ?_
                                refine e_Ok.getf (z := w 275 30) rfl (el_o rfl) rfl rfl (by rw [← hw52]; exact (e_up_ne _ _ (Or.inl (by omega))).trans (by rw [← hw49]; exact (e_up_ne _ _ (Or.inl (by omega))).trans (by rw [← hw46]; exact (e_up_ne _ _ (Or.inl (by omega))).trans (by rw [← hw43]; exact (e_up_ne _ _ (Or.inl (by omega))).trans (by rw [← hw40]; exact (e_up_ne _ _ (Or.inl (by omega))).trans rfl))))) (by omega) ?_
                                refine e_Ok.run (t' := (180, [(6, (0, -p4)), (0, (1, 275)), (1, (0, p1)), (2, (0, p2)), (3, (0, p3)), (4, (0, p4)), (5, (0, p5))], [(0, (-1)), (0, w 275 30), (1, 306)], w52)) 1 rfl ?_
                                refine e_Ok.ast rfl (el_o rfl) rfl rfl (by omega) ?_
                                generalize hw55 : e_up w52 306 (w 275 30) (-1) = w55
                                have f56 : e_fr (mF 30 300 306) w w55 := e_fr.up f53 hw55 (by unfold mF; omega)
                                have hT57 : e_Has mTy w55 := e_Has.upr hT54 hw55 rfl (by omega)
                                refine e_Ok.run (t' := (182, [(6, (0, -p4)), (0, (1, 275)), (1, (0, p1)), (2, (0, p2)), (3, (0, p3)), (4, (0, p4)), (5, (0, p5))], [(1, 275)], w55)) 1 rfl ?_
                                refine e_Ok.getr (z := 305) rfl (el_o rfl) rfl rfl (by rw [← hw55]; exact (e_up_ne _ _ (Or.inl (by omega))).trans (by rw [← hw52]; exact (e_up_ne _ _ (Or.inl (by omega))).trans (by rw [← hw49]; exact (e_up_ne _ _ (Or.inl (by omega))).trans (by rw [← hw46]; exact (e_up_ne _ _ (Or.inl (by omega))).trans (by rw [← hw43]; exact (e_up_ne _ _ (Or.inl (by omega))).trans (by rw [← hw40]; exact (e_up_ne _ _ (Or.inl (by omega))).trans (e_Has.eq hT rfl))))))) (by omega) ?_
                                refine e_Ok.run (t' := (186, [(6, (0, -p4)), (0, (1, 275)), (1, (0, p1)), (2, (0, p2)), (3, (0, p3)), (4, (0, p4)), (5, (0, p5))], [(1, 275), (1, 305)], w55)) 1 rfl ?_
                                refine e_Ok.getf (z := w 275 30) rfl (el_o rfl) rfl rfl (by rw [← hw55]; exact (e_up_ne _ _ (Or.inl (by omega))).trans (by rw [← hw52]; exact (e_up_ne _ _ (Or.inl (by omega))).trans (by rw [← hw49]; exact (e_up_ne _ _ (Or.inl (by omega))).trans (by rw [← hw46]; exact (e_up_ne _ _ (Or.inl (by omega))).trans (by rw [← hw43]; exact (e_up_ne _ _ (Or.inl (by omega))).trans (by rw [← hw40]; exact (e_up_ne _ _ (Or.inl (by omega))).trans rfl)))))) (by omega) ?_
                                refine e_Ok.run (t' := (191, [(6, (0, -p4)), (0, (1, 275)), (1, (0, p1)), (2, (0, p2)), (3, (0, p3)), (4, (0, p4)), (5, (0, p5))], [(0, p5), (0, w 275 30), (1, 305)], w55)) 1 rfl ?_
                                refine e_Ok.ast rfl (el_o rfl) rfl rfl (by omega) ?_
                                generalize hw58 : e_up w55 305 (w 275 30) p5 = w58
                                have f59 : e_fr (mF 30 300 306) w w58 := e_fr.up f56 hw58 (by unfold mF; omega)
                                have hT60 : e_Has mTy w58 := e_Has.upr hT57 hw58 rfl (by omega)
                                refine e_Ok.run (t' := (194, [(6, (0, -p4)), (0, (1, 275)), (1, (0, p1)), (2, (0, p2)), (3, (0, p3)), (4, (0, p4)), (5, (0, p5))], [(1, 275), (1, 275)], w58)) 2 rfl ?_
                                refine e_Ok.getf (z := w 275 30) rfl (el_o rfl) rfl rfl (by rw [← hw58]; exact (e_up_ne _ _ (Or.inl (by omega))).trans (by rw [← hw55]; exact (e_up_ne _ _ (Or.inl (by omega))).trans (by rw [← hw52]; exact (e_up_ne _ _ (Or.inl (by omega))).trans (by rw [← hw49]; exact (e_up_ne _ _ (Or.inl (by omega))).trans (by rw [← hw46]; exact (e_up_ne _ _ (Or.inl (by omega))).trans (by rw [← hw43]; exact (e_up_ne _ _ (Or.inl (by omega))).trans (by rw [← hw40]; exact (e_up_ne _ _ (Or.inl (by omega))).trans rfl))))))) (by omega) ?_
                                refine e_Ok.run (t' := (198, [(6, (0, -p4)), (0, (1, 275)), (1, (0, p1)), (2, (0, p2)), (3, (0, p3)), (4, (0, p4)), (5, (0, p5))], [(0, 1), (0, w 275 30), (1, 275)], w58)) 1 rfl ?_
                                refine e_Ok.add (z := w 275 30 + 1) rfl (by omega) (by omega) ?_
                                refine e_Ok.putf rfl (el_o rfl) rfl rfl ?_
                                generalize hw61 : e_up w58 275 30 (w 275 30 + 1) = w61
                                have f62 : e_fr (mF 30 300 306) w w61 := e_fr.up f59 hw61 (by unfold mF; omega)
                                have hT63 : e_Has mTy w61 := e_Has.upr hT60 hw61 rfl (by omega)
                                refine e_Ok.run (t' := (203, [(6, (0, -p4)), (0, (1, 275)), (1, (0, p1)), (2, (0, p2)), (3, (0, p3)), (4, (0, p4)), (5, (0, p5))], [(1, 275)], w61)) 1 rfl ?_
                                refine e_Ok.getf (z := w 275 30 + 1) rfl (el_o rfl) rfl rfl (by rw [← hw61]; exact e_up_eq _ _ _ _) (by omega) ?_
                                refine e_Ok.run (t' := (207, [(6, (0, -p4)), (0, (1, 275)), (1, (0, p1)), (2, (0, p2)), (3, (0, p3)), (4, (0, p4)), (5, (0, p5))], [(0, 1), (0, w 275 30 + 1)], w61)) 1 rfl ?_
                                refine e_Ok.sub' (z := w 275 30) rfl (by omega) (by omega) ?_
                                refine e_Ok.rets rfl rfl ?_
                                exact ⟨_, rfl, f62, hT63, trivial⟩
                              · replace h39 : (w 275 30 : Int) = 4 := by have q : ¬ ((w 275 30 : Int) ≠ 4) := h39; omega
                                refine e_Ok.run (t' := (119, [(6, (0, -p4)), (0, (1, 275)), (1, (0, p1)), (2, (0, p2)), (3, (0, p3)), (4, (0, p4)), (5, (0, p5))], [(0, (-3))], w)) 1 rfl ?_
                                refine e_Ok.rets rfl rfl ?_
                                exact ⟨_, rfl, (e_fr.refl w), hT, trivial⟩
                            · replace h37 : (w 275 3 : Int) ≠ 0 := by have q : ¬ ((w 275 3 : Int) = 0) := h37; omega
                              refine e_Ok.run (t' := (108, [(6, (0, -p4)), (0, (1, 275)), (1, (0, p1)), (2, (0, p2)), (3, (0, p3)), (4, (0, p4)), (5, (0, p5))], [(0, (-2))], w)) 1 rfl ?_
                              refine e_Ok.rets rfl rfl ?_
                              exact ⟨_, rfl, (e_fr.refl w), hT, trivial⟩
                          · replace h35 : (1 : Int) = 0 := by have q : ¬ ((1 : Int) ≠ 0) := h35; omega
                            exfalso; omega
                        · show e_Ok 20 elay ecode eI (d + 1) 286 (94, [(6, (0, -p4)), (0, (1, 275)), (1, (0, p1)), (2, (0, p2)), (3, (0, p3)), (4, (0, p4)), (5, (0, p5))], [(0, 0)], w) _
                          refine e_Ok.if1 rfl (fun h64 => ?_) (fun h64 => ?_)
                          · replace h64 : (0 : Int) ≠ 0 := h64
                            exfalso; omega
                          · replace h64 : (0 : Int) = 0 := by have q : ¬ ((0 : Int) ≠ 0) := h64; omega
                            refine e_Ok.run (t' := (98, [(6, (0, -p4)), (0, (1, 275)), (1, (0, p1)), (2, (0, p2)), (3, (0, p3)), (4, (0, p4)), (5, (0, p5))], [(0, (-1))], w)) 1 rfl ?_
                            refine e_Ok.rets rfl rfl ?_
                            exact ⟨_, rfl, (e_fr.refl w), hT, trivial⟩
                      · replace h29 : (z28 : Int) = 0 := by have q : ¬ ((z28 : Int) ≠ 0) := h29; omega
                        refine e_Ok.run (t' := (91, [(6, (0, -p4)), (0, (1, 275)), (1, (0, p1)), (2, (0, p2)), (3, (0, p3)), (4, (0, p4)), (5, (0, p5))], [(0, p2), (0, p1)], w)) 2 rfl ?_
                        refine e_Ok.callS rfl (by omega) rfl rfl (c_272 (by omega)) (fun r65 w66 h67 => ?_)
                        obtain ⟨z68, rfl, rfl, q69⟩ := h67
                        obtain ⟨rfl, q69⟩ | ⟨rfl, q69⟩ := q69
                        · show e_Ok 20 elay ecode eI (d + 1) 286 (94, [(6, (0, -p4)), (0, (1, 275)), (1, (0, p1)), (2, (0, p2)), (3, (0, p3)), (4, (0, p4)), (5, (0, p5))], [(0, 1)], w) _
                          refine e_Ok.if1 rfl (fun h70 => ?_) (fun h70 => ?_)
                          · replace h70 : (1 : Int) ≠ 0 := h70
                            refine e_Ok.run (t' := (100, [(6, (0, -p4)), (0, (1, 275)), (1, (0, p1)), (2, (0, p2)), (3, (0, p3)), (4, (0, p4)), (5, (0, p5))], [(1, 275)], w)) 1 rfl ?_
                            have h71 := (e_Has.get hT (c := 275) (k := 3) (lo := 0) (hi := 1) rfl (by decide))
                            refine e_Ok.getf (z := w 275 3) rfl (el_o rfl) rfl rfl rfl (by omega) ?_
                            refine e_Ok.if1 rfl (fun h72 => ?_) (fun h72 => ?_)
                            · replace h72 : (w 275 3 : Int) = 0 := h72
                              refine e_Ok.run (t' := (110, [(6, (0, -p4)), (0, (1, 275)), (1, (0, p1)), (2, (0, p2)), (3, (0, p3)), (4, (0, p4)), (5, (0, p5))], [(1, 275)], w)) 1 rfl ?_
                              have h73 := (e_Has.get hT (c := 275) (k := 30) (lo := 0) (hi := 4) rfl (by decide))
                              refine e_Ok.getf (z := w 275 30) rfl (el_o rfl) rfl rfl rfl (by omega) ?_
                              refine e_Ok.run (t' := (114, [(6, (0, -p4)), (0, (1, 275)), (1, (0, p1)), (2, (0, p2)), (3, (0, p3)), (4, (0, p4)), (5, (0, p5))], [(0, 4), (0, w 275 30)], w)) 1 rfl ?_
                              refine e_Ok.if2 rfl (fun h74 => ?_) (fun h74 => ?_)
                              · replace h74 : (w 275 30 : Int) ≠ 4 := h74
                                refine e_Ok.run (t' := (121, [(6, (0, -p4)), (0, (1, 275)), (1, (0, p1)), (2, (0, p2)), (3, (0, p3)), (4, (0, p4)), (5, (0, p5))], [(1, 275)], w)) 1 rfl ?_
                                refine e_Ok.getr (z := 300) rfl (el_o rfl) rfl rfl (e_Has.eq hT rfl) (by omega) ?_
                                refine e_Ok.run (t' := (125, [(6, (0, -p4)), (0, (1, 275)), (1, (0, p1)), (2, (0, p2)), (3, (0, p3)), (4, (0, p4)), (5, (0, p5))], [(1, 275), (1, 300)], w)) 1 rfl ?_
                                refine e_Ok.getf (z := w 275 30) rfl (el_o rfl) rfl rfl rfl (by omega) ?_
                                refine e_Ok.run (t' := (129, [(6, (0, -p4)), (0, (1, 275)), (1, (0, p1)), (2, (0, p2)), (3, (0, p3)), (4, (0, p4)), (5, (0, p5))], [(0, p1), (0, w 275 30), (1, 300)], w)) 1 rfl ?_
                                refine e_Ok.ast rfl (el_o rfl) rfl rfl (by omega) ?_
                                generalize hw75 : e_up w 300 (w 275 30) p1 = w75
                                have f76 : e_fr (mF 30 300 306) w w75 := e_fr.up (e_fr.refl w) hw75 (by unfold mF; omega)
                                have hT77 : e_Has mTy w75 := e_Has.upr hT hw75 rfl (by omega)
                                refine e_Ok.run (t' := (131, [(6, (0, -p4)), (0, (1, 275)), (1, (0, p1)), (2, (0, p2)), (3, (0, p3)), (4, (0, p4)), (5, (0, p5))], [(1, 275)], w75)) 1 rfl ?_
                                refine e_Ok.getr (z := 301) rfl (el_o rfl) rfl rfl (by rw [← hw75]; exact (e_up_ne _ _ (Or.inl (by omega))).trans (e_Has.eq hT rfl)) (by omega) ?_
                                refine e_Ok.run (t' := (135, [(6, (0, -p4)), (0, (1, 275)), (1, (0, p1)), (2, (0, p2)), (3, (0, p3)), (4, (0, p4)), (5, (0, p5))], [(1, 275), (1, 301)], w75)) 1 rfl ?_
                                refine e_Ok.getf (z := w 275 30) rfl (el_o rfl) rfl rfl (by rw [← hw75]; exact (e_up_ne _ _ (Or.inl (by omega))).trans rfl) (by omega) ?_
                                refine e_Ok.run (t' := (139, [(6, (0, -p4)), (0, (1, 275)), (1, (0, p1)), (2, (0, p2)), (3, (0, p3)), (4, (0, p4)), (5, (0, p5))], [(0, p2), (0, w 275 30), (1, 301)], w75)) 1 rfl ?_
                                refine e_Ok.ast rfl (el_o rfl) rfl rfl (by omega) ?_
                                generalize hw78 : e_up w75 301 (w 275 30) p2 = w78
                                have f79 : e_fr (mF 30 300 306) w w78 := e_fr.up f76 hw78 (by unfold mF; omega)
                                have hT80 : e_Has mTy w78 := e_Has.upr hT77 hw78 rfl (by omega)
                                refine e_Ok.run (t' := (141, [(6, (0, -p4)), (0, (1, 275)), (1, (0, p1)), (2, (0, p2)), (3, (0, p3)), (4, (0, p4)), (5, (0, p5))], [(1, 275)], w78)) 1 rfl ?_
                                refine e_Ok.getr (z := 302) rfl (el_o rfl) rfl rfl (by rw [← hw78]; exact (e_up_ne _ _ (Or.inl (by omega))).trans (by rw [← hw75]; exact (e_up_ne _ _ (Or.inl (by omega))).trans (e_Has.eq hT rfl))) (by omega) ?_
                                refine e_Ok.run (t' := (145, [(6, (0, -p4)), (0, (1, 275)), (1, (0, p1)), (2, (0, p2)), (3, (0, p3)), (4, (0, p4)), (5, (0, p5))], [(1, 275), (1, 302)], w78)) 1 rfl ?_
                                refine e_Ok.getf (z := w 275 30) rfl (el_o rfl) rfl rfl (by rw [← hw78]; exact (e_up_ne _ _ (Or.inl (by omega))).trans (by rw [← hw75]; exact (e_up_ne _ _ (Or.inl (by omega))).trans rfl)) (by omega) ?_
                                refine e_Ok.run (t' := (149, [(6, (0, -p4)), (0, (1, 275)), (1, (0, p1)), (2, (0, p2)), (3, (0, p3)), (4, (0, p4)), (5, (0, p5))], [(0, p3), (0, w 275 30), (1, 302)], w78)) 1 rfl ?_
                                refine e_Ok.ast rfl (el_o rfl) rfl rfl (by omega) ?_
                                generalize hw81 : e_up w78 302 (w 275 30) p3 = w81
                                have f82 : e_fr (mF 30 300 306) w w81 := e_fr.up f79 hw81 (by unfold mF; omega)
                                have hT83 : e_Has mTy w81 := e_Has.upr hT80 hw81 rfl (by omega)
                                refine e_Ok.run (t' := (151, [(6, (0, -p4)), (0, (1, 275)), (1, (0, p1)), (2, (0, p2)), (3, (0, p3)), (4, (0, p4)), (5, (0, p5))], [(1, 275)], w81)) 1 rfl ?_
                                refine e_Ok.getr (z := 303) rfl (el_o rfl) rfl rfl (by rw [← hw81]; exact (e_up_ne _ _ (Or.inl (by omega))).trans (by rw [← hw78]; exact (e_up_ne _ _ (Or.inl (by omega))).trans (by rw [← hw75]; exact (e_up_ne _ _ (Or.inl (by omega))).trans (e_Has.eq hT rfl)))) (by omega) ?_
                                refine e_Ok.run (t' := (155, [(6, (0, -p4)), (0, (1, 275)), (1, (0, p1)), (2, (0, p2)), (3, (0, p3)), (4, (0, p4)), (5, (0, p5))], [(1, 275), (1, 303)], w81)) 1 rfl ?_
                                refine e_Ok.getf (z := w 275 30) rfl (el_o rfl) rfl rfl (by rw [← hw81]; exact (e_up_ne _ _ (Or.inl (by omega))).trans (by rw [← hw78]; exact (e_up_ne _ _ (Or.inl (by omega))).trans (by rw [← hw75]; exact (e_up_ne _ _ (Or.inl (by omega))).trans rfl))) (by omega) ?_
                                refine e_Ok.run (t' := (160, [(6, (0, -p4)), (0, (1, 275)), (1, (0, p1)), (2, (0, p2)), (3, (0, p3)), (4, (0, p4)), (5, (0, p5))], [(0, p4), (0, w 275 30), (1, 303)], w81)) 1 rfl ?_
                                refine e_Ok.ast rfl (el_o rfl) rfl rfl (by omega) ?_
                                generalize hw84 : e_up w81 303 (w 275 30) p4 = w84
                                have f85 : e_fr (mF 30 300 306) w w84 := e_fr.up f82 hw84 (by unfold mF; omega)
                                have hT86 : e_Has mTy w84 := e_Has.upr hT83 hw84 rfl (by omega)
                                refine e_Ok.run (t' := (162, [(6, (0, -p4)), (0, (1, 275)), (1, (0, p1)), (2, (0, p2)), (3, (0, p3)), (4, (0, p4)), (5, (0, p5))], [(1, 275)], w84)) 1 rfl ?_
                                refine e_Ok.getr (z := 304) rfl (el_o rfl) rfl rfl (by rw [← hw84]; exact (e_up_ne _ _ (Or.inl (by omega))).trans (by rw [← hw81]; exact (e_up_ne _ _ (Or.inl (by omega))).trans (by rw [← hw78]; exact (e_up_ne _ _ (Or.inl (by omega))).trans (by rw [← hw75]; exact (e_up_ne _ _ (Or.inl (by omega))).trans (e_Has.eq hT rfl))))) (by omega) ?_
                                refine e_Ok.run (t' := (166, [(6, (0, -p4)), (0, (1, 275)), (1, (0, p1)), (2, (0, p2)), (3, (0, p3)), (4, (0, p4)), (5, (0, p5))], [(1, 275), (1, 304)], w84)) 1 rfl ?_
                                refine e_Ok.getf (z := w 275 30) rfl (el_o rfl) rfl rfl (by rw [← hw84]; exact (e_up_ne _ _ (Or.inl (by omega))).trans (by rw [← hw81]; exact (e_up_ne _ _ (Or.inl (by omega))).trans (by rw [← hw78]; exact (e_up_ne _ _ (Or.inl (by omega))).trans (by rw [← hw75]; exact (e_up_ne _ _ (Or.inl (by omega))).trans rfl)))) (by omega) ?_
                                refine e_Ok.run (t' := (170, [(6, (0, -p4)), (0, (1, 275)), (1, (0, p1)), (2, (0, p2)), (3, (0, p3)), (4, (0, p4)), (5, (0, p5))], [(0, 0), (0, w 275 30), (1, 304)], w84)) 1 rfl ?_
                                refine e_Ok.ast rfl (el_o rfl) rfl rfl (by omega) ?_
                                generalize hw87 : e_up w84 304 (w 275 30) 0 = w87
                                have f88 : e_fr (mF 30 300 306) w w87 := e_fr.up f85 hw87 (by unfold mF; omega)
                                have hT89 : e_Has mTy w87 := e_Has.upr hT86 hw87 rfl (by omega)
                                refine e_Ok.run (t' := (172, [(6, (0, -p4)), (0, (1, 275)), (1, (0, p1)), (2, (0, p2)), (3, (0, p3)), (4, (0, p4)), (5, (0, p5))], [(1, 275)], w87)) 1 rfl ?_
                                refine e_Ok.getr (z := 306) rfl (el_o rfl) rfl rfl (by rw [← hw87]; exact (e_up_ne _ _ (Or.inl (by omega))).trans (by rw [← hw84]; exact (e_up_ne _ _ (Or.inl (by omega))).trans (by rw [← hw81]; exact (e_up_ne _ _ (Or.inl (by omega))).trans (by rw [← hw78]; exact (e_up_ne _ _ (Or.inl (by omega))).trans (by rw [← hw75]; exact (e_up_ne _ _ (Or.inl (by omega))).trans (e_Has.eq hT rfl)))))) (by omega) ?_
                                refine e_Ok.run (t' := (176, [(6, (0, -p4)), (0, (1, 275)), (1, (0, p1)), (2, (0, p2)), (3, (0, p3)), (4, (0, p4)), (5, (0, p5))], [(1, 275), (1, 306)], w87)) 1 rfl ?_
                                refine e_Ok.getf (z := w 275 30) rfl (el_o rfl) rfl rfl (by rw [← hw87]; exact (e_up_ne _ _ (Or.inl (by omega))).trans (by rw [← hw84]; exact (e_up_ne _ _ (Or.inl (by omega))).trans (by rw [← hw81]; exact (e_up_ne _ _ (Or.inl (by omega))).trans (by rw [← hw78]; exact (e_up_ne _ _ (Or.inl (by omega))).trans (by rw [← hw75]; exact (e_up_ne _ _ (Or.inl (by omega))).trans rfl))))) (by omega) ?_
                                refine e_Ok.run (t' := (180, [(6, (0, -p4)), (0, (1, 275)), (1, (0, p1)), (2, (0, p2)), (3, (0, p3)), (4, (0, p4)), (5, (0, p5))], [(0, (-1)), (0, w 275 30), (1, 306)], w87)) 1 rfl ?_
                                refine e_Ok.ast rfl (el_o rfl) rfl rfl (by omega) ?_
                                generalize hw90 : e_up w87 306 (w 275 30) (-1) = w90
                                have f91 : e_fr (mF 30 300 306) w w90 := e_fr.up f88 hw90 (by unfold mF; omega)
                                have hT92 : e_Has mTy w90 := e_Has.upr hT89 hw90 rfl (by omega)
                                refine e_Ok.run (t' := (182, [(6, (0, -p4)), (0, (1, 275)), (1, (0, p1)), (2, (0, p2)), (3, (0, p3)), (4, (0, p4)), (5, (0, p5))], [(1, 275)], w90)) 1 rfl ?_
                                refine e_Ok.getr (z := 305) rfl (el_o rfl) rfl rfl (by rw [← hw90]; exact (e_up_ne _ _ (Or.inl (by omega))).trans (by rw [← hw87]; exact (e_up_ne _ _ (Or.inl (by omega))).trans (by rw [← hw84]; exact (e_up_ne _ _ (Or.inl (by omega))).trans (by rw [← hw81]; exact (e_up_ne _ _ (Or.inl (by omega))).trans (by rw [← hw78]; exact (e_up_ne _ _ (Or.inl (by omega))).trans (by rw [← hw75]; exact (e_up_ne _ _ (Or.inl (by omega))).trans (e_Has.eq hT rfl))))))) (by omega) ?_
                                refine e_Ok.run (t' := (186, [(6, (0, -p4)), (0, (1, 275)), (1, (0, p1)), (2, (0, p2)), (3, (0, p3)), (4, (0, p4)), (5, (0, p5))], [(1, 275), (1, 305)], w90)) 1 rfl ?_
                                refine e_Ok.getf (z := w 275 30) rfl (el_o rfl) rfl rfl (by rw [← hw90]; exact (e_up_ne _ _ (Or.inl (by omega))).trans (by rw [← hw87]; exact (e_up_ne _ _ (Or.inl (by omega))).trans (by rw [← hw84]; exact (e_up_ne _ _ (Or.inl (by omega))).trans (by rw [← hw81]; exact (e_up_ne _ _ (Or.inl (by omega))).trans (by rw [← hw78]; exact (e_up_ne _ _ (Or.inl (by omega))).trans (by rw [← hw75]; exact (e_up_ne _ _ (Or.inl (by omega))).trans rfl)))))) (by omega) ?_
                                refine e_Ok.run (t' := (191, [(6, (0, -p4)), (0, (1, 275)), (1, (0, p1)), (2, (0, p2)), (3, (0, p3)), (4, (0, p4)), (5, (0, p5))], [(0, p5), (0, w 275 30), (1, 305)], w90)) 1 rfl ?_
                                refine e_Ok.ast rfl (el_o rfl) rfl rfl (by omega) ?_
                                generalize hw93 : e_up w90 305 (w 275 30) p5 = w93
                                have f94 : e_fr (mF 30 300 306) w w93 := e_fr.up f91 hw93 (by unfold mF; omega)
                                have hT95 : e_Has mTy w93 := e_Has.upr hT92 hw93 rfl (by omega)
                                refine e_Ok.run (t' := (194, [(6, (0, -p4)), (0, (1, 275)), (1, (0, p1)), (2, (0, p2)), (3, (0, p3)), (4, (0, p4)), (5, (0, p5))], [(1, 275), (1, 275)], w93)) 2 rfl ?_
                                refine e_Ok.getf (z := w 275 30) rfl (el_o rfl) rfl rfl (by rw [← hw93]; exact (e_up_ne _ _ (Or.inl (by omega))).trans (by rw [← hw90]; exact (e_up_ne _ _ (Or.inl (by omega))).trans (by rw [← hw87]; exact (e_up_ne _ _ (Or.inl (by omega))).trans (by rw [← hw84]; exact (e_up_ne _ _ (Or.inl (by omega))).trans (by rw [← hw81]; exact (e_up_ne _ _ (Or.inl (by omega))).trans (by rw [← hw78]; exact (e_up_ne _ _ (Or.inl (by omega))).trans (by rw [← hw75]; exact (e_up_ne _ _ (Or.inl (by omega))).trans rfl))))))) (by omega) ?_
                                refine e_Ok.run (t' := (198, [(6, (0, -p4)), (0, (1, 275)), (1, (0, p1)), (2, (0, p2)), (3, (0, p3)), (4, (0, p4)), (5, (0, p5))], [(0, 1), (0, w 275 30), (1, 275)], w93)) 1 rfl ?_
                                refine e_Ok.add (z := w 275 30 + 1) rfl (by omega) (by omega) ?_
                                refine e_Ok.putf rfl (el_o rfl) rfl rfl ?_
                                generalize hw96 : e_up w93 275 30 (w 275 30 + 1) = w96
                                have f97 : e_fr (mF 30 300 306) w w96 := e_fr.up f94 hw96 (by unfold mF; omega)
                                have hT98 : e_Has mTy w96 := e_Has.upr hT95 hw96 rfl (by omega)
                                refine e_Ok.run (t' := (203, [(6, (0, -p4)), (0, (1, 275)), (1, (0, p1)), (2, (0, p2)), (3, (0, p3)), (4, (0, p4)), (5, (0, p5))], [(1, 275)], w96)) 1 rfl ?_
                                refine e_Ok.getf (z := w 275 30 + 1) rfl (el_o rfl) rfl rfl (by rw [← hw96]; exact e_up_eq _ _ _ _) (by omega) ?_
                                refine e_Ok.run (t' := (207, [(6, (0, -p4)), (0, (1, 275)), (1, (0, p1)), (2, (0, p2)), (3, (0, p3)), (4, (0, p4)), (5, (0, p5))], [(0, 1), (0, w 275 30 + 1)], w96)) 1 rfl ?_
                                refine e_Ok.sub' (z := w 275 30) rfl (by omega) (by omega) ?_
                                refine e_Ok.rets rfl rfl ?_
                                exact ⟨_, rfl, f97, hT98, trivial⟩
                              · replace h74 : (w 275 30 : Int) = 4 := by have q : ¬ ((w 275 30 : Int) ≠ 4) := h74; omega
                                refine e_Ok.run (t' := (119, [(6, (0, -p4)), (0, (1, 275)), (1, (0, p1)), (2, (0, p2)), (3, (0, p3)), (4, (0, p4)), (5, (0, p5))], [(0, (-3))], w)) 1 rfl ?_
                                refine e_Ok.rets rfl rfl ?_
                                exact ⟨_, rfl, (e_fr.refl w), hT, trivial⟩
                            · replace h72 : (w 275 3 : Int) ≠ 0 := by have q : ¬ ((w 275 3 : Int) = 0) := h72; omega
                              refine e_Ok.run (t' := (108, [(6, (0, -p4)), (0, (1, 275)), (1, (0, p1)), (2, (0, p2)), (3, (0, p3)), (4, (0, p4)), (5, (0, p5))], [(0, (-2))], w)) 1 rfl ?_
                              refine e_Ok.rets rfl rfl ?_
                              exact ⟨_, rfl, (e_fr.refl w), hT, trivial⟩
                          · replace h70 : (1 : Int) = 0 := by have q : ¬ ((1 : Int) ≠ 0) := h70; omega
                            exfalso; omega
                        · show e_Ok 20 elay ecode eI (d + 1) 286 (94, [(6, (0, -p4)), (0, (1, 275)), (1, (0, p1)), (2, (0, p2)), (3, (0, p3)), (4, (0, p4)), (5, (0, p5))], [(0, 0)], w) _
                          refine e_Ok.if1 rfl (fun h99 => ?_) (fun h99 => ?_)
                          · replace h99 : (0 : Int) ≠ 0 := h99
                            exfalso; omega
                          · replace h99 : (0 : Int) = 0 := by have q : ¬ ((0 : Int) ≠ 0) := h99; omega
                            refine e_Ok.run (t' := (98, [(6, (0, -p4)), (0, (1, 275)), (1, (0, p1)), (2, (0, p2)), (3, (0, p3)), (4, (0, p4)), (5, (0, p5))], [(0, (-1))], w)) 1 rfl ?_
                            refine e_Ok.rets rfl rfl ?_
                            exact ⟨_, rfl, (e_fr.refl w), hT, trivial⟩
                    · replace h27 : (z26 : Int) = 0 := by have q : ¬ ((z26 : Int) ≠ 0) := h27; omega
                      refine e_Ok.run (t' := (72, [(6, (0, -p4)), (0, (1, 275)), (1, (0, p1)), (2, (0, p2)), (3, (0, p3)), (4, (0, p4)), (5, (0, p5))], [(0, -p4), (0, p1)], w)) 2 rfl ?_
                      refine e_Ok.add (z := p1 - p4) rfl (by omega) (by omega) ?_
                      refine e_Ok.run (t' := (79, [(6, (0, -p4)), (0, (1, 275)), (1, (0, p1)), (2, (0, p2)), (3, (0, p3)), (4, (0, p4)), (5, (0, p5))], [(0, 2), (0, p3), (0, p1 - p4)], w)) 3 rfl ?_
                      refine e_Ok.remn (fun z100 hz100 => ?_) rfl (by omega) (by omega)
                      replace hz100 : z100 = p3 % 2 := hz100
                      have z100r : 0 ≤ z100 ∧ z100 ≤ 1 := by omega
                      refine e_Ok.if1 rfl (fun h101 => ?_) (fun h101 => ?_)
                      · replace h101 : (z100 : Int) ≠ 0 := h101
                        refine e_Ok.run (t' := (90, [(6, (0, -p4)), (0, (1, 275)), (1, (0, p1)), (2, (0, p2)), (3, (0, p3)), (4, (0, p4)), (5, (0, p5))], [(0, -p4), (0, p2), (0, p1 - p4)], w)) 2 rfl ?_
                        refine e_Ok.add (z := p2 - p4) rfl (by omega) (by omega) ?_
                        refine e_Ok.callS rfl (by omega) rfl rfl (c_272 (by omega)) (fun r102 w103 h104 => ?_)
                        obtain ⟨z105, rfl, rfl, q106⟩ := h104
                        obtain ⟨rfl, q106⟩ | ⟨rfl, q106⟩ := q106
                        · show e_Ok 20 elay ecode eI (d + 1) 286 (94, [(6, (0, -p4)), (0, (1, 275)), (1, (0, p1)), (2, (0, p2)), (3, (0, p3)), (4, (0, p4)), (5, (0, p5))], [(0, 1)], w) _
                          refine e_Ok.if1 rfl (fun h107 => ?_) (fun h107 => ?_)
                          · replace h107 : (1 : Int) ≠ 0 := h107
                            refine e_Ok.run (t' := (100, [(6, (0, -p4)), (0, (1, 275)), (1, (0, p1)), (2, (0, p2)), (3, (0, p3)), (4, (0, p4)), (5, (0, p5))], [(1, 275)], w)) 1 rfl ?_
                            have h108 := (e_Has.get hT (c := 275) (k := 3) (lo := 0) (hi := 1) rfl (by decide))
                            refine e_Ok.getf (z := w 275 3) rfl (el_o rfl) rfl rfl rfl (by omega) ?_
                            refine e_Ok.if1 rfl (fun h109 => ?_) (fun h109 => ?_)
                            · replace h109 : (w 275 3 : Int) = 0 := h109
                              refine e_Ok.run (t' := (110, [(6, (0, -p4)), (0, (1, 275)), (1, (0, p1)), (2, (0, p2)), (3, (0, p3)), (4, (0, p4)), (5, (0, p5))], [(1, 275)], w)) 1 rfl ?_
                              have h110 := (e_Has.get hT (c := 275) (k := 30) (lo := 0) (hi := 4) rfl (by decide))
                              refine e_Ok.getf (z := w 275 30) rfl (el_o rfl) rfl rfl rfl (by omega) ?_
                              refine e_Ok.run (t' := (114, [(6, (0, -p4)), (0, (1, 275)), (1, (0, p1)), (2, (0, p2)), (3, (0, p3)), (4, (0, p4)), (5, (0, p5))], [(0, 4), (0, w 275 30)], w)) 1 rfl ?_
                              refine e_Ok.if2 rfl (fun h111 => ?_) (fun h111 => ?_)
                              · replace h111 : (w 275 30 : Int) ≠ 4 := h111
                                refine e_Ok.run (t' := (121, [(6, (0, -p4)), (0, (1, 275)), (1, (0, p1)), (2, (0, p2)), (3, (0, p3)), (4, (0, p4)), (5, (0, p5))], [(1, 275)], w)) 1 rfl ?_
                                refine e_Ok.getr (z := 300) rfl (el_o rfl) rfl rfl (e_Has.eq hT rfl) (by omega) ?_
                                refine e_Ok.run (t' := (125, [(6, (0, -p4)), (0, (1, 275)), (1, (0, p1)), (2, (0, p2)), (3, (0, p3)), (4, (0, p4)), (5, (0, p5))], [(1, 275), (1, 300)], w)) 1 rfl ?_
                                refine e_Ok.getf (z := w 275 30) rfl (el_o rfl) rfl rfl rfl (by omega) ?_
                                refine e_Ok.run (t' := (129, [(6, (0, -p4)), (0, (1, 275)), (1, (0, p1)), (2, (0, p2)), (3, (0, p3)), (4, (0, p4)), (5, (0, p5))], [(0, p1), (0, w 275 30), (1, 300)], w)) 1 rfl ?_
                                refine e_Ok.ast rfl (el_o rfl) rfl rfl (by omega) ?_
                                generalize hw112 : e_up w 300 (w 275 30) p1 = w112
                                have f113 : e_fr (mF 30 300 306) w w112 := e_fr.up (e_fr.refl w) hw112 (by unfold mF; omega)
                                have hT114 : e_Has mTy w112 := e_Has.upr hT hw112 rfl (by omega)
                                refine e_Ok.run (t' := (131, [(6, (0, -p4)), (0, (1, 275)), (1, (0, p1)), (2, (0, p2)), (3, (0, p3)), (4, (0, p4)), (5, (0, p5))], [(1, 275)], w112)) 1 rfl ?_
                                refine e_Ok.getr (z := 301) rfl (el_o rfl) rfl rfl (by rw [← hw112]; exact (e_up_ne _ _ (Or.inl (by omega))).trans (e_Has.eq hT rfl)) (by omega) ?_
                                refine e_Ok.run (t' := (135, [(6, (0, -p4)), (0, (1, 275)), (1, (0, p1)), (2, (0, p2)), (3, (0, p3)), (4, (0, p4)), (5, (0, p5))], [(1, 275), (1, 301)], w112)) 1 rfl ?_
                                refine e_Ok.getf (z := w 275 30) rfl (el_o rfl) rfl rfl (by rw [← hw112]; exact (e_up_ne _ _ (Or.inl (by omega))).trans rfl) (by omega) ?_
                                refine e_Ok.run (t' := (139, [(6, (0, -p4)), (0, (1, 275)), (1, (0, p1)), (2, (0, p2)), (3, (0, p3)), (4, (0, p4)), (5, (0, p5))], [(0, p2), (0, w 275 30), (1, 301)], w112)) 1 rfl ?_
                                refine e_Ok.ast rfl (el_o rfl) rfl rfl (by omega) ?_
                                generalize hw115 : e_up w112 301 (w 275 30) p2 = w115
                                have f116 : e_fr (mF 30 300 306) w w115 := e_fr.up f113 hw115 (by unfold mF; omega)
                                have hT117 : e_Has mTy w115 := e_Has.upr hT114 hw115 rfl (by omega)
                                refine e_Ok.run (t' := (141, [(6, (0, -p4)), (0, (1, 275)), (1, (0, p1)), (2, (0, p2)), (3, (0, p3)), (4, (0, p4)), (5, (0, p5))], [(1, 275)], w115)) 1 rfl ?_
                                refine e_Ok.getr (z := 302) rfl (el_o rfl) rfl rfl (by rw [← hw115]; exact (e_up_ne _ _ (Or.inl (by omega))).trans (by rw [← hw112]; exact (e_up_ne _ _ (Or.inl (by omega))).trans (e_Has.eq hT rfl))) (by omega) ?_
                                refine e_Ok.run (t' := (145, [(6, (0, -p4)), (0, (1, 275)), (1, (0, p1)), (2, (0, p2)), (3, (0, p3)), (4, (0, p4)), (5, (0, p5))], [(1, 275), (1, 302)], w115)) 1 rfl ?_
                                refine e_Ok.getf (z := w 275 30) rfl (el_o rfl) rfl rfl (by rw [← hw115]; exact (e_up_ne _ _ (Or.inl (by omega))).trans (by rw [← hw112]; exact (e_up_ne _ _ (Or.inl (by omega))).trans rfl)) (by omega) ?_
                                refine e_Ok.run (t' := (149, [(6, (0, -p4)), (0, (1, 275)), (1, (0, p1)), (2, (0, p2)), (3, (0, p3)), (4, (0, p4)), (5, (0, p5))], [(0, p3), (0, w 275 30), (1, 302)], w115)) 1 rfl ?_
                                refine e_Ok.ast rfl (el_o rfl) rfl rfl (by omega) ?_
                                generalize hw118 : e_up w115 302 (w 275 30) p3 = w118
                                have f119 : e_fr (mF 30 300 306) w w118 := e_fr.up f116 hw118 (by unfold mF; omega)
                                have hT120 : e_Has mTy w118 := e_Has.upr hT117 hw118 rfl (by omega)
                                refine e_Ok.run (t' := (151, [(6, (0, -p4)), (0, (1, 275)), (1, (0, p1)), (2, (0, p2)), (3, (0, p3)), (4, (0, p4)), (5, (0, p5))], [(1, 275)], w118)) 1 rfl ?_
                                refine e_Ok.getr (z := 303) rfl (el_o rfl) rfl rfl (by rw [← hw118]; exact (e_up_ne _ _ (Or.inl (by omega))).trans (by rw [← hw115]; exact (e_up_ne _ _ (Or.inl (by omega))).trans (by rw [← hw112]; exact (e_up_ne _ _ (Or.inl (by omega))).trans (e_Has.eq hT rfl)))) (by omega) ?_
                                refine e_Ok.run (t' := (155, [(6, (0, -p4)), (0, (1, 275)), (1, (0, p1)), (2, (0, p2)), (3, (0, p3)), (4, (0, p4)), (5, (0, p5))], [(1, 275), (1, 303)], w118)) 1 rfl ?_
                                refine e_Ok.getf (z := w 275 30) rfl (el_o rfl) rfl rfl (by rw [← hw118]; exact (e_up_ne _ _ (Or.inl (by omega))).trans (by rw [← hw115]; exact (e_up_ne _ _ (Or.inl (by omega))).trans (by rw [← hw112]; exact (e_up_ne _ _ (Or.inl (by omega))).trans rfl))) (by omega) ?_
                                refine e_Ok.run (t' := (160, [(6, (0, -p4)), (0, (1, 275)), (1, (0, p1)), (2, (0, p2)), (3, (0, p3)), (4, (0, p4)), (5, (0, p5))], [(0, p4), (0, w 275 30), (1, 303)], w118)) 1 rfl ?_
                                refine e_Ok.ast rfl (el_o rfl) rfl rfl (by omega) ?_
                                generalize hw121 : e_up w118 303 (w 275 30) p4 = w121
                                have f122 : e_fr (mF 30 300 306) w w121 := e_fr.up f119 hw121 (by unfold mF; omega)
                                have hT123 : e_Has mTy w121 := e_Has.upr hT120 hw121 rfl (by omega)
                                refine e_Ok.run (t' := (162, [(6, (0, -p4)), (0, (1, 275)), (1, (0, p1)), (2, (0, p2)), (3, (0, p3)), (4, (0, p4)), (5, (0, p5))], [(1, 275)], w121)) 1 rfl ?_
                                refine e_Ok.getr (z := 304) rfl (el_o rfl) rfl rfl (by rw [← hw121]; exact (e_up_ne _ _ (Or.inl (by omega))).trans (by rw [← hw118]; exact (e_up_ne _ _ (Or.inl (by omega))).trans (by rw [← hw115]; exact (e_up_ne _ _ (Or.inl (by omega))).trans (by rw [← hw112]; exact (e_up_ne _ _ (Or.inl (by omega))).trans (e_Has.eq hT rfl))))) (by omega) ?_
                                refine e_Ok.run (t' := (166, [(6, (0, -p4)), (0, (1, 275)), (1, (0, p1)), (2, (0, p2)), (3, (0, p3)), (4, (0, p4)), (5, (0, p5))], [(1, 275), (1, 304)], w121)) 1 rfl ?_
                                refine e_Ok.getf (z := w 275 30) rfl (el_o rfl) rfl rfl (by rw [← hw121]; exact (e_up_ne _ _ (Or.inl (by omega))).trans (by rw [← hw118]; exact (e_up_ne _ _ (Or.inl (by omega))).trans (by rw [← hw115]; exact (e_up_ne _ _ (Or.inl (by omega))).trans (by rw [← hw112]; exact (e_up_ne _ _ (Or.inl (by omega))).trans rfl)))) (by omega) ?_
                                refine e_Ok.run (t' := (170, [(6, (0, -p4)), (0, (1, 275)), (1, (0, p1)), (2, (0, p2)), (3, (0, p3)), (4, (0, p4)), (5, (0, p5))], [(0, 0), (0, w 275 30), (1, 304)], w121)) 1 rfl ?_
                                refine e_Ok.ast rfl (el_o rfl) rfl rfl (by omega) ?_
                                generalize hw124 : e_up w121 304 (w 275 30) 0 = w124
                                have f125 : e_fr (mF 30 300 306) w w124 := e_fr.up f122 hw124 (by unfold mF; omega)
                                have hT126 : e_Has mTy w124 := e_Has.upr hT123 hw124 rfl (by omega)
                                refine e_Ok.run (t' := (172, [(6, (0, -p4)), (0, (1, 275)), (1, (0, p1)), (2, (0, p2)), (3, (0, p3)), (4, (0, p4)), (5, (0, p5))], [(1, 275)], w124)) 1 rfl ?_
                                refine e_Ok.getr (z := 306) rfl (el_o rfl) rfl rfl (by rw [← hw124]; exact (e_up_ne _ _ (Or.inl (by omega))).trans (by rw [← hw121]; exact (e_up_ne _ _ (Or.inl (by omega))).trans (by rw [← hw118]; exact (e_up_ne _ _ (Or.inl (by omega))).trans (by rw [← hw115]; exact (e_up_ne _ _ (Or.inl (by omega))).trans (by rw [← hw112]; exact (e_up_ne _ _ (Or.inl (by omega))).trans (e_Has.eq hT rfl)))))) (by omega) ?_
                                refine e_Ok.run (t' := (176, [(6, (0, -p4)), (0, (1, 275)), (1, (0, p1)), (2, (0, p2)), (3, (0, p3)), (4, (0, p4)), (5, (0, p5))], [(1, 275), (1, 306)], w124)) 1 rfl ?_
                                refine e_Ok.getf (z := w 275 30) rfl (el_o rfl) rfl rfl (by rw [← hw124]; exact (e_up_ne _ _ (Or.inl (by omega))).trans (by rw [← hw121]; exact (e_up_ne _ _ (Or.inl (by omega))).trans (by rw [← hw118]; exact (e_up_ne _ _ (Or.inl (by omega))).trans (by rw [← hw115]; exact (e_up_ne _ _ (Or.inl (by omega))).trans (by rw [← hw112]; exact (e_up_ne _ _ (Or.inl (by omega))).trans rfl))))) (by omega) ?_
                                refine e_Ok.run (t' := (180, [(6, (0, -p4)), (0, (1, 275)), (1, (0, p1)), (2, (0, p2)), (3, (0, p3)), (4, (0, p4)), (5, (0, p5))], [(0, (-1)), (0, w 275 30), (1, 306)], w124)) 1 rfl ?_
                                refine e_Ok.ast rfl (el_o rfl) rfl rfl (by omega) ?_
                                generalize hw127 : e_up w124 306 (w 275 30) (-1) = w127
                                have f128 : e_fr (mF 30 300 306) w w127 := e_fr.up f125 hw127 (by unfold mF; omega)
                                have hT129 : e_Has mTy w127 := e_Has.upr hT126 hw127 rfl (by omega)
                                refine e_Ok.run (t' := (182, [(6, (0, -p4)), (0, (1, 275)), (1, (0, p1)), (2, (0, p2)), (3, (0, p3)), (4, (0, p4)), (5, (0, p5))], [(1, 275)], w127)) 1 rfl ?_
                                refine e_Ok.getr (z := 305) rfl (el_o rfl) rfl rfl (by rw [← hw127]; exact (e_up_ne _ _ (Or.inl (by omega))).trans (by rw [← hw124]; exact (e_up_ne _ _ (Or.inl (by omega))).trans (by rw [← hw121]; exact (e_up_ne _ _ (Or.inl (by omega))).trans (by rw [← hw118]; exact (e_up_ne _ _ (Or.inl (by omega))).trans (by rw [← hw115]; exact (e_up_ne _ _ (Or.inl (by omega))).trans (by rw [← hw112]; exact (e_up_ne _ _ (Or.inl (by omega))).trans (e_Has.eq hT rfl))))))) (by omega) ?_
                                refine e_Ok.run (t' := (186, [(6, (0, -p4)), (0, (1, 275)), (1, (0, p1)), (2, (0, p2)), (3, (0, p3)), (4, (0, p4)), (5, (0, p5))], [(1, 275), (1, 305)], w127)) 1 rfl ?_
                                refine e_Ok.getf (z := w 275 30) rfl (el_o rfl) rfl rfl (by rw [← hw127]; exact (e_up_ne _ _ (Or.inl (by omega))).trans (by rw [← hw124]; exact (e_up_ne _ _ (Or.inl (by omega))).trans (by rw [← hw121]; exact (e_up_ne _ _ (Or.inl (by omega))).trans (by rw [← hw118]; exact (e_up_ne _ _ (Or.inl (by omega))).trans (by rw [← hw115]; exact (e_up_ne _ _ (Or.inl (by omega))).trans (by rw [← hw112]; exact (e_up_ne _ _ (Or.inl (by omega))).trans rfl)))))) (by omega) ?_
                                refine e_Ok.run (t' := (191, [(6, (0, -p4)), (0, (1, 275)), (1, (0, p1)), (2, (0, p2)), (3, (0, p3)), (4, (0, p4)), (5, (0, p5))], [(0, p5), (0, w 275 30), (1, 305)], w127)) 1 rfl ?_
                                refine e_Ok.ast rfl (el_o rfl) rfl rfl (by omega) ?_
                                generalize hw130 : e_up w127 305 (w 275 30) p5 = w130
                                have f131 : e_fr (mF 30 300 306) w w130 := e_fr.up f128 hw130 (by unfold mF; omega)
                                have hT132 : e_Has mTy w130 := e_Has.upr hT129 hw130 rfl (by omega)
                                refine e_Ok.run (t' := (194, [(6, (0, -p4)), (0, (1, 275)), (1, (0, p1)), (2, (0, p2)), (3, (0, p3)), (4, (0, p4)), (5, (0, p5))], [(1, 275), (1, 275)], w130)) 2 rfl ?_
                                refine e_Ok.getf (z := w 275 30) rfl (el_o rfl) rfl rfl (by rw [← hw130]; exact (e_up_ne _ _ (Or.inl (by omega))).trans (by rw [← hw127]; exact (e_up_ne _ _ (Or.inl (by omega))).trans (by rw [← hw124]; exact (e_up_ne _ _ (Or.inl (by omega))).trans (by rw [← hw121]; exact (e_up_ne _ _ (Or.inl (by omega))).trans (by rw [← hw118]; exact (e_up_ne _ _ (Or.inl (by omega))).trans (by rw [← hw115]; exact (e_up_ne _ _ (Or.inl (by omega))).trans (by rw [← hw112]; exact (e_up_ne _ _ (Or.inl (by omega))).trans rfl))))))) (by omega) ?_
                                refine e_Ok.run (t' := (198, [(6, (0, -p4)), (0, (1, 275)), (1, (0, p1)), (2, (0, p2)), (3, (0, p3)), (4, (0, p4)), (5, (0, p5))], [(0, 1), (0, w 275 30), (1, 275)], w130)) 1 rfl ?_
                                refine e_Ok.add (z := w 275 30 + 1) rfl (by omega) (by omega) ?_
                                refine e_Ok.putf rfl (el_o rfl) rfl rfl ?_
                                generalize hw133 : e_up w130 275 30 (w 275 30 + 1) = w133
                                have f134 : e_fr (mF 30 300 306) w w133 := e_fr.up f131 hw133 (by unfold mF; omega)
                                have hT135 : e_Has mTy w133 := e_Has.upr hT132 hw133 rfl (by omega)
                                refine e_Ok.run (t' := (203, [(6, (0, -p4)), (0, (1, 275)), (1, (0, p1)), (2, (0, p2)), (3, (0, p3)), (4, (0, p4)), (5, (0, p5))], [(1, 275)], w133)) 1 rfl ?_
                                refine e_Ok.getf (z := w 275 30 + 1) rfl (el_o rfl) rfl rfl (by rw [← hw133]; exact e_up_eq _ _ _ _) (by omega) ?_
                                refine e_Ok.run (t' := (207, [(6, (0, -p4)), (0, (1, 275)), (1, (0, p1)), (2, (0, p2)), (3, (0, p3)), (4, (0, p4)), (5, (0, p5))], [(0, 1), (0, w 275 30 + 1)], w133)) 1 rfl ?_
                                refine e_Ok.sub' (z := w 275 30) rfl (by omega) (by omega) ?_
                                refine e_Ok.rets rfl rfl ?_
                                exact ⟨_, rfl, f134, hT135, trivial⟩
                              · replace h111 : (w 275 30 : Int) = 4 := by have q : ¬ ((w 275 30 : Int) ≠ 4) := h111; omega
                                refine e_Ok.run (t' := (119, [(6, (0, -p4)), (0, (1, 275)), (1, (0, p1)), (2, (0, p2)), (3, (0, p3)), (4, (0, p4)), (5, (0, p5))], [(0, (-3))], w)) 1 rfl ?_
                                refine e_Ok.rets rfl rfl ?_
                                exact ⟨_, rfl, (e_fr.refl w), hT, trivial⟩
                            · replace h109 : (w 275 3 : Int) ≠ 0 := by have q : ¬ ((w 275 3 : Int) = 0) := h109; omega
                              refine e_Ok.run (t' := (108, [(6, (0, -p4)), (0, (1, 275)), (1, (0, p1)), (2, (0, p2)), (3, (0, p3)), (4, (0, p4)), (5, (0, p5))], [(0, (-2))], w)) 1 rfl ?_
                              refine e_Ok.rets rfl rfl ?_
                              exact ⟨_, rfl, (e_fr.refl w), hT, trivial⟩
                          · replace h107 : (1 : Int) = 0 := by have q : ¬ ((1 : Int) ≠ 0) := h107; omega
                            exfalso; omega
                        · show e_Ok 20 elay ecode eI (d + 1) 286 (94, [(6, (0, -p4)), (0, (1, 275)), (1, (0, p1)), (2, (0, p2)), (3, (0, p3)), (4, (0, p4)), (5, (0, p5))], [(0, 0)], w) _
                          refine e_Ok.if1 rfl (fun h136 => ?_) (fun h136 => ?_)
                          · replace h136 : (0 : Int) ≠ 0 := h136
                            exfalso; omega
                          · replace h136 : (0 : Int) = 0 := by have q : ¬ ((0 : Int) ≠ 0) := h136; omega
                            refine e_Ok.run (t' := (98, [(6, (0, -p4)), (0, (1, 275)), (1, (0, p1)), (2, (0, p2)), (3, (0, p3)), (4, (0, p4)), (5, (0, p5))], [(0, (-1))], w)) 1 rfl ?_
                            refine e_Ok.rets rfl rfl ?_
                            exact ⟨_, rfl, (e_fr.refl w), hT, trivial⟩
                      · replace h101 : (z100 : Int) = 0 := by have q : ¬ ((z100 : Int) ≠ 0) := h101; omega
                        refine e_Ok.run (t' := (91, [(6, (0, -p4)), (0, (1, 275)), (1, (0, p1)), (2, (0, p2)), (3, (0, p3)), (4, (0, p4)), (5, (0, p5))], [(0, p2), (0, p1 - p4)], w)) 2 rfl ?_
                        refine e_Ok.callS rfl (by omega) rfl rfl (c_272 (by omega)) (fun r137 w138 h139 => ?_)
                        obtain ⟨z140, rfl, rfl, q141⟩ := h139
                        obtain ⟨rfl, q141⟩ | ⟨rfl, q141⟩ := q141
                        · show e_Ok 20 elay ecode eI (d + 1) 286 (94, [(6, (0, -p4)), (0, (1, 275)), (1, (0, p1)), (2, (0, p2)), (3, (0, p3)), (4, (0, p4)), (5, (0, p5))], [(0, 1)], w) _
                          refine e_Ok.if1 rfl (fun h142 => ?_) (fun h142 => ?_)
                          · replace h142 : (1 : Int) ≠ 0 := h142
                            refine e_Ok.run (t' := (100, [(6, (0, -p4)), (0, (1, 275)), (1, (0, p1)), (2, (0, p2)), (3, (0, p3)), (4, (0, p4)), (5, (0, p5))], [(1, 275)], w)) 1 rfl ?_
                            have h143 := (e_Has.get hT (c := 275) (k := 3) (lo := 0) (hi := 1) rfl (by decide))
                            refine e_Ok.getf (z := w 275 3) rfl (el_o rfl) rfl rfl rfl (by omega) ?_
                            refine e_Ok.if1 rfl (fun h144 => ?_) (fun h144 => ?_)
                            · replace h144 : (w 275 3 : Int) = 0 := h144
                              refine e_Ok.run (t' := (110, [(6, (0, -p4)), (0, (1, 275)), (1, (0, p1)), (2, (0, p2)), (3, (0, p3)), (4, (0, p4)), (5, (0, p5))], [(1, 275)], w)) 1 rfl ?_
                              have h145 := (e_Has.get hT (c := 275) (k := 30) (lo := 0) (hi := 4) rfl (by decide))
                              refine e_Ok.getf (z := w 275 30) rfl (el_o rfl) rfl rfl rfl (by omega) ?_
                              refine e_Ok.run (t' := (114, [(6, (0, -p4)), (0, (1, 275)), (1, (0, p1)), (2, (0, p2)), (3, (0, p3)), (4, (0, p4)), (5, (0, p5))], [(0, 4), (0, w 275 30)], w)) 1 rfl ?_
                              refine e_Ok.if2 rfl (fun h146 => ?_) (fun h146 => ?_)
                              · replace h146 : (w 275 30 : Int) ≠ 4 := h146
                                refine e_Ok.run (t' := (121, [(6, (0, -p4)), (0, (1, 275)), (1, (0, p1)), (2, (0, p2)), (3, (0, p3)), (4, (0, p4)), (5, (0, p5))], [(1, 275)], w)) 1 rfl ?_
                                refine e_Ok.getr (z := 300) rfl (el_o rfl) rfl rfl (e_Has.eq hT rfl) (by omega) ?_
                                refine e_Ok.run (t' := (125, [(6, (0, -p4)), (0, (1, 275)), (1, (0, p1)), (2, (0, p2)), (3, (0, p3)), (4, (0, p4)), (5, (0, p5))], [(1, 275), (1, 300)], w)) 1 rfl ?_
                                refine e_Ok.getf (z := w 275 30) rfl (el_o rfl) rfl rfl rfl (by omega) ?_
                                refine e_Ok.run (t' := (129, [(6, (0, -p4)), (0, (1, 275)), (1, (0, p1)), (2, (0, p2)), (3, (0, p3)), (4, (0, p4)), (5, (0, p5))], [(0, p1), (0, w 275 30), (1, 300)], w)) 1 rfl ?_
                                refine e_Ok.ast rfl (el_o rfl) rfl rfl (by omega) ?_
                                generalize hw147 : e_up w 300 (w 275 30) p1 = w147
                                have f148 : e_fr (mF 30 300 306) w w147 := e_fr.up (e_fr.refl w) hw147 (by unfold mF; omega)
                                have hT149 : e_Has mTy w147 := e_Has.upr hT hw147 rfl (by omega)
                                refine e_Ok.run (t' := (131, [(6, (0, -p4)), (0, (1, 275)), (1, (0, p1)), (2, (0, p2)), (3, (0, p3)), (4, (0, p4)), (5, (0, p5))], [(1, 275)], w147)) 1 rfl ?_
                                refine e_Ok.getr (z := 301) rfl (el_o rfl) rfl rfl (by rw [← hw147]; exact (e_up_ne _ _ (Or.inl (by omega))).trans (e_Has.eq hT rfl)) (by omega) ?_
                                refine e_Ok.run (t' := (135, [(6, (0, -p4)), (0, (1, 275)), (1, (0, p1)), (2, (0, p2)), (3, (0, p3)), (4, (0, p4)), (5, (0, p5))], [(1, 275), (1, 301)], w147)) 1 rfl ?_
                                refine e_Ok.getf (z := w 275 30) rfl (el_o rfl) rfl rfl (by rw [← hw147]; exact (e_up_ne _ _ (Or.inl (by omega))).trans rfl) (by omega) ?_
                                refine e_Ok.run (t' := (139, [(6, (0, -p4)), (0, (1, 275)), (1, (0, p1)), (2, (0, p2)), (3, (0, p3)), (4, (0, p4)), (5, (0, p5))], [(0, p2), (0, w 275 30), (1, 301)], w147)) 1 rfl ?_
                                refine e_Ok.ast rfl (el_o rfl) rfl rfl (by omega) ?_
                                generalize hw150 : e_up w147 301 (w 275 30) p2 = w150
                                have f151 : e_fr (mF 30 300 306) w w150 := e_fr.up f148 hw150 (by unfold mF; omega)
                                have hT152 : e_Has mTy w150 := e_Has.upr hT149 hw150 rfl (by omega)
                                refine e_Ok.run (t' := (141, [(6, (0, -p4)), (0, (1, 275)), (1, (0, p1)), (2, (0, p2)), (3, (0, p3)), (4, (0, p4)), (5, (0, p5))], [(1, 275)], w150)) 1 rfl ?_
                                refine e_Ok.getr (z := 302) rfl (el_o rfl) rfl rfl (by rw [← hw150]; exact (e_up_ne _ _ (Or.inl (by omega))).trans (by rw [← hw147]; exact (e_up_ne _ _ (Or.inl (by omega))).trans (e_Has.eq hT rfl))) (by omega) ?_
                                refine e_Ok.run (t' := (145, [(6, (0, -p4)), (0, (1, 275)), (1, (0, p1)), (2, (0, p2)), (3, (0, p3)), (4, (0, p4)), (5, (0, p5))], [(1, 275), (1, 302)], w150)) 1 rfl ?_
                                refine e_Ok.getf (z := w 275 30) rfl (el_o rfl) rfl rfl (by rw [← hw150]; exact (e_up_ne _ _ (Or.inl (by omega))).trans (by rw [← hw147]; exact (e_up_ne _ _ (Or.inl (by omega))).trans rfl)) (by omega) ?_
                                refine e_Ok.run (t' := (149, [(6, (0, -p4)), (0, (1, 275)), (1, (0, p1)), (2, (0, p2)), (3, (0, p3)), (4, (0, p4)), (5, (0, p5))], [(0, p3), (0, w 275 30), (1, 302)], w150)) 1 rfl ?_
                                refine e_Ok.ast rfl (el_o rfl) rfl rfl (by omega) ?_
                                generalize hw153 : e_up w150 302 (w 275 30) p3 = w153
                                have f154 : e_fr (mF 30 300 306) w w153 := e_fr.up f151 hw153 (by unfold mF; omega)
                                have hT155 : e_Has mTy w153 := e_Has.upr hT152 hw153 rfl (by omega)
                                refine e_Ok.run (t' := (151, [(6, (0, -p4)), (0, (1, 275)), (1, (0, p1)), (2, (0, p2)), (3, (0, p3)), (4, (0, p4)), (5, (0, p5))], [(1, 275)], w153)) 1 rfl ?_
                                refine e_Ok.getr (z := 303) rfl (el_o rfl) rfl rfl (by rw [← hw153]; exact (e_up_ne _ _ (Or.inl (by omega))).trans (by rw [← hw150]; exact (e_up_ne _ _ (Or.inl (by omega))).trans (by rw [← hw147]; exact (e_up_ne _ _ (Or.inl (by omega))).trans (e_Has.eq hT rfl)))) (by omega) ?_
                                refine e_Ok.run (t' := (155, [(6, (0, -p4)), (0, (1, 275)), (1, (0, p1)), (2, (0, p2)), (3, (0, p3)), (4, (0, p4)), (5, (0, p5))], [(1, 275), (1, 303)], w153)) 1 rfl ?_
                                refine e_Ok.getf (z := w 275 30) rfl (el_o rfl) rfl rfl (by rw [← hw153]; exact (e_up_ne _ _ (Or.inl (by omega))).trans (by rw [← hw150]; exact (e_up_ne _ _ (Or.inl (by omega))).trans (by rw [← hw147]; exact (e_up_ne _ _ (Or.inl (by omega))).trans rfl))) (by omega) ?_
                                refine e_Ok.run (t' := (160, [(6, (0, -p4)), (0, (1, 275)), (1, (0, p1)), (2, (0, p2)), (3, (0, p3)), (4, (0, p4)), (5, (0, p5))], [(0, p4), (0, w 275 30), (1, 303)], w153)) 1 rfl ?_
                                refine e_Ok.ast rfl (el_o rfl) rfl rfl (by omega) ?_
                                generalize hw156 : e_up w153 303 (w 275 30) p4 = w156
                                have f157 : e_fr (mF 30 300 306) w w156 := e_fr.up f154 hw156 (by unfold mF; omega)
                                have hT158 : e_Has mTy w156 := e_Has.upr hT155 hw156 rfl (by omega)
                                refine e_Ok.run (t' := (162, [(6, (0, -p4)), (0, (1, 275)), (1, (0, p1)), (2, (0, p2)), (3, (0, p3)), (4, (0, p4)), (5, (0, p5))], [(1, 275)], w156)) 1 rfl ?_
                                refine e_Ok.getr (z := 304) rfl (el_o rfl) rfl rfl (by rw [← hw156]; exact (e_up_ne _ _ (Or.inl (by omega))).trans (by rw [← hw153]; exact (e_up_ne _ _ (Or.inl (by omega))).trans (by rw [← hw150]; exact (e_up_ne _ _ (Or.inl (by omega))).trans (by rw [← hw147]; exact (e_up_ne _ _ (Or.inl (by omega))).trans (e_Has.eq hT rfl))))) (by omega) ?_
                                refine e_Ok.run (t' := (166, [(6, (0, -p4)), (0, (1, 275)), (1, (0, p1)), (2, (0, p2)), (3, (0, p3)), (4, (0, p4)), (5, (0, p5))], [(1, 275), (1, 304)], w156)) 1 rfl ?_
                                refine e_Ok.getf (z := w 275 30) rfl (el_o rfl) rfl rfl (by rw [← hw156]; exact (e_up_ne _ _ (Or.inl (by omega))).trans (by rw [← hw153]; exact (e_up_ne _ _ (Or.inl (by omega))).trans (by rw [← hw150]; exact (e_up_ne _ _ (Or.inl (by omega))).trans (by rw [← hw147]; exact (e_up_ne _ _ (Or.inl (by omega))).trans rfl)))) (by omega) ?_
                                refine e_Ok.run (t' := (170, [(6, (0, -p4)), (0, (1, 275)), (1, (0, p1)), (2, (0, p2)), (3, (0, p3)), (4, (0, p4)), (5, (0, p5))], [(0, 0), (0, w 275 30), (1, 304)], w156)) 1 rfl ?_
                                refine e_Ok.ast rfl (el_o rfl) rfl rfl (by omega) ?_
                                generalize hw159 : e_up w156 304 (w 275 30) 0 = w159
                                have f160 : e_fr (mF 30 300 306) w w159 := e_fr.up f157 hw159 (by unfold mF; omega)
                                have hT161 : e_Has mTy w159 := e_Has.upr hT158 hw159 rfl (by omega)
                                refine e_Ok.run (t' := (172, [(6, (0, -p4)), (0, (1, 275)), (1, (0, p1)), (2, (0, p2)), (3, (0, p3)), (4, (0, p4)), (5, (0, p5))], [(1, 275)], w159)) 1 rfl ?_
                                refine e_Ok.getr (z := 306) rfl (el_o rfl) rfl rfl (by rw [← hw159]; exact (e_up_ne _ _ (Or.inl (by omega))).trans (by rw [← hw156]; exact (e_up_ne _ _ (Or.inl (by omega))).trans (by rw [← hw153]; exact (e_up_ne _ _ (Or.inl (by omega))).trans (by rw [← hw150]; exact (e_up_ne _ _ (Or.inl (by omega))).trans (by rw [← hw147]; exact (e_up_ne _ _ (Or.inl (by omega))).trans (e_Has.eq hT rfl)))))) (by omega) ?_
                                refine e_Ok.run (t' := (176, [(6, (0, -p4)), (0, (1, 275)), (1, (0, p1)), (2, (0, p2)), (3, (0, p3)), (4, (0, p4)), (5, (0, p5))], [(1, 275), (1, 306)], w159)) 1 rfl ?_
                                refine e_Ok.getf (z := w 275 30) rfl (el_o rfl) rfl rfl (by rw [← hw159]; exact (e_up_ne _ _ (Or.inl (by omega))).trans (by rw [← hw156]; exact (e_up_ne _ _ (Or.inl (by omega))).trans (by rw [← hw153]; exact (e_up_ne _ _ (Or.inl (by omega))).trans (by rw [← hw150]; exact (e_up_ne _ _ (Or.inl (by omega))).trans (by rw [← hw147]; exact (e_up_ne _ _ (Or.inl (by omega))).trans rfl))))) (by omega) ?_
                                refine e_Ok.run (t' := (180, [(6, (0, -p4)), (0, (1, 275)), (1, (0, p1)), (2, (0, p2)), (3, (0, p3)), (4, (0, p4)), (5, (0, p5))], [(0, (-1)), (0, w 275 30), (1, 306)], w159)) 1 rfl ?_
                                refine e_Ok.ast rfl (el_o rfl) rfl rfl (by omega) ?_
                                generalize hw162 : e_up w159 306 (w 275 30) (-1) = w162
                                have f163 : e_fr (mF 30 300 306) w w162 := e_fr.up f160 hw162 (by unfold mF; omega)
                                have hT164 : e_Has mTy w162 := e_Has.upr hT161 hw162 rfl (by omega)
                                refine e_Ok.run (t' := (182, [(6, (0, -p4)), (0, (1, 275)), (1, (0, p1)), (2, (0, p2)), (3, (0, p3)), (4, (0, p4)), (5, (0, p5))], [(1, 275)], w162)) 1 rfl ?_
                                refine e_Ok.getr (z := 305) rfl (el_o rfl) rfl rfl (by rw [← hw162]; exact (e_up_ne _ _ (Or.inl (by omega))).trans (by rw [← hw159]; exact (e_up_ne _ _ (Or.inl (by omega))).trans (by rw [← hw156]; exact (e_up_ne _ _ (Or.inl (by omega))).trans (by rw [← hw153]; exact (e_up_ne _ _ (Or.inl (by omega))).trans (by rw [← hw150]; exact (e_up_ne _ _ (Or.inl (by omega))).trans (by rw [← hw147]; exact (e_up_ne _ _ (Or.inl (by omega))).trans (e_Has.eq hT rfl))))))) (by omega) ?_
                                refine e_Ok.run (t' := (186, [(6, (0, -p4)), (0, (1, 275)), (1, (0, p1)), (2, (0, p2)), (3, (0, p3)), (4, (0, p4)), (5, (0, p5))], [(1, 275), (1, 305)], w162)) 1 rfl ?_
                                refine e_Ok.getf (z := w 275 30) rfl (el_o rfl) rfl rfl (by rw [← hw162]; exact (e_up_ne _ _ (Or.inl (by omega))).trans (by rw [← hw159]; exact (e_up_ne _ _ (Or.inl (by omega))).trans (by rw [← hw156]; exact (e_up_ne _ _ (Or.inl (by omega))).trans (by rw [← hw153]; exact (e_up_ne _ _ (Or.inl (by omega))).trans (by rw [← hw150]; exact (e_up_ne _ _ (Or.inl (by omega))).trans (by rw [← hw147]; exact (e_up_ne _ _ (Or.inl (by omega))).trans rfl)))))) (by omega) ?_
                                refine e_Ok.run (t' := (191, [(6, (0, -p4)), (0, (1, 275)), (1, (0, p1)), (2, (0, p2)), (3, (0, p3)), (4, (0, p4)), (5, (0, p5))], [(0, p5), (0, w 275 30), (1, 305)], w162)) 1 rfl ?_
                                refine e_Ok.ast rfl (el_o rfl) rfl rfl (by omega) ?_
                                generalize hw165 : e_up w162 305 (w 275 30) p5 = w165
                                have f166 : e_fr (mF 30 300 306) w w165 := e_fr.up f163 hw165 (by unfold mF; omega)
                                have hT167 : e_Has mTy w165 := e_Has.upr hT164 hw165 rfl (by omega)
                                refine e_Ok.run (t' := (194, [(6, (0, -p4)), (0, (1, 275)), (1, (0, p1)), (2, (0, p2)), (3, (0, p3)), (4, (0, p4)), (5, (0, p5))], [(1, 275), (1, 275)], w165)) 2 rfl ?_
                                refine e_Ok.getf (z := w 275 30) rfl (el_o rfl) rfl rfl (by rw [← hw165]; exact (e_up_ne _ _ (Or.inl (by omega))).trans (by rw [← hw162]; exact (e_up_ne _ _ (Or.inl (by omega))).trans (by rw [← hw159]; exact (e_up_ne _ _ (Or.inl (by omega))).trans (by rw [← hw156]; exact (e_up_ne _ _ (Or.inl (by omega))).trans (by rw [← hw153]; exact (e_up_ne _ _ (Or.inl (by omega))).trans (by rw [← hw150]; exact (e_up_ne _ _ (Or.inl (by omega))).trans (by rw [← hw147]; exact (e_up_ne _ _ (Or.inl (by omega))).trans rfl))))))) (by omega) ?_
                                refine e_Ok.run (t' := (198, [(6, (0, -p4)), (0, (1, 275)), (1, (0, p1)), (2, (0, p2)), (3, (0, p3)), (4, (0, p4)), (5, (0, p5))], [(0, 1), (0, w 275 30), (1, 275)], w165)) 1 rfl ?_
                                refine e_Ok.add (z := w 275 30 + 1) rfl (by omega) (by omega) ?_
                                refine e_Ok.putf rfl (el_o rfl) rfl rfl ?_
                                generalize hw168 : e_up w165 275 30 (w 275 30 + 1) = w168
                                have f169 : e_fr (mF 30 300 306) w w168 := e_fr.up f166 hw168 (by unfold mF; omega)
                                have hT170 : e_Has mTy w168 := e_Has.upr hT167 hw168 rfl (by omega)
                                refine e_Ok.run (t' := (203, [(6, (0, -p4)), (0, (1, 275)), (1, (0, p1)), (2, (0, p2)), (3, (0, p3)), (4, (0, p4)), (5, (0, p5))], [(1, 275)], w168)) 1 rfl ?_
                                refine e_Ok.getf (z := w 275 30 + 1) rfl (el_o rfl) rfl rfl (by rw [← hw168]; exact e_up_eq _ _ _ _) (by omega) ?_
                                refine e_Ok.run (t' := (207, [(6, (0, -p4)), (0, (1, 275)), (1, (0, p1)), (2, (0, p2)), (3, (0, p3)), (4, (0, p4)), (5, (0, p5))], [(0, 1), (0, w 275 30 + 1)], w168)) 1 rfl ?_
                                refine e_Ok.sub' (z := w 275 30) rfl (by omega) (by omega) ?_
                                refine e_Ok.rets rfl rfl ?_
                                exact ⟨_, rfl, f169, hT170, trivial⟩
                              · replace h146 : (w 275 30 : Int) = 4 := by have q : ¬ ((w 275 30 : Int) ≠ 4) := h146; omega
                                refine e_Ok.run (t' := (119, [(6, (0, -p4)), (0, (1, 275)), (1, (0, p1)), (2, (0, p2)), (3, (0, p3)), (4, (0, p4)), (5, (0, p5))], [(0, (-3))], w)) 1 rfl ?_
                                refine e_Ok.rets rfl rfl ?_
                                exact ⟨_, rfl, (e_fr.refl w), hT, trivial⟩
                            · replace h144 : (w 275 3 : Int) ≠ 0 := by have q : ¬ ((w 275 3 : Int) = 0) := h144; omega
                              refine e_Ok.run (t' := (108, [(6, (0, -p4)), (0, (1, 275)), (1, (0, p1)), (2, (0, p2)), (3, (0, p3)), (4, (0, p4)), (5, (0, p5))], [(0, (-2))], w)) 1 rfl ?_
                              refine e_Ok.rets rfl rfl ?_
                              exact ⟨_, rfl, (e_fr.refl w), hT, trivial⟩
                          · replace h142 : (1 : Int) = 0 := by have q : ¬ ((1 : Int) ≠ 0) := h142; omega
                            exfalso; omega
                        · show e_Ok 20 elay ecode eI (d + 1) 286 (94, [(6, (0, -p4)), (0, (1, 275)), (1, (0, p1)), (2, (0, p2)), (3, (0, p3)), (4, (0, p4)), (5, (0, p5))], [(0, 0)], w) _
                          refine e_Ok.if1 rfl (fun h171 => ?_) (fun h171 => ?_)
                          · replace h171 : (0 : Int) ≠ 0 := h171
                            exfalso; omega
                          · replace h171 : (0 : Int) = 0 := by have q : ¬ ((0 : Int) ≠ 0) := h171; omega
                            refine e_Ok.run (t' := (98, [(6, (0, -p4)), (0, (1, 275)), (1, (0, p1)), (2, (0, p2)), (3, (0, p3)), (4, (0, p4)), (5, (0, p5))], [(0, (-1))], w)) 1 rfl ?_
                            refine e_Ok.rets rfl rfl ?_
                            exact ⟨_, rfl, (e_fr.refl w), hT, trivial⟩
                  · replace h25 : (p3 : Int) < 2 := by have q : ¬ ((p3 : Int) ≥ 2) := h25; omega
                    refine e_Ok.run (t' := (65, [(6, (0, p4)), (0, (1, 275)), (1, (0, p1)), (2, (0, p2)), (3, (0, p3)), (4, (0, p4)), (5, (0, p5))], [(0, 2), (0, p3)], w)) 5 rfl ?_
                    refine e_Ok.remn (fun z172 hz172 => ?_) rfl (by omega) (by omega)
                    replace hz172 : z172 = p3 % 2 := hz172
                    have z172r : 0 ≤ z172 ∧ z172 ≤ 1 := by omega
                    refine e_Ok.if1 rfl (fun h173 => ?_) (fun h173 => ?_)
                    · replace h173 : (z172 : Int) ≠ 0 := h173
                      refine e_Ok.run (t' := (79, [(6, (0, p4)), (0, (1, 275)), (1, (0, p1)), (2, (0, p2)), (3, (0, p3)), (4, (0, p4)), (5, (0, p5))], [(0, 2), (0, p3), (0, p1)], w)) 3 rfl ?_
                      refine e_Ok.remn (fun z174 hz174 => ?_) rfl (by omega) (by omega)
                      replace hz174 : z174 = p3 % 2 := hz174
                      have z174r : 0 ≤ z174 ∧ z174 ≤ 1 := by omega
                      refine e_Ok.if1 rfl (fun h175 => ?_) (fun h175 => ?_)
                      · replace h175 : (z174 : Int) ≠ 0 := h175
                        refine e_Ok.run (t' := (90, [(6, (0, p4)), (0, (1, 275)), (1, (0, p1)), (2, (0, p2)), (3, (0, p3)), (4, (0, p4)), (5, (0, p5))], [(0, p4), (0, p2), (0, p1)], w)) 2 rfl ?_
                        refine e_Ok.add (z := p2 + p4) rfl (by omega) (by omega) ?_
                        refine e_Ok.callS rfl (by omega) rfl rfl (c_272 (by omega)) (fun r176 w177 h178 => ?_)
                        obtain ⟨z179, rfl, rfl, q180⟩ := h178
                        obtain ⟨rfl, q180⟩ | ⟨rfl, q180⟩ := q180
                        · show e_Ok 20 elay ecode eI (d + 1) 286 (94, [(6, (0, p4)), (0, (1, 275)), (1, (0, p1)), (2, (0, p2)), (3, (0, p3)), (4, (0, p4)), (5, (0, p5))], [(0, 1)], w) _
                          refine e_Ok.if1 rfl (fun h181 => ?_) (fun h181 => ?_)
                          · replace h181 : (1 : Int) ≠ 0 := h181
                            refine e_Ok.run (t' := (100, [(6, (0, p4)), (0, (1, 275)), (1, (0, p1)), (2, (0, p2)), (3, (0, p3)), (4, (0, p4)), (5, (0, p5))], [(1, 275)], w)) 1 rfl ?_
                            have h182 := (e_Has.get hT (c := 275) (k := 3) (lo := 0) (hi := 1) rfl (by decide))
                            refine e_Ok.getf (z := w 275 3) rfl (el_o rfl) rfl rfl rfl (by omega) ?_
                            refine e_Ok.if1 rfl (fun h183 => ?_) (fun h183 => ?_)
                            · replace h183 : (w 275 3 : Int) = 0 := h183
                              refine e_Ok.run (t' := (110, [(6, (0, p4)), (0, (1, 275)), (1, (0, p1)), (2, (0, p2)), (3, (0, p3)), (4, (0, p4)), (5, (0, p5))], [(1, 275)], w)) 1 rfl ?_
                              have h184 := (e_Has.get hT (c := 275) (k := 30) (lo := 0) (hi := 4) rfl (by decide))
                              refine e_Ok.getf (z := w 275 30) rfl (el_o rfl) rfl rfl rfl (by omega) ?_
                              refine e_Ok.run (t' := (114, [(6, (0, p4)), (0, (1, 275)), (1, (0, p1)), (2, (0, p2)), (3, (0, p3)), (4, (0, p4)), (5, (0, p5))], [(0, 4), (0, w 275 30)], w)) 1 rfl ?_
                              refine e_Ok.if2 rfl (fun h185 => ?_) (fun h185 => ?_)
                              · replace h185 : (w 275 30 : Int) ≠ 4 := h185
                                refine e_Ok.run (t' := (121, [(6, (0, p4)), (0, (1, 275)), (1, (0, p1)), (2, (0, p2)), (3, (0, p3)), (4, (0, p4)), (5, (0, p5))], [(1, 275)], w)) 1 rfl ?_
                                refine e_Ok.getr (z := 300) rfl (el_o rfl) rfl rfl (e_Has.eq hT rfl) (by omega) ?_
                                refine e_Ok.run (t' := (125, [(6, (0, p4)), (0, (1, 275)), (1, (0, p1)), (2, (0, p2)), (3, (0, p3)), (4, (0, p4)), (5, (0, p5))], [(1, 275), (1, 300)], w)) 1 rfl ?_
                                refine e_Ok.getf (z := w 275 30) rfl (el_o rfl) rfl rfl rfl (by omega) ?_
                                refine e_Ok.run (t' := (129, [(6, (0, p4)), (0, (1, 275)), (1, (0, p1)), (2, (0, p2)), (3, (0, p3)), (4, (0, p4)), (5, (0, p5))], [(0, p1), (0, w 275 30), (1, 300)], w)) 1 rfl ?_
                                refine e_Ok.ast rfl (el_o rfl) rfl rfl (by omega) ?_
                                generalize hw186 : e_up w 300 (w 275 30) p1 = w186
                                have f187 : e_fr (mF 30 300 306) w w186 := e_fr.up (e_fr.refl w) hw186 (by unfold mF; omega)
                                have hT188 : e_Has mTy w186 := e_Has.upr hT hw186 rfl (by omega)
                                refine e_Ok.run (t' := (131, [(6, (0, p4)), (0, (1, 275)), (1, (0, p1)), (2, (0, p2)), (3, (0, p3)), (4, (0, p4)), (5, (0, p5))], [(1, 275)], w186)) 1 rfl ?_
                                refine e_Ok.getr (z := 301) rfl (el_o rfl) rfl rfl (by rw [← hw186]; exact (e_up_ne _ _ (Or.inl (by omega))).trans (e_Has.eq hT rfl)) (by omega) ?_
                                refine e_Ok.run (t' := (135, [(6, (0, p4)), (0, (1, 275)), (1, (0, p1)), (2, (0, p2)), (3, (0, p3)), (4, (0, p4)), (5, (0, p5))], [(1, 275), (1, 301)], w186)) 1 rfl ?_
                                refine e_Ok.getf (z := w 275 30) rfl (el_o rfl) rfl rfl (by rw [← hw186]; exact (e_up_ne _ _ (Or.inl (by omega))).trans rfl) (by omega) ?_
                                refine e_Ok.run (t' := (139, [(6, (0, p4)), (0, (1, 275)), (1, (0, p1)), (2, (0, p2)), (3, (0, p3)), (4, (0, p4)), (5, (0, p5))], [(0, p2), (0, w 275 30), (1, 301)], w186)) 1 rfl ?_
                                refine e_Ok.ast rfl (el_o rfl) rfl rfl (by omega) ?_
                                generalize hw189 : e_up w186 301 (w 275 30) p2 = w189
                                have f190 : e_fr (mF 30 300 306) w w189 := e_fr.up f187 hw189 (by unfold mF; omega)
                                have hT191 : e_Has mTy w189 := e_Has.upr hT188 hw189 rfl (by omega)
                                refine e_Ok.run (t' := (141, [(6, (0, p4)), (0, (1, 275)), (1, (0, p1)), (2, (0, p2)), (3, (0, p3)), (4, (0, p4)), (5, (0, p5))], [(1, 275)], w189)) 1 rfl ?_
                                refine e_Ok.getr (z := 302) rfl (el_o rfl) rfl rfl (by rw [← hw189]; exact (e_up_ne _ _ (Or.inl (by omega))).trans (by rw [← hw186]; exact (e_up_ne _ _ (Or.inl (by omega))).trans (e_Has.eq hT rfl))) (by omega) ?_
                                refine e_Ok.run (t' := (145, [(6, (0, p4)), (0, (1, 275)), (1, (0, p1)), (2, (0, p2)), (3, (0, p3)), (4, (0, p4)), (5, (0, p5))], [(1, 275), (1, 302)], w189)) 1 rfl ?_
                                refine e_Ok.getf (z := w 275 30) rfl (el_o rfl) rfl rfl (by rw [← hw189]; exact (e_up_ne _ _ (Or.inl (by omega))).trans (by rw [← hw186]; exact (e_up_ne _ _ (Or.inl (by omega))).trans rfl)) (by omega) ?_
                                refine e_Ok.run (t' := (149, [(6, (0, p4)), (0, (1, 275)), (1, (0, p1)), (2, (0, p2)), (3, (0, p3)), (4, (0, p4)), (5, (0, p5))], [(0, p3), (0, w 275 30), (1, 302)], w189)) 1 rfl ?_
                                refine e_Ok.ast rfl (el_o rfl) rfl rfl (by omega) ?_
                                generalize hw192 : e_up w189 302 (w 275 30) p3 = w192
                                have f193 : e_fr (mF 30 300 306) w w192 := e_fr.up f190 hw192 (by unfold mF; omega)
                                have hT194 : e_Has mTy w192 := e_Has.upr hT191 hw192 rfl (by omega)
                                refine e_Ok.run (t' := (151, [(6, (0, p4)), (0, (1, 275)), (1, (0, p1)), (2, (0, p2)), (3, (0, p3)), (4, (0, p4)), (5, (0, p5))], [(1, 275)], w192)) 1 rfl ?_
                                refine e_Ok.getr (z := 303) rfl (el_o rfl) rfl rfl (by rw [← hw192]; exact (e_up_ne _ _ (Or.inl (by omega))).trans (by rw [← hw189]; exact (e_up_ne _ _ (Or.inl (by omega))).trans (by rw [← hw186]; exact (e_up_ne _ _ (Or.inl (by omega))).trans (e_Has.eq hT rfl)))) (by omega) ?_
                                refine e_Ok.run (t' := (155, [(6, (0, p4)), (0, (1, 275)), (1, (0, p1)), (2, (0, p2)), (3, (0, p3)), (4, (0, p4)), (5, (0, p5))], [(1, 275), (1, 303)], w192)) 1 rfl ?_
                                refine e_Ok.getf (z := w 275 30) rfl (el_o rfl) rfl rfl (by rw [← hw192]; exact (e_up_ne _ _ (Or.inl (by omega))).trans (by rw [← hw189]; exact (e_up_ne _ _ (Or.inl (by omega))).trans (by rw [← hw186]; exact (e_up_ne _ _ (Or.inl (by omega))).trans rfl))) (by omega) ?_
                                refine e_Ok.run (t' := (160, [(6, (0, p4)), (0, (1, 275)), (1, (0, p1)), (2, (0, p2)), (3, (0, p3)), (4, (0, p4)), (5, (0, p5))], [(0, p4), (0, w 275 30), (1, 303)], w192)) 1 rfl ?_
                                refine e_Ok.ast rfl (el_o rfl) rfl rfl (by omega) ?_
                                generalize hw195 : e_up w192 303 (w 275 30) p4 = w195
                                have f196 : e_fr (mF 30 300 306) w w195 := e_fr.up f193 hw195 (by unfold mF; omega)
                                have hT197 : e_Has mTy w195 := e_Has.upr hT194 hw195 rfl (by omega)
                                refine e_Ok.run (t' := (162, [(6, (0, p4)), (0, (1, 275)), (1, (0, p1)), (2, (0, p2)), (3, (0, p3)), (4, (0, p4)), (5, (0, p5))], [(1, 275)], w195)) 1 rfl ?_
                                refine e_Ok.getr (z := 304) rfl (el_o rfl) rfl rfl (by rw [← hw195]; exact (e_up_ne _ _ (Or.inl (by omega))).trans (by rw [← hw192]; exact (e_up_ne _ _ (Or.inl (by omega))).trans (by rw [← hw189]; exact (e_up_ne _ _ (Or.inl (by omega))).trans (by rw [← hw186]; exact (e_up_ne _ _ (Or.inl (by omega))).trans (e_Has.eq hT rfl))))) (by omega) ?_
                                refine e_Ok.run (t' := (166, [(6, (0, p4)), (0, (1, 275)), (1, (0, p1)), (2, (0, p2)), (3, (0, p3)), (4, (0, p4)), (5, (0, p5))], [(1, 275), (1, 304)], w195)) 1 rfl ?_
                                refine e_Ok.getf (z := w 275 30) rfl (el_o rfl) rfl rfl (by rw [← hw195]; exact (e_up_ne _ _ (Or.inl (by omega))).trans (by rw [← hw192]; exact (e_up_ne _ _ (Or.inl (by omega))).trans (by rw [← hw189]; exact (e_up_ne _ _ (Or.inl (by omega))).trans (by rw [← hw186]; exact (e_up_ne _ _ (Or.inl (by omega))).trans rfl)))) (by omega) ?_
                                refine e_Ok.run (t' := (170, [(6, (0, p4)), (0, (1, 275)), (1, (0, p1)), (2, (0, p2)), (3, (0, p3)), (4, (0, p4)), (5, (0, p5))], [(0, 0), (0, w 275 30), (1, 304)], w195)) 1 rfl ?_
                                refine e_Ok.ast rfl (el_o rfl) rfl rfl (by omega) ?_
                                generalize hw198 : e_up w195 304 (w 275 30) 0 = w198
                                have f199 : e_fr (mF 30 300 306) w w198 := e_fr.up f196 hw198 (by unfold mF; omega)
                                have hT200 : e_Has mTy w198 := e_Has.upr hT197 hw198 rfl (by omega)
                                refine e_Ok.run (t' := (172, [(6, (0, p4)), (0, (1, 275)), (1, (0, p1)), (2, (0, p2)), (3, (0, p3)), (4, (0, p4)), (5, (0, p5))], [(1, 275)], w198)) 1 rfl ?_
                                refine e_Ok.getr (z := 306) rfl (el_o rfl) rfl rfl (by rw [← hw198]; exact (e_up_ne _ _ (Or.inl (by omega))).trans (by rw [← hw195]; exact (e_up_ne _ _ (Or.inl (by omega))).trans (by rw [← hw192]; exact (e_up_ne _ _ (Or.inl (by omega))).trans (by rw [← hw189]; exact (e_up_ne _ _ (Or.inl (by omega))).trans (by rw [← hw186]; exact (e_up_ne _ _ (Or.inl (by omega))).trans (e_Has.eq hT rfl)))))) (by omega) ?_
                                refine e_Ok.run (t' := (176, [(6, (0, p4)), (0, (1, 275)), (1, (0, p1)), (2, (0, p2)), (3, (0, p3)), (4, (0, p4)), (5, (0, p5))], [(1, 275), (1, 306)], w198)) 1 rfl ?_
                                refine e_Ok.getf (z := w 275 30) rfl (el_o rfl) rfl rfl (by rw [← hw198]; exact (e_up_ne _ _ (Or.inl (by omega))).trans (by rw [← hw195]; exact (e_up_ne _ _ (Or.inl (by omega))).trans (by rw [← hw192]; exact (e_up_ne _ _ (Or.inl (by omega))).trans (by rw [← hw189]; exact (e_up_ne _ _ (Or.inl (by omega))).trans (by rw [← hw186]; exact (e_up_ne _ _ (Or.inl (by omega))).trans rfl))))) (by omega) ?_
                                refine e_Ok.run (t' := (180, [(6, (0, p4)), (0, (1, 275)), (1, (0, p1)), (2, (0, p2)), (3, (0, p3)), (4, (0, p4)), (5, (0, p5))], [(0, (-1)), (0, w 275 30), (1, 306)], w198)) 1 rfl ?_
                                refine e_Ok.ast rfl (el_o rfl) rfl rfl (by omega) ?_
                                generalize hw201 : e_up w198 306 (w 275 30) (-1) = w201
                                have f202 : e_fr (mF 30 300 306) w w201 := e_fr.up f199 hw201 (by unfold mF; omega)
                                have hT203 : e_Has mTy w201 := e_Has.upr hT200 hw201 rfl (by omega)
                                refine e_Ok.run (t' := (182, [(6, (0, p4)), (0, (1, 275)), (1, (0, p1)), (2, (0, p2)), (3, (0, p3)), (4, (0, p4)), (5, (0, p5))], [(1, 275)], w201)) 1 rfl ?_
                                refine e_Ok.getr (z := 305) rfl (el_o rfl) rfl rfl (by rw [← hw201]; exact (e_up_ne _ _ (Or.inl (by omega))).trans (by rw [← hw198]; exact (e_up_ne _ _ (Or.inl (by omega))).trans (by rw [← hw195]; exact (e_up_ne _ _ (Or.inl (by omega))).trans (by rw [← hw192]; exact (e_up_ne _ _ (Or.inl (by omega))).trans (by rw [← hw189]; exact (e_up_ne _ _ (Or.inl (by omega))).trans (by rw [← hw186]; exact (e_up_ne _ _ (Or.inl (by omega))).trans (e_Has.eq hT rfl))))))) (by omega) ?_
                                refine e_Ok.run (t' := (186, [(6, (0, p4)), (0, (1, 275)), (1, (0, p1)), (2, (0, p2)), (3, (0, p3)), (4, (0, p4)), (5, (0, p5))], [(1, 275), (1, 305)], w201)) 1 rfl ?_
                                refine e_Ok.getf (z := w 275 30) rfl (el_o rfl) rfl rfl (by rw [← hw201]; exact (e_up_ne _ _ (Or.inl (by omega))).trans (by rw [← hw198]; exact (e_up_ne _ _ (Or.inl (by omega))).trans (by rw [← hw195]; exact (e_up_ne _ _ (Or.inl (by omega))).trans (by rw [← hw192]; exact (e_up_ne _ _ (Or.inl (by omega))).trans (by rw [← hw189]; exact (e_up_ne _ _ (Or.inl (by omega))).trans (by rw [← hw186]; exact (e_up_ne _ _ (Or.inl (by omega))).trans rfl)))))) (by omega) ?_
                                refine e_Ok.run (t' := (191, [(6, (0, p4)), (0, (1, 275)), (1, (0, p1)), (2, (0, p2)), (3, (0, p3)), (4, (0, p4)), (5, (0, p5))], [(0, p5), (0, w 275 30), (1, 305)], w201)) 1 rfl ?_
                                refine e_Ok.ast rfl (el_o rfl) rfl rfl (by omega) ?_
                                generalize hw204 : e_up w201 305 (w 275 30) p5 = w204
                                have f205 : e_fr (mF 30 300 306) w w204 := e_fr.up f202 hw204 (by unfold mF; omega)
                                have hT206 : e_Has mTy w204 := e_Has.upr hT203 hw204 rfl (by omega)
                                refine e_Ok.run (t' := (194, [(6, (0, p4)), (0, (1, 275)), (1, (0, p1)), (2, (0, p2)), (3, (0, p3)), (4, (0, p4)), (5, (0, p5))], [(1, 275), (1, 275)], w204)) 2 rfl ?_
                                refine e_Ok.getf (z := w 275 30) rfl (el_o rfl) rfl rfl (by rw [← hw204]; exact (e_up_ne _ _ (Or.inl (by omega))).trans (by rw [← hw201]; exact (e_up_ne _ _ (Or.inl (by omega))).trans (by rw [← hw198]; exact (e_up_ne _ _ (Or.inl (by omega))).trans (by rw [← hw195]; exact (e_up_ne _ _ (Or.inl (by omega))).trans (by rw [← hw192]; exact (e_up_ne _ _ (Or.inl (by omega))).trans (by rw [← hw189]; exact (e_up_ne _ _ (Or.inl (by omega))).trans (by rw [← hw186]; exact (e_up_ne _ _ (Or.inl (by omega))).trans rfl))))))) (by omega) ?_
                                refine e_Ok.run (t' := (198, [(6, (0, p4)), (0, (1, 275)), (1, (0, p1)), (2, (0, p2)), (3, (0, p3)), (4, (0, p4)), (5, (0, p5))], [(0, 1), (0, w 275 30), (1, 275)], w204)) 1 rfl ?_
                                refine e_Ok.add (z := w 275 30 + 1) rfl (by omega) (by omega) ?_
                                refine e_Ok.putf rfl (el_o rfl) rfl rfl ?_
                                generalize hw207 : e_up w204 275 30 (w 275 30 + 1) = w207
                                have f208 : e_fr (mF 30 300 306) w w207 := e_fr.up f205 hw207 (by unfold mF; omega)
                                have hT209 : e_Has mTy w207 := e_Has.upr hT206 hw207 rfl (by omega)
                                refine e_Ok.run (t' := (203, [(6, (0, p4)), (0, (1, 275)), (1, (0, p1)), (2, (0, p2)), (3, (0, p3)), (4, (0, p4)), (5, (0, p5))], [(1, 275)], w207)) 1 rfl ?_
                                refine e_Ok.getf (z := w 275 30 + 1) rfl (el_o rfl) rfl rfl (by rw [← hw207]; exact e_up_eq _ _ _ _) (by omega) ?_
                                refine e_Ok.run (t' := (207, [(6, (0, p4)), (0, (1, 275)), (1, (0, p1)), (2, (0, p2)), (3, (0, p3)), (4, (0, p4)), (5, (0, p5))], [(0, 1), (0, w 275 30 + 1)], w207)) 1 rfl ?_
                                refine e_Ok.sub' (z := w 275 30) rfl (by omega) (by omega) ?_
                                refine e_Ok.rets rfl rfl ?_
                                exact ⟨_, rfl, f208, hT209, trivial⟩
                              · replace h185 : (w 275 30 : Int) = 4 := by have q : ¬ ((w 275 30 : Int) ≠ 4) := h185; omega
                                refine e_Ok.run (t' := (119, [(6, (0, p4)), (0, (1, 275)), (1, (0, p1)), (2, (0, p2)), (3, (0, p3)), (4, (0, p4)), (5, (0, p5))], [(0, (-3))], w)) 1 rfl ?_
                                refine e_Ok.rets rfl rfl ?_
                                exact ⟨_, rfl, (e_fr.refl w), hT, trivial⟩
                            · replace h183 : (w 275 3 : Int) ≠ 0 := by have q : ¬ ((w 275 3 : Int) = 0) := h183; omega
                              refine e_Ok.run (t' := (108, [(6, (0, p4)), (0, (1, 275)), (1, (0, p1)), (2, (0, p2)), (3, (0, p3)), (4, (0, p4)), (5, (0, p5))], [(0, (-2))], w)) 1 rfl ?_
                              refine e_Ok.rets rfl rfl ?_
                              exact ⟨_, rfl, (e_fr.refl w), hT, trivial⟩
                          · replace h181 : (1 : Int) = 0 := by have q : ¬ ((1 : Int) ≠ 0) := h181; omega
                            exfalso; omega
                        · show e_Ok 20 elay ecode eI (d + 1) 286 (94, [(6, (0, p4)), (0, (1, 275)), (1, (0, p1)), (2, (0, p2)), (3, (0, p3)), (4, (0, p4)), (5, (0, p5))], [(0, 0)], w) _
                          refine e_Ok.if1 rfl (fun h210 => ?_) (fun h210 => ?_)
                          · replace h210 : (0 : Int) ≠ 0 := h210
                            exfalso; omega
                          · replace h210 : (0 : Int) = 0 := by have q : ¬ ((0 : Int) ≠ 0) := h210; omega
                            refine e_Ok.run (t' := (98, [(6, (0, p4)), (0, (1, 275)), (1, (0, p1)), (2, (0, p2)), (3, (0, p3)), (4, (0, p4)), (5, (0, p5))], [(0, (-1))], w)) 1 rfl ?_
                            refine e_Ok.rets rfl rfl ?_
                            exact ⟨_, rfl, (e_fr.refl w), hT, trivial⟩
                      · replace h175 : (z174 : Int) = 0 := by have q : ¬ ((z174 : Int) ≠ 0) := h175; omega
                        refine e_Ok.run (t' := (91, [(6, (0, p4)), (0, (1, 275)), (1, (0, p1)), (2, (0, p2)), (3, (0, p3)), (4, (0, p4)), (5, (0, p5))], [(0, p2), (0, p1)], w)) 2 rfl ?_
                        refine e_Ok.callS rfl (by omega) rfl rfl (c_272 (by omega)) (fun r211 w212 h213 => ?_)
                        obtain ⟨z214, rfl, rfl, q215⟩ := h213
                        obtain ⟨rfl, q215⟩ | ⟨rfl, q215⟩ := q215
                        · show e_Ok 20 elay ecode eI (d + 1) 286 (94, [(6, (0, p4)), (0, (1, 275)), (1, (0, p1)), (2, (0, p2)), (3, (0, p3)), (4, (0, p4)), (5, (0, p5))], [(0, 1)], w) _
                          refine e_Ok.if1 rfl (fun h216 => ?_) (fun h216 => ?_)
                          · replace h216 : (1 : Int) ≠ 0 := h216
                            refine e_Ok.run (t' := (100, [(6, (0, p4)), (0, (1, 275)), (1, (0, p1)), (2, (0, p2)), (3, (0, p3)), (4, (0, p4)), (5, (0, p5))], [(1, 275)], w)) 1 rfl ?_
                            have h217 := (e_Has.get hT (c := 275) (k := 3) (lo := 0) (hi := 1) rfl (by decide))
                            refine e_Ok.getf (z := w 275 3) rfl (el_o rfl) rfl rfl rfl (by omega) ?_
                            refine e_Ok.if1 rfl (fun h218 => ?_) (fun h218 => ?_)
                            · replace h218 : (w 275 3 : Int) = 0 := h218
                              refine e_Ok.run (t' := (110, [(6, (0, p4)), (0, (1, 275)), (1, (0, p1)), (2, (0, p2)), (3, (0, p3)), (4, (0, p4)), (5, (0, p5))], [(1, 275)], w)) 1 rfl ?_
                              have h219 := (e_Has.get hT (c := 275) (k := 30) (lo := 0) (hi := 4) rfl (by decide))
                              refine e_Ok.getf (z := w 275 30) rfl (el_o rfl) rfl rfl rfl (by omega) ?_
                              refine e_Ok.run (t' := (114, [(6, (0, p4)), (0, (1, 275)), (1, (0, p1)), (2, (0, p2)), (3, (0, p3)), (4, (0, p4)), (5, (0, p5))], [(0, 4), (0, w 275 30)], w)) 1 rfl ?_
                              refine e_Ok.if2 rfl (fun h220 => ?_) (fun h220 => ?_)
                              · replace h220 : (w 275 30 : Int) ≠ 4 := h220
                                refine e_Ok.run (t' := (121, [(6, (0, p4)), (0, (1, 275)), (1, (0, p1)), (2, (0, p2)), (3, (0, p3)), (4, (0, p4)), (5, (0, p5))], [(1, 275)], w)) 1 rfl ?_
                                refine e_Ok.getr (z := 300) rfl (el_o rfl) rfl rfl (e_Has.eq hT rfl) (by omega) ?_
                                refine e_Ok.run (t' := (125, [(6, (0, p4)), (0, (1, 275)), (1, (0, p1)), (2, (0, p2)), (3, (0, p3)), (4, (0, p4)), (5, (0, p5))], [(1, 275), (1, 300)], w)) 1 rfl ?_
                                refine e_Ok.getf (z := w 275 30) rfl (el_o rfl) rfl rfl rfl (by omega) ?_
                                refine e_Ok.run (t' := (129, [(6, (0, p4)), (0, (1, 275)), (1, (0, p1)), (2, (0, p2)), (3, (0, p3)), (4, (0, p4)), (5, (0, p5))], [(0, p1), (0, w 275 30), (1, 300)], w)) 1 rfl ?_
                                refine e_Ok.ast rfl (el_o rfl) rfl rfl (by omega) ?_
                                generalize hw221 : e_up w 300 (w 275 30) p1 = w221
                                have f222 : e_fr (mF 30 300 306) w w221 := e_fr.up (e_fr.refl w) hw221 (by unfold mF; omega)
                                have hT223 : e_Has mTy w221 := e_Has.upr hT hw221 rfl (by omega)
                                refine e_Ok.run (t' := (131, [(6, (0, p4)), (0, (1, 275)), (1, (0, p1)), (2, (0, p2)), (3, (0, p3)), (4, (0, p4)), (5, (0, p5))], [(1, 275)], w221)) 1 rfl ?_
                                refine e_Ok.getr (z := 301) rfl (el_o rfl) rfl rfl (by rw [← hw221]; exact (e_up_ne _ _ (Or.inl (by omega))).trans (e_Has.eq hT rfl)) (by omega) ?_
                                refine e_Ok.run (t' := (135, [(6, (0, p4)), (0, (1, 275)), (1, (0, p1)), (2, (0, p2)), (3, (0, p3)), (4, (0, p4)), (5, (0, p5))], [(1, 275), (1, 301)], w221)) 1 rfl ?_
                                refine e_Ok.getf (z := w 275 30) rfl (el_o rfl) rfl rfl (by rw [← hw221]; exact (e_up_ne _ _ (Or.inl (by omega))).trans rfl) (by omega) ?_
                                refine e_Ok.run (t' := (139, [(6, (0, p4)), (0, (1, 275)), (1, (0, p1)), (2, (0, p2)), (3, (0, p3)), (4, (0, p4)), (5, (0, p5))], [(0, p2), (0, w 275 30), (1, 301)], w221)) 1 rfl ?_
                                refine e_Ok.ast rfl (el_o rfl) rfl rfl (by omega) ?_
                                generalize hw224 : e_up w221 301 (w 275 30) p2 = w224
                                have f225 : e_fr (mF 30 300 306) w w224 := e_fr.up f222 hw224 (by unfold mF; omega)
                                have hT226 : e_Has mTy w224 := e_Has.upr hT223 hw224 rfl (by omega)
                                refine e_Ok.run (t' := (141, [(6, (0, p4)), (0, (1, 275)), (1, (0, p1)), (2, (0, p2)), (3, (0, p3)), (4, (0, p4)), (5, (0, p5))], [(1, 275)], w224)) 1 rfl ?_
                                refine e_Ok.getr (z := 302) rfl (el_o rfl) rfl rfl (by rw [← hw224]; exact (e_up_ne _ _ (Or.inl (by omega))).trans (by rw [← hw221]; exact (e_up_ne _ _ (Or.inl (by omega))).trans (e_Has.eq hT rfl))) (by omega) ?_
                                refine e_Ok.run (t' := (145, [(6, (0, p4)), (0, (1, 275)), (1, (0, p1)), (2, (0, p2)), (3, (0, p3)), (4, (0, p4)), (5, (0, p5))], [(1, 275), (1, 302)], w224)) 1 rfl ?_
                                refine e_Ok.getf (z := w 275 30) rfl (el_o rfl) rfl rfl (by rw [← hw224]; exact (e_up_ne _ _ (Or.inl (by omega))).trans (by rw [← hw221]; exact (e_up_ne _ _ (Or.inl (by omega))).trans rfl)) (by omega) ?_
                                refine e_Ok.run (t' := (149, [(6, (0, p4)), (0, (1, 275)), (1, (0, p1)), (2, (0, p2)), (3, (0, p3)), (4, (0, p4)), (5, (0, p5))], [(0, p3), (0, w 275 30), (1, 302)], w224)) 1 rfl ?_
                                refine e_Ok.ast rfl (el_o rfl) rfl rfl (by omega) ?_
                                generalize hw227 : e_up w224 302 (w 275 30) p3 = w227
                                have f228 : e_fr (mF 30 300 306) w w227 := e_fr.up f225 hw227 (by unfold mF; omega)
                                have hT229 : e_Has mTy w227 := e_Has.upr hT226 hw227 rfl (by omega)
                                refine e_Ok.run (t' := (151, [(6, (0, p4)), (0, (1, 275)), (1, (0, p1)), (2, (0, p2)), (3, (0, p3)), (4, (0, p4)), (5, (0, p5))], [(1, 275)], w227)) 1 rfl ?_
                                refine e_Ok.getr (z := 303) rfl (el_o rfl) rfl rfl (by rw [← hw227]; exact (e_up_ne _ _ (Or.inl (by omega))).trans (by rw [← hw224]; exact (e_up_ne _ _ (Or.inl (by omega))).trans (by rw [← hw221]; exact (e_up_ne _ _ (Or.inl (by omega))).trans (e_Has.eq hT rfl)))) (by omega) ?_
                                refine e_Ok.run (t' := (155, [(6, (0, p4)), (0, (1, 275)), (1, (0, p1)), (2, (0, p2)), (3, (0, p3)), (4, (0, p4)), (5, (0, p5))], [(1, 275), (1, 303)], w227)) 1 rfl ?_
                                refine e_Ok.getf (z := w 275 30) rfl (el_o rfl) rfl rfl (by rw [← hw227]; exact (e_up_ne _ _ (Or.inl (by omega))).trans (by rw [← hw224]; exact (e_up_ne _ _ (Or.inl (by omega))).trans (by rw [← hw221]; exact (e_up_ne _ _ (Or.inl (by omega))).trans rfl))) (by omega) ?_
                                refine e_Ok.run (t' := (160, [(6, (0, p4)), (0, (1, 275)), (1, (0, p1)), (2, (0, p2)), (3, (0, p3)), (4, (0, p4)), (5, (0, p5))], [(0, p4), (0, w 275 30), (1, 303)], w227)) 1 rfl ?_
                                refine e_Ok.ast rfl (el_o rfl) rfl rfl (by omega) ?_
                                generalize hw230 : e_up w227 303 (w 275 30) p4 = w230
                                have f231 : e_fr (mF 30 300 306) w w230 := e_fr.up f228 hw230 (by unfold mF; omega)
                                have hT232 : e_Has mTy w230 := e_Has.upr hT229 hw230 rfl (by omega)
                                refine e_Ok.run (t' := (162, [(6, (0, p4)), (0, (1, 275)), (1, (0, p1)), (2, (0, p2)), (3, (0, p3)), (4, (0, p4)), (5, (0, p5))], [(1, 275)], w230)) 1 rfl ?_
                                refine e_Ok.getr (z := 304) rfl (el_o rfl) rfl rfl (by rw [← hw230]; exact (e_up_ne _ _ (Or.inl (by omega))).trans (by rw [← hw227]; exact (e_up_ne _ _ (Or.inl (by omega))).trans (by rw [← hw224]; exact (e_up_ne _ _ (Or.inl (by omega))).trans (by rw [← hw221]; exact (e_up_ne _ _ (Or.inl (by omega))).trans (e_Has.eq hT rfl))))) (by omega) ?_
                                refine e_Ok.run (t' := (166, [(6, (0, p4)), (0, (1, 275)), (1, (0, p1)), (2, (0, p2)), (3, (0, p3)), (4, (0, p4)), (5, (0, p5))], [(1, 275), (1, 304)], w230)) 1 rfl ?_
                                refine e_Ok.getf (z := w 275 30) rfl (el_o rfl) rfl rfl (by rw [← hw230]; exact (e_up_ne _ _ (Or.inl (by omega))).trans (by rw [← hw227]; exact (e_up_ne _ _ (Or.inl (by omega))).trans (by rw [← hw224]; exact (e_up_ne _ _ (Or.inl (by omega))).trans (by rw [← hw221]; exact (e_up_ne _ _ (Or.inl (by omega))).trans rfl)))) (by omega) ?_
                                refine e_Ok.run (t' := (170, [(6, (0, p4)), (0, (1, 275)), (1, (0, p1)), (2, (0, p2)), (3, (0, p3)), (4, (0, p4)), (5, (0, p5))], [(0, 0), (0, w 275 30), (1, 304)], w230)) 1 rfl ?_
                                refine e_Ok.ast rfl (el_o rfl) rfl rfl (by omega) ?_
                                generalize hw233 : e_up w230 304 (w 275 30) 0 = w233
                                have f234 : e_fr (mF 30 300 306) w w233 := e_fr.up f231 hw233 (by unfold mF; omega)
                                have hT235 : e_Has mTy w233 := e_Has.upr hT232 hw233 rfl (by omega)
                                refine e_Ok.run (t' := (172, [(6, (0, p4)), (0, (1, 275)), (1, (0, p1)), (2, (0, p2)), (3, (0, p3)), (4, (0, p4)), (5, (0, p5))], [(1, 275)], w233)) 1 rfl ?_
                                refine e_Ok.getr (z := 306) rfl (el_o rfl) rfl rfl (by rw [← hw233]; exact (e_up_ne _ _ (Or.inl (by omega))).trans (by rw [← hw230]; exact (e_up_ne _ _ (Or.inl (by omega))).trans (by rw [← hw227]; exact (e_up_ne _ _ (Or.inl (by omega))).trans (by rw [← hw224]; exact (e_up_ne _ _ (Or.inl (by omega))).trans (by rw [← hw221]; exact (e_up_ne _ _ (Or.inl (by omega))).trans (e_Has.eq hT rfl)))))) (by omega) ?_
                                refine e_Ok.run (t' := (176, [(6, (0, p4)), (0, (1, 275)), (1, (0, p1)), (2, (0, p2)), (3, (0, p3)), (4, (0, p4)), (5, (0, p5))], [(1, 275), (1, 306)], w233)) 1 rfl ?_
                                refine e_Ok.getf (z := w 275 30) rfl (el_o rfl) rfl rfl (by rw [← hw233]; exact (e_up_ne _ _ (Or.inl (by omega))).trans (by rw [← hw230]; exact (e_up_ne _ _ (Or.inl (by omega))).trans (by rw [← hw227]; exact (e_up_ne _ _ (Or.inl (by omega))).trans (by rw [← hw224]; exact (e_up_ne _ _ (Or.inl (by omega))).trans (by rw [← hw221]; exact (e_up_ne _ _ (Or.inl (by omega))).trans rfl))))) (by omega) ?_
                                refine e_Ok.run (t' := (180, [(6, (0, p4)), (0, (1, 275)), (1, (0, p1)), (2, (0, p2)), (3, (0, p3)), (4, (0, p4)), (5, (0, p5))], [(0, (-1)), (0, w 275 30), (1, 306)], w233)) 1 rfl ?_
                                refine e_Ok.ast rfl (el_o rfl) rfl rfl (by omega) ?_
                                generalize hw236 : e_up w233 306 (w 275 30) (-1) = w236
                                have f237 : e_fr (mF 30 300 306) w w236 := e_fr.up f234 hw236 (by unfold mF; omega)
                                have hT238 : e_Has mTy w236 := e_Has.upr hT235 hw236 rfl (by omega)
                                refine e_Ok.run (t' := (182, [(6, (0, p4)), (0, (1, 275)), (1, (0, p1)), (2, (0, p2)), (3, (0, p3)), (4, (0, p4)), (5, (0, p5))], [(1, 275)], w236)) 1 rfl ?_
                                refine e_Ok.getr (z := 305) rfl (el_o rfl) rfl rfl (by rw [← hw236]; exact (e_up_ne _ _ (Or.inl (by omega))).trans (by rw [← hw233]; exact (e_up_ne _ _ (Or.inl (by omega))).trans (by rw [← hw230]; exact (e_up_ne _ _ (Or.inl (by omega))).trans (by rw [← hw227]; exact (e_up_ne _ _ (Or.inl (by omega))).trans (by rw [← hw224]; exact (e_up_ne _ _ (Or.inl (by omega))).trans (by rw [← hw221]; exact (e_up_ne _ _ (Or.inl (by omega))).trans (e_Has.eq hT rfl))))))) (by omega) ?_
                                refine e_Ok.run (t' := (186, [(6, (0, p4)), (0, (1, 275)), (1, (0, p1)), (2, (0, p2)), (3, (0, p3)), (4, (0, p4)), (5, (0, p5))], [(1, 275), (1, 305)], w236)) 1 rfl ?_
                                refine e_Ok.getf (z := w 275 30) rfl (el_o rfl) rfl rfl (by rw [← hw236]; exact (e_up_ne _ _ (Or.inl (by omega))).trans (by rw [← hw233]; exact (e_up_ne _ _ (Or.inl (by omega))).trans (by rw [← hw230]; exact (e_up_ne _ _ (Or.inl (by omega))).trans (by rw [← hw227]; exact (e_up_ne _ _ (Or.inl (by omega))).trans (by rw [← hw224]; exact (e_up_ne _ _ (Or.inl (by omega))).trans (by rw [← hw221]; exact (e_up_ne _ _ (Or.inl (by omega))).trans rfl)))))) (by omega) ?_
                                refine e_Ok.run (t' := (191, [(6, (0, p4)), (0, (1, 275)), (1, (0, p1)), (2, (0, p2)), (3, (0, p3)), (4, (0, p4)), (5, (0, p5))], [(0, p5), (0, w 275 30), (1, 305)], w236)) 1 rfl ?_
                                refine e_Ok.ast rfl (el_o rfl) rfl rfl (by omega) ?_
                                generalize hw239 : e_up w236 305 (w 275 30) p5 = w239
                                have f240 : e_fr (mF 30 300 306) w w239 := e_fr.up f237 hw239 (by unfold mF; omega)
                                have hT241 : e_Has mTy w239 := e_Has.upr hT238 hw239 rfl (by omega)
                                refine e_Ok.run (t' := (194, [(6, (0, p4)), (0, (1, 275)), (1, (0, p1)), (2, (0, p2)), (3, (0, p3)), (4, (0, p4)), (5, (0, p5))], [(1, 275), (1, 275)], w239)) 2 rfl ?_
                                refine e_Ok.getf (z := w 275 30) rfl (el_o rfl) rfl rfl (by rw [← hw239]; exact (e_up_ne _ _ (Or.inl (by omega))).trans (by rw [← hw236]; exact (e_up_ne _ _ (Or.inl (by omega))).trans (by rw [← hw233]; exact (e_up_ne _ _ (Or.inl (by omega))).trans (by rw [← hw230]; exact (e_up_ne _ _ (Or.inl (by omega))).trans (by rw [← hw227]; exact (e_up_ne _ _ (Or.inl (by omega))).trans (by rw [← hw224]; exact (e_up_ne _ _ (Or.inl (by omega))).trans (by rw [← hw221]; exact (e_up_ne _ _ (Or.inl (by omega))).trans rfl))))))) (by omega) ?_
                                refine e_Ok.run (t' := (198, [(6, (0, p4)), (0, (1, 275)), (1, (0, p1)), (2, (0, p2)), (3, (0, p3)), (4, (0, p4)), (5, (0, p5))], [(0, 1), (0, w 275 30), (1, 275)], w239)) 1 rfl ?_
                                refine e_Ok.add (z := w 275 30 + 1) rfl (by omega) (by omega) ?_
                                refine e_Ok.putf rfl (el_o rfl) rfl rfl ?_
                                generalize hw242 : e_up w239 275 30 (w 275 30 + 1) = w242
                                have f243 : e_fr (mF 30 300 306) w w242 := e_fr.up f240 hw242 (by unfold mF; omega)
                                have hT244 : e_Has mTy w242 := e_Has.upr hT241 hw242 rfl (by omega)
                                refine e_Ok.run (t' := (203, [(6, (0, p4)), (0, (1, 275)), (1, (0, p1)), (2, (0, p2)), (3, (0, p3)), (4, (0, p4)), (5, (0, p5))], [(1, 275)], w242)) 1 rfl ?_
                                refine e_Ok.getf (z := w 275 30 + 1) rfl (el_o rfl) rfl rfl (by rw [← hw242]; exact e_up_eq _ _ _ _) (by omega) ?_
                                refine e_Ok.run (t' := (207, [(6, (0, p4)), (0, (1, 275)), (1, (0, p1)), (2, (0, p2)), (3, (0, p3)), (4, (0, p4)), (5, (0, p5))], [(0, 1), (0, w 275 30 + 1)], w242)) 1 rfl ?_
                                refine e_Ok.sub' (z := w 275 30) rfl (by omega) (by omega) ?_
                                refine e_Ok.rets rfl rfl ?_
                                exact ⟨_, rfl, f243, hT244, trivial⟩
                              · replace h220 : (w 275 30 : Int) = 4 := by have q : ¬ ((w 275 30 : Int) ≠ 4) := h220; omega
                                refine e_Ok.run (t' := (119, [(6, (0, p4)), (0, (1, 275)), (1, (0, p1)), (2, (0, p2)), (3, (0, p3)), (4, (0, p4)), (5, (0, p5))], [(0, (-3))], w)) 1 rfl ?_
                                refine e_Ok.rets rfl rfl ?_
                                exact ⟨_, rfl, (e_fr.refl w), hT, trivial⟩
                            · replace h218 : (w 275 3 : Int) ≠ 0 := by have q : ¬ ((w 275 3 : Int) = 0) := h218; omega
                              refine e_Ok.run (t' := (108, [(6, (0, p4)), (0, (1, 275)), (1, (0, p1)), (2, (0, p2)), (3, (0, p3)), (4, (0, p4)), (5, (0, p5))], [(0, (-2))], w)) 1 rfl ?_
                              refine e_Ok.rets rfl rfl ?_
                              exact ⟨_, rfl, (e_fr.refl w), hT, trivial⟩
                          · replace h216 : (1 : Int) = 0 := by have q : ¬ ((1 : Int) ≠ 0) := h216; omega
                            exfalso; omega
                        · show e_Ok 20 elay ecode eI (d + 1) 286 (94, [(6, (0, p4)), (0, (1, 275)), (1, (0, p1)), (2, (0, p2)), (3, (0, p3)), (4, (0, p4)), (5, (0, p5))], [(0, 0)], w) _
                          refine e_Ok.if1 rfl (fun h245 => ?_) (fun h245 => ?_)
                          · replace h245 : (0 : Int) ≠ 0 := h245
                            exfalso; omega
                          · replace h245 : (0 : Int) = 0 := by have q : ¬ ((0 : Int) ≠ 0) := h245; omega
                            refine e_Ok.run (t' := (98, [(6, (0, p4)), (0, (1, 275)), (1, (0, p1)), (2, (0, p2)), (3, (0, p3)), (4, (0, p4)), (5, (0, p5))], [(0, (-1))], w)) 1 rfl ?_
                            refine e_Ok.rets rfl rfl ?_
                            exact ⟨_, rfl, (e_fr.refl w), hT, trivial⟩
                    · replace h173 : (z172 : Int) = 0 := by have q : ¬ ((z172 : Int) ≠ 0) := h173; omega
                      refine e_Ok.run (t' := (72, [(6, (0, p4)), (0, (1, 275)), (1, (0, p1)), (2, (0, p2)), (3, (0, p3)), (4, (0, p4)), (5, (0, p5))], [(0, p4), (0, p1)], w)) 2 rfl ?_
                      refine e_Ok.add (z := p1 + p4) rfl (by omega) (by omega) ?_
                      refine e_Ok.run (t' := (79, [(6, (0, p4)), (0, (1, 275)), (1, (0, p1)), (2, (0, p2)), (3, (0, p3)), (4, (0, p4)), (5, (0, p5))], [(0, 2), (0, p3), (0, p1 + p4)], w)) 3 rfl ?_
                      refine e_Ok.remn (fun z246 hz246 => ?_) rfl (by omega) (by omega)
                      replace hz246 : z246 = p3 % 2 := hz246
                      have z246r : 0 ≤ z246 ∧ z246 ≤ 1 := by omega
                      refine e_Ok.if1 rfl (fun h247 => ?_) (fun h247 => ?_)
                      · replace h247 : (z246 : Int) ≠ 0 := h247
                        refine e_Ok.run (t' := (90, [(6, (0, p4)), (0, (1, 275)), (1, (0, p1)), (2, (0, p2)), (3, (0, p3)), (4, (0, p4)), (5, (0, p5))], [(0, p4), (0, p2), (0, p1 + p4)], w)) 2 rfl ?_
                        refine e_Ok.add (z := p2 + p4) rfl (by omega) (by omega) ?_
                        refine e_Ok.callS rfl (by omega) rfl rfl (c_272 (by omega)) (fun r248 w249 h250 => ?_)
                        obtain ⟨z251, rfl, rfl, q252⟩ := h250
                        obtain ⟨rfl, q252⟩ | ⟨rfl, q252⟩ := q252
                        · show e_Ok 20 elay ecode eI (d + 1) 286 (94, [(6, (0, p4)), (0, (1, 275)), (1, (0, p1)), (2, (0, p2)), (3, (0, p3)), (4, (0, p4)), (5, (0, p5))], [(0, 1)], w) _
                          refine e_Ok.if1 rfl (fun h253 => ?_) (fun h253 => ?_)
                          · replace h253 : (1 : Int) ≠ 0 := h253
                            refine e_Ok.run (t' := (100, [(6, (0, p4)), (0, (1, 275)), (1, (0, p1)), (2, (0, p2)), (3, (0, p3)), (4, (0, p4)), (5, (0, p5))], [(1, 275)], w)) 1 rfl ?_
                            have h254 := (e_Has.get hT (c := 275) (k := 3) (lo := 0) (hi := 1) rfl (by decide))
                            refine e_Ok.getf (z := w 275 3) rfl (el_o rfl) rfl rfl rfl (by omega) ?_
                            refine e_Ok.if1 rfl (fun h255 => ?_) (fun h255 => ?_)
                            · replace h255 : (w 275 3 : Int) = 0 := h255
                              refine e_Ok.run (t' := (110, [(6, (0, p4)), (0, (1, 275)), (1, (0, p1)), (2, (0, p2)), (3, (0, p3)), (4, (0, p4)), (5, (0, p5))], [(1, 275)], w)) 1 rfl ?_
                              have h256 := (e_Has.get hT (c := 275) (k := 30) (lo := 0) (hi := 4) rfl (by decide))
                              refine e_Ok.getf (z := w 275 30) rfl (el_o rfl) rfl rfl rfl (by omega) ?_
                              refine e_Ok.run (t' := (114, [(6, (0, p4)), (0, (1, 275)), (1, (0, p1)), (2, (0, p2)), (3, (0, p3)), (4, (0, p4)), (5, (0, p5))], [(0, 4), (0, w 275 30)], w)) 1 rfl ?_
                              refine e_Ok.if2 rfl (fun h257 => ?_) (fun h257 => ?_)
                              · replace h257 : (w 275 30 : Int) ≠ 4 := h257
                                refine e_Ok.run (t' := (121, [(6, (0, p4)), (0, (1, 275)), (1, (0, p1)), (2, (0, p2)), (3, (0, p3)), (4, (0, p4)), (5, (0, p5))], [(1, 275)], w)) 1 rfl ?_
                                refine e_Ok.getr (z := 300) rfl (el_o rfl) rfl rfl (e_Has.eq hT rfl) (by omega) ?_
                                refine e_Ok.run (t' := (125, [(6, (0, p4)), (0, (1, 275)), (1, (0, p1)), (2, (0, p2)), (3, (0, p3)), (4, (0, p4)), (5, (0, p5))], [(1, 275), (1, 300)], w)) 1 rfl ?_
                                refine e_Ok.getf (z := w 275 30) rfl (el_o rfl) rfl rfl rfl (by omega) ?_
                                refine e_Ok.run (t' := (129, [(6, (0, p4)), (0, (1, 275)), (1, (0, p1)), (2, (0, p2)), (3, (0, p3)), (4, (0, p4)), (5, (0, p5))], [(0, p1), (0, w 275 30), (1, 300)], w)) 1 rfl ?_
                                refine e_Ok.ast rfl (el_o rfl) rfl rfl (by omega) ?_
                                generalize hw258 : e_up w 300 (w 275 30) p1 = w258
                                have f259 : e_fr (mF 30 300 306) w w258 := e_fr.up (e_fr.refl w) hw258 (by unfold mF; omega)
                                have hT260 : e_Has mTy w258 := e_Has.upr hT hw258 rfl (by omega)
                                refine e_Ok.run (t' := (131, [(6, (0, p4)), (0, (1, 275)), (1, (0, p1)), (2, (0, p2)), (3, (0, p3)), (4, (0, p4)), (5, (0, p5))], [(1, 275)], w258)) 1 rfl ?_
                                refine e_Ok.getr (z := 301) rfl (el_o rfl) rfl rfl (by rw [← hw258]; exact (e_up_ne _ _ (Or.inl (by omega))).trans (e_Has.eq hT rfl)) (by omega) ?_
                                refine e_Ok.run (t' := (135, [(6, (0, p4)), (0, (1, 275)), (1, (0, p1)), (2, (0, p2)), (3, (0, p3)), (4, (0, p4)), (5, (0, p5))], [(1, 275), (1, 301)], w258)) 1 rfl ?_
                                refine e_Ok.getf (z := w 275 30) rfl (el_o rfl) rfl rfl (by rw [← hw258]; exact (e_up_ne _ _ (Or.inl (by omega))).trans rfl) (by omega) ?_
                                refine e_Ok.run (t' := (139, [(6, (0, p4)), (0, (1, 275)), (1, (0, p1)), (2, (0, p2)), (3, (0, p3)), (4, (0, p4)), (5, (0, p5))], [(0, p2), (0, w 275 30), (1, 301)], w258)) 1 rfl ?_
                                refine e_Ok.ast rfl (el_o rfl) rfl rfl (by omega) ?_
                                generalize hw261 : e_up w258 301 (w 275 30) p2 = w261
                                have f262 : e_fr (mF 30 300 306) w w261 := e_fr.up f259 hw261 (by unfold mF; omega)
                                have hT263 : e_Has mTy w261 := e_Has.upr hT260 hw261 rfl (by omega)
                                refine e_Ok.run (t' := (141, [(6, (0, p4)), (0, (1, 275)), (1, (0, p1)), (2, (0, p2)), (3, (0, p3)), (4, (0, p4)), (5, (0, p5))], [(1, 275)], w261)) 1 rfl ?_
                                refine e_Ok.getr (z := 302) rfl (el_o rfl) rfl rfl (by rw [← hw261]; exact (e_up_ne _ _ (Or.inl (by omega))).trans (by rw [← hw258]; exact (e_up_ne _ _ (Or.inl (by omega))).trans (e_Has.eq hT rfl))) (by omega) ?_
                                refine e_Ok.run (t' := (145, [(6, (0, p4)), (0, (1, 275)), (1, (0, p1)), (2, (0, p2)), (3, (0, p3)), (4, (0, p4)), (5, (0, p5))], [(1, 275), (1, 302)], w261)) 1 rfl ?_
                                refine e_Ok.getf (z := w 275 30) rfl (el_o rfl) rfl rfl (by rw [← hw261]; exact (e_up_ne _ _ (Or.inl (by omega))).trans (by rw [← hw258]; exact (e_up_ne _ _ (Or.inl (by omega))).trans rfl)) (by omega) ?_
                                refine e_Ok.run (t' := (149, [(6, (0, p4)), (0, (1, 275)), (1, (0, p1)), (2, (0, p2)), (3, (0, p3)), (4, (0, p4)), (5, (0, p5))], [(0, p3), (0, w 275 30), (1, 302)], w261)) 1 rfl ?_
                                refine e_Ok.ast rfl (el_o rfl) rfl rfl (by omega) ?_
                                generalize hw264 : e_up w261 302 (w 275 30) p3 = w264
                                have f265 : e_fr (mF 30 300 306) w w264 := e_fr.up f262 hw264 (by unfold mF; omega)
                                have hT266 : e_Has mTy w264 := e_Has.upr hT263 hw264 rfl (by omega)
                                refine e_Ok.run (t' := (151, [(6, (0, p4)), (0, (1, 275)), (1, (0, p1)), (2, (0, p2)), (3, (0, p3)), (4, (0, p4)), (5, (0, p5))], [(1, 275)], w264)) 1 rfl ?_
                                refine e_Ok.getr (z := 303) rfl (el_o rfl) rfl rfl (by rw [← hw264]; exact (e_up_ne _ _ (Or.inl (by omega))).trans (by rw [← hw261]; exact (e_up_ne _ _ (Or.inl (by omega))).trans (by rw [← hw258]; exact (e_up_ne _ _ (Or.inl (by omega))).trans (e_Has.eq hT rfl)))) (by omega) ?_
                                refine e_Ok.run (t' := (155, [(6, (0, p4)), (0, (1, 275)), (1, (0, p1)), (2, (0, p2)), (3, (0, p3)), (4, (0, p4)), (5, (0, p5))], [(1, 275), (1, 303)], w264)) 1 rfl ?_
                                refine e_Ok.getf (z := w 275 30) rfl (el_o rfl) rfl rfl (by rw [← hw264]; exact (e_up_ne _ _ (Or.inl (by omega))).trans (by rw [← hw261]; exact (e_up_ne _ _ (Or.inl (by omega))).trans (by rw [← hw258]; exact (e_up_ne _ _ (Or.inl (by omega))).trans rfl))) (by omega) ?_
                                refine e_Ok.run (t' := (160, [(6, (0, p4)), (0, (1, 275)), (1, (0, p1)), (2, (0, p2)), (3, (0, p3)), (4, (0, p4)), (5, (0, p5))], [(0, p4), (0, w 275 30), (1, 303)], w264)) 1 rfl ?_
                                refine e_Ok.ast rfl (el_o rfl) rfl rfl (by omega) ?_
                                generalize hw267 : e_up w264 303 (w 275 30) p4 = w267
                                have f268 : e_fr (mF 30 300 306) w w267 := e_fr.up f265 hw267 (by unfold mF; omega)
                                have hT269 : e_Has mTy w267 := e_Has.upr hT266 hw267 rfl (by omega)
                                refine e_Ok.run (t' := (162, [(6, (0, p4)), (0, (1, 275)), (1, (0, p1)), (2, (0, p2)), (3, (0, p3)), (4, (0, p4)), (5, (0, p5))], [(1, 275)], w267)) 1 rfl ?_
                                refine e_Ok.getr (z := 304) rfl (el_o rfl) rfl rfl (by rw [← hw267]; exact (e_up_ne _ _ (Or.inl (by omega))).trans (by rw [← hw264]; exact (e_up_ne _ _ (Or.inl (by omega))).trans (by rw [← hw261]; exact (e_up_ne _ _ (Or.inl (by omega))).trans (by rw [← hw258]; exact (e_up_ne _ _ (Or.inl (by omega))).trans (e_Has.eq hT rfl))))) (by omega) ?_
                                refine e_Ok.run (t' := (166, [(6, (0, p4)), (0, (1, 275)), (1, (0, p1)), (2, (0, p2)), (3, (0, p3)), (4, (0, p4)), (5, (0, p5))], [(1, 275), (1, 304)], w267)) 1 rfl ?_
                                refine e_Ok.getf (z := w 275 30) rfl (el_o rfl) rfl rfl (by rw [← hw267]; exact (e_up_ne _ _ (Or.inl (by omega))).trans (by rw [← hw264]; exact (e_up_ne _ _ (Or.inl (by omega))).trans (by rw [← hw261]; exact (e_up_ne _ _ (Or.inl (by omega))).trans (by rw [← hw258]; exact (e_up_ne _ _ (Or.inl (by omega))).trans rfl)))) (by omega) ?_
                                refine e_Ok.run (t' := (170, [(6, (0, p4)), (0, (1, 275)), (1, (0, p1)), (2, (0, p2)), (3, (0, p3)), (4, (0, p4)), (5, (0, p5))], [(0, 0), (0, w 275 30), (1, 304)], w267)) 1 rfl ?_
                                refine e_Ok.ast rfl (el_o rfl) rfl rfl (by omega) ?_
                                generalize hw270 : e_up w267 304 (w 275 30) 0 = w270
                                have f271 : e_fr (mF 30 300 306) w w270 := e_fr.up f268 hw270 (by unfold mF; omega)
                                have hT272 : e_Has mTy w270 := e_Has.upr hT269 hw270 rfl (by omega)
                                refine e_Ok.run (t' := (172, [(6, (0, p4)), (0, (1, 275)), (1, (0, p1)), (2, (0, p2)), (3, (0, p3)), (4, (0, p4)), (5, (0, p5))], [(1, 275)], w270)) 1 rfl ?_
                                refine e_Ok.getr (z := 306) rfl (el_o rfl) rfl rfl (by rw [← hw270]; exact (e_up_ne _ _ (Or.inl (by omega))).trans (by rw [← hw267]; exact (e_up_ne _ _ (Or.inl (by omega))).trans (by rw [← hw264]; exact (e_up_ne _ _ (Or.inl (by omega))).trans (by rw [← hw261]; exact (e_up_ne _ _ (Or.inl (by omega))).trans (by rw [← hw258]; exact (e_up_ne _ _ (Or.inl (by omega))).trans (e_Has.eq hT rfl)))))) (by omega) ?_
                                refine e_Ok.run (t' := (176, [(6, (0, p4)), (0, (1, 275)), (1, (0, p1)), (2, (0, p2)), (3, (0, p3)), (4, (0, p4)), (5, (0, p5))], [(1, 275), (1, 306)], w270)) 1 rfl ?_
                                refine e_Ok.getf (z := w 275 30) rfl (el_o rfl) rfl rfl (by rw [← hw270]; exact (e_up_ne _ _ (Or.inl (by omega))).trans (by rw [← hw267]; exact (e_up_ne _ _ (Or.inl (by omega))).trans (by rw [← hw264]; exact (e_up_ne _ _ (Or.inl (by omega))).trans (by rw [← hw261]; exact (e_up_ne _ _ (Or.inl (by omega))).trans (by rw [← hw258]; exact (e_up_ne _ _ (Or.inl (by omega))).trans rfl))))) (by omega) ?_
                                refine e_Ok.run (t' := (180, [(6, (0, p4)), (0, (1, 275)), (1, (0, p1)), (2, (0, p2)), (3, (0, p3)), (4, (0, p4)), (5, (0, p5))], [(0, (-1)), (0, w 275 30), (1, 306)], w270)) 1 rfl ?_
                                refine e_Ok.ast rfl (el_o rfl) rfl rfl (by omega) ?_
                                generalize hw273 : e_up w270 306 (w 275 30) (-1) = w273
                                have f274 : e_fr (mF 30 300 306) w w273 := e_fr.up f271 hw273 (by unfold mF; omega)
                                have hT275 : e_Has mTy w273 := e_Has.upr hT272 hw273 rfl (by omega)
                                refine e_Ok.run (t' := (182, [(6, (0, p4)), (0, (1, 275)), (1, (0, p1)), (2, (0, p2)), (3, (0, p3)), (4, (0, p4)), (5, (0, p5))], [(1, 275)], w273)) 1 rfl ?_
                                refine e_Ok.getr (z := 305) rfl (el_o rfl) rfl rfl (by rw [← hw273]; exact (e_up_ne _ _ (Or.inl (by omega))).trans (by rw [← hw270]; exact (e_up_ne _ _ (Or.inl (by omega))).trans (by rw [← hw267]; exact (e_up_ne _ _ (Or.inl (by omega))).trans (by rw [← hw264]; exact (e_up_ne _ _ (Or.inl (by omega))).trans (by rw [← hw261]; exact (e_up_ne _ _ (Or.inl (by omega))).trans (by rw [← hw258]; exact (e_up_ne _ _ (Or.inl (by omega))).trans (e_Has.eq hT rfl))))))) (by omega) ?_
                                refine e_Ok.run (t' := (186, [(6, (0, p4)), (0, (1, 275)), (1, (0, p1)), (2, (0, p2)), (3, (0, p3)), (4, (0, p4)), (5, (0, p5))], [(1, 275), (1, 305)], w273)) 1 rfl ?_
                                refine e_Ok.getf (z := w 275 30) rfl (el_o rfl) rfl rfl (by rw [← hw273]; exact (e_up_ne _ _ (Or.inl (by omega))).trans (by rw [← hw270]; exact (e_up_ne _ _ (Or.inl (by omega))).trans (by rw [← hw267]; exact (e_up_ne _ _ (Or.inl (by omega))).trans (by rw [← hw264]; exact (e_up_ne _ _ (Or.inl (by omega))).trans (by rw [← hw261]; exact (e_up_ne _ _ (Or.inl (by omega))).trans (by rw [← hw258]; exact (e_up_ne _ _ (Or.inl (by omega))).trans rfl)))))) (by omega) ?_
                                refine e_Ok.run (t' := (191, [(6, (0, p4)), (0, (1, 275)), (1, (0, p1)), (2, (0, p2)), (3, (0, p3)), (4, (0, p4)), (5, (0, p5))], [(0, p5), (0, w 275 30), (1, 305)], w273)) 1 rfl ?_
                                refine e_Ok.ast rfl (el_o rfl) rfl rfl (by omega) ?_
                                generalize hw276 : e_up w273 305 (w 275 30) p5 = w276
                                have f277 : e_fr (mF 30 300 306) w w276 := e_fr.up f274 hw276 (by unfold mF; omega)
                                have hT278 : e_Has mTy w276 := e_Has.upr hT275 hw276 rfl (by omega)
                                refine e_Ok.run (t' := (194, [(6, (0, p4)), (0, (1, 275)), (1, (0, p1)), (2, (0, p2)), (3, (0, p3)), (4, (0, p4)), (5, (0, p5))], [(1, 275), (1, 275)], w276)) 2 rfl ?_
                                refine e_Ok.getf (z := w 275 30) rfl (el_o rfl) rfl rfl (by rw [← hw276]; exact (e_up_ne _ _ (Or.inl (by omega))).trans (by rw [← hw273]; exact (e_up_ne _ _ (Or.inl (by omega))).trans (by rw [← hw270]; exact (e_up_ne _ _ (Or.inl (by omega))).trans (by rw [← hw267]; exact (e_up_ne _ _ (Or.inl (by omega))).trans (by rw [← hw264]; exact (e_up_ne _ _ (Or.inl (by omega))).trans (by rw [← hw261]; exact (e_up_ne _ _ (Or.inl (by omega))).trans (by rw [← hw258]; exact (e_up_ne _ _ (Or.inl (by omega))).trans rfl))))))) (by omega) ?_
                                refine e_Ok.run (t' := (198, [(6, (0, p4)), (0, (1, 275)), (1, (0, p1)), (2, (0, p2)), (3, (0, p3)), (4, (0, p4)), (5, (0, p5))], [(0, 1), (0, w 275 30), (1, 275)], w276)) 1 rfl ?_
                                refine e_Ok.add (z := w 275 30 + 1) rfl (by omega) (by omega) ?_
                                refine e_Ok.putf rfl (el_o rfl) rfl rfl ?_
                                generalize hw279 : e_up w276 275 30 (w 275 30 + 1) = w279
                                have f280 : e_fr (mF 30 300 306) w w279 := e_fr.up f277 hw279 (by unfold mF; omega)
                                have hT281 : e_Has mTy w279 := e_Has.upr hT278 hw279 rfl (by omega)
                                refine e_Ok.run (t' := (203, [(6, (0, p4)), (0, (1, 275)), (1, (0, p1)), (2, (0, p2)), (3, (0, p3)), (4, (0, p4)), (5, (0, p5))], [(1, 275)], w279)) 1 rfl ?_
                                refine e_Ok.getf (z := w 275 30 + 1) rfl (el_o rfl) rfl rfl (by rw [← hw279]; exact e_up_eq _ _ _ _) (by omega) ?_
                                refine e_Ok.run (t' := (207, [(6, (0, p4)), (0, (1, 275)), (1, (0, p1)), (2, (0, p2)), (3, (0, p3)), (4, (0, p4)), (5, (0, p5))], [(0, 1), (0, w 275 30 + 1)], w279)) 1 rfl ?_
                                refine e_Ok.sub' (z := w 275 30) rfl (by omega) (by omega) ?_
                                refine e_Ok.rets rfl rfl ?_
                                exact ⟨_, rfl, f280, hT281, trivial⟩
                              · replace h257 : (w 275 30 : Int) = 4 := by have q : ¬ ((w 275 30 : Int) ≠ 4) := h257; omega
                                refine e_Ok.run (t' := (119, [(6, (0, p4)), (0, (1, 275)), (1, (0, p1)), (2, (0, p2)), (3, (0, p3)), (4, (0, p4)), (5, (0, p5))], [(0, (-3))], w)) 1 rfl ?_
                                refine e_Ok.rets rfl rfl ?_
                                exact ⟨_, rfl, (e_fr.refl w), hT, trivial⟩
                            · replace h255 : (w 275 3 : Int) ≠ 0 := by have q : ¬ ((w 275 3 : Int) = 0) := h255; omega
                              refine e_Ok.run (t' := (108, [(6, (0, p4)), (0, (1, 275)), (1, (0, p1)), (2, (0, p2)), (3, (0, p3)), (4, (0, p4)), (5, (0, p5))], [(0, (-2))], w)) 1 rfl ?_
                              refine e_Ok.rets rfl rfl ?_
                              exact ⟨_, rfl, (e_fr.refl w), hT, trivial⟩
                          · replace h253 : (1 : Int) = 0 := by have q : ¬ ((1 : Int) ≠ 0) := h253; omega
                            exfalso; omega
                        · show e_Ok 20 elay ecode eI (d + 1) 286 (94, [(6, (0, p4)), (0, (1, 275)), (1, (0, p1)), (2, (0, p2)), (3, (0, p3)), (4, (0, p4)), (5, (0, p5))], [(0, 0)], w) _
                          refine e_Ok.if1 rfl (fun h282 => ?_) (fun h282 => ?_)
                          · replace h282 : (0 : Int) ≠ 0 := h282
                            exfalso; omega
                          · replace h282 : (0 : Int) = 0 := by have q : ¬ ((0 : Int) ≠ 0) := h282; omega
                            refine e_Ok.run (t' := (98, [(6, (0, p4)), (0, (1, 275)), (1, (0, p1)), (2, (0, p2)), (3, (0, p3)), (4, (0, p4)), (5, (0, p5))], [(0, (-1))], w)) 1 rfl ?_
                            refine e_Ok.rets rfl rfl ?_
                            exact ⟨_, rfl, (e_fr.refl w), hT, trivial⟩
                      · replace h247 : (z246 : Int) = 0 := by have q : ¬ ((z246 : Int) ≠ 0) := h247; omega
                        refine e_Ok.run (t' := (91, [(6, (0, p4)), (0, (1, 275)), (1, (0, p1)), (2, (0, p2)), (3, (0, p3)), (4, (0, p4)), (5, (0, p5))], [(0, p2), (0, p1 + p4)], w)) 2 rfl ?_
                        refine e_Ok.callS rfl (by omega) rfl rfl (c_272 (by omega)) (fun r283 w284 h285 => ?_)
                        obtain ⟨z286, rfl, rfl, q287⟩ := h285
                        obtain ⟨rfl, q287⟩ | ⟨rfl, q287⟩ := q287
                        · show e_Ok 20 elay ecode eI (d + 1) 286 (94, [(6, (0, p4)), (0, (1, 275)), (1, (0, p1)), (2, (0, p2)), (3, (0, p3)), (4, (0, p4)), (5, (0, p5))], [(0, 1)], w) _
                          refine e_Ok.if1 rfl (fun h288 => ?_) (fun h288 => ?_)
                          · replace h288 : (1 : Int) ≠ 0 := h288
                            refine e_Ok.run (t' := (100, [(6, (0, p4)), (0, (1, 275)), (1, (0, p1)), (2, (0, p2)), (3, (0, p3)), (4, (0, p4)), (5, (0, p5))], [(1, 275)], w)) 1 rfl ?_
                            have h289 := (e_Has.get hT (c := 275) (k := 3) (lo := 0) (hi := 1) rfl (by decide))
                            refine e_Ok.getf (z := w 275 3) rfl (el_o rfl) rfl rfl rfl (by omega) ?_
                            refine e_Ok.if1 rfl (fun h290 => ?_) (fun h290 => ?_)
                            · replace h290 : (w 275 3 : Int) = 0 := h290
                              refine e_Ok.run (t' := (110, [(6, (0, p4)), (0, (1, 275)), (1, (0, p1)), (2, (0, p2)), (3, (0, p3)), (4, (0, p4)), (5, (0, p5))], [(1, 275)], w)) 1 rfl ?_
                              have h291 := (e_Has.get hT (c := 275) (k := 30) (lo := 0) (hi := 4) rfl (by decide))
                              refine e_Ok.getf (z := w 275 30) rfl (el_o rfl) rfl rfl rfl (by omega) ?_
                              refine e_Ok.run (t' := (114, [(6, (0, p4)), (0, (1, 275)), (1, (0, p1)), (2, (0, p2)), (3, (0, p3)), (4, (0, p4)), (5, (0, p5))], [(0, 4), (0, w 275 30)], w)) 1 rfl ?_
                              refine e_Ok.if2 rfl (fun h292 => ?_) (fun h292 => ?_)
                              · replace h292 : (w 275 30 : Int) ≠ 4 := h292
                                refine e_Ok.run (t' := (121, [(6, (0, p4)), (0, (1, 275)), (1, (0, p1)), (2, (0, p2)), (3, (0, p3)), (4, (0, p4)), (5, (0, p5))], [(1, 275)], w)) 1 rfl ?_
                                refine e_Ok.getr (z := 300) rfl (el_o rfl) rfl rfl (e_Has.eq hT rfl) (by omega) ?_
                                refine e_Ok.run (t' := (125, [(6, (0, p4)), (0, (1, 275)), (1, (0, p1)), (2, (0, p2)), (3, (0, p3)), (4, (0, p4)), (5, (0, p5))], [(1, 275), (1, 300)], w)) 1 rfl ?_
                                refine e_Ok.getf (z := w 275 30) rfl (el_o rfl) rfl rfl rfl (by omega) ?_
                                refine e_Ok.run (t' := (129, [(6, (0, p4)), (0, (1, 275)), (1, (0, p1)), (2, (0, p2)), (3, (0, p3)), (4, (0, p4)), (5, (0, p5))], [(0, p1), (0, w 275 30), (1, 300)], w)) 1 rfl ?_
                                refine e_Ok.ast rfl (el_o rfl) rfl rfl (by omega) ?_
                                generalize hw293 : e_up w 300 (w 275 30) p1 = w293
                                have f294 : e_fr (mF 30 300 306) w w293 := e_fr.up (e_fr.refl w) hw293 (by unfold mF; omega)
                                have hT295 : e_Has mTy w293 := e_Has.upr hT hw293 rfl (by omega)
                                refine e_Ok.run (t' := (131, [(6, (0, p4)), (0, (1, 275)), (1, (0, p1)), (2, (0, p2)), (3, (0, p3)), (4, (0, p4)), (5, (0, p5))], [(1, 275)], w293)) 1 rfl ?_
                                refine e_Ok.getr (z := 301) rfl (el_o rfl) rfl rfl (by rw [← hw293]; exact (e_up_ne _ _ (Or.inl (by omega))).trans (e_Has.eq hT rfl)) (by omega) ?_
                                refine e_Ok.run (t' := (135, [(6, (0, p4)), (0, (1, 275)), (1, (0, p1)), (2, (0, p2)), (3, (0, p3)), (4, (0, p4)), (5, (0, p5))], [(1, 275), (1, 301)], w293)) 1 rfl ?_
                                refine e_Ok.getf (z := w 275 30) rfl (el_o rfl) rfl rfl (by rw [← hw293]; exact (e_up_ne _ _ (Or.inl (by omega))).trans rfl) (by omega) ?_
                                refine e_Ok.run (t' := (139, [(6, (0, p4)), (0, (1, 275)), (1, (0, p1)), (2, (0, p2)), (3, (0, p3)), (4, (0, p4)), (5, (0, p5))], [(0, p2), (0, w 275 30), (1, 301)], w293)) 1 rfl ?_
                                refine e_Ok.ast rfl (el_o rfl) rfl rfl (by omega) ?_
                                generalize hw296 : e_up w293 301 (w 275 30) p2 = w296
                                have f297 : e_fr (mF 30 300 306) w w296 := e_fr.up f294 hw296 (by unfold mF; omega)
                                have hT298 : e_Has mTy w296 := e_Has.upr hT295 hw296 rfl (by omega)
                                refine e_Ok.run (t' := (141, [(6, (0, p4)), (0, (1, 275)), (1, (0, p1)), (2, (0, p2)), (3, (0, p3)), (4, (0, p4)), (5, (0, p5))], [(1, 275)], w296)) 1 rfl ?_
                                refine e_Ok.getr (z := 302) rfl (el_o rfl) rfl rfl (by rw [← hw296]; exact (e_up_ne _ _ (Or.inl (by omega))).trans (by rw [← hw293]; exact (e_up_ne _ _ (Or.inl (by omega))).trans (e_Has.eq hT rfl))) (by omega) ?_
                                refine e_Ok.run (t' := (145, [(6, (0, p4)), (0, (1, 275)), (1, (0, p1)), (2, (0, p2)), (3, (0, p3)), (4, (0, p4)), (5, (0, p5))], [(1, 275), (1, 302)], w296)) 1 rfl ?_
                                refine e_Ok.getf (z := w 275 30) rfl (el_o rfl) rfl rfl (by rw [← hw296]; exact (e_up_ne _ _ (Or.inl (by omega))).trans (by rw [← hw293]; exact (e_up_ne _ _ (Or.inl (by omega))).trans rfl)) (by omega) ?_
                                refine e_Ok.run (t' := (149, [(6, (0, p4)), (0, (1, 275)), (1, (0, p1)), (2, (0, p2)), (3, (0, p3)), (4, (0, p4)), (5, (0, p5))], [(0, p3), (0, w 275 30), (1, 302)], w296)) 1 rfl ?_
                                refine e_Ok.ast rfl (el_o rfl) rfl rfl (by omega) ?_
                                generalize hw299 : e_up w296 302 (w 275 30) p3 = w299
                                have f300 : e_fr (mF 30 300 306) w w299 := e_fr.up f297 hw299 (by unfold mF; omega)
                                have hT301 : e_Has mTy w299 := e_Has.upr hT298 hw299 rfl (by omega)
                                refine e_Ok.run (t' := (151, [(6, (0, p4)), (0, (1, 275)), (1, (0, p1)), (2, (0, p2)), (3, (0, p3)), (4, (0, p4)), (5, (0, p5))], [(1, 275)], w299)) 1 rfl ?_
                                refine e_Ok.getr (z := 303) rfl (el_o rfl) rfl rfl (by rw [← hw299]; exact (e_up_ne _ _ (Or.inl (by omega))).trans (by rw [← hw296]; exact (e_up_ne _ _ (Or.inl (by omega))).trans (by rw [← hw293]; exact (e_up_ne _ _ (Or.inl (by omega))).trans (e_Has.eq hT rfl)))) (by omega) ?_
                                refine e_Ok.run (t' := (155, [(6, (0, p4)), (0, (1, 275)), (1, (0, p1)), (2, (0, p2)), (3, (0, p3)), (4, (0, p4)), (5, (0, p5))], [(1, 275), (1, 303)], w299)) 1 rfl ?_
                                refine e_Ok.getf (z := w 275 30) rfl (el_o rfl) rfl rfl (by rw [← hw299]; exact (e_up_ne _ _ (Or.inl (by omega))).trans (by rw [← hw296]; exact (e_up_ne _ _ (Or.inl (by omega))).trans (by rw [← hw293]; exact (e_up_ne _ _ (Or.inl (by omega))).trans rfl))) (by omega) ?_
                                refine e_Ok.run (t' := (160, [(6, (0, p4)), (0, (1, 275)), (1, (0, p1)), (2, (0, p2)), (3, (0, p3)), (4, (0, p4)), (5, (0, p5))], [(0, p4), (0, w 275 30), (1, 303)], w299)) 1 rfl ?_
                                refine e_Ok.ast rfl (el_o rfl) rfl rfl (by omega) ?_
                                generalize hw302 : e_up w299 303 (w 275 30) p4 = w302
                                have f303 : e_fr (mF 30 300 306) w w302 := e_fr.up f300 hw302 (by unfold mF; omega)
                                have hT304 : e_Has mTy w302 := e_Has.upr hT301 hw302 rfl (by omega)
                                refine e_Ok.run (t' := (162, [(6, (0, p4)), (0, (1, 275)), (1, (0, p1)), (2, (0, p2)), (3, (0, p3)), (4, (0, p4)), (5, (0, p5))], [(1, 275)], w302)) 1 rfl ?_
                                refine e_Ok.getr (z := 304) rfl (el_o rfl) rfl rfl (by rw [← hw302]; exact (e_up_ne _ _ (Or.inl (by omega))).trans (by rw [← hw299]; exact (e_up_ne _ _ (Or.inl (by omega))).trans (by rw [← hw296]; exact (e_up_ne _ _ (Or.inl (by omega))).trans (by rw [← hw293]; exact (e_up_ne _ _ (Or.inl (by omega))).trans (e_Has.eq hT rfl))))) (by omega) ?_
                                refine e_Ok.run (t' := (166, [(6, (0, p4)), (0, (1, 275)), (1, (0, p1)), (2, (0, p2)), (3, (0, p3)), (4, (0, p4)), (5, (0, p5))], [(1, 275), (1, 304)], w302)) 1 rfl ?_
                                refine e_Ok.getf (z := w 275 30) rfl (el_o rfl) rfl rfl (by rw [← hw302]; exact (e_up_ne _ _ (Or.inl (by omega))).trans (by rw [← hw299]; exact (e_up_ne _ _ (Or.inl (by omega))).trans (by rw [← hw296]; exact (e_up_ne _ _ (Or.inl (by omega))).trans (by rw [← hw293]; exact (e_up_ne _ _ (Or.inl (by omega))).trans rfl)))) (by omega) ?_
                                refine e_Ok.run (t' := (170, [(6, (0, p4)), (0, (1, 275)), (1, (0, p1)), (2, (0, p2)), (3, (0, p3)), (4, (0, p4)), (5, (0, p5))], [(0, 0), (0, w 275 30), (1, 304)], w302)) 1 rfl ?_
                                refine e_Ok.ast rfl (el_o rfl) rfl rfl (by omega) ?_
                                generalize hw305 : e_up w302 304 (w 275 30) 0 = w305
                                have f306 : e_fr (mF 30 300 306) w w305 := e_fr.up f303 hw305 (by unfold mF; omega)
                                have hT307 : e_Has mTy w305 := e_Has.upr hT304 hw305 rfl (by omega)
                                refine e_Ok.run (t' := (172, [(6, (0, p4)), (0, (1, 275)), (1, (0, p1)), (2, (0, p2)), (3, (0, p3)), (4, (0, p4)), (5, (0, p5))], [(1, 275)], w305)) 1 rfl ?_
                                refine e_Ok.getr (z := 306) rfl (el_o rfl) rfl rfl (by rw [← hw305]; exact (e_up_ne _ _ (Or.inl (by omega))).trans (by rw [← hw302]; exact (e_up_ne _ _ (Or.inl (by omega))).trans (by rw [← hw299]; exact (e_up_ne _ _ (Or.inl (by omega))).trans (by rw [← hw296]; exact (e_up_ne _ _ (Or.inl (by omega))).trans (by rw [← hw293]; exact (e_up_ne _ _ (Or.inl (by omega))).trans (e_Has.eq hT rfl)))))) (by omega) ?_
                                refine e_Ok.run (t' := (176, [(6, (0, p4)), (0, (1, 275)), (1, (0, p1)), (2, (0, p2)), (3, (0, p3)), (4, (0, p4)), (5, (0, p5))], [(1, 275), (1, 306)], w305)) 1 rfl ?_
                                refine e_Ok.getf (z := w 275 30) rfl (el_o rfl) rfl rfl (by rw [← hw305]; exact (e_up_ne _ _ (Or.inl (by omega))).trans (by rw [← hw302]; exact (e_up_ne _ _ (Or.inl (by omega))).trans (by rw [← hw299]; exact (e_up_ne _ _ (Or.inl (by omega))).trans (by rw [← hw296]; exact (e_up_ne _ _ (Or.inl (by omega))).trans (by rw [← hw293]; exact (e_up_ne _ _ (Or.inl (by omega))).trans rfl))))) (by omega) ?_
                                refine e_Ok.run (t' := (180, [(6, (0, p4)), (0, (1, 275)), (1, (0, p1)), (2, (0, p2)), (3, (0, p3)), (4, (0, p4)), (5, (0, p5))], [(0, (-1)), (0, w 275 30), (1, 306)], w305)) 1 rfl ?_
                                refine e_Ok.ast rfl (el_o rfl) rfl rfl (by omega) ?_
                                generalize hw308 : e_up w305 306 (w 275 30) (-1) = w308
                                have f309 : e_fr (mF 30 300 306) w w308 := e_fr.up f306 hw308 (by unfold mF; omega)
                                have hT310 : e_Has mTy w308 := e_Has.upr hT307 hw308 rfl (by omega)
                                refine e_Ok.run (t' := (182, [(6, (0, p4)), (0, (1, 275)), (1, (0, p1)), (2, (0, p2)), (3, (0, p3)), (4, (0, p4)), (5, (0, p5))], [(1, 275)], w308)) 1 rfl ?_
                                refine e_Ok.getr (z := 305) rfl (el_o rfl) rfl rfl (by rw [← hw308]; exact (e_up_ne _ _ (Or.inl (by omega))).trans (by rw [← hw305]; exact (e_up_ne _ _ (Or.inl (by omega))).trans (by rw [← hw302]; exact (e_up_ne _ _ (Or.inl (by omega))).trans (by rw [← hw299]; exact (e_up_ne _ _ (Or.inl (by omega))).trans (by rw [← hw296]; exact (e_up_ne _ _ (Or.inl (by omega))).trans (by rw [← hw293]; exact (e_up_ne _ _ (Or.inl (by omega))).trans (e_Has.eq hT rfl))))))) (by omega) ?_
                                refine e_Ok.run (t' := (186, [(6, (0, p4)), (0, (1, 275)), (1, (0, p1)), (2, (0, p2)), (3, (0, p3)), (4, (0, p4)), (5, (0, p5))], [(1, 275), (1, 305)], w308)) 1 rfl ?_
                                refine e_Ok.getf (z := w 275 30) rfl (el_o rfl) rfl rfl (by rw [← hw308]; exact (e_up_ne _ _ (Or.inl (by omega))).trans (by rw [← hw305]; exact (e_up_ne _ _ (Or.inl (by omega))).trans (by rw [← hw302]; exact (e_up_ne _ _ (Or.inl (by omega))).trans (by rw [← hw299]; exact (e_up_ne _ _ (Or.inl (by omega))).trans (by rw [← hw296]; exact (e_up_ne _ _ (Or.inl (by omega))).trans (by rw [← hw293]; exact (e_up_ne _ _ (Or.inl (by omega))).trans rfl)))))) (by omega) ?_
                                refine e_Ok.run (t' := (191, [(6, (0, p4)), (0, (1, 275)), (1, (0, p1)), (2, (0, p2)), (3, (0, p3)), (4, (0, p4)), (5, (0, p5))], [(0, p5), (0, w 275 30), (1, 305)], w308)) 1 rfl ?_
                                refine e_Ok.ast rfl (el_o rfl) rfl rfl (by omega) ?_
                                generalize hw311 : e_up w308 305 (w 275 30) p5 = w311
                                have f312 : e_fr (mF 30 300 306) w w311 := e_fr.up f309 hw311 (by unfold mF; omega)
                                have hT313 : e_Has mTy w311 := e_Has.upr hT310 hw311 rfl (by omega)
                                refine e_Ok.run (t' := (194, [(6, (0, p4)), (0, (1, 275)), (1, (0, p1)), (2, (0, p2)), (3, (0, p3)), (4, (0, p4)), (5, (0, p5))], [(1, 275), (1, 275)], w311)) 2 rfl ?_
                                refine e_Ok.getf (z := w 275 30) rfl (el_o rfl) rfl rfl (by rw [← hw311]; exact (e_up_ne _ _ (Or.inl (by omega))).trans (by rw [← hw308]; exact (e_up_ne _ _ (Or.inl (by omega))).trans (by rw [← hw305]; exact (e_up_ne _ _ (Or.inl (by omega))).trans (by rw [← hw302]; exact (e_up_ne _ _ (Or.inl (by omega))).trans (by rw [← hw299]; exact (e_up_ne _ _ (Or.inl (by omega))).trans (by rw [← hw296]; exact (e_up_ne _ _ (Or.inl (by omega))).trans (by rw [← hw293]; exact (e_up_ne _ _ (Or.inl (by omega))).trans rfl))))))) (by omega) ?_
                                refine e_Ok.run (t' := (198, [(6, (0, p4)), (0, (1, 275)), (1, (0, p1)), (2, (0, p2)), (3, (0, p3)), (4, (0, p4)), (5, (0, p5))], [(0, 1), (0, w 275 30), (1, 275)], w311)) 1 rfl ?_
                                refine e_Ok.add (z := w 275 30 + 1) rfl (by omega) (by omega) ?_
                                refine e_Ok.putf rfl (el_o rfl) rfl rfl ?_
                                generalize hw314 : e_up w311 275 30 (w 275 30 + 1) = w314
                                have f315 : e_fr (mF 30 300 306) w w314 := e_fr.up f312 hw314 (by unfold mF; omega)
                                have hT316 : e_Has mTy w314 := e_Has.upr hT313 hw314 rfl (by omega)
                                refine e_Ok.run (t' := (203, [(6, (0, p4)), (0, (1, 275)), (1, (0, p1)), (2, (0, p2)), (3, (0, p3)), (4, (0, p4)), (5, (0, p5))], [(1, 275)], w314)) 1 rfl ?_
                                refine e_Ok.getf (z := w 275 30 + 1) rfl (el_o rfl) rfl rfl (by rw [← hw314]; exact e_up_eq _ _ _ _) (by omega) ?_
                                refine e_Ok.run (t' := (207, [(6, (0, p4)), (0, (1, 275)), (1, (0, p1)), (2, (0, p2)), (3, (0, p3)), (4, (0, p4)), (5, (0, p5))], [(0, 1), (0, w 275 30 + 1)], w314)) 1 rfl ?_
                                refine e_Ok.sub' (z := w 275 30) rfl (by omega) (by omega) ?_
                                refine e_Ok.rets rfl rfl ?_
                                exact ⟨_, rfl, f315, hT316, trivial⟩
                              · replace h292 : (w 275 30 : Int) = 4 := by have q : ¬ ((w 275 30 : Int) ≠ 4) := h292; omega
                                refine e_Ok.run (t' := (119, [(6, (0, p4)), (0, (1, 275)), (1, (0, p1)), (2, (0, p2)), (3, (0, p3)), (4, (0, p4)), (5, (0, p5))], [(0, (-3))], w)) 1 rfl ?_
                                refine e_Ok.rets rfl rfl ?_
                                exact ⟨_, rfl, (e_fr.refl w), hT, trivial⟩
                            · replace h290 : (w 275 3 : Int) ≠ 0 := by have q : ¬ ((w 275 3 : Int) = 0) := h290; omega
                              refine e_Ok.run (t' := (108, [(6, (0, p4)), (0, (1, 275)), (1, (0, p1)), (2, (0, p2)), (3, (0, p3)), (4, (0, p4)), (5, (0, p5))], [(0, (-2))], w)) 1 rfl ?_
                              refine e_Ok.rets rfl rfl ?_
                              exact ⟨_, rfl, (e_fr.refl w), hT, trivial⟩
                          · replace h288 : (1 : Int) = 0 := by have q : ¬ ((1 : Int) ≠ 0) := h288; omega
                            exfalso; omega
                        · show e_Ok 20 elay ecode eI (d + 1) 286 (94, [(6, (0, p4)), (0, (1, 275)), (1, (0, p1)), (2, (0, p2)), (3, (0, p3)), (4, (0, p4)), (5, (0, p5))], [(0, 0)], w) _
                          refine e_Ok.if1 rfl (fun h317 => ?_) (fun h317 => ?_)
                          · replace h317 : (0 : Int) ≠ 0 := h317
                            exfalso; omega
                          · replace h317 : (0 : Int) = 0 := by have q : ¬ ((0 : Int) ≠ 0) := h317; omega
                            refine e_Ok.run (t' := (98, [(6, (0, p4)), (0, (1, 275)), (1, (0, p1)), (2, (0, p2)), (3, (0, p3)), (4, (0, p4)), (5, (0, p5))], [(0, (-1))], w)) 1 rfl ?_
                            refine e_Ok.rets rfl rfl ?_
                            exact ⟨_, rfl, (e_fr.refl w), hT, trivial⟩
                · replace h24 : (1 : Int) = 0 := by have q : ¬ ((1 : Int) ≠ 0) := h24; omega
                  exfalso; omega
              · show e_Ok 20 elay ecode eI (d + 1) 286 (43, [(0, (1, 275)), (1, (0, p1)), (2, (0, p2)), (3, (0, p3)), (4, (0, p4)), (5, (0, p5))], [(0, 0)], w) _
                refine e_Ok.if1 rfl (fun h318 => ?_) (fun h318 => ?_)
                · replace h318 : (0 : Int) ≠ 0 := h318
                  exfalso; omega
                · replace h318 : (0 : Int) = 0 := by have q : ¬ ((0 : Int) ≠ 0) := h318; omega
                  refine e_Ok.run (t' := (47, [(0, (1, 275)), (1, (0, p1)), (2, (0, p2)), (3, (0, p3)), (4, (0, p4)), (5, (0, p5))], [(0, (-1))], w)) 1 rfl ?_
                  refine e_Ok.rets rfl rfl ?_
                  exact ⟨_, rfl, (e_fr.refl w), hT, trivial⟩
          · show e_Ok 20 elay ecode eI (d + 1) 286 (30, [(0, (1, 275)), (1, (0, p1)), (2, (0, p2)), (3, (0, p3)), (4, (0, p4)), (5, (0, p5))], [(0, 0)], w) _
            refine e_Ok.if1 rfl (fun h319 => ?_) (fun h319 => ?_)
            · replace h319 : (0 : Int) = 0 := h319
              refine e_Ok.run (t' := (47, [(0, (1, 275)), (1, (0, p1)), (2, (0, p2)), (3, (0, p3)), (4, (0, p4)), (5, (0, p5))], [(0, (-1))], w)) 1 rfl ?_
              refine e_Ok.rets rfl rfl ?_
              exact ⟨_, rfl, (e_fr.refl w), hT, trivial⟩
            · replace h319 : (0 : Int) ≠ 0 := by have q : ¬ ((0 : Int) = 0) := h319; omega
              exfalso; omega
      · show e_Ok 20 elay ecode eI (d + 1) 286 (17, [(0, (1, 275)), (1, (0, p1)), (2, (0, p2)), (3, (0, p3)), (4, (0, p4)), (5, (0, p5))], [(0, 0)], w) _
        refine e_Ok.if1 rfl (fun h320 => ?_) (fun h320 => ?_)
        · replace h320 : (0 : Int) = 0 := h320
          refine e_Ok.run (t' := (47, [(0, (1, 275)), (1, (0, p1)), (2, (0, p2)), (3, (0, p3)), (4, (0, p4)), (5, (0, p5))], [(0, (-1))], w)) 1 rfl ?_
          refine e_Ok.rets rfl rfl ?_
          exact ⟨_, rfl, (e_fr.refl w), hT, trivial⟩
        · replace h320 : (0 : Int) ≠ 0 := by have q : ¬ ((0 : Int) = 0) := h320; omega
          exfalso; omega
  · show e_Ok 20 elay ecode eI (d + 1) 286 (5, [(0, (1, 275)), (1, (0, p1)), (2, (0, p2)), (3, (0, p3)), (4, (0, p4)), (5, (0, p5))], [(0, 0)], w) _
    refine e_Ok.if1 rfl (fun h321 => ?_) (fun h321 => ?_)
    · replace h321 : (0 : Int) = 0 := h321
      refine e_Ok.run (t' := (47, [(0, (1, 275)), (1, (0, p1)), (2, (0, p2)), (3, (0, p3)), (4, (0, p4)), (5, (0, p5))], [(0, (-1))], w)) 1 rfl ?_
      refine e_Ok.rets rfl rfl ?_
      exact ⟨_, rfl, (e_fr.refl w), hT, trivial⟩
    · replace h321 : (0 : Int) ≠ 0 := by have q : ¬ ((0 : Int) = 0) := h321; omega
      exfalso; omega
theorem c_287 {d : Nat} (hd : 23 ≤ d) {w : eW} (hT : e_Has mTy w) {p1 p2 : Int} (g1 : (-2147483648) ≤ p1 ∧ p1 ≤ 2147483647) (g2 : (-2147483648) ≤ p2 ∧ p2 ≤ 2147483647) : e_Ok 20 elay ecode eI d 287 (0, [(0, (1, 275)), (1, (0, p1)), (2, (0, p2))], [], w) (fun r w' => ∃ z : Int, r = [(0, z)] ∧ e_fr (mF (-1) 304 304) w w' ∧ e_Has mTy w' ∧ True) := by
  obtain ⟨d, rfl⟩ : ∃ e, d = e + 1 := ⟨d - 1, by omega⟩
  refine e_Ok.run (t' := (4, [(0, (1, 275)), (1, (0, p1)), (2, (0, p2))], [(1, 275), (4, 0), (4, p1)], w)) 4 rfl ?_
  have h1 := (e_Has.get hT (c := 275) (k := 30) (lo := 0) (hi := 4) rfl (by decide))
  refine e_Ok.getf (z := w 275 30) rfl (el_o rfl) rfl rfl rfl (by omega) ?_
  refine e_Ok.run (t' := (8, [(0, (1, 275)), (1, (0, p1)), (2, (0, p2))], [(0, 1), (0, w 275 30), (4, 0), (4, p1)], w)) 1 rfl ?_
  refine e_Ok.sub' (z := w 275 30 - 1) rfl (by omega) (by omega) ?_
  refine e_Ok.run (t' := (10, [(0, (1, 275)), (1, (0, p1)), (2, (0, p2))], [(4, w 275 30 - 1), (4, 0), (4, p1)], w)) 1 rfl ?_
  refine e_Ok.callS rfl (by omega) rfl rfl (c_266) (fun r2 w3 h4 => ?_)
  obtain ⟨z5, rfl, rfl, q6⟩ := h4
  obtain ⟨rfl, q6⟩ | ⟨rfl, q6⟩ := q6
  · show e_Ok 20 elay ecode eI (d + 1) 287 (13, [(0, (1, 275)), (1, (0, p1)), (2, (0, p2))], [(0, 1)], w) _
    refine e_Ok.if1 rfl (fun h7 => ?_) (fun h7 => ?_)
    · replace h7 : (1 : Int) = 0 := h7
      exfalso; omega
    · replace h7 : (1 : Int) ≠ 0 := by have q : ¬ ((1 : Int) = 0) := h7; omega
      refine e_Ok.run (t' := (22, [(0, (1, 275)), (1, (0, p1)), (2, (0, p2))], [(4, 100), (4, 0), (4, p2)], w)) 4 rfl ?_
      refine e_Ok.callS rfl (by omega) rfl rfl (c_266) (fun r8 w9 h10 => ?_)
      obtain ⟨z11, rfl, rfl, q12⟩ := h10
      obtain ⟨rfl, q12⟩ | ⟨rfl, q12⟩ := q12
      · show e_Ok 20 elay ecode eI (d + 1) 287 (25, [(0, (1, 275)), (1, (0, p1)), (2, (0, p2))], [(0, 1)], w) _
        refine e_Ok.if1 rfl (fun h13 => ?_) (fun h13 => ?_)
        · replace h13 : (1 : Int) ≠ 0 := h13
          refine e_Ok.run (t' := (31, [(0, (1, 275)), (1, (0, p1)), (2, (0, p2))], [(1, 275)], w)) 1 rfl ?_
          have h14 := (e_Has.get hT (c := 275) (k := 3) (lo := 0) (hi := 1) rfl (by decide))
          refine e_Ok.getf (z := w 275 3) rfl (el_o rfl) rfl rfl rfl (by omega) ?_
          refine e_Ok.if1 rfl (fun h15 => ?_) (fun h15 => ?_)
          · replace h15 : (w 275 3 : Int) = 0 := h15
            refine e_Ok.run (t' := (41, [(0, (1, 275)), (1, (0, p1)), (2, (0, p2))], [(1, 275)], w)) 1 rfl ?_
            refine e_Ok.getr (z := 304) rfl (el_o rfl) rfl rfl (e_Has.eq hT rfl) (by omega) ?_
            refine e_Ok.run (t' := (45, [(0, (1, 275)), (1, (0, p1)), (2, (0, p2))], [(0, p1), (1, 304)], w)) 1 rfl ?_
            have h16 := (e_Has.get hT (c := 304) (k := p1) (lo := 0) (hi := 100) rfl (by decide))
            refine e_Ok.ald (z := w 304 p1) rfl (el_o rfl) rfl (by omega) rfl (by omega) ?_
            refine e_Ok.run (t' := (48, [(3, (0, w 304 p1)), (0, (1, 275)), (1, (0, p1)), (2, (0, p2))], [(1, 275)], w)) 2 rfl ?_
            refine e_Ok.getr (z := 304) rfl (el_o rfl) rfl rfl (e_Has.eq hT rfl) (by omega) ?_
            refine e_Ok.run (t' := (53, [(3, (0, w 304 p1)), (0, (1, 275)), (1, (0, p1)), (2, (0, p2))], [(0, p2), (0, p1), (1, 304)], w)) 2 rfl ?_
            refine e_Ok.ast rfl (el_o rfl) rfl rfl (by omega) ?_
            generalize hw17 : e_up w 304 p1 p2 = w17
            have f18 : e_fr (mF (-1) 304 304) w w17 := e_fr.up (e_fr.refl w) hw17 (by unfold mF; omega)
            have hT19 : e_Has mTy w17 := e_Has.upr hT hw17 rfl (by omega)
            refine e_Ok.run (t' := (55, [(3, (0, w 304 p1)), (0, (1, 275)), (1, (0, p1)), (2, (0, p2))], [(0, w 304 p1)], w17)) 1 rfl ?_
            refine e_Ok.rets rfl rfl ?_
            exact ⟨_, rfl, f18, hT19, trivial⟩
          · replace h15 : (w 275 3 : Int) ≠ 0 := by have q : ¬ ((w 275 3 : Int) = 0) := h15; omega
            refine e_Ok.run (t' := (39, [(0, (1, 275)), (1, (0, p1)), (2, (0, p2))], [(0, (-2))], w)) 1 rfl ?_
            refine e_Ok.rets rfl rfl ?_
            exact ⟨_, rfl, (e_fr.refl w), hT, trivial⟩
        · replace h13 : (1 : Int) = 0 := by have q : ¬ ((1 : Int) ≠ 0) := h13; omega
          exfalso; omega
      · show e_Ok 20 elay ecode eI (d + 1) 287 (25, [(0, (1, 275)), (1, (0, p1)), (2, (0, p2))], [(0, 0)], w) _
        refine e_Ok.if1 rfl (fun h20 => ?_) (fun h20 => ?_)
        · replace h20 : (0 : Int) ≠ 0 := h20
          exfalso; omega
        · replace h20 : (0 : Int) = 0 := by have q : ¬ ((0 : Int) ≠ 0) := h20; omega
          refine e_Ok.run (t' := (29, [(0, (1, 275)), (1, (0, p1)), (2, (0, p2))], [(0, (-1))], w)) 1 rfl ?_
          refine e_Ok.rets rfl rfl ?_
          exact ⟨_, rfl, (e_fr.refl w), hT, trivial⟩
  · show e_Ok 20 elay ecode eI (d + 1) 287 (13, [(0, (1, 275)), (1, (0, p1)), (2, (0, p2))], [(0, 0)], w) _
    refine e_Ok.if1 rfl (fun h21 => ?_) (fun h21 => ?_)
    · replace h21 : (0 : Int) = 0 := h21
      refine e_Ok.run (t' := (29, [(0, (1, 275)), (1, (0, p1)), (2, (0, p2))], [(0, (-1))], w)) 1 rfl ?_
      refine e_Ok.rets rfl rfl ?_
      exact ⟨_, rfl, (e_fr.refl w), hT, trivial⟩
    · replace h21 : (0 : Int) ≠ 0 := by have q : ¬ ((0 : Int) = 0) := h21; omega
      exfalso; omega
theorem c_288 {d : Nat} (hd : 23 ≤ d) {w : eW} (hT : e_Has mTy w) {p1 p2 p3 p4 : Int} (g1 : (-2147483648) ≤ p1 ∧ p1 ≤ 2147483647) (g2 : (-2147483648) ≤ p2 ∧ p2 ≤ 2147483647) (g3 : (-2147483648) ≤ p3 ∧ p3 ≤ 2147483647) (g4 : (-2147483648) ≤ p4 ∧ p4 ≤ 2147483647) : e_Ok 20 elay ecode eI d 288 (0, [(0, (1, 275)), (1, (0, p1)), (2, (0, p2)), (3, (0, p3)), (4, (0, p4))], [], w) (fun r w' => ∃ z : Int, r = [(0, z)] ∧ e_fr (mF (-1) 306 308) w w' ∧ e_Has mTy w' ∧ True) := by
  obtain ⟨d, rfl⟩ : ∃ e, d = e + 1 := ⟨d - 1, by omega⟩
  refine e_Ok.run (t' := (4, [(0, (1, 275)), (1, (0, p1)), (2, (0, p2)), (3, (0, p3)), (4, (0, p4))], [(1, 275), (4, 0), (4, p1)], w)) 4 rfl ?_
  have h1 := (e_Has.get hT (c := 275) (k := 30) (lo := 0) (hi := 4) rfl (by decide))
  refine e_Ok.getf (z := w 275 30) rfl (el_o rfl) rfl rfl rfl (by omega) ?_
  refine e_Ok.run (t' := (8, [(0, (1, 275)), (1, (0, p1)), (2, (0, p2)), (3, (0, p3)), (4, (0, p4))], [(0, 1), (0, w 275 30), (4, 0), (4, p1)], w)) 1 rfl ?_
  refine e_Ok.sub' (z := w 275 30 - 1) rfl (by omega) (by omega) ?_
  refine e_Ok.run (t' := (10, [(0, (1, 275)), (1, (0, p1)), (2, (0, p2)), (3, (0, p3)), (4, (0, p4))], [(4, w 275 30 - 1), (4, 0), (4, p1)], w)) 1 rfl ?_
  refine e_Ok.callS rfl (by omega) rfl rfl (c_266) (fun r2 w3 h4 => ?_)
  obtain ⟨z5, rfl, rfl, q6⟩ := h4
  obtain ⟨rfl, q6⟩ | ⟨rfl, q6⟩ := q6
  · show e_Ok 20 elay ecode eI (d + 1) 288 (13, [(0, (1, 275)), (1, (0, p1)), (2, (0, p2)), (3, (0, p3)), (4, (0, p4))], [(0, 1)], w) _
    refine e_Ok.if1 rfl (fun h7 => ?_) (fun h7 => ?_)
    · replace h7 : (1 : Int) = 0 := h7
      exfalso; omega
    · replace h7 : (1 : Int) ≠ 0 := by have q : ¬ ((1 : Int) = 0) := h7; omega
      refine e_Ok.run (t' := (22, [(0, (1, 275)), (1, (0, p1)), (2, (0, p2)), (3, (0, p3)), (4, (0, p4))], [(4, 63), (4, 0), (4, p2)], w)) 4 rfl ?_
      refine e_Ok.callS rfl (by omega) rfl rfl (c_266) (fun r8 w9 h10 => ?_)
      obtain ⟨z11, rfl, rfl, q12⟩ := h10
      obtain ⟨rfl, q12⟩ | ⟨rfl, q12⟩ := q12
      · show e_Ok 20 elay ecode eI (d + 1) 288 (25, [(0, (1, 275)), (1, (0, p1)), (2, (0, p2)), (3, (0, p3)), (4, (0, p4))], [(0, 1)], w) _
        refine e_Ok.if1 rfl (fun h13 => ?_) (fun h13 => ?_)
        · replace h13 : (1 : Int) = 0 := h13
          exfalso; omega
        · replace h13 : (1 : Int) ≠ 0 := by have q : ¬ ((1 : Int) = 0) := h13; omega
          refine e_Ok.run (t' := (29, [(0, (1, 275)), (1, (0, p1)), (2, (0, p2)), (3, (0, p3)), (4, (0, p4))], [(0, p3)], w)) 1 rfl ?_
          refine e_Ok.if1 rfl (fun h14 => ?_) (fun h14 => ?_)
          · replace h14 : (p3 : Int) < 0 := h14
            refine e_Ok.run (t' := (39, [(0, (1, 275)), (1, (0, p1)), (2, (0, p2)), (3, (0, p3)), (4, (0, p4))], [(0, (-1))], w)) 1 rfl ?_
            refine e_Ok.rets rfl rfl ?_
            exact ⟨_, rfl, (e_fr.refl w), hT, trivial⟩
          · replace h14 : (p3 : Int) ≥ 0 := by have q : ¬ ((p3 : Int) < 0) := h14; omega
            refine e_Ok.run (t' := (35, [(0, (1, 275)), (1, (0, p1)), (2, (0, p2)), (3, (0, p3)), (4, (0, p4))], [(0, p3), (0, p4)], w)) 2 rfl ?_
            refine e_Ok.if2 rfl (fun h15 => ?_) (fun h15 => ?_)
            · replace h15 : (p4 : Int) ≥ p3 := h15
              refine e_Ok.run (t' := (41, [(0, (1, 275)), (1, (0, p1)), (2, (0, p2)), (3, (0, p3)), (4, (0, p4))], [(1, 275)], w)) 1 rfl ?_
              have h16 := (e_Has.get hT (c := 275) (k := 3) (lo := 0) (hi := 1) rfl (by decide))
              refine e_Ok.getf (z := w 275 3) rfl (el_o rfl) rfl rfl rfl (by omega) ?_
              refine e_Ok.if1 rfl (fun h17 => ?_) (fun h17 => ?_)
              · replace h17 : (w 275 3 : Int) = 0 := h17
                refine e_Ok.run (t' := (51, [(0, (1, 275)), (1, (0, p1)), (2, (0, p2)), (3, (0, p3)), (4, (0, p4))], [(1, 275)], w)) 1 rfl ?_
                refine e_Ok.getr (z := 306) rfl (el_o rfl) rfl rfl (e_Has.eq hT rfl) (by omega) ?_
                refine e_Ok.run (t' := (56, [(0, (1, 275)), (1, (0, p1)), (2, (0, p2)), (3, (0, p3)), (4, (0, p4))], [(0, p2), (0, p1), (1, 306)], w)) 2 rfl ?_
                refine e_Ok.ast rfl (el_o rfl) rfl rfl (by omega) ?_
                generalize hw18 : e_up w 306 p1 p2 = w18
                have f19 : e_fr (mF (-1) 306 308) w w18 := e_fr.up (e_fr.refl w) hw18 (by unfold mF; omega)
                have hT20 : e_Has mTy w18 := e_Has.upr hT hw18 rfl (by omega)
                refine e_Ok.run (t' := (58, [(0, (1, 275)), (1, (0, p1)), (2, (0, p2)), (3, (0, p3)), (4, (0, p4))], [(1, 275)], w18)) 1 rfl ?_
                refine e_Ok.getr (z := 307) rfl (el_o rfl) rfl rfl (by rw [← hw18]; exact (e_up_ne _ _ (Or.inl (by omega))).trans (e_Has.eq hT rfl)) (by omega) ?_
                refine e_Ok.run (t' := (63, [(0, (1, 275)), (1, (0, p1)), (2, (0, p2)), (3, (0, p3)), (4, (0, p4))], [(0, p3), (0, p1), (1, 307)], w18)) 2 rfl ?_
                refine e_Ok.ast rfl (el_o rfl) rfl rfl (by omega) ?_
                generalize hw21 : e_up w18 307 p1 p3 = w21
                have f22 : e_fr (mF (-1) 306 308) w w21 := e_fr.up f19 hw21 (by unfold mF; omega)
                have hT23 : e_Has mTy w21 := e_Has.upr hT20 hw21 rfl (by omega)
                refine e_Ok.run (t' := (65, [(0, (1, 275)), (1, (0, p1)), (2, (0, p2)), (3, (0, p3)), (4, (0, p4))], [(1, 275)], w21)) 1 rfl ?_
                refine e_Ok.getr (z := 308) rfl (el_o rfl) rfl rfl (by rw [← hw21]; exact (e_up_ne _ _ (Or.inl (by omega))).trans (by rw [← hw18]; exact (e_up_ne _ _ (Or.inl (by omega))).trans (e_Has.eq hT rfl))) (by omega) ?_
                refine e_Ok.run (t' := (71, [(0, (1, 275)), (1, (0, p1)), (2, (0, p2)), (3, (0, p3)), (4, (0, p4))], [(0, p4), (0, p1), (1, 308)], w21)) 2 rfl ?_
                refine e_Ok.ast rfl (el_o rfl) rfl rfl (by omega) ?_
                generalize hw24 : e_up w21 308 p1 p4 = w24
                have f25 : e_fr (mF (-1) 306 308) w w24 := e_fr.up f22 hw24 (by unfold mF; omega)
                have hT26 : e_Has mTy w24 := e_Has.upr hT23 hw24 rfl (by omega)
                refine e_Ok.run (t' := (73, [(0, (1, 275)), (1, (0, p1)), (2, (0, p2)), (3, (0, p3)), (4, (0, p4))], [(0, 0)], w24)) 1 rfl ?_
                refine e_Ok.rets rfl rfl ?_
                exact ⟨_, rfl, f25, hT26, trivial⟩
              · replace h17 : (w 275 3 : Int) ≠ 0 := by have q : ¬ ((w 275 3 : Int) = 0) := h17; omega
                refine e_Ok.run (t' := (49, [(0, (1, 275)), (1, (0, p1)), (2, (0, p2)), (3, (0, p3)), (4, (0, p4))], [(0, (-2))], w)) 1 rfl ?_
                refine e_Ok.rets rfl rfl ?_
                exact ⟨_, rfl, (e_fr.refl w), hT, trivial⟩
            · replace h15 : (p4 : Int) < p3 := by have q : ¬ ((p4 : Int) ≥ p3) := h15; omega
              refine e_Ok.run (t' := (39, [(0, (1, 275)), (1, (0, p1)), (2, (0, p2)), (3, (0, p3)), (4, (0, p4))], [(0, (-1))], w)) 1 rfl ?_
              refine e_Ok.rets rfl rfl ?_
              exact ⟨_, rfl, (e_fr.refl w), hT, trivial⟩
      · show e_Ok 20 elay ecode eI (d + 1) 288 (25, [(0, (1, 275)), (1, (0, p1)), (2, (0, p2)), (3, (0, p3)), (4, (0, p4))], [(0, 0)], w) _
        refine e_Ok.if1 rfl (fun h27 => ?_) (fun h27 => ?_)
        · replace h27 : (0 : Int) = 0 := h27
          refine e_Ok.run (t' := (39, [(0, (1, 275)), (1, (0, p1)), (2, (0, p2)), (3, (0, p3)), (4, (0, p4))], [(0, (-1))], w)) 1 rfl ?_
          refine e_Ok.rets rfl rfl ?_
          exact ⟨_, rfl, (e_fr.refl w), hT, trivial⟩
        · replace h27 : (0 : Int) ≠ 0 := by have q : ¬ ((0 : Int) = 0) := h27; omega
          exfalso; omega
  · show e_Ok 20 elay ecode eI (d + 1) 288 (13, [(0, (1, 275)), (1, (0, p1)), (2, (0, p2)), (3, (0, p3)), (4, (0, p4))], [(0, 0)], w) _
    refine e_Ok.if1 rfl (fun h28 => ?_) (fun h28 => ?_)
    · replace h28 : (0 : Int) = 0 := h28
      refine e_Ok.run (t' := (39, [(0, (1, 275)), (1, (0, p1)), (2, (0, p2)), (3, (0, p3)), (4, (0, p4))], [(0, (-1))], w)) 1 rfl ?_
      refine e_Ok.rets rfl rfl ?_
      exact ⟨_, rfl, (e_fr.refl w), hT, trivial⟩
    · replace h28 : (0 : Int) ≠ 0 := by have q : ¬ ((0 : Int) = 0) := h28; omega
      exfalso; omega
theorem c_291 {d : Nat} (hd : 23 ≤ d) {w : eW} (hT : e_Has mTy w) {p1 p2 p3 p4 p5 : Int} (g1 : (-2147483648) ≤ p1 ∧ p1 ≤ 2147483647) (g2 : (-2147483648) ≤ p2 ∧ p2 ≤ 2147483647) (g3 : (-2147483648) ≤ p3 ∧ p3 ≤ 2147483647) (g4 : (-2147483648) ≤ p4 ∧ p4 ≤ 2147483647) (g5 : (-2147483648) ≤ p5 ∧ p5 ≤ 2147483647) : e_Ok 20 elay ecode eI d 291 (0, [(0, (1, 275)), (1, (0, p1)), (2, (0, p2)), (3, (0, p3)), (4, (0, p4)), (5, (0, p5))], [], w) (fun r w' => ∃ z : Int, r = [(0, z)] ∧ e_fr (mF 42 310 315) w w' ∧ e_Has mTy w' ∧ True) := by
  obtain ⟨d, rfl⟩ : ∃ e, d = e + 1 := ⟨d - 1, by omega⟩
  refine e_Ok.run (t' := (2, [(0, (1, 275)), (1, (0, p1)), (2, (0, p2)), (3, (0, p3)), (4, (0, p4)), (5, (0, p5))], [(0, p1), (1, 275)], w)) 2 rfl ?_
  refine e_Ok.callV rfl (by omega) rfl rfl rfl rfl (c_270 (by omega) hT) (fun r1 w2 h3 => ?_)
  have h4 := e_Has.get hT (c := 275) (k := 10) (lo := 0) (hi := 4) rfl (by decide)
  obtain ⟨z5, rfl, rfl, q6⟩ := h3
  obtain ⟨rfl, q6⟩ | ⟨rfl, q6⟩ := q6
  · show e_Ok 20 elay ecode eI (d + 1) 291 (5, [(0, (1, 275)), (1, (0, p1)), (2, (0, p2)), (3, (0, p3)), (4, (0, p4)), (5, (0, p5))], [(0, 1)], w) _
    refine e_Ok.if1 rfl (fun h7 => ?_) (fun h7 => ?_)
    · replace h7 : (1 : Int) = 0 := h7
      exfalso; omega
    · replace h7 : (1 : Int) ≠ 0 := by have q : ¬ ((1 : Int) = 0) := h7; omega
      refine e_Ok.run (t' := (14, [(0, (1, 275)), (1, (0, p1)), (2, (0, p2)), (3, (0, p3)), (4, (0, p4)), (5, (0, p5))], [(0, p5), (0, p4), (0, p3), (0, p2)], w)) 4 rfl ?_
      refine e_Ok.callS rfl (by omega) rfl rfl (c_273 (by omega) (by omega) (by omega)) (fun r8 w9 h10 => ?_)
      obtain ⟨z11, rfl, rfl, q12⟩ := h10
      obtain ⟨rfl, q12⟩ | ⟨rfl, q12⟩ := q12
      · show e_Ok 20 elay ecode eI (d + 1) 291 (17, [(0, (1, 275)), (1, (0, p1)), (2, (0, p2)), (3, (0, p3)), (4, (0, p4)), (5, (0, p5))], [(0, 1)], w) _
        refine e_Ok.if1 rfl (fun h13 => ?_) (fun h13 => ?_)
        · replace h13 : (1 : Int) ≠ 0 := h13
          refine e_Ok.run (t' := (23, [(0, (1, 275)), (1, (0, p1)), (2, (0, p2)), (3, (0, p3)), (4, (0, p4)), (5, (0, p5))], [(1, 275)], w)) 1 rfl ?_
          have h14 := (e_Has.get hT (c := 275) (k := 3) (lo := 0) (hi := 1) rfl (by decide))
          refine e_Ok.getf (z := w 275 3) rfl (el_o rfl) rfl rfl rfl (by omega) ?_
          refine e_Ok.if1 rfl (fun h15 => ?_) (fun h15 => ?_)
          · replace h15 : (w 275 3 : Int) = 0 := h15
            refine e_Ok.run (t' := (33, [(0, (1, 275)), (1, (0, p1)), (2, (0, p2)), (3, (0, p3)), (4, (0, p4)), (5, (0, p5))], [(1, 275)], w)) 1 rfl ?_
            have h16 := (e_Has.get hT (c := 275) (k := 42) (lo := 0) (hi := 8) rfl (by decide))
            refine e_Ok.getf (z := w 275 42) rfl (el_o rfl) rfl rfl rfl (by omega) ?_
            refine e_Ok.run (t' := (38, [(0, (1, 275)), (1, (0, p1)), (2, (0, p2)), (3, (0, p3)), (4, (0, p4)), (5, (0, p5))], [(0, 8), (0, w 275 42)], w)) 1 rfl ?_
            refine e_Ok.if2 rfl (fun h17 => ?_) (fun h17 => ?_)
            · replace h17 : (w 275 42 : Int) ≠ 8 := h17
              refine e_Ok.run (t' := (45, [(0, (1, 275)), (1, (0, p1)), (2, (0, p2)), (3, (0, p3)), (4, (0, p4)), (5, (0, p5))], [(1, 275)], w)) 1 rfl ?_
              refine e_Ok.getr (z := 310) rfl (el_o rfl) rfl rfl (e_Has.eq hT rfl) (by omega) ?_
              refine e_Ok.run (t' := (49, [(0, (1, 275)), (1, (0, p1)), (2, (0, p2)), (3, (0, p3)), (4, (0, p4)), (5, (0, p5))], [(1, 275), (1, 310)], w)) 1 rfl ?_
              refine e_Ok.getf (z := w 275 42) rfl (el_o rfl) rfl rfl rfl (by omega) ?_
              refine e_Ok.run (t' := (53, [(0, (1, 275)), (1, (0, p1)), (2, (0, p2)), (3, (0, p3)), (4, (0, p4)), (5, (0, p5))], [(0, p1), (0, w 275 42), (1, 310)], w)) 1 rfl ?_
              refine e_Ok.ast rfl (el_o rfl) rfl rfl (by omega) ?_
              generalize hw18 : e_up w 310 (w 275 42) p1 = w18
              have f19 : e_fr (mF 42 310 315) w w18 := e_fr.up (e_fr.refl w) hw18 (by unfold mF; omega)
              have hT20 : e_Has mTy w18 := e_Has.upr hT hw18 rfl (by omega)
              refine e_Ok.run (t' := (55, [(0, (1, 275)), (1, (0, p1)), (2, (0, p2)), (3, (0, p3)), (4, (0, p4)), (5, (0, p5))], [(1, 275)], w18)) 1 rfl ?_
              refine e_Ok.getr (z := 311) rfl (el_o rfl) rfl rfl (by rw [← hw18]; exact (e_up_ne _ _ (Or.inl (by omega))).trans (e_Has.eq hT rfl)) (by omega) ?_
              refine e_Ok.run (t' := (59, [(0, (1, 275)), (1, (0, p1)), (2, (0, p2)), (3, (0, p3)), (4, (0, p4)), (5, (0, p5))], [(1, 275), (1, 311)], w18)) 1 rfl ?_
              refine e_Ok.getf (z := w 275 42) rfl (el_o rfl) rfl rfl (by rw [← hw18]; exact (e_up_ne _ _ (Or.inl (by omega))).trans rfl) (by omega) ?_
              refine e_Ok.run (t' := (63, [(0, (1, 275)), (1, (0, p1)), (2, (0, p2)), (3, (0, p3)), (4, (0, p4)), (5, (0, p5))], [(0, p2), (0, w 275 42), (1, 311)], w18)) 1 rfl ?_
              refine e_Ok.ast rfl (el_o rfl) rfl rfl (by omega) ?_
              generalize hw21 : e_up w18 311 (w 275 42) p2 = w21
              have f22 : e_fr (mF 42 310 315) w w21 := e_fr.up f19 hw21 (by unfold mF; omega)
              have hT23 : e_Has mTy w21 := e_Has.upr hT20 hw21 rfl (by omega)
              refine e_Ok.run (t' := (65, [(0, (1, 275)), (1, (0, p1)), (2, (0, p2)), (3, (0, p3)), (4, (0, p4)), (5, (0, p5))], [(1, 275)], w21)) 1 rfl ?_
              refine e_Ok.getr (z := 312) rfl (el_o rfl) rfl rfl (by rw [← hw21]; exact (e_up_ne _ _ (Or.inl (by omega))).trans (by rw [← hw18]; exact (e_up_ne _ _ (Or.inl (by omega))).trans (e_Has.eq hT rfl))) (by omega) ?_
              refine e_Ok.run (t' := (69, [(0, (1, 275)), (1, (0, p1)), (2, (0, p2)), (3, (0, p3)), (4, (0, p4)), (5, (0, p5))], [(1, 275), (1, 312)], w21)) 1 rfl ?_
              refine e_Ok.getf (z := w 275 42) rfl (el_o rfl) rfl rfl (by rw [← hw21]; exact (e_up_ne _ _ (Or.inl (by omega))).trans (by rw [← hw18]; exact (e_up_ne _ _ (Or.inl (by omega))).trans rfl)) (by omega) ?_
              refine e_Ok.run (t' := (73, [(0, (1, 275)), (1, (0, p1)), (2, (0, p2)), (3, (0, p3)), (4, (0, p4)), (5, (0, p5))], [(0, p3), (0, w 275 42), (1, 312)], w21)) 1 rfl ?_
              refine e_Ok.ast rfl (el_o rfl) rfl rfl (by omega) ?_
              generalize hw24 : e_up w21 312 (w 275 42) p3 = w24
              have f25 : e_fr (mF 42 310 315) w w24 := e_fr.up f22 hw24 (by unfold mF; omega)
              have hT26 : e_Has mTy w24 := e_Has.upr hT23 hw24 rfl (by omega)
              refine e_Ok.run (t' := (75, [(0, (1, 275)), (1, (0, p1)), (2, (0, p2)), (3, (0, p3)), (4, (0, p4)), (5, (0, p5))], [(1, 275)], w24)) 1 rfl ?_
              refine e_Ok.getr (z := 313) rfl (el_o rfl) rfl rfl (by rw [← hw24]; exact (e_up_ne _ _ (Or.inl (by omega))).trans (by rw [← hw21]; exact (e_up_ne _ _ (Or.inl (by omega))).trans (by rw [← hw18]; exact (e_up_ne _ _ (Or.inl (by omega))).trans (e_Has.eq hT rfl)))) (by omega) ?_
              refine e_Ok.run (t' := (79, [(0, (1, 275)), (1, (0, p1)), (2, (0, p2)), (3, (0, p3)), (4, (0, p4)), (5, (0, p5))], [(1, 275), (1, 313)], w24)) 1 rfl ?_
              refine e_Ok.getf (z := w 275 42) rfl (el_o rfl) rfl rfl (by rw [← hw24]; exact (e_up_ne _ _ (Or.inl (by omega))).trans (by rw [← hw21]; exact (e_up_ne _ _ (Or.inl (by omega))).trans (by rw [← hw18]; exact (e_up_ne _ _ (Or.inl (by omega))).trans rfl))) (by omega) ?_
              refine e_Ok.run (t' := (84, [(0, (1, 275)), (1, (0, p1)), (2, (0, p2)), (3, (0, p3)), (4, (0, p4)), (5, (0, p5))], [(0, p4), (0, w 275 42), (1, 313)], w24)) 1 rfl ?_
              refine e_Ok.ast rfl (el_o rfl) rfl rfl (by omega) ?_
              generalize hw27 : e_up w24 313 (w 275 42) p4 = w27
              have f28 : e_fr (mF 42 310 315) w w27 := e_fr.up f25 hw27 (by unfold mF; omega)
              have hT29 : e_Has mTy w27 := e_Has.upr hT26 hw27 rfl (by omega)
              refine e_Ok.run (t' := (86, [(0, (1, 275)), (1, (0, p1)), (2, (0, p2)), (3, (0, p3)), (4, (0, p4)), (5, (0, p5))], [(1, 275)], w27)) 1 rfl ?_
              refine e_Ok.getr (z := 314) rfl (el_o rfl) rfl rfl (by rw [← hw27]; exact (e_up_ne _ _ (Or.inl (by omega))).trans (by rw [← hw24]; exact (e_up_ne _ _ (Or.inl (by omega))).trans (by rw [← hw21]; exact (e_up_ne _ _ (Or.inl (by omega))).trans (by rw [← hw18]; exact (e_up_ne _ _ (Or.inl (by omega))).trans (e_Has.eq hT rfl))))) (by omega) ?_
              refine e_Ok.run (t' := (90, [(0, (1, 275)), (1, (0, p1)), (2, (0, p2)), (3, (0, p3)), (4, (0, p4)), (5, (0, p5))], [(1, 275), (1, 314)], w27)) 1 rfl ?_
              refine e_Ok.getf (z := w 275 42) rfl (el_o rfl) rfl rfl (by rw [← hw27]; exact (e_up_ne _ _ (Or.inl (by omega))).trans (by rw [← hw24]; exact (e_up_ne _ _ (Or.inl (by omega))).trans (by rw [← hw21]; exact (e_up_ne _ _ (Or.inl (by omega))).trans (by rw [← hw18]; exact (e_up_ne _ _ (Or.inl (by omega))).trans rfl)))) (by omega) ?_
              refine e_Ok.run (t' := (95, [(0, (1, 275)), (1, (0, p1)), (2, (0, p2)), (3, (0, p3)), (4, (0, p4)), (5, (0, p5))], [(0, p5), (0, w 275 42), (1, 314)], w27)) 1 rfl ?_
              refine e_Ok.ast rfl (el_o rfl) rfl rfl (by omega) ?_
              generalize hw30 : e_up w27 314 (w 275 42) p5 = w30
              have f31 : e_fr (mF 42 310 315) w w30 := e_fr.up f28 hw30 (by unfold mF; omega)
              have hT32 : e_Has mTy w30 := e_Has.upr hT29 hw30 rfl (by omega)
              refine e_Ok.run (t' := (97, [(0, (1, 275)), (1, (0, p1)), (2, (0, p2)), (3, (0, p3)), (4, (0, p4)), (5, (0, p5))], [(1, 275)], w30)) 1 rfl ?_
              refine e_Ok.getr (z := 315) rfl (el_o rfl) rfl rfl (by rw [← hw30]; exact (e_up_ne _ _ (Or.inl (by omega))).trans (by rw [← hw27]; exact (e_up_ne _ _ (Or.inl (by omega))).trans (by rw [← hw24]; exact (e_up_ne _ _ (Or.inl (by omega))).trans (by rw [← hw21]; exact (e_up_ne _ _ (Or.inl (by omega))).trans (by rw [← hw18]; exact (e_up_ne _ _ (Or.inl (by omega))).trans (e_Has.eq hT rfl)))))) (by omega) ?_
              refine e_Ok.run (t' := (101, [(0, (1, 275)), (1, (0, p1)), (2, (0, p2)), (3, (0, p3)), (4, (0, p4)), (5, (0, p5))], [(1, 275), (1, 315)], w30)) 1 rfl ?_
              refine e_Ok.getf (z := w 275 42) rfl (el_o rfl) rfl rfl (by rw [← hw30]; exact (e_up_ne _ _ (Or.inl (by omega))).trans (by rw [← hw27]; exact (e_up_ne _ _ (Or.inl (by omega))).trans (by rw [← hw24]; exact (e_up_ne _ _ (Or.inl (by omega))).trans (by rw [← hw21]; exact (e_up_ne _ _ (Or.inl (by omega))).trans (by rw [← hw18]; exact (e_up_ne _ _ (Or.inl (by omega))).trans rfl))))) (by omega) ?_
              refine e_Ok.run (t' := (105, [(0, (1, 275)), (1, (0, p1)), (2, (0, p2)), (3, (0, p3)), (4, (0, p4)), (5, (0, p5))], [(0, (-1)), (0, w 275 42), (1, 315)], w30)) 1 rfl ?_
              refine e_Ok.ast rfl (el_o rfl) rfl rfl (by omega) ?_
              generalize hw33 : e_up w30 315 (w 275 42) (-1) = w33
              have f34 : e_fr (mF 42 310 315) w w33 := e_fr.up f31 hw33 (by unfold mF; omega)
              have hT35 : e_Has mTy w33 := e_Has.upr hT32 hw33 rfl (by omega)
              refine e_Ok.run (t' := (108, [(0, (1, 275)), (1, (0, p1)), (2, (0, p2)), (3, (0, p3)), (4, (0, p4)), (5, (0, p5))], [(1, 275), (1, 275)], w33)) 2 rfl ?_
              refine e_Ok.getf (z := w 275 42) rfl (el_o rfl) rfl rfl (by rw [← hw33]; exact (e_up_ne _ _ (Or.inl (by omega))).trans (by rw [← hw30]; exact (e_up_ne _ _ (Or.inl (by omega))).trans (by rw [← hw27]; exact (e_up_ne _ _ (Or.inl (by omega))).trans (by rw [← hw24]; exact (e_up_ne _ _ (Or.inl (by omega))).trans (by rw [← hw21]; exact (e_up_ne _ _ (Or.inl (by omega))).trans (by rw [← hw18]; exact (e_up_ne _ _ (Or.inl (by omega))).trans rfl)))))) (by omega) ?_
              refine e_Ok.run (t' := (112, [(0, (1, 275)), (1, (0, p1)), (2, (0, p2)), (3, (0, p3)), (4, (0, p4)), (5, (0, p5))], [(0, 1), (0, w 275 42), (1, 275)], w33)) 1 rfl ?_
              refine e_Ok.add (z := w 275 42 + 1) rfl (by omega) (by omega) ?_
              refine e_Ok.putf rfl (el_o rfl) rfl rfl ?_
              generalize hw36 : e_up w33 275 42 (w 275 42 + 1) = w36
              have f37 : e_fr (mF 42 310 315) w w36 := e_fr.up f34 hw36 (by unfold mF; omega)
              have hT38 : e_Has mTy w36 := e_Has.upr hT35 hw36 rfl (by omega)
              refine e_Ok.run (t' := (117, [(0, (1, 275)), (1, (0, p1)), (2, (0, p2)), (3, (0, p3)), (4, (0, p4)), (5, (0, p5))], [(1, 275)], w36)) 1 rfl ?_
              refine e_Ok.getf (z := w 275 42 + 1) rfl (el_o rfl) rfl rfl (by rw [← hw36]; exact e_up_eq _ _ _ _) (by omega) ?_
              refine e_Ok.run (t' := (121, [(0, (1, 275)), (1, (0, p1)), (2, (0, p2)), (3, (0, p3)), (4, (0, p4)), (5, (0, p5))], [(0, 1), (0, w 275 42 + 1)], w36)) 1 rfl ?_
              refine e_Ok.sub' (z := w 275 42) rfl (by omega) (by omega) ?_
              refine e_Ok.rets rfl rfl ?_
              exact ⟨_, rfl, f37, hT38, trivial⟩
            · replace h17 : (w 275 42 : Int) = 8 := by have q : ¬ ((w 275 42 : Int) ≠ 8) := h17; omega
              refine e_Ok.run (t' := (43, [(0, (1, 275)), (1, (0, p1)), (2, (0, p2)), (3, (0, p3)), (4, (0, p4)), (5, (0, p5))], [(0, (-3))], w)) 1 rfl ?_
              refine e_Ok.rets rfl rfl ?_
              exact ⟨_, rfl, (e_fr.refl w), hT, trivial⟩
          · replace h15 : (w 275 3 : Int) ≠ 0 := by have q : ¬ ((w 275 3 : Int) = 0) := h15; omega
            refine e_Ok.run (t' := (31, [(0, (1, 275)), (1, (0, p1)), (2, (0, p2)), (3, (0, p3)), (4, (0, p4)), (5, (0, p5))], [(0, (-2))], w)) 1 rfl ?_
            refine e_Ok.rets rfl rfl ?_
            exact ⟨_, rfl, (e_fr.refl w), hT, trivial⟩
        · replace h13 : (1 : Int) = 0 := by have q : ¬ ((1 : Int) ≠ 0) := h13; omega
          exfalso; omega
      · show e_Ok 20 elay ecode eI (d + 1) 291 (17, [(0, (1, 275)), (1, (0, p1)), (2, (0, p2)), (3, (0, p3)), (4, (0, p4)), (5, (0, p5))], [(0, 0)], w) _
        refine e_Ok.if1 rfl (fun h39 => ?_) (fun h39 => ?_)
        · replace h39 : (0 : Int) ≠ 0 := h39
          exfalso; omega
        · replace h39 : (0 : Int) = 0 := by have q : ¬ ((0 : Int) ≠ 0) := h39; omega
          refine e_Ok.run (t' := (21, [(0, (1, 275)), (1, (0, p1)), (2, (0, p2)), (3, (0, p3)), (4, (0, p4)), (5, (0, p5))], [(0, (-1))], w)) 1 rfl ?_
          refine e_Ok.rets rfl rfl ?_
          exact ⟨_, rfl, (e_fr.refl w), hT, trivial⟩
  · show e_Ok 20 elay ecode eI (d + 1) 291 (5, [(0, (1, 275)), (1, (0, p1)), (2, (0, p2)), (3, (0, p3)), (4, (0, p4)), (5, (0, p5))], [(0, 0)], w) _
    refine e_Ok.if1 rfl (fun h40 => ?_) (fun h40 => ?_)
    · replace h40 : (0 : Int) = 0 := h40
      refine e_Ok.run (t' := (21, [(0, (1, 275)), (1, (0, p1)), (2, (0, p2)), (3, (0, p3)), (4, (0, p4)), (5, (0, p5))], [(0, (-1))], w)) 1 rfl ?_
      refine e_Ok.rets rfl rfl ?_
      exact ⟨_, rfl, (e_fr.refl w), hT, trivial⟩
    · replace h40 : (0 : Int) ≠ 0 := by have q : ¬ ((0 : Int) = 0) := h40; omega
      exfalso; omega
theorem c_292 {d : Nat} (hd : 23 ≤ d) {w : eW} (hT : e_Has mTy w) {p1 p2 : Int} (g1 : (-2147483648) ≤ p1 ∧ p1 ≤ 2147483647) (g2 : (-2147483648) ≤ p2 ∧ p2 ≤ 2147483647) : e_Ok 20 elay ecode eI d 292 (0, [(0, (1, 275)), (1, (0, p1)), (2, (0, p2))], [], w) (fun r w' => ∃ z : Int, r = [(0, z)] ∧ e_fr (mF (-1) 315 315) w w' ∧ e_Has mTy w' ∧ True) := by
  obtain ⟨d, rfl⟩ : ∃ e, d = e + 1 := ⟨d - 1, by omega⟩
  refine e_Ok.run (t' := (4, [(0, (1, 275)), (1, (0, p1)), (2, (0, p2))], [(1, 275), (4, 0), (4, p1)], w)) 4 rfl ?_
  have h1 := (e_Has.get hT (c := 275) (k := 42) (lo := 0) (hi := 8) rfl (by decide))
  refine e_Ok.getf (z := w 275 42) rfl (el_o rfl) rfl rfl rfl (by omega) ?_
  refine e_Ok.run (t' := (8, [(0, (1, 275)), (1, (0, p1)), (2, (0, p2))], [(0, 1), (0, w 275 42), (4, 0), (4, p1)], w)) 1 rfl ?_
  refine e_Ok.sub' (z := w 275 42 - 1) rfl (by omega) (by omega) ?_
  refine e_Ok.run (t' := (10, [(0, (1, 275)), (1, (0, p1)), (2, (0, p2))], [(4, w 275 42 - 1), (4, 0), (4, p1)], w)) 1 rfl ?_
  refine e_Ok.callS rfl (by omega) rfl rfl (c_266) (fun r2 w3 h4 => ?_)
  obtain ⟨z5, rfl, rfl, q6⟩ := h4
  obtain ⟨rfl, q6⟩ | ⟨rfl, q6⟩ := q6
  · show e_Ok 20 elay ecode eI (d + 1) 292 (13, [(0, (1, 275)), (1, (0, p1)), (2, (0, p2))], [(0, 1)], w) _
    refine e_Ok.if1 rfl (fun h7 => ?_) (fun h7 => ?_)
    · replace h7 : (1 : Int) = 0 := h7
      exfalso; omega
    · replace h7 : (1 : Int) ≠ 0 := by have q : ¬ ((1 : Int) = 0) := h7; omega
      refine e_Ok.run (t' := (24, [(0, (1, 275)), (1, (0, p1)), (2, (0, p2))], [(4, 32000), (4, (-1)), (4, p2)], w)) 4 rfl ?_
      refine e_Ok.callS rfl (by omega) rfl rfl (c_266) (fun r8 w9 h10 => ?_)
      obtain ⟨z11, rfl, rfl, q12⟩ := h10
      obtain ⟨rfl, q12⟩ | ⟨rfl, q12⟩ := q12
      · show e_Ok 20 elay ecode eI (d + 1) 292 (27, [(0, (1, 275)), (1, (0, p1)), (2, (0, p2))], [(0, 1)], w) _
        refine e_Ok.if1 rfl (fun h13 => ?_) (fun h13 => ?_)
        · replace h13 : (1 : Int) ≠ 0 := h13
          refine e_Ok.run (t' := (33, [(0, (1, 275)), (1, (0, p1)), (2, (0, p2))], [(1, 275)], w)) 1 rfl ?_
          have h14 := (e_Has.get hT (c := 275) (k := 3) (lo := 0) (hi := 1) rfl (by decide))
          refine e_Ok.getf (z := w 275 3) rfl (el_o rfl) rfl rfl rfl (by omega) ?_
          refine e_Ok.if1 rfl (fun h15 => ?_) (fun h15 => ?_)
          · replace h15 : (w 275 3 : Int) = 0 := h15
            refine e_Ok.run (t' := (43, [(0, (1, 275)), (1, (0, p1)), (2, (0, p2))], [(1, 275)], w)) 1 rfl ?_
            refine e_Ok.getr (z := 315) rfl (el_o rfl) rfl rfl (e_Has.eq hT rfl) (by omega) ?_
            refine e_Ok.run (t' := (47, [(0, (1, 275)), (1, (0, p1)), (2, (0, p2))], [(0, p1), (1, 315)], w)) 1 rfl ?_
            have h16 := (e_Has.get hT (c := 315) (k := p1) (lo := (-2147483648)) (hi := 2147483647) rfl (by decide))
            refine e_Ok.ald (z := w 315 p1) rfl (el_o rfl) rfl (by omega) rfl (by omega) ?_
            refine e_Ok.run (t' := (50, [(3, (0, w 315 p1)), (0, (1, 275)), (1, (0, p1)), (2, (0, p2))], [(1, 275)], w)) 2 rfl ?_
            refine e_Ok.getr (z := 315) rfl (el_o rfl) rfl rfl (e_Has.eq hT rfl) (by omega) ?_
            refine e_Ok.run (t' := (55, [(3, (0, w 315 p1)), (0, (1, 275)), (1, (0, p1)), (2, (0, p2))], [(0, p2), (0, p1), (1, 315)], w)) 2 rfl ?_
            refine e_Ok.ast rfl (el_o rfl) rfl rfl (by omega) ?_
            generalize hw17 : e_up w 315 p1 p2 = w17
            have f18 : e_fr (mF (-1) 315 315) w w17 := e_fr.up (e_fr.refl w) hw17 (by unfold mF; omega)
            have hT19 : e_Has mTy w17 := e_Has.upr hT hw17 rfl (by omega)
            refine e_Ok.run (t' := (57, [(3, (0, w 315 p1)), (0, (1, 275)), (1, (0, p1)), (2, (0, p2))], [(0, w 315 p1)], w17)) 1 rfl ?_
            refine e_Ok.rets rfl rfl ?_
            exact ⟨_, rfl, f18, hT19, trivial⟩
          · replace h15 : (w 275 3 : Int) ≠ 0 := by have q : ¬ ((w 275 3 : Int) = 0) := h15; omega
            refine e_Ok.run (t' := (41, [(0, (1, 275)), (1, (0, p1)), (2, (0, p2))], [(0, (-2))], w)) 1 rfl ?_
            refine e_Ok.rets rfl rfl ?_
            exact ⟨_, rfl, (e_fr.refl w), hT, trivial⟩
        · replace h13 : (1 : Int) = 0 := by have q : ¬ ((1 : Int) ≠ 0) := h13; omega
          exfalso; omega
      · show e_Ok 20 elay ecode eI (d + 1) 292 (27, [(0, (1, 275)), (1, (0, p1)), (2, (0, p2))], [(0, 0)], w) _
        refine e_Ok.if1 rfl (fun h20 => ?_) (fun h20 => ?_)
        · replace h20 : (0 : Int) ≠ 0 := h20
          exfalso; omega
        · replace h20 : (0 : Int) = 0 := by have q : ¬ ((0 : Int) ≠ 0) := h20; omega
          refine e_Ok.run (t' := (31, [(0, (1, 275)), (1, (0, p1)), (2, (0, p2))], [(0, (-1))], w)) 1 rfl ?_
          refine e_Ok.rets rfl rfl ?_
          exact ⟨_, rfl, (e_fr.refl w), hT, trivial⟩
  · show e_Ok 20 elay ecode eI (d + 1) 292 (13, [(0, (1, 275)), (1, (0, p1)), (2, (0, p2))], [(0, 0)], w) _
    refine e_Ok.if1 rfl (fun h21 => ?_) (fun h21 => ?_)
    · replace h21 : (0 : Int) = 0 := h21
      refine e_Ok.run (t' := (31, [(0, (1, 275)), (1, (0, p1)), (2, (0, p2))], [(0, (-1))], w)) 1 rfl ?_
      refine e_Ok.rets rfl rfl ?_
      exact ⟨_, rfl, (e_fr.refl w), hT, trivial⟩
    · replace h21 : (0 : Int) ≠ 0 := by have q : ¬ ((0 : Int) = 0) := h21; omega
      exfalso; omega
theorem c_293 {d : Nat} (hd : 23 ≤ d) {w : eW} (hT : e_Has mTy w) {p1 : Int} (g1 : (-2147483648) ≤ p1 ∧ p1 ≤ 2147483647) : e_Ok 20 elay ecode eI d 293 (0, [(0, (1, 275)), (1, (0, p1))], [], w) (fun r w' => ∃ z : Int, r = [(0, z)] ∧ e_fr (mF 49 316 316) w w' ∧ e_Has mTy w' ∧ True) := by
  obtain ⟨d, rfl⟩ : ∃ e, d = e + 1 := ⟨d - 1, by omega⟩
  refine e_Ok.run (t' := (6, [(0, (1, 275)), (1, (0, p1))], [(4, 1000), (4, 0), (4, p1)], w)) 4 rfl ?_
  refine e_Ok.callS rfl (by omega) rfl rfl (c_266) (fun r1 w2 h3 => ?_)
  obtain ⟨z4, rfl, rfl, q5⟩ := h3
  obtain ⟨rfl, q5⟩ | ⟨rfl, q5⟩ := q5
  · show e_Ok 20 elay ecode eI (d + 1) 293 (9, [(0, (1, 275)), (1, (0, p1))], [(0, 1)], w) _
    refine e_Ok.if1 rfl (fun h6 => ?_) (fun h6 => ?_)
    · replace h6 : (1 : Int) ≠ 0 := h6
      refine e_Ok.run (t' := (15, [(0, (1, 275)), (1, (0, p1))], [(1, 275)], w)) 1 rfl ?_
      have h7 := (e_Has.get hT (c := 275) (k := 3) (lo := 0) (hi := 1) rfl (by decide))
      refine e_Ok.getf (z := w 275 3) rfl (el_o rfl) rfl rfl rfl (by omega) ?_
      refine e_Ok.if1 rfl (fun h8 => ?_) (fun h8 => ?_)
      · replace h8 : (w 275 3 : Int) = 0 := h8
        refine e_Ok.run (t' := (25, [(0, (1, 275)), (1, (0, p1))], [(1, 275)], w)) 1 rfl ?_
        have h9 := (e_Has.get hT (c := 275) (k := 49) (lo := 0) (hi := 8) rfl (by decide))
        refine e_Ok.getf (z := w 275 49) rfl (el_o rfl) rfl rfl rfl (by omega) ?_
        refine e_Ok.run (t' := (30, [(0, (1, 275)), (1, (0, p1))], [(0, 8), (0, w 275 49)], w)) 1 rfl ?_
        refine e_Ok.if2 rfl (fun h10 => ?_) (fun h10 => ?_)
        · replace h10 : (w 275 49 : Int) ≠ 8 := h10
          refine e_Ok.run (t' := (37, [(0, (1, 275)), (1, (0, p1))], [(1, 275)], w)) 1 rfl ?_
          refine e_Ok.getr (z := 316) rfl (el_o rfl) rfl rfl (e_Has.eq hT rfl) (by omega) ?_
          refine e_Ok.run (t' := (41, [(0, (1, 275)), (1, (0, p1))], [(1, 275), (1, 316)], w)) 1 rfl ?_
          refine e_Ok.getf (z := w 275 49) rfl (el_o rfl) rfl rfl rfl (by omega) ?_
          refine e_Ok.run (t' := (45, [(0, (1, 275)), (1, (0, p1))], [(0, p1), (0, w 275 49), (1, 316)], w)) 1 rfl ?_
          refine e_Ok.ast rfl (el_o rfl) rfl rfl (by omega) ?_
          generalize hw11 : e_up w 316 (w 275 49) p1 = w11
          have f12 : e_fr (mF 49 316 316) w w11 := e_fr.up (e_fr.refl w) hw11 (by unfold mF; omega)
          have hT13 : e_Has mTy w11 := e_Has.upr hT hw11 rfl (by omega)
          refine e_Ok.run (t' := (48, [(0, (1, 275)), (1, (0, p1))], [(1, 275), (1, 275)], w11)) 2 rfl ?_
          refine e_Ok.getf (z := w 275 49) rfl (el_o rfl) rfl rfl (by rw [← hw11]; exact (e_up_ne _ _ (Or.inl (by omega))).trans rfl) (by omega) ?_
          refine e_Ok.run (t' := (52, [(0, (1, 275)), (1, (0, p1))], [(0, 1), (0, w 275 49), (1, 275)], w11)) 1 rfl ?_
          refine e_Ok.add (z := w 275 49 + 1) rfl (by omega) (by omega) ?_
          refine e_Ok.putf rfl (el_o rfl) rfl rfl ?_
          generalize hw14 : e_up w11 275 49 (w 275 49 + 1) = w14
          have f15 : e_fr (mF 49 316 316) w w14 := e_fr.up f12 hw14 (by unfold mF; omega)
          have hT16 : e_Has mTy w14 := e_Has.upr hT13 hw14 rfl (by omega)
          refine e_Ok.run (t' := (57, [(0, (1, 275)), (1, (0, p1))], [(1, 275)], w14)) 1 rfl ?_
          refine e_Ok.getf (z := w 275 49 + 1) rfl (el_o rfl) rfl rfl (by rw [← hw14]; exact e_up_eq _ _ _ _) (by omega) ?_
          refine e_Ok.run (t' := (61, [(0, (1, 275)), (1, (0, p1))], [(0, 1), (0, w 275 49 + 1)], w14)) 1 rfl ?_
          refine e_Ok.sub' (z := w 275 49) rfl (by omega) (by omega) ?_
          refine e_Ok.rets rfl rfl ?_
          exact ⟨_, rfl, f15, hT16, trivial⟩
        · replace h10 : (w 275 49 : Int) = 8 := by have q : ¬ ((w 275 49 : Int) ≠ 8) := h10; omega
          refine e_Ok.run (t' := (35, [(0, (1, 275)), (1, (0, p1))], [(0, (-3))], w)) 1 rfl ?_
          refine e_Ok.rets rfl rfl ?_
          exact ⟨_, rfl, (e_fr.refl w), hT, trivial⟩
      · replace h8 : (w 275 3 : Int) ≠ 0 := by have q : ¬ ((w 275 3 : Int) = 0) := h8; omega
        refine e_Ok.run (t' := (23, [(0, (1, 275)), (1, (0, p1))], [(0, (-2))], w)) 1 rfl ?_
        refine e_Ok.rets rfl rfl ?_
        exact ⟨_, rfl, (e_fr.refl w), hT, trivial⟩
    · replace h6 : (1 : Int) = 0 := by have q : ¬ ((1 : Int) ≠ 0) := h6; omega
      exfalso; omega
  · show e_Ok 20 elay ecode eI (d + 1) 293 (9, [(0, (1, 275)), (1, (0, p1))], [(0, 0)], w) _
    refine e_Ok.if1 rfl (fun h17 => ?_) (fun h17 => ?_)
    · replace h17 : (0 : Int) ≠ 0 := h17
      exfalso; omega
    · replace h17 : (0 : Int) = 0 := by have q : ¬ ((0 : Int) ≠ 0) := h17; omega
      refine e_Ok.run (t' := (13, [(0, (1, 275)), (1, (0, p1))], [(0, (-1))], w)) 1 rfl ?_
      refine e_Ok.rets rfl rfl ?_
      exact ⟨_, rfl, (e_fr.refl w), hT, trivial⟩
theorem c_294 {d : Nat} (hd : 23 ≤ d) {w : eW} (hT : e_Has mTy w) {p1 p2 : Int} (g1 : (-2147483648) ≤ p1 ∧ p1 ≤ 2147483647) (g2 : 0 ≤ p2 ∧ p2 ≤ 1) : e_Ok 20 elay ecode eI d 294 (0, [(0, (1, 275)), (1, (0, p1)), (2, (0, p2))], [], w) (fun r w' => ∃ z : Int, r = [(0, z)] ∧ e_fr (mF (-1) 317 317) w w' ∧ e_Has mTy w' ∧ True) := by
  obtain ⟨d, rfl⟩ : ∃ e, d = e + 1 := ⟨d - 1, by omega⟩
  refine e_Ok.run (t' := (6, [(0, (1, 275)), (1, (0, p1)), (2, (0, p2))], [(4, 7), (4, 0), (4, p1)], w)) 4 rfl ?_
  refine e_Ok.callS rfl (by omega) rfl rfl (c_266) (fun r1 w2 h3 => ?_)
  obtain ⟨z4, rfl, rfl, q5⟩ := h3
  obtain ⟨rfl, q5⟩ | ⟨rfl, q5⟩ := q5
  · show e_Ok 20 elay ecode eI (d + 1) 294 (9, [(0, (1, 275)), (1, (0, p1)), (2, (0, p2))], [(0, 1)], w) _
    refine e_Ok.if1 rfl (fun h6 => ?_) (fun h6 => ?_)
    · replace h6 : (1 : Int) ≠ 0 := h6
      refine e_Ok.run (t' := (15, [(0, (1, 275)), (1, (0, p1)), (2, (0, p2))], [(1, 275)], w)) 1 rfl ?_
      have h7 := (e_Has.get hT (c := 275) (k := 3) (lo := 0) (hi := 1) rfl (by decide))
      refine e_Ok.getf (z := w 275 3) rfl (el_o rfl) rfl rfl rfl (by omega) ?_
      refine e_Ok.if1 rfl (fun h8 => ?_) (fun h8 => ?_)
      · replace h8 : (w 275 3 : Int) = 0 := h8
        refine e_Ok.run (t' := (25, [(0, (1, 275)), (1, (0, p1)), (2, (0, p2))], [(1, 275)], w)) 1 rfl ?_
        refine e_Ok.getr (z := 317) rfl (el_o rfl) rfl rfl (e_Has.eq hT rfl) (by omega) ?_
        refine e_Ok.run (t' := (30, [(0, (1, 275)), (1, (0, p1)), (2, (0, p2))], [(0, p2), (0, p1), (1, 317)], w)) 2 rfl ?_
        refine e_Ok.ast rfl (el_o rfl) rfl (e_nar_b (by omega)) (by omega) ?_
        generalize hw9 : e_up w 317 p1 p2 = w9
        have f10 : e_fr (mF (-1) 317 317) w w9 := e_fr.up (e_fr.refl w) hw9 (by unfold mF; omega)
        have hT11 : e_Has mTy w9 := e_Has.upr hT hw9 rfl (by omega)
        refine e_Ok.run (t' := (32, [(0, (1, 275)), (1, (0, p1)), (2, (0, p2))], [(0, 0)], w9)) 1 rfl ?_
        refine e_Ok.rets rfl rfl ?_
        exact ⟨_, rfl, f10, hT11, trivial⟩
      · replace h8 : (w 275 3 : Int) ≠ 0 := by have q : ¬ ((w 275 3 : Int) = 0) := h8; omega
        refine e_Ok.run (t' := (23, [(0, (1, 275)), (1, (0, p1)), (2, (0, p2))], [(0, (-2))], w)) 1 rfl ?_
        refine e_Ok.rets rfl rfl ?_
        exact ⟨_, rfl, (e_fr.refl w), hT, trivial⟩
    · replace h6 : (1 : Int) = 0 := by have q : ¬ ((1 : Int) ≠ 0) := h6; omega
      exfalso; omega
  · show e_Ok 20 elay ecode eI (d + 1) 294 (9, [(0, (1, 275)), (1, (0, p1)), (2, (0, p2))], [(0, 0)], w) _
    refine e_Ok.if1 rfl (fun h12 => ?_) (fun h12 => ?_)
    · replace h12 : (0 : Int) ≠ 0 := h12
      exfalso; omega
    · replace h12 : (0 : Int) = 0 := by have q : ¬ ((0 : Int) ≠ 0) := h12; omega
      refine e_Ok.run (t' := (13, [(0, (1, 275)), (1, (0, p1)), (2, (0, p2))], [(0, (-1))], w)) 1 rfl ?_
      refine e_Ok.rets rfl rfl ?_
      exact ⟨_, rfl, (e_fr.refl w), hT, trivial⟩
end
